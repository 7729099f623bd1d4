/-! tables that hold, by program -/
set_option maxRecDepth 100000 in
theorem k_fld : rFld.all (fun e => (e.2.1 == 100 && (match rStrF[e.2.2]? with
  | some q => rB (.fieldLink (rOn e.1.1) e.1.2 "java/lang/String" q.1 q.2)
  | none => false)) || (decide (e.2.1 < 6) && decide (e.2.2 < rNf e.2.1) && rB (.fieldLink (rOn e.1.1) e.1.2 (rTk e.2.1 e.2.2).1 (rTk e.2.1 e.2.2).2.1 (rTk e.2.1 e.2.2).2.2.1))) = true := by decide +kernel
set_option maxRecDepth 100000 in
theorem k_cst : rCst.all (fun e => rB (.constant (rOn e.1.1) e.1.2 e.2)) = true := by decide +kernel
set_option maxRecDepth 100000 in
theorem k_lng : rLng.all (fun e => rB (.constantLong (rOn e.1.1) e.1.2 e.2)) = true := by decide +kernel
set_option maxRecDepth 100000 in
theorem k_sta : rSta.all (fun e => match rStaN[e.2]? with
  | some q => rB (.fieldLink (rOn e.1.1) e.1.2 q.1 q.2.1 q.2.2)
  | none => false) = true := by decide +kernel
set_option maxRecDepth 100000 in
theorem k_str : rStr.all (fun e => match rStrN[e.2]? with
  | some q => q.1 == rOn e.1.1 && q.2.1 == e.1.2
  | none => false) = true := by decide +kernel
set_option maxRecDepth 100000 in
theorem k_clsw : vwCl.all (fun q => (u_ws q.1 q.2.1 q.2.2).all rB) = true := by decide +kernel
theorem k_clsn : ∀ q ∈ vwCl, (∀ k, k < q.2.2 → (parseFieldDescriptor (q.2.1 k).2.2.1).isSome = true) ∧ (∀ a, a < q.2.2 → ∀ b, b < q.2.2 → a ≠ b → (q.2.1 a).2.1 ≠ (q.2.1 b).2.1) ∧ ∀ k, k < q.2.2 → (q.2.1 k).1 = q.1 := by decide +kernel
set_option maxRecDepth 100000 in
theorem k_cls : rCls.all (fun e => match vwCl[e.2.1]? with
  | some q => e.2.2.1 == q.2.2 && rB (.classLink (rOn e.1.1) e.1.2 q.1) && rB (.instantiable q.1 q.2.2) && rB (.initialized q.1) && (List.range q.2.2).all (fun j => decide ((parseFieldDescriptor (q.2.1 j).2.2.1).map defaultValue = some (vp_V e.2.2.2 j)))
  | none => false) = true := by decide +kernel
set_option maxRecDepth 100000 in
theorem k_arr : (rB (.arrayClass .int) && rB (.arrayClass .byte) && rB (.arrayClass .long) && rB (.classLink (rOn 4) 33 "BackAvenue$Sheet")) = true := by decide +kernel
theorem k_own : ∀ ci, ci < 6 → ∀ q, vwCl[ci]? = some q → rOwn[ci]? = some q.1 := by
  intro ci h q hq
  match ci, h, hq with
  | 0, _, hq => cases hq; rfl
  | 1, _, hq => cases hq; rfl
  | 2, _, hq => cases hq; rfl
  | 3, _, hq => cases hq; rfl
  | 4, _, hq => cases hq; rfl
  | 5, _, hq => cases hq; rfl
theorem k_lt {ci : Nat} (h : ci < 6) : ∃ q, vwCl[ci]? = some q := by
  match ci, h with
  | 0, _ => exact ⟨_, rfl⟩
  | 1, _ => exact ⟨_, rfl⟩
  | 2, _ => exact ⟨_, rfl⟩
  | 3, _ => exact ⟨_, rfl⟩
  | 4, _ => exact ⟨_, rfl⟩
  | 5, _ => exact ⟨_, rfl⟩
theorem k_ws {q : vw_C} (h : q ∈ vwCl) : ∀ w ∈ u_ws q.1 q.2.1 q.2.2, w ∈ tb := fun w hw => rB_in (List.all_eq_true.mp (List.all_eq_true.mp k_clsw q h) w hw)
theorem rCell_i (cA : ClassId) (n k : Nat) (g : Nat → Int32) (x : Int32) : (vp_cell cA (n, .inl g)).setSlot k (.int x) = vp_cell cA (n, .inl (upd g k x)) := by
  rw [vp_cell_i, vp_cell_i, arrV_store]
  congr 1
  funext q
  by_cases hq : q = k <;> simp [updV, upd, hq]
theorem rCell_l (cA : ClassId) (n k : Nat) (g : Nat → Int64) (x : Int64) : (vp_cell cA (n, .inr (.inl g))).setSlot k (.long x) = vp_cell cA (n, .inr (.inl (vp_updL g k x))) := by
  rw [vp_cell_l, vp_cell_l, arrV_store]
  congr 1
  funext q
  by_cases hq : q = k <;> simp [updV, vp_updL, hq]
theorem rCell_q (cA : ClassId) (n k : Nat) (g : Nat → Option Nat) (x : Nat) : (vp_cell cA (n, .inr (.inr (.inr (.inr g))))).setSlot k (.ref x) = vp_cell cA (n, .inr (.inr (.inr (.inr (va_up g k (some x)))))) := by
  rw [vp_cell_q, vp_cell_q, arrV_store]
  congr 1
  funext q
  by_cases hq : q = k <;> simp [updV, va_up, hq, va_rf]
theorem rNar_b (x : Int32) : narrow .byte (.int x) = .int (vp_nar .byte x) := by
  first | rfl | simp [narrow, vp_nar]
section RR
variable {p : Program} {l : Launch} {e : Env} {Rm : Room} {s : State} {m : MethodId} {args : Array Value} {below : List Frame} {meth : Method} {c : Code} {H : Heap} {locs : List Loc} {cells slots : Nat} {Qf : State → Prop}
variable {cc : ByteArray} {pc : Nat} {ls : Array Slot} {rest : List Value} {Γ : rG} {w : rW} {a : Nat} {own : String} {oc : Nat}
theorem r_getf (hx : p.tables.exec = Jvm.exec) (hb : c.code = cc) (hts : ∀ w ∈ tb, w.before args s = true) (hown : s.vm.findClass (rOn oc) = some m.cls) (hst : rSt Γ s s.heap) (hS : va_S (rA Γ) s.heap H locs) (hW : rWd Γ w s H) {idx ci k : Nat} {v : Value} (hf : rFld.lookup (oc, idx) = some (ci, k)) (hv : rF w a ci k = some v) (hdg : decode cc pc = .ok (.getfield idx, 3))
    (kk : W p l e Rm s m args below meth c H locs cells slots Qf (F0 m (pc + 3) ls (v :: rest))) : W p l e Rm s m args below meth c H locs cells slots Qf (F0 m pc ls (.ref a :: rest)) := by
  have hk := List.all_eq_true.mp k_fld _ (lk_mem hf)
  unfold rF at hv
  split at hv
  · rename_i d fs hd
    split at hv
    · rename_i hc
      subst hc
      have hA := hW.2.2 a _ hd
      unfold rAt at hA
      dsimp only at hA hk
      by_cases h6 : d < 6
      · rw [if_pos h6] at hA
        obtain ⟨q, hq⟩ := k_lt h6
        have hne : (d == 100) = false := by simp; omega
        rw [hne] at hk
        simp only [Bool.false_and, Bool.false_or, Bool.and_eq_true, decide_eq_true_eq] at hk
        obtain ⟨⟨-, hk2⟩, hk3⟩ := hk
        have hkN : k < q.2.2 := by
          have : rNf d = q.2.2 := by simp [rNf, hq]
          rw [← this]; exact hk2
        have hT : rTk d k = q.2.1 k := by simp [rTk, hq]
        rw [hT] at hk3
        exact va_get (C := q.1) (T := q.2.1) (N := q.2.2) (ref := (q.2.1 k).1) hx hb hts (k_ws (List.mem_of_getElem? hq)) hown hst.1 (va_P1 hA.2) 0 rfl hq k hkN (hts _ (rB_in hk3)) (fun _ h9 => h9) hv hdg kk
      · rw [if_neg h6] at hA
        obtain ⟨h100, hO, hF⟩ := hA
        subst h100
        have hlt : (decide (100 < 6)) = false := by decide
        rw [hlt] at hk
        simp only [beq_self_eq_true, Bool.true_and, Bool.false_and, Bool.or_false] at hk
        split at hk
        · rename_i q hq
          have h0 := hF k v q hv hq
          obtain ⟨cf, k', fi, f, cell, h1, h2, h3, h4, h5, h6⟩ := h0
          exact W.getf hx hb hown (hts _ (rB_in hk)) h1 h2 h3 h4 (v := v) h5 rfl rfl hdg kk
        · cases hk
    · cases hv
  · cases hv
theorem r_putf (hx : p.tables.exec = Jvm.exec) (hb : c.code = cc) (hts : ∀ w ∈ tb, w.before args s = true) (hown : s.vm.findClass (rOn oc) = some m.cls) (hst : rSt Γ s s.heap) (hS : va_S (rA Γ) s.heap H locs) (hW : rWd Γ w s H) {ini : Bool} (hini : ini = true → meth.name = "<init>") {idx ci k : Nat} {v : Value} {ty : FieldType} {w' : rW} (hf : rFld.lookup (oc, idx) = some (ci, k)) (hty : parseFieldDescriptor (rTk ci k).2.2.1 = some ty) (hn : narrow ty v = v) (hfit : fits ty v = true) (hfin : (rTk ci k).2.2.2 = false ∨ ((rTk ci k).2.2.2 = true ∧ ini = true ∧ oc = ci)) (hv : rPf w a ci k v = some w') (hdg : decode cc pc = .ok (.putfield idx, 3))
    (kk : ∀ (H1 : Heap) (locs1 : List Loc), rWd Γ w' s H1 → va_S (rA Γ) s.heap H1 locs1 → W p l e Rm s m args below meth c H1 locs1 cells slots Qf (F0 m (pc + 3) ls rest)) : W p l e Rm s m args below meth c H locs cells slots Qf (F0 m pc ls (v :: .ref a :: rest)) := by
  have hk := List.all_eq_true.mp k_fld _ (lk_mem hf)
  unfold rPf at hv
  split at hv
  · rename_i d fs hd
    split at hv
    · rename_i hc
      obtain ⟨hc, h6, hkl⟩ := hc
      subst hc
      cases hv
      have hA := hW.2.2 a _ hd
      unfold rAt at hA
      dsimp only at hA hk
      rw [if_pos h6] at hA
      obtain ⟨q, hq⟩ := k_lt h6
      have hne : (d == 100) = false := by simp; omega
      rw [hne] at hk
      simp only [Bool.false_and, Bool.false_or, Bool.and_eq_true, decide_eq_true_eq] at hk
      obtain ⟨⟨-, hk2⟩, hk3⟩ := hk
      have hkN : k < q.2.2 := by
        have : rNf d = q.2.2 := by simp [rNf, hq]
        rw [← this]; exact hk2
      have hT : rTk d k = q.2.1 k := by simp [rTk, hq]
      rw [hT] at hk3 hty hfin
      have hmem := List.mem_of_getElem? hq
      have hin := k_ws hmem
      obtain ⟨hn1, hn2, hn3⟩ := k_clsn q hmem
      have hap := va_apart (own := rOn oc) hts hin (fun k => (parseFieldDescriptor (q.2.1 k).2.2.1).getD .int) (fun k hk => by
        have := hn1 k hk
        cases hz : parseFieldDescriptor (q.2.1 k).2.2.1 with
        | none => rw [hz] at this; cases this
        | some t => rfl) hn2 hst.1 hq
      obtain ⟨hbA, r, h1, cell, q1, q2, q3, q4⟩ := hA
      have hr : r = q := Option.some.inj (h1.symm.trans hq)
      subst hr
      obtain ⟨hSl, hfc, kC, hkC, hkind⟩ := hst.1.1 d _ hq
      obtain ⟨cf, kf, fi, f, hi, hsl⟩ := hSl k hkN
      have hst2 := (u_facts hfc hkC (u_lays hts hin hkN) hi).1
      have hlay := hts _ (hin _ (u_in_lay hkN))
      have hend : ∀ H' : Heap, H'[a]? = some (cell.setSlot f.slot v) → H'.size = H.size → (∀ q, q ≠ a → H'[q]? = H[q]?) → W p l e Rm s m args below meth c H' (locs ++ [⟨a, f.slot⟩]) cells slots Qf (F0 m (pc + 3) ls rest) := by
        intro H' e1 e2 e3
        rw [hsl] at e1
        refine kk H' _ (hW.upd e2 e3 hbA ?_) (hS.put e2 e3 hbA)
        unfold rAt
        dsimp only
        rw [if_pos h6]
        exact ⟨hbA, _, hq, t_OB.to (V := updV (vp_V fs) k v) ⟨_, e1, q2, q3, t_set q4 hap hkN v⟩ (fun j _ => vp_updV_set hkl v j)⟩
      unfold u_lay at hlay
      rcases hfin with hfin | ⟨hfin, hi1, hi2⟩
      · rw [if_neg (by rw [hfin]; decide)] at hlay
        have h7 := u_store hfc hkC hkind hlay hi hty hn hfit
        exact W.putK hx hb (f := f) ⟨hown, hts _ (rB_in hk3), ⟨_, _, _, hi⟩, hst2⟩ (by rw [q2]; exact h7) q1 q3 (by rw [hsl]; exact k2_hasslot (q4 k hkN)) rfl rfl hdg hend
      · rw [if_pos hfin] at hlay
        have hcf : m.cls = cf := by
          obtain ⟨_, _, c', _, _, _, -, -, hf', -, -, -, hown2, -⟩ := Cond.laysFinal_spec hlay
          have e1 : c' = cf := by have := hi.symm.trans hf'; simp at this; exact this.1.symm
          have hon : (r.2.1 k).1 = rOn oc := by
            rw [hn3 k hkN, hi2]
            have := k_own d h6 r hq
            simp [rOn, this]
          rw [hon] at hown2
          rw [← e1]; exact Option.some.inj (hown.symm.trans hown2)
        have h7 := u_fits hfc hkC hkind (Or.inr hlay) hi hty hn hfit
        exact W.putFinK hx hb hown (hts _ (rB_in hk3)) hi hst2 hcf (hini hi1) (by rw [q2]; exact h7) q1 q3 (by rw [hsl]; exact k2_hasslot (q4 k hkN)) rfl rfl hdg hend
    · cases hv
  · cases hv
end RR
