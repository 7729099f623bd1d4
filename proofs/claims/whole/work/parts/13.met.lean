theorem rLoA_map : ∀ as : List Value, rLoA as = (lg_sl as).map (fun x => match x with
  | .val v => some v
  | _ => none)
  | [] => rfl
  | v :: vs => by
    have ih := rLoA_map vs
    have e : lg_sl (v :: vs) = (if v.category = 2 then [.val v, .second] else [.val v]) ++ lg_sl vs := by simp [lg_sl]
    rw [e]
    by_cases h : v.category = 2
    · simp only [rLoA, if_pos h, List.map_append, ih]
      rfl
    · simp only [rLoA, if_neg h, List.map_append, ih]
      rfl
theorem rLo_len (as : List Value) (n : Nat) (h : (lg_sl as).length ≤ n) : (rLo as n).length = n := by
  have : (rLoA as).length = (lg_sl as).length := by rw [rLoA_map, List.length_map]
  simp only [rLo, List.length_append, List.length_replicate]
  omega
theorem rLv_entry (as : List Value) {n : Nat} (h : (lg_sl as).length ≤ n) : rLv ((lg_sl as ++ List.replicate (n - (lg_sl as).length) Slot.unset).toArray) n (rLo as n) := by
  have h0 := lv_entry as h
  have hlen : (rLoA as).length = (lg_sl as).length := by rw [rLoA_map, List.length_map]
  refine ⟨h0.1, h0.2.1, rLo_len as n h, fun i v hv => ?_⟩
  unfold rLo at hv
  by_cases hi : i < (rLoA as).length
  · rw [List.getElem?_append_left hi, rLoA_map, List.getElem?_map] at hv
    have hi2 : i < (lg_sl as).length := by omega
    rw [List.getElem?_toArray, List.getElem?_append_left hi2]
    cases hs : (lg_sl as)[i]? with
    | none => rw [hs] at hv; cases hv
    | some q =>
      rw [hs] at hv
      cases q with
      | val u => simp at hv; rw [hv]
      | _ => simp at hv
  · rw [List.getElem?_append_right (by omega), List.getElem?_replicate] at hv
    split at hv <;> cases hv
section RMet
variable {p : Program} {l : Launch} {e : Env} {Rm : Room} {s : State} {m : MethodId} {args : Array Value} {below : List Frame} {meth : Method} {c : Code} {Qf : State → Prop} {cc : ByteArray} {Γ : rG} {oc : Nat}
theorem Wp_snd {σ : rSg} {fr k0 : Nat} {ret : Option FieldType} {ini : Bool} {lim : Nat × Nat} {nL n0 s0 : Nat} {Q : rQ} (hx : p.tables.exec = Jvm.exec) (hb : c.code = cc) (hml : c.maxLocals = nL) (hts : ∀ w ∈ tb, w.before args s = true) (hown : s.vm.findClass (rOn oc) = some m.cls) (hst : rSt Γ s s.heap) (hini : ini = true → meth.name = "<init>")
    (hl1 : lim.1 ≤ n0 + Rm.cells) (hl2 : lim.2 ≤ s0 + Rm.slots) (hfr : 1 ≤ fr → 1 ≤ Rm.frames ∧ 27 ≤ Rm.locals) (hC : rOK l Γ k0 σ) (hk : (∃ mid as w Q, σ mid as w Q) → k0 + 1 ≤ Rm.frames ∧ 27 * (k0 + 1) ≤ Rm.locals)
    (hout : ∀ (i : Instr) (v : Option Value) (pc : Nat) (st : List Value) (w : rW) (H : Heap) (locs : List Loc) (ls : Array Slot), decode cc pc = .ok (i, 1) → rRet i ret st v → Q v w → rWd Γ w s H → va_S (rA Γ) s.heap H locs → n0 ≤ w.2.1 → w.2.1 ≤ lim.1 → s0 ≤ w.2.2 → w.2.2 ≤ lim.2 → W p l e Rm s m args below meth c H locs (w.2.1 - n0) (w.2.2 - s0) Qf (F0 m pc ls st))
    {y : rS} (h : Wp (Γ.2.2.2, σ, fr, oc, cc, ret, ini, lim) Q y) : rGd p l e Rm s m args below meth c Qf Γ nL n0 s0 lim y := by
  refine h _ (fun y hy => ?_)
  obtain ⟨pc, lo, st, w⟩ := y
  unfold rStp at hy
  dsimp only at hy
  cases hd : decode cc pc with
  | ok q =>
    rw [hd] at hy
    obtain ⟨i, len⟩ := q
    exact rI_snd hx hb hml hts hown hst hini hl1 hl2 hfr hC hk hout hd hy
  | error z => rw [hd] at hy; exact hy.elim
end RMet
theorem sg_met (l : Launch) (Γ : rG) (n k0 : Nat) (hC : rOK l Γ k0 (sg Γ.2.2.2 n)) (hk : (∃ mid as w Q, sg Γ.2.2.2 n mid as w Q) → k0 + 1 ≤ n) : rOK l Γ n (sg Γ.2.2.2 (n + 1)) := by
  intro mid md as w Q hmd hs
  obtain ⟨md2, hmd2, hlen, hWp⟩ := hs
  cases hmd.symm.trans hmd2
  obtain ⟨ic, jc, hch⟩ := k_mth hmd
  simp only [rChk, Bool.and_eq_true, decide_eq_true_eq, beq_iff_eq, bne_iff_ne, ne_eq] at hch
  obtain ⟨⟨⟨⟨⟨⟨⟨hc1, hc2⟩, hc3⟩, hc4⟩, hc5⟩, hc6⟩, hc7⟩, hc8⟩ := hch
  refine Met.ofW (cc := md.2.1) (maxL := md.2.2.1) (ret := md.2.2.2.1) hc1 rfl ?_
  intro p e s m args below meth c s₁ B hml hv
  obtain ⟨rfl, hst, hw⟩ := hv
  have hx := B.exec
  have hb := B.bytes
  have hr := B.returns
  have hts0 := atoms_spec (ws := Cond.code md.1 md.2.1 md.2.2.1 md.2.2.2.1 :: tb) B.pre
  have hts : ∀ w ∈ tb, w.before as.toArray s = true := fun w h => hts0 w (List.mem_cons_of_mem _ h)
  have hown0 : s.vm.findClass md.1.cls = some m.cls := findClass_of_methodNamed B.named
  have hown : s.vm.findClass (rOn md.2.2.2.2.1) = some m.cls := by rw [hc8]; exact hown0
  have hlocks := B.notSynchronized
  have hnm : meth.name = md.1.name := (name_of_methodNamed B.named B.method).1
  rw [lg_entry_eq]
  have hl := rLv_entry as hlen
  generalize (lg_sl as ++ List.replicate (md.2.2.1 - (lg_sl as).length) Slot.unset).toArray = ls at hl ⊢
  have hS : va_S (rA Γ) s.heap s.heap [] := va_S.rf
  have hg := Wp_snd (fr := n) (p := p) (l := l) (e := e) (Rm := (headSpec (Cond.code md.1 md.2.1 md.2.2.1 md.2.2.2.1 :: tb) (rRm md n)).room) (below := below) (Qf := MQ below (rPost Γ Q md w) as.toArray s md.2.2.2.2.2.2.1 md.2.2.2.2.2.2.2 (rA Γ)) (nL := md.2.2.1) (n0 := w.2.1) (s0 := w.2.2) (k0 := k0) hx hb hml hts hown hst (fun h => by rw [hnm]; simpa using h) (Nat.le_refl _) (Nat.le_refl _) (fun h => ⟨h, by show 27 ≤ 27 * n; omega⟩) hC (fun h => ⟨hk h, by show _ ≤ 27 * n; have := hk h; omega⟩) ?_ hWp
  · have h9 := hg s.heap [] ls hl hw hS (Nat.le_refl _) (Nat.le_add_right _ _) (Nat.le_refl _) (Nat.le_add_right _ _)
    dsimp only at h9
    rw [Nat.sub_self, Nat.sub_self] at h9
    exact h9
  · intro i v pc st w2 H locs ls hd hv hq hw2 hS2 b1 b2 b3 b4
    obtain ⟨hq1, hq2⟩ := hq
    have z1 : w2.2.1 = w.2.1 + md.2.2.2.2.2.2.1 := by
      rcases hq1 with ⟨q1, q2⟩ | ⟨q1, q2⟩
      · rw [q1] at b2 ⊢; dsimp only at b2; omega
      · exact q1
    have z2 : w2.2.2 = w.2.2 + md.2.2.2.2.2.2.2 := by
      rcases hq1 with ⟨q1, q2⟩ | ⟨q1, q2⟩
      · rw [q2] at b4 ⊢; dsimp only at b4; omega
      · exact q2
    rw [show w2.2.1 - w.2.1 = md.2.2.2.2.2.2.1 by omega, show w2.2.2 - w.2.2 = md.2.2.2.2.2.2.2 by omega]
    have hend : ∀ t : State, t.heap = H → s.WarmedH t.vm → rPost Γ Q md w as.toArray s (.returned v) t := fun t ht hW => ⟨⟨v, w2, rfl, hq2, by rw [ht]; exact hw2.moved hW.alike, z1, z2⟩, hS2.F ht⟩
    cases i with
    | ireturn =>
      obtain ⟨x, ty, rfl, hret, hn, rfl⟩ := hv
      exact W.zret hx hb (hr.trans hret) hn hend hS2.2.2 hd
    | lreturn =>
      obtain ⟨x, rfl, hret, rfl⟩ := hv
      exact W.lret hx hb (hr.trans hret) hend hS2.2.2 hd
    | areturn =>
      obtain ⟨x, ty, rfl, hret, hty, rfl⟩ := hv
      exact W.aret hx hb (hr.trans hret) hty (Or.inr ⟨x, rfl⟩) hend hS2.2.2 hd
    | return_ =>
      obtain ⟨rfl, hret, rfl⟩ := hv
      exact W.vret hx hb (hr.trans hret) hend hS2.2.2 hd
    | _ => exact False.elim hv
theorem sg_ok (l : Launch) (Γ : rG) : ∀ n, rOK l Γ n (sg Γ.2.2.2 (n + 1))
  | 0 => sg_met l Γ 0 0 (fun _ _ _ _ _ _ h => h.elim) (fun ⟨_, _, _, _, h⟩ => h.elim)
  | n + 1 => sg_met l Γ (n + 1) n (sg_ok l Γ n) (fun _ => Nat.le_refl _)
