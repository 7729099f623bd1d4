section RR2
variable {p : Program} {l : Launch} {e : Env} {Rm : Room} {s : State} {m : MethodId} {args : Array Value} {below : List Frame} {meth : Method} {c : Code} {H : Heap} {locs : List Loc} {cells slots : Nat} {Qf : State → Prop}
variable {cc : ByteArray} {pc : Nat} {ls : Array Slot} {rest : List Value} {Γ : rG} {w : rW} {a : Nat} {own : String} {oc : Nat}
theorem r_ial (hx : p.tables.exec = Jvm.exec) (hb : c.code = cc) (hst : rSt Γ s s.heap) (hW : rWd Γ w s H) {i : Int32} {t n : Nat} {g : Nat → Int32} (ha : w.1 a = some (.inl (t, n, g))) (ht : t = 0 ∨ t = 2) (hin : vp_in i n) (hdg : decode cc pc = .ok (.iaload, 1))
    (kk : W p l e Rm s m args below meth c H locs cells slots Qf (F0 m (pc + 1) ls (.int (g i.toNatClampNeg) :: rest))) : W p l e Rm s m args below meth c H locs cells slots Qf (F0 m pc ls (.int i :: .ref a :: rest)) := by
  have hA := hW.2.2 a _ ha
  rcases ht with rfl | rfl
  · exact va_iald hx hb hst.1 (va_P1 hA.2) 0 0 rfl rfl hin hdg kk
  · obtain ⟨cell, h1, h2, h3, h4, h5, h6, -⟩ := hA
    have hlt : i.toNatClampNeg < n := Nat.not_le.mp fun q => hin (Or.inr q)
    exact W.iald (v := .int (g i.toNatClampNeg)) hx hb h1 h2 h3 (fun q => q.elim (fun z => hin (Or.inl z)) (fun z => by omega)) (h6 _ hlt) rfl rfl hdg kk
theorem r_bal (hx : p.tables.exec = Jvm.exec) (hb : c.code = cc) (hst : rSt Γ s s.heap) (hW : rWd Γ w s H) {i : Int32} {t n : Nat} {g : Nat → Int32} (ha : w.1 a = some (.inl (t, n, g))) (ht : t = 1 ∨ t = 3) (hin : vp_in i n) (hdg : decode cc pc = .ok (.baload, 1))
    (kk : W p l e Rm s m args below meth c H locs cells slots Qf (F0 m (pc + 1) ls (.int (g i.toNatClampNeg) :: rest))) : W p l e Rm s m args below meth c H locs cells slots Qf (F0 m pc ls (.int i :: .ref a :: rest)) := by
  have hA := hW.2.2 a _ ha
  rcases ht with rfl | rfl
  · exact va_bald hx hb hst.1 (va_P1 hA.2) 0 1 rfl rfl hin hdg kk
  · obtain ⟨cell, h1, h2, h3, h4, h5, h6, -⟩ := hA
    have hlt : i.toNatClampNeg < n := Nat.not_le.mp fun q => hin (Or.inr q)
    exact W.bald (v := .int (g i.toNatClampNeg)) hx hb h1 h2 h3 (fun q => q.elim (fun z => hin (Or.inl z)) (fun z => by omega)) (h6 _ hlt) rfl rfl hdg kk
theorem r_lal (hx : p.tables.exec = Jvm.exec) (hb : c.code = cc) (hst : rSt Γ s s.heap) (hW : rWd Γ w s H) {i : Int32} {n : Nat} {g : Nat → Int64} (ha : w.1 a = some (.inr (.inl (n, g)))) (hin : vp_in i n) (hdg : decode cc pc = .ok (.laload, 1))
    (kk : W p l e Rm s m args below meth c H locs cells slots Qf (F0 m (pc + 1) ls (.long (g i.toNatClampNeg) :: rest))) : W p l e Rm s m args below meth c H locs cells slots Qf (F0 m pc ls (.int i :: .ref a :: rest)) :=
  va_lald hx hb hst.1 (va_P1 (hW.2.2 a _ ha).2) 0 2 rfl rfl hin hdg kk
theorem r_aal (hx : p.tables.exec = Jvm.exec) (hb : c.code = cc) (hst : rSt Γ s s.heap) (hW : rWd Γ w s H) {i : Int32} {n : Nat} {g : Nat → Option Nat} (ha : w.1 a = some (.inr (.inr (.inl (n, g))))) (hin : vp_in i n) (hdg : decode cc pc = .ok (.aaload, 1))
    (kk : W p l e Rm s m args below meth c H locs cells slots Qf (F0 m (pc + 1) ls (va_rf (g i.toNatClampNeg) :: rest))) : W p l e Rm s m args below meth c H locs cells slots Qf (F0 m pc ls (.int i :: .ref a :: rest)) :=
  va_aldq hx hb hst.1 (va_P1 (hW.2.2 a _ ha).2) 0 3 rfl rfl hin hdg kk
theorem r_ias (hx : p.tables.exec = Jvm.exec) (hb : c.code = cc) (hst : rSt Γ s s.heap) (hS : va_S (rA Γ) s.heap H locs) (hW : rWd Γ w s H) {i x : Int32} {n : Nat} {g : Nat → Int32} (ha : w.1 a = some (.inl (0, n, g))) (hin : vp_in i n) (hdg : decode cc pc = .ok (.iastore, 1))
    (kk : ∀ (H1 : Heap) (locs1 : List Loc), rWd Γ (rU w a (.inl (0, n, upd g i.toNatClampNeg x))) s H1 → va_S (rA Γ) s.heap H1 locs1 → W p l e Rm s m args below meth c H1 locs1 cells slots Qf (F0 m (pc + 1) ls rest)) : W p l e Rm s m args below meth c H locs cells slots Qf (F0 m pc ls (.int x :: .int i :: .ref a :: rest)) := by
  have hA := hW.2.2 a _ ha
  refine W.iast hx hb hA.2 ((hst.1.2 0 _ rfl).1 n (fun j => .int (g j))) (fun q => by cases q) (by show ¬ (i < 0 ∨ (arrV _ _ _).slots.size ≤ _); rw [arrV_size]; exact hin) rfl rfl hdg fun H1 e1 z oq => ?_
  refine kk H1 _ (hW.upd z oq hA.1 ⟨hA.1, ?_⟩) (hS.put z oq hA.1)
  show H1[a]? = some (vp_cell _ _)
  rw [e1]
  exact congrArg some (rCell_i _ n _ g x)
theorem r_bas (hx : p.tables.exec = Jvm.exec) (hb : c.code = cc) (hst : rSt Γ s s.heap) (hS : va_S (rA Γ) s.heap H locs) (hW : rWd Γ w s H) {i x : Int32} {n : Nat} {g : Nat → Int32} (ha : w.1 a = some (.inl (1, n, g))) (hin : vp_in i n) (hdg : decode cc pc = .ok (.bastore, 1))
    (kk : ∀ (H1 : Heap) (locs1 : List Loc), rWd Γ (rU w a (.inl (1, n, upd g i.toNatClampNeg (vp_nar .byte x)))) s H1 → va_S (rA Γ) s.heap H1 locs1 → W p l e Rm s m args below meth c H1 locs1 cells slots Qf (F0 m (pc + 1) ls rest)) : W p l e Rm s m args below meth c H locs cells slots Qf (F0 m pc ls (.int x :: .int i :: .ref a :: rest)) := by
  have hA := hW.2.2 a _ ha
  refine W.bast hx hb hA.2 ((hst.1.2 1 _ rfl).1 n (fun j => .int (g j))) (fun q => by cases q) (by show ¬ (i < 0 ∨ (arrV _ _ _).slots.size ≤ _); rw [arrV_size]; exact hin) rfl rfl hdg fun H1 e1 z oq => ?_
  refine kk H1 _ (hW.upd z oq hA.1 ⟨hA.1, ?_⟩) (hS.put z oq hA.1)
  show H1[a]? = some (vp_cell _ _)
  rw [e1, rNar_b]
  exact congrArg some (rCell_i _ n _ g _)
theorem r_las (hx : p.tables.exec = Jvm.exec) (hb : c.code = cc) (hst : rSt Γ s s.heap) (hS : va_S (rA Γ) s.heap H locs) (hW : rWd Γ w s H) {i : Int32} {x : Int64} {n : Nat} {g : Nat → Int64} (ha : w.1 a = some (.inr (.inl (n, g)))) (hin : vp_in i n) (hdg : decode cc pc = .ok (.lastore, 1))
    (kk : ∀ (H1 : Heap) (locs1 : List Loc), rWd Γ (rU w a (.inr (.inl (n, vp_updL g i.toNatClampNeg x)))) s H1 → va_S (rA Γ) s.heap H1 locs1 → W p l e Rm s m args below meth c H1 locs1 cells slots Qf (F0 m (pc + 1) ls rest)) : W p l e Rm s m args below meth c H locs cells slots Qf (F0 m pc ls (.long x :: .int i :: .ref a :: rest)) := by
  have hA := hW.2.2 a _ ha
  refine W.last hx hb hA.2 ((hst.1.2 2 _ rfl).1 n (fun j => .long (g j))) (fun q => by cases q) (by show ¬ (i < 0 ∨ (arrV _ _ _).slots.size ≤ _); rw [arrV_size]; exact hin) rfl rfl hdg fun H1 e1 z oq => ?_
  refine kk H1 _ (hW.upd z oq hA.1 ⟨hA.1, ?_⟩) (hS.put z oq hA.1)
  show H1[a]? = some (vp_cell _ _)
  rw [e1]
  exact congrArg some (rCell_l _ n _ g x)
theorem r_aas (hx : p.tables.exec = Jvm.exec) (hb : c.code = cc) (hst : rSt Γ s s.heap) (hS : va_S (rA Γ) s.heap H locs) (hW : rWd Γ w s H) {i : Int32} {x : Nat} {n : Nat} {g : Nat → Option Nat} (ha : w.1 a = some (.inr (.inr (.inl (n, g))))) (hx1 : rIs w x 1) (hin : vp_in i n) (hdg : decode cc pc = .ok (.aastore, 1))
    (kk : ∀ (H1 : Heap) (locs1 : List Loc), rWd Γ (rU w a (.inr (.inr (.inl (n, va_up g i.toNatClampNeg (some x)))))) s H1 → va_S (rA Γ) s.heap H1 locs1 → W p l e Rm s m args below meth c H1 locs1 cells slots Qf (F0 m (pc + 1) ls rest)) : W p l e Rm s m args below meth c H locs cells slots Qf (F0 m pc ls (.ref x :: .int i :: .ref a :: rest)) := by
  have hA := hW.2.2 a _ ha
  obtain ⟨fs, hfs⟩ := hx1
  have hB := hW.2.2 x _ hfs
  have hlt : i.toNatClampNeg < n := Nat.not_le.mp fun q => hin (Or.inr q)
  have h0 : ¬ i < 0 := fun q => hin (Or.inl q)
  unfold rAt at hB
  dsimp only at hB
  rw [if_pos (by decide)] at hB
  obtain ⟨-, r', hr', cellV, g1, g2, g3, -⟩ := hB
  have hcls := (hst.1.1 1 _ rfl).2
  obtain ⟨kA, comp, k1, k2, k3, -⟩ := (hst.1.2 3 _ rfl).2
  have hcomp : comp = Γ.2.1.1 1 := Option.some.inj (k3.symm.trans hcls.1)
  subst hcomp
  obtain ⟨kC, hkC, -⟩ := hcls.2
  refine W.aast hx hb hA.2 (fun q h => by cases h) (fun h => by cases h) k1 k2 rfl hkC ⟨h0, by show _ < (arrV _ _ _).slots.size; rw [arrV_size]; exact hlt⟩ g1 (fun q h => by rw [g3] at h; cases h) (by rw [g2]; exact hkC) (by rw [g2]; exact va_assign hcls) rfl rfl hdg fun H1 e1 z oq => ?_
  refine kk H1 _ (hW.upd z oq hA.1 ⟨hA.1, ?_⟩) (hS.put z oq hA.1)
  show H1[a]? = some (vp_cell _ _)
  rw [e1]
  exact congrArg some (rCell_q _ n _ g x)
theorem r_aln (hx : p.tables.exec = Jvm.exec) (hb : c.code = cc) (hst : rSt Γ s s.heap) (hW : rWd Γ w s H) {n : Nat} (ha : rLen w a = some n) (hdg : decode cc pc = .ok (.arraylength, 1))
    (kk : W p l e Rm s m args below meth c H locs cells slots Qf (F0 m (pc + 1) ls (.int (Int32.ofNat n) :: rest))) : W p l e Rm s m args below meth c H locs cells slots Qf (F0 m pc ls (.ref a :: rest)) := by
  unfold rLen at ha
  split at ha
  · rename_i t k g hd
    cases ha
    have hA := hW.2.2 a _ hd
    match t, hA with
    | 0, hA => exact va_alen hx hb hst.1 (va_P1 hA.2) 0 0 rfl rfl rfl hdg kk
    | 1, hA => exact va_alen hx hb hst.1 (va_P1 hA.2) 0 1 rfl rfl rfl hdg kk
    | 2, hA => obtain ⟨cell, h1, h2, h3, h4, h5, h6, -⟩ := hA; exact W.alen hx hb h1 h2 h5 rfl rfl hdg kk
    | t + 3, hA => obtain ⟨cell, h1, h2, h3, h4, h5, h6, -⟩ := hA; exact W.alen hx hb h1 h2 h5 rfl rfl hdg kk
  · rename_i k g hd
    cases ha
    exact va_alen hx hb hst.1 (va_P1 (hW.2.2 a _ hd).2) 0 2 rfl rfl rfl hdg kk
  · rename_i k g hd
    cases ha
    exact va_alen hx hb hst.1 (va_P1 (hW.2.2 a _ hd).2) 0 3 rfl rfl rfl hdg kk
  · cases ha
theorem r_new (hx : p.tables.exec = Jvm.exec) (hb : c.code = cc) (hts : ∀ w ∈ tb, w.before args s = true) (hown : s.vm.findClass (rOn oc) = some m.cls) (hst : rSt Γ s s.heap) (hS : va_S (rA Γ) s.heap H locs) (hW : rWd Γ w s H) {idx ci n : Nat} {fs : List Value} (hf : rCls.lookup (oc, idx) = some (ci, n, fs)) (hc1 : cells + 1 ≤ Rm.cells) (hc2 : slots + n ≤ Rm.slots) (hdg : decode cc pc = .ok (.new idx, 3))
    (kk : ∀ (H1 : Heap), rWd Γ (rNew w (rO ci fs) n) s H1 → va_S (rA Γ) s.heap H1 locs → W p l e Rm s m args below meth c H1 locs (cells + 1) (slots + n) Qf (F0 m (pc + 3) ls (.ref w.2.1 :: rest))) : W p l e Rm s m args below meth c H locs cells slots Qf (F0 m pc ls rest) := by
  have hk := List.all_eq_true.mp k_cls _ (lk_mem hf)
  dsimp only at hk
  split at hk
  · rename_i q hq
    simp only [Bool.and_eq_true, beq_iff_eq] at hk
    obtain ⟨⟨⟨⟨hn, hl1⟩, hl2⟩, hl3⟩, hl4⟩ := hk
    subst hn
    have hmem := List.mem_of_getElem? hq
    obtain ⟨hn1, hn2, hn3⟩ := k_clsn q hmem
    have hKn := hst.1.1 ci _ hq
    have h6 : ci < 6 := (List.getElem?_eq_some_iff.mp hq).1
    refine W.newcK hx hb hown (hts _ (rB_in hl1)) (hts _ (rB_in hl2)) (hts _ (rB_in hl3)) rfl hdg hc1 hc2 hKn.2.1 rfl fun H1 kC hkC e1 z1 o1 => ?_
    have hz := hW.1
    have hend := kk H1 (hW.new z1 o1 ?_) (hS.new z1 o1)
    · rw [← hz] at hend
      exact hend
    · unfold rAt
      dsimp only
      rw [if_pos h6]
      refine ⟨by rw [hz]; exact hW.2.1, _, hq, (u_born (fun k => (parseFieldDescriptor (q.2.1 k).2.2.1).getD .int) hts (k_ws hmem) hKn hkC e1 (fun k hk => ?_)).to (fun j hj => ?_)⟩
      · have := hn1 k hk
        cases hy : parseFieldDescriptor (q.2.1 k).2.2.1 with
        | none => rw [hy] at this; cases this
        | some t => rfl
      · have h9 := List.all_eq_true.mp hl4 j (List.mem_range.mpr hj)
        simp only [decide_eq_true_eq] at h9
        cases hy : parseFieldDescriptor (q.2.1 j).2.2.1 with
        | none => rw [hy] at h9; cases h9
        | some t => rw [hy] at h9; exact Option.some.inj h9
  · cases hk
theorem r_newa (hx : p.tables.exec = Jvm.exec) (hb : c.code = cc) (hts : ∀ w ∈ tb, w.before args s = true) (hst : rSt Γ s s.heap) (hS : va_S (rA Γ) s.heap H locs) (hW : rWd Γ w s H) {t : ArrayType} {n : Int32} {r : rE} (hn : ¬ n < 0) (hle : n.toNatClampNeg ≤ 1000) (hz : rZero t n.toNatClampNeg = some r) (hc1 : cells + 1 ≤ Rm.cells) (hc2 : slots + n.toNatClampNeg ≤ Rm.slots) (hdg : decode cc pc = .ok (.newarray t, 2))
    (kk : ∀ (H1 : Heap), rWd Γ (rNew w r n.toNatClampNeg) s H1 → va_S (rA Γ) s.heap H1 locs → W p l e Rm s m args below meth c H1 locs (cells + 1) (slots + n.toNatClampNeg) Qf (F0 m (pc + 2) ls (.ref w.2.1 :: rest))) : W p l e Rm s m args below meth c H locs cells slots Qf (F0 m pc ls (.int n :: rest)) := by
  have hk := k_arr
  simp only [Bool.and_eq_true] at hk
  obtain ⟨⟨⟨ki, kb⟩, kj⟩, -⟩ := hk
  have hs := hW.1
  cases t with
  | int =>
    cases hz
    refine va_newaK (atype := .int) hx hb (hts _ (rB_in ki)) rfl hdg rfl hn rfl (by show _ * 4 ≤ _; omega) hc1 hc2 rfl fun H1 cA e1 z1 o1 hAr hNm => ?_
    have hc : cA = Γ.2.2.1 0 := Option.some.inj (hNm.symm.trans (hst.1.2 0 _ rfl).2)
    have hend := kk H1 (hW.new z1 o1 ⟨by rw [hs]; exact hW.2.1, by rw [hc] at e1; exact e1⟩) (hS.new z1 o1)
    rw [← hs] at hend
    exact hend
  | byte =>
    cases hz
    refine va_newaK (atype := .byte) hx hb (hts _ (rB_in kb)) rfl hdg rfl hn rfl (by show _ * 1 ≤ _; omega) hc1 hc2 rfl fun H1 cA e1 z1 o1 hAr hNm => ?_
    have hc : cA = Γ.2.2.1 1 := Option.some.inj (hNm.symm.trans (hst.1.2 1 _ rfl).2)
    have hend := kk H1 (hW.new z1 o1 ⟨by rw [hs]; exact hW.2.1, by rw [hc] at e1; exact e1⟩) (hS.new z1 o1)
    rw [← hs] at hend
    exact hend
  | long =>
    cases hz
    refine va_newaK (atype := .long) hx hb (hts _ (rB_in kj)) rfl hdg rfl hn rfl (by show _ * 8 ≤ _; omega) hc1 hc2 rfl fun H1 cA e1 z1 o1 hAr hNm => ?_
    have hc : cA = Γ.2.2.1 2 := Option.some.inj (hNm.symm.trans (hst.1.2 2 _ rfl).2)
    have hend := kk H1 (hW.new z1 o1 ⟨by rw [hs]; exact hW.2.1, by rw [hc] at e1; exact e1⟩) (hS.new z1 o1)
    rw [← hs] at hend
    exact hend
  | _ => cases hz
theorem r_anw (hx : p.tables.exec = Jvm.exec) (hb : c.code = cc) (hts : ∀ w ∈ tb, w.before args s = true) (hown : s.vm.findClass (rOn 4) = some m.cls) (hst : rSt Γ s s.heap) (hS : va_S (rA Γ) s.heap H locs) (hW : rWd Γ w s H) {n : Int32} (hn : ¬ n < 0) (hle : n.toNatClampNeg ≤ 1000) (hc1 : cells + 1 ≤ Rm.cells) (hc2 : slots + n.toNatClampNeg ≤ Rm.slots) (hdg : decode cc pc = .ok (.anewarray 33, 3))
    (kk : ∀ (H1 : Heap), rWd Γ (rNew w (.inr (.inr (.inl (n.toNatClampNeg, fun _ => none)))) n.toNatClampNeg) s H1 → va_S (rA Γ) s.heap H1 locs → W p l e Rm s m args below meth c H1 locs (cells + 1) (slots + n.toNatClampNeg) Qf (F0 m (pc + 3) ls (.ref w.2.1 :: rest))) : W p l e Rm s m args below meth c H locs cells slots Qf (F0 m pc ls (.int n :: rest)) := by
  have hk := k_arr
  simp only [Bool.and_eq_true] at hk
  obtain ⟨-, k4⟩ := hk
  have hs := hW.1
  refine W.anew hx hb hown (hts _ (rB_in k4)) (va_AO.use hst.2.2.2.1) rfl hdg rfl hn (by omega) hc1 hc2 fun cA kA comp f1 f2 f3 f4 => ?_
  generalize hH1 : H.push ({ cls := cA, slots := Array.replicate n.toNatClampNeg .null, vm := .none } : Cell) = H1
  have z1 : H1.size = H.size + 1 := by rw [← hH1, Array.size_push]
  have e1 : H1[H.size]? = some (arrV cA n.toNatClampNeg (fun _ => .null)) := by rw [← hH1, Array.getElem?_push_size, ← arrV_new]
  have o1 : ∀ q : Nat, q < H.size → H1[q]? = H[q]? := fun q hq => by rw [← hH1, Array.getElem?_push, if_neg (Nat.ne_of_lt hq)]
  obtain ⟨kA', comp', k1', k2', k3', k4'⟩ := (hst.1.2 3 _ rfl).2
  have hc : cA = Γ.2.2.1 3 := Option.some.inj (f1.symm.trans k4')
  have hend := kk H1 (hW.new z1 o1 ⟨by rw [hs]; exact hW.2.1, by rw [hc] at e1; exact e1⟩) (hS.new z1 o1)
  rw [← hs] at hend
  exact hend
theorem r_gets (hx : p.tables.exec = Jvm.exec) (hb : c.code = cc) (hts : ∀ w ∈ tb, w.before args s = true) (hown : s.vm.findClass (rOn oc) = some m.cls) (hst : rSt Γ s s.heap) (hS : va_S (rA Γ) s.heap H locs) {idx k : Nat} (hf : rSta.lookup (oc, idx) = some k) (hdg : decode cc pc = .ok (.getstatic idx, 3))
    (kk : W p l e Rm s m args below meth c H locs cells slots Qf (F0 m (pc + 3) ls (Γ.2.2.2.1 k :: rest))) : W p l e Rm s m args below meth c H locs cells slots Qf (F0 m pc ls rest) := by
  have hk := List.all_eq_true.mp k_sta _ (lk_mem hf)
  dsimp only at hk
  split at hk
  · rename_i q hq
    exact va_gets hx hb (hst.2.1 k q hq) hS hown (hts _ (rB_in hk)) (fun _ h9 => h9) hdg kk
  · cases hk
theorem r_ldcS (hx : p.tables.exec = Jvm.exec) (hb : c.code = cc) (hown : s.vm.findClass (rOn oc) = some m.cls) (hst : rSt Γ s s.heap) {idx k : Nat} (hf : rStr.lookup (oc, idx) = some k) (hdg : decode cc pc = .ok (.ldc idx, 2))
    (kk : W p l e Rm s m args below meth c H locs cells slots Qf (F0 m (pc + 2) ls (.ref (Γ.2.2.2.2 k) :: rest))) : W p l e Rm s m args below meth c H locs cells slots Qf (F0 m pc ls rest) := by
  have hk := List.all_eq_true.mp k_str _ (lk_mem hf)
  dsimp only at hk
  split at hk
  · rename_i q hq
    simp only [Bool.and_eq_true, beq_iff_eq] at hk
    have hZ := hst.2.2.1 k q hq
    rw [hk.1, hk.2] at hZ
    exact va_ldcS hx hb hown hZ hdg kk
  · cases hk
end RR2
