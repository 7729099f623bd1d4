section RCP
variable {p : Program} {l : Launch} {e : Env} {Rm : Room} {s : State} {m : MethodId} {args : Array Value} {below : List Frame} {meth : Method} {c : Code} {H : Heap} {locs : List Loc} {cells slots : Nat} {Qf : State → Prop}
variable {cc : ByteArray} {pc : Nat} {ls : Array Slot} {rest : List Value} {Γ : rG} {w : rW} {a : Nat} {own : String} {oc : Nat}
theorem rNN {z : Int32} (hz : ¬ z < 0) : z.toInt = (z.toNatClampNeg : Int) := by
  have hz0 : (0 : Int) ≤ z.toInt := by
    have := Int32.not_lt.mp hz
    simpa using Int32.le_iff_toInt_le.mp this
  show z.toInt = ((z.toInt.toNat : Nat) : Int)
  omega
theorem r_cpI (hx : p.tables.exec = Jvm.exec) (hb : c.code = cc) (hml : c.maxLocals = ls.size) (hown : s.vm.findClass (rOn oc) = some m.cls) {idx : Nat} (hlink : (Cond.methodLink (rOn oc) idx arraycopyName).before args s = true) (hnat : (Cond.native arraycopyName).before args s = true) (hstat : (Cond.static arraycopyName).before args s = true) (hini : (Cond.initialized "java/lang/System").before args s = true)
    (hst : rSt Γ s s.heap) (hS : va_S (rA Γ) s.heap H locs) (hW : rWd Γ w s H) {a0 n0 n1 : Nat} {f g : Nat → Int32} (ha0 : w.1 a0 = some (.inl (0, n0, f))) (ha : w.1 a = some (.inl (0, n1, g))) {sp dp n : Int32} (h1 : ¬ sp < 0) (h2 : ¬ dp < 0) (h3 : ¬ n < 0) (h4 : sp.toNatClampNeg + n.toNatClampNeg ≤ n0) (h5 : dp.toNatClampNeg + n.toNatClampNeg ≤ n1)
    (hframes : 1 ≤ Rm.frames) (hlocals : (rest.map fun v => v.category).sum + (nativeFrameWords "java/lang/System" "arraycopy" 5 + 11) ≤ Rm.locals) (hdg : decode cc pc = .ok (.invokestatic idx, 3))
    (kk : ∀ (H1 : Heap) (locs1 : List Loc), rWd Γ (rU w a (.inl (0, n1, va_cpy f g sp.toNatClampNeg dp.toNatClampNeg n.toNatClampNeg))) s H1 → va_S (rA Γ) s.heap H1 locs1 → W p l e Rm s m args below meth c H1 locs1 cells slots Qf (F0 m (pc + 3) ls rest)) : W p l e Rm s m args below meth c H locs cells slots Qf (F0 m pc ls (.int n :: .int dp :: .ref a :: .int sp :: .ref a0 :: rest)) := by
  intro T hT X
  have hA0 := hW.2.2 a0 _ ha0
  have hA1 := hW.2.2 a _ ha
  have hc0 : H[a0]? = some (vp_cell (Γ.2.2.1 0) (n0, .inl f)) := hA0.2
  have hc1 : H[a]? = some (vp_cell (Γ.2.2.1 0) (n1, .inl g)) := hA1.2
  obtain ⟨-, k0, hk0, cm0, hkk0⟩ := (hst.1.2 0 _ rfl).1 n0 (fun j => .int (f j))
  obtain ⟨-, k1, hk1, cm1, hkk1⟩ := (hst.1.2 0 _ rfl).1 n1 (fun j => .int (g j))
  obtain ⟨vm', X', step⟩ := X.arraycopy hx hown hlink hnat hstat hini (src := a0) (dst := a) (cs := vp_cell (Γ.2.2.1 0) (n0, .inl f)) (cd := vp_cell (Γ.2.2.1 0) (n1, .inl g)) (srcPos := sp) (destPos := dp) (n := n) (by rw [hT]; exact hc0) (by rw [hT]; exact hc1)
    (fun _ h => by cases h) (fun _ h => by cases h) (fun h => by cases h) (fun h => by cases h) hk0 hk1 hkk0 hkk1 (by simp [refKind]) h1 h2 h3
    (by rw [rNN h1, rNN h3]; show ¬ _ > ((arrV (Γ.2.2.1 0) n0 (fun j => .int (f j))).slots.size : Int); rw [arrV_size]; omega)
    (by rw [rNN h2, rNN h3]; show ¬ _ > ((arrV (Γ.2.2.1 0) n1 (fun j => .int (g j))).slots.size : Int); rw [arrV_size]; omega)
    (fun vm₁ _ i hi => by
      have e0 : (vp_cell (Γ.2.2.1 0) (n0, .inl f)).slots.getD (sp.toNatClampNeg + i) .null = .int (f (sp.toNatClampNeg + i)) := by
        show (arrV (Γ.2.2.1 0) n0 (fun j => .int (f j))).slots.getD _ _ = _
        rw [Array.getD_eq_getD_getElem?, arrV_read _ _ (by omega)]
        rfl
      refine ⟨?_, ?_⟩
      · rw [e0]
        rfl
      · rw [e0]
        exact trivial)
    (g := F0 m pc ls (.int n :: .int dp :: .ref a :: .int sp :: .ref a0 :: rest)) rfl (by rw [hml]) (rest := rest) rfl (by rw [hb]; exact hdg) hframes (by show 2 * 0 + _ + _ ≤ _; omega)
  have e1 : copied (vp_cell (Γ.2.2.1 0) (n0, .inl f)) (vp_cell (Γ.2.2.1 0) (n1, .inl g)) sp dp n = vp_cell (Γ.2.2.1 0) (n1, .inl (va_cpy f g sp.toNatClampNeg dp.toNatClampNeg n.toNatClampNeg)) := va_copied (fun z => .int z) _ _ f g h4
  rw [e1] at X' step
  have hl : a < H.size := (Array.getElem?_eq_some_iff.mp hc1).1
  have hheap : ((T.setVm vm').setCell a (vp_cell (Γ.2.2.1 0) (n1, .inl (va_cpy f g sp.toNatClampNeg dp.toNatClampNeg n.toNatClampNeg)))).heap = H.setIfInBounds a (vp_cell (Γ.2.2.1 0) (n1, .inl (va_cpy f g sp.toNatClampNeg dp.toNatClampNeg n.toNatClampNeg))) := by rw [← hT]; rfl
  have oq : ∀ q : Nat, q ≠ a → (H.setIfInBounds a (vp_cell (Γ.2.2.1 0) (n1, .inl (va_cpy f g sp.toNatClampNeg dp.toNatClampNeg n.toNatClampNeg))))[q]? = H[q]? := fun q hq => by simp [Array.getElem?_setIfInBounds, Ne.symm hq]
  obtain ⟨t, a1, b1⟩ := kk _ _ (hW.upd (Array.size_setIfInBounds ..) oq hA1.1 ⟨hA1.1, (show (H.setIfInBounds a _)[a]? = some _ by simp [Array.getElem?_setIfInBounds, hl])⟩) ⟨by rw [Array.size_setIfInBounds]; exact hS.1, fun q g1 g2 => by
      rw [oq q (fun e => g2 (by rw [e]; exact hA1.1))]
      exact hS.2.1 q g1 g2, fun q hq => by
      rcases List.mem_append.mp hq with h | h
      · exact hS.2.2 q h
      · obtain ⟨z, -, hz⟩ := List.mem_map.mp h
        rw [← hz]
        exact hA1.1⟩ _ hheap X'
  exact ⟨t, step t a1, b1⟩
theorem r_cpL (hx : p.tables.exec = Jvm.exec) (hb : c.code = cc) (hml : c.maxLocals = ls.size) (hown : s.vm.findClass (rOn oc) = some m.cls) {idx : Nat} (hlink : (Cond.methodLink (rOn oc) idx arraycopyName).before args s = true) (hnat : (Cond.native arraycopyName).before args s = true) (hstat : (Cond.static arraycopyName).before args s = true) (hini : (Cond.initialized "java/lang/System").before args s = true)
    (hst : rSt Γ s s.heap) (hS : va_S (rA Γ) s.heap H locs) (hW : rWd Γ w s H) {a0 n0 n1 : Nat} {f g : Nat → Int64} (ha0 : w.1 a0 = some (.inr (.inl (n0, f)))) (ha : w.1 a = some (.inr (.inl (n1, g)))) {sp dp n : Int32} (h1 : ¬ sp < 0) (h2 : ¬ dp < 0) (h3 : ¬ n < 0) (h4 : sp.toNatClampNeg + n.toNatClampNeg ≤ n0) (h5 : dp.toNatClampNeg + n.toNatClampNeg ≤ n1)
    (hframes : 1 ≤ Rm.frames) (hlocals : (rest.map fun v => v.category).sum + (nativeFrameWords "java/lang/System" "arraycopy" 5 + 11) ≤ Rm.locals) (hdg : decode cc pc = .ok (.invokestatic idx, 3))
    (kk : ∀ (H1 : Heap) (locs1 : List Loc), rWd Γ (rU w a (.inr (.inl (n1, va_cpy f g sp.toNatClampNeg dp.toNatClampNeg n.toNatClampNeg)))) s H1 → va_S (rA Γ) s.heap H1 locs1 → W p l e Rm s m args below meth c H1 locs1 cells slots Qf (F0 m (pc + 3) ls rest)) : W p l e Rm s m args below meth c H locs cells slots Qf (F0 m pc ls (.int n :: .int dp :: .ref a :: .int sp :: .ref a0 :: rest)) := by
  intro T hT X
  have hA0 := hW.2.2 a0 _ ha0
  have hA1 := hW.2.2 a _ ha
  have hc0 : H[a0]? = some (vp_cell (Γ.2.2.1 2) (n0, .inr (.inl f))) := hA0.2
  have hc1 : H[a]? = some (vp_cell (Γ.2.2.1 2) (n1, .inr (.inl g))) := hA1.2
  obtain ⟨-, k0, hk0, cm0, hkk0⟩ := (hst.1.2 2 _ rfl).1 n0 (fun j => .long (f j))
  obtain ⟨-, k1, hk1, cm1, hkk1⟩ := (hst.1.2 2 _ rfl).1 n1 (fun j => .long (g j))
  obtain ⟨vm', X', step⟩ := X.arraycopy hx hown hlink hnat hstat hini (src := a0) (dst := a) (cs := vp_cell (Γ.2.2.1 2) (n0, .inr (.inl f))) (cd := vp_cell (Γ.2.2.1 2) (n1, .inr (.inl g))) (srcPos := sp) (destPos := dp) (n := n) (by rw [hT]; exact hc0) (by rw [hT]; exact hc1)
    (fun _ h => by cases h) (fun _ h => by cases h) (fun h => by cases h) (fun h => by cases h) hk0 hk1 hkk0 hkk1 (by simp [refKind]) h1 h2 h3
    (by rw [rNN h1, rNN h3]; show ¬ _ > ((arrV (Γ.2.2.1 2) n0 (fun j => .long (f j))).slots.size : Int); rw [arrV_size]; omega)
    (by rw [rNN h2, rNN h3]; show ¬ _ > ((arrV (Γ.2.2.1 2) n1 (fun j => .long (g j))).slots.size : Int); rw [arrV_size]; omega)
    (fun vm₁ _ i hi => by
      have e0 : (vp_cell (Γ.2.2.1 2) (n0, .inr (.inl f))).slots.getD (sp.toNatClampNeg + i) .null = .long (f (sp.toNatClampNeg + i)) := by
        show (arrV (Γ.2.2.1 2) n0 (fun j => .long (f j))).slots.getD _ _ = _
        rw [Array.getD_eq_getD_getElem?, arrV_read _ _ (by omega)]
        rfl
      refine ⟨?_, ?_⟩
      · rw [e0]
        rfl
      · rw [e0]
        exact trivial)
    (g := F0 m pc ls (.int n :: .int dp :: .ref a :: .int sp :: .ref a0 :: rest)) rfl (by rw [hml]) (rest := rest) rfl (by rw [hb]; exact hdg) hframes (by show 2 * 0 + _ + _ ≤ _; omega)
  have e1 : copied (vp_cell (Γ.2.2.1 2) (n0, .inr (.inl f))) (vp_cell (Γ.2.2.1 2) (n1, .inr (.inl g))) sp dp n = vp_cell (Γ.2.2.1 2) (n1, .inr (.inl (va_cpy f g sp.toNatClampNeg dp.toNatClampNeg n.toNatClampNeg))) := va_copied (fun z => .long z) _ _ f g h4
  rw [e1] at X' step
  have hl : a < H.size := (Array.getElem?_eq_some_iff.mp hc1).1
  have hheap : ((T.setVm vm').setCell a (vp_cell (Γ.2.2.1 2) (n1, .inr (.inl (va_cpy f g sp.toNatClampNeg dp.toNatClampNeg n.toNatClampNeg))))).heap = H.setIfInBounds a (vp_cell (Γ.2.2.1 2) (n1, .inr (.inl (va_cpy f g sp.toNatClampNeg dp.toNatClampNeg n.toNatClampNeg)))) := by rw [← hT]; rfl
  have oq : ∀ q : Nat, q ≠ a → (H.setIfInBounds a (vp_cell (Γ.2.2.1 2) (n1, .inr (.inl (va_cpy f g sp.toNatClampNeg dp.toNatClampNeg n.toNatClampNeg)))))[q]? = H[q]? := fun q hq => by simp [Array.getElem?_setIfInBounds, Ne.symm hq]
  obtain ⟨t, a1, b1⟩ := kk _ _ (hW.upd (Array.size_setIfInBounds ..) oq hA1.1 ⟨hA1.1, (show (H.setIfInBounds a _)[a]? = some _ by simp [Array.getElem?_setIfInBounds, hl])⟩) ⟨by rw [Array.size_setIfInBounds]; exact hS.1, fun q g1 g2 => by
      rw [oq q (fun e => g2 (by rw [e]; exact hA1.1))]
      exact hS.2.1 q g1 g2, fun q hq => by
      rcases List.mem_append.mp hq with h | h
      · exact hS.2.2 q h
      · obtain ⟨z, -, hz⟩ := List.mem_map.mp h
        rw [← hz]
        exact hA1.1⟩ _ hheap X'
  exact ⟨t, step t a1, b1⟩
end RCP
def rRm (md : rM) (k : Nat) : Room := { frames := k, cells := md.2.2.2.2.2.2.1, slots := md.2.2.2.2.2.2.2, locals := 27 * k }
def rPre (Γ : rG) (w : rW) : State → Prop := fun U => rSt Γ U U.heap ∧ rWd Γ w U U.heap
def rPost (Γ : rG) (Q : rQ) (md : rM) (w : rW) : Array Value → State → Outcome → State → Prop := fun _ st oc t => (∃ (v : Option Value) (w' : rW), oc = .returned v ∧ Q v w' ∧ rWd Γ w' t t.heap ∧ w'.2.1 = w.2.1 + md.2.2.2.2.2.2.1 ∧ w'.2.2 = w.2.2 + md.2.2.2.2.2.2.2) ∧ va_F (rA Γ) st t
def rOK (l : Launch) (Γ : rG) (k : Nat) (σ : rSg) : Prop := ∀ (mid : Nat) (md : rM) (as : List Value) (w : rW) (Q : rQ), rMth mid = some md → σ mid as w Q → Met l md.1 (.code md.1 md.2.1 md.2.2.1 md.2.2.2.1 :: tb) (rRm md k) (va_Pc as (rPre Γ w)) (rPost Γ Q md w) md.2.2.2.2.2.2.1 md.2.2.2.2.2.2.2 (rA Γ)
theorem rSt.same {Γ : rG} {u U : State} {H : Heap} (h : rSt Γ u H) (hv : U.vm = u.vm) : rSt Γ U H := by
  have ha : u.vm.Alike U.vm := by rw [hv]; exact Vm.Alike.refl _
  exact ⟨va_K.moved ha h.1, fun k q hk => (h.2.1 k q hk).moved ha, fun k q hk => (h.2.2.1 k q hk).same hv, va_AO.moved ha h.2.2.2.1, fun q hk => va_Nw.same rfl hv.symm (h.2.2.2.2 q hk)⟩
theorem rPre_blind (Γ : rG) (w : rW) (as : List Value) : FrameBlind (va_Pc as (rPre Γ w)) := fun a U g mk h => ⟨h.1, h.2.1.same (U := U.calling g mk a) rfl, h.2.2.moved (U := U.calling g mk a) (Vm.Alike.refl U.vm)⟩
