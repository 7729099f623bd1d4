theorem k_lng1 {oc k : Nat} {v : Int64} (hv : rLng.lookup (oc, k) = some v) : rB (.constantLong (rOn oc) k v) = true := by
  have h := List.all_eq_true.mp k_lng ((oc, k), v) (lk_mem hv)
  exact h
theorem rNL_of {ls : Array Slot} {nL : Nat} {lo : List (Option Value)} (h : rLv ls nL lo) {i : Nat} {v : Value} (hv : lo[i]? = some (some v)) : rNL lo i = true := by
  match i, hv with
  | 0, _ => rfl
  | j + 1, hv =>
    simp only [rNL]
    cases hu : lo[j]? with
    | none => rfl
    | some o =>
      cases o with
      | none => rfl
      | some u =>
        have h1 := h.2.2.2 j u hu
        have h2 := h.2.2.2 (j + 1) v hv
        by_cases hc : u.category = 2
        · have h3 := h.2.1.1 j u h1 hc
          rw [h2] at h3
          cases h3
        · simpa using hc
theorem rJ_eq {pc : Nat} {off : Int} (h : 0 ≤ (pc : Int) + off) : (pc : Int) + off = ((rJ pc off : Nat) : Int) := by
  unfold rJ
  omega
section RSND
variable {p : Program} {l : Launch} {e : Env} {Rm : Room} {s : State} {m : MethodId} {args : Array Value} {below : List Frame} {meth : Method} {c : Code} {H : Heap} {locs : List Loc} {cells slots : Nat} {Qf : State → Prop}
variable {cc : ByteArray} {pc : Nat} {ls : Array Slot} {rest : List Value} {Γ : rG} {w : rW} {a : Nat} {own : String} {oc : Nat}
theorem r_go {mc ms : Nat} {st0 : List Value} {av : Array Value} {Q : rQ} {md : rM} (hr : va_Run p l e Rm s m args below meth c H locs cells slots mc ms (F0 m pc ls st0) rest (rPost Γ Q md w av) (rA Γ)) (hS : va_S (rA Γ) s.heap H locs)
    (kk : ∀ (v : Option Value) (w' : rW) (H1 : Heap) (locs1 : List Loc), Q v w' → rWd Γ w' s H1 → w'.2.1 = w.2.1 + md.2.2.2.2.2.2.1 → w'.2.2 = w.2.2 + md.2.2.2.2.2.2.2 → va_S (rA Γ) s.heap H1 locs1 → W p l e Rm s m args below meth c H1 locs1 (cells + mc) (slots + ms) Qf (F0 m (pc + 3) ls (v.toList ++ rest))) : W p l e Rm s m args below meth c H locs cells slots Qf (F0 m pc ls st0) := by
  intro T hT X
  obtain ⟨v, st₀, t, T', L, h0, X', hL, e1, e2, ⟨⟨v', w', hv, hq, hw, z1, z2⟩, hz, hk⟩, st⟩ := hr T hT X
  cases hv
  rw [h0] at hz hk
  have hal : s.vm.Alike t.vm := by rw [← e2]; exact X'.warmed.alike
  obtain ⟨t2, a1, b1⟩ := kk v w' T'.heap (locs ++ L) hq (by rw [e1]; exact hw.moved hal.symm) z1 z2
    ⟨Nat.le_trans hS.1 (by rw [e1]; exact hz), fun q h1 h2 => by rw [e1, hk q (Nat.lt_of_lt_of_le h1 hS.1) h2]; exact hS.2.1 q h1 h2, fun q hq => by
      rcases List.mem_append.mp hq with h | h
      · exact hS.2.2 q h
      · exact hL q h⟩ T' rfl X'
  exact ⟨t2, st t2 a1, b1⟩
theorem rPre_at (hst : rSt Γ s s.heap) (hS : va_S (rA Γ) s.heap H locs) (hW : rWd Γ w s H) (as : List Value) : ∀ U : State, U.heap = H → s.WarmedH U.vm → va_Pc as (rPre Γ w) as.toArray U := by
  intro U hU hWm
  subst hU
  exact ⟨rfl, hst.moved hS.2.1 hWm, hW.moved hWm.alike⟩
theorem r_recv (hst : rSt Γ s s.heap) (hW : rWd Γ w s H) {ci : Nat} (h : rIs w a (if ci = 7 then 100 else ci)) (hc : ci < 6 ∨ ci = 7) : ∃ cellB : Cell, H[a]? = some cellB ∧ cellB.vm.isStatics = false ∧ s.vm.findClass (rOn ci) = some cellB.cls := by
  obtain ⟨fs, hfs⟩ := h
  have hA := hW.2.2 a _ hfs
  unfold rAt at hA
  dsimp only at hA
  rcases hc with hc | hc
  · rw [if_neg (show ¬ ci = 7 by omega), if_pos hc] at hA
    obtain ⟨q, hq⟩ := k_lt hc
    have h1 := va_recv hst.1 (va_P1 hA.2) (ci := ci) (q0 := 0) hq rfl
    have h2 := k_own ci hc q hq
    have : rOn ci = q.1 := by simp [rOn, h2]
    rw [this]
    exact h1
  · subst hc
    rw [if_pos (rfl : 7 = 7), if_neg (show ¬ 100 < 6 by decide)] at hA
    obtain ⟨-, ⟨cell, h1, h2, h3, -⟩, -⟩ := hA
    exact ⟨cell, h1, h2, h3⟩
/-- the good states of a method's walk -/
def rGd (p : Program) (l : Launch) (e : Env) (Rm : Room) (s : State) (m : MethodId) (args : Array Value) (below : List Frame) (meth : Method) (c : Code) (Qf : State → Prop) (Γ : rG) (nL n0 s0 : Nat) (lim : Nat × Nat) : rS → Prop := fun y => ∀ (H : Heap) (locs : List Loc) (ls : Array Slot), rLv ls nL y.2.1 → rWd Γ y.2.2.2 s H → va_S (rA Γ) s.heap H locs → n0 ≤ y.2.2.2.2.1 → y.2.2.2.2.1 ≤ lim.1 → s0 ≤ y.2.2.2.2.2 → y.2.2.2.2.2 ≤ lim.2 → W p l e Rm s m args below meth c H locs (y.2.2.2.2.1 - n0) (y.2.2.2.2.2 - s0) Qf (F0 m y.1 ls y.2.2.1)
set_option maxHeartbeats 4000000 in
theorem rI_snd {σ : rSg} {fr k0 : Nat} {ret : Option FieldType} {ini : Bool} {lim : Nat × Nat} {nL n0 s0 : Nat} {Q : rQ} (hx : p.tables.exec = Jvm.exec) (hb : c.code = cc) (hml : c.maxLocals = nL) (hts : ∀ w ∈ tb, w.before args s = true) (hown : s.vm.findClass (rOn oc) = some m.cls) (hst : rSt Γ s s.heap) (hini : ini = true → meth.name = "<init>")
    (hl1 : lim.1 ≤ n0 + Rm.cells) (hl2 : lim.2 ≤ s0 + Rm.slots) (hfr : 1 ≤ fr → 1 ≤ Rm.frames ∧ 27 ≤ Rm.locals) (hC : rOK l Γ k0 σ) (hk : (∃ mid as w Q, σ mid as w Q) → k0 + 1 ≤ Rm.frames ∧ 27 * (k0 + 1) ≤ Rm.locals)
    (hout : ∀ (i : Instr) (v : Option Value) (pc : Nat) (st : List Value) (w : rW) (H : Heap) (locs : List Loc) (ls : Array Slot), decode cc pc = .ok (i, 1) → rRet i ret st v → Q v w → rWd Γ w s H → va_S (rA Γ) s.heap H locs → n0 ≤ w.2.1 → w.2.1 ≤ lim.1 → s0 ≤ w.2.2 → w.2.2 ≤ lim.2 → W p l e Rm s m args below meth c H locs (w.2.1 - n0) (w.2.2 - s0) Qf (F0 m pc ls st))
    {i : Instr} {len pc : Nat} {lo : List (Option Value)} {st : List Value} {w : rW} (hd : decode cc pc = .ok (i, len)) (hI : rI Γ.2.2.2 σ fr oc ret ini lim (rGd p l e Rm s m args below meth c Qf Γ nL n0 s0 lim) Q i len pc lo st w) : rGd p l e Rm s m args below meth c Qf Γ nL n0 s0 lim (pc, lo, st, w) := by
  intro H locs ls hl hw hS b1 b2 b3 b4
  dsimp only at hl hw b1 b2 b3 b4 ⊢
  cases i with
  | iconst n =>
    obtain ⟨rfl, hR⟩ := hI
    exact lv_iconst hx hb hd rfl (hR H locs ls hl hw hS b1 b2 b3 b4)
  | bipush n =>
    obtain ⟨rfl, hR⟩ := hI
    exact lv_bipush hx hb hd rfl (hR H locs ls hl hw hS b1 b2 b3 b4)
  | sipush n =>
    obtain ⟨rfl, hR⟩ := hI
    exact lv_sipush hx hb hd rfl (hR H locs ls hl hw hS b1 b2 b3 b4)
  | lconst n =>
    obtain ⟨rfl, hR⟩ := hI
    exact lv_lconst hx hb hd rfl (hR H locs ls hl hw hS b1 b2 b3 b4)
  | ldc k =>
    obtain ⟨rfl, ⟨v, hv, hR⟩ | ⟨v, hv, hR⟩⟩ := hI
    · exact lv_ldc hx hb hown (hts _ (rB_in (List.all_eq_true.mp k_cst _ (lk_mem hv)))) hd (hR H locs ls hl hw hS b1 b2 b3 b4)
    · exact r_ldcS hx hb hown hst hv hd (hR H locs ls hl hw hS b1 b2 b3 b4)
  | ldc_w k =>
    obtain ⟨rfl, v, hv, hR⟩ := hI
    exact lv_ldcw hx hb hown (hts _ (rB_in (List.all_eq_true.mp k_cst _ (lk_mem hv)))) hd (hR H locs ls hl hw hS b1 b2 b3 b4)
  | ldc2_w k =>
    obtain ⟨rfl, v, hv, hR⟩ := hI
    have h9 : rB (.constantLong (rOn oc) k v) = true := k_lng1 hv
    exact lv_ldc2 hx hb hown (hts _ (rB_in h9)) hd (hR H locs ls hl hw hS b1 b2 b3 b4)
  | iload_n k =>
    obtain ⟨rfl, x, hv, hR⟩ := hI
    exact lv_iload_n hx hb hd rfl (hl.2.2.2 _ _ hv) (hR H locs ls hl hw hS b1 b2 b3 b4)
  | iload k =>
    obtain ⟨rfl, x, hv, hR⟩ := hI
    exact lv_iload hx hb hd (hl.2.2.2 _ _ hv) (hR H locs ls hl hw hS b1 b2 b3 b4)
  | lload_n k =>
    obtain ⟨rfl, x, hv, hR⟩ := hI
    exact lv_lload_n hx hb hd rfl (hl.2.2.2 _ _ hv) (hR H locs ls hl hw hS b1 b2 b3 b4)
  | lload k =>
    obtain ⟨rfl, x, hv, hR⟩ := hI
    exact lv_lload hx hb hd (hl.2.2.2 _ _ hv) (hR H locs ls hl hw hS b1 b2 b3 b4)
  | aload_n k =>
    obtain ⟨rfl, x, hv, hR⟩ := hI
    exact lv_aload_n hx hb hd rfl (hl.2.2.2 _ _ hv) (hR H locs ls hl hw hS b1 b2 b3 b4)
  | aload k =>
    obtain ⟨rfl, x, hv, hR⟩ := hI
    exact lv_aload hx hb hd (hl.2.2.2 _ _ hv) (hR H locs ls hl hw hS b1 b2 b3 b4)
  | istore_n k =>
    obtain ⟨rfl, x, r, rfl, hn, hN, hR⟩ := hI
    exact lv_istore_n hx hb hd rfl hl.has (by rw [← hl.2.2.1]; exact hn) rfl (fun ls hl2 => hR H locs ls (rLv.set1 hl.2.2.1 hN hl2) hw hS b1 b2 b3 b4)
  | istore k =>
    obtain ⟨rfl, x, r, rfl, hn, hN, hR⟩ := hI
    exact lv_istore hx hb hd hl.has (by rw [← hl.2.2.1]; exact hn) rfl (fun ls hl2 => hR H locs ls (rLv.set1 hl.2.2.1 hN hl2) hw hS b1 b2 b3 b4)
  | astore_n k =>
    obtain ⟨rfl, x, r, rfl, hn, hN, hR⟩ := hI
    exact lv_astore_n hx hb hd rfl hl.has (by rw [← hl.2.2.1]; exact hn) rfl (fun ls hl2 => hR H locs ls (rLv.set1 hl.2.2.1 hN hl2) hw hS b1 b2 b3 b4)
  | astore k =>
    obtain ⟨rfl, x, r, rfl, hn, hN, hR⟩ := hI
    exact lv_astore hx hb hd hl.has (by rw [← hl.2.2.1]; exact hn) rfl (fun ls hl2 => hR H locs ls (rLv.set1 hl.2.2.1 hN hl2) hw hS b1 b2 b3 b4)
  | lstore_n k =>
    obtain ⟨rfl, x, r, rfl, hn, hN, hR⟩ := hI
    exact lv_lstore_n hx hb hd rfl hl.has (by rw [← hl.2.2.1]; exact hn) rfl (fun ls hl2 => hR H locs ls (rLv.set2 hl.2.2.1 hN hl2) hw hS b1 b2 b3 b4)
  | lstore k =>
    obtain ⟨rfl, x, r, rfl, hn, hN, hR⟩ := hI
    exact lv_lstore hx hb hd hl.has (by rw [← hl.2.2.1]; exact hn) rfl (fun ls hl2 => hR H locs ls (rLv.set2 hl.2.2.1 hN hl2) hw hS b1 b2 b3 b4)
  | iinc k n =>
    obtain ⟨rfl, x, hv, hR⟩ := hI
    obtain ⟨j, hj⟩ := List.getElem?_of_mem (rPr_mem.mpr hv)
    exact lv_iinc hx hb hd hl.has hj rfl (by rw [← hl.2.2.1]; exact (List.getElem?_eq_some_iff.mp hv).1) rfl (fun ls hl2 => hR H locs ls (rLv.set1 hl.2.2.1 (rNL_of hl hv) hl2) hw hS b1 b2 b3 b4)
  | iadd =>
    obtain ⟨rfl, x, y, r, rfl, hR⟩ := hI
    exact lv_iadd hx hb hd (hR H locs ls hl hw hS b1 b2 b3 b4)
  | isub =>
    obtain ⟨rfl, x, y, r, rfl, hR⟩ := hI
    exact lv_isub hx hb hd (hR H locs ls hl hw hS b1 b2 b3 b4)
  | imul =>
    obtain ⟨rfl, x, y, r, rfl, hR⟩ := hI
    exact lv_imul hx hb hd (hR H locs ls hl hw hS b1 b2 b3 b4)
  | iand =>
    obtain ⟨rfl, x, y, r, rfl, hR⟩ := hI
    exact lv_iand hx hb hd (hR H locs ls hl hw hS b1 b2 b3 b4)
  | ior =>
    obtain ⟨rfl, x, y, r, rfl, hR⟩ := hI
    exact lv_ior hx hb hd (hR H locs ls hl hw hS b1 b2 b3 b4)
  | ixor =>
    obtain ⟨rfl, x, y, r, rfl, hR⟩ := hI
    exact lv_ixor hx hb hd (hR H locs ls hl hw hS b1 b2 b3 b4)
  | ishl =>
    obtain ⟨rfl, x, y, r, rfl, hR⟩ := hI
    exact lv_ishl hx hb hd (hR H locs ls hl hw hS b1 b2 b3 b4)
  | ishr =>
    obtain ⟨rfl, x, y, r, rfl, hR⟩ := hI
    exact lv_ishr hx hb hd (hR H locs ls hl hw hS b1 b2 b3 b4)
  | ladd =>
    obtain ⟨rfl, x, y, r, rfl, hR⟩ := hI
    exact lv_ladd hx hb hd (hR H locs ls hl hw hS b1 b2 b3 b4)
  | lsub =>
    obtain ⟨rfl, x, y, r, rfl, hR⟩ := hI
    exact lv_lsub hx hb hd (hR H locs ls hl hw hS b1 b2 b3 b4)
  | lmul =>
    obtain ⟨rfl, x, y, r, rfl, hR⟩ := hI
    exact lv_lmul hx hb hd (hR H locs ls hl hw hS b1 b2 b3 b4)
  | land =>
    obtain ⟨rfl, x, y, r, rfl, hR⟩ := hI
    exact lv_land hx hb hd (hR H locs ls hl hw hS b1 b2 b3 b4)
  | lor =>
    obtain ⟨rfl, x, y, r, rfl, hR⟩ := hI
    exact lv_lor hx hb hd (hR H locs ls hl hw hS b1 b2 b3 b4)
  | iushr =>
    obtain ⟨rfl, x, y, r, rfl, hR⟩ := hI
    exact lv_iushr hx hb hd rfl (hR H locs ls hl hw hS b1 b2 b3 b4)
  | idiv =>
    obtain ⟨rfl, x, y, r, rfl, hn, hR⟩ := hI
    exact lv_idiv hx hb hd hn (hR H locs ls hl hw hS b1 b2 b3 b4)
  | irem =>
    obtain ⟨rfl, x, y, r, rfl, hn, hR⟩ := hI
    exact lv_irem hx hb hd hn (hR H locs ls hl hw hS b1 b2 b3 b4)
  | ineg =>
    obtain ⟨rfl, x, r, rfl, hR⟩ := hI
    exact lv_ineg hx hb hd (hR H locs ls hl hw hS b1 b2 b3 b4)
  | i2b =>
    obtain ⟨rfl, x, r, rfl, hR⟩ := hI
    exact lv_i2b hx hb hd rfl (hR H locs ls hl hw hS b1 b2 b3 b4)
  | i2s =>
    obtain ⟨rfl, x, r, rfl, hR⟩ := hI
    exact lv_i2s hx hb hd rfl (hR H locs ls hl hw hS b1 b2 b3 b4)
  | i2c =>
    obtain ⟨rfl, x, r, rfl, hR⟩ := hI
    exact lv_i2c hx hb hd rfl (hR H locs ls hl hw hS b1 b2 b3 b4)
  | i2l =>
    obtain ⟨rfl, x, r, rfl, hR⟩ := hI
    exact lv_i2l hx hb hd rfl (hR H locs ls hl hw hS b1 b2 b3 b4)
  | l2i =>
    obtain ⟨rfl, x, r, rfl, hR⟩ := hI
    exact lv_l2i hx hb hd rfl (hR H locs ls hl hw hS b1 b2 b3 b4)
  | lshl =>
    obtain ⟨rfl, x, y, r, rfl, hR⟩ := hI
    exact lv_lshl hx hb hd rfl (hR H locs ls hl hw hS b1 b2 b3 b4)
  | lshr =>
    obtain ⟨rfl, x, y, r, rfl, hR⟩ := hI
    exact lv_lshr hx hb hd rfl (hR H locs ls hl hw hS b1 b2 b3 b4)
  | lcmp =>
    obtain ⟨rfl, x, y, r, rfl, hR⟩ := hI
    exact W.lcmp hx hb hd (hR H locs ls hl hw hS b1 b2 b3 b4)
  | dup =>
    obtain ⟨rfl, v, r, rfl, hv, hR⟩ := hI
    exact lv_dup hx hb hd hv (hR H locs ls hl hw hS b1 b2 b3 b4)
  | pop =>
    obtain ⟨rfl, v, r, rfl, hv, hR⟩ := hI
    exact lv_pop hx hb hd hv (hR H locs ls hl hw hS b1 b2 b3 b4)
  | dup2 =>
    obtain ⟨rfl, v, u, r, rfl, hv, hu, hR⟩ := hI
    exact lv_dup2_11 hx hb hd hv hu (hR H locs ls hl hw hS b1 b2 b3 b4)
  | ifCond c off =>
    obtain ⟨rfl, x, r, rfl, hz, hR1, hR2⟩ := hI
    cases c with
    | eq => exact lv_if_eq hx hb hd (rJ_eq hz) (fun q => hR1 q H locs ls hl hw hS b1 b2 b3 b4) (fun q => hR2 q H locs ls hl hw hS b1 b2 b3 b4)
    | ne => exact lv_if_ne hx hb hd (rJ_eq hz) (fun q => hR1 q H locs ls hl hw hS b1 b2 b3 b4) (fun q => hR2 (fun z => z q) H locs ls hl hw hS b1 b2 b3 b4)
    | lt => exact lv_if_lt hx hb hd (rJ_eq hz) (fun q => hR1 q H locs ls hl hw hS b1 b2 b3 b4) (fun q => hR2 q H locs ls hl hw hS b1 b2 b3 b4)
    | ge => exact lv_if_ge hx hb hd (rJ_eq hz) (fun q => hR1 q H locs ls hl hw hS b1 b2 b3 b4) (fun q => hR2 q H locs ls hl hw hS b1 b2 b3 b4)
    | gt => exact lv_if_gt hx hb hd (rJ_eq hz) (fun q => hR1 q H locs ls hl hw hS b1 b2 b3 b4) (fun q => hR2 q H locs ls hl hw hS b1 b2 b3 b4)
    | le => exact lv_if_le hx hb hd (rJ_eq hz) (fun q => hR1 q H locs ls hl hw hS b1 b2 b3 b4) (fun q => hR2 q H locs ls hl hw hS b1 b2 b3 b4)
  | if_icmp c off =>
    obtain ⟨rfl, x, y, r, rfl, hz, hR1, hR2⟩ := hI
    cases c with
    | eq => exact lv_icmp_eq hx hb hd (rJ_eq hz) (fun q => hR1 q H locs ls hl hw hS b1 b2 b3 b4) (fun q => hR2 q H locs ls hl hw hS b1 b2 b3 b4)
    | ne => exact lv_icmp_ne hx hb hd (rJ_eq hz) (fun q => hR1 q H locs ls hl hw hS b1 b2 b3 b4) (fun q => hR2 (fun z => z q) H locs ls hl hw hS b1 b2 b3 b4)
    | lt => exact lv_icmp_lt hx hb hd (rJ_eq hz) (fun q => hR1 q H locs ls hl hw hS b1 b2 b3 b4) (fun q => hR2 q H locs ls hl hw hS b1 b2 b3 b4)
    | ge => exact lv_icmp_ge hx hb hd (rJ_eq hz) (fun q => hR1 q H locs ls hl hw hS b1 b2 b3 b4) (fun q => hR2 q H locs ls hl hw hS b1 b2 b3 b4)
    | gt => exact lv_icmp_gt hx hb hd (rJ_eq hz) (fun q => hR1 q H locs ls hl hw hS b1 b2 b3 b4) (fun q => hR2 q H locs ls hl hw hS b1 b2 b3 b4)
    | le => exact lv_icmp_le hx hb hd (rJ_eq hz) (fun q => hR1 q H locs ls hl hw hS b1 b2 b3 b4) (fun q => hR2 q H locs ls hl hw hS b1 b2 b3 b4)
  | goto off =>
    obtain ⟨rfl, hz, hR⟩ := hI
    exact lv_goto hx hb hd (rJ_eq hz) (hR H locs ls hl hw hS b1 b2 b3 b4)
  | tableswitch d lw hg offs =>
    obtain ⟨x, r, rfl, hR1, hR2⟩ := hI
    by_cases hq : x.toInt < lw ∨ hg < x.toInt
    · exact lv_tableOut hx hb hd hq (rJ_eq (hR1 hq).1) ((hR1 hq).2 H locs ls hl hw hS b1 b2 b3 b4)
    · obtain ⟨off, ho, hz, hR⟩ := hR2 hq
      exact lv_tableIn hx hb hd (fun z => hq (Or.inl z)) (fun z => hq (Or.inr z)) ho (rJ_eq hz) (hR H locs ls hl hw hS b1 b2 b3 b4)
  | lookupswitch d ps =>
    obtain ⟨x, r, rfl, hs, hz, hR⟩ := hI
    exact lv_lookup hx hb hd hs rfl (rJ_eq hz) (hR H locs ls hl hw hS b1 b2 b3 b4)
  | getfield k =>
    obtain ⟨rfl, a, r, ci, j, v, rfl, hf, hv, hR⟩ := hI
    exact r_getf hx hb hts hown hst hS hw hf hv hd (hR H locs ls hl hw hS b1 b2 b3 b4)
  | putfield k =>
    obtain ⟨rfl, v, a, r, ci, j, ty, w2, rfl, hf, hty, hn, hfit, hfin, hv, hR⟩ := hI
    have hz : w2.2 = w.2 := by
      unfold rPf at hv
      split at hv
      · split at hv
        · cases hv; rfl
        · cases hv
      · cases hv
    exact r_putf hx hb hts hown hst hS hw hini hf hty hn hfit hfin hv hd (fun H1 locs1 hw1 hS1 => by
      have h9 := hR H1 locs1 ls hl hw1 hS1
      dsimp only at h9
      rw [hz] at h9
      exact h9 b1 b2 b3 b4)
  | getstatic k =>
    obtain ⟨rfl, j, hf, hR⟩ := hI
    exact r_gets hx hb hts hown hst hS hf hd (hR H locs ls hl hw hS b1 b2 b3 b4)
  | iaload =>
    obtain ⟨rfl, i, a, r, t, n, g, rfl, ha, ht, hin, hR⟩ := hI
    exact r_ial hx hb hst hw ha ht hin hd (hR H locs ls hl hw hS b1 b2 b3 b4)
  | baload =>
    obtain ⟨rfl, i, a, r, t, n, g, rfl, ha, ht, hin, hR⟩ := hI
    exact r_bal hx hb hst hw ha ht hin hd (hR H locs ls hl hw hS b1 b2 b3 b4)
  | laload =>
    obtain ⟨rfl, i, a, r, n, g, rfl, ha, hin, hR⟩ := hI
    exact r_lal hx hb hst hw ha hin hd (hR H locs ls hl hw hS b1 b2 b3 b4)
  | aaload =>
    obtain ⟨rfl, i, a, r, n, g, rfl, ha, hin, hR⟩ := hI
    exact r_aal hx hb hst hw ha hin hd (hR H locs ls hl hw hS b1 b2 b3 b4)
  | iastore =>
    obtain ⟨rfl, x, i, a, r, n, g, rfl, ha, hin, hR⟩ := hI
    exact r_ias hx hb hst hS hw ha hin hd (fun H1 locs1 hw1 hS1 => hR H1 locs1 ls hl hw1 hS1 b1 b2 b3 b4)
  | bastore =>
    obtain ⟨rfl, x, i, a, r, n, g, rfl, ha, hin, hR⟩ := hI
    exact r_bas hx hb hst hS hw ha hin hd (fun H1 locs1 hw1 hS1 => hR H1 locs1 ls hl hw1 hS1 b1 b2 b3 b4)
  | lastore =>
    obtain ⟨rfl, x, i, a, r, n, g, rfl, ha, hin, hR⟩ := hI
    exact r_las hx hb hst hS hw ha hin hd (fun H1 locs1 hw1 hS1 => hR H1 locs1 ls hl hw1 hS1 b1 b2 b3 b4)
  | aastore =>
    obtain ⟨rfl, x, i, a, r, n, g, rfl, ha, hx1, hin, hR⟩ := hI
    exact r_aas hx hb hst hS hw ha hx1 hin hd (fun H1 locs1 hw1 hS1 => hR H1 locs1 ls hl hw1 hS1 b1 b2 b3 b4)
  | arraylength =>
    obtain ⟨rfl, a, r, n, rfl, ha, hR⟩ := hI
    exact r_aln hx hb hst hw ha hd (hR H locs ls hl hw hS b1 b2 b3 b4)
  | new k =>
    obtain ⟨rfl, ci, n, fs, hf, q1, q2, hR⟩ := hI
    exact r_new hx hb hts hown hst hS hw hf (by omega) (by omega) hd (fun H1 hw1 hS1 => by
      have h9 := hR H1 locs ls hl hw1 hS1 (Nat.le_succ_of_le b1) q1 (Nat.le_trans b3 (Nat.le_add_right _ _)) q2
      dsimp only [rNew] at h9
      rw [show w.2.1 + 1 - n0 = w.2.1 - n0 + 1 by omega, show w.2.2 + n - s0 = w.2.2 - s0 + n by omega] at h9
      exact h9)
  | newarray t =>
    obtain ⟨rfl, n, r, ee, rfl, hn, hle, hz, q1, q2, hR⟩ := hI
    exact r_newa hx hb hts hst hS hw hn hle hz (by omega) (by omega) hd (fun H1 hw1 hS1 => by
      have h9 := hR H1 locs ls hl hw1 hS1 (Nat.le_succ_of_le b1) q1 (Nat.le_trans b3 (Nat.le_add_right _ _)) q2
      dsimp only [rNew] at h9
      rw [show w.2.1 + 1 - n0 = w.2.1 - n0 + 1 by omega, show w.2.2 + n.toNatClampNeg - s0 = w.2.2 - s0 + n.toNatClampNeg by omega] at h9
      exact h9)
  | anewarray k =>
    obtain ⟨rfl, n, r, rfl, hk, hn, hle, q1, q2, hR⟩ := hI
    cases hk
    exact r_anw hx hb hts hown hst hS hw hn hle (by omega) (by omega) hd (fun H1 hw1 hS1 => by
      have h9 := hR H1 locs ls hl hw1 hS1 (Nat.le_succ_of_le b1) q1 (Nat.le_trans b3 (Nat.le_add_right _ _)) q2
      dsimp only [rNew] at h9
      rw [show w.2.1 + 1 - n0 = w.2.1 - n0 + 1 by omega, show w.2.2 + n.toNatClampNeg - s0 = w.2.2 - s0 + n.toNatClampNeg by omega] at h9
      exact h9)
  | invokevirtual k =>
    obtain ⟨rfl, md, mid, As, a, r, hf, hmd, hm, hn, rfl, hcat, his, hR⟩ := hI
    · obtain ⟨hk1, hk2⟩ := hk ⟨_, _, _, _, hR⟩
      have hms : md.2.2.2.2.2.2.1 + w.2.1 ≤ lim.1 ∧ md.2.2.2.2.2.2.2 + w.2.2 ≤ lim.2 := by
        rcases hm with ⟨z1, z2⟩ | ⟨z1, z2⟩
        · rw [z1, z2]; omega
        · omega
      have hgo : ∀ (v : Option Value) (w' : rW) (H1 : Heap) (locs1 : List Loc), rGd p l e Rm s m args below meth c Qf Γ nL n0 s0 lim (pc + 3, lo, v.toList ++ r, w') → rWd Γ w' s H1 → w'.2.1 = w.2.1 + md.2.2.2.2.2.2.1 → w'.2.2 = w.2.2 + md.2.2.2.2.2.2.2 → va_S (rA Γ) s.heap H1 locs1 → W p l e Rm s m args below meth c H1 locs1 (w.2.1 - n0 + md.2.2.2.2.2.2.1) (w.2.2 - s0 + md.2.2.2.2.2.2.2) Qf (F0 m (pc + 3) ls (v.toList ++ r)) := by
        intro v w' H1 locs1 hR hw1 z1 z2 hS1
        have h9 := hR H1 locs1 ls hl hw1 hS1 (by dsimp only; omega) (by dsimp only; omega) (by dsimp only; omega) (by dsimp only; omega)
        dsimp only at h9
        rw [show w'.2.1 - n0 = w.2.1 - n0 + md.2.2.2.2.2.2.1 by omega, show w'.2.2 - s0 = w.2.2 - s0 + md.2.2.2.2.2.2.2 by omega] at h9
        exact h9
      have hs1 : ls.size = nL := hl.1
      obtain ⟨ic, jc, hch⟩ := k_mth hmd
      simp only [rChk, Bool.and_eq_true, decide_eq_true_eq, beq_iff_eq, bne_iff_ne, ne_eq] at hch
      obtain ⟨⟨⟨⟨⟨⟨⟨hc1, hc2⟩, hc3⟩, hc4⟩, hc5⟩, hc6⟩, hc7⟩, hc8⟩ := hch
      have hcw : ∀ w ∈ (Cond.code md.1 md.2.1 md.2.2.1 md.2.2.2.1 :: tb), w ∈ tb := fun w h => (List.mem_cons.mp h).elim (fun z => by rw [z]; exact rB2_in hc2) id
      obtain ⟨i1, i2, i3, hck⟩ := k_cal (lk_mem hf)
      simp only [rCk, hmd, Bool.and_eq_true, decide_eq_true_eq, beq_iff_eq, Bool.or_eq_true] at hck
      obtain ⟨⟨⟨hk3, hk4⟩, hk5⟩, hk6⟩ := hck
      exact r_go (md := md) (w := w) (va_runV (As := As) (rest := r) ⟨hx, hb, hml, hown, hts⟩ (hC mid md _ w _ hmd hR) (cwV md.2.2.2.2.2.1 hts (tb_goodIn (fun w h => by
        rcases List.mem_append.mp h with h | h
        · simp only [List.mem_cons, List.not_mem_nil, or_false] at h
          rcases h with rfl | rfl | rfl | rfl
          · exact rB2_in hk3
          · exact rB2_in hk4
          · exact rB2_in hk5
          · exact rB2_in hc3
        · exact hcw w h)) rfl rfl rfl ⟨rfl, hc4, hc5, hc6⟩ ⟨by show k0 + 1 ≤ _; exact hk1, by show 8 + (md.2.2.1 + 11) + 27 * k0 ≤ _; omega⟩) ⟨rPre_blind Γ w _, by rw [← hc8]; exact r_recv hst hw his hk6, rPre_at hst hS hw _⟩ rfl hn hs1 rfl (lv_room hcat) hd ⟨by omega, by omega⟩) hS hgo
  | invokespecial k =>
    obtain ⟨rfl, hI⟩ := hI
    rcases hI with ⟨md, mid, As, a, r, hf, hmd, hm, hn, rfl, hcat, his, hR⟩ | ⟨md, mid, As, a, r, hf, hmd, hm, hn, rfl, hcat, his, hR⟩ | ⟨a, r, hf, h1, rfl, hcat, hR⟩
    · obtain ⟨hk1, hk2⟩ := hk ⟨_, _, _, _, hR⟩
      have hms : md.2.2.2.2.2.2.1 + w.2.1 ≤ lim.1 ∧ md.2.2.2.2.2.2.2 + w.2.2 ≤ lim.2 := by
        rcases hm with ⟨z1, z2⟩ | ⟨z1, z2⟩
        · rw [z1, z2]; omega
        · omega
      have hgo : ∀ (v : Option Value) (w' : rW) (H1 : Heap) (locs1 : List Loc), rGd p l e Rm s m args below meth c Qf Γ nL n0 s0 lim (pc + 3, lo, v.toList ++ r, w') → rWd Γ w' s H1 → w'.2.1 = w.2.1 + md.2.2.2.2.2.2.1 → w'.2.2 = w.2.2 + md.2.2.2.2.2.2.2 → va_S (rA Γ) s.heap H1 locs1 → W p l e Rm s m args below meth c H1 locs1 (w.2.1 - n0 + md.2.2.2.2.2.2.1) (w.2.2 - s0 + md.2.2.2.2.2.2.2) Qf (F0 m (pc + 3) ls (v.toList ++ r)) := by
        intro v w' H1 locs1 hR hw1 z1 z2 hS1
        have h9 := hR H1 locs1 ls hl hw1 hS1 (by dsimp only; omega) (by dsimp only; omega) (by dsimp only; omega) (by dsimp only; omega)
        dsimp only at h9
        rw [show w'.2.1 - n0 = w.2.1 - n0 + md.2.2.2.2.2.2.1 by omega, show w'.2.2 - s0 = w.2.2 - s0 + md.2.2.2.2.2.2.2 by omega] at h9
        exact h9
      have hs1 : ls.size = nL := hl.1
      obtain ⟨ic, jc, hch⟩ := k_mth hmd
      simp only [rChk, Bool.and_eq_true, decide_eq_true_eq, beq_iff_eq, bne_iff_ne, ne_eq] at hch
      obtain ⟨⟨⟨⟨⟨⟨⟨hc1, hc2⟩, hc3⟩, hc4⟩, hc5⟩, hc6⟩, hc7⟩, hc8⟩ := hch
      have hcw : ∀ w ∈ (Cond.code md.1 md.2.1 md.2.2.1 md.2.2.2.1 :: tb), w ∈ tb := fun w h => (List.mem_cons.mp h).elim (fun z => by rw [z]; exact rB2_in hc2) id
      obtain ⟨i1, i2, i3, hck⟩ := k_cal (lk_mem hf)
      simp only [rCk, hmd, Bool.and_eq_true, decide_eq_true_eq, beq_iff_eq, Bool.or_eq_true] at hck
      obtain ⟨⟨⟨⟨hk3, hk4⟩, hk5⟩, hk6⟩, hk7⟩ := hck
      exact r_go (md := md) (w := w) (va_runI (As := As) (rest := r) ⟨hx, hb, hml, hown, hts⟩ (hC mid md _ w _ hmd hR) ⟨(callB_of md.2.2.2.2.2.1 hts (tb_goodIn hcw) (by rw [hk6]) rfl rfl (hts _ (rB2_in hc3)) (hts _ (rB2_in hk3)) ⟨hc4, hc5, hc6⟩ ⟨by show k0 + 1 ≤ _; exact hk1, by show 8 + (md.2.2.1 + 11) + 27 * k0 ≤ _; omega⟩), hk5, hts _ (rB2_in hk4)⟩ ⟨rPre_blind Γ w _, rPre_at hst hS hw _⟩ rfl hn hs1 rfl (lv_room hcat) hd ⟨by omega, by omega⟩) hS hgo
    · obtain ⟨hk1, hk2⟩ := hk ⟨_, _, _, _, hR⟩
      have hms : md.2.2.2.2.2.2.1 + w.2.1 ≤ lim.1 ∧ md.2.2.2.2.2.2.2 + w.2.2 ≤ lim.2 := by
        rcases hm with ⟨z1, z2⟩ | ⟨z1, z2⟩
        · rw [z1, z2]; omega
        · omega
      have hgo : ∀ (v : Option Value) (w' : rW) (H1 : Heap) (locs1 : List Loc), rGd p l e Rm s m args below meth c Qf Γ nL n0 s0 lim (pc + 3, lo, v.toList ++ r, w') → rWd Γ w' s H1 → w'.2.1 = w.2.1 + md.2.2.2.2.2.2.1 → w'.2.2 = w.2.2 + md.2.2.2.2.2.2.2 → va_S (rA Γ) s.heap H1 locs1 → W p l e Rm s m args below meth c H1 locs1 (w.2.1 - n0 + md.2.2.2.2.2.2.1) (w.2.2 - s0 + md.2.2.2.2.2.2.2) Qf (F0 m (pc + 3) ls (v.toList ++ r)) := by
        intro v w' H1 locs1 hR hw1 z1 z2 hS1
        have h9 := hR H1 locs1 ls hl hw1 hS1 (by dsimp only; omega) (by dsimp only; omega) (by dsimp only; omega) (by dsimp only; omega)
        dsimp only at h9
        rw [show w'.2.1 - n0 = w.2.1 - n0 + md.2.2.2.2.2.2.1 by omega, show w'.2.2 - s0 = w.2.2 - s0 + md.2.2.2.2.2.2.2 by omega] at h9
        exact h9
      have hs1 : ls.size = nL := hl.1
      obtain ⟨ic, jc, hch⟩ := k_mth hmd
      simp only [rChk, Bool.and_eq_true, decide_eq_true_eq, beq_iff_eq, bne_iff_ne, ne_eq] at hch
      obtain ⟨⟨⟨⟨⟨⟨⟨hc1, hc2⟩, hc3⟩, hc4⟩, hc5⟩, hc6⟩, hc7⟩, hc8⟩ := hch
      have hcw : ∀ w ∈ (Cond.code md.1 md.2.1 md.2.2.1 md.2.2.2.1 :: tb), w ∈ tb := fun w h => (List.mem_cons.mp h).elim (fun z => by rw [z]; exact rB2_in hc2) id
      obtain ⟨i1, i2, i3, hck⟩ := k_cal (lk_mem hf)
      simp only [rCk, hmd, Bool.and_eq_true, decide_eq_true_eq, beq_iff_eq, Bool.or_eq_true] at hck
      obtain ⟨⟨⟨⟨hk3, hk4⟩, hk5⟩, hk6⟩, hk7⟩ := hck
      exact r_go (md := md) (w := w) (va_runIN (As := As) (rest := r) ⟨hx, hb, hml, hown, hts⟩ (hC mid md _ w _ hmd hR) ⟨(va_cnB md.2.2.2.2.2.1 hts (tb_goodIn hcw) (by rw [hk6]) rfl rfl (hst.2.2.2.2 _ hk3) (hts _ (rB2_in hc3)) ⟨hc4, hc5, hc6⟩ ⟨by show k0 + 1 ≤ _; exact hk1, by show 8 + (md.2.2.1 + 11) + 27 * k0 ≤ _; omega⟩), hk5, hts _ (rB2_in hk4)⟩ ⟨rPre_blind Γ w _, rPre_at hst hS hw _⟩ rfl hn hs1 rfl (lv_room hcat) hd ⟨by omega, by omega⟩) hS hgo
    · obtain ⟨i1, i2, i3, hck⟩ := k_cal (lk_mem hf)
      have hko := k_obj
      simp only [Bool.and_eq_true] at hko
      obtain ⟨⟨⟨⟨⟨⟨⟨⟨⟨ko1, ko2⟩, -⟩, -⟩, -⟩, -⟩, -⟩, -⟩, -⟩, -⟩ := hko
      have hf1 := hfr h1
      unfold rCat at hcat
      exact W.objInit hx hb hown (hts _ (rB2_in (by simpa [rCk] using hck))) (hts _ (rB_in ko1)) (hts _ (rB_in ko2)) rfl (by rw [hml]; exact hl.1) rfl hd hf1.1 (by show 2 * 0 + _ + 12 ≤ _; omega) (hR H locs ls hl hw hS b1 b2 b3 b4)
  | invokestatic k =>
    obtain ⟨rfl, hI⟩ := hI
    have hko := k_obj
    simp only [Bool.and_eq_true] at hko
    obtain ⟨⟨⟨⟨⟨⟨⟨⟨⟨ko1, ko2⟩, ko3⟩, ko4⟩, ko5⟩, ko6⟩, ko7⟩, ko8⟩, ko9⟩, ko10⟩ := hko
    rcases hI with ⟨md, mid, As, r, hf, hmd, hm, hn, rfl, hcat, hR⟩ | ⟨a0, sp, a, dp, n, r, m0, m1, f, g, hf, h1, rfl, hcat, ha0, ha, g1, g2, g3, g4, g5, hR⟩ | ⟨a0, sp, a, dp, n, r, m0, m1, f, g, hf, h1, rfl, hcat, ha0, ha, g1, g2, g3, g4, g5, hR⟩ | ⟨x, y, r, hf, h1, rfl, hcat, hR⟩ | ⟨x, y, r, hf, h1, rfl, hcat, hR⟩
    · obtain ⟨hk1, hk2⟩ := hk ⟨_, _, _, _, hR⟩
      have hms : md.2.2.2.2.2.2.1 + w.2.1 ≤ lim.1 ∧ md.2.2.2.2.2.2.2 + w.2.2 ≤ lim.2 := by
        rcases hm with ⟨z1, z2⟩ | ⟨z1, z2⟩
        · rw [z1, z2]; omega
        · omega
      have hgo : ∀ (v : Option Value) (w' : rW) (H1 : Heap) (locs1 : List Loc), rGd p l e Rm s m args below meth c Qf Γ nL n0 s0 lim (pc + 3, lo, v.toList ++ r, w') → rWd Γ w' s H1 → w'.2.1 = w.2.1 + md.2.2.2.2.2.2.1 → w'.2.2 = w.2.2 + md.2.2.2.2.2.2.2 → va_S (rA Γ) s.heap H1 locs1 → W p l e Rm s m args below meth c H1 locs1 (w.2.1 - n0 + md.2.2.2.2.2.2.1) (w.2.2 - s0 + md.2.2.2.2.2.2.2) Qf (F0 m (pc + 3) ls (v.toList ++ r)) := by
        intro v w' H1 locs1 hR hw1 z1 z2 hS1
        have h9 := hR H1 locs1 ls hl hw1 hS1 (by dsimp only; omega) (by dsimp only; omega) (by dsimp only; omega) (by dsimp only; omega)
        dsimp only at h9
        rw [show w'.2.1 - n0 = w.2.1 - n0 + md.2.2.2.2.2.2.1 by omega, show w'.2.2 - s0 = w.2.2 - s0 + md.2.2.2.2.2.2.2 by omega] at h9
        exact h9
      have hs1 : ls.size = nL := hl.1
      obtain ⟨ic, jc, hch⟩ := k_mth hmd
      simp only [rChk, Bool.and_eq_true, decide_eq_true_eq, beq_iff_eq, bne_iff_ne, ne_eq] at hch
      obtain ⟨⟨⟨⟨⟨⟨⟨hc1, hc2⟩, hc3⟩, hc4⟩, hc5⟩, hc6⟩, hc7⟩, hc8⟩ := hch
      have hcw : ∀ w ∈ (Cond.code md.1 md.2.1 md.2.2.1 md.2.2.2.1 :: tb), w ∈ tb := fun w h => (List.mem_cons.mp h).elim (fun z => by rw [z]; exact rB2_in hc2) id
      obtain ⟨i1, i2, i3, hck⟩ := k_cal (lk_mem hf)
      simp only [rCk, hmd, Bool.and_eq_true, decide_eq_true_eq, beq_iff_eq, Bool.or_eq_true] at hck
      obtain ⟨hk3, hk4⟩ := hck
      exact r_go (md := md) (w := w) (va_runS (As := As) (rest := r) ⟨hx, hb, hml, hown, hts⟩ (hC mid md _ w _ hmd hR) (va_cwS md.2.2.2.2.2.1 hts (tb_goodIn (fun w h => by
        rcases List.mem_append.mp h with h | h
        · simp only [List.mem_cons, List.not_mem_nil, or_false] at h
          rcases h with rfl | rfl | rfl
          · exact rB2_in hk3
          · exact rB2_in hk4
          · exact rB2_in hc3
        · exact hcw w h)) rfl rfl rfl ⟨hc4, hc5, hc6⟩ ⟨by show k0 + 1 ≤ _; exact hk1, by show 8 + (md.2.2.1 + 11) + 27 * k0 ≤ _; omega⟩) ⟨rPre_blind Γ w _, rPre_at hst hS hw _⟩ rfl hn hs1 rfl (lv_room hcat) hd ⟨by omega, by omega⟩) hS hgo
    · obtain ⟨i1, i2, i3, hck⟩ := k_cal (lk_mem hf)
      have hf1 := hfr h1
      unfold rCat at hcat
      exact r_cpI hx hb (by rw [hml]; exact hl.1.symm) hown (hts _ (rB2_in (by simpa [rCk] using hck))) (hts _ (rB_in ko3)) (hts _ (rB_in ko4)) (hts _ (rB_in ko5)) hst hS hw ha0 ha g1 g2 g3 g4 g5 hf1.1 (by rw [show nativeFrameWords "java/lang/System" "arraycopy" 5 = 7 by decide +kernel]; omega) hd (fun H1 locs1 hw1 hS1 => hR H1 locs1 ls hl hw1 hS1 b1 b2 b3 b4)
    · obtain ⟨i1, i2, i3, hck⟩ := k_cal (lk_mem hf)
      have hf1 := hfr h1
      unfold rCat at hcat
      exact r_cpL hx hb (by rw [hml]; exact hl.1.symm) hown (hts _ (rB2_in (by simpa [rCk] using hck))) (hts _ (rB_in ko3)) (hts _ (rB_in ko4)) (hts _ (rB_in ko5)) hst hS hw ha0 ha g1 g2 g3 g4 g5 hf1.1 (by rw [show nativeFrameWords "java/lang/System" "arraycopy" 5 = 7 by decide +kernel]; omega) hd (fun H1 locs1 hw1 hS1 => hR H1 locs1 ls hl hw1 hS1 b1 b2 b3 b4)
    · obtain ⟨i1, i2, i3, hck⟩ := k_cal (lk_mem hf)
      have hf1 := hfr h1
      unfold rCat at hcat
      exact va_mmax hx hb (by rw [hml]; exact hl.1.symm) hown (hts _ (rB2_in (by simpa [rCk] using hck))) (hts _ (rB_in ko6)) (hts _ (rB_in ko8)) (hts _ (rB_in ko9)) hf1.1 (by omega) (by omega) (by omega) hd (hR H locs ls hl hw hS b1 b2 b3 b4)
    · obtain ⟨i1, i2, i3, hck⟩ := k_cal (lk_mem hf)
      have hf1 := hfr h1
      unfold rCat at hcat
      exact va_mmin hx hb (by rw [hml]; exact hl.1.symm) hown (hts _ (rB2_in (by simpa [rCk] using hck))) (hts _ (rB_in ko7)) (hts _ (rB_in ko8)) (hts _ (rB_in ko10)) hf1.1 (by omega) (by omega) (by omega) hd (hR H locs ls hl hw hS b1 b2 b3 b4)
  | ireturn =>
    obtain ⟨rfl, v, hv, hQ⟩ := hI
    exact hout _ v pc st w H locs ls hd hv hQ hw hS b1 b2 b3 b4
  | lreturn =>
    obtain ⟨rfl, v, hv, hQ⟩ := hI
    exact hout _ v pc st w H locs ls hd hv hQ hw hS b1 b2 b3 b4
  | areturn =>
    obtain ⟨rfl, v, hv, hQ⟩ := hI
    exact hout _ v pc st w H locs ls hd hv hQ hw hS b1 b2 b3 b4
  | return_ =>
    obtain ⟨rfl, v, hv, hQ⟩ := hI
    exact hout _ v pc st w H locs ls hd hv hQ hw hS b1 b2 b3 b4
  | _ => exact False.elim hI
end RSND
