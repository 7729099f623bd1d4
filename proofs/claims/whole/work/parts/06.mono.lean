section RMono
variable {R R' : rS → Prop} {pc : Nat} {lo : List (Option Value)} {st : List Value} {w : rW}
theorem rPush_mono (h : ∀ z, R z → R' z) {len : Nat} {v : Value} : rPush R pc lo st w len v → rPush R' pc lo st w len v := fun q => h _ q
theorem rBin_mono (h : ∀ z, R z → R' z) {f : Int32 → Int32 → Int32} : rBin R pc lo st w f → rBin R' pc lo st w f := fun ⟨x0, x1, x2, x3, q⟩ => ⟨x0, x1, x2, x3, h _ q⟩
theorem rDiv_mono (h : ∀ z, R z → R' z) {f : Int32 → Int32 → Int32} : rDiv R pc lo st w f → rDiv R' pc lo st w f := fun ⟨x0, x1, x2, x3, x4, q⟩ => ⟨x0, x1, x2, x3, x4, h _ q⟩
theorem rUn_mono (h : ∀ z, R z → R' z) {f : Int32 → Int32} : rUn R pc lo st w f → rUn R' pc lo st w f := fun ⟨x0, x1, x2, q⟩ => ⟨x0, x1, x2, h _ q⟩
theorem rBinL_mono (h : ∀ z, R z → R' z) {f : Int64 → Int64 → Int64} : rBinL R pc lo st w f → rBinL R' pc lo st w f := fun ⟨x0, x1, x2, x3, q⟩ => ⟨x0, x1, x2, x3, h _ q⟩
theorem rShL_mono (h : ∀ z, R z → R' z) {f : Int64 → Int32 → Int64} : rShL R pc lo st w f → rShL R' pc lo st w f := fun ⟨x0, x1, x2, x3, q⟩ => ⟨x0, x1, x2, x3, h _ q⟩
theorem rCmpL_mono (h : ∀ z, R z → R' z)  : rCmpL R pc lo st w  → rCmpL R' pc lo st w  := fun ⟨x0, x1, x2, x3, q⟩ => ⟨x0, x1, x2, x3, h _ q⟩
theorem rI2L_mono (h : ∀ z, R z → R' z)  : rI2L R pc lo st w  → rI2L R' pc lo st w  := fun ⟨x0, x1, x2, q⟩ => ⟨x0, x1, x2, h _ q⟩
theorem rL2I_mono (h : ∀ z, R z → R' z)  : rL2I R pc lo st w  → rL2I R' pc lo st w  := fun ⟨x0, x1, x2, q⟩ => ⟨x0, x1, x2, h _ q⟩
theorem rLdI_mono (h : ∀ z, R z → R' z) {len : Nat} {i : Nat} : rLdI R pc lo st w len i → rLdI R' pc lo st w len i := fun ⟨x0, x1, q⟩ => ⟨x0, x1, h _ q⟩
theorem rLdL_mono (h : ∀ z, R z → R' z) {len : Nat} {i : Nat} : rLdL R pc lo st w len i → rLdL R' pc lo st w len i := fun ⟨x0, x1, q⟩ => ⟨x0, x1, h _ q⟩
theorem rLdA_mono (h : ∀ z, R z → R' z) {len : Nat} {i : Nat} : rLdA R pc lo st w len i → rLdA R' pc lo st w len i := fun ⟨x0, x1, q⟩ => ⟨x0, x1, h _ q⟩
theorem rStI_mono (h : ∀ z, R z → R' z) {len : Nat} {i : Nat} : rStI R pc lo st w len i → rStI R' pc lo st w len i := fun ⟨x0, x1, x2, x3, x4, q⟩ => ⟨x0, x1, x2, x3, x4, h _ q⟩
theorem rStA_mono (h : ∀ z, R z → R' z) {len : Nat} {i : Nat} : rStA R pc lo st w len i → rStA R' pc lo st w len i := fun ⟨x0, x1, x2, x3, x4, q⟩ => ⟨x0, x1, x2, x3, x4, h _ q⟩
theorem rStL_mono (h : ∀ z, R z → R' z) {len : Nat} {i : Nat} : rStL R pc lo st w len i → rStL R' pc lo st w len i := fun ⟨x0, x1, x2, x3, x4, q⟩ => ⟨x0, x1, x2, x3, x4, h _ q⟩
theorem rInc_mono (h : ∀ z, R z → R' z) {i : Nat} {n : Int} : rInc R pc lo st w i n → rInc R' pc lo st w i n := fun ⟨x0, x1, q⟩ => ⟨x0, x1, h _ q⟩
theorem rDup_mono (h : ∀ z, R z → R' z)  : rDup R pc lo st w  → rDup R' pc lo st w  := fun ⟨x0, x1, x2, x3, q⟩ => ⟨x0, x1, x2, x3, h _ q⟩
theorem rPop_mono (h : ∀ z, R z → R' z)  : rPop R pc lo st w  → rPop R' pc lo st w  := fun ⟨x0, x1, x2, x3, q⟩ => ⟨x0, x1, x2, x3, h _ q⟩
theorem rDup2_mono (h : ∀ z, R z → R' z)  : rDup2 R pc lo st w  → rDup2 R' pc lo st w  := fun ⟨x0, x1, x2, x3, x4, x5, q⟩ => ⟨x0, x1, x2, x3, x4, x5, h _ q⟩
theorem rGetf_mono (h : ∀ z, R z → R' z) {oc : Nat} {k : Nat} : rGetf R pc lo st w oc k → rGetf R' pc lo st w oc k := fun ⟨x0, x1, x2, x3, x4, x5, x6, x7, q⟩ => ⟨x0, x1, x2, x3, x4, x5, x6, x7, h _ q⟩
theorem rPutf_mono (h : ∀ z, R z → R' z) {oc : Nat} {ini : Bool} {k : Nat} : rPutf R pc lo st w oc ini k → rPutf R' pc lo st w oc ini k := fun ⟨x0, x1, x2, x3, x4, x5, x6, x7, x8, x9, x10, x11, x12, x13, q⟩ => ⟨x0, x1, x2, x3, x4, x5, x6, x7, x8, x9, x10, x11, x12, x13, h _ q⟩
theorem rIal_mono (h : ∀ z, R z → R' z)  : rIal R pc lo st w  → rIal R' pc lo st w  := fun ⟨x0, x1, x2, x3, x4, x5, x6, x7, x8, x9, q⟩ => ⟨x0, x1, x2, x3, x4, x5, x6, x7, x8, x9, h _ q⟩
theorem rBal_mono (h : ∀ z, R z → R' z)  : rBal R pc lo st w  → rBal R' pc lo st w  := fun ⟨x0, x1, x2, x3, x4, x5, x6, x7, x8, x9, q⟩ => ⟨x0, x1, x2, x3, x4, x5, x6, x7, x8, x9, h _ q⟩
theorem rLal_mono (h : ∀ z, R z → R' z)  : rLal R pc lo st w  → rLal R' pc lo st w  := fun ⟨x0, x1, x2, x3, x4, x5, x6, x7, q⟩ => ⟨x0, x1, x2, x3, x4, x5, x6, x7, h _ q⟩
theorem rAal_mono (h : ∀ z, R z → R' z)  : rAal R pc lo st w  → rAal R' pc lo st w  := fun ⟨x0, x1, x2, x3, x4, x5, x6, x7, q⟩ => ⟨x0, x1, x2, x3, x4, x5, x6, x7, h _ q⟩
theorem rIas_mono (h : ∀ z, R z → R' z)  : rIas R pc lo st w  → rIas R' pc lo st w  := fun ⟨x0, x1, x2, x3, x4, x5, x6, x7, x8, q⟩ => ⟨x0, x1, x2, x3, x4, x5, x6, x7, x8, h _ q⟩
theorem rBas_mono (h : ∀ z, R z → R' z)  : rBas R pc lo st w  → rBas R' pc lo st w  := fun ⟨x0, x1, x2, x3, x4, x5, x6, x7, x8, q⟩ => ⟨x0, x1, x2, x3, x4, x5, x6, x7, x8, h _ q⟩
theorem rLas_mono (h : ∀ z, R z → R' z)  : rLas R pc lo st w  → rLas R' pc lo st w  := fun ⟨x0, x1, x2, x3, x4, x5, x6, x7, x8, q⟩ => ⟨x0, x1, x2, x3, x4, x5, x6, x7, x8, h _ q⟩
theorem rAas_mono (h : ∀ z, R z → R' z)  : rAas R pc lo st w  → rAas R' pc lo st w  := fun ⟨x0, x1, x2, x3, x4, x5, x6, x7, x8, x9, q⟩ => ⟨x0, x1, x2, x3, x4, x5, x6, x7, x8, x9, h _ q⟩
theorem rAln_mono (h : ∀ z, R z → R' z)  : rAln R pc lo st w  → rAln R' pc lo st w  := fun ⟨x0, x1, x2, x3, x4, q⟩ => ⟨x0, x1, x2, x3, x4, h _ q⟩
theorem rNw_mono (h : ∀ z, R z → R' z) {lim : Nat × Nat} {oc : Nat} {k : Nat} : rNw R pc lo st w lim oc k → rNw R' pc lo st w lim oc k := fun ⟨x0, x1, x2, x3, x4, x5, q⟩ => ⟨x0, x1, x2, x3, x4, x5, h _ q⟩
theorem rNwa_mono (h : ∀ z, R z → R' z) {lim : Nat × Nat} {t : ArrayType} : rNwa R pc lo st w lim t → rNwa R' pc lo st w lim t := fun ⟨x0, x1, x2, x3, x4, x5, x6, x7, x8, q⟩ => ⟨x0, x1, x2, x3, x4, x5, x6, x7, x8, h _ q⟩
theorem rAnw_mono (h : ∀ z, R z → R' z) {lim : Nat × Nat} {oc : Nat} {k : Nat} : rAnw R pc lo st w lim oc k → rAnw R' pc lo st w lim oc k := fun ⟨x0, x1, x2, x3, x4, x5, x6, x7, q⟩ => ⟨x0, x1, x2, x3, x4, x5, x6, x7, h _ q⟩
theorem rCo4_mono (h : ∀ z, R z → R' z) {fr : Nat} {oc : Nat} {k : Nat} : rCo4 R pc lo st w fr oc k → rCo4 R' pc lo st w fr oc k := fun ⟨x0, x1, x2, x3, x4, x5, q⟩ => ⟨x0, x1, x2, x3, x4, x5, h _ q⟩
theorem rCpI_mono (h : ∀ z, R z → R' z) {fr : Nat} {oc : Nat} {k : Nat} : rCpI R pc lo st w fr oc k → rCpI R' pc lo st w fr oc k := fun ⟨x0, x1, x2, x3, x4, x5, x6, x7, x8, x9, x10, x11, x12, x13, x14, x15, x16, x17, x18, x19, x20, q⟩ => ⟨x0, x1, x2, x3, x4, x5, x6, x7, x8, x9, x10, x11, x12, x13, x14, x15, x16, x17, x18, x19, x20, h _ q⟩
theorem rCpL_mono (h : ∀ z, R z → R' z) {fr : Nat} {oc : Nat} {k : Nat} : rCpL R pc lo st w fr oc k → rCpL R' pc lo st w fr oc k := fun ⟨x0, x1, x2, x3, x4, x5, x6, x7, x8, x9, x10, x11, x12, x13, x14, x15, x16, x17, x18, x19, x20, q⟩ => ⟨x0, x1, x2, x3, x4, x5, x6, x7, x8, x9, x10, x11, x12, x13, x14, x15, x16, x17, x18, x19, x20, h _ q⟩
theorem rMx_mono (h : ∀ z, R z → R' z) {fr : Nat} {oc : Nat} {k : Nat} : rMx R pc lo st w fr oc k → rMx R' pc lo st w fr oc k := fun ⟨x0, x1, x2, x3, x4, x5, x6, q⟩ => ⟨x0, x1, x2, x3, x4, x5, x6, h _ q⟩
theorem rMn_mono (h : ∀ z, R z → R' z) {fr : Nat} {oc : Nat} {k : Nat} : rMn R pc lo st w fr oc k → rMn R' pc lo st w fr oc k := fun ⟨x0, x1, x2, x3, x4, x5, x6, q⟩ => ⟨x0, x1, x2, x3, x4, x5, x6, h _ q⟩
theorem rLdcw_mono (h : ∀ z, R z → R' z) {oc : Nat} {k : Nat} : rLdcw R pc lo st w oc k → rLdcw R' pc lo st w oc k := fun ⟨x0, x1, q⟩ => ⟨x0, x1, h _ q⟩
theorem rLdc2_mono (h : ∀ z, R z → R' z) {oc : Nat} {k : Nat} : rLdc2 R pc lo st w oc k → rLdc2 R' pc lo st w oc k := fun ⟨x0, x1, q⟩ => ⟨x0, x1, h _ q⟩
theorem rGs_mono (h : ∀ z, R z → R' z) {θ : (Nat → Value) × (Nat → Nat)} {oc : Nat} {k : Nat} : rGs R pc lo st w θ oc k → rGs R' pc lo st w θ oc k := fun ⟨x0, x1, q⟩ => ⟨x0, x1, h _ q⟩
theorem rGo_mono (h : ∀ z, R z → R' z) {off : Int} : rGo R pc lo st w off → rGo R' pc lo st w off := fun ⟨x0, q⟩ => ⟨x0, h _ q⟩
theorem rCo_mono (h : ∀ z, R z → R' z) {c : ClassFile.Cond} {off : Int} : rCo R pc lo st w c off → rCo R' pc lo st w c off := fun ⟨x, r, e, z, a, b⟩ => ⟨x, r, e, z, fun q => h _ (a q), fun q => h _ (b q)⟩
theorem rCo2_mono (h : ∀ z, R z → R' z) {c : ClassFile.Cond} {off : Int} : rCo2 R pc lo st w c off → rCo2 R' pc lo st w c off := fun ⟨x, y, r, e, z, a, b⟩ => ⟨x, y, r, e, z, fun q => h _ (a q), fun q => h _ (b q)⟩
theorem rTs_mono (h : ∀ z, R z → R' z) {d l u : Int} {offs : Array Int} : rTs R pc lo st w d l u offs → rTs R' pc lo st w d l u offs := fun ⟨x, r, e, a, b⟩ => ⟨x, r, e, fun q => ⟨(a q).1, h _ (a q).2⟩, fun q => let ⟨off, z1, z2, z3⟩ := b q; ⟨off, z1, z2, h _ z3⟩⟩
theorem rLs_mono (h : ∀ z, R z → R' z) {d : Int} {ps : Array (Int × Int)} : rLs R pc lo st w d ps → rLs R' pc lo st w d ps := fun ⟨x, r, e, a, b, q⟩ => ⟨x, r, e, a, b, h _ q⟩
theorem rLdc_mono (h : ∀ z, R z → R' z) {θ : (Nat → Value) × (Nat → Nat)} {oc k : Nat} : rLdc R pc lo st w θ oc k → rLdc R' pc lo st w θ oc k := fun q => q.elim (fun ⟨v, a, b⟩ => Or.inl ⟨v, a, h _ b⟩) (fun ⟨v, a, b⟩ => Or.inr ⟨v, a, h _ b⟩)
def rMonoS (σ : rSg) : Prop := ∀ mid as w (Q Q' : rQ), (∀ v w', Q v w' → Q' v w') → σ mid as w Q → σ mid as w Q'
theorem rCv_mono (h : ∀ z, R z → R' z) {lim : Nat × Nat} {σ : rSg} (hs : rMonoS σ) {oc k kd : Nat} : rCv R pc lo st w lim σ oc k kd → rCv R' pc lo st w lim σ oc k kd := fun ⟨md, mid, As, a, r, x1, x2, x0, x3, x4, x5, x6, q⟩ => ⟨md, mid, As, a, r, x1, x2, x0, x3, x4, x5, x6, hs _ _ _ _ _ (fun _ _ z => h _ z) q⟩
theorem rCs_mono (h : ∀ z, R z → R' z) {lim : Nat × Nat} {σ : rSg} (hs : rMonoS σ) {oc k : Nat} : rCs R pc lo st w lim σ oc k → rCs R' pc lo st w lim σ oc k := fun ⟨md, mid, As, r, x1, x2, x0, x3, x4, x5, q⟩ => ⟨md, mid, As, r, x1, x2, x0, x3, x4, x5, hs _ _ _ _ _ (fun _ _ z => h _ z) q⟩
end RMono
theorem rI_mono {θ : (Nat → Value) × (Nat → Nat)} {σ : rSg} (hs : rMonoS σ) {fr oc : Nat} {ret : Option FieldType} {ini : Bool} {lim : Nat × Nat} {R R' : rS → Prop} {Q Q' : rQ} (h : ∀ z, R z → R' z) (hQ : ∀ v w, Q v w → Q' v w) {i : Instr} {len pc : Nat} {lo : List (Option Value)} {st : List Value} {w : rW} (hI : rI θ σ fr oc ret ini lim R Q i len pc lo st w) : rI θ σ fr oc ret ini lim R' Q' i len pc lo st w := by
  cases i with
  | iconst n => exact ⟨hI.1, rPush_mono h hI.2⟩
  | bipush n => exact ⟨hI.1, rPush_mono h hI.2⟩
  | sipush n => exact ⟨hI.1, rPush_mono h hI.2⟩
  | lconst n => exact ⟨hI.1, rPush_mono h hI.2⟩
  | ldc k => exact ⟨hI.1, rLdc_mono h hI.2⟩
  | ldc_w k => exact ⟨hI.1, rLdcw_mono h hI.2⟩
  | ldc2_w k => exact ⟨hI.1, rLdc2_mono h hI.2⟩
  | iload_n k => exact ⟨hI.1, rLdI_mono h hI.2⟩
  | iload k => exact ⟨hI.1, rLdI_mono h hI.2⟩
  | lload_n k => exact ⟨hI.1, rLdL_mono h hI.2⟩
  | lload k => exact ⟨hI.1, rLdL_mono h hI.2⟩
  | aload_n k => exact ⟨hI.1, rLdA_mono h hI.2⟩
  | aload k => exact ⟨hI.1, rLdA_mono h hI.2⟩
  | istore_n k => exact ⟨hI.1, rStI_mono h hI.2⟩
  | istore k => exact ⟨hI.1, rStI_mono h hI.2⟩
  | lstore_n k => exact ⟨hI.1, rStL_mono h hI.2⟩
  | lstore k => exact ⟨hI.1, rStL_mono h hI.2⟩
  | astore_n k => exact ⟨hI.1, rStA_mono h hI.2⟩
  | astore k => exact ⟨hI.1, rStA_mono h hI.2⟩
  | iinc k n => exact ⟨hI.1, rInc_mono h hI.2⟩
  | iadd => exact ⟨hI.1, rBin_mono h hI.2⟩
  | isub => exact ⟨hI.1, rBin_mono h hI.2⟩
  | imul => exact ⟨hI.1, rBin_mono h hI.2⟩
  | iand => exact ⟨hI.1, rBin_mono h hI.2⟩
  | ior => exact ⟨hI.1, rBin_mono h hI.2⟩
  | ixor => exact ⟨hI.1, rBin_mono h hI.2⟩
  | ishl => exact ⟨hI.1, rBin_mono h hI.2⟩
  | ishr => exact ⟨hI.1, rBin_mono h hI.2⟩
  | iushr => exact ⟨hI.1, rBin_mono h hI.2⟩
  | idiv => exact ⟨hI.1, rDiv_mono h hI.2⟩
  | irem => exact ⟨hI.1, rDiv_mono h hI.2⟩
  | ineg => exact ⟨hI.1, rUn_mono h hI.2⟩
  | i2b => exact ⟨hI.1, rUn_mono h hI.2⟩
  | i2s => exact ⟨hI.1, rUn_mono h hI.2⟩
  | i2c => exact ⟨hI.1, rUn_mono h hI.2⟩
  | ladd => exact ⟨hI.1, rBinL_mono h hI.2⟩
  | lsub => exact ⟨hI.1, rBinL_mono h hI.2⟩
  | lmul => exact ⟨hI.1, rBinL_mono h hI.2⟩
  | land => exact ⟨hI.1, rBinL_mono h hI.2⟩
  | lor => exact ⟨hI.1, rBinL_mono h hI.2⟩
  | lshl => exact ⟨hI.1, rShL_mono h hI.2⟩
  | lshr => exact ⟨hI.1, rShL_mono h hI.2⟩
  | lcmp => exact ⟨hI.1, rCmpL_mono h hI.2⟩
  | i2l => exact ⟨hI.1, rI2L_mono h hI.2⟩
  | l2i => exact ⟨hI.1, rL2I_mono h hI.2⟩
  | dup => exact ⟨hI.1, rDup_mono h hI.2⟩
  | dup2 => exact ⟨hI.1, rDup2_mono h hI.2⟩
  | pop => exact ⟨hI.1, rPop_mono h hI.2⟩
  | ifCond c off => exact ⟨hI.1, rCo_mono h hI.2⟩
  | if_icmp c off => exact ⟨hI.1, rCo2_mono h hI.2⟩
  | goto off => exact ⟨hI.1, rGo_mono h hI.2⟩
  | getfield k => exact ⟨hI.1, rGetf_mono h hI.2⟩
  | putfield k => exact ⟨hI.1, rPutf_mono h hI.2⟩
  | getstatic k => exact ⟨hI.1, rGs_mono h hI.2⟩
  | iaload => exact ⟨hI.1, rIal_mono h hI.2⟩
  | baload => exact ⟨hI.1, rBal_mono h hI.2⟩
  | laload => exact ⟨hI.1, rLal_mono h hI.2⟩
  | aaload => exact ⟨hI.1, rAal_mono h hI.2⟩
  | iastore => exact ⟨hI.1, rIas_mono h hI.2⟩
  | bastore => exact ⟨hI.1, rBas_mono h hI.2⟩
  | lastore => exact ⟨hI.1, rLas_mono h hI.2⟩
  | aastore => exact ⟨hI.1, rAas_mono h hI.2⟩
  | arraylength => exact ⟨hI.1, rAln_mono h hI.2⟩
  | new k => exact ⟨hI.1, rNw_mono h hI.2⟩
  | newarray t => exact ⟨hI.1, rNwa_mono h hI.2⟩
  | anewarray k => exact ⟨hI.1, rAnw_mono h hI.2⟩
  | tableswitch d l u offs => exact rTs_mono h hI
  | lookupswitch d ps => exact rLs_mono h hI
  | invokevirtual k => exact ⟨hI.1, rCv_mono h hs hI.2⟩
  | invokespecial k => exact ⟨hI.1, hI.2.imp (rCv_mono h hs) (fun z => z.imp (rCv_mono h hs) (rCo4_mono h))⟩
  | invokestatic k => exact ⟨hI.1, hI.2.imp (rCs_mono h hs) (fun z => z.imp (rCpI_mono h) (fun z => z.imp (rCpL_mono h) (fun z => z.imp (rMx_mono h) (rMn_mono h))))⟩
  | ireturn => exact ⟨hI.1, let ⟨v, a, b⟩ := hI.2; ⟨v, a, hQ _ _ b⟩⟩
  | lreturn => exact ⟨hI.1, let ⟨v, a, b⟩ := hI.2; ⟨v, a, hQ _ _ b⟩⟩
  | areturn => exact ⟨hI.1, let ⟨v, a, b⟩ := hI.2; ⟨v, a, hQ _ _ b⟩⟩
  | return_ => exact ⟨hI.1, let ⟨v, a, b⟩ := hI.2; ⟨v, a, hQ _ _ b⟩⟩
  | _ => exact False.elim hI
theorem rStp_mono {X : rX} (hs : rMonoS X.2.1) {R R' : rS → Prop} {Q Q' : rQ} (h : ∀ z, R z → R' z) (hQ : ∀ v w, Q v w → Q' v w) {y : rS} (hI : rStp X R Q y) : rStp X R' Q' y := by
  unfold rStp at hI ⊢
  cases hd : decode X.2.2.2.2.1 y.1 with
  | ok q => rw [hd] at hI; exact rI_mono hs h hQ hI
  | error e => rw [hd] at hI; exact hI
theorem Wp_in {X : rX} (hs : rMonoS X.2.1) {Q : rQ} {x : rS} (h : rStp X (Wp X Q) Q x) : Wp X Q x := fun R hR => hR x (rStp_mono hs (fun z hz => hz R hR) (fun _ _ q => q) h)
theorem Wp_iff {X : rX} (hs : rMonoS X.2.1) {Q : rQ} {x : rS} : Wp X Q x ↔ rStp X (Wp X Q) Q x :=
  ⟨fun h => h (fun y => rStp X (Wp X Q) Q y) (fun y hy => rStp_mono hs (fun _ hz => Wp_in hs hz) (fun _ _ q => q) hy), Wp_in hs⟩
theorem Wp_mono {X : rX} (hs : rMonoS X.2.1) {Q Q' : rQ} (hQ : ∀ v w, Q v w → Q' v w) {x : rS} (h : Wp X Q x) : Wp X Q' x := h (fun y => Wp X Q' y) (fun y hy => Wp_in hs (rStp_mono hs (fun _ hz => hz) hQ hy))
theorem sg_mono (θ : (Nat → Value) × (Nat → Nat)) : ∀ n, rMonoS (sg θ n)
  | 0 => fun _ _ _ _ _ _ h => h
  | n + 1 => fun _ _ _ _ _ hQ ⟨md, h1, h2, h3⟩ => ⟨md, h1, h2, Wp_mono (X := rMX θ (sg θ n) n md _) (sg_mono θ n) (fun _ _ q => ⟨q.1, hQ _ _ q.2⟩) h3⟩
