/-! the two constructors -/
def c37 (k : Nat) : List rE := [rO 4 [.ref (k + 1), .ref (k + 9), .ref (k + 17), .int 0, .ref (k + 25), .ref (k + 27), .ref (k + 36)]] ++ av8 (k + 1) ++ av8 (k + 9) ++ av8 (k + 17) ++ [rO 2 [.int 0, .ref (k + 26), .int 0, .int 0], rBA 120 (fun _ => 0), rRA 4 (cShA k), rO 1 [.ref (k + 29), .int 0, .int 0], rLA 40 (fun _ => 0), rO 1 [.ref (k + 31), .int 0, .int 0], rLA 40 (fun _ => 0), rO 1 [.ref (k + 33), .int 0, .int 0], rLA 40 (fun _ => 0), rO 1 [.ref (k + 35), .int 0, .int 0], rLA 40 (fun _ => 0), rIA 7 (fun _ => 0)]
theorem sh_up (k : Nat) : va_up (va_up (va_up (va_up (fun _ => none) 0 (some (k + 28))) 1 (some (k + 30))) 2 (some (k + 32))) 3 (some (k + 34)) = cShA k := by
  funext q
  unfold va_up cShA
  match q with
  | 0 => rfl
  | 1 => rfl
  | 2 => rfl
  | 3 => rfl
  | q + 4 => simp
theorem vq0 : vp_in 0 4 := by unfold vp_in; decide
theorem vq1 : vp_in 1 4 := by unfold vp_in; decide
theorem vq2 : vp_in 2 4 := by unfold vp_in; decide
theorem vq3 : vp_in 3 4 := by unfold vp_in; decide
theorem cq0 : (0 : Int32).toNatClampNeg = 0 := by decide
theorem cq1 : (1 : Int32).toNatClampNeg = 1 := by decide
theorem cq2 : (2 : Int32).toNatClampNeg = 2 := by decide
theorem cq3 : (3 : Int32).toNatClampNeg = 3 := by decide
section T85
variable {θ : (Nat → Value) × (Nat → Nat)} {n : Nat} {h : Nat → Option rE} {k s : Nat} {Q : rQ}
theorem is_at {b i ci : Nat} {l : List rE} (hl : (match l[i]? with | some (.inr (.inr (.inr (c, _)))) => c == ci | _ => false) = true) : rIs (pW h b l s) (b + i) ci := by
  unfold rIs
  rw [pw_at]
  split at hl
  · rename_i c fs he
    rw [he]
    exact ⟨fs, by rw [beq_iff_eq.mp hl]⟩
  · cases hl
theorem sX5_init0 : sg θ (n + 3) 37 [.ref k] (pW h k [rO 4 [.null, .null, .null, .int 0, .null, .null, .null]] s) Q ↔ Q none (pW h k (c37 k) (s + 505)) := by
  rw [nX5_init]
  simp [eX5_init_0, eX5_init_1, eX5_init_4, eX5_init_5, eX5_init_8, eX5_init_9, eX5_init_12, eX5_init_15, eX5_init_16, eX5_init_19, eX5_init_20, eX5_init_23, eX5_init_26, eX5_init_27, eX5_init_30, eX5_init_31, eX5_init_34, eX5_init_37, eX5_init_38, eX5_init_39, eX5_init_42, eX5_init_43, eX5_init_46, eX5_init_47, eX5_init_50, eX5_init_53, eX5_init_54, eX5_init_55, eX5_init_58, eX5_init_59, eX5_init_60, eX5_init_63, eX5_init_64, eX5_init_67, eX5_init_68, eX5_init_69, eX5_init_70, eX5_init_73, eX5_init_74, eX5_init_77, eX5_init_78, eX5_init_79, eX5_init_80, eX5_init_83, eX5_init_84, eX5_init_87, eX5_init_88, eX5_init_89, eX5_init_90, eX5_init_93, eX5_init_94, eX5_init_97, eX5_init_98, eX5_init_101, eX5_init_102, eX5_init_104, eX5_init_106, eX5_init_109, pw_new, pw_21, pw_22, pw_pf0, pw_f0, pPf, pF, sX0_initL, sX2_initL, sX3_initL, is_at, pw_sr, pw_rn, pRn, pRg, av8, z8, nb_0, vq0, vq1, vq2, vq3, cq0, cq1, cq2, cq3, show fits .boolean (.int 0) = true from rfl, Nat.add_assoc, sh_up, c37]
end T85
