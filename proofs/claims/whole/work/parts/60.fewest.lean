/-! fewest -/
def popc (s : Nat) : Nat := s % 2 + s / 2 % 2 + s / 4 % 2 + s / 8 % 2 + s / 16 % 2 + s / 32 % 2 + s / 64 % 2 + s / 128 % 2
def findS (c : Nat → Bool) : Nat → Nat → Option Nat
  | 0, _ => none
  | d + 1, q => if c q = true then some q else findS c d (q + 1)
def fewS (g : Nat → Bool) (N : Nat) : Nat → Nat → Option Nat
  | 0, _ => none
  | d + 1, k => match findS (fun q => decide (popc q = k) && g q) N 0 with
    | some q => some q
    | none => fewS g N d (k + 1)
def fewG (m d : Nat) (P : rR) (q : Nat) : Bool := noF m (sumUp (turnUp P (nI q) m) 5 m) d (turnUp P (nI q) m)
theorem popc_le : ∀ s : Nat, s < 256 → popc s ≤ 8 := by decide +kernel
theorem sh1_pow : ∀ m : Nat, m < 9 → (1 : Int32) <<< (nI m &&& 31) = nI (2 ^ m) := by decide +kernel
section T60
variable {θ : (Nat → Value) × (Nat → Nat)} {n : Nat} {w : rW} {b : Nat} {P A K : rR} {kp : Int32} {tp : Nat → Int32} {tl rs re : Int32} {sh : rSh} {fd : Nat → Int32} {Q : rQ} {m : Nat}
theorem sJ6_bitCount {s : Nat} (hs : s < 256) : sg θ (n + 1) 181 [.int (nI s)] w Q ↔ Q (some (.int (nI (popc s)))) w := by
  rw [nJ6_bitCount_0f7a4]
  generalize (w.2.1 + 0, w.2.2 + 0) = lim
  simp only [eJ6_bitCount_0f7a4_0, eJ6_bitCount_0f7a4_1, eJ6_bitCount_0f7a4_2, eJ6_bitCount_0f7a4_3, eJ6_bitCount_0f7a4_4, eJ6_bitCount_0f7a4_7, eJ6_bitCount_0f7a4_8, eJ6_bitCount_0f7a4_9, eJ6_bitCount_0f7a4_10, eJ6_bitCount_0f7a4_11, eJ6_bitCount_0f7a4_14, eJ6_bitCount_0f7a4_15, eJ6_bitCount_0f7a4_16, eJ6_bitCount_0f7a4_17, eJ6_bitCount_0f7a4_18, eJ6_bitCount_0f7a4_21, eJ6_bitCount_0f7a4_22, eJ6_bitCount_0f7a4_23, eJ6_bitCount_0f7a4_24, eJ6_bitCount_0f7a4_25, eJ6_bitCount_0f7a4_26, eJ6_bitCount_0f7a4_27, eJ6_bitCount_0f7a4_28, eJ6_bitCount_0f7a4_29, eJ6_bitCount_0f7a4_32, eJ6_bitCount_0f7a4_33, eJ6_bitCount_0f7a4_34, eJ6_bitCount_0f7a4_35, eJ6_bitCount_0f7a4_36, eJ6_bitCount_0f7a4_38, eJ6_bitCount_0f7a4_39, eJ6_bitCount_0f7a4_40, eJ6_bitCount_0f7a4_41, eJ6_bitCount_0f7a4_42, eJ6_bitCount_0f7a4_43, eJ6_bitCount_0f7a4_45, eJ6_bitCount_0f7a4_46, eJ6_bitCount_0f7a4_47, eJ6_bitCount_0f7a4_48, eJ6_bitCount_0f7a4_49, eJ6_bitCount_0f7a4_51, eJ6_bitCount_0f7a4_52]
  refine iff_of_eq (congrArg (fun z => Q (some (.int z)) w) ?_)
  revert hs s
  decide +kernel
theorem few_in (hx : exOK θ w b) (hk : kOK P m) {y : Int32} {k : Nat} (hk8 : k ≤ m) {lim : Nat × Nat} : ∀ d q A, q + d = 2 ^ m → (match findS (fun q => decide (popc q = k) && fewG m y.toNatClampNeg P q) d q with | some z => ∀ A, Q (some (.int (nI z))) (cW w b P A K kp tp tl rs re sh fd) | none => ∀ A o4, Wp (xX5_fewest θ (n + 6) lim) Q (29, [some (.ref b), some (.int y), some (.int (nI (2 ^ m))), some (.int (nI (k + 1))), o4], [], cW w b P A K kp tp tl rs re sh fd)) → Wp (xX5_fewest θ (n + 6) lim) Q (43, [some (.ref b), some (.int y), some (.int (nI (2 ^ m))), some (.int (nI k)), some (.int (nI q))], [], cW w b P A K kp tp tl rs re sh fd) := by
  have h8 := hk.2.1
  have hN : 2 ^ m ≤ 2 ^ 8 := Nat.pow_le_pow_right (by decide) h8
  intro d
  induction d with
  | zero =>
    intro q A hq hf
    have hq : q = 2 ^ m := by omega
    subst hq
    rw [eX5_fewest_43]
    simp only [findS] at hf
    have hf := hf A
    rw [nI_succ] at hf
    simp only [eX5_fewest_0, eX5_fewest_1, eX5_fewest_2, eX5_fewest_4, eX5_fewest_7, eX5_fewest_10, eX5_fewest_11, eX5_fewest_13, eX5_fewest_16, eX5_fewest_17, eX5_fewest_18, eX5_fewest_19, eX5_fewest_22, eX5_fewest_25, eX5_fewest_26, eX5_fewest_27, eX5_fewest_28, eX5_fewest_30, eX5_fewest_31, eX5_fewest_34, eX5_fewest_37, eX5_fewest_40, eX5_fewest_41, eX5_fewest_45, eX5_fewest_46, eX5_fewest_49, eX5_fewest_51, eX5_fewest_54, eX5_fewest_55, eX5_fewest_58, eX5_fewest_59, eX5_fewest_61, eX5_fewest_62, eX5_fewest_65, eX5_fewest_68, eX5_fewest_70, eX5_fewest_71, eX5_fewest_74, eX5_fewest_77, eX5_fewest_80, eX5_fewest_83, eX5_fewest_84, eX5_fewest_86, eX5_fewest_89, Int32.le_refl, if_true]
    exact hf _
  | succ d ih =>
    intro q A hq hf
    have hq2 : q < 256 := by omega
    rw [eX5_fewest_43]
    have hlt : ¬ nI (2 ^ m) ≤ nI q := nI_ge (show q < 2 ^ m by omega) (by omega)
    have hbc := fun n w Q => sJ6_bitCount (θ := θ) (n := n) (w := w) (Q := Q) hq2
    have hpl := popc_le q hq2
    have hwf := fun n A Q => sX5_isWithoutFines (θ := θ) (n := n) (w := w) (b := b) (P := P) (A := A) (K := K) (kp := kp) (tp := tp) (tl := tl) (rs := rs) (re := re) (sh := sh) (fd := fd) (Q := Q) hx hk (s := nI q) (y := y)
    have ih := fun A => ih (q + 1) A (by omega)
    rw [nI_succ q] at ih
    have hpe : (nI (popc q) = nI k) = (popc q = k) := propext (nI_eq (by omega) (by omega))
    by_cases h1 : popc q = k
    · cases h2 : fewG m y.toNatClampNeg P q with
      | true =>
        have h3 := h2
        unfold fewG at h3
        simp only [findS, h1, h2, decide_true, Bool.and_self, if_true] at hf
        simp only [eX5_fewest_0, eX5_fewest_1, eX5_fewest_2, eX5_fewest_4, eX5_fewest_7, eX5_fewest_10, eX5_fewest_11, eX5_fewest_13, eX5_fewest_16, eX5_fewest_17, eX5_fewest_18, eX5_fewest_19, eX5_fewest_22, eX5_fewest_25, eX5_fewest_26, eX5_fewest_27, eX5_fewest_28, eX5_fewest_30, eX5_fewest_31, eX5_fewest_34, eX5_fewest_37, eX5_fewest_40, eX5_fewest_41, eX5_fewest_45, eX5_fewest_46, eX5_fewest_49, eX5_fewest_51, eX5_fewest_54, eX5_fewest_55, eX5_fewest_58, eX5_fewest_59, eX5_fewest_61, eX5_fewest_62, eX5_fewest_65, eX5_fewest_68, eX5_fewest_70, eX5_fewest_71, eX5_fewest_74, eX5_fewest_77, eX5_fewest_80, eX5_fewest_83, eX5_fewest_84, eX5_fewest_86, eX5_fewest_89, cw_is, cw_isP, cw_isA, cw_isK, cw_kp, cw_tis, cw_t0, cw_t1, cw_t2, cw_t3, cw_tp, cw_bn, cw_bw, cw_bv, cw_bs, cw_rp1, cw_rp2, cw_rn, cw_rg, cw_rl, cw_fn, cw_fw, cw_fv, cw_fs, cw_f0, cw_f1, cw_f2, cw_f3, cw_f4, cw_f5, cw_f6, p_n0, p_n1, p_n2, p_n3, p_n4, p_n5, p_n6, p_w0, p_w1, p_w2, p_w3, p_w4, p_w5, p_w6, p_v0, p_v1, p_v2, p_v3, p_v4, p_v5, p_v6, p_s0, p_s1, p_s2, p_s3, p_s4, p_s5, p_s6, a_n0, a_n1, a_n2, a_n3, a_n4, a_n5, a_n6, a_w0, a_w1, a_w2, a_w3, a_w4, a_w5, a_w6, a_v0, a_v1, a_v2, a_v3, a_v4, a_v5, a_v6, a_s0, a_s1, a_s2, a_s3, a_s4, a_s5, a_s6, p_f0, p_f1, p_f2, p_f3, p_f4, p_f5, p_f6, p_f7, p_f8, p_f9, a_f0, a_f1, a_f2, a_f3, a_f4, a_f5, a_f6, a_f7, a_f8, a_f9, p_p1, a_p1, cpAP, cpKP, cpPK, cpPA, Option.elim_some, true_and, and_true, Option.toList_some, Option.toList_none, List.cons_append, List.nil_append, hlt, if_false, hbc, hpe, h1, hwf, h3, bI_t, i10, ne_eq, not_true]
        exact hf _
      | false =>
        have h3 := h2
        unfold fewG at h3
        simp only [findS, h1, h2, decide_true, Bool.and_false, Bool.false_eq_true, if_false] at hf
        simp only [eX5_fewest_0, eX5_fewest_1, eX5_fewest_2, eX5_fewest_4, eX5_fewest_7, eX5_fewest_10, eX5_fewest_11, eX5_fewest_13, eX5_fewest_16, eX5_fewest_17, eX5_fewest_18, eX5_fewest_19, eX5_fewest_22, eX5_fewest_25, eX5_fewest_26, eX5_fewest_27, eX5_fewest_28, eX5_fewest_30, eX5_fewest_31, eX5_fewest_34, eX5_fewest_37, eX5_fewest_40, eX5_fewest_41, eX5_fewest_45, eX5_fewest_46, eX5_fewest_49, eX5_fewest_51, eX5_fewest_54, eX5_fewest_55, eX5_fewest_58, eX5_fewest_59, eX5_fewest_61, eX5_fewest_62, eX5_fewest_65, eX5_fewest_68, eX5_fewest_70, eX5_fewest_71, eX5_fewest_74, eX5_fewest_77, eX5_fewest_80, eX5_fewest_83, eX5_fewest_84, eX5_fewest_86, eX5_fewest_89, cw_is, cw_isP, cw_isA, cw_isK, cw_kp, cw_tis, cw_t0, cw_t1, cw_t2, cw_t3, cw_tp, cw_bn, cw_bw, cw_bv, cw_bs, cw_rp1, cw_rp2, cw_rn, cw_rg, cw_rl, cw_fn, cw_fw, cw_fv, cw_fs, cw_f0, cw_f1, cw_f2, cw_f3, cw_f4, cw_f5, cw_f6, p_n0, p_n1, p_n2, p_n3, p_n4, p_n5, p_n6, p_w0, p_w1, p_w2, p_w3, p_w4, p_w5, p_w6, p_v0, p_v1, p_v2, p_v3, p_v4, p_v5, p_v6, p_s0, p_s1, p_s2, p_s3, p_s4, p_s5, p_s6, a_n0, a_n1, a_n2, a_n3, a_n4, a_n5, a_n6, a_w0, a_w1, a_w2, a_w3, a_w4, a_w5, a_w6, a_v0, a_v1, a_v2, a_v3, a_v4, a_v5, a_v6, a_s0, a_s1, a_s2, a_s3, a_s4, a_s5, a_s6, p_f0, p_f1, p_f2, p_f3, p_f4, p_f5, p_f6, p_f7, p_f8, p_f9, a_f0, a_f1, a_f2, a_f3, a_f4, a_f5, a_f6, a_f7, a_f8, a_f9, p_p1, a_p1, cpAP, cpKP, cpPK, cpPA, Option.elim_some, true_and, and_true, Option.toList_some, Option.toList_none, List.cons_append, List.nil_append, hlt, if_false, hbc, hpe, h1, hwf, h3, bI_f, if_true, ne_eq, not_true]
        exact ih _ hf
    · simp only [findS, h1, decide_false, Bool.false_and, Bool.false_eq_true, if_false] at hf
      simp only [eX5_fewest_0, eX5_fewest_1, eX5_fewest_2, eX5_fewest_4, eX5_fewest_7, eX5_fewest_10, eX5_fewest_11, eX5_fewest_13, eX5_fewest_16, eX5_fewest_17, eX5_fewest_18, eX5_fewest_19, eX5_fewest_22, eX5_fewest_25, eX5_fewest_26, eX5_fewest_27, eX5_fewest_28, eX5_fewest_30, eX5_fewest_31, eX5_fewest_34, eX5_fewest_37, eX5_fewest_40, eX5_fewest_41, eX5_fewest_45, eX5_fewest_46, eX5_fewest_49, eX5_fewest_51, eX5_fewest_54, eX5_fewest_55, eX5_fewest_58, eX5_fewest_59, eX5_fewest_61, eX5_fewest_62, eX5_fewest_65, eX5_fewest_68, eX5_fewest_70, eX5_fewest_71, eX5_fewest_74, eX5_fewest_77, eX5_fewest_80, eX5_fewest_83, eX5_fewest_84, eX5_fewest_86, eX5_fewest_89, cw_is, cw_isP, cw_isA, cw_isK, cw_kp, cw_tis, cw_t0, cw_t1, cw_t2, cw_t3, cw_tp, cw_bn, cw_bw, cw_bv, cw_bs, cw_rp1, cw_rp2, cw_rn, cw_rg, cw_rl, cw_fn, cw_fw, cw_fv, cw_fs, cw_f0, cw_f1, cw_f2, cw_f3, cw_f4, cw_f5, cw_f6, p_n0, p_n1, p_n2, p_n3, p_n4, p_n5, p_n6, p_w0, p_w1, p_w2, p_w3, p_w4, p_w5, p_w6, p_v0, p_v1, p_v2, p_v3, p_v4, p_v5, p_v6, p_s0, p_s1, p_s2, p_s3, p_s4, p_s5, p_s6, a_n0, a_n1, a_n2, a_n3, a_n4, a_n5, a_n6, a_w0, a_w1, a_w2, a_w3, a_w4, a_w5, a_w6, a_v0, a_v1, a_v2, a_v3, a_v4, a_v5, a_v6, a_s0, a_s1, a_s2, a_s3, a_s4, a_s5, a_s6, p_f0, p_f1, p_f2, p_f3, p_f4, p_f5, p_f6, p_f7, p_f8, p_f9, a_f0, a_f1, a_f2, a_f3, a_f4, a_f5, a_f6, a_f7, a_f8, a_f9, p_p1, a_p1, cpAP, cpKP, cpPK, cpPA, Option.elim_some, true_and, and_true, Option.toList_some, Option.toList_none, List.cons_append, List.nil_append, hlt, if_false, hbc, hpe, h1, if_true, ne_eq, not_false_iff]
      exact ih _ hf
theorem few_out (hx : exOK θ w b) (hk : kOK P m) {y : Int32} {lim : Nat × Nat} : ∀ e k A o4, k + e = m + 1 → (match fewS (fewG m y.toNatClampNeg P) (2 ^ m) e k with | some z => ∀ A, Q (some (.int (nI z))) (cW w b P A K kp tp tl rs re sh fd) | none => ∀ A, Q (some (.int (-1000000004))) (cW w b P A K kp tp tl rs re sh (fB fd 3))) → Wp (xX5_fewest θ (n + 6) lim) Q (29, [some (.ref b), some (.int y), some (.int (nI (2 ^ m))), some (.int (nI k)), o4], [], cW w b P A K kp tp tl rs re sh fd) := by
  have h8 := hk.2.1
  intro e
  induction e with
  | zero =>
    intro k A o4 hke hf
    have hke : k = m + 1 := by omega
    subst hke
    rw [eX5_fewest_29]
    simp only [fewS] at hf
    simp only [eX5_fewest_0, eX5_fewest_1, eX5_fewest_2, eX5_fewest_4, eX5_fewest_7, eX5_fewest_10, eX5_fewest_11, eX5_fewest_13, eX5_fewest_16, eX5_fewest_17, eX5_fewest_18, eX5_fewest_19, eX5_fewest_22, eX5_fewest_25, eX5_fewest_26, eX5_fewest_27, eX5_fewest_28, eX5_fewest_30, eX5_fewest_31, eX5_fewest_34, eX5_fewest_37, eX5_fewest_40, eX5_fewest_41, eX5_fewest_45, eX5_fewest_46, eX5_fewest_49, eX5_fewest_51, eX5_fewest_54, eX5_fewest_55, eX5_fewest_58, eX5_fewest_59, eX5_fewest_61, eX5_fewest_62, eX5_fewest_65, eX5_fewest_68, eX5_fewest_70, eX5_fewest_71, eX5_fewest_74, eX5_fewest_77, eX5_fewest_80, eX5_fewest_83, eX5_fewest_84, eX5_fewest_86, eX5_fewest_89, cw_is, cw_isP, cw_isA, cw_isK, cw_kp, cw_tis, cw_t0, cw_t1, cw_t2, cw_t3, cw_tp, cw_bn, cw_bw, cw_bv, cw_bs, cw_rp1, cw_rp2, cw_rn, cw_rg, cw_rl, cw_fn, cw_fw, cw_fv, cw_fs, cw_f0, cw_f1, cw_f2, cw_f3, cw_f4, cw_f5, cw_f6, p_n0, p_n1, p_n2, p_n3, p_n4, p_n5, p_n6, p_w0, p_w1, p_w2, p_w3, p_w4, p_w5, p_w6, p_v0, p_v1, p_v2, p_v3, p_v4, p_v5, p_v6, p_s0, p_s1, p_s2, p_s3, p_s4, p_s5, p_s6, a_n0, a_n1, a_n2, a_n3, a_n4, a_n5, a_n6, a_w0, a_w1, a_w2, a_w3, a_w4, a_w5, a_w6, a_v0, a_v1, a_v2, a_v3, a_v4, a_v5, a_v6, a_s0, a_s1, a_s2, a_s3, a_s4, a_s5, a_s6, p_f0, p_f1, p_f2, p_f3, p_f4, p_f5, p_f6, p_f7, p_f8, p_f9, a_f0, a_f1, a_f2, a_f3, a_f4, a_f5, a_f6, a_f7, a_f8, a_f9, p_p1, a_p1, cpAP, cpKP, cpPK, cpPA, Option.elim_some, true_and, and_true, Option.toList_some, Option.toList_none, List.cons_append, List.nil_append, hk.1, nI_lt (show m < m + 1 by omega) (show m + 1 < 2 ^ 31 by omega), if_true, fin3]
    exact hf _
  | succ e ih =>
    intro k A o4 hke hf
    rw [eX5_fewest_29]
    simp only [eX5_fewest_0, eX5_fewest_1, eX5_fewest_2, eX5_fewest_4, eX5_fewest_7, eX5_fewest_10, eX5_fewest_11, eX5_fewest_13, eX5_fewest_16, eX5_fewest_17, eX5_fewest_18, eX5_fewest_19, eX5_fewest_22, eX5_fewest_25, eX5_fewest_26, eX5_fewest_27, eX5_fewest_28, eX5_fewest_30, eX5_fewest_31, eX5_fewest_34, eX5_fewest_37, eX5_fewest_40, eX5_fewest_41, eX5_fewest_45, eX5_fewest_46, eX5_fewest_49, eX5_fewest_51, eX5_fewest_54, eX5_fewest_55, eX5_fewest_58, eX5_fewest_59, eX5_fewest_61, eX5_fewest_62, eX5_fewest_65, eX5_fewest_68, eX5_fewest_70, eX5_fewest_71, eX5_fewest_74, eX5_fewest_77, eX5_fewest_80, eX5_fewest_83, eX5_fewest_84, eX5_fewest_86, eX5_fewest_89, cw_is, cw_isP, cw_isA, cw_isK, cw_kp, cw_tis, cw_t0, cw_t1, cw_t2, cw_t3, cw_tp, cw_bn, cw_bw, cw_bv, cw_bs, cw_rp1, cw_rp2, cw_rn, cw_rg, cw_rl, cw_fn, cw_fw, cw_fv, cw_fs, cw_f0, cw_f1, cw_f2, cw_f3, cw_f4, cw_f5, cw_f6, p_n0, p_n1, p_n2, p_n3, p_n4, p_n5, p_n6, p_w0, p_w1, p_w2, p_w3, p_w4, p_w5, p_w6, p_v0, p_v1, p_v2, p_v3, p_v4, p_v5, p_v6, p_s0, p_s1, p_s2, p_s3, p_s4, p_s5, p_s6, a_n0, a_n1, a_n2, a_n3, a_n4, a_n5, a_n6, a_w0, a_w1, a_w2, a_w3, a_w4, a_w5, a_w6, a_v0, a_v1, a_v2, a_v3, a_v4, a_v5, a_v6, a_s0, a_s1, a_s2, a_s3, a_s4, a_s5, a_s6, p_f0, p_f1, p_f2, p_f3, p_f4, p_f5, p_f6, p_f7, p_f8, p_f9, a_f0, a_f1, a_f2, a_f3, a_f4, a_f5, a_f6, a_f7, a_f8, a_f9, p_p1, a_p1, cpAP, cpKP, cpPK, cpPA, Option.elim_some, true_and, and_true, Option.toList_some, Option.toList_none, List.cons_append, List.nil_append, hk.1, nI_nlt (show k ≤ m by omega) (show m < 2 ^ 31 by omega), if_false]
    refine few_in hx hk (show k ≤ m by omega) (2 ^ m) 0 A (by omega) ?_
    cases h : findS (fun q => decide (popc q = k) && fewG m y.toNatClampNeg P q) (2 ^ m) 0 with
    | some z =>
      simp only [fewS, h] at hf
      exact hf
    | none =>
      simp only [fewS, h] at hf
      exact fun A o4 => ih (k + 1) A o4 (by omega) hf
theorem sX5_fewest (hx : exOK θ w b) (hk : kOK P m) {y : Int32} (h0 : if 1 ≤ y ∧ y ≤ 20 then (match fewS (fewG m y.toNatClampNeg P) (2 ^ m) (m + 1) 0 with | some z => ∀ A, Q (some (.int (nI z))) (cW w b P A K kp tp tl rs re sh fd) | none => ∀ A, Q (some (.int (-1000000004))) (cW w b P A K kp tp tl rs re sh (fB fd 3))) else Q (some (.int (-1000000001))) (cW w b P A K kp tp tl rs re sh (fB fd 0))) : sg θ (n + 7) 61 [.ref b, .int y] (cW w b P A K kp tp tl rs re sh fd) Q := by
  rw [nX5_fewest]
  generalize ((cW w b P A K kp tp tl rs re sh fd).2.1 + 0, (cW w b P A K kp tp tl rs re sh fd).2.2 + 0) = lim
  have h8 := hk.2.1
  by_cases h : 1 ≤ y ∧ y ≤ 20
  · rw [if_pos h] at h0
    simp only [eX5_fewest_0, eX5_fewest_1, eX5_fewest_2, eX5_fewest_4, eX5_fewest_7, eX5_fewest_10, eX5_fewest_11, eX5_fewest_13, eX5_fewest_16, eX5_fewest_17, eX5_fewest_18, eX5_fewest_19, eX5_fewest_22, eX5_fewest_25, eX5_fewest_26, eX5_fewest_27, eX5_fewest_28, eX5_fewest_30, eX5_fewest_31, eX5_fewest_34, eX5_fewest_37, eX5_fewest_40, eX5_fewest_41, eX5_fewest_45, eX5_fewest_46, eX5_fewest_49, eX5_fewest_51, eX5_fewest_54, eX5_fewest_55, eX5_fewest_58, eX5_fewest_59, eX5_fewest_61, eX5_fewest_62, eX5_fewest_65, eX5_fewest_68, eX5_fewest_70, eX5_fewest_71, eX5_fewest_74, eX5_fewest_77, eX5_fewest_80, eX5_fewest_83, eX5_fewest_84, eX5_fewest_86, eX5_fewest_89, cw_is, cw_isP, cw_isA, cw_isK, cw_kp, cw_tis, cw_t0, cw_t1, cw_t2, cw_t3, cw_tp, cw_bn, cw_bw, cw_bv, cw_bs, cw_rp1, cw_rp2, cw_rn, cw_rg, cw_rl, cw_fn, cw_fw, cw_fv, cw_fs, cw_f0, cw_f1, cw_f2, cw_f3, cw_f4, cw_f5, cw_f6, p_n0, p_n1, p_n2, p_n3, p_n4, p_n5, p_n6, p_w0, p_w1, p_w2, p_w3, p_w4, p_w5, p_w6, p_v0, p_v1, p_v2, p_v3, p_v4, p_v5, p_v6, p_s0, p_s1, p_s2, p_s3, p_s4, p_s5, p_s6, a_n0, a_n1, a_n2, a_n3, a_n4, a_n5, a_n6, a_w0, a_w1, a_w2, a_w3, a_w4, a_w5, a_w6, a_v0, a_v1, a_v2, a_v3, a_v4, a_v5, a_v6, a_s0, a_s1, a_s2, a_s3, a_s4, a_s5, a_s6, p_f0, p_f1, p_f2, p_f3, p_f4, p_f5, p_f6, p_f7, p_f8, p_f9, a_f0, a_f1, a_f2, a_f3, a_f4, a_f5, a_f6, a_f7, a_f8, a_f9, p_p1, a_p1, cpAP, cpKP, cpPK, cpPA, Option.elim_some, true_and, and_true, Option.toList_some, Option.toList_none, List.cons_append, List.nil_append, sX5_isWithin, h, and_self, decide_true, bI_t, i10, if_false, hk.1, sh1_pow m (by omega)]
    exact few_out hx hk (m + 1) 0 A _ (by omega) h0
  · rw [if_neg h] at h0
    simp only [eX5_fewest_0, eX5_fewest_1, eX5_fewest_2, eX5_fewest_4, eX5_fewest_7, eX5_fewest_10, eX5_fewest_11, eX5_fewest_13, eX5_fewest_16, eX5_fewest_17, eX5_fewest_18, eX5_fewest_19, eX5_fewest_22, eX5_fewest_25, eX5_fewest_26, eX5_fewest_27, eX5_fewest_28, eX5_fewest_30, eX5_fewest_31, eX5_fewest_34, eX5_fewest_37, eX5_fewest_40, eX5_fewest_41, eX5_fewest_45, eX5_fewest_46, eX5_fewest_49, eX5_fewest_51, eX5_fewest_54, eX5_fewest_55, eX5_fewest_58, eX5_fewest_59, eX5_fewest_61, eX5_fewest_62, eX5_fewest_65, eX5_fewest_68, eX5_fewest_70, eX5_fewest_71, eX5_fewest_74, eX5_fewest_77, eX5_fewest_80, eX5_fewest_83, eX5_fewest_84, eX5_fewest_86, eX5_fewest_89, cw_is, cw_isP, cw_isA, cw_isK, cw_kp, cw_tis, cw_t0, cw_t1, cw_t2, cw_t3, cw_tp, cw_bn, cw_bw, cw_bv, cw_bs, cw_rp1, cw_rp2, cw_rn, cw_rg, cw_rl, cw_fn, cw_fw, cw_fv, cw_fs, cw_f0, cw_f1, cw_f2, cw_f3, cw_f4, cw_f5, cw_f6, p_n0, p_n1, p_n2, p_n3, p_n4, p_n5, p_n6, p_w0, p_w1, p_w2, p_w3, p_w4, p_w5, p_w6, p_v0, p_v1, p_v2, p_v3, p_v4, p_v5, p_v6, p_s0, p_s1, p_s2, p_s3, p_s4, p_s5, p_s6, a_n0, a_n1, a_n2, a_n3, a_n4, a_n5, a_n6, a_w0, a_w1, a_w2, a_w3, a_w4, a_w5, a_w6, a_v0, a_v1, a_v2, a_v3, a_v4, a_v5, a_v6, a_s0, a_s1, a_s2, a_s3, a_s4, a_s5, a_s6, p_f0, p_f1, p_f2, p_f3, p_f4, p_f5, p_f6, p_f7, p_f8, p_f9, a_f0, a_f1, a_f2, a_f3, a_f4, a_f5, a_f6, a_f7, a_f8, a_f9, p_p1, a_p1, cpAP, cpKP, cpPK, cpPA, Option.elim_some, true_and, and_true, Option.toList_some, Option.toList_none, List.cons_append, List.nil_append, sX5_isWithin, h, decide_false, bI_f, if_true, fin0]
    exact h0
end T60
