/-! the text: numbers, walkers, items -/
def digV (x : Int32) : Nat := (x - 48).toNatClampNeg
def numT (tp : Nat → Int32) (M : Nat) : Nat → Nat → Nat → Option Nat
  | 0, _, a => some a
  | d + 1, q, a => if 10 * a + digV (tp q) ≤ M then numT tp M d (q + 1) (10 * a + digV (tp q)) else none
def numR (tp : Nat → Int32) (t M s : Nat) : Option Nat := if s < t ∧ sortB (tp s) = 2 then numT tp M (tokE tp t s - s) s 0 else none
def nameIx (kd : Nat) : Nat := [7, 2, 3, 4, 5, 6].getD kd 7
def nameT (kd : Nat) : List Int32 := tTX.getD (nameIx kd) []
def kindUp (tp : Nat → Int32) (t s : Nat) : Nat → Nat → Option Nat
  | 0, _ => none
  | d + 1, kd => if takeB tp t s (nameT kd) = true then some kd else kindUp tp t s d (kd + 1)
def kindAt (tp : Nat → Int32) (t s : Nat) : Option Nat := kindUp tp t s 6 0
theorem dig_ok : ∀ c : Nat, c < 10 → digV (nI (48 + c)) = c := by decide +kernel
theorem sort2 {x : Int32} (h : sortB x = 2) : ∃ c : Nat, c < 10 ∧ x = nI (48 + c) ∧ digV x = c := by
  unfold sortB at h
  split at h
  · exact absurd h (by decide)
  · split at h
    · rename_i hh
      obtain ⟨q, rfl, h1, h2⟩ := range_nI (l := 48) (h := 57) hh.1 hh.2 (by decide) (by decide)
      refine ⟨q - 48, by omega, by rw [show 48 + (q - 48) = q by omega], ?_⟩
      have := dig_ok (q - 48) (by omega)
      rw [show 48 + (q - 48) = q by omega] at this
      exact this
    · exact absurd h (by decide)
theorem name_tx : ∀ kd : Nat, kd < 6 → tTX[nameIx kd]? = some (nameT kd) := by decide
section T63
variable {θ : (Nat → Value) × (Nat → Nat)} {n : Nat} {w : rW} {b : Nat} {P A K : rR} {kp : Int32} {tp : Nat → Int32} {tl rs re : Int32} {sh : rSh} {fd : Nat → Int32} {Q : rQ} {m t : Nat}
theorem sX3_takeNumber {s M : Nat} (hM : M ≤ 99) (hs : s ≤ t) (ht : t ≤ 120) : sg θ (n + 3) 35 [.ref (b + 25), .int (nI M)] (cW w b P A K kp tp (nI t) (nI s) (nI (tokE tp t s)) sh fd) Q ↔ match numR tp t M s with | some v => Q (some (.int (nI v))) (cW w b P A K kp tp (nI t) (nI (nxt tp t s)) (nI (tokE tp t (nxt tp t s))) sh fd) | none => Q (some (.int (-1))) (cW w b P A K kp tp (nI t) (nI s) (nI (tokE tp t s)) sh fd) := by
  rw [nX3_takeNumber]
  generalize ((cW w b P A K kp tp (nI t) (nI s) (nI (tokE tp t s)) sh fd).2.1 + 0, (cW w b P A K kp tp (nI t) (nI s) (nI (tokE tp t s)) sh fd).2.2 + 0) = lim
  have hE := tokE_le (tp := tp) hs
  by_cases h1 : s = t
  · subst h1
    have hnr : numR tp s M s = none := by unfold numR; rw [if_neg (by omega)]
    rw [hnr]
    simp only [eX3_takeNumber_0, eX3_takeNumber_1, eX3_takeNumber_4, eX3_takeNumber_7, eX3_takeNumber_8, eX3_takeNumber_11, eX3_takeNumber_12, eX3_takeNumber_15, eX3_takeNumber_16, eX3_takeNumber_19, eX3_takeNumber_20, eX3_takeNumber_23, eX3_takeNumber_24, eX3_takeNumber_25, eX3_takeNumber_26, eX3_takeNumber_27, eX3_takeNumber_28, eX3_takeNumber_31, eX3_takeNumber_33, eX3_takeNumber_34, eX3_takeNumber_37, eX3_takeNumber_40, eX3_takeNumber_42, eX3_takeNumber_43, eX3_takeNumber_44, eX3_takeNumber_45, eX3_takeNumber_48, eX3_takeNumber_49, eX3_takeNumber_50, eX3_takeNumber_51, eX3_takeNumber_53, eX3_takeNumber_54, eX3_takeNumber_55, eX3_takeNumber_56, eX3_takeNumber_57, eX3_takeNumber_60, eX3_takeNumber_61, eX3_takeNumber_62, eX3_takeNumber_65, eX3_takeNumber_68, eX3_takeNumber_69, eX3_takeNumber_72, eX3_takeNumber_73, cw_is, cw_isP, cw_isA, cw_isK, cw_kp, cw_tis, cw_t0, cw_t1, cw_t2, cw_t3, cw_tp, cw_bn, cw_bw, cw_bv, cw_bs, cw_rp1, cw_rp2, cw_rn, cw_rg, cw_rl, cw_fn, cw_fw, cw_fv, cw_fs, cw_f0, cw_f1, cw_f2, cw_f3, cw_f4, cw_f5, cw_f6, p_n0, p_n1, p_n2, p_n3, p_n4, p_n5, p_n6, p_w0, p_w1, p_w2, p_w3, p_w4, p_w5, p_w6, p_v0, p_v1, p_v2, p_v3, p_v4, p_v5, p_v6, p_s0, p_s1, p_s2, p_s3, p_s4, p_s5, p_s6, a_n0, a_n1, a_n2, a_n3, a_n4, a_n5, a_n6, a_w0, a_w1, a_w2, a_w3, a_w4, a_w5, a_w6, a_v0, a_v1, a_v2, a_v3, a_v4, a_v5, a_v6, a_s0, a_s1, a_s2, a_s3, a_s4, a_s5, a_s6, p_f0, p_f1, p_f2, p_f3, p_f4, p_f5, p_f6, p_f7, p_f8, p_f9, a_f0, a_f1, a_f2, a_f3, a_f4, a_f5, a_f6, a_f7, a_f8, a_f9, p_p1, a_p1, cpAP, cpKP, cpPK, cpPA, Option.elim_some, true_and, and_true, Option.toList_some, Option.toList_none, List.cons_append, List.nil_append, sX3_isAllTaken, decide_true, bI_t, i10, if_false]
  · have hlt : s < t := by omega
    have hne : ¬ nI s = nI t := fun q => h1 ((nI_eq (by omega) (by omega)).mp q)
    by_cases h2 : sortB (tp s) = 2
    · have hla := fun n Q => sX3_lookAtNext (θ := θ) (n := n) (w := w) (b := b) (P := P) (A := A) (K := K) (kp := kp) (tp := tp) (rs := nI s) (sh := sh) (fd := fd) (Q := Q) hE.2 ht
      have loop : ∀ d q a, q + d = tokE tp t s → s ≤ q → a ≤ M → (Wp (xX3_takeNumber θ (n + 2) lim) Q (32, [some (.ref (b + 25)), some (.int (nI M)), some (.int (nI a)), some (.int (nI q))], [], cW w b P A K kp tp (nI t) (nI s) (nI (tokE tp t s)) sh fd) ↔ match numT tp M d q a with | some v => Q (some (.int (nI v))) (cW w b P A K kp tp (nI t) (nI (nxt tp t s)) (nI (tokE tp t (nxt tp t s))) sh fd) | none => Q (some (.int (-1))) (cW w b P A K kp tp (nI t) (nI s) (nI (tokE tp t s)) sh fd)) := by
        intro d
        induction d with
        | zero =>
          intro q a hq hsq ha
          have hq : q = tokE tp t s := by omega
          subst hq
          rw [eX3_takeNumber_32]
          simp only [eX3_takeNumber_0, eX3_takeNumber_1, eX3_takeNumber_4, eX3_takeNumber_7, eX3_takeNumber_8, eX3_takeNumber_11, eX3_takeNumber_12, eX3_takeNumber_15, eX3_takeNumber_16, eX3_takeNumber_19, eX3_takeNumber_20, eX3_takeNumber_23, eX3_takeNumber_24, eX3_takeNumber_25, eX3_takeNumber_26, eX3_takeNumber_27, eX3_takeNumber_28, eX3_takeNumber_31, eX3_takeNumber_33, eX3_takeNumber_34, eX3_takeNumber_37, eX3_takeNumber_40, eX3_takeNumber_42, eX3_takeNumber_43, eX3_takeNumber_44, eX3_takeNumber_45, eX3_takeNumber_48, eX3_takeNumber_49, eX3_takeNumber_50, eX3_takeNumber_51, eX3_takeNumber_53, eX3_takeNumber_54, eX3_takeNumber_55, eX3_takeNumber_56, eX3_takeNumber_57, eX3_takeNumber_60, eX3_takeNumber_61, eX3_takeNumber_62, eX3_takeNumber_65, eX3_takeNumber_68, eX3_takeNumber_69, eX3_takeNumber_72, eX3_takeNumber_73, cw_is, cw_isP, cw_isA, cw_isK, cw_kp, cw_tis, cw_t0, cw_t1, cw_t2, cw_t3, cw_tp, cw_bn, cw_bw, cw_bv, cw_bs, cw_rp1, cw_rp2, cw_rn, cw_rg, cw_rl, cw_fn, cw_fw, cw_fv, cw_fs, cw_f0, cw_f1, cw_f2, cw_f3, cw_f4, cw_f5, cw_f6, p_n0, p_n1, p_n2, p_n3, p_n4, p_n5, p_n6, p_w0, p_w1, p_w2, p_w3, p_w4, p_w5, p_w6, p_v0, p_v1, p_v2, p_v3, p_v4, p_v5, p_v6, p_s0, p_s1, p_s2, p_s3, p_s4, p_s5, p_s6, a_n0, a_n1, a_n2, a_n3, a_n4, a_n5, a_n6, a_w0, a_w1, a_w2, a_w3, a_w4, a_w5, a_w6, a_v0, a_v1, a_v2, a_v3, a_v4, a_v5, a_v6, a_s0, a_s1, a_s2, a_s3, a_s4, a_s5, a_s6, p_f0, p_f1, p_f2, p_f3, p_f4, p_f5, p_f6, p_f7, p_f8, p_f9, a_f0, a_f1, a_f2, a_f3, a_f4, a_f5, a_f6, a_f7, a_f8, a_f9, p_p1, a_p1, cpAP, cpKP, cpPK, cpPA, Option.elim_some, true_and, and_true, Option.toList_some, Option.toList_none, List.cons_append, List.nil_append, Int32.le_refl, if_true, hla, numT, nxt]
        | succ d ih =>
          intro q a hq hsq ha
          obtain ⟨c, hc, ec, ed⟩ := sort2 ((tokE_all hlt hsq (show q < tokE tp t s by omega)).trans h2)
          have hval : (10 : Int32) * nI a + tp q - 48 = nI (10 * a + digV (tp q)) := by
            rw [ed, ec, show (10 : Int32) = nI 10 from rfl, nI_mul, nI_add, show (48 : Int32) = nI 48 from rfl, nI_sub (by omega)]
            exact congrArg nI (by omega)
          rw [eX3_takeNumber_32]
          by_cases hle : 10 * a + digV (tp q) ≤ M
          · have ih := ih (q + 1) (10 * a + digV (tp q)) (by omega) (by omega) hle
            rw [nI_succ q] at ih
            simp only [eX3_takeNumber_0, eX3_takeNumber_1, eX3_takeNumber_4, eX3_takeNumber_7, eX3_takeNumber_8, eX3_takeNumber_11, eX3_takeNumber_12, eX3_takeNumber_15, eX3_takeNumber_16, eX3_takeNumber_19, eX3_takeNumber_20, eX3_takeNumber_23, eX3_takeNumber_24, eX3_takeNumber_25, eX3_takeNumber_26, eX3_takeNumber_27, eX3_takeNumber_28, eX3_takeNumber_31, eX3_takeNumber_33, eX3_takeNumber_34, eX3_takeNumber_37, eX3_takeNumber_40, eX3_takeNumber_42, eX3_takeNumber_43, eX3_takeNumber_44, eX3_takeNumber_45, eX3_takeNumber_48, eX3_takeNumber_49, eX3_takeNumber_50, eX3_takeNumber_51, eX3_takeNumber_53, eX3_takeNumber_54, eX3_takeNumber_55, eX3_takeNumber_56, eX3_takeNumber_57, eX3_takeNumber_60, eX3_takeNumber_61, eX3_takeNumber_62, eX3_takeNumber_65, eX3_takeNumber_68, eX3_takeNumber_69, eX3_takeNumber_72, eX3_takeNumber_73, cw_is, cw_isP, cw_isA, cw_isK, cw_kp, cw_tis, cw_t0, cw_t1, cw_t2, cw_t3, cw_tp, cw_bn, cw_bw, cw_bv, cw_bs, cw_rp1, cw_rp2, cw_rn, cw_rg, cw_rl, cw_fn, cw_fw, cw_fv, cw_fs, cw_f0, cw_f1, cw_f2, cw_f3, cw_f4, cw_f5, cw_f6, p_n0, p_n1, p_n2, p_n3, p_n4, p_n5, p_n6, p_w0, p_w1, p_w2, p_w3, p_w4, p_w5, p_w6, p_v0, p_v1, p_v2, p_v3, p_v4, p_v5, p_v6, p_s0, p_s1, p_s2, p_s3, p_s4, p_s5, p_s6, a_n0, a_n1, a_n2, a_n3, a_n4, a_n5, a_n6, a_w0, a_w1, a_w2, a_w3, a_w4, a_w5, a_w6, a_v0, a_v1, a_v2, a_v3, a_v4, a_v5, a_v6, a_s0, a_s1, a_s2, a_s3, a_s4, a_s5, a_s6, p_f0, p_f1, p_f2, p_f3, p_f4, p_f5, p_f6, p_f7, p_f8, p_f9, a_f0, a_f1, a_f2, a_f3, a_f4, a_f5, a_f6, a_f7, a_f8, a_f9, p_p1, a_p1, cpAP, cpKP, cpPK, cpPA, Option.elim_some, true_and, and_true, Option.toList_some, Option.toList_none, List.cons_append, List.nil_append, nI_ge (show q < tokE tp t s by omega) (show tokE tp t s < 2 ^ 31 by omega), if_false, vp120 (show q < 120 by omega), nI_clamp (show q < 2 ^ 31 by omega), hval, nI_le hle (show M < 2 ^ 31 by omega), if_true, numT, hle]
            exact ih
          · simp only [eX3_takeNumber_0, eX3_takeNumber_1, eX3_takeNumber_4, eX3_takeNumber_7, eX3_takeNumber_8, eX3_takeNumber_11, eX3_takeNumber_12, eX3_takeNumber_15, eX3_takeNumber_16, eX3_takeNumber_19, eX3_takeNumber_20, eX3_takeNumber_23, eX3_takeNumber_24, eX3_takeNumber_25, eX3_takeNumber_26, eX3_takeNumber_27, eX3_takeNumber_28, eX3_takeNumber_31, eX3_takeNumber_33, eX3_takeNumber_34, eX3_takeNumber_37, eX3_takeNumber_40, eX3_takeNumber_42, eX3_takeNumber_43, eX3_takeNumber_44, eX3_takeNumber_45, eX3_takeNumber_48, eX3_takeNumber_49, eX3_takeNumber_50, eX3_takeNumber_51, eX3_takeNumber_53, eX3_takeNumber_54, eX3_takeNumber_55, eX3_takeNumber_56, eX3_takeNumber_57, eX3_takeNumber_60, eX3_takeNumber_61, eX3_takeNumber_62, eX3_takeNumber_65, eX3_takeNumber_68, eX3_takeNumber_69, eX3_takeNumber_72, eX3_takeNumber_73, cw_is, cw_isP, cw_isA, cw_isK, cw_kp, cw_tis, cw_t0, cw_t1, cw_t2, cw_t3, cw_tp, cw_bn, cw_bw, cw_bv, cw_bs, cw_rp1, cw_rp2, cw_rn, cw_rg, cw_rl, cw_fn, cw_fw, cw_fv, cw_fs, cw_f0, cw_f1, cw_f2, cw_f3, cw_f4, cw_f5, cw_f6, p_n0, p_n1, p_n2, p_n3, p_n4, p_n5, p_n6, p_w0, p_w1, p_w2, p_w3, p_w4, p_w5, p_w6, p_v0, p_v1, p_v2, p_v3, p_v4, p_v5, p_v6, p_s0, p_s1, p_s2, p_s3, p_s4, p_s5, p_s6, a_n0, a_n1, a_n2, a_n3, a_n4, a_n5, a_n6, a_w0, a_w1, a_w2, a_w3, a_w4, a_w5, a_w6, a_v0, a_v1, a_v2, a_v3, a_v4, a_v5, a_v6, a_s0, a_s1, a_s2, a_s3, a_s4, a_s5, a_s6, p_f0, p_f1, p_f2, p_f3, p_f4, p_f5, p_f6, p_f7, p_f8, p_f9, a_f0, a_f1, a_f2, a_f3, a_f4, a_f5, a_f6, a_f7, a_f8, a_f9, p_p1, a_p1, cpAP, cpKP, cpPK, cpPA, Option.elim_some, true_and, and_true, Option.toList_some, Option.toList_none, List.cons_append, List.nil_append, nI_ge (show q < tokE tp t s by omega) (show tokE tp t s < 2 ^ 31 by omega), if_false, vp120 (show q < 120 by omega), nI_clamp (show q < 2 ^ 31 by omega), hval, nI_ge (show M < 10 * a + digV (tp q) by omega) (show 10 * a + digV (tp q) < 2 ^ 31 by omega), numT, hle]
      have hnr : numR tp t M s = numT tp M (tokE tp t s - s) s 0 := by unfold numR; rw [if_pos ⟨hlt, h2⟩]
      rw [hnr]
      simp only [eX3_takeNumber_0, eX3_takeNumber_1, eX3_takeNumber_4, eX3_takeNumber_7, eX3_takeNumber_8, eX3_takeNumber_11, eX3_takeNumber_12, eX3_takeNumber_15, eX3_takeNumber_16, eX3_takeNumber_19, eX3_takeNumber_20, eX3_takeNumber_23, eX3_takeNumber_24, eX3_takeNumber_25, eX3_takeNumber_26, eX3_takeNumber_27, eX3_takeNumber_28, eX3_takeNumber_31, eX3_takeNumber_33, eX3_takeNumber_34, eX3_takeNumber_37, eX3_takeNumber_40, eX3_takeNumber_42, eX3_takeNumber_43, eX3_takeNumber_44, eX3_takeNumber_45, eX3_takeNumber_48, eX3_takeNumber_49, eX3_takeNumber_50, eX3_takeNumber_51, eX3_takeNumber_53, eX3_takeNumber_54, eX3_takeNumber_55, eX3_takeNumber_56, eX3_takeNumber_57, eX3_takeNumber_60, eX3_takeNumber_61, eX3_takeNumber_62, eX3_takeNumber_65, eX3_takeNumber_68, eX3_takeNumber_69, eX3_takeNumber_72, eX3_takeNumber_73, cw_is, cw_isP, cw_isA, cw_isK, cw_kp, cw_tis, cw_t0, cw_t1, cw_t2, cw_t3, cw_tp, cw_bn, cw_bw, cw_bv, cw_bs, cw_rp1, cw_rp2, cw_rn, cw_rg, cw_rl, cw_fn, cw_fw, cw_fv, cw_fs, cw_f0, cw_f1, cw_f2, cw_f3, cw_f4, cw_f5, cw_f6, p_n0, p_n1, p_n2, p_n3, p_n4, p_n5, p_n6, p_w0, p_w1, p_w2, p_w3, p_w4, p_w5, p_w6, p_v0, p_v1, p_v2, p_v3, p_v4, p_v5, p_v6, p_s0, p_s1, p_s2, p_s3, p_s4, p_s5, p_s6, a_n0, a_n1, a_n2, a_n3, a_n4, a_n5, a_n6, a_w0, a_w1, a_w2, a_w3, a_w4, a_w5, a_w6, a_v0, a_v1, a_v2, a_v3, a_v4, a_v5, a_v6, a_s0, a_s1, a_s2, a_s3, a_s4, a_s5, a_s6, p_f0, p_f1, p_f2, p_f3, p_f4, p_f5, p_f6, p_f7, p_f8, p_f9, a_f0, a_f1, a_f2, a_f3, a_f4, a_f5, a_f6, a_f7, a_f8, a_f9, p_p1, a_p1, cpAP, cpKP, cpPK, cpPA, Option.elim_some, true_and, and_true, Option.toList_some, Option.toList_none, List.cons_append, List.nil_append, sX3_isAllTaken, hne, decide_false, bI_f, if_true, if_false, vp120 (show s < 120 by omega), nI_clamp (show s < 2 ^ 31 by omega), sX3_sortOf, h2, if_true]
      exact loop (tokE tp t s - s) s 0 (by omega) (Nat.le_refl s) (Nat.zero_le M)
    · have hnr : numR tp t M s = none := by unfold numR; rw [if_neg (fun q => h2 q.2)]
      rw [hnr]
      simp only [eX3_takeNumber_0, eX3_takeNumber_1, eX3_takeNumber_4, eX3_takeNumber_7, eX3_takeNumber_8, eX3_takeNumber_11, eX3_takeNumber_12, eX3_takeNumber_15, eX3_takeNumber_16, eX3_takeNumber_19, eX3_takeNumber_20, eX3_takeNumber_23, eX3_takeNumber_24, eX3_takeNumber_25, eX3_takeNumber_26, eX3_takeNumber_27, eX3_takeNumber_28, eX3_takeNumber_31, eX3_takeNumber_33, eX3_takeNumber_34, eX3_takeNumber_37, eX3_takeNumber_40, eX3_takeNumber_42, eX3_takeNumber_43, eX3_takeNumber_44, eX3_takeNumber_45, eX3_takeNumber_48, eX3_takeNumber_49, eX3_takeNumber_50, eX3_takeNumber_51, eX3_takeNumber_53, eX3_takeNumber_54, eX3_takeNumber_55, eX3_takeNumber_56, eX3_takeNumber_57, eX3_takeNumber_60, eX3_takeNumber_61, eX3_takeNumber_62, eX3_takeNumber_65, eX3_takeNumber_68, eX3_takeNumber_69, eX3_takeNumber_72, eX3_takeNumber_73, cw_is, cw_isP, cw_isA, cw_isK, cw_kp, cw_tis, cw_t0, cw_t1, cw_t2, cw_t3, cw_tp, cw_bn, cw_bw, cw_bv, cw_bs, cw_rp1, cw_rp2, cw_rn, cw_rg, cw_rl, cw_fn, cw_fw, cw_fv, cw_fs, cw_f0, cw_f1, cw_f2, cw_f3, cw_f4, cw_f5, cw_f6, p_n0, p_n1, p_n2, p_n3, p_n4, p_n5, p_n6, p_w0, p_w1, p_w2, p_w3, p_w4, p_w5, p_w6, p_v0, p_v1, p_v2, p_v3, p_v4, p_v5, p_v6, p_s0, p_s1, p_s2, p_s3, p_s4, p_s5, p_s6, a_n0, a_n1, a_n2, a_n3, a_n4, a_n5, a_n6, a_w0, a_w1, a_w2, a_w3, a_w4, a_w5, a_w6, a_v0, a_v1, a_v2, a_v3, a_v4, a_v5, a_v6, a_s0, a_s1, a_s2, a_s3, a_s4, a_s5, a_s6, p_f0, p_f1, p_f2, p_f3, p_f4, p_f5, p_f6, p_f7, p_f8, p_f9, a_f0, a_f1, a_f2, a_f3, a_f4, a_f5, a_f6, a_f7, a_f8, a_f9, p_p1, a_p1, cpAP, cpKP, cpPK, cpPA, Option.elim_some, true_and, and_true, Option.toList_some, Option.toList_none, List.cons_append, List.nil_append, sX3_isAllTaken, hne, decide_false, bI_f, if_true, if_false, vp120 (show s < 120 by omega), nI_clamp (show s < 2 ^ 31 by omega), sX3_sortOf, h2]
theorem sX1_name {kd : Nat} (h : kd < 6) : sg θ (n + 1) 170 [.int (nI kd)] w Q ↔ Q (some (.ref (θ.2 (nameIx kd)))) w := by
  rw [nX1_name]
  match kd, h with
  | 0, _ => simp (decide := true) only [eX1_name_0, eX1_name_1, eX1_name_36, eX1_name_38, eX1_name_39, eX1_name_41, eX1_name_42, eX1_name_44, eX1_name_45, eX1_name_47, eX1_name_48, eX1_name_50, eX1_name_51, eX1_name_53, if_false, if_true]; exact Iff.rfl
  | 1, _ => simp (decide := true) only [eX1_name_0, eX1_name_1, eX1_name_36, eX1_name_38, eX1_name_39, eX1_name_41, eX1_name_42, eX1_name_44, eX1_name_45, eX1_name_47, eX1_name_48, eX1_name_50, eX1_name_51, eX1_name_53, if_false, if_true]; exact Iff.rfl
  | 2, _ => simp (decide := true) only [eX1_name_0, eX1_name_1, eX1_name_36, eX1_name_38, eX1_name_39, eX1_name_41, eX1_name_42, eX1_name_44, eX1_name_45, eX1_name_47, eX1_name_48, eX1_name_50, eX1_name_51, eX1_name_53, if_false, if_true]; exact Iff.rfl
  | 3, _ => simp (decide := true) only [eX1_name_0, eX1_name_1, eX1_name_36, eX1_name_38, eX1_name_39, eX1_name_41, eX1_name_42, eX1_name_44, eX1_name_45, eX1_name_47, eX1_name_48, eX1_name_50, eX1_name_51, eX1_name_53, if_false, if_true]; exact Iff.rfl
  | 4, _ => simp (decide := true) only [eX1_name_0, eX1_name_1, eX1_name_36, eX1_name_38, eX1_name_39, eX1_name_41, eX1_name_42, eX1_name_44, eX1_name_45, eX1_name_47, eX1_name_48, eX1_name_50, eX1_name_51, eX1_name_53, if_false, if_true]; exact Iff.rfl
  | 5, _ => simp (decide := true) only [eX1_name_0, eX1_name_1, eX1_name_36, eX1_name_38, eX1_name_39, eX1_name_41, eX1_name_42, eX1_name_44, eX1_name_45, eX1_name_47, eX1_name_48, eX1_name_50, eX1_name_51, eX1_name_53, if_false, if_true]; exact Iff.rfl
theorem sX4_takeKind (hx : exOK θ w b) (hS : exS θ) {s : Nat} (hs : s ≤ t) (ht : t ≤ 120) : sg θ (n + 6) 188 [.ref (b + 25)] (cW w b P A K kp tp (nI t) (nI s) (nI (tokE tp t s)) sh fd) Q ↔ match kindAt tp t s with | some kd => Q (some (.int (nI kd))) (cW w b P A K kp tp (nI t) (nI (nxt tp t s)) (nI (tokE tp t (nxt tp t s))) sh fd) | none => Q (some (.int (-1))) (cW w b P A K kp tp (nI t) (nI s) (nI (tokE tp t s)) sh fd) := by
  rw [nX4_takeKind]
  generalize ((cW w b P A K kp tp (nI t) (nI s) (nI (tokE tp t s)) sh fd).2.1 + 0, (cW w b P A K kp tp (nI t) (nI s) (nI (tokE tp t s)) sh fd).2.2 + 0) = lim
  have loop : ∀ d kd, kd + d = 6 → (Wp (xX4_takeKind θ (n + 5) lim) Q (2, [some (.ref (b + 25)), some (.int (nI kd))], [], cW w b P A K kp tp (nI t) (nI s) (nI (tokE tp t s)) sh fd) ↔ match kindUp tp t s d kd with | some kd => Q (some (.int (nI kd))) (cW w b P A K kp tp (nI t) (nI (nxt tp t s)) (nI (tokE tp t (nxt tp t s))) sh fd) | none => Q (some (.int (-1))) (cW w b P A K kp tp (nI t) (nI s) (nI (tokE tp t s)) sh fd)) := by
    intro d
    induction d with
    | zero =>
      intro kd h
      have h : kd = 6 := by omega
      subst h
      rw [eX4_takeKind_2]
      simp only [eX4_takeKind_0, eX4_takeKind_1, eX4_takeKind_3, eX4_takeKind_4, eX4_takeKind_7, eX4_takeKind_8, eX4_takeKind_9, eX4_takeKind_12, eX4_takeKind_15, eX4_takeKind_18, eX4_takeKind_19, eX4_takeKind_20, eX4_takeKind_23, eX4_takeKind_26, eX4_takeKind_27, show ((5 : Int32) < nI 6) = True by decide, if_true, kindUp]
    | succ d ih =>
      intro kd h
      have ih := ih (kd + 1) (by omega)
      rw [nI_succ] at ih
      have htk := fun n Q => sX3_take (θ := θ) (n := n) (w := w) (b := b) (P := P) (A := A) (K := K) (kp := kp) (tp := tp) (sh := sh) (fd := fd) (Q := Q) hx hS (name_tx kd (by omega)) hs ht
      have hn5 : ¬ (5 : Int32) < nI kd := (show ¬ nI 5 < nI kd from nI_nlt (show kd ≤ 5 by omega) (by decide))
      rw [eX4_takeKind_2]
      by_cases hb : takeB tp t s (nameT kd) = true
      · simp only [eX4_takeKind_0, eX4_takeKind_1, eX4_takeKind_3, eX4_takeKind_4, eX4_takeKind_7, eX4_takeKind_8, eX4_takeKind_9, eX4_takeKind_12, eX4_takeKind_15, eX4_takeKind_18, eX4_takeKind_19, eX4_takeKind_20, eX4_takeKind_23, eX4_takeKind_26, eX4_takeKind_27, cw_is, cw_isP, cw_isA, cw_isK, cw_kp, cw_tis, cw_t0, cw_t1, cw_t2, cw_t3, cw_tp, cw_bn, cw_bw, cw_bv, cw_bs, cw_rp1, cw_rp2, cw_rn, cw_rg, cw_rl, cw_fn, cw_fw, cw_fv, cw_fs, cw_f0, cw_f1, cw_f2, cw_f3, cw_f4, cw_f5, cw_f6, p_n0, p_n1, p_n2, p_n3, p_n4, p_n5, p_n6, p_w0, p_w1, p_w2, p_w3, p_w4, p_w5, p_w6, p_v0, p_v1, p_v2, p_v3, p_v4, p_v5, p_v6, p_s0, p_s1, p_s2, p_s3, p_s4, p_s5, p_s6, a_n0, a_n1, a_n2, a_n3, a_n4, a_n5, a_n6, a_w0, a_w1, a_w2, a_w3, a_w4, a_w5, a_w6, a_v0, a_v1, a_v2, a_v3, a_v4, a_v5, a_v6, a_s0, a_s1, a_s2, a_s3, a_s4, a_s5, a_s6, p_f0, p_f1, p_f2, p_f3, p_f4, p_f5, p_f6, p_f7, p_f8, p_f9, a_f0, a_f1, a_f2, a_f3, a_f4, a_f5, a_f6, a_f7, a_f8, a_f9, p_p1, a_p1, cpAP, cpKP, cpPK, cpPA, Option.elim_some, true_and, and_true, Option.toList_some, Option.toList_none, List.cons_append, List.nil_append, hn5, if_false, sX1_name (show kd < 6 by omega), htk, hb, if_true, kindUp, i10]
      · simp only [eX4_takeKind_0, eX4_takeKind_1, eX4_takeKind_3, eX4_takeKind_4, eX4_takeKind_7, eX4_takeKind_8, eX4_takeKind_9, eX4_takeKind_12, eX4_takeKind_15, eX4_takeKind_18, eX4_takeKind_19, eX4_takeKind_20, eX4_takeKind_23, eX4_takeKind_26, eX4_takeKind_27, cw_is, cw_isP, cw_isA, cw_isK, cw_kp, cw_tis, cw_t0, cw_t1, cw_t2, cw_t3, cw_tp, cw_bn, cw_bw, cw_bv, cw_bs, cw_rp1, cw_rp2, cw_rn, cw_rg, cw_rl, cw_fn, cw_fw, cw_fv, cw_fs, cw_f0, cw_f1, cw_f2, cw_f3, cw_f4, cw_f5, cw_f6, p_n0, p_n1, p_n2, p_n3, p_n4, p_n5, p_n6, p_w0, p_w1, p_w2, p_w3, p_w4, p_w5, p_w6, p_v0, p_v1, p_v2, p_v3, p_v4, p_v5, p_v6, p_s0, p_s1, p_s2, p_s3, p_s4, p_s5, p_s6, a_n0, a_n1, a_n2, a_n3, a_n4, a_n5, a_n6, a_w0, a_w1, a_w2, a_w3, a_w4, a_w5, a_w6, a_v0, a_v1, a_v2, a_v3, a_v4, a_v5, a_v6, a_s0, a_s1, a_s2, a_s3, a_s4, a_s5, a_s6, p_f0, p_f1, p_f2, p_f3, p_f4, p_f5, p_f6, p_f7, p_f8, p_f9, a_f0, a_f1, a_f2, a_f3, a_f4, a_f5, a_f6, a_f7, a_f8, a_f9, p_p1, a_p1, cpAP, cpKP, cpPK, cpPA, Option.elim_some, true_and, and_true, Option.toList_some, Option.toList_none, List.cons_append, List.nil_append, hn5, if_false, sX1_name (show kd < 6 by omega), htk, hb, kindUp, if_true]
        exact ih
  simp only [eX4_takeKind_0, eX4_takeKind_1, eX4_takeKind_3, eX4_takeKind_4, eX4_takeKind_7, eX4_takeKind_8, eX4_takeKind_9, eX4_takeKind_12, eX4_takeKind_15, eX4_takeKind_18, eX4_takeKind_19, eX4_takeKind_20, eX4_takeKind_23, eX4_takeKind_26, eX4_takeKind_27]
  exact loop 6 0 (by omega)
end T63
/-- a walker told in a text: whether it is, where the reading stands then, the row -/
def wk3 (tp : Nat → Int32) (t m s : Nat) (r : rR) : Bool × Nat × rR :=
  if takeB tp t s (tTX.getD 11 []) = true then (true, nxt tp t s, upd r (3 + 7 * m + 4) 1) else (true, s, r)
def wk2 (tp : Nat → Int32) (t m s : Nat) (r : rR) : Bool × Nat × rR :=
  if takeB tp t s (tTX.getD 10 []) = true then (match numR tp t 9 (nxt tp t s) with
    | some v => wk3 tp t m (nxt tp t (nxt tp t s)) (upd r (3 + 7 * m + 3) (nI v))
    | none => (false, nxt tp t s, r)) else wk3 tp t m s r
def wk1 (tp : Nat → Int32) (t m s : Nat) (r : rR) : Bool × Nat × rR :=
  if takeB tp t s (tTX.getD 9 []) = true then wk2 tp t m (nxt tp t s) (upd r (3 + 7 * m + 2) 0) else wk2 tp t m s r
def wk0 (tp : Nat → Int32) (t m s : Nat) (r : rR) : Bool × Nat × rR :=
  if m = 8 then (false, s, r) else match kindAt tp t s with
    | none => (false, s, r)
    | some kd => if takeB tp t (nxt tp t s) (tTX.getD 8 []) = true then (match numR tp t 99 (nxt tp t (nxt tp t s)) with
        | some v => wk1 tp t m (nxt tp t (nxt tp t (nxt tp t s))) (addR r m (nI kd) (nI v))
        | none => (false, nxt tp t (nxt tp t s), r)) else (false, nxt tp t s, r)
def item (tp : Nat → Int32) (t m s : Nat) (r : rR) : Bool × Nat × rR :=
  if takeB tp t s (tTX.getD 0 []) = true then (true, nxt tp t s, upd r 1 1) else if takeB tp t s (tTX.getD 1 []) = true then (true, nxt tp t s, upd r 1 0) else wk0 tp t m s r
