/-- in how many minutes something holds first, of d looks; d: in none of them -/
def firstN (c : rR → Bool) (m : Nat) : Nat → rR → Nat
  | 0, _ => 0
  | d + 1, r => if c r = true then 0 else firstN c m d (minR m r) + 1
def firstW (c : rR → Bool) (m : Nat) : Nat → rR → rR
  | 0, r => r
  | d + 1, r => if c r = true then r else firstW c m d (minR m r)
/-- the same, a minute going ahead of each look -/
def thenN (c : rR → Bool) (m : Nat) : Nat → rR → Nat
  | 0, _ => 0
  | d + 1, r => if c (minR m r) = true then 0 else thenN c m d (minR m r) + 1
def thenW (c : rR → Bool) (m : Nat) : Nat → rR → rR
  | 0, r => r
  | d + 1, r => if c (minR m r) = true then minR m r else thenW c m d (minR m r)
section T45
variable {θ : (Nat → Value) × (Nat → Nat)} {n : Nat} {w : rW} {b : Nat} {P A K : rR} {kp : Int32} {tp : Nat → Int32} {tl rs re : Int32} {sh : rSh} {fd : Nat → Int32} {Q : rQ} {m : Nat}
theorem lt200 {q : Nat} (h : q ≤ 200) : ¬ (200 : Int32) < nI q := nI_nlt (a := 200) (b := q) h (by decide)
theorem sX5_bumps (hx : exOK θ w b) (hk : kOK P m) {x : Int32} : sg θ (n + 6) 54 [.ref b, .int x] (cW w b P A K kp tp tl rs re sh fd) Q ↔ if isW P x = true then (if thenN (fun r => decide (its P x.toNatClampNeg 6 < its r x.toNatClampNeg 6)) m 200 P < 200 then Q (some (.int (nI (thenN (fun r => decide (its P x.toNatClampNeg 6 < its r x.toNatClampNeg 6)) m 200 P + 1)))) (cW w b P (thenW (fun r => decide (its P x.toNatClampNeg 6 < its r x.toNatClampNeg 6)) m 200 P) K kp tp tl rs re sh fd) else Q (some (.int (-1000000004))) (cW w b P (thenW (fun r => decide (its P x.toNatClampNeg 6 < its r x.toNatClampNeg 6)) m 200 P) K kp tp tl rs re sh (fB fd 3))) else Q (some (.int (-1000000001))) (cW w b P A K kp tp tl rs re sh (fB fd 0)) := by
  rw [nX5_bumps]
  generalize ((cW w b P A K kp tp tl rs re sh fd).2.1 + 0, (cW w b P A K kp tp tl rs re sh fd).2.2 + 0) = lim
  have h8 := hk.2.1
  cases h1 : isW P x with
  | false => simp only [eX5_bumps_0, eX5_bumps_1, eX5_bumps_2, eX5_bumps_5, eX5_bumps_8, eX5_bumps_9, eX5_bumps_11, eX5_bumps_14, eX5_bumps_15, eX5_bumps_16, eX5_bumps_19, eX5_bumps_20, eX5_bumps_22, eX5_bumps_25, eX5_bumps_28, eX5_bumps_29, eX5_bumps_32, eX5_bumps_35, eX5_bumps_36, eX5_bumps_39, eX5_bumps_42, eX5_bumps_43, eX5_bumps_44, eX5_bumps_45, eX5_bumps_48, eX5_bumps_51, eX5_bumps_52, eX5_bumps_53, eX5_bumps_56, eX5_bumps_57, eX5_bumps_58, eX5_bumps_61, eX5_bumps_64, eX5_bumps_65, eX5_bumps_67, eX5_bumps_70, sX5_isWalker, h1, bI_f, if_true, cw_is, cw_isP, cw_isA, cw_isK, cw_kp, cw_tis, cw_t0, cw_t1, cw_t2, cw_t3, cw_tp, cw_bn, cw_bw, cw_bv, cw_bs, cw_rp1, cw_rp2, cw_rn, cw_rg, cw_rl, cw_fn, cw_fw, cw_fv, cw_fs, cw_f0, cw_f1, cw_f2, cw_f3, cw_f4, cw_f5, cw_f6, p_n0, p_n1, p_n2, p_n3, p_n4, p_n5, p_n6, p_w0, p_w1, p_w2, p_w3, p_w4, p_w5, p_w6, p_v0, p_v1, p_v2, p_v3, p_v4, p_v5, p_v6, p_s0, p_s1, p_s2, p_s3, p_s4, p_s5, p_s6, a_n0, a_n1, a_n2, a_n3, a_n4, a_n5, a_n6, a_w0, a_w1, a_w2, a_w3, a_w4, a_w5, a_w6, a_v0, a_v1, a_v2, a_v3, a_v4, a_v5, a_v6, a_s0, a_s1, a_s2, a_s3, a_s4, a_s5, a_s6, p_f0, p_f1, p_f2, p_f3, p_f4, p_f5, p_f6, p_f7, p_f8, p_f9, a_f0, a_f1, a_f2, a_f3, a_f4, a_f5, a_f6, a_f7, a_f8, a_f9, p_p1, a_p1, cpAP, cpKP, cpPK, cpPA, Option.elim_some, true_and, and_true, Option.toList_some, Option.toList_none, List.cons_append, List.nil_append, fin0, Bool.false_eq_true, if_false]
  | true =>
    obtain ⟨i, hi, rfl, ci⟩ := walker_of hk.1 h8 h1
    have i8 : i < 8 := by omega
    rw [ci]
    generalize hc : (fun r => decide (its P i 6 < its r i 6)) = c
    have loop : ∀ d q r, q + d = 200 → kOK r m → (Wp (xX5_bumps θ (n + 5) lim) Q (21, [some (.ref b), some (.int (nI i)), some (.int (nI (q + 1)))], [], cW w b P r K kp tp tl rs re sh fd) ↔ if thenN c m d r < d then Q (some (.int (nI (q + thenN c m d r + 1)))) (cW w b P (thenW c m d r) K kp tp tl rs re sh fd) else Q (some (.int (-1000000004))) (cW w b P (thenW c m d r) K kp tp tl rs re sh (fB fd 3))) := by
      intro d
      induction d with
      | zero =>
        intro q r hq hkr
        have hq : q = 200 := by omega
        subst hq
        rw [eX5_bumps_21]
        simp only [eX5_bumps_0, eX5_bumps_1, eX5_bumps_2, eX5_bumps_5, eX5_bumps_8, eX5_bumps_9, eX5_bumps_11, eX5_bumps_14, eX5_bumps_15, eX5_bumps_16, eX5_bumps_19, eX5_bumps_20, eX5_bumps_22, eX5_bumps_25, eX5_bumps_28, eX5_bumps_29, eX5_bumps_32, eX5_bumps_35, eX5_bumps_36, eX5_bumps_39, eX5_bumps_42, eX5_bumps_43, eX5_bumps_44, eX5_bumps_45, eX5_bumps_48, eX5_bumps_51, eX5_bumps_52, eX5_bumps_53, eX5_bumps_56, eX5_bumps_57, eX5_bumps_58, eX5_bumps_61, eX5_bumps_64, eX5_bumps_65, eX5_bumps_67, eX5_bumps_70, show ((200 : Int32) < nI (200 + 1)) = True by decide, if_true, cw_is, cw_isP, cw_isA, cw_isK, cw_kp, cw_tis, cw_t0, cw_t1, cw_t2, cw_t3, cw_tp, cw_bn, cw_bw, cw_bv, cw_bs, cw_rp1, cw_rp2, cw_rn, cw_rg, cw_rl, cw_fn, cw_fw, cw_fv, cw_fs, cw_f0, cw_f1, cw_f2, cw_f3, cw_f4, cw_f5, cw_f6, p_n0, p_n1, p_n2, p_n3, p_n4, p_n5, p_n6, p_w0, p_w1, p_w2, p_w3, p_w4, p_w5, p_w6, p_v0, p_v1, p_v2, p_v3, p_v4, p_v5, p_v6, p_s0, p_s1, p_s2, p_s3, p_s4, p_s5, p_s6, a_n0, a_n1, a_n2, a_n3, a_n4, a_n5, a_n6, a_w0, a_w1, a_w2, a_w3, a_w4, a_w5, a_w6, a_v0, a_v1, a_v2, a_v3, a_v4, a_v5, a_v6, a_s0, a_s1, a_s2, a_s3, a_s4, a_s5, a_s6, p_f0, p_f1, p_f2, p_f3, p_f4, p_f5, p_f6, p_f7, p_f8, p_f9, a_f0, a_f1, a_f2, a_f3, a_f4, a_f5, a_f6, a_f7, a_f8, a_f9, p_p1, a_p1, cpAP, cpKP, cpPK, cpPA, Option.elim_some, true_and, and_true, Option.toList_some, Option.toList_none, List.cons_append, List.nil_append, fin3, thenN, thenW, Nat.lt_irrefl, if_false]
      | succ d ih =>
        intro q r hq hkr
        rw [eX5_bumps_21]
        have hp := fun n Q => aX0_passMinute (θ := θ) (n := n) (w := w) (b := b) (P := P) (A := r) (K := K) (kp := kp) (tp := tp) (tl := tl) (rs := rs) (re := re) (sh := sh) (fd := fd) (Q := Q) hx hkr
        have ih := ih (q + 1) (minR m r) (by omega) hkr.min
        rw [nI_succ] at ih
        simp only [eX5_bumps_0, eX5_bumps_1, eX5_bumps_2, eX5_bumps_5, eX5_bumps_8, eX5_bumps_9, eX5_bumps_11, eX5_bumps_14, eX5_bumps_15, eX5_bumps_16, eX5_bumps_19, eX5_bumps_20, eX5_bumps_22, eX5_bumps_25, eX5_bumps_28, eX5_bumps_29, eX5_bumps_32, eX5_bumps_35, eX5_bumps_36, eX5_bumps_39, eX5_bumps_42, eX5_bumps_43, eX5_bumps_44, eX5_bumps_45, eX5_bumps_48, eX5_bumps_51, eX5_bumps_52, eX5_bumps_53, eX5_bumps_56, eX5_bumps_57, eX5_bumps_58, eX5_bumps_61, eX5_bumps_64, eX5_bumps_65, eX5_bumps_67, eX5_bumps_70, lt200 (show q + 1 ≤ 200 by omega), if_false, cw_is, cw_isP, cw_isA, cw_isK, cw_kp, cw_tis, cw_t0, cw_t1, cw_t2, cw_t3, cw_tp, cw_bn, cw_bw, cw_bv, cw_bs, cw_rp1, cw_rp2, cw_rn, cw_rg, cw_rl, cw_fn, cw_fw, cw_fv, cw_fs, cw_f0, cw_f1, cw_f2, cw_f3, cw_f4, cw_f5, cw_f6, p_n0, p_n1, p_n2, p_n3, p_n4, p_n5, p_n6, p_w0, p_w1, p_w2, p_w3, p_w4, p_w5, p_w6, p_v0, p_v1, p_v2, p_v3, p_v4, p_v5, p_v6, p_s0, p_s1, p_s2, p_s3, p_s4, p_s5, p_s6, a_n0, a_n1, a_n2, a_n3, a_n4, a_n5, a_n6, a_w0, a_w1, a_w2, a_w3, a_w4, a_w5, a_w6, a_v0, a_v1, a_v2, a_v3, a_v4, a_v5, a_v6, a_s0, a_s1, a_s2, a_s3, a_s4, a_s5, a_s6, p_f0, p_f1, p_f2, p_f3, p_f4, p_f5, p_f6, p_f7, p_f8, p_f9, a_f0, a_f1, a_f2, a_f3, a_f4, a_f5, a_f6, a_f7, a_f8, a_f9, p_p1, a_p1, cpAP, cpKP, cpPK, cpPA, Option.elim_some, true_and, and_true, Option.toList_some, Option.toList_none, List.cons_append, List.nil_append, hp, vp8 i8, cl8 i8, i8, avRow_its]
        have hcr : c (minR m r) = decide (its P i 6 < its (minR m r) i 6) := by rw [← hc]
        by_cases h2 : its (minR m r) i 6 ≤ its P i 6
        · have h3 : c (minR m r) = false := by rw [hcr]; exact decide_eq_false (Int32.not_lt.mpr h2)
          simp only [h2, if_true, thenN, thenW, h3, Bool.false_eq_true, if_false, Nat.add_lt_add_iff_right]
          rw [show q + (thenN c m d (minR m r) + 1) + 1 = q + 1 + thenN c m d (minR m r) + 1 by omega]
          exact ih
        · have h3 : c (minR m r) = true := by rw [hcr]; exact decide_eq_true (Int32.not_le.mp h2)
          simp only [h2, if_false, thenN, thenW, h3, if_true, Nat.zero_lt_succ, Nat.add_zero]
    simp only [eX5_bumps_0, eX5_bumps_1, eX5_bumps_2, eX5_bumps_5, eX5_bumps_8, eX5_bumps_9, eX5_bumps_11, eX5_bumps_14, eX5_bumps_15, eX5_bumps_16, eX5_bumps_19, eX5_bumps_20, eX5_bumps_22, eX5_bumps_25, eX5_bumps_28, eX5_bumps_29, eX5_bumps_32, eX5_bumps_35, eX5_bumps_36, eX5_bumps_39, eX5_bumps_42, eX5_bumps_43, eX5_bumps_44, eX5_bumps_45, eX5_bumps_48, eX5_bumps_51, eX5_bumps_52, eX5_bumps_53, eX5_bumps_56, eX5_bumps_57, eX5_bumps_58, eX5_bumps_61, eX5_bumps_64, eX5_bumps_65, eX5_bumps_67, eX5_bumps_70, sX5_isWalker, h1, bI_t, i10, if_false, if_true, sX5_lookAhead, cw_is, cw_isP, cw_isA, cw_isK, cw_kp, cw_tis, cw_t0, cw_t1, cw_t2, cw_t3, cw_tp, cw_bn, cw_bw, cw_bv, cw_bs, cw_rp1, cw_rp2, cw_rn, cw_rg, cw_rl, cw_fn, cw_fw, cw_fv, cw_fs, cw_f0, cw_f1, cw_f2, cw_f3, cw_f4, cw_f5, cw_f6, p_n0, p_n1, p_n2, p_n3, p_n4, p_n5, p_n6, p_w0, p_w1, p_w2, p_w3, p_w4, p_w5, p_w6, p_v0, p_v1, p_v2, p_v3, p_v4, p_v5, p_v6, p_s0, p_s1, p_s2, p_s3, p_s4, p_s5, p_s6, a_n0, a_n1, a_n2, a_n3, a_n4, a_n5, a_n6, a_w0, a_w1, a_w2, a_w3, a_w4, a_w5, a_w6, a_v0, a_v1, a_v2, a_v3, a_v4, a_v5, a_v6, a_s0, a_s1, a_s2, a_s3, a_s4, a_s5, a_s6, p_f0, p_f1, p_f2, p_f3, p_f4, p_f5, p_f6, p_f7, p_f8, p_f9, a_f0, a_f1, a_f2, a_f3, a_f4, a_f5, a_f6, a_f7, a_f8, a_f9, p_p1, a_p1, cpAP, cpKP, cpPK, cpPA, Option.elim_some, true_and, and_true, Option.toList_some, Option.toList_none, List.cons_append, List.nil_append]
    have := loop 200 0 P (by omega) hk
    simp only [Nat.zero_add] at this
    exact this
theorem sX5_meet (hx : exOK θ w b) (hk : kOK P m) {x y : Int32} : sg θ (n + 6) 55 [.ref b, .int x, .int y] (cW w b P A K kp tp tl rs re sh fd) Q ↔ if isW P x = true ∧ isW P y = true ∧ ¬ x = y then (if firstN (fun r => seesP r x.toNatClampNeg y.toNatClampNeg && seesP r y.toNatClampNeg x.toNatClampNeg) m 201 P < 201 then Q (some (.int (nI (firstN (fun r => seesP r x.toNatClampNeg y.toNatClampNeg && seesP r y.toNatClampNeg x.toNatClampNeg) m 201 P)))) (cW w b P (firstW (fun r => seesP r x.toNatClampNeg y.toNatClampNeg && seesP r y.toNatClampNeg x.toNatClampNeg) m 201 P) K kp tp tl rs re sh fd) else Q (some (.int (-1000000004))) (cW w b P (firstW (fun r => seesP r x.toNatClampNeg y.toNatClampNeg && seesP r y.toNatClampNeg x.toNatClampNeg) m 201 P) K kp tp tl rs re sh (fB fd 3))) else Q (some (.int (-1000000001))) (cW w b P A K kp tp tl rs re sh (fB fd 0)) := by
  rw [nX5_meet]
  generalize ((cW w b P A K kp tp tl rs re sh fd).2.1 + 0, (cW w b P A K kp tp tl rs re sh fd).2.2 + 0) = lim
  have h8 := hk.2.1
  cases h1 : isW P x with
  | false => simp only [eX5_meet_0, eX5_meet_1, eX5_meet_2, eX5_meet_5, eX5_meet_8, eX5_meet_9, eX5_meet_10, eX5_meet_13, eX5_meet_16, eX5_meet_17, eX5_meet_18, eX5_meet_21, eX5_meet_22, eX5_meet_24, eX5_meet_27, eX5_meet_28, eX5_meet_29, eX5_meet_32, eX5_meet_33, eX5_meet_35, eX5_meet_38, eX5_meet_41, eX5_meet_42, eX5_meet_45, eX5_meet_46, eX5_meet_47, eX5_meet_50, eX5_meet_53, eX5_meet_54, eX5_meet_57, eX5_meet_58, eX5_meet_59, eX5_meet_62, eX5_meet_65, eX5_meet_66, eX5_meet_67, eX5_meet_68, eX5_meet_71, eX5_meet_74, eX5_meet_77, eX5_meet_80, eX5_meet_81, eX5_meet_83, eX5_meet_86, sX5_isWalker, h1, bI_f, if_true, cw_is, cw_isP, cw_isA, cw_isK, cw_kp, cw_tis, cw_t0, cw_t1, cw_t2, cw_t3, cw_tp, cw_bn, cw_bw, cw_bv, cw_bs, cw_rp1, cw_rp2, cw_rn, cw_rg, cw_rl, cw_fn, cw_fw, cw_fv, cw_fs, cw_f0, cw_f1, cw_f2, cw_f3, cw_f4, cw_f5, cw_f6, p_n0, p_n1, p_n2, p_n3, p_n4, p_n5, p_n6, p_w0, p_w1, p_w2, p_w3, p_w4, p_w5, p_w6, p_v0, p_v1, p_v2, p_v3, p_v4, p_v5, p_v6, p_s0, p_s1, p_s2, p_s3, p_s4, p_s5, p_s6, a_n0, a_n1, a_n2, a_n3, a_n4, a_n5, a_n6, a_w0, a_w1, a_w2, a_w3, a_w4, a_w5, a_w6, a_v0, a_v1, a_v2, a_v3, a_v4, a_v5, a_v6, a_s0, a_s1, a_s2, a_s3, a_s4, a_s5, a_s6, p_f0, p_f1, p_f2, p_f3, p_f4, p_f5, p_f6, p_f7, p_f8, p_f9, a_f0, a_f1, a_f2, a_f3, a_f4, a_f5, a_f6, a_f7, a_f8, a_f9, p_p1, a_p1, cpAP, cpKP, cpPK, cpPA, Option.elim_some, true_and, and_true, Option.toList_some, Option.toList_none, List.cons_append, List.nil_append, fin0, Bool.false_eq_true, false_and, if_false]
  | true =>
    cases h2 : isW P y with
    | false => simp only [eX5_meet_0, eX5_meet_1, eX5_meet_2, eX5_meet_5, eX5_meet_8, eX5_meet_9, eX5_meet_10, eX5_meet_13, eX5_meet_16, eX5_meet_17, eX5_meet_18, eX5_meet_21, eX5_meet_22, eX5_meet_24, eX5_meet_27, eX5_meet_28, eX5_meet_29, eX5_meet_32, eX5_meet_33, eX5_meet_35, eX5_meet_38, eX5_meet_41, eX5_meet_42, eX5_meet_45, eX5_meet_46, eX5_meet_47, eX5_meet_50, eX5_meet_53, eX5_meet_54, eX5_meet_57, eX5_meet_58, eX5_meet_59, eX5_meet_62, eX5_meet_65, eX5_meet_66, eX5_meet_67, eX5_meet_68, eX5_meet_71, eX5_meet_74, eX5_meet_77, eX5_meet_80, eX5_meet_81, eX5_meet_83, eX5_meet_86, sX5_isWalker, h1, h2, bI_t, bI_f, i10, if_true, cw_is, cw_isP, cw_isA, cw_isK, cw_kp, cw_tis, cw_t0, cw_t1, cw_t2, cw_t3, cw_tp, cw_bn, cw_bw, cw_bv, cw_bs, cw_rp1, cw_rp2, cw_rn, cw_rg, cw_rl, cw_fn, cw_fw, cw_fv, cw_fs, cw_f0, cw_f1, cw_f2, cw_f3, cw_f4, cw_f5, cw_f6, p_n0, p_n1, p_n2, p_n3, p_n4, p_n5, p_n6, p_w0, p_w1, p_w2, p_w3, p_w4, p_w5, p_w6, p_v0, p_v1, p_v2, p_v3, p_v4, p_v5, p_v6, p_s0, p_s1, p_s2, p_s3, p_s4, p_s5, p_s6, a_n0, a_n1, a_n2, a_n3, a_n4, a_n5, a_n6, a_w0, a_w1, a_w2, a_w3, a_w4, a_w5, a_w6, a_v0, a_v1, a_v2, a_v3, a_v4, a_v5, a_v6, a_s0, a_s1, a_s2, a_s3, a_s4, a_s5, a_s6, p_f0, p_f1, p_f2, p_f3, p_f4, p_f5, p_f6, p_f7, p_f8, p_f9, a_f0, a_f1, a_f2, a_f3, a_f4, a_f5, a_f6, a_f7, a_f8, a_f9, p_p1, a_p1, cpAP, cpKP, cpPK, cpPA, Option.elim_some, true_and, and_true, Option.toList_some, Option.toList_none, List.cons_append, List.nil_append, fin0, Bool.false_eq_true, false_and, and_false, if_false]
    | true =>
      by_cases h3 : x = y
      · simp only [eX5_meet_0, eX5_meet_1, eX5_meet_2, eX5_meet_5, eX5_meet_8, eX5_meet_9, eX5_meet_10, eX5_meet_13, eX5_meet_16, eX5_meet_17, eX5_meet_18, eX5_meet_21, eX5_meet_22, eX5_meet_24, eX5_meet_27, eX5_meet_28, eX5_meet_29, eX5_meet_32, eX5_meet_33, eX5_meet_35, eX5_meet_38, eX5_meet_41, eX5_meet_42, eX5_meet_45, eX5_meet_46, eX5_meet_47, eX5_meet_50, eX5_meet_53, eX5_meet_54, eX5_meet_57, eX5_meet_58, eX5_meet_59, eX5_meet_62, eX5_meet_65, eX5_meet_66, eX5_meet_67, eX5_meet_68, eX5_meet_71, eX5_meet_74, eX5_meet_77, eX5_meet_80, eX5_meet_81, eX5_meet_83, eX5_meet_86, sX5_isWalker, h1, h2, h3, bI_t, i10, if_true, cw_is, cw_isP, cw_isA, cw_isK, cw_kp, cw_tis, cw_t0, cw_t1, cw_t2, cw_t3, cw_tp, cw_bn, cw_bw, cw_bv, cw_bs, cw_rp1, cw_rp2, cw_rn, cw_rg, cw_rl, cw_fn, cw_fw, cw_fv, cw_fs, cw_f0, cw_f1, cw_f2, cw_f3, cw_f4, cw_f5, cw_f6, p_n0, p_n1, p_n2, p_n3, p_n4, p_n5, p_n6, p_w0, p_w1, p_w2, p_w3, p_w4, p_w5, p_w6, p_v0, p_v1, p_v2, p_v3, p_v4, p_v5, p_v6, p_s0, p_s1, p_s2, p_s3, p_s4, p_s5, p_s6, a_n0, a_n1, a_n2, a_n3, a_n4, a_n5, a_n6, a_w0, a_w1, a_w2, a_w3, a_w4, a_w5, a_w6, a_v0, a_v1, a_v2, a_v3, a_v4, a_v5, a_v6, a_s0, a_s1, a_s2, a_s3, a_s4, a_s5, a_s6, p_f0, p_f1, p_f2, p_f3, p_f4, p_f5, p_f6, p_f7, p_f8, p_f9, a_f0, a_f1, a_f2, a_f3, a_f4, a_f5, a_f6, a_f7, a_f8, a_f9, p_p1, a_p1, cpAP, cpKP, cpPK, cpPA, Option.elim_some, true_and, and_true, Option.toList_some, Option.toList_none, List.cons_append, List.nil_append, fin0, not_true, and_false, if_false]
      · obtain ⟨i, hi, rfl, ci⟩ := walker_of hk.1 h8 h1
        obtain ⟨j, hj, rfl, cj⟩ := walker_of hk.1 h8 h2
        have i8 : i < 8 := by omega
        have j8 : j < 8 := by omega
        rw [ci, cj]
        generalize hc : (fun r => seesP r i j && seesP r j i) = c
        have loop : ∀ d q r, q + d = 201 → kOK r m → (Wp (xX5_meet θ (n + 5) lim) Q (34, [some (.ref b), some (.int (nI i)), some (.int (nI j)), some (.int (nI q))], [], cW w b P r K kp tp tl rs re sh fd) ↔ if firstN c m d r < d then Q (some (.int (nI (q + firstN c m d r)))) (cW w b P (firstW c m d r) K kp tp tl rs re sh fd) else Q (some (.int (-1000000004))) (cW w b P (firstW c m d r) K kp tp tl rs re sh (fB fd 3))) := by
          intro d
          induction d with
          | zero =>
            intro q r hq hkr
            have hq : q = 201 := by omega
            subst hq
            rw [eX5_meet_34]
            simp only [eX5_meet_0, eX5_meet_1, eX5_meet_2, eX5_meet_5, eX5_meet_8, eX5_meet_9, eX5_meet_10, eX5_meet_13, eX5_meet_16, eX5_meet_17, eX5_meet_18, eX5_meet_21, eX5_meet_22, eX5_meet_24, eX5_meet_27, eX5_meet_28, eX5_meet_29, eX5_meet_32, eX5_meet_33, eX5_meet_35, eX5_meet_38, eX5_meet_41, eX5_meet_42, eX5_meet_45, eX5_meet_46, eX5_meet_47, eX5_meet_50, eX5_meet_53, eX5_meet_54, eX5_meet_57, eX5_meet_58, eX5_meet_59, eX5_meet_62, eX5_meet_65, eX5_meet_66, eX5_meet_67, eX5_meet_68, eX5_meet_71, eX5_meet_74, eX5_meet_77, eX5_meet_80, eX5_meet_81, eX5_meet_83, eX5_meet_86, show ((200 : Int32) < nI 201) = True by decide, if_true, cw_is, cw_isP, cw_isA, cw_isK, cw_kp, cw_tis, cw_t0, cw_t1, cw_t2, cw_t3, cw_tp, cw_bn, cw_bw, cw_bv, cw_bs, cw_rp1, cw_rp2, cw_rn, cw_rg, cw_rl, cw_fn, cw_fw, cw_fv, cw_fs, cw_f0, cw_f1, cw_f2, cw_f3, cw_f4, cw_f5, cw_f6, p_n0, p_n1, p_n2, p_n3, p_n4, p_n5, p_n6, p_w0, p_w1, p_w2, p_w3, p_w4, p_w5, p_w6, p_v0, p_v1, p_v2, p_v3, p_v4, p_v5, p_v6, p_s0, p_s1, p_s2, p_s3, p_s4, p_s5, p_s6, a_n0, a_n1, a_n2, a_n3, a_n4, a_n5, a_n6, a_w0, a_w1, a_w2, a_w3, a_w4, a_w5, a_w6, a_v0, a_v1, a_v2, a_v3, a_v4, a_v5, a_v6, a_s0, a_s1, a_s2, a_s3, a_s4, a_s5, a_s6, p_f0, p_f1, p_f2, p_f3, p_f4, p_f5, p_f6, p_f7, p_f8, p_f9, a_f0, a_f1, a_f2, a_f3, a_f4, a_f5, a_f6, a_f7, a_f8, a_f9, p_p1, a_p1, cpAP, cpKP, cpPK, cpPA, Option.elim_some, true_and, and_true, Option.toList_some, Option.toList_none, List.cons_append, List.nil_append, fin3, firstN, firstW, Nat.lt_irrefl, if_false]
          | succ d ih =>
            intro q r hq hkr
            rw [eX5_meet_34]
            obtain ⟨ki, hki, eki⟩ := hkr.2.2 i hi
            obtain ⟨kj, hkj, ekj⟩ := hkr.2.2 j hj
            have hp := fun n Q => aX0_passMinute (θ := θ) (n := n) (w := w) (b := b) (P := P) (A := r) (K := K) (kp := kp) (tp := tp) (tl := tl) (rs := rs) (re := re) (sh := sh) (fd := fd) (Q := Q) hx hkr
            have hd1 := fun n Q => aX0_distanceSeen (θ := θ) (n := n) (w := w) (b := b) (P := P) (A := r) (K := K) (kp := kp) (tp := tp) (tl := tl) (rs := rs) (re := re) (sh := sh) (fd := fd) (Q := Q) hx i8 j8 hki eki
            have hd2 := fun n Q => aX0_distanceSeen (θ := θ) (n := n) (w := w) (b := b) (P := P) (A := r) (K := K) (kp := kp) (tp := tp) (tl := tl) (rs := rs) (re := re) (sh := sh) (fd := fd) (Q := Q) hx j8 i8 hkj ekj
            have ih := ih (q + 1) (minR m r) (by omega) hkr.min
            rw [nI_succ] at ih
            have pos : ∀ i j, seesP r i j = true → ¬ dst r i j ≤ 0 := by
              intro i j hs
              simp only [seesP, Bool.and_eq_true, decide_eq_true_eq] at hs
              exact Int32.not_le.mpr hs.1.1
            have hcr : c r = (seesP r i j && seesP r j i) := by rw [← hc]
            simp only [eX5_meet_0, eX5_meet_1, eX5_meet_2, eX5_meet_5, eX5_meet_8, eX5_meet_9, eX5_meet_10, eX5_meet_13, eX5_meet_16, eX5_meet_17, eX5_meet_18, eX5_meet_21, eX5_meet_22, eX5_meet_24, eX5_meet_27, eX5_meet_28, eX5_meet_29, eX5_meet_32, eX5_meet_33, eX5_meet_35, eX5_meet_38, eX5_meet_41, eX5_meet_42, eX5_meet_45, eX5_meet_46, eX5_meet_47, eX5_meet_50, eX5_meet_53, eX5_meet_54, eX5_meet_57, eX5_meet_58, eX5_meet_59, eX5_meet_62, eX5_meet_65, eX5_meet_66, eX5_meet_67, eX5_meet_68, eX5_meet_71, eX5_meet_74, eX5_meet_77, eX5_meet_80, eX5_meet_81, eX5_meet_83, eX5_meet_86, lt200 (show q ≤ 200 by omega), if_false, cw_is, cw_isP, cw_isA, cw_isK, cw_kp, cw_tis, cw_t0, cw_t1, cw_t2, cw_t3, cw_tp, cw_bn, cw_bw, cw_bv, cw_bs, cw_rp1, cw_rp2, cw_rn, cw_rg, cw_rl, cw_fn, cw_fw, cw_fv, cw_fs, cw_f0, cw_f1, cw_f2, cw_f3, cw_f4, cw_f5, cw_f6, p_n0, p_n1, p_n2, p_n3, p_n4, p_n5, p_n6, p_w0, p_w1, p_w2, p_w3, p_w4, p_w5, p_w6, p_v0, p_v1, p_v2, p_v3, p_v4, p_v5, p_v6, p_s0, p_s1, p_s2, p_s3, p_s4, p_s5, p_s6, a_n0, a_n1, a_n2, a_n3, a_n4, a_n5, a_n6, a_w0, a_w1, a_w2, a_w3, a_w4, a_w5, a_w6, a_v0, a_v1, a_v2, a_v3, a_v4, a_v5, a_v6, a_s0, a_s1, a_s2, a_s3, a_s4, a_s5, a_s6, p_f0, p_f1, p_f2, p_f3, p_f4, p_f5, p_f6, p_f7, p_f8, p_f9, a_f0, a_f1, a_f2, a_f3, a_f4, a_f5, a_f6, a_f7, a_f8, a_f9, p_p1, a_p1, cpAP, cpKP, cpPK, cpPA, Option.elim_some, true_and, and_true, Option.toList_some, Option.toList_none, List.cons_append, List.nil_append, hp, hd1, hd2]
            cases s1 : seesP r i j with
            | false =>
              have h3 : c r = false := by rw [hcr, s1]; rfl
              simp only [Bool.false_eq_true, if_false, Int32.le_refl, if_true, firstN, firstW, h3, Nat.add_lt_add_iff_right]
              rw [show q + (firstN c m d (minR m r) + 1) = q + 1 + firstN c m d (minR m r) by omega]
              exact ih
            | true =>
              cases s2 : seesP r j i with
              | false =>
                have h3 : c r = false := by rw [hcr, s1, s2]; rfl
                simp only [Bool.false_eq_true, if_false, Int32.le_refl, if_true, pos i j s1, firstN, firstW, h3, Nat.add_lt_add_iff_right]
                rw [show q + (firstN c m d (minR m r) + 1) = q + 1 + firstN c m d (minR m r) by omega]
                exact ih
              | true =>
                have h3 : c r = true := by rw [hcr, s1, s2]; rfl
                simp only [if_true, pos i j s1, pos j i s2, if_false, firstN, firstW, h3, Nat.zero_lt_succ, Nat.add_zero]
        simp only [eX5_meet_0, eX5_meet_1, eX5_meet_2, eX5_meet_5, eX5_meet_8, eX5_meet_9, eX5_meet_10, eX5_meet_13, eX5_meet_16, eX5_meet_17, eX5_meet_18, eX5_meet_21, eX5_meet_22, eX5_meet_24, eX5_meet_27, eX5_meet_28, eX5_meet_29, eX5_meet_32, eX5_meet_33, eX5_meet_35, eX5_meet_38, eX5_meet_41, eX5_meet_42, eX5_meet_45, eX5_meet_46, eX5_meet_47, eX5_meet_50, eX5_meet_53, eX5_meet_54, eX5_meet_57, eX5_meet_58, eX5_meet_59, eX5_meet_62, eX5_meet_65, eX5_meet_66, eX5_meet_67, eX5_meet_68, eX5_meet_71, eX5_meet_74, eX5_meet_77, eX5_meet_80, eX5_meet_81, eX5_meet_83, eX5_meet_86, sX5_isWalker, h1, h2, h3, bI_t, i10, if_false, if_true, sX5_lookAhead, cw_is, cw_isP, cw_isA, cw_isK, cw_kp, cw_tis, cw_t0, cw_t1, cw_t2, cw_t3, cw_tp, cw_bn, cw_bw, cw_bv, cw_bs, cw_rp1, cw_rp2, cw_rn, cw_rg, cw_rl, cw_fn, cw_fw, cw_fv, cw_fs, cw_f0, cw_f1, cw_f2, cw_f3, cw_f4, cw_f5, cw_f6, p_n0, p_n1, p_n2, p_n3, p_n4, p_n5, p_n6, p_w0, p_w1, p_w2, p_w3, p_w4, p_w5, p_w6, p_v0, p_v1, p_v2, p_v3, p_v4, p_v5, p_v6, p_s0, p_s1, p_s2, p_s3, p_s4, p_s5, p_s6, a_n0, a_n1, a_n2, a_n3, a_n4, a_n5, a_n6, a_w0, a_w1, a_w2, a_w3, a_w4, a_w5, a_w6, a_v0, a_v1, a_v2, a_v3, a_v4, a_v5, a_v6, a_s0, a_s1, a_s2, a_s3, a_s4, a_s5, a_s6, p_f0, p_f1, p_f2, p_f3, p_f4, p_f5, p_f6, p_f7, p_f8, p_f9, a_f0, a_f1, a_f2, a_f3, a_f4, a_f5, a_f6, a_f7, a_f8, a_f9, p_p1, a_p1, cpAP, cpKP, cpPK, cpPA, Option.elim_some, true_and, and_true, Option.toList_some, Option.toList_none, List.cons_append, List.nil_append, not_false_iff]
        have := loop 201 0 P (by omega) hk
        simp only [Nat.zero_add, nI_0] at this
        exact this
end T45
