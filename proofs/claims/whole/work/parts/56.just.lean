def justB (g : Nat → Int64) (m i : Nat) : Nat → Nat → rR → Bool
  | 0, _, _ => true
  | d + 1, q, r => if lg_cmp (g q) (avRow r 1 i).toInt64 = 0 then justB g m i d (q + 1) (minR m r) else false
def justW (g : Nat → Int64) (m i : Nat) : Nat → Nat → rR → rR
  | 0, _, r => r
  | d + 1, q, r => if lg_cmp (g q) (avRow r 1 i).toInt64 = 0 then justW g m i d (q + 1) (minR m r) else r
section T56
variable {θ : (Nat → Value) × (Nat → Nat)} {n : Nat} {w : rW} {b : Nat} {P A K : rR} {kp : Int32} {tp : Nat → Int32} {tl rs re : Int32} {sh : rSh} {fd : Nat → Int32} {Q : rQ} {m : Nat}
theorem just_loop (hx : exOK θ w b) {s i L : Nat} (hs : s < 4) (hi : i < 8) (hL : L ≤ 40) (eL : (sh s).2.1 = nI L) {lim : Nat × Nat} : ∀ d q r, q + d = L → kOK r m → (Wp (xX5_isJustSo θ (n + 5) lim) Q (2, [some (.ref b), some (.ref (b + 28 + 2 * s)), some (.int (nI i)), some (.int (nI q))], [], cW w b P r K kp tp tl rs re sh fd) ↔ Q (some (.int (bI (justB (sh s).2.2 m i d q r)))) (cW w b P (justW (sh s).2.2 m i d q r) K kp tp tl rs re sh fd)) := by
  intro d
  induction d with
  | zero =>
    intro q r hq hkr
    have hq : q = L := by omega
    subst hq
    rw [eX5_isJustSo_2]
    simp only [eX5_isJustSo_0, eX5_isJustSo_1, eX5_isJustSo_3, eX5_isJustSo_4, eX5_isJustSo_7, eX5_isJustSo_10, eX5_isJustSo_11, eX5_isJustSo_14, eX5_isJustSo_15, eX5_isJustSo_16, eX5_isJustSo_17, eX5_isJustSo_20, eX5_isJustSo_23, eX5_isJustSo_24, eX5_isJustSo_25, eX5_isJustSo_26, eX5_isJustSo_27, eX5_isJustSo_30, eX5_isJustSo_31, eX5_isJustSo_32, eX5_isJustSo_33, eX5_isJustSo_36, eX5_isJustSo_39, eX5_isJustSo_42, eX5_isJustSo_45, eX5_isJustSo_46, cw_is, cw_isP, cw_isA, cw_isK, cw_kp, cw_tis, cw_t0, cw_t1, cw_t2, cw_t3, cw_tp, cw_bn, cw_bw, cw_bv, cw_bs, cw_rp1, cw_rp2, cw_rn, cw_rg, cw_rl, cw_fn, cw_fw, cw_fv, cw_fs, cw_f0, cw_f1, cw_f2, cw_f3, cw_f4, cw_f5, cw_f6, p_n0, p_n1, p_n2, p_n3, p_n4, p_n5, p_n6, p_w0, p_w1, p_w2, p_w3, p_w4, p_w5, p_w6, p_v0, p_v1, p_v2, p_v3, p_v4, p_v5, p_v6, p_s0, p_s1, p_s2, p_s3, p_s4, p_s5, p_s6, a_n0, a_n1, a_n2, a_n3, a_n4, a_n5, a_n6, a_w0, a_w1, a_w2, a_w3, a_w4, a_w5, a_w6, a_v0, a_v1, a_v2, a_v3, a_v4, a_v5, a_v6, a_s0, a_s1, a_s2, a_s3, a_s4, a_s5, a_s6, p_f0, p_f1, p_f2, p_f3, p_f4, p_f5, p_f6, p_f7, p_f8, p_f9, a_f0, a_f1, a_f2, a_f3, a_f4, a_f5, a_f6, a_f7, a_f8, a_f9, p_p1, a_p1, cpAP, cpKP, cpPK, cpPA, Option.elim_some, true_and, and_true, Option.toList_some, Option.toList_none, List.cons_append, List.nil_append, cS_f2 hs, eL, Int32.le_refl, if_true, justB, justW, bI_t, nb_1]
  | succ d ih =>
    intro q r hq hkr
    rw [eX5_isJustSo_2]
    have hp := fun n Q => aX0_passMinute (θ := θ) (n := n) (w := w) (b := b) (P := P) (A := r) (K := K) (kp := kp) (tp := tp) (tl := tl) (rs := rs) (re := re) (sh := sh) (fd := fd) (Q := Q) hx hkr
    have hlt : ¬ nI L ≤ nI q := by
      rw [Int32.not_le]
      exact nI_lt (show q < L by omega) (show L < 2 ^ 31 by omega)
    have cq : (nI q).toNatClampNeg = q := nI_clamp (by omega)
    have hvq : vp_in (nI q) 40 := vp_in_nI (by omega) (by decide)
    have ih := ih (q + 1) (minR m r) (by omega) hkr.min
    rw [nI_succ] at ih
    by_cases h : lg_cmp ((sh s).2.2 q) (avRow r 1 i).toInt64 = 0
    · simp only [eX5_isJustSo_0, eX5_isJustSo_1, eX5_isJustSo_3, eX5_isJustSo_4, eX5_isJustSo_7, eX5_isJustSo_10, eX5_isJustSo_11, eX5_isJustSo_14, eX5_isJustSo_15, eX5_isJustSo_16, eX5_isJustSo_17, eX5_isJustSo_20, eX5_isJustSo_23, eX5_isJustSo_24, eX5_isJustSo_25, eX5_isJustSo_26, eX5_isJustSo_27, eX5_isJustSo_30, eX5_isJustSo_31, eX5_isJustSo_32, eX5_isJustSo_33, eX5_isJustSo_36, eX5_isJustSo_39, eX5_isJustSo_42, eX5_isJustSo_45, eX5_isJustSo_46, cw_is, cw_isP, cw_isA, cw_isK, cw_kp, cw_tis, cw_t0, cw_t1, cw_t2, cw_t3, cw_tp, cw_bn, cw_bw, cw_bv, cw_bs, cw_rp1, cw_rp2, cw_rn, cw_rg, cw_rl, cw_fn, cw_fw, cw_fv, cw_fs, cw_f0, cw_f1, cw_f2, cw_f3, cw_f4, cw_f5, cw_f6, p_n0, p_n1, p_n2, p_n3, p_n4, p_n5, p_n6, p_w0, p_w1, p_w2, p_w3, p_w4, p_w5, p_w6, p_v0, p_v1, p_v2, p_v3, p_v4, p_v5, p_v6, p_s0, p_s1, p_s2, p_s3, p_s4, p_s5, p_s6, a_n0, a_n1, a_n2, a_n3, a_n4, a_n5, a_n6, a_w0, a_w1, a_w2, a_w3, a_w4, a_w5, a_w6, a_v0, a_v1, a_v2, a_v3, a_v4, a_v5, a_v6, a_s0, a_s1, a_s2, a_s3, a_s4, a_s5, a_s6, p_f0, p_f1, p_f2, p_f3, p_f4, p_f5, p_f6, p_f7, p_f8, p_f9, a_f0, a_f1, a_f2, a_f3, a_f4, a_f5, a_f6, a_f7, a_f8, a_f9, p_p1, a_p1, cpAP, cpKP, cpPK, cpPA, Option.elim_some, true_and, and_true, Option.toList_some, Option.toList_none, List.cons_append, List.nil_append, cS_f2 hs, cS_f0 hs, cS_n hs, cS_g hs, eL, hlt, if_false, if_true, hvq, cq, vp8 hi, cl8 hi, h, hp, justB, justW]
      exact ih
    · simp only [eX5_isJustSo_0, eX5_isJustSo_1, eX5_isJustSo_3, eX5_isJustSo_4, eX5_isJustSo_7, eX5_isJustSo_10, eX5_isJustSo_11, eX5_isJustSo_14, eX5_isJustSo_15, eX5_isJustSo_16, eX5_isJustSo_17, eX5_isJustSo_20, eX5_isJustSo_23, eX5_isJustSo_24, eX5_isJustSo_25, eX5_isJustSo_26, eX5_isJustSo_27, eX5_isJustSo_30, eX5_isJustSo_31, eX5_isJustSo_32, eX5_isJustSo_33, eX5_isJustSo_36, eX5_isJustSo_39, eX5_isJustSo_42, eX5_isJustSo_45, eX5_isJustSo_46, cw_is, cw_isP, cw_isA, cw_isK, cw_kp, cw_tis, cw_t0, cw_t1, cw_t2, cw_t3, cw_tp, cw_bn, cw_bw, cw_bv, cw_bs, cw_rp1, cw_rp2, cw_rn, cw_rg, cw_rl, cw_fn, cw_fw, cw_fv, cw_fs, cw_f0, cw_f1, cw_f2, cw_f3, cw_f4, cw_f5, cw_f6, p_n0, p_n1, p_n2, p_n3, p_n4, p_n5, p_n6, p_w0, p_w1, p_w2, p_w3, p_w4, p_w5, p_w6, p_v0, p_v1, p_v2, p_v3, p_v4, p_v5, p_v6, p_s0, p_s1, p_s2, p_s3, p_s4, p_s5, p_s6, a_n0, a_n1, a_n2, a_n3, a_n4, a_n5, a_n6, a_w0, a_w1, a_w2, a_w3, a_w4, a_w5, a_w6, a_v0, a_v1, a_v2, a_v3, a_v4, a_v5, a_v6, a_s0, a_s1, a_s2, a_s3, a_s4, a_s5, a_s6, p_f0, p_f1, p_f2, p_f3, p_f4, p_f5, p_f6, p_f7, p_f8, p_f9, a_f0, a_f1, a_f2, a_f3, a_f4, a_f5, a_f6, a_f7, a_f8, a_f9, p_p1, a_p1, cpAP, cpKP, cpPK, cpPA, Option.elim_some, true_and, and_true, Option.toList_some, Option.toList_none, List.cons_append, List.nil_append, cS_f2 hs, cS_f0 hs, cS_n hs, cS_g hs, eL, hlt, if_false, hvq, cq, vp8 hi, cl8 hi, h, justB, justW, bI_f, nb_0]
end T56
