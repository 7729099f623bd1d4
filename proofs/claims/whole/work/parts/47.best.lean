def bsR (m : Nat) (e : Int32) : Nat → rR → rR
  | 0, r => r
  | d + 1, r => if sumUp r 6 m < e then bsR m e d (minR m r) else r
theorem bsR_kOK {m : Nat} {e : Int32} : ∀ (d : Nat) {r : rR}, kOK r m → kOK (bsR m e d r) m
  | 0, _, h => h
  | d + 1, _, h => by
    unfold bsR
    split
    · exact bsR_kOK d h.min
    · exact h
section T47
variable {θ : (Nat → Value) × (Nat → Nat)} {n : Nat} {w : rW} {b : Nat} {P A K : rR} {kp : Int32} {tp : Nat → Int32} {tl rs re : Int32} {sh : rSh} {fd : Nat → Int32} {Q : rQ} {m : Nat}
theorem sX5_bumpsAhead (hx : exOK θ w b) (hk : kOK A m) {y e : Int32} : sg θ (n + 6) 60 [.ref b, .int y, .int e] (cW w b P A K kp tp tl rs re sh fd) Q ↔ Q (some (.int (sumUp (bsR m e y.toNatClampNeg A) 6 m))) (cW w b P (bsR m e y.toNatClampNeg A) K kp tp tl rs re sh fd) := by
  rw [nX5_bumpsAhead]
  generalize ((cW w b P A K kp tp tl rs re sh fd).2.1 + 0, (cW w b P A K kp tp tl rs re sh fd).2.2 + 0) = lim
  have h8 := hk.2.1
  have hp31 := clamp_lt y
  have hsum := fun n (A : rR) (hA : A 2 = nI m) Q => aX0_sum (θ := θ) (n := n) (w := w) (b := b) (P := P) (A := A) (K := K) (kp := kp) (tp := tp) (tl := tl) (rs := rs) (re := re) (sh := sh) (fd := fd) (Q := Q) hA h8 (show 6 < 7 by decide)
  simp only [show nI 6 = 6 from rfl] at hsum
  have loop : ∀ d q r, q + d = y.toNatClampNeg → kOK r m → (Wp (xX5_bumpsAhead θ (n + 5) lim) Q (13, [some (.ref b), some (.int y), some (.int e), some (.int (sumUp r 6 m)), some (.int (nI q))], [], cW w b P r K kp tp tl rs re sh fd) ↔ Q (some (.int (sumUp (bsR m e d r) 6 m))) (cW w b P (bsR m e d r) K kp tp tl rs re sh fd)) := by
    intro d
    induction d with
    | zero =>
      intro q r hq hkr
      rw [eX5_bumpsAhead_13]
      simp only [eX5_bumpsAhead_0, eX5_bumpsAhead_1, eX5_bumpsAhead_4, eX5_bumpsAhead_6, eX5_bumpsAhead_9, eX5_bumpsAhead_10, eX5_bumpsAhead_11, eX5_bumpsAhead_15, eX5_bumpsAhead_16, eX5_bumpsAhead_19, eX5_bumpsAhead_20, eX5_bumpsAhead_21, eX5_bumpsAhead_24, eX5_bumpsAhead_25, eX5_bumpsAhead_28, eX5_bumpsAhead_31, eX5_bumpsAhead_32, eX5_bumpsAhead_35, eX5_bumpsAhead_37, eX5_bumpsAhead_40, eX5_bumpsAhead_41, eX5_bumpsAhead_44, eX5_bumpsAhead_47, eX5_bumpsAhead_48, ge_clamp (show q < 2 ^ 31 by omega), show y.toNatClampNeg ≤ q by omega, if_true, bsR]
    | succ d ih =>
      intro q r hq hkr
      rw [eX5_bumpsAhead_13]
      have hp := fun n Q => aX0_passMinute (θ := θ) (n := n) (w := w) (b := b) (P := P) (A := r) (K := K) (kp := kp) (tp := tp) (tl := tl) (rs := rs) (re := re) (sh := sh) (fd := fd) (Q := Q) hx hkr
      have ih := ih (q + 1) (minR m r) (by omega) hkr.min
      rw [nI_succ] at ih
      by_cases h : sumUp r 6 m < e
      · have h2 : ¬ e ≤ sumUp r 6 m := Int32.not_le.mpr h
        simp only [eX5_bumpsAhead_0, eX5_bumpsAhead_1, eX5_bumpsAhead_4, eX5_bumpsAhead_6, eX5_bumpsAhead_9, eX5_bumpsAhead_10, eX5_bumpsAhead_11, eX5_bumpsAhead_15, eX5_bumpsAhead_16, eX5_bumpsAhead_19, eX5_bumpsAhead_20, eX5_bumpsAhead_21, eX5_bumpsAhead_24, eX5_bumpsAhead_25, eX5_bumpsAhead_28, eX5_bumpsAhead_31, eX5_bumpsAhead_32, eX5_bumpsAhead_35, eX5_bumpsAhead_37, eX5_bumpsAhead_40, eX5_bumpsAhead_41, eX5_bumpsAhead_44, eX5_bumpsAhead_47, eX5_bumpsAhead_48, ge_clamp (show q < 2 ^ 31 by omega), show ¬ y.toNatClampNeg ≤ q by omega, if_false, h2, cw_is, cw_isP, cw_isA, cw_isK, cw_kp, cw_tis, cw_t0, cw_t1, cw_t2, cw_t3, cw_tp, cw_bn, cw_bw, cw_bv, cw_bs, cw_rp1, cw_rp2, cw_rn, cw_rg, cw_rl, cw_fn, cw_fw, cw_fv, cw_fs, cw_f0, cw_f1, cw_f2, cw_f3, cw_f4, cw_f5, cw_f6, p_n0, p_n1, p_n2, p_n3, p_n4, p_n5, p_n6, p_w0, p_w1, p_w2, p_w3, p_w4, p_w5, p_w6, p_v0, p_v1, p_v2, p_v3, p_v4, p_v5, p_v6, p_s0, p_s1, p_s2, p_s3, p_s4, p_s5, p_s6, a_n0, a_n1, a_n2, a_n3, a_n4, a_n5, a_n6, a_w0, a_w1, a_w2, a_w3, a_w4, a_w5, a_w6, a_v0, a_v1, a_v2, a_v3, a_v4, a_v5, a_v6, a_s0, a_s1, a_s2, a_s3, a_s4, a_s5, a_s6, p_f0, p_f1, p_f2, p_f3, p_f4, p_f5, p_f6, p_f7, p_f8, p_f9, a_f0, a_f1, a_f2, a_f3, a_f4, a_f5, a_f6, a_f7, a_f8, a_f9, p_p1, a_p1, cpAP, cpKP, cpPK, cpPA, Option.elim_some, true_and, and_true, Option.toList_some, Option.toList_none, List.cons_append, List.nil_append, hp, hsum _ _ hkr.min.1, bsR, h, if_true]
        exact ih
      · have h2 : e ≤ sumUp r 6 m := Int32.not_lt.mp h
        simp only [eX5_bumpsAhead_0, eX5_bumpsAhead_1, eX5_bumpsAhead_4, eX5_bumpsAhead_6, eX5_bumpsAhead_9, eX5_bumpsAhead_10, eX5_bumpsAhead_11, eX5_bumpsAhead_15, eX5_bumpsAhead_16, eX5_bumpsAhead_19, eX5_bumpsAhead_20, eX5_bumpsAhead_21, eX5_bumpsAhead_24, eX5_bumpsAhead_25, eX5_bumpsAhead_28, eX5_bumpsAhead_31, eX5_bumpsAhead_32, eX5_bumpsAhead_35, eX5_bumpsAhead_37, eX5_bumpsAhead_40, eX5_bumpsAhead_41, eX5_bumpsAhead_44, eX5_bumpsAhead_47, eX5_bumpsAhead_48, ge_clamp (show q < 2 ^ 31 by omega), show ¬ y.toNatClampNeg ≤ q by omega, if_false, h2, if_true, bsR, h]
  simp only [eX5_bumpsAhead_0, eX5_bumpsAhead_1, eX5_bumpsAhead_4, eX5_bumpsAhead_6, eX5_bumpsAhead_9, eX5_bumpsAhead_10, eX5_bumpsAhead_11, eX5_bumpsAhead_15, eX5_bumpsAhead_16, eX5_bumpsAhead_19, eX5_bumpsAhead_20, eX5_bumpsAhead_21, eX5_bumpsAhead_24, eX5_bumpsAhead_25, eX5_bumpsAhead_28, eX5_bumpsAhead_31, eX5_bumpsAhead_32, eX5_bumpsAhead_35, eX5_bumpsAhead_37, eX5_bumpsAhead_40, eX5_bumpsAhead_41, eX5_bumpsAhead_44, eX5_bumpsAhead_47, eX5_bumpsAhead_48, cw_is, cw_isP, cw_isA, cw_isK, cw_kp, cw_tis, cw_t0, cw_t1, cw_t2, cw_t3, cw_tp, cw_bn, cw_bw, cw_bv, cw_bs, cw_rp1, cw_rp2, cw_rn, cw_rg, cw_rl, cw_fn, cw_fw, cw_fv, cw_fs, cw_f0, cw_f1, cw_f2, cw_f3, cw_f4, cw_f5, cw_f6, p_n0, p_n1, p_n2, p_n3, p_n4, p_n5, p_n6, p_w0, p_w1, p_w2, p_w3, p_w4, p_w5, p_w6, p_v0, p_v1, p_v2, p_v3, p_v4, p_v5, p_v6, p_s0, p_s1, p_s2, p_s3, p_s4, p_s5, p_s6, a_n0, a_n1, a_n2, a_n3, a_n4, a_n5, a_n6, a_w0, a_w1, a_w2, a_w3, a_w4, a_w5, a_w6, a_v0, a_v1, a_v2, a_v3, a_v4, a_v5, a_v6, a_s0, a_s1, a_s2, a_s3, a_s4, a_s5, a_s6, p_f0, p_f1, p_f2, p_f3, p_f4, p_f5, p_f6, p_f7, p_f8, p_f9, a_f0, a_f1, a_f2, a_f3, a_f4, a_f5, a_f6, a_f7, a_f8, a_f9, p_p1, a_p1, cpAP, cpKP, cpPK, cpPA, Option.elim_some, true_and, and_true, Option.toList_some, Option.toList_none, List.cons_append, List.nil_append, hsum _ _ hk.1]
  exact loop _ 0 A (by omega) hk
def begUp (m i d : Nat) (P : rR) : Nat → Int32 × Int32
  | 0 => (0, 1000000)
  | p + 1 => if sumUp (bsR m (begUp m i d P p).2 d (upd P (3 + 7 * i + 1) (nI p))) 6 m < (begUp m i d P p).2 then (nI p, sumUp (bsR m (begUp m i d P p).2 d (upd P (3 + 7 * i + 1) (nI p))) 6 m) else begUp m i d P p
def begA (m i d : Nat) (P A : rR) : Nat → rR
  | 0 => A
  | p + 1 => bsR m (begUp m i d P p).2 d (upd P (3 + 7 * i + 1) (nI p))
theorem sX5_begin (hx : exOK θ w b) (hk : kOK P m) {x y : Int32} : sg θ (n + 7) 59 [.ref b, .int x, .int y] (cW w b P A K kp tp tl rs re sh fd) Q ↔ if (isW P x && decide (1 ≤ y ∧ y ≤ 20)) = true then Q (some (.int (begUp m x.toNatClampNeg y.toNatClampNeg P 100).1)) (cW w b P (begA m x.toNatClampNeg y.toNatClampNeg P A 100) K kp tp tl rs re sh fd) else Q (some (.int (-1000000001))) (cW w b P A K kp tp tl rs re sh (fB fd 0)) := by
  rw [nX5_begin]
  generalize ((cW w b P A K kp tp tl rs re sh fd).2.1 + 0, (cW w b P A K kp tp tl rs re sh fd).2.2 + 0) = lim
  have h8 := hk.2.1
  cases h1 : isW P x with
  | false => simp only [eX5_begin_0, eX5_begin_1, eX5_begin_2, eX5_begin_5, eX5_begin_8, eX5_begin_9, eX5_begin_10, eX5_begin_12, eX5_begin_15, eX5_begin_18, eX5_begin_19, eX5_begin_21, eX5_begin_24, eX5_begin_25, eX5_begin_26, eX5_begin_27, eX5_begin_29, eX5_begin_31, eX5_begin_32, eX5_begin_36, eX5_begin_38, eX5_begin_41, eX5_begin_42, eX5_begin_45, eX5_begin_46, eX5_begin_49, eX5_begin_52, eX5_begin_53, eX5_begin_55, eX5_begin_56, eX5_begin_57, eX5_begin_58, eX5_begin_60, eX5_begin_63, eX5_begin_65, eX5_begin_67, eX5_begin_69, eX5_begin_72, eX5_begin_74, eX5_begin_76, eX5_begin_78, eX5_begin_79, eX5_begin_82, eX5_begin_85, eX5_begin_86, sX5_isWalker, h1, bI_f, if_true, cw_is, cw_isP, cw_isA, cw_isK, cw_kp, cw_tis, cw_t0, cw_t1, cw_t2, cw_t3, cw_tp, cw_bn, cw_bw, cw_bv, cw_bs, cw_rp1, cw_rp2, cw_rn, cw_rg, cw_rl, cw_fn, cw_fw, cw_fv, cw_fs, cw_f0, cw_f1, cw_f2, cw_f3, cw_f4, cw_f5, cw_f6, p_n0, p_n1, p_n2, p_n3, p_n4, p_n5, p_n6, p_w0, p_w1, p_w2, p_w3, p_w4, p_w5, p_w6, p_v0, p_v1, p_v2, p_v3, p_v4, p_v5, p_v6, p_s0, p_s1, p_s2, p_s3, p_s4, p_s5, p_s6, a_n0, a_n1, a_n2, a_n3, a_n4, a_n5, a_n6, a_w0, a_w1, a_w2, a_w3, a_w4, a_w5, a_w6, a_v0, a_v1, a_v2, a_v3, a_v4, a_v5, a_v6, a_s0, a_s1, a_s2, a_s3, a_s4, a_s5, a_s6, p_f0, p_f1, p_f2, p_f3, p_f4, p_f5, p_f6, p_f7, p_f8, p_f9, a_f0, a_f1, a_f2, a_f3, a_f4, a_f5, a_f6, a_f7, a_f8, a_f9, p_p1, a_p1, cpAP, cpKP, cpPK, cpPA, Option.elim_some, true_and, and_true, Option.toList_some, Option.toList_none, List.cons_append, List.nil_append, fin0, Bool.false_and, Bool.false_eq_true, if_false]
  | true =>
    obtain ⟨i, hi, rfl, ci⟩ := walker_of hk.1 h8 h1
    have i8 : i < 8 := by omega
    by_cases h2 : 1 ≤ y ∧ y ≤ 20
    · rw [ci]
      generalize hd : y.toNatClampNeg = dd
      have loop : ∀ d p o6, p + d = 100 → (Wp (xX5_begin θ (n + 6) lim) Q (34, [some (.ref b), some (.int (nI i)), some (.int y), some (.int (begUp m i dd P p).1), some (.int (begUp m i dd P p).2), some (.int (nI p)), o6], [], cW w b P (begA m i dd P A p) K kp tp tl rs re sh fd) ↔ Q (some (.int (begUp m i dd P 100).1)) (cW w b P (begA m i dd P A 100) K kp tp tl rs re sh fd)) := by
        intro d
        induction d with
        | zero =>
          intro p o6 hp
          have hp : p = 100 := by omega
          subst hp
          rw [eX5_begin_34]
          simp only [eX5_begin_0, eX5_begin_1, eX5_begin_2, eX5_begin_5, eX5_begin_8, eX5_begin_9, eX5_begin_10, eX5_begin_12, eX5_begin_15, eX5_begin_18, eX5_begin_19, eX5_begin_21, eX5_begin_24, eX5_begin_25, eX5_begin_26, eX5_begin_27, eX5_begin_29, eX5_begin_31, eX5_begin_32, eX5_begin_36, eX5_begin_38, eX5_begin_41, eX5_begin_42, eX5_begin_45, eX5_begin_46, eX5_begin_49, eX5_begin_52, eX5_begin_53, eX5_begin_55, eX5_begin_56, eX5_begin_57, eX5_begin_58, eX5_begin_60, eX5_begin_63, eX5_begin_65, eX5_begin_67, eX5_begin_69, eX5_begin_72, eX5_begin_74, eX5_begin_76, eX5_begin_78, eX5_begin_79, eX5_begin_82, eX5_begin_85, eX5_begin_86, show ((99 : Int32) < nI 100) = True by decide, if_true]
        | succ d ih =>
          intro p o6 hp
          rw [eX5_begin_34]
          have hk1 : kOK (upd P (3 + 7 * i + 1) (nI p)) m := hk.up (by decide) (by decide)
          have hb := fun n Q => sX5_bumpsAhead (θ := θ) (n := n) (w := w) (b := b) (P := P) (A := upd P (3 + 7 * i + 1) (nI p)) (K := K) (kp := kp) (tp := tp) (tl := tl) (rs := rs) (re := re) (sh := sh) (fd := fd) (Q := Q) (y := y) (e := (begUp m i dd P p).2) hx hk1
          rw [hd] at hb
          have ih := fun o => ih (p + 1) o (by omega)
          rw [nI_succ] at ih
          have hn : ¬ (99 : Int32) < nI p := nI_nlt (a := 99) (by omega) (by decide)
          by_cases hlt : sumUp (bsR m (begUp m i dd P p).2 dd (upd P (3 + 7 * i + 1) (nI p))) 6 m < (begUp m i dd P p).2
          · have hlt2 := Int32.not_le.mpr hlt
            simp only [eX5_begin_0, eX5_begin_1, eX5_begin_2, eX5_begin_5, eX5_begin_8, eX5_begin_9, eX5_begin_10, eX5_begin_12, eX5_begin_15, eX5_begin_18, eX5_begin_19, eX5_begin_21, eX5_begin_24, eX5_begin_25, eX5_begin_26, eX5_begin_27, eX5_begin_29, eX5_begin_31, eX5_begin_32, eX5_begin_36, eX5_begin_38, eX5_begin_41, eX5_begin_42, eX5_begin_45, eX5_begin_46, eX5_begin_49, eX5_begin_52, eX5_begin_53, eX5_begin_55, eX5_begin_56, eX5_begin_57, eX5_begin_58, eX5_begin_60, eX5_begin_63, eX5_begin_65, eX5_begin_67, eX5_begin_69, eX5_begin_72, eX5_begin_74, eX5_begin_76, eX5_begin_78, eX5_begin_79, eX5_begin_82, eX5_begin_85, eX5_begin_86, hn, if_false, sX5_lookAhead, cw_is, cw_isP, cw_isA, cw_isK, cw_kp, cw_tis, cw_t0, cw_t1, cw_t2, cw_t3, cw_tp, cw_bn, cw_bw, cw_bv, cw_bs, cw_rp1, cw_rp2, cw_rn, cw_rg, cw_rl, cw_fn, cw_fw, cw_fv, cw_fs, cw_f0, cw_f1, cw_f2, cw_f3, cw_f4, cw_f5, cw_f6, p_n0, p_n1, p_n2, p_n3, p_n4, p_n5, p_n6, p_w0, p_w1, p_w2, p_w3, p_w4, p_w5, p_w6, p_v0, p_v1, p_v2, p_v3, p_v4, p_v5, p_v6, p_s0, p_s1, p_s2, p_s3, p_s4, p_s5, p_s6, a_n0, a_n1, a_n2, a_n3, a_n4, a_n5, a_n6, a_w0, a_w1, a_w2, a_w3, a_w4, a_w5, a_w6, a_v0, a_v1, a_v2, a_v3, a_v4, a_v5, a_v6, a_s0, a_s1, a_s2, a_s3, a_s4, a_s5, a_s6, p_f0, p_f1, p_f2, p_f3, p_f4, p_f5, p_f6, p_f7, p_f8, p_f9, a_f0, a_f1, a_f2, a_f3, a_f4, a_f5, a_f6, a_f7, a_f8, a_f9, p_p1, a_p1, cpAP, cpKP, cpPK, cpPA, Option.elim_some, true_and, and_true, Option.toList_some, Option.toList_none, List.cons_append, List.nil_append, vp8 i8, cl8 i8, i8, hb, hlt2]
            have ih := ih (some (.int (sumUp (bsR m (begUp m i dd P p).2 dd (upd P (3 + 7 * i + 1) (nI p))) 6 m)))
            have e1 : begUp m i dd P (p + 1) = (nI p, sumUp (bsR m (begUp m i dd P p).2 dd (upd P (3 + 7 * i + 1) (nI p))) 6 m) := by
              conv => lhs; unfold begUp
              rw [if_pos hlt]
            rw [e1] at ih
            exact ih
          · have hlt2 := Int32.not_lt.mp hlt
            simp only [eX5_begin_0, eX5_begin_1, eX5_begin_2, eX5_begin_5, eX5_begin_8, eX5_begin_9, eX5_begin_10, eX5_begin_12, eX5_begin_15, eX5_begin_18, eX5_begin_19, eX5_begin_21, eX5_begin_24, eX5_begin_25, eX5_begin_26, eX5_begin_27, eX5_begin_29, eX5_begin_31, eX5_begin_32, eX5_begin_36, eX5_begin_38, eX5_begin_41, eX5_begin_42, eX5_begin_45, eX5_begin_46, eX5_begin_49, eX5_begin_52, eX5_begin_53, eX5_begin_55, eX5_begin_56, eX5_begin_57, eX5_begin_58, eX5_begin_60, eX5_begin_63, eX5_begin_65, eX5_begin_67, eX5_begin_69, eX5_begin_72, eX5_begin_74, eX5_begin_76, eX5_begin_78, eX5_begin_79, eX5_begin_82, eX5_begin_85, eX5_begin_86, hn, if_false, sX5_lookAhead, cw_is, cw_isP, cw_isA, cw_isK, cw_kp, cw_tis, cw_t0, cw_t1, cw_t2, cw_t3, cw_tp, cw_bn, cw_bw, cw_bv, cw_bs, cw_rp1, cw_rp2, cw_rn, cw_rg, cw_rl, cw_fn, cw_fw, cw_fv, cw_fs, cw_f0, cw_f1, cw_f2, cw_f3, cw_f4, cw_f5, cw_f6, p_n0, p_n1, p_n2, p_n3, p_n4, p_n5, p_n6, p_w0, p_w1, p_w2, p_w3, p_w4, p_w5, p_w6, p_v0, p_v1, p_v2, p_v3, p_v4, p_v5, p_v6, p_s0, p_s1, p_s2, p_s3, p_s4, p_s5, p_s6, a_n0, a_n1, a_n2, a_n3, a_n4, a_n5, a_n6, a_w0, a_w1, a_w2, a_w3, a_w4, a_w5, a_w6, a_v0, a_v1, a_v2, a_v3, a_v4, a_v5, a_v6, a_s0, a_s1, a_s2, a_s3, a_s4, a_s5, a_s6, p_f0, p_f1, p_f2, p_f3, p_f4, p_f5, p_f6, p_f7, p_f8, p_f9, a_f0, a_f1, a_f2, a_f3, a_f4, a_f5, a_f6, a_f7, a_f8, a_f9, p_p1, a_p1, cpAP, cpKP, cpPK, cpPA, Option.elim_some, true_and, and_true, Option.toList_some, Option.toList_none, List.cons_append, List.nil_append, vp8 i8, cl8 i8, i8, hb, hlt2, if_true]
            have ih := ih (some (.int (sumUp (bsR m (begUp m i dd P p).2 dd (upd P (3 + 7 * i + 1) (nI p))) 6 m)))
            have e1 : begUp m i dd P (p + 1) = begUp m i dd P p := by
              conv => lhs; unfold begUp
              rw [if_neg hlt]
            rw [e1] at ih
            exact ih
      simp only [eX5_begin_0, eX5_begin_1, eX5_begin_2, eX5_begin_5, eX5_begin_8, eX5_begin_9, eX5_begin_10, eX5_begin_12, eX5_begin_15, eX5_begin_18, eX5_begin_19, eX5_begin_21, eX5_begin_24, eX5_begin_25, eX5_begin_26, eX5_begin_27, eX5_begin_29, eX5_begin_31, eX5_begin_32, eX5_begin_36, eX5_begin_38, eX5_begin_41, eX5_begin_42, eX5_begin_45, eX5_begin_46, eX5_begin_49, eX5_begin_52, eX5_begin_53, eX5_begin_55, eX5_begin_56, eX5_begin_57, eX5_begin_58, eX5_begin_60, eX5_begin_63, eX5_begin_65, eX5_begin_67, eX5_begin_69, eX5_begin_72, eX5_begin_74, eX5_begin_76, eX5_begin_78, eX5_begin_79, eX5_begin_82, eX5_begin_85, eX5_begin_86, sX5_isWalker, h1, bI_t, i10, if_false, if_true, sX5_isWithin, h2, and_self, decide_true, cw_is, cw_isP, cw_isA, cw_isK, cw_kp, cw_tis, cw_t0, cw_t1, cw_t2, cw_t3, cw_tp, cw_bn, cw_bw, cw_bv, cw_bs, cw_rp1, cw_rp2, cw_rn, cw_rg, cw_rl, cw_fn, cw_fw, cw_fv, cw_fs, cw_f0, cw_f1, cw_f2, cw_f3, cw_f4, cw_f5, cw_f6, p_n0, p_n1, p_n2, p_n3, p_n4, p_n5, p_n6, p_w0, p_w1, p_w2, p_w3, p_w4, p_w5, p_w6, p_v0, p_v1, p_v2, p_v3, p_v4, p_v5, p_v6, p_s0, p_s1, p_s2, p_s3, p_s4, p_s5, p_s6, a_n0, a_n1, a_n2, a_n3, a_n4, a_n5, a_n6, a_w0, a_w1, a_w2, a_w3, a_w4, a_w5, a_w6, a_v0, a_v1, a_v2, a_v3, a_v4, a_v5, a_v6, a_s0, a_s1, a_s2, a_s3, a_s4, a_s5, a_s6, p_f0, p_f1, p_f2, p_f3, p_f4, p_f5, p_f6, p_f7, p_f8, p_f9, a_f0, a_f1, a_f2, a_f3, a_f4, a_f5, a_f6, a_f7, a_f8, a_f9, p_p1, a_p1, cpAP, cpKP, cpPK, cpPA, Option.elim_some, true_and, and_true, Option.toList_some, Option.toList_none, List.cons_append, List.nil_append, Bool.true_and]
      exact loop 100 0 none (by omega)
    · simp only [eX5_begin_0, eX5_begin_1, eX5_begin_2, eX5_begin_5, eX5_begin_8, eX5_begin_9, eX5_begin_10, eX5_begin_12, eX5_begin_15, eX5_begin_18, eX5_begin_19, eX5_begin_21, eX5_begin_24, eX5_begin_25, eX5_begin_26, eX5_begin_27, eX5_begin_29, eX5_begin_31, eX5_begin_32, eX5_begin_36, eX5_begin_38, eX5_begin_41, eX5_begin_42, eX5_begin_45, eX5_begin_46, eX5_begin_49, eX5_begin_52, eX5_begin_53, eX5_begin_55, eX5_begin_56, eX5_begin_57, eX5_begin_58, eX5_begin_60, eX5_begin_63, eX5_begin_65, eX5_begin_67, eX5_begin_69, eX5_begin_72, eX5_begin_74, eX5_begin_76, eX5_begin_78, eX5_begin_79, eX5_begin_82, eX5_begin_85, eX5_begin_86, sX5_isWalker, h1, bI_t, bI_f, i10, if_false, if_true, sX5_isWithin, h2, decide_false, cw_is, cw_isP, cw_isA, cw_isK, cw_kp, cw_tis, cw_t0, cw_t1, cw_t2, cw_t3, cw_tp, cw_bn, cw_bw, cw_bv, cw_bs, cw_rp1, cw_rp2, cw_rn, cw_rg, cw_rl, cw_fn, cw_fw, cw_fv, cw_fs, cw_f0, cw_f1, cw_f2, cw_f3, cw_f4, cw_f5, cw_f6, p_n0, p_n1, p_n2, p_n3, p_n4, p_n5, p_n6, p_w0, p_w1, p_w2, p_w3, p_w4, p_w5, p_w6, p_v0, p_v1, p_v2, p_v3, p_v4, p_v5, p_v6, p_s0, p_s1, p_s2, p_s3, p_s4, p_s5, p_s6, a_n0, a_n1, a_n2, a_n3, a_n4, a_n5, a_n6, a_w0, a_w1, a_w2, a_w3, a_w4, a_w5, a_w6, a_v0, a_v1, a_v2, a_v3, a_v4, a_v5, a_v6, a_s0, a_s1, a_s2, a_s3, a_s4, a_s5, a_s6, p_f0, p_f1, p_f2, p_f3, p_f4, p_f5, p_f6, p_f7, p_f8, p_f9, a_f0, a_f1, a_f2, a_f3, a_f4, a_f5, a_f6, a_f7, a_f8, a_f9, p_p1, a_p1, cpAP, cpKP, cpPK, cpPA, Option.elim_some, true_and, and_true, Option.toList_some, Option.toList_none, List.cons_append, List.nil_append, fin0, Bool.and_false, Bool.false_eq_true]
def othUp (m d : Nat) (P : rR) : Nat → Int32 × Int32
  | 0 => (-1, sumUp (bsR m 1000000 d P) 6 m)
  | i + 1 => if sumUp (bsR m (othUp m d P i).2 d (upd P (3 + 7 * i + 2) (1 - its P i 2))) 6 m < (othUp m d P i).2 then (nI i, sumUp (bsR m (othUp m d P i).2 d (upd P (3 + 7 * i + 2) (1 - its P i 2))) 6 m) else othUp m d P i
def othA (m d : Nat) (P : rR) : Nat → rR
  | 0 => bsR m 1000000 d P
  | i + 1 => bsR m (othUp m d P i).2 d (upd P (3 + 7 * i + 2) (1 - its P i 2))
theorem oth_neg (m d : Nat) (P : rR) : ∀ i, i < 1000 → (((othUp m d P i).1 < 0) = ((othUp m d P i).1 = -1))
  | 0, _ => by simp [othUp]
  | i + 1, h => by
    have ih := oth_neg m d P i (by omega)
    unfold othUp
    split
    · have h1 : ¬ nI i < 0 := nI_pos (by omega)
      have h2 : ¬ nI i = -1 := by
        intro q
        have := congrArg Int32.toInt q
        rw [nI_toInt (by omega)] at this
        have e : (-1 : Int32).toInt = -1 := by decide
        omega
      simp only [h1, h2]
    · exact ih
theorem sX5_other (hx : exOK θ w b) (hk : kOK P m) {y : Int32} : sg θ (n + 7) 63 [.ref b, .int y] (cW w b P A K kp tp tl rs re sh fd) Q ↔ if 1 ≤ y ∧ y ≤ 60 then (if (othUp m y.toNatClampNeg P m).1 = -1 then Q (some (.int (-1000000004))) (cW w b P (othA m y.toNatClampNeg P m) K kp tp tl rs re sh (fB fd 3)) else Q (some (.int (othUp m y.toNatClampNeg P m).1)) (cW w b P (othA m y.toNatClampNeg P m) K kp tp tl rs re sh fd)) else Q (some (.int (-1000000001))) (cW w b P A K kp tp tl rs re sh (fB fd 0)) := by
  rw [nX5_other]
  generalize ((cW w b P A K kp tp tl rs re sh fd).2.1 + 0, (cW w b P A K kp tp tl rs re sh fd).2.2 + 0) = lim
  have h8 := hk.2.1
  by_cases h2 : 1 ≤ y ∧ y ≤ 60
  · have hb0 := fun n Q => sX5_bumpsAhead (θ := θ) (n := n) (w := w) (b := b) (P := P) (A := P) (K := K) (kp := kp) (tp := tp) (tl := tl) (rs := rs) (re := re) (sh := sh) (fd := fd) (Q := Q) (y := y) (e := 1000000) hx hk
    generalize hd : y.toNatClampNeg = dd
    rw [hd] at hb0
    have loop : ∀ d i o5, i + d = m → (Wp (xX5_other θ (n + 6) lim) Q (34, [some (.ref b), some (.int y), some (.int (othUp m dd P i).2), some (.int (othUp m dd P i).1), some (.int (nI i)), o5], [], cW w b P (othA m dd P i) K kp tp tl rs re sh fd) ↔ if (othUp m dd P m).1 = -1 then Q (some (.int (-1000000004))) (cW w b P (othA m dd P m) K kp tp tl rs re sh (fB fd 3)) else Q (some (.int (othUp m dd P m).1)) (cW w b P (othA m dd P m) K kp tp tl rs re sh fd)) := by
      intro d
      induction d with
      | zero =>
        intro i o5 hi
        have hi : i = m := by omega
        subst hi
        rw [eX5_other_34]
        by_cases hneg : (othUp i dd P i).1 = -1 <;> simp only [eX5_other_0, eX5_other_1, eX5_other_2, eX5_other_4, eX5_other_7, eX5_other_10, eX5_other_11, eX5_other_13, eX5_other_16, eX5_other_17, eX5_other_18, eX5_other_21, eX5_other_22, eX5_other_23, eX5_other_25, eX5_other_28, eX5_other_29, eX5_other_30, eX5_other_31, eX5_other_32, eX5_other_36, eX5_other_37, eX5_other_40, eX5_other_43, eX5_other_46, eX5_other_47, eX5_other_50, eX5_other_51, eX5_other_54, eX5_other_57, eX5_other_59, eX5_other_60, eX5_other_61, eX5_other_64, eX5_other_67, eX5_other_69, eX5_other_70, eX5_other_71, eX5_other_72, eX5_other_73, eX5_other_74, eX5_other_75, eX5_other_78, eX5_other_80, eX5_other_82, eX5_other_83, eX5_other_86, eX5_other_88, eX5_other_89, eX5_other_91, eX5_other_92, eX5_other_95, eX5_other_98, eX5_other_99, eX5_other_102, eX5_other_103, eX5_other_106, eX5_other_107, eX5_other_109, eX5_other_112, cw_is, cw_isP, cw_isA, cw_isK, cw_kp, cw_tis, cw_t0, cw_t1, cw_t2, cw_t3, cw_tp, cw_bn, cw_bw, cw_bv, cw_bs, cw_rp1, cw_rp2, cw_rn, cw_rg, cw_rl, cw_fn, cw_fw, cw_fv, cw_fs, cw_f0, cw_f1, cw_f2, cw_f3, cw_f4, cw_f5, cw_f6, p_n0, p_n1, p_n2, p_n3, p_n4, p_n5, p_n6, p_w0, p_w1, p_w2, p_w3, p_w4, p_w5, p_w6, p_v0, p_v1, p_v2, p_v3, p_v4, p_v5, p_v6, p_s0, p_s1, p_s2, p_s3, p_s4, p_s5, p_s6, a_n0, a_n1, a_n2, a_n3, a_n4, a_n5, a_n6, a_w0, a_w1, a_w2, a_w3, a_w4, a_w5, a_w6, a_v0, a_v1, a_v2, a_v3, a_v4, a_v5, a_v6, a_s0, a_s1, a_s2, a_s3, a_s4, a_s5, a_s6, p_f0, p_f1, p_f2, p_f3, p_f4, p_f5, p_f6, p_f7, p_f8, p_f9, a_f0, a_f1, a_f2, a_f3, a_f4, a_f5, a_f6, a_f7, a_f8, a_f9, p_p1, a_p1, cpAP, cpKP, cpPK, cpPA, Option.elim_some, true_and, and_true, Option.toList_some, Option.toList_none, List.cons_append, List.nil_append, hk.1, nI_le (Nat.le_refl i) (show i < 2 ^ 31 by omega), if_true, if_false, oth_neg i dd P i (by omega), hneg, fin3, show ((-1 : Int32) < 0) = True by decide]
      | succ d ih =>
        intro i o5 hi
        have him : i < m := by omega
        have i8 : i < 8 := by omega
        rw [eX5_other_34]
        have hk1 : kOK (upd P (3 + 7 * i + 2) (1 - its P i 2)) m := hk.up (by decide) (by decide)
        have hb := fun n Q => sX5_bumpsAhead (θ := θ) (n := n) (w := w) (b := b) (P := P) (A := upd P (3 + 7 * i + 2) (1 - its P i 2)) (K := K) (kp := kp) (tp := tp) (tl := tl) (rs := rs) (re := re) (sh := sh) (fd := fd) (Q := Q) (y := y) (e := (othUp m dd P i).2) hx hk1
        rw [hd] at hb
        have ih := fun o => ih (i + 1) o (by omega)
        rw [nI_succ] at ih
        have ih := ih (some (.int (sumUp (bsR m (othUp m dd P i).2 dd (upd P (3 + 7 * i + 2) (1 - its P i 2))) 6 m)))
        by_cases hlt : sumUp (bsR m (othUp m dd P i).2 dd (upd P (3 + 7 * i + 2) (1 - its P i 2))) 6 m < (othUp m dd P i).2
        · have hlt2 := Int32.not_le.mpr hlt
          simp only [eX5_other_0, eX5_other_1, eX5_other_2, eX5_other_4, eX5_other_7, eX5_other_10, eX5_other_11, eX5_other_13, eX5_other_16, eX5_other_17, eX5_other_18, eX5_other_21, eX5_other_22, eX5_other_23, eX5_other_25, eX5_other_28, eX5_other_29, eX5_other_30, eX5_other_31, eX5_other_32, eX5_other_36, eX5_other_37, eX5_other_40, eX5_other_43, eX5_other_46, eX5_other_47, eX5_other_50, eX5_other_51, eX5_other_54, eX5_other_57, eX5_other_59, eX5_other_60, eX5_other_61, eX5_other_64, eX5_other_67, eX5_other_69, eX5_other_70, eX5_other_71, eX5_other_72, eX5_other_73, eX5_other_74, eX5_other_75, eX5_other_78, eX5_other_80, eX5_other_82, eX5_other_83, eX5_other_86, eX5_other_88, eX5_other_89, eX5_other_91, eX5_other_92, eX5_other_95, eX5_other_98, eX5_other_99, eX5_other_102, eX5_other_103, eX5_other_106, eX5_other_107, eX5_other_109, eX5_other_112, cw_is, cw_isP, cw_isA, cw_isK, cw_kp, cw_tis, cw_t0, cw_t1, cw_t2, cw_t3, cw_tp, cw_bn, cw_bw, cw_bv, cw_bs, cw_rp1, cw_rp2, cw_rn, cw_rg, cw_rl, cw_fn, cw_fw, cw_fv, cw_fs, cw_f0, cw_f1, cw_f2, cw_f3, cw_f4, cw_f5, cw_f6, p_n0, p_n1, p_n2, p_n3, p_n4, p_n5, p_n6, p_w0, p_w1, p_w2, p_w3, p_w4, p_w5, p_w6, p_v0, p_v1, p_v2, p_v3, p_v4, p_v5, p_v6, p_s0, p_s1, p_s2, p_s3, p_s4, p_s5, p_s6, a_n0, a_n1, a_n2, a_n3, a_n4, a_n5, a_n6, a_w0, a_w1, a_w2, a_w3, a_w4, a_w5, a_w6, a_v0, a_v1, a_v2, a_v3, a_v4, a_v5, a_v6, a_s0, a_s1, a_s2, a_s3, a_s4, a_s5, a_s6, p_f0, p_f1, p_f2, p_f3, p_f4, p_f5, p_f6, p_f7, p_f8, p_f9, a_f0, a_f1, a_f2, a_f3, a_f4, a_f5, a_f6, a_f7, a_f8, a_f9, p_p1, a_p1, cpAP, cpKP, cpPK, cpPA, Option.elim_some, true_and, and_true, Option.toList_some, Option.toList_none, List.cons_append, List.nil_append, hk.1, nI_ge him (show m < 2 ^ 31 by omega), if_false, sX5_lookAhead, vp8 i8, cl8 i8, i8, avRow_its, hb, hlt2]
          have e1 : othUp m dd P (i + 1) = (nI i, sumUp (bsR m (othUp m dd P i).2 dd (upd P (3 + 7 * i + 2) (1 - its P i 2))) 6 m) := by
            conv => lhs; unfold othUp
            rw [if_pos hlt]
          rw [e1] at ih
          exact ih
        · have hlt2 := Int32.not_lt.mp hlt
          simp only [eX5_other_0, eX5_other_1, eX5_other_2, eX5_other_4, eX5_other_7, eX5_other_10, eX5_other_11, eX5_other_13, eX5_other_16, eX5_other_17, eX5_other_18, eX5_other_21, eX5_other_22, eX5_other_23, eX5_other_25, eX5_other_28, eX5_other_29, eX5_other_30, eX5_other_31, eX5_other_32, eX5_other_36, eX5_other_37, eX5_other_40, eX5_other_43, eX5_other_46, eX5_other_47, eX5_other_50, eX5_other_51, eX5_other_54, eX5_other_57, eX5_other_59, eX5_other_60, eX5_other_61, eX5_other_64, eX5_other_67, eX5_other_69, eX5_other_70, eX5_other_71, eX5_other_72, eX5_other_73, eX5_other_74, eX5_other_75, eX5_other_78, eX5_other_80, eX5_other_82, eX5_other_83, eX5_other_86, eX5_other_88, eX5_other_89, eX5_other_91, eX5_other_92, eX5_other_95, eX5_other_98, eX5_other_99, eX5_other_102, eX5_other_103, eX5_other_106, eX5_other_107, eX5_other_109, eX5_other_112, cw_is, cw_isP, cw_isA, cw_isK, cw_kp, cw_tis, cw_t0, cw_t1, cw_t2, cw_t3, cw_tp, cw_bn, cw_bw, cw_bv, cw_bs, cw_rp1, cw_rp2, cw_rn, cw_rg, cw_rl, cw_fn, cw_fw, cw_fv, cw_fs, cw_f0, cw_f1, cw_f2, cw_f3, cw_f4, cw_f5, cw_f6, p_n0, p_n1, p_n2, p_n3, p_n4, p_n5, p_n6, p_w0, p_w1, p_w2, p_w3, p_w4, p_w5, p_w6, p_v0, p_v1, p_v2, p_v3, p_v4, p_v5, p_v6, p_s0, p_s1, p_s2, p_s3, p_s4, p_s5, p_s6, a_n0, a_n1, a_n2, a_n3, a_n4, a_n5, a_n6, a_w0, a_w1, a_w2, a_w3, a_w4, a_w5, a_w6, a_v0, a_v1, a_v2, a_v3, a_v4, a_v5, a_v6, a_s0, a_s1, a_s2, a_s3, a_s4, a_s5, a_s6, p_f0, p_f1, p_f2, p_f3, p_f4, p_f5, p_f6, p_f7, p_f8, p_f9, a_f0, a_f1, a_f2, a_f3, a_f4, a_f5, a_f6, a_f7, a_f8, a_f9, p_p1, a_p1, cpAP, cpKP, cpPK, cpPA, Option.elim_some, true_and, and_true, Option.toList_some, Option.toList_none, List.cons_append, List.nil_append, hk.1, nI_ge him (show m < 2 ^ 31 by omega), if_false, sX5_lookAhead, vp8 i8, cl8 i8, i8, avRow_its, hb, hlt2, if_true]
          have e1 : othUp m dd P (i + 1) = othUp m dd P i := by
            conv => lhs; unfold othUp
            rw [if_neg hlt]
          rw [e1] at ih
          exact ih
    simp only [eX5_other_0, eX5_other_1, eX5_other_2, eX5_other_4, eX5_other_7, eX5_other_10, eX5_other_11, eX5_other_13, eX5_other_16, eX5_other_17, eX5_other_18, eX5_other_21, eX5_other_22, eX5_other_23, eX5_other_25, eX5_other_28, eX5_other_29, eX5_other_30, eX5_other_31, eX5_other_32, eX5_other_36, eX5_other_37, eX5_other_40, eX5_other_43, eX5_other_46, eX5_other_47, eX5_other_50, eX5_other_51, eX5_other_54, eX5_other_57, eX5_other_59, eX5_other_60, eX5_other_61, eX5_other_64, eX5_other_67, eX5_other_69, eX5_other_70, eX5_other_71, eX5_other_72, eX5_other_73, eX5_other_74, eX5_other_75, eX5_other_78, eX5_other_80, eX5_other_82, eX5_other_83, eX5_other_86, eX5_other_88, eX5_other_89, eX5_other_91, eX5_other_92, eX5_other_95, eX5_other_98, eX5_other_99, eX5_other_102, eX5_other_103, eX5_other_106, eX5_other_107, eX5_other_109, eX5_other_112, sX5_isWithin, h2, and_self, decide_true, bI_t, i10, if_false, if_true, sX5_lookAhead, hb0, cw_is, cw_isP, cw_isA, cw_isK, cw_kp, cw_tis, cw_t0, cw_t1, cw_t2, cw_t3, cw_tp, cw_bn, cw_bw, cw_bv, cw_bs, cw_rp1, cw_rp2, cw_rn, cw_rg, cw_rl, cw_fn, cw_fw, cw_fv, cw_fs, cw_f0, cw_f1, cw_f2, cw_f3, cw_f4, cw_f5, cw_f6, p_n0, p_n1, p_n2, p_n3, p_n4, p_n5, p_n6, p_w0, p_w1, p_w2, p_w3, p_w4, p_w5, p_w6, p_v0, p_v1, p_v2, p_v3, p_v4, p_v5, p_v6, p_s0, p_s1, p_s2, p_s3, p_s4, p_s5, p_s6, a_n0, a_n1, a_n2, a_n3, a_n4, a_n5, a_n6, a_w0, a_w1, a_w2, a_w3, a_w4, a_w5, a_w6, a_v0, a_v1, a_v2, a_v3, a_v4, a_v5, a_v6, a_s0, a_s1, a_s2, a_s3, a_s4, a_s5, a_s6, p_f0, p_f1, p_f2, p_f3, p_f4, p_f5, p_f6, p_f7, p_f8, p_f9, a_f0, a_f1, a_f2, a_f3, a_f4, a_f5, a_f6, a_f7, a_f8, a_f9, p_p1, a_p1, cpAP, cpKP, cpPK, cpPA, Option.elim_some, true_and, and_true, Option.toList_some, Option.toList_none, List.cons_append, List.nil_append]
    exact loop m 0 none (by omega)
  · simp only [eX5_other_0, eX5_other_1, eX5_other_2, eX5_other_4, eX5_other_7, eX5_other_10, eX5_other_11, eX5_other_13, eX5_other_16, eX5_other_17, eX5_other_18, eX5_other_21, eX5_other_22, eX5_other_23, eX5_other_25, eX5_other_28, eX5_other_29, eX5_other_30, eX5_other_31, eX5_other_32, eX5_other_36, eX5_other_37, eX5_other_40, eX5_other_43, eX5_other_46, eX5_other_47, eX5_other_50, eX5_other_51, eX5_other_54, eX5_other_57, eX5_other_59, eX5_other_60, eX5_other_61, eX5_other_64, eX5_other_67, eX5_other_69, eX5_other_70, eX5_other_71, eX5_other_72, eX5_other_73, eX5_other_74, eX5_other_75, eX5_other_78, eX5_other_80, eX5_other_82, eX5_other_83, eX5_other_86, eX5_other_88, eX5_other_89, eX5_other_91, eX5_other_92, eX5_other_95, eX5_other_98, eX5_other_99, eX5_other_102, eX5_other_103, eX5_other_106, eX5_other_107, eX5_other_109, eX5_other_112, sX5_isWithin, h2, decide_false, bI_f, if_false, if_true, cw_is, cw_isP, cw_isA, cw_isK, cw_kp, cw_tis, cw_t0, cw_t1, cw_t2, cw_t3, cw_tp, cw_bn, cw_bw, cw_bv, cw_bs, cw_rp1, cw_rp2, cw_rn, cw_rg, cw_rl, cw_fn, cw_fw, cw_fv, cw_fs, cw_f0, cw_f1, cw_f2, cw_f3, cw_f4, cw_f5, cw_f6, p_n0, p_n1, p_n2, p_n3, p_n4, p_n5, p_n6, p_w0, p_w1, p_w2, p_w3, p_w4, p_w5, p_w6, p_v0, p_v1, p_v2, p_v3, p_v4, p_v5, p_v6, p_s0, p_s1, p_s2, p_s3, p_s4, p_s5, p_s6, a_n0, a_n1, a_n2, a_n3, a_n4, a_n5, a_n6, a_w0, a_w1, a_w2, a_w3, a_w4, a_w5, a_w6, a_v0, a_v1, a_v2, a_v3, a_v4, a_v5, a_v6, a_s0, a_s1, a_s2, a_s3, a_s4, a_s5, a_s6, p_f0, p_f1, p_f2, p_f3, p_f4, p_f5, p_f6, p_f7, p_f8, p_f9, a_f0, a_f1, a_f2, a_f3, a_f4, a_f5, a_f6, a_f7, a_f8, a_f9, p_p1, a_p1, cpAP, cpKP, cpPK, cpPA, Option.elim_some, true_and, and_true, Option.toList_some, Option.toList_none, List.cons_append, List.nil_append, fin0]
end T47
