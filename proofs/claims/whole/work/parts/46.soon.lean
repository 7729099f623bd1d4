def soonUp (m i c : Nat) (P : rR) : Nat → Int32 × Nat
  | 0 => (-1, 201)
  | v + 1 => if tillR m i (soonUp m i c P v).2 (upd P (3 + 7 * i + c) (nI v)) < (soonUp m i c P v).2 then (nI v, tillR m i (soonUp m i c P v).2 (upd P (3 + 7 * i + c) (nI v))) else soonUp m i c P v
def soonA (m i c : Nat) (P A : rR) : Nat → rR
  | 0 => A
  | v + 1 => tillW m i (soonUp m i c P v).2 (upd P (3 + 7 * i + c) (nI v))
theorem soon_le (m i c : Nat) (P : rR) : ∀ v, (soonUp m i c P v).2 ≤ 201
  | 0 => Nat.le_refl _
  | v + 1 => by
    have ih := soon_le m i c P v
    unfold soonUp
    split
    · simp only; omega
    · exact ih
theorem soon_neg (m i c : Nat) (P : rR) : ∀ v, v < 1000 → (((soonUp m i c P v).1 < 0) = ((soonUp m i c P v).1 = -1))
  | 0, _ => by simp [soonUp]
  | v + 1, h => by
    have ih := soon_neg m i c P v (by omega)
    unfold soonUp
    split
    · have h1 : ¬ nI v < 0 := nI_pos (by omega)
      have h2 : ¬ nI v = -1 := by
        intro q
        have := congrArg Int32.toInt q
        rw [nI_toInt (by omega)] at this
        have e : (-1 : Int32).toInt = -1 := by decide
        omega
      simp only [h1, h2]
    · exact ih
section T46
variable {θ : (Nat → Value) × (Nat → Nat)} {n : Nat} {w : rW} {b : Nat} {P A K : rR} {kp : Int32} {tp : Nat → Int32} {tl rs re : Int32} {sh : rSh} {fd : Nat → Int32} {Q : rQ} {m : Nat}
theorem sX5_soonestThrough (hx : exOK θ w b) {i c N : Nat} (hi : i < m) (h8 : m ≤ 8) (hc : c < 7) (hN : tMOST c = nI N) (hN9 : N < 900) (hkv : ∀ v, v ≤ N → kOK (upd P (3 + 7 * i + c) (nI v)) m) : sg θ (n + 7) 57 [.ref b, .int (nI i), .int (nI c)] (cW w b P A K kp tp tl rs re sh fd) Q ↔ if (soonUp m i c P (N + 1)).1 = -1 then Q (some (.int (-1000000004))) (cW w b P (soonA m i c P A (N + 1)) K kp tp tl rs re sh (fB fd 3)) else Q (some (.int (soonUp m i c P (N + 1)).1)) (cW w b P (soonA m i c P A (N + 1)) K kp tp tl rs re sh fd) := by
  rw [nX5_soonestThrough]
  generalize ((cW w b P A K kp tp tl rs re sh fd).2.1 + 0, (cW w b P A K kp tp tl rs re sh fd).2.2 + 0) = lim
  have i8 : i < 8 := by omega
  have loop : ∀ d v o6, v + d = N + 1 → (Wp (xX5_soonestThrough θ (n + 6) lim) Q (10, [some (.ref b), some (.int (nI i)), some (.int (nI c)), some (.int (soonUp m i c P v).1), some (.int (nI (soonUp m i c P v).2)), some (.int (nI v)), o6], [], cW w b P (soonA m i c P A v) K kp tp tl rs re sh fd) ↔ if (soonUp m i c P (N + 1)).1 = -1 then Q (some (.int (-1000000004))) (cW w b P (soonA m i c P A (N + 1)) K kp tp tl rs re sh (fB fd 3)) else Q (some (.int (soonUp m i c P (N + 1)).1)) (cW w b P (soonA m i c P A (N + 1)) K kp tp tl rs re sh fd)) := by
    intro d
    induction d with
    | zero =>
      intro v o6 hv
      have hv : v = N + 1 := by omega
      subst hv
      have hmo := fun n Q => sX0_most (θ := θ) (n := n) (Q := Q) (cw_ex (P := P) (A := soonA m i c P A (N + 1)) (K := K) (kp := kp) (tp := tp) (tl := tl) (rs := rs) (re := re) (sh := sh) (fd := fd) hx) hc
      rw [eX5_soonestThrough_10]
      by_cases hneg : (soonUp m i c P (N + 1)).1 = -1 <;> simp only [eX5_soonestThrough_0, eX5_soonestThrough_1, eX5_soonestThrough_2, eX5_soonestThrough_5, eX5_soonestThrough_7, eX5_soonestThrough_8, eX5_soonestThrough_12, eX5_soonestThrough_13, eX5_soonestThrough_16, eX5_soonestThrough_19, eX5_soonestThrough_20, eX5_soonestThrough_23, eX5_soonestThrough_24, eX5_soonestThrough_27, eX5_soonestThrough_28, eX5_soonestThrough_29, eX5_soonestThrough_31, eX5_soonestThrough_34, eX5_soonestThrough_35, eX5_soonestThrough_36, eX5_soonestThrough_39, eX5_soonestThrough_40, eX5_soonestThrough_42, eX5_soonestThrough_45, eX5_soonestThrough_47, eX5_soonestThrough_49, eX5_soonestThrough_51, eX5_soonestThrough_54, eX5_soonestThrough_56, eX5_soonestThrough_58, eX5_soonestThrough_60, eX5_soonestThrough_61, eX5_soonestThrough_64, eX5_soonestThrough_67, eX5_soonestThrough_68, eX5_soonestThrough_71, eX5_soonestThrough_72, eX5_soonestThrough_75, eX5_soonestThrough_76, eX5_soonestThrough_78, eX5_soonestThrough_81, hmo, hN, nI_lt (show N < N + 1 by omega) (show N + 1 < 2 ^ 31 by omega), if_true, if_false, cw_is, cw_isP, cw_isA, cw_isK, cw_kp, cw_tis, cw_t0, cw_t1, cw_t2, cw_t3, cw_tp, cw_bn, cw_bw, cw_bv, cw_bs, cw_rp1, cw_rp2, cw_rn, cw_rg, cw_rl, cw_fn, cw_fw, cw_fv, cw_fs, cw_f0, cw_f1, cw_f2, cw_f3, cw_f4, cw_f5, cw_f6, p_n0, p_n1, p_n2, p_n3, p_n4, p_n5, p_n6, p_w0, p_w1, p_w2, p_w3, p_w4, p_w5, p_w6, p_v0, p_v1, p_v2, p_v3, p_v4, p_v5, p_v6, p_s0, p_s1, p_s2, p_s3, p_s4, p_s5, p_s6, a_n0, a_n1, a_n2, a_n3, a_n4, a_n5, a_n6, a_w0, a_w1, a_w2, a_w3, a_w4, a_w5, a_w6, a_v0, a_v1, a_v2, a_v3, a_v4, a_v5, a_v6, a_s0, a_s1, a_s2, a_s3, a_s4, a_s5, a_s6, p_f0, p_f1, p_f2, p_f3, p_f4, p_f5, p_f6, p_f7, p_f8, p_f9, a_f0, a_f1, a_f2, a_f3, a_f4, a_f5, a_f6, a_f7, a_f8, a_f9, p_p1, a_p1, cpAP, cpKP, cpPK, cpPA, Option.elim_some, true_and, and_true, Option.toList_some, Option.toList_none, List.cons_append, List.nil_append, soon_neg m i c P (N + 1) (by omega), hneg, fin3, show ((-1 : Int32) < 0) = True by decide]
    | succ d ih =>
      intro v o6 hv
      have hmo := fun n Q => sX0_most (θ := θ) (n := n) (Q := Q) (cw_ex (P := P) (A := soonA m i c P A v) (K := K) (kp := kp) (tp := tp) (tl := tl) (rs := rs) (re := re) (sh := sh) (fd := fd) hx) hc
      have hk := hkv v (by omega)
      have hput := fun n Q => aX0_put (θ := θ) (n := n) (w := w) (b := b) (P := P) (A := P) (K := K) (kp := kp) (tp := tp) (tl := tl) (rs := rs) (re := re) (sh := sh) (fd := fd) (Q := Q) (x := nI v) i8 hc
      have hsl := soon_le m i c P v
      have ht := fun n Q => aX0_minutesTillThrough (θ := θ) (n := n) (w := w) (b := b) (P := P) (A := upd P (3 + 7 * i + c) (nI v)) (K := K) (kp := kp) (tp := tp) (tl := tl) (rs := rs) (re := re) (sh := sh) (fd := fd) (Q := Q) hx hk hi (show (soonUp m i c P v).2 < 2 ^ 31 by omega)
      have ih := fun o => ih (v + 1) o (by omega)
      rw [nI_succ] at ih
      have till_le : ∀ (l : Nat) (r : rR), tillR m i l r ≤ l := by
        intro l
        induction l with
        | zero => intro r; exact Nat.le_refl 0
        | succ l ih =>
          intro r
          unfold tillR
          split
          · omega
          · have := ih (minR m r)
            omega
      have hle := till_le (soonUp m i c P v).2 (upd P (3 + 7 * i + c) (nI v))
      rw [eX5_soonestThrough_10]
      by_cases hlt : tillR m i (soonUp m i c P v).2 (upd P (3 + 7 * i + c) (nI v)) < (soonUp m i c P v).2
      · simp only [eX5_soonestThrough_0, eX5_soonestThrough_1, eX5_soonestThrough_2, eX5_soonestThrough_5, eX5_soonestThrough_7, eX5_soonestThrough_8, eX5_soonestThrough_12, eX5_soonestThrough_13, eX5_soonestThrough_16, eX5_soonestThrough_19, eX5_soonestThrough_20, eX5_soonestThrough_23, eX5_soonestThrough_24, eX5_soonestThrough_27, eX5_soonestThrough_28, eX5_soonestThrough_29, eX5_soonestThrough_31, eX5_soonestThrough_34, eX5_soonestThrough_35, eX5_soonestThrough_36, eX5_soonestThrough_39, eX5_soonestThrough_40, eX5_soonestThrough_42, eX5_soonestThrough_45, eX5_soonestThrough_47, eX5_soonestThrough_49, eX5_soonestThrough_51, eX5_soonestThrough_54, eX5_soonestThrough_56, eX5_soonestThrough_58, eX5_soonestThrough_60, eX5_soonestThrough_61, eX5_soonestThrough_64, eX5_soonestThrough_67, eX5_soonestThrough_68, eX5_soonestThrough_71, eX5_soonestThrough_72, eX5_soonestThrough_75, eX5_soonestThrough_76, eX5_soonestThrough_78, eX5_soonestThrough_81, hmo, hN, nI_nlt (show v ≤ N by omega) (show N < 2 ^ 31 by omega), if_false, sX5_lookAhead, hput, ht, cw_is, cw_isP, cw_isA, cw_isK, cw_kp, cw_tis, cw_t0, cw_t1, cw_t2, cw_t3, cw_tp, cw_bn, cw_bw, cw_bv, cw_bs, cw_rp1, cw_rp2, cw_rn, cw_rg, cw_rl, cw_fn, cw_fw, cw_fv, cw_fs, cw_f0, cw_f1, cw_f2, cw_f3, cw_f4, cw_f5, cw_f6, p_n0, p_n1, p_n2, p_n3, p_n4, p_n5, p_n6, p_w0, p_w1, p_w2, p_w3, p_w4, p_w5, p_w6, p_v0, p_v1, p_v2, p_v3, p_v4, p_v5, p_v6, p_s0, p_s1, p_s2, p_s3, p_s4, p_s5, p_s6, a_n0, a_n1, a_n2, a_n3, a_n4, a_n5, a_n6, a_w0, a_w1, a_w2, a_w3, a_w4, a_w5, a_w6, a_v0, a_v1, a_v2, a_v3, a_v4, a_v5, a_v6, a_s0, a_s1, a_s2, a_s3, a_s4, a_s5, a_s6, p_f0, p_f1, p_f2, p_f3, p_f4, p_f5, p_f6, p_f7, p_f8, p_f9, a_f0, a_f1, a_f2, a_f3, a_f4, a_f5, a_f6, a_f7, a_f8, a_f9, p_p1, a_p1, cpAP, cpKP, cpPK, cpPA, Option.elim_some, true_and, and_true, Option.toList_some, Option.toList_none, List.cons_append, List.nil_append, nI_ge hlt (show (soonUp m i c P v).2 < 2 ^ 31 by omega)]
        have e1 : soonUp m i c P (v + 1) = (nI v, tillR m i (soonUp m i c P v).2 (upd P (3 + 7 * i + c) (nI v))) := by
          conv => lhs; unfold soonUp
          rw [if_pos hlt]
        have ih := ih (some (.int (nI (tillR m i (soonUp m i c P v).2 (upd P (3 + 7 * i + c) (nI v))))))
        rw [e1] at ih
        exact ih
      · have e2 : tillR m i (soonUp m i c P v).2 (upd P (3 + 7 * i + c) (nI v)) = (soonUp m i c P v).2 := by omega
        simp only [eX5_soonestThrough_0, eX5_soonestThrough_1, eX5_soonestThrough_2, eX5_soonestThrough_5, eX5_soonestThrough_7, eX5_soonestThrough_8, eX5_soonestThrough_12, eX5_soonestThrough_13, eX5_soonestThrough_16, eX5_soonestThrough_19, eX5_soonestThrough_20, eX5_soonestThrough_23, eX5_soonestThrough_24, eX5_soonestThrough_27, eX5_soonestThrough_28, eX5_soonestThrough_29, eX5_soonestThrough_31, eX5_soonestThrough_34, eX5_soonestThrough_35, eX5_soonestThrough_36, eX5_soonestThrough_39, eX5_soonestThrough_40, eX5_soonestThrough_42, eX5_soonestThrough_45, eX5_soonestThrough_47, eX5_soonestThrough_49, eX5_soonestThrough_51, eX5_soonestThrough_54, eX5_soonestThrough_56, eX5_soonestThrough_58, eX5_soonestThrough_60, eX5_soonestThrough_61, eX5_soonestThrough_64, eX5_soonestThrough_67, eX5_soonestThrough_68, eX5_soonestThrough_71, eX5_soonestThrough_72, eX5_soonestThrough_75, eX5_soonestThrough_76, eX5_soonestThrough_78, eX5_soonestThrough_81, hmo, hN, nI_nlt (show v ≤ N by omega) (show N < 2 ^ 31 by omega), if_false, sX5_lookAhead, hput, ht, cw_is, cw_isP, cw_isA, cw_isK, cw_kp, cw_tis, cw_t0, cw_t1, cw_t2, cw_t3, cw_tp, cw_bn, cw_bw, cw_bv, cw_bs, cw_rp1, cw_rp2, cw_rn, cw_rg, cw_rl, cw_fn, cw_fw, cw_fv, cw_fs, cw_f0, cw_f1, cw_f2, cw_f3, cw_f4, cw_f5, cw_f6, p_n0, p_n1, p_n2, p_n3, p_n4, p_n5, p_n6, p_w0, p_w1, p_w2, p_w3, p_w4, p_w5, p_w6, p_v0, p_v1, p_v2, p_v3, p_v4, p_v5, p_v6, p_s0, p_s1, p_s2, p_s3, p_s4, p_s5, p_s6, a_n0, a_n1, a_n2, a_n3, a_n4, a_n5, a_n6, a_w0, a_w1, a_w2, a_w3, a_w4, a_w5, a_w6, a_v0, a_v1, a_v2, a_v3, a_v4, a_v5, a_v6, a_s0, a_s1, a_s2, a_s3, a_s4, a_s5, a_s6, p_f0, p_f1, p_f2, p_f3, p_f4, p_f5, p_f6, p_f7, p_f8, p_f9, a_f0, a_f1, a_f2, a_f3, a_f4, a_f5, a_f6, a_f7, a_f8, a_f9, p_p1, a_p1, cpAP, cpKP, cpPK, cpPA, Option.elim_some, true_and, and_true, Option.toList_some, Option.toList_none, List.cons_append, List.nil_append, e2, Int32.le_refl, if_true]
        have e1 : soonUp m i c P (v + 1) = soonUp m i c P v := by
          conv => lhs; unfold soonUp
          rw [if_neg hlt]
        have ih := ih (some (.int (nI (soonUp m i c P v).2)))
        rw [e1] at ih
        exact ih
  simp only [eX5_soonestThrough_0, eX5_soonestThrough_1, eX5_soonestThrough_2, eX5_soonestThrough_5, eX5_soonestThrough_7, eX5_soonestThrough_8, eX5_soonestThrough_12, eX5_soonestThrough_13, eX5_soonestThrough_16, eX5_soonestThrough_19, eX5_soonestThrough_20, eX5_soonestThrough_23, eX5_soonestThrough_24, eX5_soonestThrough_27, eX5_soonestThrough_28, eX5_soonestThrough_29, eX5_soonestThrough_31, eX5_soonestThrough_34, eX5_soonestThrough_35, eX5_soonestThrough_36, eX5_soonestThrough_39, eX5_soonestThrough_40, eX5_soonestThrough_42, eX5_soonestThrough_45, eX5_soonestThrough_47, eX5_soonestThrough_49, eX5_soonestThrough_51, eX5_soonestThrough_54, eX5_soonestThrough_56, eX5_soonestThrough_58, eX5_soonestThrough_60, eX5_soonestThrough_61, eX5_soonestThrough_64, eX5_soonestThrough_67, eX5_soonestThrough_68, eX5_soonestThrough_71, eX5_soonestThrough_72, eX5_soonestThrough_75, eX5_soonestThrough_76, eX5_soonestThrough_78, eX5_soonestThrough_81]
  exact loop (N + 1) 0 none (by omega)
theorem kOK.kind {r : rR} {i v : Nat} (h : kOK r m) (hv : v < 6) : kOK (upd r (3 + 7 * i + 0) (nI v)) m := by
  refine ⟨by rw [upd_ne (by omega)]; exact h.1, h.2.1, fun j hj => ?_⟩
  by_cases e : i = j
  · subst e
    exact ⟨v, hv, its_eq⟩
  · obtain ⟨kd, h1, h2⟩ := h.2.2 j hj
    exact ⟨kd, h1, by rw [its_ne (by decide) (by decide) (by omega)]; exact h2⟩
theorem sX5_pace (hx : exOK θ w b) (hk : kOK P m) {x : Int32} : sg θ (n + 8) 56 [.ref b, .int x] (cW w b P A K kp tp tl rs re sh fd) Q ↔ if isW P x = true then (if (soonUp m x.toNatClampNeg 3 P 10).1 = -1 then Q (some (.int (-1000000004))) (cW w b P (soonA m x.toNatClampNeg 3 P A 10) K kp tp tl rs re sh (fB fd 3)) else Q (some (.int (soonUp m x.toNatClampNeg 3 P 10).1)) (cW w b P (soonA m x.toNatClampNeg 3 P A 10) K kp tp tl rs re sh fd)) else Q (some (.int (-1000000001))) (cW w b P A K kp tp tl rs re sh (fB fd 0)) := by
  rw [nX5_pace]
  have h8 := hk.2.1
  cases h1 : isW P x with
  | false => simp only [eX5_pace_0, eX5_pace_1, eX5_pace_2, eX5_pace_5, eX5_pace_8, eX5_pace_9, eX5_pace_10, eX5_pace_11, eX5_pace_14, eX5_pace_17, eX5_pace_18, eX5_pace_20, eX5_pace_23, sX5_isWalker, h1, bI_f, if_true, cw_is, cw_isP, cw_isA, cw_isK, cw_kp, cw_tis, cw_t0, cw_t1, cw_t2, cw_t3, cw_tp, cw_bn, cw_bw, cw_bv, cw_bs, cw_rp1, cw_rp2, cw_rn, cw_rg, cw_rl, cw_fn, cw_fw, cw_fv, cw_fs, cw_f0, cw_f1, cw_f2, cw_f3, cw_f4, cw_f5, cw_f6, p_n0, p_n1, p_n2, p_n3, p_n4, p_n5, p_n6, p_w0, p_w1, p_w2, p_w3, p_w4, p_w5, p_w6, p_v0, p_v1, p_v2, p_v3, p_v4, p_v5, p_v6, p_s0, p_s1, p_s2, p_s3, p_s4, p_s5, p_s6, a_n0, a_n1, a_n2, a_n3, a_n4, a_n5, a_n6, a_w0, a_w1, a_w2, a_w3, a_w4, a_w5, a_w6, a_v0, a_v1, a_v2, a_v3, a_v4, a_v5, a_v6, a_s0, a_s1, a_s2, a_s3, a_s4, a_s5, a_s6, p_f0, p_f1, p_f2, p_f3, p_f4, p_f5, p_f6, p_f7, p_f8, p_f9, a_f0, a_f1, a_f2, a_f3, a_f4, a_f5, a_f6, a_f7, a_f8, a_f9, p_p1, a_p1, cpAP, cpKP, cpPK, cpPA, Option.elim_some, true_and, and_true, Option.toList_some, Option.toList_none, List.cons_append, List.nil_append, fin0, Bool.false_eq_true, if_false]
  | true =>
    obtain ⟨i, hi, rfl, ci⟩ := walker_of hk.1 h8 h1
    have hs := fun n Q => sX5_soonestThrough (θ := θ) (n := n) (A := A) (K := K) (kp := kp) (tp := tp) (tl := tl) (rs := rs) (re := re) (sh := sh) (fd := fd) (Q := Q) (P := P) hx hi h8 (show 3 < 7 by decide) (show tMOST 3 = nI 9 by decide) (by decide) (fun v _ => hk.up (by decide) (by decide))
    simp only [show nI 3 = 3 from rfl] at hs
    by_cases h2 : (soonUp m i 3 P 10).1 = -1 <;> simp only [eX5_pace_0, eX5_pace_1, eX5_pace_2, eX5_pace_5, eX5_pace_8, eX5_pace_9, eX5_pace_10, eX5_pace_11, eX5_pace_14, eX5_pace_17, eX5_pace_18, eX5_pace_20, eX5_pace_23, sX5_isWalker, h1, bI_t, i10, if_false, if_true, cw_is, cw_isP, cw_isA, cw_isK, cw_kp, cw_tis, cw_t0, cw_t1, cw_t2, cw_t3, cw_tp, cw_bn, cw_bw, cw_bv, cw_bs, cw_rp1, cw_rp2, cw_rn, cw_rg, cw_rl, cw_fn, cw_fw, cw_fv, cw_fs, cw_f0, cw_f1, cw_f2, cw_f3, cw_f4, cw_f5, cw_f6, p_n0, p_n1, p_n2, p_n3, p_n4, p_n5, p_n6, p_w0, p_w1, p_w2, p_w3, p_w4, p_w5, p_w6, p_v0, p_v1, p_v2, p_v3, p_v4, p_v5, p_v6, p_s0, p_s1, p_s2, p_s3, p_s4, p_s5, p_s6, a_n0, a_n1, a_n2, a_n3, a_n4, a_n5, a_n6, a_w0, a_w1, a_w2, a_w3, a_w4, a_w5, a_w6, a_v0, a_v1, a_v2, a_v3, a_v4, a_v5, a_v6, a_s0, a_s1, a_s2, a_s3, a_s4, a_s5, a_s6, p_f0, p_f1, p_f2, p_f3, p_f4, p_f5, p_f6, p_f7, p_f8, p_f9, a_f0, a_f1, a_f2, a_f3, a_f4, a_f5, a_f6, a_f7, a_f8, a_f9, p_p1, a_p1, cpAP, cpKP, cpPK, cpPA, Option.elim_some, true_and, and_true, Option.toList_some, Option.toList_none, List.cons_append, List.nil_append, hs, ci, h2]
theorem sX5_kind (hx : exOK θ w b) (hk : kOK P m) {x : Int32} : sg θ (n + 8) 58 [.ref b, .int x] (cW w b P A K kp tp tl rs re sh fd) Q ↔ if isW P x = true then (if (soonUp m x.toNatClampNeg 0 P 6).1 = -1 then Q (some (.int (-1000000004))) (cW w b P (soonA m x.toNatClampNeg 0 P A 6) K kp tp tl rs re sh (fB fd 3)) else Q (some (.int (soonUp m x.toNatClampNeg 0 P 6).1)) (cW w b P (soonA m x.toNatClampNeg 0 P A 6) K kp tp tl rs re sh fd)) else Q (some (.int (-1000000001))) (cW w b P A K kp tp tl rs re sh (fB fd 0)) := by
  rw [nX5_kind]
  have h8 := hk.2.1
  cases h1 : isW P x with
  | false => simp only [eX5_kind_0, eX5_kind_1, eX5_kind_2, eX5_kind_5, eX5_kind_8, eX5_kind_9, eX5_kind_10, eX5_kind_11, eX5_kind_14, eX5_kind_17, eX5_kind_18, eX5_kind_20, eX5_kind_23, sX5_isWalker, h1, bI_f, if_true, cw_is, cw_isP, cw_isA, cw_isK, cw_kp, cw_tis, cw_t0, cw_t1, cw_t2, cw_t3, cw_tp, cw_bn, cw_bw, cw_bv, cw_bs, cw_rp1, cw_rp2, cw_rn, cw_rg, cw_rl, cw_fn, cw_fw, cw_fv, cw_fs, cw_f0, cw_f1, cw_f2, cw_f3, cw_f4, cw_f5, cw_f6, p_n0, p_n1, p_n2, p_n3, p_n4, p_n5, p_n6, p_w0, p_w1, p_w2, p_w3, p_w4, p_w5, p_w6, p_v0, p_v1, p_v2, p_v3, p_v4, p_v5, p_v6, p_s0, p_s1, p_s2, p_s3, p_s4, p_s5, p_s6, a_n0, a_n1, a_n2, a_n3, a_n4, a_n5, a_n6, a_w0, a_w1, a_w2, a_w3, a_w4, a_w5, a_w6, a_v0, a_v1, a_v2, a_v3, a_v4, a_v5, a_v6, a_s0, a_s1, a_s2, a_s3, a_s4, a_s5, a_s6, p_f0, p_f1, p_f2, p_f3, p_f4, p_f5, p_f6, p_f7, p_f8, p_f9, a_f0, a_f1, a_f2, a_f3, a_f4, a_f5, a_f6, a_f7, a_f8, a_f9, p_p1, a_p1, cpAP, cpKP, cpPK, cpPA, Option.elim_some, true_and, and_true, Option.toList_some, Option.toList_none, List.cons_append, List.nil_append, fin0, Bool.false_eq_true, if_false]
  | true =>
    obtain ⟨i, hi, rfl, ci⟩ := walker_of hk.1 h8 h1
    have hs := fun n Q => sX5_soonestThrough (θ := θ) (n := n) (A := A) (K := K) (kp := kp) (tp := tp) (tl := tl) (rs := rs) (re := re) (sh := sh) (fd := fd) (Q := Q) (P := P) hx hi h8 (show 0 < 7 by decide) (show tMOST 0 = nI 5 by decide) (by decide) (fun v hv => hk.kind (by omega))
    simp only [nI_0] at hs
    by_cases h2 : (soonUp m i 0 P 6).1 = -1 <;> simp only [eX5_kind_0, eX5_kind_1, eX5_kind_2, eX5_kind_5, eX5_kind_8, eX5_kind_9, eX5_kind_10, eX5_kind_11, eX5_kind_14, eX5_kind_17, eX5_kind_18, eX5_kind_20, eX5_kind_23, sX5_isWalker, h1, bI_t, i10, if_false, if_true, cw_is, cw_isP, cw_isA, cw_isK, cw_kp, cw_tis, cw_t0, cw_t1, cw_t2, cw_t3, cw_tp, cw_bn, cw_bw, cw_bv, cw_bs, cw_rp1, cw_rp2, cw_rn, cw_rg, cw_rl, cw_fn, cw_fw, cw_fv, cw_fs, cw_f0, cw_f1, cw_f2, cw_f3, cw_f4, cw_f5, cw_f6, p_n0, p_n1, p_n2, p_n3, p_n4, p_n5, p_n6, p_w0, p_w1, p_w2, p_w3, p_w4, p_w5, p_w6, p_v0, p_v1, p_v2, p_v3, p_v4, p_v5, p_v6, p_s0, p_s1, p_s2, p_s3, p_s4, p_s5, p_s6, a_n0, a_n1, a_n2, a_n3, a_n4, a_n5, a_n6, a_w0, a_w1, a_w2, a_w3, a_w4, a_w5, a_w6, a_v0, a_v1, a_v2, a_v3, a_v4, a_v5, a_v6, a_s0, a_s1, a_s2, a_s3, a_s4, a_s5, a_s6, p_f0, p_f1, p_f2, p_f3, p_f4, p_f5, p_f6, p_f7, p_f8, p_f9, a_f0, a_f1, a_f2, a_f3, a_f4, a_f5, a_f6, a_f7, a_f8, a_f9, p_p1, a_p1, cpAP, cpKP, cpPK, cpPA, Option.elim_some, true_and, and_true, Option.toList_some, Option.toList_none, List.cons_append, List.nil_append, hs, ci, h2]
end T46
