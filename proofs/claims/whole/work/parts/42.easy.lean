theorem range_nI {x : Int32} {l h : Nat} (hl : nI l ≤ x) (hh : x ≤ nI h) (h31 : h < 2 ^ 31) (hlh : l ≤ h) : ∃ c : Nat, x = nI c ∧ l ≤ c ∧ c ≤ h := by
  have h0 : ¬ x < 0 := by
    intro q
    have h1 := Int32.le_iff_toInt_le.mp hl
    have h2 := Int32.lt_iff_toInt_lt.mp q
    rw [nI_toInt (by omega)] at h1
    have e0 : (0 : Int32).toInt = 0 := by decide
    omega
  obtain ⟨c, hc, rfl⟩ := nI_of h0
  exact ⟨c, rfl, (nI_leI (by omega) hc).mp hl, (nI_leI hc h31).mp hh⟩
theorem walker_nI {x : Int32} {m : Nat} (hm : m ≤ 8) (h0 : 0 ≤ x) (h1 : x < nI m) : ∃ i : Nat, i < m ∧ x = nI i := by
  obtain ⟨c, hc, rfl⟩ := nI_of (x := x) (Int32.not_lt.mpr h0)
  exact ⟨c, (nI_ltI hc (by omega)).mp h1, rfl⟩
def fB (fd : Nat → Int32) (j : Nat) : Nat → Int32 := upd fd j (fd j + 1)
def isW (r : rR) (x : Int32) : Bool := decide (0 ≤ x ∧ x < r 2)
section T42
variable {θ : (Nat → Value) × (Nat → Nat)} {n : Nat} {w : rW} {b : Nat} {P A K : rR} {kp : Int32} {tp : Nat → Int32} {tl rs re : Int32} {sh : rSh} {fd : Nat → Int32} {Q : rQ}
theorem sX5_isWithin {x l h : Int32} {w : rW} : sg θ (n + 1) 39 [.int x, .int l, .int h] w Q ↔ Q (some (.int (bI (decide (l ≤ x ∧ x ≤ h))))) w := by
  rw [nX5_isWithin]
  simp only [eX5_isWithin_0, eX5_isWithin_1, eX5_isWithin_2, eX5_isWithin_5, eX5_isWithin_6, eX5_isWithin_7, eX5_isWithin_10, eX5_isWithin_11, eX5_isWithin_14, eX5_isWithin_15]
  by_cases h1 : x < l
  · have : ¬ l ≤ x := Int32.not_le.mpr h1
    simp [h1, this, bI, nb_0]
  · by_cases h2 : h < x
    · have : ¬ x ≤ h := Int32.not_le.mpr h2
      simp [h1, h2, this, bI, nb_0]
    · have g1 : l ≤ x := Int32.not_lt.mp h1
      have g2 : x ≤ h := Int32.not_lt.mp h2
      simp [h1, h2, g1, g2, bI, nb_1]
theorem vp7 {j : Nat} (h : j < 7) : vp_in (nI j) 7 := vp_in_nI h (by decide)
theorem sX5_finding {j : Nat} {f : Int32} (hj : j < 7) (hf : -1000000001 - f = nI j) : sg θ (n + 2) 40 [.ref b, .int f] (cW w b P A K kp tp tl rs re sh fd) Q ↔ Q (some (.int f)) (cW w b P A K kp tp tl rs re sh (fB fd j)) := by
  rw [nX5_finding]
  have h1 : (0 : Int32) ≤ nI j ∧ nI j ≤ 6 := ⟨nI_pos' (by omega), nI_le (b := 6) (by omega) (by decide)⟩
  simp only [eX5_finding_0, eX5_finding_2, eX5_finding_3, eX5_finding_4, eX5_finding_5, eX5_finding_6, eX5_finding_7, eX5_finding_9, eX5_finding_12, eX5_finding_15, eX5_finding_16, eX5_finding_19, eX5_finding_20, eX5_finding_21, eX5_finding_22, eX5_finding_23, eX5_finding_24, eX5_finding_25, eX5_finding_26, hf, sX5_isWithin, h1, decide_true, bI_t, i10, if_false, cw_is, cw_isP, cw_isA, cw_isK, cw_kp, cw_tis, cw_t0, cw_t1, cw_t2, cw_t3, cw_tp, cw_bn, cw_bw, cw_bv, cw_bs, cw_rp1, cw_rp2, cw_rn, cw_rg, cw_rl, cw_fn, cw_fw, cw_fv, cw_fs, cw_f0, cw_f1, cw_f2, cw_f3, cw_f4, cw_f5, cw_f6, p_n0, p_n1, p_n2, p_n3, p_n4, p_n5, p_n6, p_w0, p_w1, p_w2, p_w3, p_w4, p_w5, p_w6, p_v0, p_v1, p_v2, p_v3, p_v4, p_v5, p_v6, p_s0, p_s1, p_s2, p_s3, p_s4, p_s5, p_s6, a_n0, a_n1, a_n2, a_n3, a_n4, a_n5, a_n6, a_w0, a_w1, a_w2, a_w3, a_w4, a_w5, a_w6, a_v0, a_v1, a_v2, a_v3, a_v4, a_v5, a_v6, a_s0, a_s1, a_s2, a_s3, a_s4, a_s5, a_s6, p_f0, p_f1, p_f2, p_f3, p_f4, p_f5, p_f6, p_f7, p_f8, p_f9, a_f0, a_f1, a_f2, a_f3, a_f4, a_f5, a_f6, a_f7, a_f8, a_f9, p_p1, a_p1, cpAP, cpKP, cpPK, cpPA, Option.elim_some, true_and, and_true, Option.toList_some, Option.toList_none, List.cons_append, List.nil_append, vp7 hj, nI_clamp (show j < 2 ^ 31 by omega), fB]
theorem fin0 : sg θ (n + 2) 40 [.ref b, .int (-1000000001)] (cW w b P A K kp tp tl rs re sh fd) Q ↔ Q (some (.int (-1000000001))) (cW w b P A K kp tp tl rs re sh (fB fd 0)) := sX5_finding (by decide) (by decide)
theorem fin1 : sg θ (n + 2) 40 [.ref b, .int (-1000000002)] (cW w b P A K kp tp tl rs re sh fd) Q ↔ Q (some (.int (-1000000002))) (cW w b P A K kp tp tl rs re sh (fB fd 1)) := sX5_finding (by decide) (by decide)
theorem fin2 : sg θ (n + 2) 40 [.ref b, .int (-1000000003)] (cW w b P A K kp tp tl rs re sh fd) Q ↔ Q (some (.int (-1000000003))) (cW w b P A K kp tp tl rs re sh (fB fd 2)) := sX5_finding (by decide) (by decide)
theorem fin3 : sg θ (n + 2) 40 [.ref b, .int (-1000000004)] (cW w b P A K kp tp tl rs re sh fd) Q ↔ Q (some (.int (-1000000004))) (cW w b P A K kp tp tl rs re sh (fB fd 3)) := sX5_finding (by decide) (by decide)
theorem fin4 : sg θ (n + 2) 40 [.ref b, .int (-1000000005)] (cW w b P A K kp tp tl rs re sh fd) Q ↔ Q (some (.int (-1000000005))) (cW w b P A K kp tp tl rs re sh (fB fd 4)) := sX5_finding (by decide) (by decide)
theorem fin5 : sg θ (n + 2) 40 [.ref b, .int (-1000000006)] (cW w b P A K kp tp tl rs re sh fd) Q ↔ Q (some (.int (-1000000006))) (cW w b P A K kp tp tl rs re sh (fB fd 5)) := sX5_finding (by decide) (by decide)
theorem fin6 : sg θ (n + 2) 40 [.ref b, .int (-1000000007)] (cW w b P A K kp tp tl rs re sh fd) Q ↔ Q (some (.int (-1000000007))) (cW w b P A K kp tp tl rs re sh (fB fd 6)) := sX5_finding (by decide) (by decide)
theorem sX5_isWalker {x : Int32} : sg θ (n + 1) 43 [.ref b, .int x] (cW w b P A K kp tp tl rs re sh fd) Q ↔ Q (some (.int (bI (isW P x)))) (cW w b P A K kp tp tl rs re sh fd) := by
  rw [nX5_isWalker]
  simp only [eX5_isWalker_0, eX5_isWalker_1, eX5_isWalker_4, eX5_isWalker_5, eX5_isWalker_6, eX5_isWalker_9, eX5_isWalker_12, eX5_isWalker_15, eX5_isWalker_16, eX5_isWalker_19, eX5_isWalker_20, cw_is, cw_isP, cw_isA, cw_isK, cw_kp, cw_tis, cw_t0, cw_t1, cw_t2, cw_t3, cw_tp, cw_bn, cw_bw, cw_bv, cw_bs, cw_rp1, cw_rp2, cw_rn, cw_rg, cw_rl, cw_fn, cw_fw, cw_fv, cw_fs, cw_f0, cw_f1, cw_f2, cw_f3, cw_f4, cw_f5, cw_f6, p_n0, p_n1, p_n2, p_n3, p_n4, p_n5, p_n6, p_w0, p_w1, p_w2, p_w3, p_w4, p_w5, p_w6, p_v0, p_v1, p_v2, p_v3, p_v4, p_v5, p_v6, p_s0, p_s1, p_s2, p_s3, p_s4, p_s5, p_s6, a_n0, a_n1, a_n2, a_n3, a_n4, a_n5, a_n6, a_w0, a_w1, a_w2, a_w3, a_w4, a_w5, a_w6, a_v0, a_v1, a_v2, a_v3, a_v4, a_v5, a_v6, a_s0, a_s1, a_s2, a_s3, a_s4, a_s5, a_s6, p_f0, p_f1, p_f2, p_f3, p_f4, p_f5, p_f6, p_f7, p_f8, p_f9, a_f0, a_f1, a_f2, a_f3, a_f4, a_f5, a_f6, a_f7, a_f8, a_f9, p_p1, a_p1, cpAP, cpKP, cpPK, cpPA, Option.elim_some, true_and, and_true, Option.toList_some, Option.toList_none, List.cons_append, List.nil_append, isW]
  by_cases h1 : x < 0
  · have : ¬ 0 ≤ x := Int32.not_le.mpr h1
    simp [h1, this, bI, nb_0]
  · have g1 : 0 ≤ x := Int32.not_lt.mp h1
    by_cases h2 : P 2 ≤ x
    · have : ¬ x < P 2 := Int32.not_lt.mpr h2
      simp [h1, g1, h2, this, bI, nb_0]
    · have g2 : x < P 2 := Int32.not_le.mp h2
      simp [h1, g1, h2, g2, bI, nb_1]
theorem sX5_lookAhead : sg θ (n + 3) 52 [.ref b] (cW w b P A K kp tp tl rs re sh fd) Q ↔ Q none (cW w b P P K kp tp tl rs re sh fd) := by
  rw [nX5_lookAhead]
  simp only [eX5_lookAhead_0, eX5_lookAhead_1, eX5_lookAhead_4, eX5_lookAhead_5, eX5_lookAhead_8, eX5_lookAhead_11, cw_is, cw_isP, cw_isA, cw_isK, cw_kp, cw_tis, cw_t0, cw_t1, cw_t2, cw_t3, cw_tp, cw_bn, cw_bw, cw_bv, cw_bs, cw_rp1, cw_rp2, cw_rn, cw_rg, cw_rl, cw_fn, cw_fw, cw_fv, cw_fs, cw_f0, cw_f1, cw_f2, cw_f3, cw_f4, cw_f5, cw_f6, p_n0, p_n1, p_n2, p_n3, p_n4, p_n5, p_n6, p_w0, p_w1, p_w2, p_w3, p_w4, p_w5, p_w6, p_v0, p_v1, p_v2, p_v3, p_v4, p_v5, p_v6, p_s0, p_s1, p_s2, p_s3, p_s4, p_s5, p_s6, a_n0, a_n1, a_n2, a_n3, a_n4, a_n5, a_n6, a_w0, a_w1, a_w2, a_w3, a_w4, a_w5, a_w6, a_v0, a_v1, a_v2, a_v3, a_v4, a_v5, a_v6, a_s0, a_s1, a_s2, a_s3, a_s4, a_s5, a_s6, p_f0, p_f1, p_f2, p_f3, p_f4, p_f5, p_f6, p_f7, p_f8, p_f9, a_f0, a_f1, a_f2, a_f3, a_f4, a_f5, a_f6, a_f7, a_f8, a_f9, p_p1, a_p1, cpAP, cpKP, cpPK, cpPA, Option.elim_some, true_and, and_true, Option.toList_some, Option.toList_none, List.cons_append, List.nil_append]
theorem sX5_trams {v : Int32} : sg θ (n + 3) 38 [.ref b, .int v] (cW w b P A K kp tp tl rs re sh fd) Q ↔ if 0 ≤ v ∧ v ≤ 1 then Q (some (.int (P 1))) (cW w b (upd P 1 v) A K kp tp tl rs re sh fd) else Q (some (.int (-1000000001))) (cW w b P A K kp tp tl rs re sh (fB fd 0)) := by
  rw [nX5_trams]
  by_cases h : 0 ≤ v ∧ v ≤ 1
  · simp only [eX5_trams_0, eX5_trams_1, eX5_trams_2, eX5_trams_3, eX5_trams_6, eX5_trams_9, eX5_trams_10, eX5_trams_12, eX5_trams_15, eX5_trams_16, eX5_trams_17, eX5_trams_20, eX5_trams_23, eX5_trams_24, eX5_trams_25, eX5_trams_28, eX5_trams_29, eX5_trams_32, eX5_trams_33, sX5_isWithin, h, decide_true, and_self, bI_t, i10, if_true, if_false, cw_is, cw_isP, cw_isA, cw_isK, cw_kp, cw_tis, cw_t0, cw_t1, cw_t2, cw_t3, cw_tp, cw_bn, cw_bw, cw_bv, cw_bs, cw_rp1, cw_rp2, cw_rn, cw_rg, cw_rl, cw_fn, cw_fw, cw_fv, cw_fs, cw_f0, cw_f1, cw_f2, cw_f3, cw_f4, cw_f5, cw_f6, p_n0, p_n1, p_n2, p_n3, p_n4, p_n5, p_n6, p_w0, p_w1, p_w2, p_w3, p_w4, p_w5, p_w6, p_v0, p_v1, p_v2, p_v3, p_v4, p_v5, p_v6, p_s0, p_s1, p_s2, p_s3, p_s4, p_s5, p_s6, a_n0, a_n1, a_n2, a_n3, a_n4, a_n5, a_n6, a_w0, a_w1, a_w2, a_w3, a_w4, a_w5, a_w6, a_v0, a_v1, a_v2, a_v3, a_v4, a_v5, a_v6, a_s0, a_s1, a_s2, a_s3, a_s4, a_s5, a_s6, p_f0, p_f1, p_f2, p_f3, p_f4, p_f5, p_f6, p_f7, p_f8, p_f9, a_f0, a_f1, a_f2, a_f3, a_f4, a_f5, a_f6, a_f7, a_f8, a_f9, p_p1, a_p1, cpAP, cpKP, cpPK, cpPA, Option.elim_some, true_and, and_true, Option.toList_some, Option.toList_none, List.cons_append, List.nil_append]
  · simp only [eX5_trams_0, eX5_trams_1, eX5_trams_2, eX5_trams_3, eX5_trams_6, eX5_trams_9, eX5_trams_10, eX5_trams_12, eX5_trams_15, eX5_trams_16, eX5_trams_17, eX5_trams_20, eX5_trams_23, eX5_trams_24, eX5_trams_25, eX5_trams_28, eX5_trams_29, eX5_trams_32, eX5_trams_33, sX5_isWithin, h, decide_false, bI_f, if_true, if_false, cw_is, cw_isP, cw_isA, cw_isK, cw_kp, cw_tis, cw_t0, cw_t1, cw_t2, cw_t3, cw_tp, cw_bn, cw_bw, cw_bv, cw_bs, cw_rp1, cw_rp2, cw_rn, cw_rg, cw_rl, cw_fn, cw_fw, cw_fv, cw_fs, cw_f0, cw_f1, cw_f2, cw_f3, cw_f4, cw_f5, cw_f6, p_n0, p_n1, p_n2, p_n3, p_n4, p_n5, p_n6, p_w0, p_w1, p_w2, p_w3, p_w4, p_w5, p_w6, p_v0, p_v1, p_v2, p_v3, p_v4, p_v5, p_v6, p_s0, p_s1, p_s2, p_s3, p_s4, p_s5, p_s6, a_n0, a_n1, a_n2, a_n3, a_n4, a_n5, a_n6, a_w0, a_w1, a_w2, a_w3, a_w4, a_w5, a_w6, a_v0, a_v1, a_v2, a_v3, a_v4, a_v5, a_v6, a_s0, a_s1, a_s2, a_s3, a_s4, a_s5, a_s6, p_f0, p_f1, p_f2, p_f3, p_f4, p_f5, p_f6, p_f7, p_f8, p_f9, a_f0, a_f1, a_f2, a_f3, a_f4, a_f5, a_f6, a_f7, a_f8, a_f9, p_p1, a_p1, cpAP, cpKP, cpPK, cpPA, Option.elim_some, true_and, and_true, Option.toList_some, Option.toList_none, List.cons_append, List.nil_append, fin0]
end T42
