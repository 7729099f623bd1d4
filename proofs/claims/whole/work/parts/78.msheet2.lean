/-! the reference: sheets, tape -/
def boF (sh : rSh) : Nat → Int32 := fun s => (sh s).1
def zoF (sh : rSh) : Nat → Int32 := fun s => (sh s).2.1
def slF (sh : rSh) : Nat → Int64 := fun p => (sh (p / 40)).2.2 (p % 40)
def tpF (tp : Nat → Int32) : Nat → Int32 := fun j => tp j &&& 255
theorem bo_up {sh : rSh} {s : Nat} {x y : Int32} {g : Nat → Int64} : upd (boF sh) s x = boF (updS sh s (x, y, g)) := by
  funext q
  by_cases h : q = s <;> simp [upd, boF, updS, h]
theorem zo_up {sh : rSh} {s : Nat} {x y : Int32} {g : Nat → Int64} : upd (zoF sh) s y = zoF (updS sh s (x, y, g)) := by
  funext q
  by_cases h : q = s <;> simp [upd, zoF, updS, h]
theorem bo_same {sh : rSh} {s : Nat} {y : Int32} {g : Nat → Int64} : boF (updS sh s ((sh s).1, y, g)) = boF sh := by
  funext q
  by_cases h : q = s <;> simp [boF, updS, h]
theorem zo_same {sh : rSh} {s : Nat} {x : Int32} {g : Nat → Int64} : zoF (updS sh s (x, (sh s).2.1, g)) = zoF sh := by
  funext q
  by_cases h : q = s <;> simp [zoF, updS, h]
theorem sl_at {sh : rSh} {s k : Nat} (hk : k < 40) : slF sh (40 * s + k) = (sh s).2.2 k := by
  unfold slF
  rw [show (40 * s + k) / 40 = s by omega, show (40 * s + k) % 40 = k by omega]
theorem sl_up {sh : rSh} {s k : Nat} {x y : Int32} {v : Int64} (hk : k < 40) : vp_updL (slF sh) (40 * s + k) v = slF (updS sh s (x, y, vp_updL (sh s).2.2 k v)) := by
  funext p
  unfold vp_updL slF updS
  by_cases h : p = 40 * s + k
  · rw [if_pos h, if_pos (by omega)]
    simp only
    rw [if_pos (by omega)]
  · rw [if_neg h]
    by_cases h2 : p / 40 = s
    · rw [if_pos h2]
      simp only
      rw [if_neg (by omega), h2]
    · rw [if_neg h2]
theorem ix40 (s k : Nat) : (40 : Int32) * nI s + nI k = nI (40 * s + k) := by
  rw [show (40 : Int32) = nI 40 from rfl, nI_mul, nI_add]
theorem vp160 {p : Nat} (h : p < 160) : vp_in (nI p) 160 := vp_in_nI h (by decide)
theorem vp4 {p : Nat} (h : p < 4) : vp_in (nI p) 4 := vp_in_nI h (by decide)
theorem sheet_iff {x : Int32} : (0 ≤ x ∧ x ≤ 3) = (0 ≤ x ∧ x < 4) := by
  refine propext ⟨fun h => ⟨h.1, ?_⟩, fun h => ⟨h.1, ?_⟩⟩
  · have := Int32.le_iff_toInt_le.mp h.2
    rw [Int32.lt_iff_toInt_lt]
    have e3 : (3 : Int32).toInt = 3 := by decide
    have e4 : (4 : Int32).toInt = 4 := by decide
    omega
  · have := Int32.lt_iff_toInt_lt.mp h.2
    rw [Int32.le_iff_toInt_le]
    have e3 : (3 : Int32).toInt = 3 := by decide
    have e4 : (4 : Int32).toInt = 4 := by decide
    omega
theorem nar_pl : ∀ p : Nat, p < 100 → ((nI p).toInt64.toInt32.toInt8.toInt32.toInt64 = (nI p).toInt64 ∧ (nI p).toInt64.toInt32.toInt16.toInt32.toInt64 = (nI p).toInt64) := by decide +kernel
theorem narL_pl {p : Nat} (hp : p < 100) (b : Int32) : narL b (nI p).toInt64 = (nI p).toInt64 := by
  obtain ⟨h1, h2⟩ := nar_pl p hp
  unfold narL
  split
  · exact h1
  · split
    · exact h2
    · rfl
theorem div10 : ∀ q : Nat, q < 60 → nI q / 10 = nI (q / 10) ∧ nI q - nI (q / 10) * 10 = nI (q % 10) := by decide +kernel
theorem byte255 (x : Int32) : vp_nar .byte x.toInt8.toInt32 &&& 255 = x &&& 255 := by
  rw [vp_nar_byte]
  have bp : ∀ x : Int32, x.toInt8.toInt32 &&& 255 = x &&& 255 := by
    intro x
    apply Int32.toBitVec_inj.mp
    rw [Int32.toBitVec_and, Int32.toBitVec_and, Int8.toBitVec_toInt32, Int32.toBitVec_toInt8]
    apply BitVec.eq_of_getLsbD_eq
    intro i hi
    rw [BitVec.getLsbD_and, BitVec.getLsbD_and]
    have hm : ∀ i < 32, 8 ≤ i → (255 : Int32).toBitVec.getLsbD i = false := by decide
    rcases Nat.lt_or_ge i 8 with z | z
    · rw [BitVec.getLsbD_signExtend, BitVec.getLsbD_signExtend, if_pos z, if_pos hi]
      simp only [z, hi, decide_true, Bool.true_and]
    · rw [hm i hi z]; simp
  rw [bp, bp]
theorem tp_up {tp : Nat → Int32} {j : Nat} {x : Int32} : upd (tpF tp) j (x &&& 255) = tpF (upd tp j (vp_nar .byte x.toInt8.toInt32)) := by
  funext q
  by_cases h : q = j <;> simp [upd, tpF, h, byte255]
section T78
variable {θ : (Nat → Value) × (Nat → Nat)} {n : Nat} {w : rW} {c : Nat} {R : rR} {fd : Nat → Int32} {T B F : rR} {tp bo zo : Nat → Int32} {sl ln : Nat → Int64} {I : rR} {tm so be te : Int32} {wd : Int64} {vl gd kp : Int32} {Q : rQ} {m : Nat} {sh : rSh}
theorem sX6_feed {t : Nat} (ht : t ≤ 120) {x y : Int32} : sg θ (n + 2) 135 [.ref c, .int x, .int y] (mW w c R fd T B F (tpF tp) bo zo sl ln I (nI t) so be te wd vl gd kp) Q ↔ if 1 ≤ y ∧ y ≤ 4 then (if t + y.toNatClampNeg ≤ 120 then Q (some (.int (nI (t + y.toNatClampNeg)))) (mW w c R fd T B F (tpF (feedT x y.toNatClampNeg t tp)) bo zo sl ln I (nI (t + y.toNatClampNeg)) so be te wd vl gd kp) else Q (some (.int (-1000000002))) (mW w c R (fB fd 1) T B F (tpF tp) bo zo sl ln I (nI t) so be te wd vl gd kp)) else Q (some (.int (-1000000001))) (mW w c R (fB fd 0) T B F (tpF tp) bo zo sl ln I (nI t) so be te wd vl gd kp) := by
  rw [nX6_feed]
  generalize ((mW w c R fd T B F (tpF tp) bo zo sl ln I (nI t) so be te wd vl gd kp).2.1 + 0, (mW w c R fd T B F (tpF tp) bo zo sl ln I (nI t) so be te wd vl gd kp).2.2 + 0) = lim
  by_cases h : 1 ≤ y ∧ y ≤ 4
  · obtain ⟨k, rfl, hk1, hk4⟩ := range_nI (l := 1) (h := 4) h.1 h.2 (by decide) (by decide)
    have ck : (nI k).toNatClampNeg = k := nI_clamp (by omega)
    have loop : ∀ d t tp, t + d ≤ 120 → d ≤ 4 → (Wp (xX6_feed θ (n + 1) lim) Q (38, [some (.ref c), some (.int x), some (.int (nI k)), some (.int (nI d - 1))], [], (mW w c R fd T B F (tpF tp) bo zo sl ln I (nI t) so be te wd vl gd kp)) ↔ Q (some (.int (nI (t + d)))) (mW w c R fd T B F (tpF (feedT x d t tp)) bo zo sl ln I (nI (t + d)) so be te wd vl gd kp)) := by
      intro d
      induction d with
      | zero =>
        intro t tp _ _
        rw [eX6_feed_38]
        simp only [eX6_feed_0, eX6_feed_1, eX6_feed_2, eX6_feed_3, eX6_feed_6, eX6_feed_9, eX6_feed_10, eX6_feed_12, eX6_feed_15, eX6_feed_16, eX6_feed_17, eX6_feed_20, eX6_feed_21, eX6_feed_22, eX6_feed_24, eX6_feed_27, eX6_feed_28, eX6_feed_30, eX6_feed_33, eX6_feed_34, eX6_feed_35, eX6_feed_36, eX6_feed_37, eX6_feed_39, eX6_feed_42, eX6_feed_43, eX6_feed_46, eX6_feed_47, eX6_feed_50, eX6_feed_51, eX6_feed_53, eX6_feed_54, eX6_feed_55, eX6_feed_56, eX6_feed_59, eX6_feed_60, eX6_feed_61, eX6_feed_62, eX6_feed_63, eX6_feed_66, eX6_feed_67, eX6_feed_68, eX6_feed_71, eX6_feed_74, eX6_feed_77, eX6_feed_78, eX6_feed_81, mw_is, mw_f0, mw_f1, mw_f2, mw_f3, mw_f4, mw_f5, mw_f6, mw_f7, mw_f8, mw_f9, mw_f10, mw_f11, mw_f12, mw_f13, mw_f14, mw_f15, mw_f16, mw_f17, mw_f18, mw_n1, mw_w1, mw_v1, mw_s1, mw_n2, mw_w2, mw_v2, mw_s2, mw_n3, mw_w3, mw_v3, mw_s3, mw_n4, mw_w4, mw_v4, mw_s4, mw_n5, mw_w5, mw_v5, mw_s5, mw_n6, mw_w6, mw_v6, mw_s6, mw_n7, mw_w7, mw_v7, mw_s7, mw_n10, mw_w10, mw_v10, mw_s10, mw_n11, mw_w11, mw_v11, mw_s11, mw_n8, mw_v8, mw_s8, mw_n9, mw_v9, mw_s9, mw_p5, mw_p6, mw_p7, mw_p8, mw_p9, mw_p10, mw_p11, mw_p18, Option.elim_some, true_and, and_true, Option.toList_some, Option.toList_none, List.cons_append, List.nil_append, show ((nI 0 - 1 : Int32) < 0) = True by decide, if_true, feedT, Nat.add_zero]
      | succ d ih =>
        intro t tp ht hd4
        rw [eX6_feed_38]
        have ih := fun tp => ih (t + 1) tp (by omega) (by omega)
        rw [show t + 1 + d = t + (d + 1) by omega] at ih
        simp only [eX6_feed_0, eX6_feed_1, eX6_feed_2, eX6_feed_3, eX6_feed_6, eX6_feed_9, eX6_feed_10, eX6_feed_12, eX6_feed_15, eX6_feed_16, eX6_feed_17, eX6_feed_20, eX6_feed_21, eX6_feed_22, eX6_feed_24, eX6_feed_27, eX6_feed_28, eX6_feed_30, eX6_feed_33, eX6_feed_34, eX6_feed_35, eX6_feed_36, eX6_feed_37, eX6_feed_39, eX6_feed_42, eX6_feed_43, eX6_feed_46, eX6_feed_47, eX6_feed_50, eX6_feed_51, eX6_feed_53, eX6_feed_54, eX6_feed_55, eX6_feed_56, eX6_feed_59, eX6_feed_60, eX6_feed_61, eX6_feed_62, eX6_feed_63, eX6_feed_66, eX6_feed_67, eX6_feed_68, eX6_feed_71, eX6_feed_74, eX6_feed_77, eX6_feed_78, eX6_feed_81, mw_is, mw_f0, mw_f1, mw_f2, mw_f3, mw_f4, mw_f5, mw_f6, mw_f7, mw_f8, mw_f9, mw_f10, mw_f11, mw_f12, mw_f13, mw_f14, mw_f15, mw_f16, mw_f17, mw_f18, mw_n1, mw_w1, mw_v1, mw_s1, mw_n2, mw_w2, mw_v2, mw_s2, mw_n3, mw_w3, mw_v3, mw_s3, mw_n4, mw_w4, mw_v4, mw_s4, mw_n5, mw_w5, mw_v5, mw_s5, mw_n6, mw_w6, mw_v6, mw_s6, mw_n7, mw_w7, mw_v7, mw_s7, mw_n10, mw_w10, mw_v10, mw_s10, mw_n11, mw_w11, mw_v11, mw_s11, mw_n8, mw_v8, mw_s8, mw_n9, mw_v9, mw_s9, mw_p5, mw_p6, mw_p7, mw_p8, mw_p9, mw_p10, mw_p11, mw_p18, Option.elim_some, true_and, and_true, Option.toList_some, Option.toList_none, List.cons_append, List.nil_append, nI_pred, nI_pos (show d < 2 ^ 31 by omega), if_false, vp120 (show t < 120 by omega), nI_clamp (show t < 2 ^ 31 by omega), tp_up, nI_1, feedT]
        rw [show nI d + -1 = nI d - 1 from (Int32.sub_eq_add_neg _ _).symm]
        exact ih _
    have hle : (nI (t + k) ≤ 120) = (t + k ≤ 120) := propext (nI_leI (b := 120) (by omega) (by decide))
    by_cases h2 : t + k ≤ 120
    · simp only [eX6_feed_0, eX6_feed_1, eX6_feed_2, eX6_feed_3, eX6_feed_6, eX6_feed_9, eX6_feed_10, eX6_feed_12, eX6_feed_15, eX6_feed_16, eX6_feed_17, eX6_feed_20, eX6_feed_21, eX6_feed_22, eX6_feed_24, eX6_feed_27, eX6_feed_28, eX6_feed_30, eX6_feed_33, eX6_feed_34, eX6_feed_35, eX6_feed_36, eX6_feed_37, eX6_feed_39, eX6_feed_42, eX6_feed_43, eX6_feed_46, eX6_feed_47, eX6_feed_50, eX6_feed_51, eX6_feed_53, eX6_feed_54, eX6_feed_55, eX6_feed_56, eX6_feed_59, eX6_feed_60, eX6_feed_61, eX6_feed_62, eX6_feed_63, eX6_feed_66, eX6_feed_67, eX6_feed_68, eX6_feed_71, eX6_feed_74, eX6_feed_77, eX6_feed_78, eX6_feed_81, mw_is, mw_f0, mw_f1, mw_f2, mw_f3, mw_f4, mw_f5, mw_f6, mw_f7, mw_f8, mw_f9, mw_f10, mw_f11, mw_f12, mw_f13, mw_f14, mw_f15, mw_f16, mw_f17, mw_f18, mw_n1, mw_w1, mw_v1, mw_s1, mw_n2, mw_w2, mw_v2, mw_s2, mw_n3, mw_w3, mw_v3, mw_s3, mw_n4, mw_w4, mw_v4, mw_s4, mw_n5, mw_w5, mw_v5, mw_s5, mw_n6, mw_w6, mw_v6, mw_s6, mw_n7, mw_w7, mw_v7, mw_s7, mw_n10, mw_w10, mw_v10, mw_s10, mw_n11, mw_w11, mw_v11, mw_s11, mw_n8, mw_v8, mw_s8, mw_n9, mw_v9, mw_s9, mw_p5, mw_p6, mw_p7, mw_p8, mw_p9, mw_p10, mw_p11, mw_p18, Option.elim_some, true_and, and_true, Option.toList_some, Option.toList_none, List.cons_append, List.nil_append, sX6_in, h, and_self, decide_true, bI_t, i10, if_false, if_true, nI_add, hle, ck, h2]
      exact loop k t tp h2 hk4
    · simp only [eX6_feed_0, eX6_feed_1, eX6_feed_2, eX6_feed_3, eX6_feed_6, eX6_feed_9, eX6_feed_10, eX6_feed_12, eX6_feed_15, eX6_feed_16, eX6_feed_17, eX6_feed_20, eX6_feed_21, eX6_feed_22, eX6_feed_24, eX6_feed_27, eX6_feed_28, eX6_feed_30, eX6_feed_33, eX6_feed_34, eX6_feed_35, eX6_feed_36, eX6_feed_37, eX6_feed_39, eX6_feed_42, eX6_feed_43, eX6_feed_46, eX6_feed_47, eX6_feed_50, eX6_feed_51, eX6_feed_53, eX6_feed_54, eX6_feed_55, eX6_feed_56, eX6_feed_59, eX6_feed_60, eX6_feed_61, eX6_feed_62, eX6_feed_63, eX6_feed_66, eX6_feed_67, eX6_feed_68, eX6_feed_71, eX6_feed_74, eX6_feed_77, eX6_feed_78, eX6_feed_81, mw_is, mw_f0, mw_f1, mw_f2, mw_f3, mw_f4, mw_f5, mw_f6, mw_f7, mw_f8, mw_f9, mw_f10, mw_f11, mw_f12, mw_f13, mw_f14, mw_f15, mw_f16, mw_f17, mw_f18, mw_n1, mw_w1, mw_v1, mw_s1, mw_n2, mw_w2, mw_v2, mw_s2, mw_n3, mw_w3, mw_v3, mw_s3, mw_n4, mw_w4, mw_v4, mw_s4, mw_n5, mw_w5, mw_v5, mw_s5, mw_n6, mw_w6, mw_v6, mw_s6, mw_n7, mw_w7, mw_v7, mw_s7, mw_n10, mw_w10, mw_v10, mw_s10, mw_n11, mw_w11, mw_v11, mw_s11, mw_n8, mw_v8, mw_s8, mw_n9, mw_v9, mw_s9, mw_p5, mw_p6, mw_p7, mw_p8, mw_p9, mw_p10, mw_p11, mw_p18, Option.elim_some, true_and, and_true, Option.toList_some, Option.toList_none, List.cons_append, List.nil_append, sX6_in, h, and_self, decide_true, bI_t, i10, if_false, if_true, nI_add, hle, ck, h2, mfin1]
  · simp only [eX6_feed_0, eX6_feed_1, eX6_feed_2, eX6_feed_3, eX6_feed_6, eX6_feed_9, eX6_feed_10, eX6_feed_12, eX6_feed_15, eX6_feed_16, eX6_feed_17, eX6_feed_20, eX6_feed_21, eX6_feed_22, eX6_feed_24, eX6_feed_27, eX6_feed_28, eX6_feed_30, eX6_feed_33, eX6_feed_34, eX6_feed_35, eX6_feed_36, eX6_feed_37, eX6_feed_39, eX6_feed_42, eX6_feed_43, eX6_feed_46, eX6_feed_47, eX6_feed_50, eX6_feed_51, eX6_feed_53, eX6_feed_54, eX6_feed_55, eX6_feed_56, eX6_feed_59, eX6_feed_60, eX6_feed_61, eX6_feed_62, eX6_feed_63, eX6_feed_66, eX6_feed_67, eX6_feed_68, eX6_feed_71, eX6_feed_74, eX6_feed_77, eX6_feed_78, eX6_feed_81, mw_is, mw_f0, mw_f1, mw_f2, mw_f3, mw_f4, mw_f5, mw_f6, mw_f7, mw_f8, mw_f9, mw_f10, mw_f11, mw_f12, mw_f13, mw_f14, mw_f15, mw_f16, mw_f17, mw_f18, mw_n1, mw_w1, mw_v1, mw_s1, mw_n2, mw_w2, mw_v2, mw_s2, mw_n3, mw_w3, mw_v3, mw_s3, mw_n4, mw_w4, mw_v4, mw_s4, mw_n5, mw_w5, mw_v5, mw_s5, mw_n6, mw_w6, mw_v6, mw_s6, mw_n7, mw_w7, mw_v7, mw_s7, mw_n10, mw_w10, mw_v10, mw_s10, mw_n11, mw_w11, mw_v11, mw_s11, mw_n8, mw_v8, mw_s8, mw_n9, mw_v9, mw_s9, mw_p5, mw_p6, mw_p7, mw_p8, mw_p9, mw_p10, mw_p11, mw_p18, Option.elim_some, true_and, and_true, Option.toList_some, Option.toList_none, List.cons_append, List.nil_append, sX6_in, h, decide_false, bI_f, if_false, if_true, mfin0]
theorem sX6_isSheet {x : Int32} {w : rW} : sg θ (n + 2) 150 [.int x] w Q ↔ Q (some (.int (bI (decide (0 ≤ x ∧ x < 4))))) w := by
  rw [nX6_isSheet]
  simp only [eX6_isSheet_0, eX6_isSheet_1, eX6_isSheet_2, eX6_isSheet_3, eX6_isSheet_6, sX6_in, nb_b, sheet_iff, Option.toList_some, List.cons_append, List.nil_append, true_and]
theorem sX6_narrow {x : Int32} {v : Int64} {w : rW} : sg θ (n + 1) 152 [.int x, .long v] w Q ↔ Q (some (.long (narL x v))) w := by
  rw [nX6_narrow]
  by_cases h8 : x = 8
  · simp only [eX6_narrow_0, eX6_narrow_1, eX6_narrow_3, eX6_narrow_6, eX6_narrow_7, eX6_narrow_9, eX6_narrow_10, eX6_narrow_12, eX6_narrow_13, eX6_narrow_16, eX6_narrow_17, eX6_narrow_19, eX6_narrow_22, eX6_narrow_23, eX6_narrow_25, eX6_narrow_26, eX6_narrow_28, eX6_narrow_29, eX6_narrow_32, eX6_narrow_33, h8, if_true, narL, nar8]
  · by_cases h16 : x = 16
    · simp only [eX6_narrow_0, eX6_narrow_1, eX6_narrow_3, eX6_narrow_6, eX6_narrow_7, eX6_narrow_9, eX6_narrow_10, eX6_narrow_12, eX6_narrow_13, eX6_narrow_16, eX6_narrow_17, eX6_narrow_19, eX6_narrow_22, eX6_narrow_23, eX6_narrow_25, eX6_narrow_26, eX6_narrow_28, eX6_narrow_29, eX6_narrow_32, eX6_narrow_33, h16, if_true, narL, nar16, show ((16 : Int32) = 8) = False by decide, if_false]
    · simp only [eX6_narrow_0, eX6_narrow_1, eX6_narrow_3, eX6_narrow_6, eX6_narrow_7, eX6_narrow_9, eX6_narrow_10, eX6_narrow_12, eX6_narrow_13, eX6_narrow_16, eX6_narrow_17, eX6_narrow_19, eX6_narrow_22, eX6_narrow_23, eX6_narrow_25, eX6_narrow_26, eX6_narrow_28, eX6_narrow_29, eX6_narrow_32, eX6_narrow_33, h8, h16, if_false, narL]
theorem sX6_sheet {x y z : Int32} : sg θ (n + 3) 149 [.ref c, .int x, .int y, .int z] (mW w c R fd T B F tp (boF sh) (zoF sh) (slF sh) ln I tm so be te wd vl gd kp) Q ↔ if (0 ≤ x ∧ x < 4) ∧ (y = 0 ∨ y = 8 ∨ y = 16 ∨ y = 64) then (if z < 0 then Q (some (.int (-1000000007))) (mW w c R (fB fd 6) T B F tp (boF sh) (zoF sh) (slF sh) ln I tm so be te wd vl gd kp) else if z ≤ 40 then Q (some (.int (if y = 0 then 0 else z))) (mW w c R fd T B F tp (boF (updS sh x.toNatClampNeg (y, if y = 0 then 0 else z, fillUp (sh x.toNatClampNeg).2.2 0 40))) (zoF (updS sh x.toNatClampNeg (y, if y = 0 then 0 else z, fillUp (sh x.toNatClampNeg).2.2 0 40))) (slF (updS sh x.toNatClampNeg (y, if y = 0 then 0 else z, fillUp (sh x.toNatClampNeg).2.2 0 40))) ln I tm so be te wd vl gd kp) else Q (some (.int (-1000000001))) (mW w c R (fB fd 0) T B F tp (boF sh) (zoF sh) (slF sh) ln I tm so be te wd vl gd kp)) else Q (some (.int (-1000000001))) (mW w c R (fB fd 0) T B F tp (boF sh) (zoF sh) (slF sh) ln I tm so be te wd vl gd kp) := by
  rw [nX6_sheet]
  generalize ((mW w c R fd T B F tp (boF sh) (zoF sh) (slF sh) ln I tm so be te wd vl gd kp).2.1 + 0, (mW w c R fd T B F tp (boF sh) (zoF sh) (slF sh) ln I tm so be te wd vl gd kp).2.2 + 0) = lim
  by_cases h : 0 ≤ x ∧ x < 4
  · obtain ⟨s, rfl, hs⟩ := sheet_nI h
    have cs : (nI s).toNatClampNeg = s := nI_clamp (by omega)
    rw [cs]
    have hz : (0 ≤ z) = ¬ z < 0 := by rw [Int32.not_lt]
    by_cases hy : y = 0 ∨ y = 8 ∨ y = 16 ∨ y = 64
    · have fin : ∀ (u : Int32), (Wp (xX6_sheet θ (n + 2) lim) Q (85, [some (.ref c), some (.int (nI s)), some (.int y), some (.int z), some (.int 0)], [], (mW w c R fd T B F tp (boF (updS sh s (y, u, fillUp (sh s).2.2 0 40))) (zoF (updS sh s (y, u, fillUp (sh s).2.2 0 40))) (slF sh) ln I tm so be te wd vl gd kp)) ↔ Q (some (.int u)) (mW w c R fd T B F tp (boF (updS sh s (y, u, fillUp (sh s).2.2 0 40))) (zoF (updS sh s (y, u, fillUp (sh s).2.2 0 40))) (slF (updS sh s (y, u, fillUp (sh s).2.2 0 40))) ln I tm so be te wd vl gd kp)) := by
        intro u
        generalize hB : boF (updS sh s (y, u, fillUp (sh s).2.2 0 40)) = B1
        generalize hZ : zoF (updS sh s (y, u, fillUp (sh s).2.2 0 40)) = Z1
        have hzs : Z1 s = u := by rw [← hZ]; simp [zoF, updS]
        have loop : ∀ d k, k + d = 40 → (Wp (xX6_sheet θ (n + 2) lim) Q (85, [some (.ref c), some (.int (nI s)), some (.int y), some (.int z), some (.int (nI k))], [], (mW w c R fd T B F tp (B1) (Z1) (slF (updS sh s (y, u, fillUp (sh s).2.2 0 k))) ln I tm so be te wd vl gd kp)) ↔ Q (some (.int u)) (mW w c R fd T B F tp (B1) (Z1) (slF (updS sh s (y, u, fillUp (sh s).2.2 0 40))) ln I tm so be te wd vl gd kp)) := by
          intro d
          induction d with
          | zero =>
            intro k hk
            have hk : k = 40 := by omega
            subst hk
            rw [eX6_sheet_85]
            simp only [eX6_sheet_0, eX6_sheet_1, eX6_sheet_4, eX6_sheet_7, eX6_sheet_8, eX6_sheet_11, eX6_sheet_12, eX6_sheet_14, eX6_sheet_17, eX6_sheet_18, eX6_sheet_20, eX6_sheet_23, eX6_sheet_24, eX6_sheet_26, eX6_sheet_29, eX6_sheet_30, eX6_sheet_32, eX6_sheet_35, eX6_sheet_36, eX6_sheet_37, eX6_sheet_40, eX6_sheet_41, eX6_sheet_43, eX6_sheet_46, eX6_sheet_47, eX6_sheet_48, eX6_sheet_50, eX6_sheet_53, eX6_sheet_54, eX6_sheet_56, eX6_sheet_59, eX6_sheet_60, eX6_sheet_61, eX6_sheet_64, eX6_sheet_65, eX6_sheet_66, eX6_sheet_67, eX6_sheet_68, eX6_sheet_71, eX6_sheet_72, eX6_sheet_73, eX6_sheet_76, eX6_sheet_77, eX6_sheet_80, eX6_sheet_81, eX6_sheet_82, eX6_sheet_83, eX6_sheet_87, eX6_sheet_89, eX6_sheet_92, eX6_sheet_93, eX6_sheet_96, eX6_sheet_98, eX6_sheet_99, eX6_sheet_100, eX6_sheet_102, eX6_sheet_103, eX6_sheet_104, eX6_sheet_105, eX6_sheet_108, eX6_sheet_111, eX6_sheet_112, eX6_sheet_115, eX6_sheet_116, eX6_sheet_117, mw_is, mw_f0, mw_f1, mw_f2, mw_f3, mw_f4, mw_f5, mw_f6, mw_f7, mw_f8, mw_f9, mw_f10, mw_f11, mw_f12, mw_f13, mw_f14, mw_f15, mw_f16, mw_f17, mw_f18, mw_n1, mw_w1, mw_v1, mw_s1, mw_n2, mw_w2, mw_v2, mw_s2, mw_n3, mw_w3, mw_v3, mw_s3, mw_n4, mw_w4, mw_v4, mw_s4, mw_n5, mw_w5, mw_v5, mw_s5, mw_n6, mw_w6, mw_v6, mw_s6, mw_n7, mw_w7, mw_v7, mw_s7, mw_n10, mw_w10, mw_v10, mw_s10, mw_n11, mw_w11, mw_v11, mw_s11, mw_n8, mw_v8, mw_s8, mw_n9, mw_v9, mw_s9, mw_p5, mw_p6, mw_p7, mw_p8, mw_p9, mw_p10, mw_p11, mw_p18, Option.elim_some, true_and, and_true, Option.toList_some, Option.toList_none, List.cons_append, List.nil_append, show ((40 : Int32) ≤ nI 40) = True by decide, if_true, vp4 hs, cs, hzs]
          | succ d ih =>
            intro k hk
            have hk40 : k < 40 := by omega
            have ih := ih (k + 1) (by omega)
            rw [nI_succ k] at ih
            have hn : ¬ (40 : Int32) ≤ nI k := nI_ge (b := 40) hk40 (by decide)
            rw [eX6_sheet_85]
            have hup := fun v => sl_up (sh := updS sh s (y, u, fillUp (sh s).2.2 0 k)) (s := s) (x := y) (y := u) (v := v) hk40
            simp only [updS_at, updS_up] at hup
            simp only [eX6_sheet_0, eX6_sheet_1, eX6_sheet_4, eX6_sheet_7, eX6_sheet_8, eX6_sheet_11, eX6_sheet_12, eX6_sheet_14, eX6_sheet_17, eX6_sheet_18, eX6_sheet_20, eX6_sheet_23, eX6_sheet_24, eX6_sheet_26, eX6_sheet_29, eX6_sheet_30, eX6_sheet_32, eX6_sheet_35, eX6_sheet_36, eX6_sheet_37, eX6_sheet_40, eX6_sheet_41, eX6_sheet_43, eX6_sheet_46, eX6_sheet_47, eX6_sheet_48, eX6_sheet_50, eX6_sheet_53, eX6_sheet_54, eX6_sheet_56, eX6_sheet_59, eX6_sheet_60, eX6_sheet_61, eX6_sheet_64, eX6_sheet_65, eX6_sheet_66, eX6_sheet_67, eX6_sheet_68, eX6_sheet_71, eX6_sheet_72, eX6_sheet_73, eX6_sheet_76, eX6_sheet_77, eX6_sheet_80, eX6_sheet_81, eX6_sheet_82, eX6_sheet_83, eX6_sheet_87, eX6_sheet_89, eX6_sheet_92, eX6_sheet_93, eX6_sheet_96, eX6_sheet_98, eX6_sheet_99, eX6_sheet_100, eX6_sheet_102, eX6_sheet_103, eX6_sheet_104, eX6_sheet_105, eX6_sheet_108, eX6_sheet_111, eX6_sheet_112, eX6_sheet_115, eX6_sheet_116, eX6_sheet_117, mw_is, mw_f0, mw_f1, mw_f2, mw_f3, mw_f4, mw_f5, mw_f6, mw_f7, mw_f8, mw_f9, mw_f10, mw_f11, mw_f12, mw_f13, mw_f14, mw_f15, mw_f16, mw_f17, mw_f18, mw_n1, mw_w1, mw_v1, mw_s1, mw_n2, mw_w2, mw_v2, mw_s2, mw_n3, mw_w3, mw_v3, mw_s3, mw_n4, mw_w4, mw_v4, mw_s4, mw_n5, mw_w5, mw_v5, mw_s5, mw_n6, mw_w6, mw_v6, mw_s6, mw_n7, mw_w7, mw_v7, mw_s7, mw_n10, mw_w10, mw_v10, mw_s10, mw_n11, mw_w11, mw_v11, mw_s11, mw_n8, mw_v8, mw_s8, mw_n9, mw_v9, mw_s9, mw_p5, mw_p6, mw_p7, mw_p8, mw_p9, mw_p10, mw_p11, mw_p18, Option.elim_some, true_and, and_true, Option.toList_some, Option.toList_none, List.cons_append, List.nil_append, hn, if_false, ix40, vp160 (show 40 * s + k < 160 by omega), nI_clamp (show 40 * s + k < 2 ^ 31 by omega), hup, fill_succ]
            exact ih
        have := loop 40 0 (by omega)
        rw [show slF (updS sh s (y, u, fillUp (sh s).2.2 0 0)) = slF sh by
          funext p
          unfold slF updS fillUp
          by_cases hp : p / 40 = s
          · rw [if_pos hp, hp]; simp
          · rw [if_neg hp]] at this
        exact this
      have hbo := fun u => bo_up (sh := sh) (s := s) (x := y) (y := u) (g := fillUp (sh s).2.2 0 40)
      have hzo := fun u => zo_up (sh := sh) (s := s) (x := y) (y := u) (g := fillUp (sh s).2.2 0 40)
      have hb3 : ∀ {α : Prop} (a b : α), True := fun _ _ => trivial
      by_cases z0 : z < 0
      · rcases hy with rfl | rfl | rfl | rfl <;> simp (decide := true) only [eX6_sheet_0, eX6_sheet_1, eX6_sheet_4, eX6_sheet_7, eX6_sheet_8, eX6_sheet_11, eX6_sheet_12, eX6_sheet_14, eX6_sheet_17, eX6_sheet_18, eX6_sheet_20, eX6_sheet_23, eX6_sheet_24, eX6_sheet_26, eX6_sheet_29, eX6_sheet_30, eX6_sheet_32, eX6_sheet_35, eX6_sheet_36, eX6_sheet_37, eX6_sheet_40, eX6_sheet_41, eX6_sheet_43, eX6_sheet_46, eX6_sheet_47, eX6_sheet_48, eX6_sheet_50, eX6_sheet_53, eX6_sheet_54, eX6_sheet_56, eX6_sheet_59, eX6_sheet_60, eX6_sheet_61, eX6_sheet_64, eX6_sheet_65, eX6_sheet_66, eX6_sheet_67, eX6_sheet_68, eX6_sheet_71, eX6_sheet_72, eX6_sheet_73, eX6_sheet_76, eX6_sheet_77, eX6_sheet_80, eX6_sheet_81, eX6_sheet_82, eX6_sheet_83, eX6_sheet_87, eX6_sheet_89, eX6_sheet_92, eX6_sheet_93, eX6_sheet_96, eX6_sheet_98, eX6_sheet_99, eX6_sheet_100, eX6_sheet_102, eX6_sheet_103, eX6_sheet_104, eX6_sheet_105, eX6_sheet_108, eX6_sheet_111, eX6_sheet_112, eX6_sheet_115, eX6_sheet_116, eX6_sheet_117, mw_is, mw_f0, mw_f1, mw_f2, mw_f3, mw_f4, mw_f5, mw_f6, mw_f7, mw_f8, mw_f9, mw_f10, mw_f11, mw_f12, mw_f13, mw_f14, mw_f15, mw_f16, mw_f17, mw_f18, mw_n1, mw_w1, mw_v1, mw_s1, mw_n2, mw_w2, mw_v2, mw_s2, mw_n3, mw_w3, mw_v3, mw_s3, mw_n4, mw_w4, mw_v4, mw_s4, mw_n5, mw_w5, mw_v5, mw_s5, mw_n6, mw_w6, mw_v6, mw_s6, mw_n7, mw_w7, mw_v7, mw_s7, mw_n10, mw_w10, mw_v10, mw_s10, mw_n11, mw_w11, mw_v11, mw_s11, mw_n8, mw_v8, mw_s8, mw_n9, mw_v9, mw_s9, mw_p5, mw_p6, mw_p7, mw_p8, mw_p9, mw_p10, mw_p11, mw_p18, Option.elim_some, true_and, and_true, Option.toList_some, Option.toList_none, List.cons_append, List.nil_append, sX6_isSheet, h, and_self, decide_true, bI_t, i10, if_false, if_true, hz, z0, mfin6, not_true]
      · by_cases z4 : z ≤ 40
        · by_cases y0 : y = 0
          · subst y0
            have f0 := fin 0
            rw [← hbo 0, ← hzo 0] at f0
            simp (decide := true) only [eX6_sheet_0, eX6_sheet_1, eX6_sheet_4, eX6_sheet_7, eX6_sheet_8, eX6_sheet_11, eX6_sheet_12, eX6_sheet_14, eX6_sheet_17, eX6_sheet_18, eX6_sheet_20, eX6_sheet_23, eX6_sheet_24, eX6_sheet_26, eX6_sheet_29, eX6_sheet_30, eX6_sheet_32, eX6_sheet_35, eX6_sheet_36, eX6_sheet_37, eX6_sheet_40, eX6_sheet_41, eX6_sheet_43, eX6_sheet_46, eX6_sheet_47, eX6_sheet_48, eX6_sheet_50, eX6_sheet_53, eX6_sheet_54, eX6_sheet_56, eX6_sheet_59, eX6_sheet_60, eX6_sheet_61, eX6_sheet_64, eX6_sheet_65, eX6_sheet_66, eX6_sheet_67, eX6_sheet_68, eX6_sheet_71, eX6_sheet_72, eX6_sheet_73, eX6_sheet_76, eX6_sheet_77, eX6_sheet_80, eX6_sheet_81, eX6_sheet_82, eX6_sheet_83, eX6_sheet_87, eX6_sheet_89, eX6_sheet_92, eX6_sheet_93, eX6_sheet_96, eX6_sheet_98, eX6_sheet_99, eX6_sheet_100, eX6_sheet_102, eX6_sheet_103, eX6_sheet_104, eX6_sheet_105, eX6_sheet_108, eX6_sheet_111, eX6_sheet_112, eX6_sheet_115, eX6_sheet_116, eX6_sheet_117, mw_is, mw_f0, mw_f1, mw_f2, mw_f3, mw_f4, mw_f5, mw_f6, mw_f7, mw_f8, mw_f9, mw_f10, mw_f11, mw_f12, mw_f13, mw_f14, mw_f15, mw_f16, mw_f17, mw_f18, mw_n1, mw_w1, mw_v1, mw_s1, mw_n2, mw_w2, mw_v2, mw_s2, mw_n3, mw_w3, mw_v3, mw_s3, mw_n4, mw_w4, mw_v4, mw_s4, mw_n5, mw_w5, mw_v5, mw_s5, mw_n6, mw_w6, mw_v6, mw_s6, mw_n7, mw_w7, mw_v7, mw_s7, mw_n10, mw_w10, mw_v10, mw_s10, mw_n11, mw_w11, mw_v11, mw_s11, mw_n8, mw_v8, mw_s8, mw_n9, mw_v9, mw_s9, mw_p5, mw_p6, mw_p7, mw_p8, mw_p9, mw_p10, mw_p11, mw_p18, Option.elim_some, true_and, and_true, Option.toList_some, Option.toList_none, List.cons_append, List.nil_append, sX6_isSheet, h, and_self, decide_true, bI_t, i10, if_false, if_true, hz, z0, z4, not_false_iff, vp4 hs, cs, ← hbo 0, ← hzo 0]
            exact f0
          · have f0 := fin z
            rw [← hbo z, ← hzo z] at f0
            have hy2 : y = 8 ∨ y = 16 ∨ y = 64 := hy.resolve_left y0
            rcases hy2 with rfl | rfl | rfl <;> simp (decide := true) only [eX6_sheet_0, eX6_sheet_1, eX6_sheet_4, eX6_sheet_7, eX6_sheet_8, eX6_sheet_11, eX6_sheet_12, eX6_sheet_14, eX6_sheet_17, eX6_sheet_18, eX6_sheet_20, eX6_sheet_23, eX6_sheet_24, eX6_sheet_26, eX6_sheet_29, eX6_sheet_30, eX6_sheet_32, eX6_sheet_35, eX6_sheet_36, eX6_sheet_37, eX6_sheet_40, eX6_sheet_41, eX6_sheet_43, eX6_sheet_46, eX6_sheet_47, eX6_sheet_48, eX6_sheet_50, eX6_sheet_53, eX6_sheet_54, eX6_sheet_56, eX6_sheet_59, eX6_sheet_60, eX6_sheet_61, eX6_sheet_64, eX6_sheet_65, eX6_sheet_66, eX6_sheet_67, eX6_sheet_68, eX6_sheet_71, eX6_sheet_72, eX6_sheet_73, eX6_sheet_76, eX6_sheet_77, eX6_sheet_80, eX6_sheet_81, eX6_sheet_82, eX6_sheet_83, eX6_sheet_87, eX6_sheet_89, eX6_sheet_92, eX6_sheet_93, eX6_sheet_96, eX6_sheet_98, eX6_sheet_99, eX6_sheet_100, eX6_sheet_102, eX6_sheet_103, eX6_sheet_104, eX6_sheet_105, eX6_sheet_108, eX6_sheet_111, eX6_sheet_112, eX6_sheet_115, eX6_sheet_116, eX6_sheet_117, mw_is, mw_f0, mw_f1, mw_f2, mw_f3, mw_f4, mw_f5, mw_f6, mw_f7, mw_f8, mw_f9, mw_f10, mw_f11, mw_f12, mw_f13, mw_f14, mw_f15, mw_f16, mw_f17, mw_f18, mw_n1, mw_w1, mw_v1, mw_s1, mw_n2, mw_w2, mw_v2, mw_s2, mw_n3, mw_w3, mw_v3, mw_s3, mw_n4, mw_w4, mw_v4, mw_s4, mw_n5, mw_w5, mw_v5, mw_s5, mw_n6, mw_w6, mw_v6, mw_s6, mw_n7, mw_w7, mw_v7, mw_s7, mw_n10, mw_w10, mw_v10, mw_s10, mw_n11, mw_w11, mw_v11, mw_s11, mw_n8, mw_v8, mw_s8, mw_n9, mw_v9, mw_s9, mw_p5, mw_p6, mw_p7, mw_p8, mw_p9, mw_p10, mw_p11, mw_p18, Option.elim_some, true_and, and_true, Option.toList_some, Option.toList_none, List.cons_append, List.nil_append, sX6_isSheet, h, and_self, decide_true, bI_t, i10, if_false, if_true, hz, z0, z4, not_false_iff, vp4 hs, cs, ← hbo z, ← hzo z] <;> exact f0
        · rcases hy with rfl | rfl | rfl | rfl <;> simp (decide := true) only [eX6_sheet_0, eX6_sheet_1, eX6_sheet_4, eX6_sheet_7, eX6_sheet_8, eX6_sheet_11, eX6_sheet_12, eX6_sheet_14, eX6_sheet_17, eX6_sheet_18, eX6_sheet_20, eX6_sheet_23, eX6_sheet_24, eX6_sheet_26, eX6_sheet_29, eX6_sheet_30, eX6_sheet_32, eX6_sheet_35, eX6_sheet_36, eX6_sheet_37, eX6_sheet_40, eX6_sheet_41, eX6_sheet_43, eX6_sheet_46, eX6_sheet_47, eX6_sheet_48, eX6_sheet_50, eX6_sheet_53, eX6_sheet_54, eX6_sheet_56, eX6_sheet_59, eX6_sheet_60, eX6_sheet_61, eX6_sheet_64, eX6_sheet_65, eX6_sheet_66, eX6_sheet_67, eX6_sheet_68, eX6_sheet_71, eX6_sheet_72, eX6_sheet_73, eX6_sheet_76, eX6_sheet_77, eX6_sheet_80, eX6_sheet_81, eX6_sheet_82, eX6_sheet_83, eX6_sheet_87, eX6_sheet_89, eX6_sheet_92, eX6_sheet_93, eX6_sheet_96, eX6_sheet_98, eX6_sheet_99, eX6_sheet_100, eX6_sheet_102, eX6_sheet_103, eX6_sheet_104, eX6_sheet_105, eX6_sheet_108, eX6_sheet_111, eX6_sheet_112, eX6_sheet_115, eX6_sheet_116, eX6_sheet_117, mw_is, mw_f0, mw_f1, mw_f2, mw_f3, mw_f4, mw_f5, mw_f6, mw_f7, mw_f8, mw_f9, mw_f10, mw_f11, mw_f12, mw_f13, mw_f14, mw_f15, mw_f16, mw_f17, mw_f18, mw_n1, mw_w1, mw_v1, mw_s1, mw_n2, mw_w2, mw_v2, mw_s2, mw_n3, mw_w3, mw_v3, mw_s3, mw_n4, mw_w4, mw_v4, mw_s4, mw_n5, mw_w5, mw_v5, mw_s5, mw_n6, mw_w6, mw_v6, mw_s6, mw_n7, mw_w7, mw_v7, mw_s7, mw_n10, mw_w10, mw_v10, mw_s10, mw_n11, mw_w11, mw_v11, mw_s11, mw_n8, mw_v8, mw_s8, mw_n9, mw_v9, mw_s9, mw_p5, mw_p6, mw_p7, mw_p8, mw_p9, mw_p10, mw_p11, mw_p18, Option.elim_some, true_and, and_true, Option.toList_some, Option.toList_none, List.cons_append, List.nil_append, sX6_isSheet, h, and_self, decide_true, bI_t, i10, if_false, if_true, hz, z0, z4, mfin0, not_false_iff]
    · have y0 : ¬ y = 0 := fun q => hy (Or.inl q)
      have y1 : ¬ y = 8 := fun q => hy (Or.inr (Or.inl q))
      have y2 : ¬ y = 16 := fun q => hy (Or.inr (Or.inr (Or.inl q)))
      have y3 : ¬ y = 64 := fun q => hy (Or.inr (Or.inr (Or.inr q)))
      simp only [eX6_sheet_0, eX6_sheet_1, eX6_sheet_4, eX6_sheet_7, eX6_sheet_8, eX6_sheet_11, eX6_sheet_12, eX6_sheet_14, eX6_sheet_17, eX6_sheet_18, eX6_sheet_20, eX6_sheet_23, eX6_sheet_24, eX6_sheet_26, eX6_sheet_29, eX6_sheet_30, eX6_sheet_32, eX6_sheet_35, eX6_sheet_36, eX6_sheet_37, eX6_sheet_40, eX6_sheet_41, eX6_sheet_43, eX6_sheet_46, eX6_sheet_47, eX6_sheet_48, eX6_sheet_50, eX6_sheet_53, eX6_sheet_54, eX6_sheet_56, eX6_sheet_59, eX6_sheet_60, eX6_sheet_61, eX6_sheet_64, eX6_sheet_65, eX6_sheet_66, eX6_sheet_67, eX6_sheet_68, eX6_sheet_71, eX6_sheet_72, eX6_sheet_73, eX6_sheet_76, eX6_sheet_77, eX6_sheet_80, eX6_sheet_81, eX6_sheet_82, eX6_sheet_83, eX6_sheet_87, eX6_sheet_89, eX6_sheet_92, eX6_sheet_93, eX6_sheet_96, eX6_sheet_98, eX6_sheet_99, eX6_sheet_100, eX6_sheet_102, eX6_sheet_103, eX6_sheet_104, eX6_sheet_105, eX6_sheet_108, eX6_sheet_111, eX6_sheet_112, eX6_sheet_115, eX6_sheet_116, eX6_sheet_117, mw_is, mw_f0, mw_f1, mw_f2, mw_f3, mw_f4, mw_f5, mw_f6, mw_f7, mw_f8, mw_f9, mw_f10, mw_f11, mw_f12, mw_f13, mw_f14, mw_f15, mw_f16, mw_f17, mw_f18, mw_n1, mw_w1, mw_v1, mw_s1, mw_n2, mw_w2, mw_v2, mw_s2, mw_n3, mw_w3, mw_v3, mw_s3, mw_n4, mw_w4, mw_v4, mw_s4, mw_n5, mw_w5, mw_v5, mw_s5, mw_n6, mw_w6, mw_v6, mw_s6, mw_n7, mw_w7, mw_v7, mw_s7, mw_n10, mw_w10, mw_v10, mw_s10, mw_n11, mw_w11, mw_v11, mw_s11, mw_n8, mw_v8, mw_s8, mw_n9, mw_v9, mw_s9, mw_p5, mw_p6, mw_p7, mw_p8, mw_p9, mw_p10, mw_p11, mw_p18, Option.elim_some, true_and, and_true, Option.toList_some, Option.toList_none, List.cons_append, List.nil_append, sX6_isSheet, h, and_self, decide_true, bI_t, i10, if_false, and_false, y0, y1, y2, y3, or_self, mfin0]
  · simp only [eX6_sheet_0, eX6_sheet_1, eX6_sheet_4, eX6_sheet_7, eX6_sheet_8, eX6_sheet_11, eX6_sheet_12, eX6_sheet_14, eX6_sheet_17, eX6_sheet_18, eX6_sheet_20, eX6_sheet_23, eX6_sheet_24, eX6_sheet_26, eX6_sheet_29, eX6_sheet_30, eX6_sheet_32, eX6_sheet_35, eX6_sheet_36, eX6_sheet_37, eX6_sheet_40, eX6_sheet_41, eX6_sheet_43, eX6_sheet_46, eX6_sheet_47, eX6_sheet_48, eX6_sheet_50, eX6_sheet_53, eX6_sheet_54, eX6_sheet_56, eX6_sheet_59, eX6_sheet_60, eX6_sheet_61, eX6_sheet_64, eX6_sheet_65, eX6_sheet_66, eX6_sheet_67, eX6_sheet_68, eX6_sheet_71, eX6_sheet_72, eX6_sheet_73, eX6_sheet_76, eX6_sheet_77, eX6_sheet_80, eX6_sheet_81, eX6_sheet_82, eX6_sheet_83, eX6_sheet_87, eX6_sheet_89, eX6_sheet_92, eX6_sheet_93, eX6_sheet_96, eX6_sheet_98, eX6_sheet_99, eX6_sheet_100, eX6_sheet_102, eX6_sheet_103, eX6_sheet_104, eX6_sheet_105, eX6_sheet_108, eX6_sheet_111, eX6_sheet_112, eX6_sheet_115, eX6_sheet_116, eX6_sheet_117, mw_is, mw_f0, mw_f1, mw_f2, mw_f3, mw_f4, mw_f5, mw_f6, mw_f7, mw_f8, mw_f9, mw_f10, mw_f11, mw_f12, mw_f13, mw_f14, mw_f15, mw_f16, mw_f17, mw_f18, mw_n1, mw_w1, mw_v1, mw_s1, mw_n2, mw_w2, mw_v2, mw_s2, mw_n3, mw_w3, mw_v3, mw_s3, mw_n4, mw_w4, mw_v4, mw_s4, mw_n5, mw_w5, mw_v5, mw_s5, mw_n6, mw_w6, mw_v6, mw_s6, mw_n7, mw_w7, mw_v7, mw_s7, mw_n10, mw_w10, mw_v10, mw_s10, mw_n11, mw_w11, mw_v11, mw_s11, mw_n8, mw_v8, mw_s8, mw_n9, mw_v9, mw_s9, mw_p5, mw_p6, mw_p7, mw_p8, mw_p9, mw_p10, mw_p11, mw_p18, Option.elim_some, true_and, and_true, Option.toList_some, Option.toList_none, List.cons_append, List.nil_append, sX6_isSheet, h, false_and, decide_false, bI_f, if_false, if_true, mfin0]
theorem sX6_write (hsh : shOK sh) {x y : Int32} {v : Int64} : sg θ (n + 3) 151 [.ref c, .int x, .int y, .long v] (mW w c R fd T B F tp (boF sh) (zoF sh) (slF sh) ln I tm so be te wd vl gd kp) Q ↔ if 0 ≤ x ∧ x < 4 then (if (sh x.toNatClampNeg).1 = 0 then Q (some (.long (-1000000006 : Int32).toInt64)) (mW w c R (fB fd 5) T B F tp (boF sh) (zoF sh) (slF sh) ln I tm so be te wd vl gd kp) else if 0 ≤ y ∧ y ≤ (sh x.toNatClampNeg).2.1 - 1 then Q (some (.long ((sh x.toNatClampNeg).2.2 y.toNatClampNeg))) (mW w c R fd T B F tp (boF sh) (zoF sh) (slF (updS sh x.toNatClampNeg ((sh x.toNatClampNeg).1, (sh x.toNatClampNeg).2.1, vp_updL (sh x.toNatClampNeg).2.2 y.toNatClampNeg (narL (sh x.toNatClampNeg).1 v)))) ln I tm so be te wd vl gd kp) else Q (some (.long (-1000000001 : Int32).toInt64)) (mW w c R (fB fd 0) T B F tp (boF sh) (zoF sh) (slF sh) ln I tm so be te wd vl gd kp)) else Q (some (.long (-1000000001 : Int32).toInt64)) (mW w c R (fB fd 0) T B F tp (boF sh) (zoF sh) (slF sh) ln I tm so be te wd vl gd kp) := by
  rw [nX6_write]
  by_cases h : 0 ≤ x ∧ x < 4
  · obtain ⟨s, rfl, hs⟩ := sheet_nI h
    have cs : (nI s).toNatClampNeg = s := nI_clamp (by omega)
    have eb : boF sh s = (sh s).1 := rfl
    have ez : zoF sh s = (sh s).2.1 := rfl
    by_cases h2 : (sh s).1 = 0
    · simp only [eX6_write_0, eX6_write_1, eX6_write_4, eX6_write_7, eX6_write_8, eX6_write_10, eX6_write_13, eX6_write_14, eX6_write_15, eX6_write_16, eX6_write_19, eX6_write_20, eX6_write_21, eX6_write_24, eX6_write_25, eX6_write_27, eX6_write_30, eX6_write_31, eX6_write_32, eX6_write_33, eX6_write_34, eX6_write_35, eX6_write_38, eX6_write_39, eX6_write_40, eX6_write_41, eX6_write_42, eX6_write_45, eX6_write_48, eX6_write_49, eX6_write_51, eX6_write_54, eX6_write_55, eX6_write_56, eX6_write_57, eX6_write_60, eX6_write_62, eX6_write_63, eX6_write_64, eX6_write_65, eX6_write_66, eX6_write_67, eX6_write_69, eX6_write_70, eX6_write_73, eX6_write_75, eX6_write_76, eX6_write_77, eX6_write_78, eX6_write_79, eX6_write_80, eX6_write_83, eX6_write_84, eX6_write_85, eX6_write_86, eX6_write_89, eX6_write_90, eX6_write_92, mw_is, mw_f0, mw_f1, mw_f2, mw_f3, mw_f4, mw_f5, mw_f6, mw_f7, mw_f8, mw_f9, mw_f10, mw_f11, mw_f12, mw_f13, mw_f14, mw_f15, mw_f16, mw_f17, mw_f18, mw_n1, mw_w1, mw_v1, mw_s1, mw_n2, mw_w2, mw_v2, mw_s2, mw_n3, mw_w3, mw_v3, mw_s3, mw_n4, mw_w4, mw_v4, mw_s4, mw_n5, mw_w5, mw_v5, mw_s5, mw_n6, mw_w6, mw_v6, mw_s6, mw_n7, mw_w7, mw_v7, mw_s7, mw_n10, mw_w10, mw_v10, mw_s10, mw_n11, mw_w11, mw_v11, mw_s11, mw_n8, mw_v8, mw_s8, mw_n9, mw_v9, mw_s9, mw_p5, mw_p6, mw_p7, mw_p8, mw_p9, mw_p10, mw_p11, mw_p18, Option.elim_some, true_and, and_true, Option.toList_some, Option.toList_none, List.cons_append, List.nil_append, sX6_isSheet, h, and_self, decide_true, bI_t, i10, if_false, if_true, cs, vp4 hs, eb, h2, mfin5]
    · by_cases h3 : 0 ≤ y ∧ y ≤ (sh s).2.1 - 1
      · obtain ⟨L, hL, eL⟩ := hsh s hs
        have h39 : y ≤ nI 39 := by
          have a := sub1_nI L hL
          have c := h3.2
          rw [eL] at c
          exact Int32.le_trans c a
        obtain ⟨i, rfl, _, hi⟩ := range_nI (l := 0) (h := 39) h3.1 h39 (by decide) (by decide)
        have ci : (nI i).toNatClampNeg = i := nI_clamp (by omega)
        have hup := fun v => sl_up (sh := sh) (s := s) (x := (sh s).1) (y := (sh s).2.1) (v := v) (show i < 40 by omega)
        simp only [eX6_write_0, eX6_write_1, eX6_write_4, eX6_write_7, eX6_write_8, eX6_write_10, eX6_write_13, eX6_write_14, eX6_write_15, eX6_write_16, eX6_write_19, eX6_write_20, eX6_write_21, eX6_write_24, eX6_write_25, eX6_write_27, eX6_write_30, eX6_write_31, eX6_write_32, eX6_write_33, eX6_write_34, eX6_write_35, eX6_write_38, eX6_write_39, eX6_write_40, eX6_write_41, eX6_write_42, eX6_write_45, eX6_write_48, eX6_write_49, eX6_write_51, eX6_write_54, eX6_write_55, eX6_write_56, eX6_write_57, eX6_write_60, eX6_write_62, eX6_write_63, eX6_write_64, eX6_write_65, eX6_write_66, eX6_write_67, eX6_write_69, eX6_write_70, eX6_write_73, eX6_write_75, eX6_write_76, eX6_write_77, eX6_write_78, eX6_write_79, eX6_write_80, eX6_write_83, eX6_write_84, eX6_write_85, eX6_write_86, eX6_write_89, eX6_write_90, eX6_write_92, mw_is, mw_f0, mw_f1, mw_f2, mw_f3, mw_f4, mw_f5, mw_f6, mw_f7, mw_f8, mw_f9, mw_f10, mw_f11, mw_f12, mw_f13, mw_f14, mw_f15, mw_f16, mw_f17, mw_f18, mw_n1, mw_w1, mw_v1, mw_s1, mw_n2, mw_w2, mw_v2, mw_s2, mw_n3, mw_w3, mw_v3, mw_s3, mw_n4, mw_w4, mw_v4, mw_s4, mw_n5, mw_w5, mw_v5, mw_s5, mw_n6, mw_w6, mw_v6, mw_s6, mw_n7, mw_w7, mw_v7, mw_s7, mw_n10, mw_w10, mw_v10, mw_s10, mw_n11, mw_w11, mw_v11, mw_s11, mw_n8, mw_v8, mw_s8, mw_n9, mw_v9, mw_s9, mw_p5, mw_p6, mw_p7, mw_p8, mw_p9, mw_p10, mw_p11, mw_p18, Option.elim_some, true_and, and_true, Option.toList_some, Option.toList_none, List.cons_append, List.nil_append, sX6_isSheet, sX6_in, sX6_narrow, h, and_self, decide_true, bI_t, i10, if_false, if_true, cs, ci, vp4 hs, eb, ez, h2, h3, ix40, vp160 (show 40 * s + i < 160 by omega), nI_clamp (show 40 * s + i < 2 ^ 31 by omega), hup, sl_at (show i < 40 by omega)]
      · simp only [eX6_write_0, eX6_write_1, eX6_write_4, eX6_write_7, eX6_write_8, eX6_write_10, eX6_write_13, eX6_write_14, eX6_write_15, eX6_write_16, eX6_write_19, eX6_write_20, eX6_write_21, eX6_write_24, eX6_write_25, eX6_write_27, eX6_write_30, eX6_write_31, eX6_write_32, eX6_write_33, eX6_write_34, eX6_write_35, eX6_write_38, eX6_write_39, eX6_write_40, eX6_write_41, eX6_write_42, eX6_write_45, eX6_write_48, eX6_write_49, eX6_write_51, eX6_write_54, eX6_write_55, eX6_write_56, eX6_write_57, eX6_write_60, eX6_write_62, eX6_write_63, eX6_write_64, eX6_write_65, eX6_write_66, eX6_write_67, eX6_write_69, eX6_write_70, eX6_write_73, eX6_write_75, eX6_write_76, eX6_write_77, eX6_write_78, eX6_write_79, eX6_write_80, eX6_write_83, eX6_write_84, eX6_write_85, eX6_write_86, eX6_write_89, eX6_write_90, eX6_write_92, mw_is, mw_f0, mw_f1, mw_f2, mw_f3, mw_f4, mw_f5, mw_f6, mw_f7, mw_f8, mw_f9, mw_f10, mw_f11, mw_f12, mw_f13, mw_f14, mw_f15, mw_f16, mw_f17, mw_f18, mw_n1, mw_w1, mw_v1, mw_s1, mw_n2, mw_w2, mw_v2, mw_s2, mw_n3, mw_w3, mw_v3, mw_s3, mw_n4, mw_w4, mw_v4, mw_s4, mw_n5, mw_w5, mw_v5, mw_s5, mw_n6, mw_w6, mw_v6, mw_s6, mw_n7, mw_w7, mw_v7, mw_s7, mw_n10, mw_w10, mw_v10, mw_s10, mw_n11, mw_w11, mw_v11, mw_s11, mw_n8, mw_v8, mw_s8, mw_n9, mw_v9, mw_s9, mw_p5, mw_p6, mw_p7, mw_p8, mw_p9, mw_p10, mw_p11, mw_p18, Option.elim_some, true_and, and_true, Option.toList_some, Option.toList_none, List.cons_append, List.nil_append, sX6_isSheet, sX6_in, h, and_self, decide_true, decide_false, bI_t, bI_f, i10, if_false, if_true, cs, vp4 hs, eb, ez, h2, h3, mfin0]
  · simp only [eX6_write_0, eX6_write_1, eX6_write_4, eX6_write_7, eX6_write_8, eX6_write_10, eX6_write_13, eX6_write_14, eX6_write_15, eX6_write_16, eX6_write_19, eX6_write_20, eX6_write_21, eX6_write_24, eX6_write_25, eX6_write_27, eX6_write_30, eX6_write_31, eX6_write_32, eX6_write_33, eX6_write_34, eX6_write_35, eX6_write_38, eX6_write_39, eX6_write_40, eX6_write_41, eX6_write_42, eX6_write_45, eX6_write_48, eX6_write_49, eX6_write_51, eX6_write_54, eX6_write_55, eX6_write_56, eX6_write_57, eX6_write_60, eX6_write_62, eX6_write_63, eX6_write_64, eX6_write_65, eX6_write_66, eX6_write_67, eX6_write_69, eX6_write_70, eX6_write_73, eX6_write_75, eX6_write_76, eX6_write_77, eX6_write_78, eX6_write_79, eX6_write_80, eX6_write_83, eX6_write_84, eX6_write_85, eX6_write_86, eX6_write_89, eX6_write_90, eX6_write_92, mw_is, mw_f0, mw_f1, mw_f2, mw_f3, mw_f4, mw_f5, mw_f6, mw_f7, mw_f8, mw_f9, mw_f10, mw_f11, mw_f12, mw_f13, mw_f14, mw_f15, mw_f16, mw_f17, mw_f18, mw_n1, mw_w1, mw_v1, mw_s1, mw_n2, mw_w2, mw_v2, mw_s2, mw_n3, mw_w3, mw_v3, mw_s3, mw_n4, mw_w4, mw_v4, mw_s4, mw_n5, mw_w5, mw_v5, mw_s5, mw_n6, mw_w6, mw_v6, mw_s6, mw_n7, mw_w7, mw_v7, mw_s7, mw_n10, mw_w10, mw_v10, mw_s10, mw_n11, mw_w11, mw_v11, mw_s11, mw_n8, mw_v8, mw_s8, mw_n9, mw_v9, mw_s9, mw_p5, mw_p6, mw_p7, mw_p8, mw_p9, mw_p10, mw_p11, mw_p18, Option.elim_some, true_and, and_true, Option.toList_some, Option.toList_none, List.cons_append, List.nil_append, sX6_isSheet, h, decide_false, bI_f, if_false, if_true, mfin0]
theorem sX6_badSheet {x : Int32} : sg θ (n + 3) 156 [.ref c, .int x] (mW w c R fd T B F tp (boF sh) zo sl ln I tm so be te wd vl gd kp) Q ↔ Q (some (.int (if 0 ≤ x ∧ x < 4 then (if (sh x.toNatClampNeg).1 = 0 then -1000000006 else 0) else -1000000001))) (mW w c R fd T B F tp (boF sh) zo sl ln I tm so be te wd vl gd kp) := by
  rw [nX6_badSheet]
  by_cases h : 0 ≤ x ∧ x < 4
  · obtain ⟨s, rfl, hs⟩ := sheet_nI h
    have cs : (nI s).toNatClampNeg = s := nI_clamp (by omega)
    have eb : boF sh s = (sh s).1 := rfl
    by_cases h2 : (sh s).1 = 0 <;> simp only [eX6_badSheet_0, eX6_badSheet_1, eX6_badSheet_4, eX6_badSheet_7, eX6_badSheet_9, eX6_badSheet_12, eX6_badSheet_13, eX6_badSheet_16, eX6_badSheet_17, eX6_badSheet_18, eX6_badSheet_21, eX6_badSheet_23, eX6_badSheet_26, eX6_badSheet_27, mw_is, mw_f0, mw_f1, mw_f2, mw_f3, mw_f4, mw_f5, mw_f6, mw_f7, mw_f8, mw_f9, mw_f10, mw_f11, mw_f12, mw_f13, mw_f14, mw_f15, mw_f16, mw_f17, mw_f18, mw_n1, mw_w1, mw_v1, mw_s1, mw_n2, mw_w2, mw_v2, mw_s2, mw_n3, mw_w3, mw_v3, mw_s3, mw_n4, mw_w4, mw_v4, mw_s4, mw_n5, mw_w5, mw_v5, mw_s5, mw_n6, mw_w6, mw_v6, mw_s6, mw_n7, mw_w7, mw_v7, mw_s7, mw_n10, mw_w10, mw_v10, mw_s10, mw_n11, mw_w11, mw_v11, mw_s11, mw_n8, mw_v8, mw_s8, mw_n9, mw_v9, mw_s9, mw_p5, mw_p6, mw_p7, mw_p8, mw_p9, mw_p10, mw_p11, mw_p18, Option.elim_some, true_and, and_true, Option.toList_some, Option.toList_none, List.cons_append, List.nil_append, sX6_isSheet, h, and_self, decide_true, bI_t, i10, if_false, if_true, cs, vp4 hs, eb, h2]
  · simp only [eX6_badSheet_0, eX6_badSheet_1, eX6_badSheet_4, eX6_badSheet_7, eX6_badSheet_9, eX6_badSheet_12, eX6_badSheet_13, eX6_badSheet_16, eX6_badSheet_17, eX6_badSheet_18, eX6_badSheet_21, eX6_badSheet_23, eX6_badSheet_26, eX6_badSheet_27, mw_is, mw_f0, mw_f1, mw_f2, mw_f3, mw_f4, mw_f5, mw_f6, mw_f7, mw_f8, mw_f9, mw_f10, mw_f11, mw_f12, mw_f13, mw_f14, mw_f15, mw_f16, mw_f17, mw_f18, mw_n1, mw_w1, mw_v1, mw_s1, mw_n2, mw_w2, mw_v2, mw_s2, mw_n3, mw_w3, mw_v3, mw_s3, mw_n4, mw_w4, mw_v4, mw_s4, mw_n5, mw_w5, mw_v5, mw_s5, mw_n6, mw_w6, mw_v6, mw_s6, mw_n7, mw_w7, mw_v7, mw_s7, mw_n10, mw_w10, mw_v10, mw_s10, mw_n11, mw_w11, mw_v11, mw_s11, mw_n8, mw_v8, mw_s8, mw_n9, mw_v9, mw_s9, mw_p5, mw_p6, mw_p7, mw_p8, mw_p9, mw_p10, mw_p11, mw_p18, Option.elim_some, true_and, and_true, Option.toList_some, Option.toList_none, List.cons_append, List.nil_append, sX6_isSheet, h, decide_false, bI_f, if_false, if_true]
theorem sX6_isPart3 {s : Nat} (hs : s < 4) {x y : Int32} : sg θ (n + 1) 154 [.ref c, .int (nI s), .int x, .int y] (mW w c R fd T B F tp bo (zoF sh) sl ln I tm so be te wd vl gd kp) Q ↔ Q (some (.int (bI (hasB (sh s).2.1 x y)))) (mW w c R fd T B F tp bo (zoF sh) sl ln I tm so be te wd vl gd kp) := by
  rw [nX6_isPart_]
  have cs : (nI s).toNatClampNeg = s := nI_clamp (by omega)
  have ez : zoF sh s = (sh s).2.1 := rfl
  simp only [eX6_isPart__0, eX6_isPart__1, eX6_isPart__4, eX6_isPart__5, eX6_isPart__8, eX6_isPart__9, eX6_isPart__10, eX6_isPart__13, eX6_isPart__14, eX6_isPart__15, eX6_isPart__18, eX6_isPart__19, eX6_isPart__20, eX6_isPart__23, eX6_isPart__24, eX6_isPart__25, eX6_isPart__26, eX6_isPart__27, eX6_isPart__30, eX6_isPart__31, eX6_isPart__34, eX6_isPart__35, mw_is, mw_f0, mw_f1, mw_f2, mw_f3, mw_f4, mw_f5, mw_f6, mw_f7, mw_f8, mw_f9, mw_f10, mw_f11, mw_f12, mw_f13, mw_f14, mw_f15, mw_f16, mw_f17, mw_f18, mw_n1, mw_w1, mw_v1, mw_s1, mw_n2, mw_w2, mw_v2, mw_s2, mw_n3, mw_w3, mw_v3, mw_s3, mw_n4, mw_w4, mw_v4, mw_s4, mw_n5, mw_w5, mw_v5, mw_s5, mw_n6, mw_w6, mw_v6, mw_s6, mw_n7, mw_w7, mw_v7, mw_s7, mw_n10, mw_w10, mw_v10, mw_s10, mw_n11, mw_w11, mw_v11, mw_s11, mw_n8, mw_v8, mw_s8, mw_n9, mw_v9, mw_s9, mw_p5, mw_p6, mw_p7, mw_p8, mw_p9, mw_p10, mw_p11, mw_p18, Option.elim_some, true_and, and_true, Option.toList_some, Option.toList_none, List.cons_append, List.nil_append, vp4 hs, cs, ez, hasB]
  simp only [← Int32.not_lt (a := x) (b := 0), ← Int32.not_lt (a := y) (b := 0), ← Int32.not_lt (a := (sh s).2.1) (b := y), ← Int32.not_lt (a := (sh s).2.1 - y) (b := x)]
  by_cases h1 : x < 0
  · simp [h1, bI, nb_0]
  · by_cases h2 : y < 0
    · simp [h1, h2, bI, nb_0]
    · by_cases h3 : (sh s).2.1 < y
      · simp [h1, h2, h3, bI, nb_0]
      · by_cases h4 : (sh s).2.1 - y < x
        · simp [h1, h2, h3, h4, bI, nb_0]
        · simp [h1, h2, h3, h4, bI, nb_1]
end T78
