section T33
variable {θ : (Nat → Value) × (Nat → Nat)} {n : Nat} {w : rW} {c : Nat} {r : rR} {Q : rQ}
theorem sX6_tram (ho : moOK w c) : sg θ (n + 1) 116 [.ref c] (rowSet w c r) Q ↔ Q (some (.int (tramAt r))) (rowSet w c r) := by
  rw [nX6_tram]
  simp only [eX6_tram_0, eX6_tram_1, eX6_tram_2, eX6_tram_5, eX6_tram_6, eX6_tram_7, eX6_tram_8, eX6_tram_10, eX6_tram_11, mo_f ho, mo_n, mo_v, Option.elim_some, vp0, cl0, mR0, true_and, tramAt]
  simp
theorem sX6_besides (ho : moOK w c) {m i : Nat} (hm : r 2 = nI m) (h8 : m ≤ 8) (hi : i < m) : sg θ (n + 3) 111 [.ref c, .int (nI i)] (rowSet w c r) Q ↔ Q (some (.int (oI (inWay r i m 0)))) (rowSet w c r) := by
  rw [nX6_besides]
  generalize ((rowSet w c r).2.1 + 0, (rowSet w c r).2.2 + 0) = lim
  have loop : ∀ d j, j + d = m → (Wp (xX6_besides θ (n + 2) lim) Q (2, [some (.ref c), some (.int (nI i)), some (.int (nI j))], [], rowSet w c r) ↔ Q (some (.int (oI (inWay r i d j)))) (rowSet w c r)) := by
    intro d
    induction d with
    | zero =>
      intro j hj
      have hj : j = m := by omega
      subst hj
      rw [eX6_besides_2]
      simp only [eX6_besides_0, eX6_besides_1, eX6_besides_3, eX6_besides_4, eX6_besides_7, eX6_besides_8, eX6_besides_9, eX6_besides_12, eX6_besides_13, eX6_besides_14, eX6_besides_17, eX6_besides_18, eX6_besides_19, eX6_besides_22, eX6_besides_25, eX6_besides_26, eX6_besides_27, eX6_besides_28, eX6_besides_31, eX6_besides_32, eX6_besides_33, eX6_besides_34, eX6_besides_37, eX6_besides_40, eX6_besides_43, eX6_besides_46, eX6_besides_47, eX6_besides_48, eX6_besides_51, eX6_besides_52, eX6_besides_53, eX6_besides_56, eX6_besides_57, eX6_besides_60, eX6_besides_61, mo_f ho, mo_n, mo_v, Option.elim_some, vp2, cl2, mR2, true_and, hm, nI_le (Nat.le_refl j) (show j < 2 ^ 31 by omega), if_true, inWay, oI]
    | succ d ih =>
      intro j hj
      have hlt : j < m := by omega
      rw [eX6_besides_2]
      have ih := ih (j + 1) (by omega)
      rw [nI_succ] at ih
      have h1 := fun n i (hi : i < 8) Q => sX6_its (θ := θ) (n := n) (r := r) (Q := Q) ho (show (1 : Int32) = nI 1 from rfl) hi (by decide)
      simp only [eX6_besides_0, eX6_besides_1, eX6_besides_3, eX6_besides_4, eX6_besides_7, eX6_besides_8, eX6_besides_9, eX6_besides_12, eX6_besides_13, eX6_besides_14, eX6_besides_17, eX6_besides_18, eX6_besides_19, eX6_besides_22, eX6_besides_25, eX6_besides_26, eX6_besides_27, eX6_besides_28, eX6_besides_31, eX6_besides_32, eX6_besides_33, eX6_besides_34, eX6_besides_37, eX6_besides_40, eX6_besides_43, eX6_besides_46, eX6_besides_47, eX6_besides_48, eX6_besides_51, eX6_besides_52, eX6_besides_53, eX6_besides_56, eX6_besides_57, eX6_besides_60, eX6_besides_61, mo_f ho, mo_n, mo_v, mo_is ho, Option.elim_some, vp2, cl2, mR2, true_and, hm, nI_ge hlt (show m < 2 ^ 31 by omega), if_false, nI_eq (show j < 2 ^ 31 by omega) (show i < 2 ^ 31 by omega), sX6_isThrough ho (show j < 8 by omega), h1 _ i (show i < 8 by omega), h1 _ j (show j < 8 by omega), Option.toList_some, List.cons_append, List.nil_append]
      by_cases h1 : j = i
      · simp only [inWay, h1, if_true, ne_eq, not_true, false_and, if_false] at ih ⊢
        exact ih
      · by_cases h2 : its r j 1 = its r i 1
        · cases h3 : thru r j with
          | false => simp only [inWay, h1, h2, h3, if_true, if_false, ne_eq, not_false_iff, true_and, bI_f, oI]
          | true =>
            simp only [inWay, h1, h2, h3, if_true, if_false, ne_eq, not_false_iff, true_and, bI_t, i10, Bool.true_eq_false] at ih ⊢
            exact ih
        · cases h3 : thru r j <;> simp only [inWay, h1, h2, h3, if_false, if_true, ne_eq, not_false_iff, and_false, false_and, bI_f, bI_t, i10] at ih ⊢ <;> exact ih
  simp only [eX6_besides_0, eX6_besides_1, eX6_besides_3, eX6_besides_4, eX6_besides_7, eX6_besides_8, eX6_besides_9, eX6_besides_12, eX6_besides_13, eX6_besides_14, eX6_besides_17, eX6_besides_18, eX6_besides_19, eX6_besides_22, eX6_besides_25, eX6_besides_26, eX6_besides_27, eX6_besides_28, eX6_besides_31, eX6_besides_32, eX6_besides_33, eX6_besides_34, eX6_besides_37, eX6_besides_40, eX6_besides_43, eX6_besides_46, eX6_besides_47, eX6_besides_48, eX6_besides_51, eX6_besides_52, eX6_besides_53, eX6_besides_56, eX6_besides_57, eX6_besides_60, eX6_besides_61]
  exact loop m 0 (by omega)
theorem sX6_bumpInto (ho : moOK w c) {m i j : Nat} (hv : invR r m) (hi : i < m) (hj : j < m) : sg θ (n + 3) 112 [.ref c, .int (nI i), .int (nI j)] (rowSet w c r) Q ↔ Q none (rowSet w c (bumpR r i j)) := by
  have h8 := hv.1.2.1
  rw [bump_alt hv hi hj, nX6_bumpInto]
  have h6 := fun n r i (hi : i < 8) Q => sX6_more (θ := θ) (n := n) (r := r) (Q := Q) ho (show (6 : Int32) = nI 6 from rfl) hi (by decide)
  have h5 := fun n r Q => sX6_more (θ := θ) (n := n) (r := r) (Q := Q) ho (show (5 : Int32) = nI 5 from rfl) (show i < 8 by omega) (by decide)
  have h4 := fun n r Q => sX6_its (θ := θ) (n := n) (r := r) (Q := Q) ho (show (4 : Int32) = nI 4 from rfl) (show i < 8 by omega) (by decide)
  have hp := fun n r v Q => sX6_puts (θ := θ) (n := n) (r := r) (v := v) (Q := Q) ho (show (4 : Int32) = nI 4 from rfl) (show i < 8 by omega) (by decide)
  have ht := fun n r Q => sX6_isTurned (θ := θ) (n := n) (r := r) (Q := Q) ho (show i < 8 by omega)
  simp only [eX6_bumpInto_0, eX6_bumpInto_1, eX6_bumpInto_2, eX6_bumpInto_4, eX6_bumpInto_7, eX6_bumpInto_8, eX6_bumpInto_9, eX6_bumpInto_11, eX6_bumpInto_14, eX6_bumpInto_15, eX6_bumpInto_16, eX6_bumpInto_19, eX6_bumpInto_22, eX6_bumpInto_23, eX6_bumpInto_24, eX6_bumpInto_25, eX6_bumpInto_26, eX6_bumpInto_27, eX6_bumpInto_28, eX6_bumpInto_29, eX6_bumpInto_32, eX6_bumpInto_33, eX6_bumpInto_36, eX6_bumpInto_37, eX6_bumpInto_38, eX6_bumpInto_39, eX6_bumpInto_42, eX6_bumpInto_43, eX6_bumpInto_46, eX6_bumpInto_47, eX6_bumpInto_48, eX6_bumpInto_49, eX6_bumpInto_52, mo_is ho, true_and, h6 _ _ i (show i < 8 by omega), h6 _ _ j (show j < 8 by omega), h5, h4, hp, ht, Option.toList_some, Option.toList_none, List.cons_append, List.nil_append]
  generalize upd (upd r (3 + 7 * i + 6) (heldI (its r i 6 + 1) 0 999)) (3 + 7 * j + 6) (heldI (its (upd r (3 + 7 * i + 6) (heldI (its r i 6 + 1) 0 999)) j 6 + 1) 0 999) = r2
  cases turnsOf (its r2 i 0) (its r2 i 3) with
  | false => simp only [bI_f, if_true, if_false, Bool.false_eq_true]
  | true =>
    simp only [bI_t, i10, if_true, if_false]
    generalize upd r2 (3 + 7 * i + 4) (1 - its r2 i 4) = r3
    by_cases h : its r3 i 4 = 1 <;> simp only [h, if_true, if_false]
theorem way_up {r : rR} {i j d : Nat} {x : Int32} (hd : d < 7) (h2 : d ≠ 2) : wayOf (upd r (3 + 7 * j + d) x) i = wayOf r i := by
  unfold wayOf
  rw [its_ne hd (by decide) (by omega)]
theorem way_bump {r : rR} {i j : Nat} : wayOf (bumpR r i j) i = wayOf r i := by
  unfold bumpR
  split
  · rw [way_up (by decide) (by decide), way_up (by decide) (by decide), way_up (by decide) (by decide), way_up (by decide) (by decide)]
  · rw [way_up (by decide) (by decide), way_up (by decide) (by decide)]
theorem sX6_walks (ho : moOK w c) {m i : Nat} (hv : invR r m) (hi : i < m) (ht : thru r i = false) : sg θ (n + 5) 110 [.ref c, .int (nI i)] (rowSet w c r) Q ↔ Q none (rowSet w c (rideR (walkR m i (wayOf r i) (goesAt r i m).toNatClampNeg r) i)) := by
  have h8 := hv.1.2.1
  rw [nX6_walks]
  generalize ((rowSet w c r).2.1 + 0, (rowSet w c r).2.2 + 0) = lim
  have i8 : i < 8 := by omega
  have h1 := fun n r Q => sX6_its (θ := θ) (n := n) (r := r) (Q := Q) ho (show (1 : Int32) = nI 1 from rfl) i8 (by decide)
  have h2 := fun n r Q => sX6_its (θ := θ) (n := n) (r := r) (Q := Q) ho (show (2 : Int32) = nI 2 from rfl) i8 (by decide)
  have hp := fun n r v Q => sX6_puts (θ := θ) (n := n) (r := r) (v := v) (Q := Q) ho (show (1 : Int32) = nI 1 from rfl) i8 (by decide)
  have hth := fun n r Q => sX6_isThrough (θ := θ) (n := n) (r := r) (Q := Q) ho i8
  have htr := fun n r Q => sX6_tram (θ := θ) (n := n) (r := r) (Q := Q) ho
  have tail : ∀ (r : rR) (wy x : Int32) o4, x ≤ 0 → invR r m → wy = wayOf r i → (Wp (xX6_walks θ (n + 4) lim) Q (22, [some (.ref c), some (.int (nI i)), some (.int wy), some (.int x), o4], [], rowSet w c r) ↔ Q none (rowSet w c (rideR r i))) := by
    intro r wy x o4 hx hv hwy
    obtain ⟨p, hpl, e⟩ := hv.at hi (show 1 < 7 by decide)
    rw [eX6_walks_22]
    simp only [eX6_walks_0, eX6_walks_1, eX6_walks_2, eX6_walks_3, eX6_walks_6, eX6_walks_7, eX6_walks_10, eX6_walks_11, eX6_walks_14, eX6_walks_15, eX6_walks_16, eX6_walks_17, eX6_walks_18, eX6_walks_21, eX6_walks_23, eX6_walks_26, eX6_walks_27, eX6_walks_28, eX6_walks_29, eX6_walks_30, eX6_walks_31, eX6_walks_32, eX6_walks_35, eX6_walks_36, eX6_walks_37, eX6_walks_40, eX6_walks_41, eX6_walks_42, eX6_walks_45, eX6_walks_48, eX6_walks_49, eX6_walks_52, eX6_walks_53, eX6_walks_54, eX6_walks_57, eX6_walks_59, eX6_walks_61, eX6_walks_64, eX6_walks_65, eX6_walks_66, eX6_walks_68, eX6_walks_71, eX6_walks_72, eX6_walks_73, eX6_walks_76, eX6_walks_79, eX6_walks_81, eX6_walks_84, eX6_walks_85, eX6_walks_88, eX6_walks_89, eX6_walks_90, eX6_walks_91, eX6_walks_92, eX6_walks_95, eX6_walks_96, eX6_walks_97, eX6_walks_100, eX6_walks_103, eX6_walks_104, eX6_walks_107, eX6_walks_108, eX6_walks_109, eX6_walks_110, eX6_walks_113, eX6_walks_114, eX6_walks_115, eX6_walks_116, eX6_walks_119, eX6_walks_120, eX6_walks_123, eX6_walks_126, eX6_walks_127, eX6_walks_128, eX6_walks_129, eX6_walks_130, eX6_walks_131, eX6_walks_132, eX6_walks_135, eX6_walks_136, eX6_walks_137, eX6_walks_138, eX6_walks_139, eX6_walks_140, eX6_walks_142, eX6_walks_145, eX6_walks_148, mo_f ho, mo_n, mo_v, mo_is ho, Option.elim_some, vp1, cl1, mR1, true_and, hx, if_true, hth, h1, htr, hp, sX6_held, Option.toList_some, Option.toList_none, List.cons_append, List.nil_append]
    unfold rideR
    cases h : thru r i with
    | true => simp only [bI_t, i10, if_true, if_false]
    | false =>
      simp only [bI_f, if_true, if_false, Bool.false_eq_true]
      rcases hv.2.1 with q | q
      · simp only [q, if_true, show ((0 : Int32) = 1) = False by decide, if_false]
      · simp only [q, if_true, i10, if_false]
        by_cases ht : its r i 1 = tramAt r
        · simp only [if_pos ht]
          rw [hwy]
          unfold wayOf
          by_cases hb : its r i 2 = 1
          · simp only [hb, if_true, e, held_up p (by omega)]
          · simp only [hb, if_false, e, held_dn p (by omega)]
        · simp only [if_neg ht]
  have loop : ∀ d (r : rR) (wy x : Int32) o4, x.toNatClampNeg = d → invR r m → wy = wayOf r i → (d = 0 ∨ thru r i = false) → (Wp (xX6_walks θ (n + 4) lim) Q (22, [some (.ref c), some (.int (nI i)), some (.int wy), some (.int x), o4], [], rowSet w c r) ↔ Q none (rowSet w c (rideR (walkR m i wy d r) i))) := by
    intro d
    induction d with
    | zero =>
      intro r wy x o4 hx hv hwy _
      refine tail r wy x o4 ?_ hv hwy
      rw [Int32.le_iff_toInt_le]
      have : x.toInt.toNat = 0 := hx
      have e0 : (0 : Int32).toInt = 0 := by decide
      omega
    | succ d ih =>
      intro r wy x o4 hx hv hwy hn
      have hn : thru r i = false := by rcases hn with q | q; · cases q
                                       · exact q
      have hpos : ¬ x ≤ 0 := by
        rw [Int32.le_iff_toInt_le]
        have : x.toInt.toNat = d + 1 := hx
        have e0 : (0 : Int32).toInt = 0 := by decide
        omega
      have hxe : x = nI (d + 1) := by
        obtain ⟨q, hq, e⟩ := nI_of (x := x) (fun z => hpos (Int32.le_of_lt z))
        rw [e] at hx ⊢
        rw [nI_clamp hq] at hx
        rw [hx]
      have hd31 : d + 1 < 2 ^ 31 := by rw [← hx]; exact clamp_lt x
      have hv1 : invR (upd r (3 + 7 * i + 1) (its r i 1 + wy)) m := by rw [hwy]; exact hv.pace1 hi hn
      have hwy1 : wy = wayOf (upd r (3 + 7 * i + 1) (its r i 1 + wy)) i := by rw [way_up (by decide) (by decide)]; exact hwy
      have hbs := fun n Q => sX6_besides (θ := θ) (n := n) (Q := Q) ho hv1.1.1 h8 hi
      have hlt : ∀ j, inWay (upd r (3 + 7 * i + 1) (its r i 1 + wy)) i m 0 = some j → j < m := fun j hj => by have := inWay_lt hj; omega
      rw [eX6_walks_22]
      simp only [eX6_walks_0, eX6_walks_1, eX6_walks_2, eX6_walks_3, eX6_walks_6, eX6_walks_7, eX6_walks_10, eX6_walks_11, eX6_walks_14, eX6_walks_15, eX6_walks_16, eX6_walks_17, eX6_walks_18, eX6_walks_21, eX6_walks_23, eX6_walks_26, eX6_walks_27, eX6_walks_28, eX6_walks_29, eX6_walks_30, eX6_walks_31, eX6_walks_32, eX6_walks_35, eX6_walks_36, eX6_walks_37, eX6_walks_40, eX6_walks_41, eX6_walks_42, eX6_walks_45, eX6_walks_48, eX6_walks_49, eX6_walks_52, eX6_walks_53, eX6_walks_54, eX6_walks_57, eX6_walks_59, eX6_walks_61, eX6_walks_64, eX6_walks_65, eX6_walks_66, eX6_walks_68, eX6_walks_71, eX6_walks_72, eX6_walks_73, eX6_walks_76, eX6_walks_79, eX6_walks_81, eX6_walks_84, eX6_walks_85, eX6_walks_88, eX6_walks_89, eX6_walks_90, eX6_walks_91, eX6_walks_92, eX6_walks_95, eX6_walks_96, eX6_walks_97, eX6_walks_100, eX6_walks_103, eX6_walks_104, eX6_walks_107, eX6_walks_108, eX6_walks_109, eX6_walks_110, eX6_walks_113, eX6_walks_114, eX6_walks_115, eX6_walks_116, eX6_walks_119, eX6_walks_120, eX6_walks_123, eX6_walks_126, eX6_walks_127, eX6_walks_128, eX6_walks_129, eX6_walks_130, eX6_walks_131, eX6_walks_132, eX6_walks_135, eX6_walks_136, eX6_walks_137, eX6_walks_138, eX6_walks_139, eX6_walks_140, eX6_walks_142, eX6_walks_145, eX6_walks_148, mo_is ho, true_and, hpos, if_false, hth, h1, hp, hbs, Option.toList_some, Option.toList_none, List.cons_append, List.nil_append]
      unfold walkR
      cases h1 : thru (upd r (3 + 7 * i + 1) (its r i 1 + wy)) i with
      | true =>
        have h10 : ((-1 : Int32) < 0) = True := by decide
        simp only [bI_t, i10, if_false, if_true, h10, h1]
        exact tail _ wy 0 _ (Int32.le_refl 0) hv1 hwy1
      | false =>
        simp only [bI_f, if_true, if_false, Bool.false_eq_true, oI_neg (fun j hj => Nat.lt_trans (hlt j hj) (by omega))]
        cases h2 : inWay (upd r (3 + 7 * i + 1) (its r i 1 + wy)) i m 0 with
        | none =>
          have h10 : ((-1 : Int32) < 0) = True := by decide
          simp only [if_true, h1, bI_f, oI, h10]
          have := ih (upd r (3 + 7 * i + 1) (its r i 1 + wy)) wy (nI d) (some (.int (-1))) (nI_clamp (by omega)) hv1 hwy1 (Or.inr h1)
          rw [hxe, nI_pred]
          exact this
        | some j =>
          have hbm := fun n Q => sX6_bumpInto (θ := θ) (n := n) (Q := Q) ho hv1 hi (hlt j h2)
          simp only [if_false, reduceCtorEq, oI, hbm, eX6_walks_0, eX6_walks_1, eX6_walks_2, eX6_walks_3, eX6_walks_6, eX6_walks_7, eX6_walks_10, eX6_walks_11, eX6_walks_14, eX6_walks_15, eX6_walks_16, eX6_walks_17, eX6_walks_18, eX6_walks_21, eX6_walks_23, eX6_walks_26, eX6_walks_27, eX6_walks_28, eX6_walks_29, eX6_walks_30, eX6_walks_31, eX6_walks_32, eX6_walks_35, eX6_walks_36, eX6_walks_37, eX6_walks_40, eX6_walks_41, eX6_walks_42, eX6_walks_45, eX6_walks_48, eX6_walks_49, eX6_walks_52, eX6_walks_53, eX6_walks_54, eX6_walks_57, eX6_walks_59, eX6_walks_61, eX6_walks_64, eX6_walks_65, eX6_walks_66, eX6_walks_68, eX6_walks_71, eX6_walks_72, eX6_walks_73, eX6_walks_76, eX6_walks_79, eX6_walks_81, eX6_walks_84, eX6_walks_85, eX6_walks_88, eX6_walks_89, eX6_walks_90, eX6_walks_91, eX6_walks_92, eX6_walks_95, eX6_walks_96, eX6_walks_97, eX6_walks_100, eX6_walks_103, eX6_walks_104, eX6_walks_107, eX6_walks_108, eX6_walks_109, eX6_walks_110, eX6_walks_113, eX6_walks_114, eX6_walks_115, eX6_walks_116, eX6_walks_119, eX6_walks_120, eX6_walks_123, eX6_walks_126, eX6_walks_127, eX6_walks_128, eX6_walks_129, eX6_walks_130, eX6_walks_131, eX6_walks_132, eX6_walks_135, eX6_walks_136, eX6_walks_137, eX6_walks_138, eX6_walks_139, eX6_walks_140, eX6_walks_142, eX6_walks_145, eX6_walks_148, mo_is ho, true_and, hth, Option.toList_some, Option.toList_none, List.cons_append, List.nil_append, nI_pos (show j < 2 ^ 31 by have := hlt j h2; omega)]
          have hv2 := hv1.bump hi (hlt j h2)
          have hwy2 : wy = wayOf (bumpR (upd r (3 + 7 * i + 1) (its r i 1 + wy)) i j) i := by rw [way_bump]; exact hwy1
          cases h3 : thru (bumpR (upd r (3 + 7 * i + 1) (its r i 1 + wy)) i j) i <;> simp only [bI_t, bI_f, i10, if_true, if_false] <;> exact tail _ wy 0 _ (Int32.le_refl 0) hv2 hwy2
  have hg := fun n Q => sX6_goes (θ := θ) (n := n) (Q := Q) ho hv hi
  simp only [eX6_walks_0, eX6_walks_1, eX6_walks_2, eX6_walks_3, eX6_walks_6, eX6_walks_7, eX6_walks_10, eX6_walks_11, eX6_walks_14, eX6_walks_15, eX6_walks_16, eX6_walks_17, eX6_walks_18, eX6_walks_21, eX6_walks_23, eX6_walks_26, eX6_walks_27, eX6_walks_28, eX6_walks_29, eX6_walks_30, eX6_walks_31, eX6_walks_32, eX6_walks_35, eX6_walks_36, eX6_walks_37, eX6_walks_40, eX6_walks_41, eX6_walks_42, eX6_walks_45, eX6_walks_48, eX6_walks_49, eX6_walks_52, eX6_walks_53, eX6_walks_54, eX6_walks_57, eX6_walks_59, eX6_walks_61, eX6_walks_64, eX6_walks_65, eX6_walks_66, eX6_walks_68, eX6_walks_71, eX6_walks_72, eX6_walks_73, eX6_walks_76, eX6_walks_79, eX6_walks_81, eX6_walks_84, eX6_walks_85, eX6_walks_88, eX6_walks_89, eX6_walks_90, eX6_walks_91, eX6_walks_92, eX6_walks_95, eX6_walks_96, eX6_walks_97, eX6_walks_100, eX6_walks_103, eX6_walks_104, eX6_walks_107, eX6_walks_108, eX6_walks_109, eX6_walks_110, eX6_walks_113, eX6_walks_114, eX6_walks_115, eX6_walks_116, eX6_walks_119, eX6_walks_120, eX6_walks_123, eX6_walks_126, eX6_walks_127, eX6_walks_128, eX6_walks_129, eX6_walks_130, eX6_walks_131, eX6_walks_132, eX6_walks_135, eX6_walks_136, eX6_walks_137, eX6_walks_138, eX6_walks_139, eX6_walks_140, eX6_walks_142, eX6_walks_145, eX6_walks_148, mo_is ho, true_and, h2, hg, Option.toList_some, Option.toList_none, List.cons_append, List.nil_append]
  have hfin := loop (goesAt r i m).toNatClampNeg r (wayOf r i) (goesAt r i m) none rfl hv rfl (Or.inr ht)
  by_cases h : its r i 2 = 1
  · have hw : wayOf r i = 1 := by unfold wayOf; rw [if_pos h]
    rw [hw] at hfin ⊢
    simp only [h, if_true]
    exact hfin
  · have hw : wayOf r i = -1 := by unfold wayOf; rw [if_neg h]
    rw [hw] at hfin ⊢
    simp only [h, if_false]
    exact hfin
end T33
