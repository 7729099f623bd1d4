section T65
variable {θ : (Nat → Value) × (Nat → Nat)} {n : Nat} {w : rW} {b : Nat} {P A K : rR} {kp : Int32} {tp : Nat → Int32} {tl rs re : Int32} {sh : rSh} {fd : Nat → Int32} {Q : rQ} {m t : Nat}
theorem add_its {r : rR} {kd pl : Int32} {i d : Nat} (hd : d < 7) : its (addR r m kd pl) i d = if i = m then (if d = 0 then kd else if d = 1 then pl else if d = 2 then 1 else if d = 3 then 2 else 0) else its r i d := by
  unfold addR
  have h2 : ∀ (q : rR) (x : Int32), its (upd q 2 x) i d = its q i d := fun q x => upd_ne (by omega)
  rw [h2]
  by_cases hi : i = m
  · subst hi
    rw [if_pos rfl]
    rcases (show d = 0 ∨ d = 1 ∨ d = 2 ∨ d = 3 ∨ d = 4 ∨ d = 5 ∨ d = 6 by omega) with rfl | rfl | rfl | rfl | rfl | rfl | rfl
    · rw [its_ne (by decide) hd (by omega), its_ne (by decide) hd (by omega), its_ne (by decide) hd (by omega), its_ne (by decide) hd (by omega), its_ne (by decide) hd (by omega), its_ne (by decide) hd (by omega), its_eq]; rfl
    · rw [its_ne (by decide) hd (by omega), its_ne (by decide) hd (by omega), its_ne (by decide) hd (by omega), its_ne (by decide) hd (by omega), its_ne (by decide) hd (by omega), its_eq]; rfl
    · rw [its_ne (by decide) hd (by omega), its_ne (by decide) hd (by omega), its_ne (by decide) hd (by omega), its_ne (by decide) hd (by omega), its_eq]; rfl
    · rw [its_ne (by decide) hd (by omega), its_ne (by decide) hd (by omega), its_ne (by decide) hd (by omega), its_eq]; rfl
    · rw [its_ne (by decide) hd (by omega), its_ne (by decide) hd (by omega), its_eq]; rfl
    · rw [its_ne (by decide) hd (by omega), its_eq]; rfl
    · rw [its_eq]; rfl
  · rw [if_neg hi, its_ne (by decide) hd (by omega), its_ne (by decide) hd (by omega), its_ne (by decide) hd (by omega), its_ne (by decide) hd (by omega), its_ne (by decide) hd (by omega), its_ne (by decide) hd (by omega), its_ne (by decide) hd (by omega)]
theorem invR.add {r : rR} {kd pl : Int32} (h : invR r m) (h8 : m < 8) (hk : okV 0 kd) (hp : okV 1 pl) : invR (addR r m kd pl) (m + 1) := by
  refine invR.of addR_2 (by omega) ?_ (fun i hi d hd => ?_)
  · have : addR r m kd pl 1 = r 1 := by
      unfold addR
      rw [upd_ne (by omega), upd_ne (by omega), upd_ne (by omega), upd_ne (by omega), upd_ne (by omega), upd_ne (by omega), upd_ne (by omega), upd_ne (by omega)]
    rw [this]
    exact h.2.1
  · rw [add_its hd]
    by_cases him : i = m
    · rw [if_pos him]
      rcases (show d = 0 ∨ d = 1 ∨ d = 2 ∨ d = 3 ∨ d = 4 ∨ d = 5 ∨ d = 6 by omega) with rfl | rfl | rfl | rfl | rfl | rfl | rfl
      · exact hk
      · exact hp
      · exact Or.inr rfl
      · exact ⟨2, by decide, rfl⟩
      · exact Or.inl rfl
      · exact ⟨0, by decide, rfl⟩
      · exact ⟨0, by decide, rfl⟩
    · rw [if_neg him]
      exact h.at (by omega) hd
theorem invR.tr {r : rR} {x : Int32} (h : invR r m) (hx : x = 0 ∨ x = 1) : invR (upd r 1 x) m := by
  refine invR.of (by rw [upd_ne (by omega)]; exact h.1.1) h.1.2.1 (by rw [upd_eq]; exact hx) (fun j hj d' hd' => ?_)
  unfold its
  rw [upd_ne (by omega)]
  exact h.at hj hd'
theorem takeB_lt {tp : Nat → Int32} {s : Nat} {tx : List Int32} (h : takeB tp t s tx = true) (hl : 0 < tx.length) (hs : s ≤ t) : s < t := by
  simp only [takeB, Bool.and_eq_true, decide_eq_true_eq] at h
  rcases Nat.lt_or_ge s t with q | q
  · exact q
  · have : s = t := by omega
    subst this
    have e : tokE tp s s = s := by unfold tokE; rw [if_pos rfl]
    rw [e] at h
    omega
theorem wk3_ok {r : rR} {s m1 : Nat} (hv : invR r m1) (hs : s ≤ t) : s ≤ (wk3 tp t m s r).2.1 ∧ (wk3 tp t m s r).2.1 ≤ t ∧ invR (wk3 tp t m s r).2.2 m1 := by
  unfold wk3
  have h1 := nxt_le (tp := tp) hs
  split
  · exact ⟨h1.1, h1.2, hv.up (by decide) (Or.inr rfl)⟩
  · exact ⟨Nat.le_refl s, hs, hv⟩
theorem wk2_ok {r : rR} {s m1 : Nat} (hv : invR r m1) (hs : s ≤ t) : s ≤ (wk2 tp t m s r).2.1 ∧ (wk2 tp t m s r).2.1 ≤ t ∧ invR (wk2 tp t m s r).2.2 m1 := by
  unfold wk2
  have h1 := nxt_le (tp := tp) hs
  have h2 := nxt_le (tp := tp) h1.2
  split
  · split
    · rename_i v hn
      have h3 := wk3_ok (tp := tp) (m := m) (hv.up (i := m) (show 3 < 7 by decide) (x := nI v) ⟨v, numR_le hn, rfl⟩) h2.2
      exact ⟨by omega, h3.2.1, h3.2.2⟩
    · exact ⟨h1.1, h1.2, hv⟩
  · exact wk3_ok hv hs
theorem wk1_ok {r : rR} {s m1 : Nat} (hv : invR r m1) (hs : s ≤ t) : s ≤ (wk1 tp t m s r).2.1 ∧ (wk1 tp t m s r).2.1 ≤ t ∧ invR (wk1 tp t m s r).2.2 m1 := by
  unfold wk1
  have h1 := nxt_le (tp := tp) hs
  split
  · have h3 := wk2_ok (tp := tp) (m := m) (hv.up (i := m) (show 2 < 7 by decide) (x := 0) (Or.inl rfl)) h1.2
    exact ⟨by omega, h3.2.1, h3.2.2⟩
  · exact wk2_ok hv hs
theorem kindUp_take {tp : Nat → Int32} {s : Nat} : ∀ d kd v, kindUp tp t s d kd = some v → takeB tp t s (nameT v) = true
  | 0, kd, v, h => by cases h
  | d + 1, kd, v, h => by
    unfold kindUp at h
    split at h
    · rename_i hb; cases h; exact hb
    · exact kindUp_take d (kd + 1) v h
theorem name_pos : ∀ kd : Nat, kd < 6 → 0 < (nameT kd).length := by decide
theorem wk0_ok {r : rR} {s : Nat} (hv : invR r m) (hs : s ≤ t) : (wk0 tp t m s r).2.1 ≤ t ∧ ((wk0 tp t m s r).1 = true → s < (wk0 tp t m s r).2.1 ∧ ∃ m1, invR (wk0 tp t m s r).2.2 m1) := by
  have h8 := hv.1.2.1
  have h1 := nxt_le (tp := tp) hs
  have h2 := nxt_le (tp := tp) h1.2
  have h3 := nxt_le (tp := tp) h2.2
  unfold wk0
  split
  · exact ⟨hs, fun q => by cases q⟩
  · split
    · exact ⟨hs, fun q => by cases q⟩
    · rename_i kd hkd
      have hkl := kindAt_lt hkd
      have hlt := takeB_lt (kindUp_take 6 0 kd hkd) (name_pos kd hkl) hs
      have hnl := nxt_lt (tp := tp) hlt
      split
      · split
        · rename_i v hn
          have h4 := wk1_ok (tp := tp) (m := m) (hv.add (kd := nI kd) (pl := nI v) (by omega) ⟨kd, hkl, rfl⟩ ⟨v, numR_le hn, rfl⟩) h3.2
          exact ⟨h4.2.1, fun _ => ⟨by omega, _, h4.2.2⟩⟩
        · exact ⟨h2.2, fun q => by cases q⟩
      · exact ⟨h1.2, fun q => by cases q⟩
theorem item_ok {r : rR} {s : Nat} (hv : invR r m) (hs : s ≤ t) : (item tp t m s r).2.1 ≤ t ∧ ((item tp t m s r).1 = true → s < (item tp t m s r).2.1 ∧ ∃ m1, invR (item tp t m s r).2.2 m1) := by
  have h1 := nxt_le (tp := tp) hs
  unfold item
  split
  · rename_i hb
    exact ⟨h1.2, fun _ => ⟨nxt_lt (takeB_lt hb (by decide) hs), m, hv.tr (Or.inr rfl)⟩⟩
  · split
    · rename_i hb
      exact ⟨h1.2, fun _ => ⟨nxt_lt (takeB_lt hb (by decide) hs), m, hv.tr (Or.inl rfl)⟩⟩
    · exact wk0_ok hv hs
def readL (tp : Nat → Int32) (t : Nat) : Nat → Nat → Nat → rR → Int32 × rR
  | 0, _, s, r => (-1 - nI s, r)
  | d + 1, it, s, r => if (item tp t (r 2).toNatClampNeg s r).1 = true then (if (item tp t (r 2).toNatClampNeg s r).2.1 = t then (nI it, (item tp t (r 2).toNatClampNeg s r).2.2) else if takeB tp t (item tp t (r 2).toNatClampNeg s r).2.1 (tTX.getD 12 []) = true then readL tp t d (it + 1) (nxt tp t (item tp t (r 2).toNatClampNeg s r).2.1) (item tp t (r 2).toNatClampNeg s r).2.2 else (-1 - nI (item tp t (r 2).toNatClampNeg s r).2.1, (item tp t (r 2).toNatClampNeg s r).2.2)) else (-1 - nI (item tp t (r 2).toNatClampNeg s r).2.1, (item tp t (r 2).toNatClampNeg s r).2.2)
theorem sX4_readInto (hx : exOK θ w b) (hS : exS θ) (hv : invR A m) (ht : t ≤ 120) (hQ : ∀ rs re, Q (some (.int (readL tp t 120 1 (tokS tp t 0) A).1)) (cW w b P (readL tp t 120 1 (tokS tp t 0) A).2 K kp tp (nI t) rs re sh fd)) : sg θ (n + 9) 185 [.ref (b + 9), .ref (b + 25)] (cW w b P A K kp tp (nI t) rs re sh fd) Q := by
  rw [nX4_readInto]
  generalize ((cW w b P A K kp tp (nI t) rs re sh fd).2.1 + 0, (cW w b P A K kp tp (nI t) rs re sh fd).2.2 + 0) = lim
  have loop : ∀ d it s r m, it + d = 121 → s ≤ t → invR r m → (∀ rs re, Q (some (.int (readL tp t d it s r).1)) (cW w b P (readL tp t d it s r).2 K kp tp (nI t) rs re sh fd)) → Wp (xX4_readInto θ (n + 8) lim) Q (6, [some (.ref (b + 9)), some (.ref (b + 25)), some (.int (nI it))], [], cW w b P r K kp tp (nI t) (nI s) (nI (tokE tp t s)) sh fd) := by
    intro d
    induction d with
    | zero =>
      intro it s r m hit hs hv hQ
      have hit : it = 121 := by omega
      subst hit
      rw [eX4_readInto_6]
      simp only [readL] at hQ
      simp only [eX4_readInto_0, eX4_readInto_1, eX4_readInto_4, eX4_readInto_5, eX4_readInto_7, eX4_readInto_9, eX4_readInto_12, eX4_readInto_13, eX4_readInto_14, eX4_readInto_17, eX4_readInto_20, eX4_readInto_21, eX4_readInto_22, eX4_readInto_25, eX4_readInto_26, eX4_readInto_27, eX4_readInto_28, eX4_readInto_31, eX4_readInto_34, eX4_readInto_35, eX4_readInto_36, eX4_readInto_37, eX4_readInto_39, eX4_readInto_42, eX4_readInto_45, eX4_readInto_46, eX4_readInto_47, eX4_readInto_50, eX4_readInto_51, eX4_readInto_52, eX4_readInto_55, eX4_readInto_58, eX4_readInto_59, eX4_readInto_60, eX4_readInto_63, eX4_readInto_64, cw_is, cw_isP, cw_isA, cw_isK, cw_kp, cw_tis, cw_t0, cw_t1, cw_t2, cw_t3, cw_tp, cw_bn, cw_bw, cw_bv, cw_bs, cw_rp1, cw_rp2, cw_rn, cw_rg, cw_rl, cw_fn, cw_fw, cw_fv, cw_fs, cw_f0, cw_f1, cw_f2, cw_f3, cw_f4, cw_f5, cw_f6, p_n0, p_n1, p_n2, p_n3, p_n4, p_n5, p_n6, p_w0, p_w1, p_w2, p_w3, p_w4, p_w5, p_w6, p_v0, p_v1, p_v2, p_v3, p_v4, p_v5, p_v6, p_s0, p_s1, p_s2, p_s3, p_s4, p_s5, p_s6, a_n0, a_n1, a_n2, a_n3, a_n4, a_n5, a_n6, a_w0, a_w1, a_w2, a_w3, a_w4, a_w5, a_w6, a_v0, a_v1, a_v2, a_v3, a_v4, a_v5, a_v6, a_s0, a_s1, a_s2, a_s3, a_s4, a_s5, a_s6, p_f0, p_f1, p_f2, p_f3, p_f4, p_f5, p_f6, p_f7, p_f8, p_f9, a_f0, a_f1, a_f2, a_f3, a_f4, a_f5, a_f6, a_f7, a_f8, a_f9, p_p1, a_p1, cpAP, cpKP, cpPK, cpPA, Option.elim_some, true_and, and_true, Option.toList_some, Option.toList_none, List.cons_append, List.nil_append, sX3_looksAt, sX3_isAllTaken, decide_true, decide_false, bI_t, bI_f, i10, show ((120 : Int32) < nI 121) = True by decide, if_true]
      exact hQ _ _
    | succ d ih =>
      intro it s r m hit hs hv hQ
      have hm : (r 2).toNatClampNeg = m := by rw [hv.1.1]; exact nI_clamp (by have := hv.1.2.1; omega)
      have hk := fun n Q => sX4_takeItem (θ := θ) (n := n) (w := w) (b := b) (P := P) (A := r) (K := K) (kp := kp) (tp := tp) (sh := sh) (fd := fd) (Q := Q) hx hS hv.1.1 hv.1.2.1 hs ht
      obtain ⟨hi1, hi2⟩ := item_ok (tp := tp) hv hs
      have h120 : ¬ (120 : Int32) < nI it := (show ¬ nI 120 < nI it from nI_nlt (show it ≤ 120 by omega) (by decide))
      unfold readL at hQ
      rw [hm] at hQ
      rw [eX4_readInto_6]
      generalize item tp t m s r = z at hQ hk hi1 hi2 ⊢
      obtain ⟨ok, s1, r1⟩ := z
      simp only at hQ hk hi1 hi2
      cases ok with
      | false =>
        simp only [Bool.false_eq_true, if_false] at hQ
        simp only [eX4_readInto_0, eX4_readInto_1, eX4_readInto_4, eX4_readInto_5, eX4_readInto_7, eX4_readInto_9, eX4_readInto_12, eX4_readInto_13, eX4_readInto_14, eX4_readInto_17, eX4_readInto_20, eX4_readInto_21, eX4_readInto_22, eX4_readInto_25, eX4_readInto_26, eX4_readInto_27, eX4_readInto_28, eX4_readInto_31, eX4_readInto_34, eX4_readInto_35, eX4_readInto_36, eX4_readInto_37, eX4_readInto_39, eX4_readInto_42, eX4_readInto_45, eX4_readInto_46, eX4_readInto_47, eX4_readInto_50, eX4_readInto_51, eX4_readInto_52, eX4_readInto_55, eX4_readInto_58, eX4_readInto_59, eX4_readInto_60, eX4_readInto_63, eX4_readInto_64, cw_is, cw_isP, cw_isA, cw_isK, cw_kp, cw_tis, cw_t0, cw_t1, cw_t2, cw_t3, cw_tp, cw_bn, cw_bw, cw_bv, cw_bs, cw_rp1, cw_rp2, cw_rn, cw_rg, cw_rl, cw_fn, cw_fw, cw_fv, cw_fs, cw_f0, cw_f1, cw_f2, cw_f3, cw_f4, cw_f5, cw_f6, p_n0, p_n1, p_n2, p_n3, p_n4, p_n5, p_n6, p_w0, p_w1, p_w2, p_w3, p_w4, p_w5, p_w6, p_v0, p_v1, p_v2, p_v3, p_v4, p_v5, p_v6, p_s0, p_s1, p_s2, p_s3, p_s4, p_s5, p_s6, a_n0, a_n1, a_n2, a_n3, a_n4, a_n5, a_n6, a_w0, a_w1, a_w2, a_w3, a_w4, a_w5, a_w6, a_v0, a_v1, a_v2, a_v3, a_v4, a_v5, a_v6, a_s0, a_s1, a_s2, a_s3, a_s4, a_s5, a_s6, p_f0, p_f1, p_f2, p_f3, p_f4, p_f5, p_f6, p_f7, p_f8, p_f9, a_f0, a_f1, a_f2, a_f3, a_f4, a_f5, a_f6, a_f7, a_f8, a_f9, p_p1, a_p1, cpAP, cpKP, cpPK, cpPA, Option.elim_some, true_and, and_true, Option.toList_some, Option.toList_none, List.cons_append, List.nil_append, sX3_looksAt, sX3_isAllTaken, decide_true, decide_false, bI_t, bI_f, i10, h120, if_false, hk, bI_f, if_true]
        exact hQ _ _
      | true =>
        obtain ⟨hlt, m1, hv1⟩ := hi2 rfl
        simp only [if_true] at hQ
        by_cases he : s1 = t
        · subst he
          simp only [if_true] at hQ
          simp only [eX4_readInto_0, eX4_readInto_1, eX4_readInto_4, eX4_readInto_5, eX4_readInto_7, eX4_readInto_9, eX4_readInto_12, eX4_readInto_13, eX4_readInto_14, eX4_readInto_17, eX4_readInto_20, eX4_readInto_21, eX4_readInto_22, eX4_readInto_25, eX4_readInto_26, eX4_readInto_27, eX4_readInto_28, eX4_readInto_31, eX4_readInto_34, eX4_readInto_35, eX4_readInto_36, eX4_readInto_37, eX4_readInto_39, eX4_readInto_42, eX4_readInto_45, eX4_readInto_46, eX4_readInto_47, eX4_readInto_50, eX4_readInto_51, eX4_readInto_52, eX4_readInto_55, eX4_readInto_58, eX4_readInto_59, eX4_readInto_60, eX4_readInto_63, eX4_readInto_64, cw_is, cw_isP, cw_isA, cw_isK, cw_kp, cw_tis, cw_t0, cw_t1, cw_t2, cw_t3, cw_tp, cw_bn, cw_bw, cw_bv, cw_bs, cw_rp1, cw_rp2, cw_rn, cw_rg, cw_rl, cw_fn, cw_fw, cw_fv, cw_fs, cw_f0, cw_f1, cw_f2, cw_f3, cw_f4, cw_f5, cw_f6, p_n0, p_n1, p_n2, p_n3, p_n4, p_n5, p_n6, p_w0, p_w1, p_w2, p_w3, p_w4, p_w5, p_w6, p_v0, p_v1, p_v2, p_v3, p_v4, p_v5, p_v6, p_s0, p_s1, p_s2, p_s3, p_s4, p_s5, p_s6, a_n0, a_n1, a_n2, a_n3, a_n4, a_n5, a_n6, a_w0, a_w1, a_w2, a_w3, a_w4, a_w5, a_w6, a_v0, a_v1, a_v2, a_v3, a_v4, a_v5, a_v6, a_s0, a_s1, a_s2, a_s3, a_s4, a_s5, a_s6, p_f0, p_f1, p_f2, p_f3, p_f4, p_f5, p_f6, p_f7, p_f8, p_f9, a_f0, a_f1, a_f2, a_f3, a_f4, a_f5, a_f6, a_f7, a_f8, a_f9, p_p1, a_p1, cpAP, cpKP, cpPK, cpPA, Option.elim_some, true_and, and_true, Option.toList_some, Option.toList_none, List.cons_append, List.nil_append, sX3_looksAt, sX3_isAllTaken, decide_true, decide_false, bI_t, bI_f, i10, h120, if_false, hk, bI_t, i10, if_true]
          exact hQ _ _
        · have hne : ¬ nI s1 = nI t := fun q => he ((nI_eq (by omega) (by omega)).mp q)
          have htk := fun n A Q => sX3_take (θ := θ) (n := n) (w := w) (b := b) (P := P) (A := A) (K := K) (kp := kp) (tp := tp) (sh := sh) (fd := fd) (Q := Q) hx hS (show tTX[12]? = some (tTX.getD 12 []) by decide) hi1 ht
          by_cases hb : takeB tp t s1 (tTX.getD 12 []) = true
          · simp only [he, hb, if_true, if_false] at hQ
            have ih := ih (it + 1) (nxt tp t s1) r1 m1 (by omega) (nxt_le hi1).2 hv1 hQ
            rw [nI_succ it] at ih
            simp only [eX4_readInto_0, eX4_readInto_1, eX4_readInto_4, eX4_readInto_5, eX4_readInto_7, eX4_readInto_9, eX4_readInto_12, eX4_readInto_13, eX4_readInto_14, eX4_readInto_17, eX4_readInto_20, eX4_readInto_21, eX4_readInto_22, eX4_readInto_25, eX4_readInto_26, eX4_readInto_27, eX4_readInto_28, eX4_readInto_31, eX4_readInto_34, eX4_readInto_35, eX4_readInto_36, eX4_readInto_37, eX4_readInto_39, eX4_readInto_42, eX4_readInto_45, eX4_readInto_46, eX4_readInto_47, eX4_readInto_50, eX4_readInto_51, eX4_readInto_52, eX4_readInto_55, eX4_readInto_58, eX4_readInto_59, eX4_readInto_60, eX4_readInto_63, eX4_readInto_64, cw_is, cw_isP, cw_isA, cw_isK, cw_kp, cw_tis, cw_t0, cw_t1, cw_t2, cw_t3, cw_tp, cw_bn, cw_bw, cw_bv, cw_bs, cw_rp1, cw_rp2, cw_rn, cw_rg, cw_rl, cw_fn, cw_fw, cw_fv, cw_fs, cw_f0, cw_f1, cw_f2, cw_f3, cw_f4, cw_f5, cw_f6, p_n0, p_n1, p_n2, p_n3, p_n4, p_n5, p_n6, p_w0, p_w1, p_w2, p_w3, p_w4, p_w5, p_w6, p_v0, p_v1, p_v2, p_v3, p_v4, p_v5, p_v6, p_s0, p_s1, p_s2, p_s3, p_s4, p_s5, p_s6, a_n0, a_n1, a_n2, a_n3, a_n4, a_n5, a_n6, a_w0, a_w1, a_w2, a_w3, a_w4, a_w5, a_w6, a_v0, a_v1, a_v2, a_v3, a_v4, a_v5, a_v6, a_s0, a_s1, a_s2, a_s3, a_s4, a_s5, a_s6, p_f0, p_f1, p_f2, p_f3, p_f4, p_f5, p_f6, p_f7, p_f8, p_f9, a_f0, a_f1, a_f2, a_f3, a_f4, a_f5, a_f6, a_f7, a_f8, a_f9, p_p1, a_p1, cpAP, cpKP, cpPK, cpPA, Option.elim_some, true_and, and_true, Option.toList_some, Option.toList_none, List.cons_append, List.nil_append, sX3_looksAt, sX3_isAllTaken, decide_true, decide_false, bI_t, bI_f, i10, h120, if_false, hk, bI_t, i10, hne, htk, hb, if_true]
            exact ih
          · simp only [he, hb, if_false, Bool.false_eq_true] at hQ
            simp only [eX4_readInto_0, eX4_readInto_1, eX4_readInto_4, eX4_readInto_5, eX4_readInto_7, eX4_readInto_9, eX4_readInto_12, eX4_readInto_13, eX4_readInto_14, eX4_readInto_17, eX4_readInto_20, eX4_readInto_21, eX4_readInto_22, eX4_readInto_25, eX4_readInto_26, eX4_readInto_27, eX4_readInto_28, eX4_readInto_31, eX4_readInto_34, eX4_readInto_35, eX4_readInto_36, eX4_readInto_37, eX4_readInto_39, eX4_readInto_42, eX4_readInto_45, eX4_readInto_46, eX4_readInto_47, eX4_readInto_50, eX4_readInto_51, eX4_readInto_52, eX4_readInto_55, eX4_readInto_58, eX4_readInto_59, eX4_readInto_60, eX4_readInto_63, eX4_readInto_64, cw_is, cw_isP, cw_isA, cw_isK, cw_kp, cw_tis, cw_t0, cw_t1, cw_t2, cw_t3, cw_tp, cw_bn, cw_bw, cw_bv, cw_bs, cw_rp1, cw_rp2, cw_rn, cw_rg, cw_rl, cw_fn, cw_fw, cw_fv, cw_fs, cw_f0, cw_f1, cw_f2, cw_f3, cw_f4, cw_f5, cw_f6, p_n0, p_n1, p_n2, p_n3, p_n4, p_n5, p_n6, p_w0, p_w1, p_w2, p_w3, p_w4, p_w5, p_w6, p_v0, p_v1, p_v2, p_v3, p_v4, p_v5, p_v6, p_s0, p_s1, p_s2, p_s3, p_s4, p_s5, p_s6, a_n0, a_n1, a_n2, a_n3, a_n4, a_n5, a_n6, a_w0, a_w1, a_w2, a_w3, a_w4, a_w5, a_w6, a_v0, a_v1, a_v2, a_v3, a_v4, a_v5, a_v6, a_s0, a_s1, a_s2, a_s3, a_s4, a_s5, a_s6, p_f0, p_f1, p_f2, p_f3, p_f4, p_f5, p_f6, p_f7, p_f8, p_f9, a_f0, a_f1, a_f2, a_f3, a_f4, a_f5, a_f6, a_f7, a_f8, a_f9, p_p1, a_p1, cpAP, cpKP, cpPK, cpPA, Option.elim_some, true_and, and_true, Option.toList_some, Option.toList_none, List.cons_append, List.nil_append, sX3_looksAt, sX3_isAllTaken, decide_true, decide_false, bI_t, bI_f, i10, h120, if_false, hk, bI_t, i10, hne, htk, hb, if_true, Bool.false_eq_true]
            exact hQ _ _
  simp only [eX4_readInto_0, eX4_readInto_1, eX4_readInto_4, eX4_readInto_5, eX4_readInto_7, eX4_readInto_9, eX4_readInto_12, eX4_readInto_13, eX4_readInto_14, eX4_readInto_17, eX4_readInto_20, eX4_readInto_21, eX4_readInto_22, eX4_readInto_25, eX4_readInto_26, eX4_readInto_27, eX4_readInto_28, eX4_readInto_31, eX4_readInto_34, eX4_readInto_35, eX4_readInto_36, eX4_readInto_37, eX4_readInto_39, eX4_readInto_42, eX4_readInto_45, eX4_readInto_46, eX4_readInto_47, eX4_readInto_50, eX4_readInto_51, eX4_readInto_52, eX4_readInto_55, eX4_readInto_58, eX4_readInto_59, eX4_readInto_60, eX4_readInto_63, eX4_readInto_64, cw_is, cw_isP, cw_isA, cw_isK, cw_kp, cw_tis, cw_t0, cw_t1, cw_t2, cw_t3, cw_tp, cw_bn, cw_bw, cw_bv, cw_bs, cw_rp1, cw_rp2, cw_rn, cw_rg, cw_rl, cw_fn, cw_fw, cw_fv, cw_fs, cw_f0, cw_f1, cw_f2, cw_f3, cw_f4, cw_f5, cw_f6, p_n0, p_n1, p_n2, p_n3, p_n4, p_n5, p_n6, p_w0, p_w1, p_w2, p_w3, p_w4, p_w5, p_w6, p_v0, p_v1, p_v2, p_v3, p_v4, p_v5, p_v6, p_s0, p_s1, p_s2, p_s3, p_s4, p_s5, p_s6, a_n0, a_n1, a_n2, a_n3, a_n4, a_n5, a_n6, a_w0, a_w1, a_w2, a_w3, a_w4, a_w5, a_w6, a_v0, a_v1, a_v2, a_v3, a_v4, a_v5, a_v6, a_s0, a_s1, a_s2, a_s3, a_s4, a_s5, a_s6, p_f0, p_f1, p_f2, p_f3, p_f4, p_f5, p_f6, p_f7, p_f8, p_f9, a_f0, a_f1, a_f2, a_f3, a_f4, a_f5, a_f6, a_f7, a_f8, a_f9, p_p1, a_p1, cpAP, cpKP, cpPK, cpPA, Option.elim_some, true_and, and_true, Option.toList_some, Option.toList_none, List.cons_append, List.nil_append, sX3_lookAtFirst ht]
  exact loop 120 1 _ A m (by omega) (tokS_le (Nat.zero_le t)).2 hv hQ
def avR (tp : Nat → Int32) (t : Nat) (P : rR) : Int32 × rR := readL tp t 120 1 (tokS tp t 0) P
theorem sX5_avenue (hx : exOK θ w b) (hS : exS θ) (hv : invR P m) (ht : t ≤ 120) (hQ : ∀ A rs re, Q (some (.int (avR tp t P).1)) (cW w b (if (avR tp t P).1 < 0 then P else (avR tp t P).2) A K kp tp 0 rs re sh fd)) : sg θ (n + 10) 67 [.ref b] (cW w b P A K kp tp (nI t) rs re sh fd) Q := by
  rw [nX5_avenue]
  simp only [eX5_avenue_0, eX5_avenue_1, eX5_avenue_4, eX5_avenue_5, eX5_avenue_8, eX5_avenue_9, eX5_avenue_12, eX5_avenue_15, eX5_avenue_16, eX5_avenue_17, eX5_avenue_20, eX5_avenue_21, eX5_avenue_24, eX5_avenue_25, eX5_avenue_28, eX5_avenue_31, eX5_avenue_32, eX5_avenue_35, eX5_avenue_36, eX5_avenue_39, eX5_avenue_40, cw_is, cw_isP, cw_isA, cw_isK, cw_kp, cw_tis, cw_t0, cw_t1, cw_t2, cw_t3, cw_tp, cw_bn, cw_bw, cw_bv, cw_bs, cw_rp1, cw_rp2, cw_rn, cw_rg, cw_rl, cw_fn, cw_fw, cw_fv, cw_fs, cw_f0, cw_f1, cw_f2, cw_f3, cw_f4, cw_f5, cw_f6, p_n0, p_n1, p_n2, p_n3, p_n4, p_n5, p_n6, p_w0, p_w1, p_w2, p_w3, p_w4, p_w5, p_w6, p_v0, p_v1, p_v2, p_v3, p_v4, p_v5, p_v6, p_s0, p_s1, p_s2, p_s3, p_s4, p_s5, p_s6, a_n0, a_n1, a_n2, a_n3, a_n4, a_n5, a_n6, a_w0, a_w1, a_w2, a_w3, a_w4, a_w5, a_w6, a_v0, a_v1, a_v2, a_v3, a_v4, a_v5, a_v6, a_s0, a_s1, a_s2, a_s3, a_s4, a_s5, a_s6, p_f0, p_f1, p_f2, p_f3, p_f4, p_f5, p_f6, p_f7, p_f8, p_f9, a_f0, a_f1, a_f2, a_f3, a_f4, a_f5, a_f6, a_f7, a_f8, a_f9, p_p1, a_p1, cpAP, cpKP, cpPK, cpPA, Option.elim_some, true_and, and_true, Option.toList_some, Option.toList_none, List.cons_append, List.nil_append, sX5_lookAhead]
  refine sX4_readInto hx hS hv ht (fun rs re => ?_)
  show Wp _ Q _
  unfold avR at hQ
  generalize readL tp t 120 1 (tokS tp t 0) P = z at hQ ⊢
  by_cases h : z.1 < 0
  · simp only [h, if_true] at hQ
    simp only [eX5_avenue_0, eX5_avenue_1, eX5_avenue_4, eX5_avenue_5, eX5_avenue_8, eX5_avenue_9, eX5_avenue_12, eX5_avenue_15, eX5_avenue_16, eX5_avenue_17, eX5_avenue_20, eX5_avenue_21, eX5_avenue_24, eX5_avenue_25, eX5_avenue_28, eX5_avenue_31, eX5_avenue_32, eX5_avenue_35, eX5_avenue_36, eX5_avenue_39, eX5_avenue_40, cw_is, cw_isP, cw_isA, cw_isK, cw_kp, cw_tis, cw_t0, cw_t1, cw_t2, cw_t3, cw_tp, cw_bn, cw_bw, cw_bv, cw_bs, cw_rp1, cw_rp2, cw_rn, cw_rg, cw_rl, cw_fn, cw_fw, cw_fv, cw_fs, cw_f0, cw_f1, cw_f2, cw_f3, cw_f4, cw_f5, cw_f6, p_n0, p_n1, p_n2, p_n3, p_n4, p_n5, p_n6, p_w0, p_w1, p_w2, p_w3, p_w4, p_w5, p_w6, p_v0, p_v1, p_v2, p_v3, p_v4, p_v5, p_v6, p_s0, p_s1, p_s2, p_s3, p_s4, p_s5, p_s6, a_n0, a_n1, a_n2, a_n3, a_n4, a_n5, a_n6, a_w0, a_w1, a_w2, a_w3, a_w4, a_w5, a_w6, a_v0, a_v1, a_v2, a_v3, a_v4, a_v5, a_v6, a_s0, a_s1, a_s2, a_s3, a_s4, a_s5, a_s6, p_f0, p_f1, p_f2, p_f3, p_f4, p_f5, p_f6, p_f7, p_f8, p_f9, a_f0, a_f1, a_f2, a_f3, a_f4, a_f5, a_f6, a_f7, a_f8, a_f9, p_p1, a_p1, cpAP, cpKP, cpPK, cpPA, Option.elim_some, true_and, and_true, Option.toList_some, Option.toList_none, List.cons_append, List.nil_append, h, if_true]
    exact hQ _ _ _
  · simp only [h, if_false] at hQ
    simp only [eX5_avenue_0, eX5_avenue_1, eX5_avenue_4, eX5_avenue_5, eX5_avenue_8, eX5_avenue_9, eX5_avenue_12, eX5_avenue_15, eX5_avenue_16, eX5_avenue_17, eX5_avenue_20, eX5_avenue_21, eX5_avenue_24, eX5_avenue_25, eX5_avenue_28, eX5_avenue_31, eX5_avenue_32, eX5_avenue_35, eX5_avenue_36, eX5_avenue_39, eX5_avenue_40, cw_is, cw_isP, cw_isA, cw_isK, cw_kp, cw_tis, cw_t0, cw_t1, cw_t2, cw_t3, cw_tp, cw_bn, cw_bw, cw_bv, cw_bs, cw_rp1, cw_rp2, cw_rn, cw_rg, cw_rl, cw_fn, cw_fw, cw_fv, cw_fs, cw_f0, cw_f1, cw_f2, cw_f3, cw_f4, cw_f5, cw_f6, p_n0, p_n1, p_n2, p_n3, p_n4, p_n5, p_n6, p_w0, p_w1, p_w2, p_w3, p_w4, p_w5, p_w6, p_v0, p_v1, p_v2, p_v3, p_v4, p_v5, p_v6, p_s0, p_s1, p_s2, p_s3, p_s4, p_s5, p_s6, a_n0, a_n1, a_n2, a_n3, a_n4, a_n5, a_n6, a_w0, a_w1, a_w2, a_w3, a_w4, a_w5, a_w6, a_v0, a_v1, a_v2, a_v3, a_v4, a_v5, a_v6, a_s0, a_s1, a_s2, a_s3, a_s4, a_s5, a_s6, p_f0, p_f1, p_f2, p_f3, p_f4, p_f5, p_f6, p_f7, p_f8, p_f9, a_f0, a_f1, a_f2, a_f3, a_f4, a_f5, a_f6, a_f7, a_f8, a_f9, p_p1, a_p1, cpAP, cpKP, cpPK, cpPA, Option.elim_some, true_and, and_true, Option.toList_some, Option.toList_none, List.cons_append, List.nil_append, h, if_false]
    exact hQ _ _ _
end T65
