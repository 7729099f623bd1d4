/-! the text: tokens -/
def exS (θ : (Nat → Value) × (Nat → Nat)) : Prop := θ.1 1 = .null ∨ ∃ t4 : Nat, θ.1 1 = .ref t4
def sortB (x : Int32) : Int32 := if 97 ≤ x ∧ x ≤ 122 then 1 else if 48 ≤ x ∧ x ≤ 57 then 2 else 3
def skipP (tp : Nat → Int32) : Nat → Nat → Nat
  | 0, s => s
  | d + 1, s => if tp s = 32 then skipP tp d (s + 1) else s
def runP (tp : Nat → Int32) (k : Int32) : Nat → Nat → Nat
  | 0, e => e
  | d + 1, e => if sortB (tp e) = k then runP tp k d (e + 1) else e
def tokS (tp : Nat → Int32) (t e : Nat) : Nat := skipP tp (t - e) e
def tokE (tp : Nat → Int32) (t s : Nat) : Nat := if s = t then s else if sortB (tp s) = 3 then s + 1 else runP tp (sortB (tp s)) (t - (s + 1)) (s + 1)
def nxt (tp : Nat → Int32) (t s : Nat) : Nat := tokS tp t (tokE tp t s)
theorem skip_ge {tp : Nat → Int32} : ∀ d s, s ≤ skipP tp d s ∧ skipP tp d s ≤ s + d
  | 0, s => ⟨Nat.le_refl _, Nat.le_refl _⟩
  | d + 1, s => by
    unfold skipP
    split
    · have := skip_ge (tp := tp) d (s + 1)
      omega
    · omega
theorem run_ge {tp : Nat → Int32} {k : Int32} : ∀ d s, s ≤ runP tp k d s ∧ runP tp k d s ≤ s + d
  | 0, s => ⟨Nat.le_refl _, Nat.le_refl _⟩
  | d + 1, s => by
    unfold runP
    split
    · have := run_ge (tp := tp) (k := k) d (s + 1)
      omega
    · omega
theorem run_all {tp : Nat → Int32} {k : Int32} : ∀ d s q, s ≤ q → q < runP tp k d s → sortB (tp q) = k
  | 0, s, q, h1, h2 => by simp only [runP] at h2; omega
  | d + 1, s, q, h1, h2 => by
    unfold runP at h2
    split at h2
    · rename_i hk
      by_cases hq : q = s
      · rw [hq]; exact hk
      · exact run_all d (s + 1) q (by omega) h2
    · omega
theorem tokS_le {tp : Nat → Int32} {t e : Nat} (h : e ≤ t) : e ≤ tokS tp t e ∧ tokS tp t e ≤ t := by
  have := skip_ge (tp := tp) (t - e) e
  unfold tokS
  omega
theorem tokE_le {tp : Nat → Int32} {t s : Nat} (h : s ≤ t) : s ≤ tokE tp t s ∧ tokE tp t s ≤ t := by
  unfold tokE
  split
  · omega
  · split
    · omega
    · have := run_ge (tp := tp) (k := sortB (tp s)) (t - (s + 1)) (s + 1)
      omega
theorem tokE_lt {tp : Nat → Int32} {t s : Nat} (h : s < t) : s < tokE tp t s := by
  unfold tokE
  rw [if_neg (by omega)]
  split
  · omega
  · have := run_ge (tp := tp) (k := sortB (tp s)) (t - (s + 1)) (s + 1)
    omega
theorem tokE_all {tp : Nat → Int32} {t s q : Nat} (hs : s < t) (h1 : s ≤ q) (h2 : q < tokE tp t s) : sortB (tp q) = sortB (tp s) := by
  unfold tokE at h2
  rw [if_neg (by omega)] at h2
  split at h2
  · rw [show q = s by omega]
  · by_cases hq : q = s
    · rw [hq]
    · exact run_all _ _ q (by omega) h2
theorem nxt_le {tp : Nat → Int32} {t s : Nat} (h : s ≤ t) : s ≤ nxt tp t s ∧ nxt tp t s ≤ t := by
  have h1 := tokE_le (tp := tp) h
  have h2 := tokS_le (tp := tp) h1.2
  unfold nxt
  omega
theorem nxt_lt {tp : Nat → Int32} {t s : Nat} (h : s < t) : s < nxt tp t s := by
  have h1 := tokE_le (tp := tp) (Nat.le_of_lt h)
  have h2 := tokS_le (tp := tp) h1.2
  have h3 := tokE_lt (tp := tp) h
  unfold nxt
  omega
theorem nI_sub {a b : Nat} (h : b ≤ a) : nI a - nI b = nI (a - b) := by
  have : nI a = nI (a - b) + nI b := by rw [nI_add, Nat.sub_add_cancel h]
  rw [this, Int32.add_sub_cancel]
theorem shr0 (x : Int32) : x >>> (0 &&& 31) = x := by
  rw [show ((0 : Int32) &&& 31) = 0 from rfl]
  simp
theorem getD_at {l : List Int32} {i : Nat} (h : i < l.length) : l.getD i 0 = l[i] := by simp [List.getD, h]
def isTok (tp : Nat → Int32) : Nat → List Int32 → Bool
  | _, [] => true
  | s, c :: cs => decide (tp s = c) && isTok tp (s + 1) cs
def takeB (tp : Nat → Int32) (t s : Nat) (tx : List Int32) : Bool := decide (tokE tp t s - s = tx.length) && isTok tp s tx
theorem txt {θ : (Nat → Value) × (Nat → Nat)} {w : rW} {b j : Nat} {tx : List Int32} (hx : exOK θ w b) (hj : tTX[j]? = some tx) : ∃ vj : Nat, w.1 (θ.2 j) = some (rO 100 [.ref vj, .int 0]) ∧ w.1 vj = some (.inl (3, tx.length, fun q => tx.getD q 0)) := by
  obtain ⟨vj, -, -, h1, h2⟩ := hx.2 j tx hj
  exact ⟨vj, h1, h2⟩
theorem tx_len {j : Nat} {tx : List Int32} (hj : tTX[j]? = some tx) : tx.length ≤ 7 ∧ ∀ c ∈ tx, 0 ≤ c ∧ c < 128 := by
  have hm : tx ∈ tTX := List.mem_of_getElem? hj
  have : ∀ tx ∈ tTX, tx.length ≤ 7 ∧ ∀ c ∈ tx, 0 ≤ c ∧ c < 128 := by decide
  exact this tx hm
theorem ch_same : ∀ c : Nat, c < 128 → (((nI c &&& 255).toUInt32 % 65536).toInt32 = nI c ∧ narrow .char (.int (nI c)) = .int (nI c)) := by decide +kernel
section T62
variable {θ : (Nat → Value) × (Nat → Nat)} {n : Nat} {w : rW} {b : Nat} {P A K : rR} {kp : Int32} {tp : Nat → Int32} {tl rs re : Int32} {sh : rSh} {fd : Nat → Int32} {Q : rQ} {m t : Nat}
theorem sJ0_length {j : Nat} {tx : List Int32} (hx : exOK θ w b) (hj : tTX[j]? = some tx) : sg θ (n + 2) 171 [.ref (θ.2 j)] w Q ↔ Q (some (.int (nI tx.length))) w := by
  obtain ⟨vj, h1, h2⟩ := txt hx hj
  have f0 : rF w (θ.2 j) 100 0 = some (.ref vj) := by simp [rF, h1]
  have f1 : rF w (θ.2 j) 100 1 = some (.int 0) := by simp [rF, h1]
  have fl : rLen w vj = some tx.length := by simp [rLen, h2]
  have is : rIs w (θ.2 j) 100 := ⟨_, h1⟩
  have hc : ∀ n Q, sg θ (n + 1) 172 [.ref (θ.2 j)] w Q ↔ Q (some (.int 0)) w := by
    intro n Q
    rw [nJ0_coder_7d493]
    simp only [eJ0_coder_7d493_0, eJ0_coder_7d493_3, eJ0_coder_7d493_6, eJ0_coder_7d493_7, eJ0_coder_7d493_10, eJ0_coder_7d493_13, eJ0_coder_7d493_14, hx.1, i10, if_false, f1, Option.elim_some, show narrow .byte (.int 0) = .int 0 by decide, true_and]
  rw [nJ0_length_8abf5]
  simp only [eJ0_length_8abf5_0, eJ0_length_8abf5_1, eJ0_length_8abf5_4, eJ0_length_8abf5_5, eJ0_length_8abf5_6, eJ0_length_8abf5_9, eJ0_length_8abf5_10, f0, fl, is, hc, Option.elim_some, true_and, Option.toList_some, List.cons_append, List.nil_append, shr0]
  exact Iff.rfl
theorem eJ0_null {lim : Nat × Nat} {lo : List (Option Value)} {z1 z2 : Int32} : Wp (xJ0_checkIndex_df160 θ n lim) Q (5, lo, [.null, .int z1, .int z2], w) ↔ sg θ n 184 [.int z2, .int z1, .null] w (fun v w' => Wp (xJ0_checkIndex_df160 θ n lim) Q (8, lo, v.toList ++ [], w')) := tt_callS (As := [.int z2, .int z1, .null]) (r := []) (hxJ0_checkIndex_df160 θ n lim) dJ0_checkIndex_df160_5 lkC_7_1059 mJ3_checkIndex_8e157 ⟨rfl, rfl⟩ rfl rfl (Nat.le_of_ble_eq_true rfl)
theorem nJ3_null {p0 p1 : Int32} : sg θ (n + 1) 184 [.int p0, .int p1, .null] w Q ↔ Wp (xJ3_checkIndex_8e157 θ n (w.2.1 + 0, w.2.2 + 0)) Q (0, [some (.int p0), some (.int p1), some .null], [], w) := sg_entry mJ3_checkIndex_8e157 (Nat.le_of_ble_eq_true rfl) ⟨rfl, rfl⟩ rfl rfl
theorem sJ0_charAt {j i : Nat} {tx : List Int32} (hx : exOK θ w b) (hS : exS θ) (hj : tTX[j]? = some tx) (hi : i < tx.length) : sg θ (n + 4) 173 [.ref (θ.2 j), .int (nI i)] w Q ↔ Q (some (.int (tx.getD i 0))) w := by
  obtain ⟨vj, h1, h2⟩ := txt hx hj
  obtain ⟨hl, hch⟩ := tx_len hj
  have f0 : rF w (θ.2 j) 100 0 = some (.ref vj) := by simp [rF, h1]
  have f1 : rF w (θ.2 j) 100 1 = some (.int 0) := by simp [rF, h1]
  have fl : rLen w vj = some tx.length := by simp [rLen, h2]
  have fn : rBn w vj = tx.length := by simp [rBn, h2]
  have fv : rGv w vj = fun q => tx.getD q 0 := by simp [rGv, h2]
  have is : rIs w (θ.2 j) 100 := ⟨_, h1⟩
  have hlt : nI i < Int32.ofNat tx.length := nI_lt hi (by omega)
  have hlat : ∀ n Q, sg θ (n + 1) 174 [.ref (θ.2 j)] w Q ↔ Q (some (.int 1)) w := by
    intro n Q
    rw [nJ0_isLatin1_aae02]
    simp only [eJ0_isLatin1_aae02_0, eJ0_isLatin1_aae02_3, eJ0_isLatin1_aae02_6, eJ0_isLatin1_aae02_7, eJ0_isLatin1_aae02_10, eJ0_isLatin1_aae02_13, eJ0_isLatin1_aae02_14, eJ0_isLatin1_aae02_17, eJ0_isLatin1_aae02_18, hx.1, i10, if_false, if_true, f1, Option.elim_some, nb_1, true_and]
  have hci : ∀ n Q, sg θ (n + 2) 175 [.int (nI i), .int (Int32.ofNat tx.length)] w Q ↔ Q none w := by
    intro n Q
    rw [nJ0_checkIndex_df160]
    rcases hS with h4 | ⟨t4, h4⟩
    · simp only [eJ0_checkIndex_df160_0, eJ0_checkIndex_df160_1, eJ0_checkIndex_df160_2, eJ0_checkIndex_df160_5, eJ0_checkIndex_df160_8, eJ0_checkIndex_df160_9, h4, eJ0_null, nJ3_null, eJ3_checkIndex_8e157_0, eJ3_checkIndex_8e157_1, eJ3_checkIndex_8e157_4, eJ3_checkIndex_8e157_5, eJ3_checkIndex_8e157_6, eJ3_checkIndex_8e157_9, eJ3_checkIndex_8e157_10, eJ3_checkIndex_8e157_11, eJ3_checkIndex_8e157_16, eJ3_checkIndex_8e157_17, nI_pos (show i < 2 ^ 31 by omega), if_false, hlt, if_true, Option.toList_some, List.cons_append, List.nil_append]
    simp only [eJ0_checkIndex_df160_0, eJ0_checkIndex_df160_1, eJ0_checkIndex_df160_2, eJ0_checkIndex_df160_5, eJ0_checkIndex_df160_8, eJ0_checkIndex_df160_9, h4, nJ3_checkIndex_8e157, eJ3_checkIndex_8e157_0, eJ3_checkIndex_8e157_1, eJ3_checkIndex_8e157_4, eJ3_checkIndex_8e157_5, eJ3_checkIndex_8e157_6, eJ3_checkIndex_8e157_9, eJ3_checkIndex_8e157_10, eJ3_checkIndex_8e157_11, eJ3_checkIndex_8e157_16, eJ3_checkIndex_8e157_17, nI_pos (show i < 2 ^ 31 by omega), if_false, hlt, if_true, Option.toList_some, List.cons_append, List.nil_append]
  obtain ⟨hc0, hc1⟩ := hch (tx.getD i 0) (by rw [getD_at hi]; exact List.getElem_mem hi)
  obtain ⟨c, ec, -, hc⟩ := range_nI (l := 0) (h := 127) hc0 (by
    have := Int32.lt_iff_toInt_lt.mp hc1
    rw [Int32.le_iff_toInt_le]
    have e1 : (128 : Int32).toInt = 128 := by decide
    have e2 : (nI 127).toInt = 127 := by decide
    omega) (by decide) (by decide)
  obtain ⟨g1, g2⟩ := ch_same c (by omega)
  have hch1 : ∀ n Q, sg θ (n + 3) 176 [.ref vj, .int (nI i)] w Q ↔ Q (some (.int (tx.getD i 0))) w := by
    intro n Q
    rw [nJ1_charAt_3b067]
    simp only [eJ1_charAt_3b067_0, eJ1_charAt_3b067_1, eJ1_charAt_3b067_2, eJ1_charAt_3b067_3, eJ1_charAt_3b067_6, eJ1_charAt_3b067_7, eJ1_charAt_3b067_8, eJ1_charAt_3b067_9, eJ1_charAt_3b067_12, eJ1_charAt_3b067_13, eJ1_charAt_3b067_14, fl, Option.elim_some, hci, Option.toList_none, List.nil_append, fn, fv, vp_in_nI hi (show tx.length < 2 ^ 31 by omega), nI_clamp (show i < 2 ^ 31 by omega), true_and, ec, g1, g2]
  rw [nJ0_charAt_5068e]
  have g3 : narrow .char (.int (tx.getD i 0)) = .int (tx.getD i 0) := by rw [ec]; exact g2
  simp only [eJ0_charAt_5068e_0, eJ0_charAt_5068e_1, eJ0_charAt_5068e_4, eJ0_charAt_5068e_7, eJ0_charAt_5068e_8, eJ0_charAt_5068e_11, eJ0_charAt_5068e_12, eJ0_charAt_5068e_15, eJ0_charAt_5068e_16, eJ0_charAt_5068e_17, eJ0_charAt_5068e_20, eJ0_charAt_5068e_21, eJ0_charAt_5068e_24, is, hlat, i10, if_false, f0, Option.elim_some, hch1, true_and, Option.toList_some, List.cons_append, List.nil_append, g3]
theorem sX3_sortOf {x : Int32} : sg θ (n + 1) 33 [.int x] w Q ↔ Q (some (.int (sortB x))) w := by
  rw [nX3_sortOf]
  simp only [eX3_sortOf_0, eX3_sortOf_1, eX3_sortOf_3, eX3_sortOf_6, eX3_sortOf_7, eX3_sortOf_9, eX3_sortOf_12, eX3_sortOf_13, eX3_sortOf_14, eX3_sortOf_15, eX3_sortOf_17, eX3_sortOf_20, eX3_sortOf_21, eX3_sortOf_23, eX3_sortOf_26, eX3_sortOf_27, eX3_sortOf_30, eX3_sortOf_31, sortB, ← Int32.not_lt (a := x) (b := 97), ← Int32.not_lt (a := 122) (b := x), ← Int32.not_lt (a := x) (b := 48), ← Int32.not_lt (a := 57) (b := x)]
  by_cases h1 : x < 97 <;> by_cases h2 : 122 < x <;> by_cases h3 : x < 48 <;> by_cases h4 : 57 < x <;> simp only [h1, h2, h3, h4, if_true, if_false, not_true, not_false_iff, and_true, true_and, and_self, and_false, false_and]
theorem sX3_isAllTaken : sg θ (n + 1) 32 [.ref (b + 25)] (cW w b P A K kp tp tl rs re sh fd) Q ↔ Q (some (.int (bI (decide (rs = tl))))) (cW w b P A K kp tp tl rs re sh fd) := by
  rw [nX3_isAllTaken]
  simp only [eX3_isAllTaken_0, eX3_isAllTaken_1, eX3_isAllTaken_4, eX3_isAllTaken_5, eX3_isAllTaken_8, eX3_isAllTaken_11, eX3_isAllTaken_12, eX3_isAllTaken_15, eX3_isAllTaken_16, cw_is, cw_isP, cw_isA, cw_isK, cw_kp, cw_tis, cw_t0, cw_t1, cw_t2, cw_t3, cw_tp, cw_bn, cw_bw, cw_bv, cw_bs, cw_rp1, cw_rp2, cw_rn, cw_rg, cw_rl, cw_fn, cw_fw, cw_fv, cw_fs, cw_f0, cw_f1, cw_f2, cw_f3, cw_f4, cw_f5, cw_f6, p_n0, p_n1, p_n2, p_n3, p_n4, p_n5, p_n6, p_w0, p_w1, p_w2, p_w3, p_w4, p_w5, p_w6, p_v0, p_v1, p_v2, p_v3, p_v4, p_v5, p_v6, p_s0, p_s1, p_s2, p_s3, p_s4, p_s5, p_s6, a_n0, a_n1, a_n2, a_n3, a_n4, a_n5, a_n6, a_w0, a_w1, a_w2, a_w3, a_w4, a_w5, a_w6, a_v0, a_v1, a_v2, a_v3, a_v4, a_v5, a_v6, a_s0, a_s1, a_s2, a_s3, a_s4, a_s5, a_s6, p_f0, p_f1, p_f2, p_f3, p_f4, p_f5, p_f6, p_f7, p_f8, p_f9, a_f0, a_f1, a_f2, a_f3, a_f4, a_f5, a_f6, a_f7, a_f8, a_f9, p_p1, a_p1, cpAP, cpKP, cpPK, cpPA, Option.elim_some, true_and, and_true, Option.toList_some, Option.toList_none, List.cons_append, List.nil_append]
  by_cases h : rs = tl
  · simp [h, bI, nb_1]
  · simp [h, bI, nb_0]
theorem sX3_looksAt : sg θ (n + 1) 36 [.ref (b + 25)] (cW w b P A K kp tp tl rs re sh fd) Q ↔ Q (some (.int rs)) (cW w b P A K kp tp tl rs re sh fd) := by
  rw [nX3_looksAt]
  simp only [eX3_looksAt_0, eX3_looksAt_1, eX3_looksAt_4, cw_is, cw_isP, cw_isA, cw_isK, cw_kp, cw_tis, cw_t0, cw_t1, cw_t2, cw_t3, cw_tp, cw_bn, cw_bw, cw_bv, cw_bs, cw_rp1, cw_rp2, cw_rn, cw_rg, cw_rl, cw_fn, cw_fw, cw_fv, cw_fs, cw_f0, cw_f1, cw_f2, cw_f3, cw_f4, cw_f5, cw_f6, p_n0, p_n1, p_n2, p_n3, p_n4, p_n5, p_n6, p_w0, p_w1, p_w2, p_w3, p_w4, p_w5, p_w6, p_v0, p_v1, p_v2, p_v3, p_v4, p_v5, p_v6, p_s0, p_s1, p_s2, p_s3, p_s4, p_s5, p_s6, a_n0, a_n1, a_n2, a_n3, a_n4, a_n5, a_n6, a_w0, a_w1, a_w2, a_w3, a_w4, a_w5, a_w6, a_v0, a_v1, a_v2, a_v3, a_v4, a_v5, a_v6, a_s0, a_s1, a_s2, a_s3, a_s4, a_s5, a_s6, p_f0, p_f1, p_f2, p_f3, p_f4, p_f5, p_f6, p_f7, p_f8, p_f9, a_f0, a_f1, a_f2, a_f3, a_f4, a_f5, a_f6, a_f7, a_f8, a_f9, p_p1, a_p1, cpAP, cpKP, cpPK, cpPA, Option.elim_some, true_and, and_true, Option.toList_some, Option.toList_none, List.cons_append, List.nil_append]
theorem sX3_lookAtNext {e : Nat} (he : e ≤ t) (ht : t ≤ 120) : sg θ (n + 2) 31 [.ref (b + 25)] (cW w b P A K kp tp (nI t) rs (nI e) sh fd) Q ↔ Q none (cW w b P A K kp tp (nI t) (nI (tokS tp t e)) (nI (tokE tp t (tokS tp t e))) sh fd) := by
  rw [nX3_lookAtNext]
  generalize ((cW w b P A K kp tp (nI t) rs (nI e) sh fd).2.1 + 0, (cW w b P A K kp tp (nI t) rs (nI e) sh fd).2.2 + 0) = lim
  have loop2 : ∀ (k : Int32) (s : Nat) d e, e + d = t → (Wp (xX3_lookAtNext θ (n + 1) lim) Q (85, [some (.ref (b + 25)), some (.int k)], [], cW w b P A K kp tp (nI t) (nI s) (nI e) sh fd) ↔ Q none (cW w b P A K kp tp (nI t) (nI s) (nI (if k = 3 then e else runP tp k d e)) sh fd)) := by
    intro k s d
    induction d with
    | zero =>
      intro e he
      have he : e = t := by omega
      subst he
      rw [eX3_lookAtNext_85]
      by_cases hk : k = 3 <;> simp only [eX3_lookAtNext_0, eX3_lookAtNext_1, eX3_lookAtNext_2, eX3_lookAtNext_5, eX3_lookAtNext_9, eX3_lookAtNext_12, eX3_lookAtNext_13, eX3_lookAtNext_16, eX3_lookAtNext_19, eX3_lookAtNext_20, eX3_lookAtNext_23, eX3_lookAtNext_24, eX3_lookAtNext_27, eX3_lookAtNext_28, eX3_lookAtNext_30, eX3_lookAtNext_33, eX3_lookAtNext_34, eX3_lookAtNext_35, eX3_lookAtNext_38, eX3_lookAtNext_39, eX3_lookAtNext_40, eX3_lookAtNext_43, eX3_lookAtNext_46, eX3_lookAtNext_47, eX3_lookAtNext_48, eX3_lookAtNext_51, eX3_lookAtNext_54, eX3_lookAtNext_55, eX3_lookAtNext_58, eX3_lookAtNext_61, eX3_lookAtNext_62, eX3_lookAtNext_63, eX3_lookAtNext_66, eX3_lookAtNext_67, eX3_lookAtNext_70, eX3_lookAtNext_71, eX3_lookAtNext_74, eX3_lookAtNext_75, eX3_lookAtNext_76, eX3_lookAtNext_77, eX3_lookAtNext_80, eX3_lookAtNext_81, eX3_lookAtNext_82, eX3_lookAtNext_86, eX3_lookAtNext_87, eX3_lookAtNext_90, eX3_lookAtNext_91, eX3_lookAtNext_94, eX3_lookAtNext_95, eX3_lookAtNext_98, eX3_lookAtNext_101, eX3_lookAtNext_102, eX3_lookAtNext_105, eX3_lookAtNext_106, eX3_lookAtNext_109, eX3_lookAtNext_110, eX3_lookAtNext_113, eX3_lookAtNext_114, eX3_lookAtNext_117, eX3_lookAtNext_118, eX3_lookAtNext_119, eX3_lookAtNext_122, eX3_lookAtNext_123, eX3_lookAtNext_124, eX3_lookAtNext_127, eX3_lookAtNext_130, cw_is, cw_isP, cw_isA, cw_isK, cw_kp, cw_tis, cw_t0, cw_t1, cw_t2, cw_t3, cw_tp, cw_bn, cw_bw, cw_bv, cw_bs, cw_rp1, cw_rp2, cw_rn, cw_rg, cw_rl, cw_fn, cw_fw, cw_fv, cw_fs, cw_f0, cw_f1, cw_f2, cw_f3, cw_f4, cw_f5, cw_f6, p_n0, p_n1, p_n2, p_n3, p_n4, p_n5, p_n6, p_w0, p_w1, p_w2, p_w3, p_w4, p_w5, p_w6, p_v0, p_v1, p_v2, p_v3, p_v4, p_v5, p_v6, p_s0, p_s1, p_s2, p_s3, p_s4, p_s5, p_s6, a_n0, a_n1, a_n2, a_n3, a_n4, a_n5, a_n6, a_w0, a_w1, a_w2, a_w3, a_w4, a_w5, a_w6, a_v0, a_v1, a_v2, a_v3, a_v4, a_v5, a_v6, a_s0, a_s1, a_s2, a_s3, a_s4, a_s5, a_s6, p_f0, p_f1, p_f2, p_f3, p_f4, p_f5, p_f6, p_f7, p_f8, p_f9, a_f0, a_f1, a_f2, a_f3, a_f4, a_f5, a_f6, a_f7, a_f8, a_f9, p_p1, a_p1, cpAP, cpKP, cpPK, cpPA, Option.elim_some, true_and, and_true, Option.toList_some, Option.toList_none, List.cons_append, List.nil_append, hk, if_true, if_false, Int32.le_refl, runP]
    | succ d ih =>
      intro e he
      have ih := ih (e + 1) (by omega)
      rw [nI_succ] at ih
      rw [eX3_lookAtNext_85]
      by_cases hk : k = 3
      · simp only [eX3_lookAtNext_0, eX3_lookAtNext_1, eX3_lookAtNext_2, eX3_lookAtNext_5, eX3_lookAtNext_9, eX3_lookAtNext_12, eX3_lookAtNext_13, eX3_lookAtNext_16, eX3_lookAtNext_19, eX3_lookAtNext_20, eX3_lookAtNext_23, eX3_lookAtNext_24, eX3_lookAtNext_27, eX3_lookAtNext_28, eX3_lookAtNext_30, eX3_lookAtNext_33, eX3_lookAtNext_34, eX3_lookAtNext_35, eX3_lookAtNext_38, eX3_lookAtNext_39, eX3_lookAtNext_40, eX3_lookAtNext_43, eX3_lookAtNext_46, eX3_lookAtNext_47, eX3_lookAtNext_48, eX3_lookAtNext_51, eX3_lookAtNext_54, eX3_lookAtNext_55, eX3_lookAtNext_58, eX3_lookAtNext_61, eX3_lookAtNext_62, eX3_lookAtNext_63, eX3_lookAtNext_66, eX3_lookAtNext_67, eX3_lookAtNext_70, eX3_lookAtNext_71, eX3_lookAtNext_74, eX3_lookAtNext_75, eX3_lookAtNext_76, eX3_lookAtNext_77, eX3_lookAtNext_80, eX3_lookAtNext_81, eX3_lookAtNext_82, eX3_lookAtNext_86, eX3_lookAtNext_87, eX3_lookAtNext_90, eX3_lookAtNext_91, eX3_lookAtNext_94, eX3_lookAtNext_95, eX3_lookAtNext_98, eX3_lookAtNext_101, eX3_lookAtNext_102, eX3_lookAtNext_105, eX3_lookAtNext_106, eX3_lookAtNext_109, eX3_lookAtNext_110, eX3_lookAtNext_113, eX3_lookAtNext_114, eX3_lookAtNext_117, eX3_lookAtNext_118, eX3_lookAtNext_119, eX3_lookAtNext_122, eX3_lookAtNext_123, eX3_lookAtNext_124, eX3_lookAtNext_127, eX3_lookAtNext_130, cw_is, cw_isP, cw_isA, cw_isK, cw_kp, cw_tis, cw_t0, cw_t1, cw_t2, cw_t3, cw_tp, cw_bn, cw_bw, cw_bv, cw_bs, cw_rp1, cw_rp2, cw_rn, cw_rg, cw_rl, cw_fn, cw_fw, cw_fv, cw_fs, cw_f0, cw_f1, cw_f2, cw_f3, cw_f4, cw_f5, cw_f6, p_n0, p_n1, p_n2, p_n3, p_n4, p_n5, p_n6, p_w0, p_w1, p_w2, p_w3, p_w4, p_w5, p_w6, p_v0, p_v1, p_v2, p_v3, p_v4, p_v5, p_v6, p_s0, p_s1, p_s2, p_s3, p_s4, p_s5, p_s6, a_n0, a_n1, a_n2, a_n3, a_n4, a_n5, a_n6, a_w0, a_w1, a_w2, a_w3, a_w4, a_w5, a_w6, a_v0, a_v1, a_v2, a_v3, a_v4, a_v5, a_v6, a_s0, a_s1, a_s2, a_s3, a_s4, a_s5, a_s6, p_f0, p_f1, p_f2, p_f3, p_f4, p_f5, p_f6, p_f7, p_f8, p_f9, a_f0, a_f1, a_f2, a_f3, a_f4, a_f5, a_f6, a_f7, a_f8, a_f9, p_p1, a_p1, cpAP, cpKP, cpPK, cpPA, Option.elim_some, true_and, and_true, Option.toList_some, Option.toList_none, List.cons_append, List.nil_append, hk, if_true]
      · by_cases h : sortB (tp e) = k
        · simp only [hk, if_false] at ih
          simp only [eX3_lookAtNext_0, eX3_lookAtNext_1, eX3_lookAtNext_2, eX3_lookAtNext_5, eX3_lookAtNext_9, eX3_lookAtNext_12, eX3_lookAtNext_13, eX3_lookAtNext_16, eX3_lookAtNext_19, eX3_lookAtNext_20, eX3_lookAtNext_23, eX3_lookAtNext_24, eX3_lookAtNext_27, eX3_lookAtNext_28, eX3_lookAtNext_30, eX3_lookAtNext_33, eX3_lookAtNext_34, eX3_lookAtNext_35, eX3_lookAtNext_38, eX3_lookAtNext_39, eX3_lookAtNext_40, eX3_lookAtNext_43, eX3_lookAtNext_46, eX3_lookAtNext_47, eX3_lookAtNext_48, eX3_lookAtNext_51, eX3_lookAtNext_54, eX3_lookAtNext_55, eX3_lookAtNext_58, eX3_lookAtNext_61, eX3_lookAtNext_62, eX3_lookAtNext_63, eX3_lookAtNext_66, eX3_lookAtNext_67, eX3_lookAtNext_70, eX3_lookAtNext_71, eX3_lookAtNext_74, eX3_lookAtNext_75, eX3_lookAtNext_76, eX3_lookAtNext_77, eX3_lookAtNext_80, eX3_lookAtNext_81, eX3_lookAtNext_82, eX3_lookAtNext_86, eX3_lookAtNext_87, eX3_lookAtNext_90, eX3_lookAtNext_91, eX3_lookAtNext_94, eX3_lookAtNext_95, eX3_lookAtNext_98, eX3_lookAtNext_101, eX3_lookAtNext_102, eX3_lookAtNext_105, eX3_lookAtNext_106, eX3_lookAtNext_109, eX3_lookAtNext_110, eX3_lookAtNext_113, eX3_lookAtNext_114, eX3_lookAtNext_117, eX3_lookAtNext_118, eX3_lookAtNext_119, eX3_lookAtNext_122, eX3_lookAtNext_123, eX3_lookAtNext_124, eX3_lookAtNext_127, eX3_lookAtNext_130, cw_is, cw_isP, cw_isA, cw_isK, cw_kp, cw_tis, cw_t0, cw_t1, cw_t2, cw_t3, cw_tp, cw_bn, cw_bw, cw_bv, cw_bs, cw_rp1, cw_rp2, cw_rn, cw_rg, cw_rl, cw_fn, cw_fw, cw_fv, cw_fs, cw_f0, cw_f1, cw_f2, cw_f3, cw_f4, cw_f5, cw_f6, p_n0, p_n1, p_n2, p_n3, p_n4, p_n5, p_n6, p_w0, p_w1, p_w2, p_w3, p_w4, p_w5, p_w6, p_v0, p_v1, p_v2, p_v3, p_v4, p_v5, p_v6, p_s0, p_s1, p_s2, p_s3, p_s4, p_s5, p_s6, a_n0, a_n1, a_n2, a_n3, a_n4, a_n5, a_n6, a_w0, a_w1, a_w2, a_w3, a_w4, a_w5, a_w6, a_v0, a_v1, a_v2, a_v3, a_v4, a_v5, a_v6, a_s0, a_s1, a_s2, a_s3, a_s4, a_s5, a_s6, p_f0, p_f1, p_f2, p_f3, p_f4, p_f5, p_f6, p_f7, p_f8, p_f9, a_f0, a_f1, a_f2, a_f3, a_f4, a_f5, a_f6, a_f7, a_f8, a_f9, p_p1, a_p1, cpAP, cpKP, cpPK, cpPA, Option.elim_some, true_and, and_true, Option.toList_some, Option.toList_none, List.cons_append, List.nil_append, hk, if_false, nI_ge (show e < t by omega) (show t < 2 ^ 31 by omega), vp120 (show e < 120 by omega), nI_clamp (show e < 2 ^ 31 by omega), sX3_sortOf, h, if_true, runP]
          exact ih
        · simp only [eX3_lookAtNext_0, eX3_lookAtNext_1, eX3_lookAtNext_2, eX3_lookAtNext_5, eX3_lookAtNext_9, eX3_lookAtNext_12, eX3_lookAtNext_13, eX3_lookAtNext_16, eX3_lookAtNext_19, eX3_lookAtNext_20, eX3_lookAtNext_23, eX3_lookAtNext_24, eX3_lookAtNext_27, eX3_lookAtNext_28, eX3_lookAtNext_30, eX3_lookAtNext_33, eX3_lookAtNext_34, eX3_lookAtNext_35, eX3_lookAtNext_38, eX3_lookAtNext_39, eX3_lookAtNext_40, eX3_lookAtNext_43, eX3_lookAtNext_46, eX3_lookAtNext_47, eX3_lookAtNext_48, eX3_lookAtNext_51, eX3_lookAtNext_54, eX3_lookAtNext_55, eX3_lookAtNext_58, eX3_lookAtNext_61, eX3_lookAtNext_62, eX3_lookAtNext_63, eX3_lookAtNext_66, eX3_lookAtNext_67, eX3_lookAtNext_70, eX3_lookAtNext_71, eX3_lookAtNext_74, eX3_lookAtNext_75, eX3_lookAtNext_76, eX3_lookAtNext_77, eX3_lookAtNext_80, eX3_lookAtNext_81, eX3_lookAtNext_82, eX3_lookAtNext_86, eX3_lookAtNext_87, eX3_lookAtNext_90, eX3_lookAtNext_91, eX3_lookAtNext_94, eX3_lookAtNext_95, eX3_lookAtNext_98, eX3_lookAtNext_101, eX3_lookAtNext_102, eX3_lookAtNext_105, eX3_lookAtNext_106, eX3_lookAtNext_109, eX3_lookAtNext_110, eX3_lookAtNext_113, eX3_lookAtNext_114, eX3_lookAtNext_117, eX3_lookAtNext_118, eX3_lookAtNext_119, eX3_lookAtNext_122, eX3_lookAtNext_123, eX3_lookAtNext_124, eX3_lookAtNext_127, eX3_lookAtNext_130, cw_is, cw_isP, cw_isA, cw_isK, cw_kp, cw_tis, cw_t0, cw_t1, cw_t2, cw_t3, cw_tp, cw_bn, cw_bw, cw_bv, cw_bs, cw_rp1, cw_rp2, cw_rn, cw_rg, cw_rl, cw_fn, cw_fw, cw_fv, cw_fs, cw_f0, cw_f1, cw_f2, cw_f3, cw_f4, cw_f5, cw_f6, p_n0, p_n1, p_n2, p_n3, p_n4, p_n5, p_n6, p_w0, p_w1, p_w2, p_w3, p_w4, p_w5, p_w6, p_v0, p_v1, p_v2, p_v3, p_v4, p_v5, p_v6, p_s0, p_s1, p_s2, p_s3, p_s4, p_s5, p_s6, a_n0, a_n1, a_n2, a_n3, a_n4, a_n5, a_n6, a_w0, a_w1, a_w2, a_w3, a_w4, a_w5, a_w6, a_v0, a_v1, a_v2, a_v3, a_v4, a_v5, a_v6, a_s0, a_s1, a_s2, a_s3, a_s4, a_s5, a_s6, p_f0, p_f1, p_f2, p_f3, p_f4, p_f5, p_f6, p_f7, p_f8, p_f9, a_f0, a_f1, a_f2, a_f3, a_f4, a_f5, a_f6, a_f7, a_f8, a_f9, p_p1, a_p1, cpAP, cpKP, cpPK, cpPA, Option.elim_some, true_and, and_true, Option.toList_some, Option.toList_none, List.cons_append, List.nil_append, hk, if_false, nI_ge (show e < t by omega) (show t < 2 ^ 31 by omega), vp120 (show e < 120 by omega), nI_clamp (show e < 2 ^ 31 by omega), sX3_sortOf, h, runP]
  have loop1 : ∀ d s, s + d = t → (Wp (xX3_lookAtNext θ (n + 1) lim) Q (8, [some (.ref (b + 25)), none], [], cW w b P A K kp tp (nI t) (nI s) (nI e) sh fd) ↔ Q none (cW w b P A K kp tp (nI t) (nI (skipP tp d s)) (nI (tokE tp t (skipP tp d s))) sh fd)) := by
    intro d
    induction d with
    | zero =>
      intro s hs
      have hs : s = t := by omega
      subst hs
      rw [eX3_lookAtNext_8]
      simp only [eX3_lookAtNext_0, eX3_lookAtNext_1, eX3_lookAtNext_2, eX3_lookAtNext_5, eX3_lookAtNext_9, eX3_lookAtNext_12, eX3_lookAtNext_13, eX3_lookAtNext_16, eX3_lookAtNext_19, eX3_lookAtNext_20, eX3_lookAtNext_23, eX3_lookAtNext_24, eX3_lookAtNext_27, eX3_lookAtNext_28, eX3_lookAtNext_30, eX3_lookAtNext_33, eX3_lookAtNext_34, eX3_lookAtNext_35, eX3_lookAtNext_38, eX3_lookAtNext_39, eX3_lookAtNext_40, eX3_lookAtNext_43, eX3_lookAtNext_46, eX3_lookAtNext_47, eX3_lookAtNext_48, eX3_lookAtNext_51, eX3_lookAtNext_54, eX3_lookAtNext_55, eX3_lookAtNext_58, eX3_lookAtNext_61, eX3_lookAtNext_62, eX3_lookAtNext_63, eX3_lookAtNext_66, eX3_lookAtNext_67, eX3_lookAtNext_70, eX3_lookAtNext_71, eX3_lookAtNext_74, eX3_lookAtNext_75, eX3_lookAtNext_76, eX3_lookAtNext_77, eX3_lookAtNext_80, eX3_lookAtNext_81, eX3_lookAtNext_82, eX3_lookAtNext_86, eX3_lookAtNext_87, eX3_lookAtNext_90, eX3_lookAtNext_91, eX3_lookAtNext_94, eX3_lookAtNext_95, eX3_lookAtNext_98, eX3_lookAtNext_101, eX3_lookAtNext_102, eX3_lookAtNext_105, eX3_lookAtNext_106, eX3_lookAtNext_109, eX3_lookAtNext_110, eX3_lookAtNext_113, eX3_lookAtNext_114, eX3_lookAtNext_117, eX3_lookAtNext_118, eX3_lookAtNext_119, eX3_lookAtNext_122, eX3_lookAtNext_123, eX3_lookAtNext_124, eX3_lookAtNext_127, eX3_lookAtNext_130, cw_is, cw_isP, cw_isA, cw_isK, cw_kp, cw_tis, cw_t0, cw_t1, cw_t2, cw_t3, cw_tp, cw_bn, cw_bw, cw_bv, cw_bs, cw_rp1, cw_rp2, cw_rn, cw_rg, cw_rl, cw_fn, cw_fw, cw_fv, cw_fs, cw_f0, cw_f1, cw_f2, cw_f3, cw_f4, cw_f5, cw_f6, p_n0, p_n1, p_n2, p_n3, p_n4, p_n5, p_n6, p_w0, p_w1, p_w2, p_w3, p_w4, p_w5, p_w6, p_v0, p_v1, p_v2, p_v3, p_v4, p_v5, p_v6, p_s0, p_s1, p_s2, p_s3, p_s4, p_s5, p_s6, a_n0, a_n1, a_n2, a_n3, a_n4, a_n5, a_n6, a_w0, a_w1, a_w2, a_w3, a_w4, a_w5, a_w6, a_v0, a_v1, a_v2, a_v3, a_v4, a_v5, a_v6, a_s0, a_s1, a_s2, a_s3, a_s4, a_s5, a_s6, p_f0, p_f1, p_f2, p_f3, p_f4, p_f5, p_f6, p_f7, p_f8, p_f9, a_f0, a_f1, a_f2, a_f3, a_f4, a_f5, a_f6, a_f7, a_f8, a_f9, p_p1, a_p1, cpAP, cpKP, cpPK, cpPA, Option.elim_some, true_and, and_true, Option.toList_some, Option.toList_none, List.cons_append, List.nil_append, Int32.le_refl, if_true, skipP, tokE, sX3_isAllTaken, decide_true, bI_t, i10, if_false]
    | succ d ih =>
      intro s hs
      have ih := ih (s + 1) (by omega)
      rw [nI_succ] at ih
      rw [eX3_lookAtNext_8]
      by_cases h : tp s = 32
      · simp only [eX3_lookAtNext_0, eX3_lookAtNext_1, eX3_lookAtNext_2, eX3_lookAtNext_5, eX3_lookAtNext_9, eX3_lookAtNext_12, eX3_lookAtNext_13, eX3_lookAtNext_16, eX3_lookAtNext_19, eX3_lookAtNext_20, eX3_lookAtNext_23, eX3_lookAtNext_24, eX3_lookAtNext_27, eX3_lookAtNext_28, eX3_lookAtNext_30, eX3_lookAtNext_33, eX3_lookAtNext_34, eX3_lookAtNext_35, eX3_lookAtNext_38, eX3_lookAtNext_39, eX3_lookAtNext_40, eX3_lookAtNext_43, eX3_lookAtNext_46, eX3_lookAtNext_47, eX3_lookAtNext_48, eX3_lookAtNext_51, eX3_lookAtNext_54, eX3_lookAtNext_55, eX3_lookAtNext_58, eX3_lookAtNext_61, eX3_lookAtNext_62, eX3_lookAtNext_63, eX3_lookAtNext_66, eX3_lookAtNext_67, eX3_lookAtNext_70, eX3_lookAtNext_71, eX3_lookAtNext_74, eX3_lookAtNext_75, eX3_lookAtNext_76, eX3_lookAtNext_77, eX3_lookAtNext_80, eX3_lookAtNext_81, eX3_lookAtNext_82, eX3_lookAtNext_86, eX3_lookAtNext_87, eX3_lookAtNext_90, eX3_lookAtNext_91, eX3_lookAtNext_94, eX3_lookAtNext_95, eX3_lookAtNext_98, eX3_lookAtNext_101, eX3_lookAtNext_102, eX3_lookAtNext_105, eX3_lookAtNext_106, eX3_lookAtNext_109, eX3_lookAtNext_110, eX3_lookAtNext_113, eX3_lookAtNext_114, eX3_lookAtNext_117, eX3_lookAtNext_118, eX3_lookAtNext_119, eX3_lookAtNext_122, eX3_lookAtNext_123, eX3_lookAtNext_124, eX3_lookAtNext_127, eX3_lookAtNext_130, cw_is, cw_isP, cw_isA, cw_isK, cw_kp, cw_tis, cw_t0, cw_t1, cw_t2, cw_t3, cw_tp, cw_bn, cw_bw, cw_bv, cw_bs, cw_rp1, cw_rp2, cw_rn, cw_rg, cw_rl, cw_fn, cw_fw, cw_fv, cw_fs, cw_f0, cw_f1, cw_f2, cw_f3, cw_f4, cw_f5, cw_f6, p_n0, p_n1, p_n2, p_n3, p_n4, p_n5, p_n6, p_w0, p_w1, p_w2, p_w3, p_w4, p_w5, p_w6, p_v0, p_v1, p_v2, p_v3, p_v4, p_v5, p_v6, p_s0, p_s1, p_s2, p_s3, p_s4, p_s5, p_s6, a_n0, a_n1, a_n2, a_n3, a_n4, a_n5, a_n6, a_w0, a_w1, a_w2, a_w3, a_w4, a_w5, a_w6, a_v0, a_v1, a_v2, a_v3, a_v4, a_v5, a_v6, a_s0, a_s1, a_s2, a_s3, a_s4, a_s5, a_s6, p_f0, p_f1, p_f2, p_f3, p_f4, p_f5, p_f6, p_f7, p_f8, p_f9, a_f0, a_f1, a_f2, a_f3, a_f4, a_f5, a_f6, a_f7, a_f8, a_f9, p_p1, a_p1, cpAP, cpKP, cpPK, cpPA, Option.elim_some, true_and, and_true, Option.toList_some, Option.toList_none, List.cons_append, List.nil_append, nI_ge (show s < t by omega) (show t < 2 ^ 31 by omega), if_false, vp120 (show s < 120 by omega), nI_clamp (show s < 2 ^ 31 by omega), h, if_true, skipP]
        exact ih
      · have h2 := loop2 (sortB (tp s)) s d (s + 1) (by omega)
        rw [nI_succ s] at h2
        have hne : ¬ nI s = nI t := fun q => by have := (nI_eq (by omega) (by omega)).mp q; omega
        have hst : ¬ s = t := by omega
        simp only [eX3_lookAtNext_0, eX3_lookAtNext_1, eX3_lookAtNext_2, eX3_lookAtNext_5, eX3_lookAtNext_9, eX3_lookAtNext_12, eX3_lookAtNext_13, eX3_lookAtNext_16, eX3_lookAtNext_19, eX3_lookAtNext_20, eX3_lookAtNext_23, eX3_lookAtNext_24, eX3_lookAtNext_27, eX3_lookAtNext_28, eX3_lookAtNext_30, eX3_lookAtNext_33, eX3_lookAtNext_34, eX3_lookAtNext_35, eX3_lookAtNext_38, eX3_lookAtNext_39, eX3_lookAtNext_40, eX3_lookAtNext_43, eX3_lookAtNext_46, eX3_lookAtNext_47, eX3_lookAtNext_48, eX3_lookAtNext_51, eX3_lookAtNext_54, eX3_lookAtNext_55, eX3_lookAtNext_58, eX3_lookAtNext_61, eX3_lookAtNext_62, eX3_lookAtNext_63, eX3_lookAtNext_66, eX3_lookAtNext_67, eX3_lookAtNext_70, eX3_lookAtNext_71, eX3_lookAtNext_74, eX3_lookAtNext_75, eX3_lookAtNext_76, eX3_lookAtNext_77, eX3_lookAtNext_80, eX3_lookAtNext_81, eX3_lookAtNext_82, eX3_lookAtNext_86, eX3_lookAtNext_87, eX3_lookAtNext_90, eX3_lookAtNext_91, eX3_lookAtNext_94, eX3_lookAtNext_95, eX3_lookAtNext_98, eX3_lookAtNext_101, eX3_lookAtNext_102, eX3_lookAtNext_105, eX3_lookAtNext_106, eX3_lookAtNext_109, eX3_lookAtNext_110, eX3_lookAtNext_113, eX3_lookAtNext_114, eX3_lookAtNext_117, eX3_lookAtNext_118, eX3_lookAtNext_119, eX3_lookAtNext_122, eX3_lookAtNext_123, eX3_lookAtNext_124, eX3_lookAtNext_127, eX3_lookAtNext_130, cw_is, cw_isP, cw_isA, cw_isK, cw_kp, cw_tis, cw_t0, cw_t1, cw_t2, cw_t3, cw_tp, cw_bn, cw_bw, cw_bv, cw_bs, cw_rp1, cw_rp2, cw_rn, cw_rg, cw_rl, cw_fn, cw_fw, cw_fv, cw_fs, cw_f0, cw_f1, cw_f2, cw_f3, cw_f4, cw_f5, cw_f6, p_n0, p_n1, p_n2, p_n3, p_n4, p_n5, p_n6, p_w0, p_w1, p_w2, p_w3, p_w4, p_w5, p_w6, p_v0, p_v1, p_v2, p_v3, p_v4, p_v5, p_v6, p_s0, p_s1, p_s2, p_s3, p_s4, p_s5, p_s6, a_n0, a_n1, a_n2, a_n3, a_n4, a_n5, a_n6, a_w0, a_w1, a_w2, a_w3, a_w4, a_w5, a_w6, a_v0, a_v1, a_v2, a_v3, a_v4, a_v5, a_v6, a_s0, a_s1, a_s2, a_s3, a_s4, a_s5, a_s6, p_f0, p_f1, p_f2, p_f3, p_f4, p_f5, p_f6, p_f7, p_f8, p_f9, a_f0, a_f1, a_f2, a_f3, a_f4, a_f5, a_f6, a_f7, a_f8, a_f9, p_p1, a_p1, cpAP, cpKP, cpPK, cpPA, Option.elim_some, true_and, and_true, Option.toList_some, Option.toList_none, List.cons_append, List.nil_append, nI_ge (show s < t by omega) (show t < 2 ^ 31 by omega), if_false, vp120 (show s < 120 by omega), nI_clamp (show s < 2 ^ 31 by omega), h, hne, sX3_isAllTaken, decide_false, bI_f, if_true, sX3_sortOf, skipP, tokE, hst, show t - (s + 1) = d by omega]
        exact h2
  simp only [eX3_lookAtNext_0, eX3_lookAtNext_1, eX3_lookAtNext_2, eX3_lookAtNext_5, eX3_lookAtNext_9, eX3_lookAtNext_12, eX3_lookAtNext_13, eX3_lookAtNext_16, eX3_lookAtNext_19, eX3_lookAtNext_20, eX3_lookAtNext_23, eX3_lookAtNext_24, eX3_lookAtNext_27, eX3_lookAtNext_28, eX3_lookAtNext_30, eX3_lookAtNext_33, eX3_lookAtNext_34, eX3_lookAtNext_35, eX3_lookAtNext_38, eX3_lookAtNext_39, eX3_lookAtNext_40, eX3_lookAtNext_43, eX3_lookAtNext_46, eX3_lookAtNext_47, eX3_lookAtNext_48, eX3_lookAtNext_51, eX3_lookAtNext_54, eX3_lookAtNext_55, eX3_lookAtNext_58, eX3_lookAtNext_61, eX3_lookAtNext_62, eX3_lookAtNext_63, eX3_lookAtNext_66, eX3_lookAtNext_67, eX3_lookAtNext_70, eX3_lookAtNext_71, eX3_lookAtNext_74, eX3_lookAtNext_75, eX3_lookAtNext_76, eX3_lookAtNext_77, eX3_lookAtNext_80, eX3_lookAtNext_81, eX3_lookAtNext_82, eX3_lookAtNext_86, eX3_lookAtNext_87, eX3_lookAtNext_90, eX3_lookAtNext_91, eX3_lookAtNext_94, eX3_lookAtNext_95, eX3_lookAtNext_98, eX3_lookAtNext_101, eX3_lookAtNext_102, eX3_lookAtNext_105, eX3_lookAtNext_106, eX3_lookAtNext_109, eX3_lookAtNext_110, eX3_lookAtNext_113, eX3_lookAtNext_114, eX3_lookAtNext_117, eX3_lookAtNext_118, eX3_lookAtNext_119, eX3_lookAtNext_122, eX3_lookAtNext_123, eX3_lookAtNext_124, eX3_lookAtNext_127, eX3_lookAtNext_130, cw_is, cw_isP, cw_isA, cw_isK, cw_kp, cw_tis, cw_t0, cw_t1, cw_t2, cw_t3, cw_tp, cw_bn, cw_bw, cw_bv, cw_bs, cw_rp1, cw_rp2, cw_rn, cw_rg, cw_rl, cw_fn, cw_fw, cw_fv, cw_fs, cw_f0, cw_f1, cw_f2, cw_f3, cw_f4, cw_f5, cw_f6, p_n0, p_n1, p_n2, p_n3, p_n4, p_n5, p_n6, p_w0, p_w1, p_w2, p_w3, p_w4, p_w5, p_w6, p_v0, p_v1, p_v2, p_v3, p_v4, p_v5, p_v6, p_s0, p_s1, p_s2, p_s3, p_s4, p_s5, p_s6, a_n0, a_n1, a_n2, a_n3, a_n4, a_n5, a_n6, a_w0, a_w1, a_w2, a_w3, a_w4, a_w5, a_w6, a_v0, a_v1, a_v2, a_v3, a_v4, a_v5, a_v6, a_s0, a_s1, a_s2, a_s3, a_s4, a_s5, a_s6, p_f0, p_f1, p_f2, p_f3, p_f4, p_f5, p_f6, p_f7, p_f8, p_f9, a_f0, a_f1, a_f2, a_f3, a_f4, a_f5, a_f6, a_f7, a_f8, a_f9, p_p1, a_p1, cpAP, cpKP, cpPK, cpPA, Option.elim_some, true_and, and_true, Option.toList_some, Option.toList_none, List.cons_append, List.nil_append]
  exact loop1 (t - e) e (by omega)
theorem sX3_lookAtFirst (ht : t ≤ 120) : sg θ (n + 3) 30 [.ref (b + 25)] (cW w b P A K kp tp (nI t) rs re sh fd) Q ↔ Q none (cW w b P A K kp tp (nI t) (nI (tokS tp t 0)) (nI (tokE tp t (tokS tp t 0))) sh fd) := by
  rw [nX3_lookAtFirst]
  have hla := fun n Q => sX3_lookAtNext (θ := θ) (n := n) (w := w) (b := b) (P := P) (A := A) (K := K) (kp := kp) (tp := tp) (rs := rs) (sh := sh) (fd := fd) (Q := Q) (Nat.zero_le t) ht
  simp only [nI_0] at hla
  simp only [eX3_lookAtFirst_0, eX3_lookAtFirst_1, eX3_lookAtFirst_2, eX3_lookAtFirst_5, eX3_lookAtFirst_6, eX3_lookAtFirst_9, cw_is, cw_isP, cw_isA, cw_isK, cw_kp, cw_tis, cw_t0, cw_t1, cw_t2, cw_t3, cw_tp, cw_bn, cw_bw, cw_bv, cw_bs, cw_rp1, cw_rp2, cw_rn, cw_rg, cw_rl, cw_fn, cw_fw, cw_fv, cw_fs, cw_f0, cw_f1, cw_f2, cw_f3, cw_f4, cw_f5, cw_f6, p_n0, p_n1, p_n2, p_n3, p_n4, p_n5, p_n6, p_w0, p_w1, p_w2, p_w3, p_w4, p_w5, p_w6, p_v0, p_v1, p_v2, p_v3, p_v4, p_v5, p_v6, p_s0, p_s1, p_s2, p_s3, p_s4, p_s5, p_s6, a_n0, a_n1, a_n2, a_n3, a_n4, a_n5, a_n6, a_w0, a_w1, a_w2, a_w3, a_w4, a_w5, a_w6, a_v0, a_v1, a_v2, a_v3, a_v4, a_v5, a_v6, a_s0, a_s1, a_s2, a_s3, a_s4, a_s5, a_s6, p_f0, p_f1, p_f2, p_f3, p_f4, p_f5, p_f6, p_f7, p_f8, p_f9, a_f0, a_f1, a_f2, a_f3, a_f4, a_f5, a_f6, a_f7, a_f8, a_f9, p_p1, a_p1, cpAP, cpKP, cpPK, cpPA, Option.elim_some, true_and, and_true, Option.toList_some, Option.toList_none, List.cons_append, List.nil_append, hla]
theorem sX3_take {j s : Nat} {tx : List Int32} (hx : exOK θ w b) (hS : exS θ) (hj : tTX[j]? = some tx) (hs : s ≤ t) (ht : t ≤ 120) : sg θ (n + 5) 34 [.ref (b + 25), .ref (θ.2 j)] (cW w b P A K kp tp (nI t) (nI s) (nI (tokE tp t s)) sh fd) Q ↔ if takeB tp t s tx = true then Q (some (.int 1)) (cW w b P A K kp tp (nI t) (nI (nxt tp t s)) (nI (tokE tp t (nxt tp t s))) sh fd) else Q (some (.int 0)) (cW w b P A K kp tp (nI t) (nI s) (nI (tokE tp t s)) sh fd) := by
  rw [nX3_take]
  have hxw := cw_ex (P := P) (A := A) (K := K) (kp := kp) (tp := tp) (tl := nI t) (rs := nI s) (re := nI (tokE tp t s)) (sh := sh) (fd := fd) hx
  generalize ((cW w b P A K kp tp (nI t) (nI s) (nI (tokE tp t s)) sh fd).2.1 + 0, (cW w b P A K kp tp (nI t) (nI s) (nI (tokE tp t s)) sh fd).2.2 + 0) = lim
  obtain ⟨hl7, -⟩ := tx_len hj
  have hE := tokE_le (tp := tp) hs
  have hlen := fun n Q => sJ0_length (θ := θ) (n := n) (Q := Q) hxw hj
  have his : rIs (cW w b P A K kp tp (nI t) (nI s) (nI (tokE tp t s)) sh fd) (θ.2 j) 100 := by
    obtain ⟨vj, h1, -⟩ := txt hxw hj
    exact ⟨_, h1⟩
  have hla := fun n Q => sX3_lookAtNext (θ := θ) (n := n) (w := w) (b := b) (P := P) (A := A) (K := K) (kp := kp) (tp := tp) (rs := nI s) (sh := sh) (fd := fd) (Q := Q) hE.2 ht
  by_cases hel : tokE tp t s - s = tx.length
  · have loop : ∀ d i, i + d = tx.length → (Wp (xX3_take θ (n + 4) lim) Q (20, [some (.ref (b + 25)), some (.ref (θ.2 j)), some (.int (nI i))], [], cW w b P A K kp tp (nI t) (nI s) (nI (tokE tp t s)) sh fd) ↔ if isTok tp (s + i) (tx.drop i) = true then Q (some (.int 1)) (cW w b P A K kp tp (nI t) (nI (nxt tp t s)) (nI (tokE tp t (nxt tp t s))) sh fd) else Q (some (.int 0)) (cW w b P A K kp tp (nI t) (nI s) (nI (tokE tp t s)) sh fd)) := by
      intro d
      induction d with
      | zero =>
        intro i hi
        have hi : i = tx.length := by omega
        subst hi
        rw [eX3_take_20]
        simp only [eX3_take_0, eX3_take_1, eX3_take_4, eX3_take_5, eX3_take_8, eX3_take_9, eX3_take_10, eX3_take_13, eX3_take_16, eX3_take_17, eX3_take_18, eX3_take_19, eX3_take_21, eX3_take_22, eX3_take_25, eX3_take_28, eX3_take_29, eX3_take_32, eX3_take_33, eX3_take_36, eX3_take_37, eX3_take_38, eX3_take_39, eX3_take_40, eX3_take_41, eX3_take_44, eX3_take_47, eX3_take_48, eX3_take_49, eX3_take_52, eX3_take_55, eX3_take_56, eX3_take_59, eX3_take_60, cw_is, cw_isP, cw_isA, cw_isK, cw_kp, cw_tis, cw_t0, cw_t1, cw_t2, cw_t3, cw_tp, cw_bn, cw_bw, cw_bv, cw_bs, cw_rp1, cw_rp2, cw_rn, cw_rg, cw_rl, cw_fn, cw_fw, cw_fv, cw_fs, cw_f0, cw_f1, cw_f2, cw_f3, cw_f4, cw_f5, cw_f6, p_n0, p_n1, p_n2, p_n3, p_n4, p_n5, p_n6, p_w0, p_w1, p_w2, p_w3, p_w4, p_w5, p_w6, p_v0, p_v1, p_v2, p_v3, p_v4, p_v5, p_v6, p_s0, p_s1, p_s2, p_s3, p_s4, p_s5, p_s6, a_n0, a_n1, a_n2, a_n3, a_n4, a_n5, a_n6, a_w0, a_w1, a_w2, a_w3, a_w4, a_w5, a_w6, a_v0, a_v1, a_v2, a_v3, a_v4, a_v5, a_v6, a_s0, a_s1, a_s2, a_s3, a_s4, a_s5, a_s6, p_f0, p_f1, p_f2, p_f3, p_f4, p_f5, p_f6, p_f7, p_f8, p_f9, a_f0, a_f1, a_f2, a_f3, a_f4, a_f5, a_f6, a_f7, a_f8, a_f9, p_p1, a_p1, cpAP, cpKP, cpPK, cpPA, Option.elim_some, true_and, and_true, Option.toList_some, Option.toList_none, List.cons_append, List.nil_append, his, hlen, Int32.le_refl, if_true, hla, List.drop_length, isTok, nb_1, nxt]
      | succ d ih =>
        intro i hi
        have hlt : i < tx.length := by omega
        have ih := ih (i + 1) (by omega)
        rw [nI_succ] at ih
        have hch := fun n Q => sJ0_charAt (θ := θ) (n := n) (Q := Q) hxw hS hj hlt
        have hdr : tx.drop i = tx.getD i 0 :: tx.drop (i + 1) := by rw [getD_at hlt]; exact List.drop_eq_getElem_cons hlt
        rw [eX3_take_20]
        have hsi : s + i < 120 := by omega
        by_cases h : tp (s + i) = tx.getD i 0
        · simp only [eX3_take_0, eX3_take_1, eX3_take_4, eX3_take_5, eX3_take_8, eX3_take_9, eX3_take_10, eX3_take_13, eX3_take_16, eX3_take_17, eX3_take_18, eX3_take_19, eX3_take_21, eX3_take_22, eX3_take_25, eX3_take_28, eX3_take_29, eX3_take_32, eX3_take_33, eX3_take_36, eX3_take_37, eX3_take_38, eX3_take_39, eX3_take_40, eX3_take_41, eX3_take_44, eX3_take_47, eX3_take_48, eX3_take_49, eX3_take_52, eX3_take_55, eX3_take_56, eX3_take_59, eX3_take_60, cw_is, cw_isP, cw_isA, cw_isK, cw_kp, cw_tis, cw_t0, cw_t1, cw_t2, cw_t3, cw_tp, cw_bn, cw_bw, cw_bv, cw_bs, cw_rp1, cw_rp2, cw_rn, cw_rg, cw_rl, cw_fn, cw_fw, cw_fv, cw_fs, cw_f0, cw_f1, cw_f2, cw_f3, cw_f4, cw_f5, cw_f6, p_n0, p_n1, p_n2, p_n3, p_n4, p_n5, p_n6, p_w0, p_w1, p_w2, p_w3, p_w4, p_w5, p_w6, p_v0, p_v1, p_v2, p_v3, p_v4, p_v5, p_v6, p_s0, p_s1, p_s2, p_s3, p_s4, p_s5, p_s6, a_n0, a_n1, a_n2, a_n3, a_n4, a_n5, a_n6, a_w0, a_w1, a_w2, a_w3, a_w4, a_w5, a_w6, a_v0, a_v1, a_v2, a_v3, a_v4, a_v5, a_v6, a_s0, a_s1, a_s2, a_s3, a_s4, a_s5, a_s6, p_f0, p_f1, p_f2, p_f3, p_f4, p_f5, p_f6, p_f7, p_f8, p_f9, a_f0, a_f1, a_f2, a_f3, a_f4, a_f5, a_f6, a_f7, a_f8, a_f9, p_p1, a_p1, cpAP, cpKP, cpPK, cpPA, Option.elim_some, true_and, and_true, Option.toList_some, Option.toList_none, List.cons_append, List.nil_append, his, hlen, nI_ge hlt (show tx.length < 2 ^ 31 by omega), if_false, nI_add, vp120 hsi, nI_clamp (show s + i < 2 ^ 31 by omega), hch, h, if_true, hdr, isTok, decide_true, Bool.true_and]
          exact ih
        · simp only [eX3_take_0, eX3_take_1, eX3_take_4, eX3_take_5, eX3_take_8, eX3_take_9, eX3_take_10, eX3_take_13, eX3_take_16, eX3_take_17, eX3_take_18, eX3_take_19, eX3_take_21, eX3_take_22, eX3_take_25, eX3_take_28, eX3_take_29, eX3_take_32, eX3_take_33, eX3_take_36, eX3_take_37, eX3_take_38, eX3_take_39, eX3_take_40, eX3_take_41, eX3_take_44, eX3_take_47, eX3_take_48, eX3_take_49, eX3_take_52, eX3_take_55, eX3_take_56, eX3_take_59, eX3_take_60, cw_is, cw_isP, cw_isA, cw_isK, cw_kp, cw_tis, cw_t0, cw_t1, cw_t2, cw_t3, cw_tp, cw_bn, cw_bw, cw_bv, cw_bs, cw_rp1, cw_rp2, cw_rn, cw_rg, cw_rl, cw_fn, cw_fw, cw_fv, cw_fs, cw_f0, cw_f1, cw_f2, cw_f3, cw_f4, cw_f5, cw_f6, p_n0, p_n1, p_n2, p_n3, p_n4, p_n5, p_n6, p_w0, p_w1, p_w2, p_w3, p_w4, p_w5, p_w6, p_v0, p_v1, p_v2, p_v3, p_v4, p_v5, p_v6, p_s0, p_s1, p_s2, p_s3, p_s4, p_s5, p_s6, a_n0, a_n1, a_n2, a_n3, a_n4, a_n5, a_n6, a_w0, a_w1, a_w2, a_w3, a_w4, a_w5, a_w6, a_v0, a_v1, a_v2, a_v3, a_v4, a_v5, a_v6, a_s0, a_s1, a_s2, a_s3, a_s4, a_s5, a_s6, p_f0, p_f1, p_f2, p_f3, p_f4, p_f5, p_f6, p_f7, p_f8, p_f9, a_f0, a_f1, a_f2, a_f3, a_f4, a_f5, a_f6, a_f7, a_f8, a_f9, p_p1, a_p1, cpAP, cpKP, cpPK, cpPA, Option.elim_some, true_and, and_true, Option.toList_some, Option.toList_none, List.cons_append, List.nil_append, his, hlen, nI_ge hlt (show tx.length < 2 ^ 31 by omega), if_false, nI_add, vp120 hsi, nI_clamp (show s + i < 2 ^ 31 by omega), hch, h, hdr, isTok, decide_false, Bool.false_and, Bool.false_eq_true, nb_0]
    have := loop tx.length 0 (by omega)
    simp only [Nat.add_zero, List.drop_zero] at this
    simp only [eX3_take_0, eX3_take_1, eX3_take_4, eX3_take_5, eX3_take_8, eX3_take_9, eX3_take_10, eX3_take_13, eX3_take_16, eX3_take_17, eX3_take_18, eX3_take_19, eX3_take_21, eX3_take_22, eX3_take_25, eX3_take_28, eX3_take_29, eX3_take_32, eX3_take_33, eX3_take_36, eX3_take_37, eX3_take_38, eX3_take_39, eX3_take_40, eX3_take_41, eX3_take_44, eX3_take_47, eX3_take_48, eX3_take_49, eX3_take_52, eX3_take_55, eX3_take_56, eX3_take_59, eX3_take_60, cw_is, cw_isP, cw_isA, cw_isK, cw_kp, cw_tis, cw_t0, cw_t1, cw_t2, cw_t3, cw_tp, cw_bn, cw_bw, cw_bv, cw_bs, cw_rp1, cw_rp2, cw_rn, cw_rg, cw_rl, cw_fn, cw_fw, cw_fv, cw_fs, cw_f0, cw_f1, cw_f2, cw_f3, cw_f4, cw_f5, cw_f6, p_n0, p_n1, p_n2, p_n3, p_n4, p_n5, p_n6, p_w0, p_w1, p_w2, p_w3, p_w4, p_w5, p_w6, p_v0, p_v1, p_v2, p_v3, p_v4, p_v5, p_v6, p_s0, p_s1, p_s2, p_s3, p_s4, p_s5, p_s6, a_n0, a_n1, a_n2, a_n3, a_n4, a_n5, a_n6, a_w0, a_w1, a_w2, a_w3, a_w4, a_w5, a_w6, a_v0, a_v1, a_v2, a_v3, a_v4, a_v5, a_v6, a_s0, a_s1, a_s2, a_s3, a_s4, a_s5, a_s6, p_f0, p_f1, p_f2, p_f3, p_f4, p_f5, p_f6, p_f7, p_f8, p_f9, a_f0, a_f1, a_f2, a_f3, a_f4, a_f5, a_f6, a_f7, a_f8, a_f9, p_p1, a_p1, cpAP, cpKP, cpPK, cpPA, Option.elim_some, true_and, and_true, Option.toList_some, Option.toList_none, List.cons_append, List.nil_append, his, hlen, nI_sub hE.1, hel, if_true, takeB, decide_true, Bool.true_and]
    exact this
  · have hne : ¬ nI (tokE tp t s - s) = nI tx.length := fun q => hel ((nI_eq (by omega) (by omega)).mp q)
    simp only [eX3_take_0, eX3_take_1, eX3_take_4, eX3_take_5, eX3_take_8, eX3_take_9, eX3_take_10, eX3_take_13, eX3_take_16, eX3_take_17, eX3_take_18, eX3_take_19, eX3_take_21, eX3_take_22, eX3_take_25, eX3_take_28, eX3_take_29, eX3_take_32, eX3_take_33, eX3_take_36, eX3_take_37, eX3_take_38, eX3_take_39, eX3_take_40, eX3_take_41, eX3_take_44, eX3_take_47, eX3_take_48, eX3_take_49, eX3_take_52, eX3_take_55, eX3_take_56, eX3_take_59, eX3_take_60, cw_is, cw_isP, cw_isA, cw_isK, cw_kp, cw_tis, cw_t0, cw_t1, cw_t2, cw_t3, cw_tp, cw_bn, cw_bw, cw_bv, cw_bs, cw_rp1, cw_rp2, cw_rn, cw_rg, cw_rl, cw_fn, cw_fw, cw_fv, cw_fs, cw_f0, cw_f1, cw_f2, cw_f3, cw_f4, cw_f5, cw_f6, p_n0, p_n1, p_n2, p_n3, p_n4, p_n5, p_n6, p_w0, p_w1, p_w2, p_w3, p_w4, p_w5, p_w6, p_v0, p_v1, p_v2, p_v3, p_v4, p_v5, p_v6, p_s0, p_s1, p_s2, p_s3, p_s4, p_s5, p_s6, a_n0, a_n1, a_n2, a_n3, a_n4, a_n5, a_n6, a_w0, a_w1, a_w2, a_w3, a_w4, a_w5, a_w6, a_v0, a_v1, a_v2, a_v3, a_v4, a_v5, a_v6, a_s0, a_s1, a_s2, a_s3, a_s4, a_s5, a_s6, p_f0, p_f1, p_f2, p_f3, p_f4, p_f5, p_f6, p_f7, p_f8, p_f9, a_f0, a_f1, a_f2, a_f3, a_f4, a_f5, a_f6, a_f7, a_f8, a_f9, p_p1, a_p1, cpAP, cpKP, cpPK, cpPA, Option.elim_some, true_and, and_true, Option.toList_some, Option.toList_none, List.cons_append, List.nil_append, his, hlen, nI_sub hE.1, hne, if_false, takeB, hel, decide_false, Bool.false_and, Bool.false_eq_true, nb_0]
end T62
