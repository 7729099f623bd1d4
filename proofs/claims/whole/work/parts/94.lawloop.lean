/-! the law's loop, and its start -/
theorem sub6s : ∀ L : Nat, L < 6 → (nI L - 6).toInt = (L : Int) - 6 := by decide +kernel
theorem sub6 (L : Nat) (h : L < 3073) : (nI L - 6).toInt = (L : Int) - 6 := by
  by_cases h6 : L < 6
  · exact sub6s L h6
  · rw [show (6 : Int32) = nI 6 from rfl, nI_sub (by omega), nI_toInt (by omega)]
    omega
theorem ite_p {c a b : Prop} [Decidable c] (h1 : c → a) (h2 : ¬ c → b) : if c then a else b := by
  by_cases h : c
  · rw [if_pos h]; exact h1 h
  · rw [if_neg h]; exact h2 h
theorem gt6 {L i : Nat} (hL : L ≤ 3072) (hi : i < 2 ^ 31) : (nI L - 6 < nI i) = (L < i + 6) := by
  rw [Int32.lt_iff_toInt_lt, sub6 L (by omega), nI_toInt hi]
  exact propext ⟨fun q => by omega, fun q => by omega⟩
section T94
variable {θ : (Nat → Value) × (Nat → Nat)} {w : rW} {b sc L : Nat} {xs : Nat → Int32} {lim : Nat × Nat} {Q : rQ}
theorem law_loop (hx : exOK θ w b) (hS : exS θ) (hsc : sc < b) (hw : w.1 sc = some (.inl (2, L, xs))) (hL : L ≤ 3072) (hQ : ∀ x : rW, x.2 = w.2 → Q (some (.int 1)) x) : ∀ d i s A Kx rs re T B F Ix ln so be te wd vl gd, i ≤ L + 6 → L < i + 6 * d → invS s → Wp (xL_law θ 12 lim) Q (18, [some (.ref sc), some (.ref b), some (.ref (b + 37)), some (.int (nI i))], [], cS (mS w (b + 37) s T B F Ix ln so be te wd vl gd) b s A Kx rs re) := by
  intro d
  induction d with
  | zero =>
    intro i s A Kx rs re T B F Ix ln so be te wd vl gd hi hd hs
    have hlt : L < i + 6 := by omega
    rw [eL_law_18]
    simp only [eL_law_19, eL_law_20, eL_law_21, eL_law_23, eL_law_24, eL_law_27, eL_law_28, eL_law_29, eL_law_30, eL_law_32, eL_law_33, co_ln hsc hw, Option.elim_some, gt6 hL (show i < 2 ^ 31 by omega), hlt, if_true, eL_law_1147, eL_law_1150, eL_law_1153, eL_law_1154, nb_1, true_and, show Int32.ofNat L = nI L from rfl]
    exact hQ _ rfl
  | succ d ih =>
    intro i s A Kx rs re T B F Ix ln so be te wd vl gd hi hd hs
    rw [eL_law_18]
    by_cases hlt : L < i + 6
    · simp only [eL_law_19, eL_law_20, eL_law_21, eL_law_23, eL_law_24, eL_law_27, eL_law_28, eL_law_29, eL_law_30, eL_law_32, eL_law_33, co_ln hsc hw, Option.elim_some, gt6 hL (show i < 2 ^ 31 by omega), hlt, if_true, eL_law_1147, eL_law_1150, eL_law_1153, eL_law_1154, nb_1, true_and, show Int32.ofNat L = nI L from rfl]
      exact hQ _ rfl
    · have hn : ∀ s A Kx rs re T B F Ix ln so be te wd vl gd, invS s → Wp (xL_law θ 12 lim) Q (1147, [some (.ref sc), some (.ref b), some (.ref (b + 37)), some (.int (nI i))], [], cS (mS w (b + 37) s T B F Ix ln so be te wd vl gd) b s A Kx rs re) := by
        intro s A Kx rs re T B F Ix ln so be te wd vl gd hs
        have ih := ih (i + 6) s A Kx rs re T B F Ix ln so be te wd vl gd (by omega) (by omega) hs
        rw [show nI (i + 6) = nI i + 6 from (nI_add i 6).symm] at ih
        simp only [eL_law_1147, eL_law_1150]
        exact ih
      obtain ⟨P, img, tp, t, sh, fd⟩ := s
      simp only [eL_law_19, eL_law_20, eL_law_21, eL_law_23, eL_law_24, eL_law_27, eL_law_28, eL_law_29, eL_law_30, eL_law_32, eL_law_33, co_ln hsc hw, co_gn hsc hw, co_gv hsc hw, Option.elim_some, gt6 hL (show i < 2 ^ 31 by omega), hlt, if_false, true_and, show Int32.ofNat L = nI L from rfl, vp_in_nI (show i < L by omega) (show L < 2 ^ 31 by omega), nI_clamp (show i < 2 ^ 31 by omega)]
      have hiL : i + 6 ≤ L := by omega
      generalize xs i &&& 63 = v
      refine ite_p (fun _ => lawC_trams hx hS hsc hw hs hiL hL hn) (fun _ => ?_)
      refine ite_p (fun _ => lawC_walker hx hS hsc hw hs hiL hL hn) (fun _ => ?_)
      refine ite_p (fun _ => lawC_of hx hS hsc hw hs hiL hL hn) (fun _ => ?_)
      refine ite_p (fun _ => lawC_set hx hS hsc hw hs hiL hL hn) (fun _ => ?_)
      refine ite_p (fun _ => lawC_turn hx hS hsc hw hs hiL hL hn) (fun _ => ?_)
      refine ite_p (fun _ => lawC_as hx hS hsc hw hs hiL hL hn) (fun _ => ?_)
      refine ite_p (fun _ => lawC_sees hx hS hsc hw hs hiL hL hn) (fun _ => ?_)
      refine ite_p (fun _ => lawC_leader hx hS hsc hw hs hiL hL hn) (fun _ => ?_)
      refine ite_p (fun _ => lawC_minutes hx hS hsc hw hs hiL hL hn) (fun _ => ?_)
      refine ite_p (fun _ => lawC_now hx hS hsc hw hs hiL hL hn) (fun _ => ?_)
      refine ite_p (fun _ => lawC_on hx hS hsc hw hs hiL hL hn) (fun _ => ?_)
      refine ite_p (fun _ => lawC_through hx hS hsc hw hs hiL hL hn) (fun _ => ?_)
      refine ite_p (fun _ => lawC_bumps hx hS hsc hw hs hiL hL hn) (fun _ => ?_)
      refine ite_p (fun _ => lawC_meet hx hS hsc hw hs hiL hL hn) (fun _ => ?_)
      refine ite_p (fun _ => lawC_pace hx hS hsc hw hs hiL hL hn) (fun _ => ?_)
      refine ite_p (fun _ => lawC_kind hx hS hsc hw hs hiL hL hn) (fun _ => ?_)
      refine ite_p (fun _ => lawC_begin hx hS hsc hw hs hiL hL hn) (fun _ => ?_)
      refine ite_p (fun _ => lawC_fewest hx hS hsc hw hs hiL hL hn) (fun _ => ?_)
      refine ite_p (fun _ => lawC_other hx hS hsc hw hs hiL hL hn) (fun _ => ?_)
      refine ite_p (fun _ => lawC_first hx hS hsc hw hs hiL hL hn) (fun _ => ?_)
      refine ite_p (fun _ => lawC_feed hx hS hsc hw hs hiL hL hn) (fun _ => ?_)
      refine ite_p (fun _ => lawC_wipe hx hS hsc hw hs hiL hL hn) (fun _ => ?_)
      refine ite_p (fun _ => lawC_avenue hx hS hsc hw hs hiL hL hn) (fun _ => ?_)
      refine ite_p (fun _ => lawC_sheet hx hS hsc hw hs hiL hL hn) (fun _ => ?_)
      refine ite_p (fun _ => lawC_write hx hS hsc hw hs hiL hL hn) (fun _ => ?_)
      refine ite_p (fun _ => lawC_copy hx hS hsc hw hs hiL hL hn) (fun _ => ?_)
      refine ite_p (fun _ => lawC_lays hx hS hsc hw hs hiL hL hn) (fun _ => ?_)
      refine ite_p (fun _ => lawC_book hx hS hsc hw hs hiL hL hn) (fun _ => ?_)
      refine ite_p (fun _ => lawC_read hx hS hsc hw hs hiL hL hn) (fun _ => ?_)
      refine ite_p (fun _ => lawC_image hx hS hsc hw hs hiL hL hn) (fun _ => ?_)
      refine ite_p (fun _ => lawC_undo hx hS hsc hw hs hiL hL hn) (fun _ => ?_)
      refine ite_p (fun _ => lawC_tear hx hS hsc hw hs hiL hL hn) (fun _ => ?_)
      refine ite_p (fun _ => lawC_count hx hS hsc hw hs hiL hL hn) (fun _ => ?_)
      refine ite_p (fun _ => lawC_status hx hS hsc hw hs hiL hL hn) (fun _ => ?_)
      exact hn _ _ _ _ _ _ _ _ _ _ _ _ _ _ _ _ hs
end T94
theorem inv0 : invS (row0, none, z0, 0, sh0, z0) := by
  refine ⟨⟨0, invR.of rfl (by decide) (Or.inr rfl) (fun i hi => by omega)⟩, (fun r hr => by cases hr), fun j => ?_, Nat.zero_le 120, fun s hs => ⟨0, by decide, rfl⟩⟩
  show -128 ≤ (0 : Int32).toInt ∧ (0 : Int32).toInt ≤ 127
  decide
theorem law_start {θ : (Nat → Value) × (Nat → Nat)} {h : Nat → Option rE} {N sc L : Nat} {xs : Nat → Int32} {Q : rQ} (hx : exOK θ (hB h N (N + 49) 1161) N) (hS : exS θ) (hsc : sc < N) (hw : h sc = some (.inl (2, L, xs))) (hL : L ≤ 3072) (hQ : ∀ x : rW, x.2 = (N + 49, 1161) → Q (some (.int 1)) x) : Wp (xL_law θ 12 (N + 49, 1161)) Q (0, [some (.ref sc), none, none, none], [], pW h N [] 0) := by
  have hl : (c37 N).length = 37 := by simp [c37, av8]
  have hi5 := fun n Q => sX5_init0 (θ := θ) (n := n) (h := h) (k := N) (s := 7) (Q := Q)
  have hi6 := fun n Q => sX6_initL (θ := θ) (n := n) (h := h) (b := N) (i := 37) (s := 7 + 505 + 19) (l := c37 N ++ [rO 5 [.null, .null, .null, .null, .null, .int 0, .int 0, .int 0, .int 0, .long 0, .int 0, .int 0, .null, .null, .null, .null, .null, .null, .int 0]]) (Q := Q) (by rw [List.length_append, hl]; rfl) (by simp)
  rw [List.dropLast_concat] at hi6
  have is4 : rIs (pW h N [rO 4 [.null, .null, .null, .int 0, .null, .null, .null]] 7) N 4 := is_at (i := 0) rfl
  have is5 : rIs (pW h N (c37 N ++ [rO 5 [.null, .null, .null, .null, .null, .int 0, .int 0, .int 0, .int 0, .long 0, .int 0, .int 0, .null, .null, .null, .null, .null, .null, .int 0]]) (7 + 505 + 19)) (N + 37) 5 := by
    refine is_at (i := 37) ?_
    rw [List.getElem?_append_right (by omega), hl]
    rfl
  have fin : Wp (xL_law θ 12 (N + 49, 1161)) Q (18, [some (.ref sc), some (.ref N), some (.ref (N + 37)), some (.int (nI 0))], [], pW h N (c37 N ++ m12 (N + 37)) 1161) := by
    rw [made_m, cm_comm]
    exact law_loop (s := (row0, none, z0, 0, sh0, z0)) hx hS hsc (by show (if sc < N then h sc else none) = _; rw [if_pos hsc]; exact hw) hL hQ (L + 1) 0 row0 row0 0 0 z0 z0 z0 z0 (fun _ => 0) 0 0 0 0 0 0 (by omega) (by omega) inv0
  simp only [eL_law_0, eL_law_3, eL_law_4, eL_law_7, eL_law_8, eL_law_11, eL_law_12, eL_law_15, eL_law_16, eL_law_17, pw_new, pw_21, pw_22, List.nil_append, List.length_nil, Nat.add_zero, Nat.zero_add, is4, hi5, Option.toList_none, List.cons_append, hl, is5, hi6, true_and, List.length_append, List.length_cons]
  refine ⟨by omega, by omega, Or.inr ⟨by omega, by omega⟩, by omega, by omega, Or.inr ⟨by omega, by omega⟩, ?_⟩
  exact fin
