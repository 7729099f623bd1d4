/-! the worlds that the constructors leave -/
def row0 : rR := fun p => if p = 1 then 1 else 0
def sh0 : rSh := fun _ => (0, 0, fun _ => 0)
def z0 : Nat → Int32 := fun _ => 0
theorem ar0 {c : Nat} : avRow row0 c = fun _ => 0 := by
  funext j
  unfold avRow row0
  by_cases h : j < 8
  · rw [if_pos h, if_neg (by omega)]
  · rw [if_neg h]
theorem mr0 : mRow row0 = upd (fun _ => 0) 1 1 := by
  funext p
  unfold mRow row0 upd
  by_cases h : p = 1
  · subst h; simp
  · simp [h]
def m12 (c : Nat) : List rE := [rO 5 [.ref (c + 1), .ref (c + 2), .ref (c + 3), .ref (c + 4), .ref (c + 5), .int 0, .int 0, .int 0, .int 0, .long 0, .int 0, .int 0, .ref (c + 6), .ref (c + 7), .ref (c + 8), .ref (c + 9), .ref (c + 10), .ref (c + 11), .int 0], rIA 59 (upd (fun _ => 0) 1 1), rIA 7 (fun _ => 0), rIA 59 (fun _ => 0), rIA 59 (fun _ => 0), rIA 120 (fun _ => 0), rIA 4 (fun _ => 0), rIA 4 (fun _ => 0), rLA 160 (fun _ => 0), rLA 40 (fun _ => 0), rIA 59 (fun _ => 0), rIA 59 (fun _ => 0)]
theorem vq59 : vp_in 1 59 := by unfold vp_in; decide
section T86
variable {θ : (Nat → Value) × (Nat → Nat)} {n : Nat} {h : Nat → Option rE} {k s : Nat} {Q : rQ}
theorem pw_wn {b i : Nat} {l : List rE} : rWn (pW h b l s) (b + i) = pWn l i := by
  unfold rWn pWn
  rw [pw_at]
  rfl
theorem pw_gv {b i : Nat} {l : List rE} : rGv (pW h b l s) (b + i) = pGv l i := by
  unfold rGv pGv
  rw [pw_at]
  rfl
theorem pw_si {b i j : Nat} {l : List rE} {x : Int32} (hi : i < l.length) : rSi (pW h b l s) (b + i) j x = pW h b (l.set i (.inl (0, pWn l i, upd (pGv l i) j x))) s := by
  unfold rSi
  rw [pw_wn, pw_gv, pw_set hi]
theorem sX6_init0 : sg θ (n + 2) 83 [.ref k] (pW h k [rO 5 [.null, .null, .null, .null, .null, .int 0, .int 0, .int 0, .int 0, .long 0, .int 0, .int 0, .null, .null, .null, .null, .null, .null, .int 0]] s) Q ↔ Q none (pW h k (m12 k) (s + 630)) := by
  rw [nX6_init]
  simp [eX6_init_0, eX6_init_1, eX6_init_4, eX6_init_5, eX6_init_7, eX6_init_9, eX6_init_12, eX6_init_13, eX6_init_15, eX6_init_17, eX6_init_20, eX6_init_21, eX6_init_23, eX6_init_25, eX6_init_28, eX6_init_29, eX6_init_31, eX6_init_33, eX6_init_36, eX6_init_37, eX6_init_39, eX6_init_41, eX6_init_44, eX6_init_45, eX6_init_46, eX6_init_48, eX6_init_51, eX6_init_52, eX6_init_53, eX6_init_55, eX6_init_58, eX6_init_59, eX6_init_62, eX6_init_64, eX6_init_67, eX6_init_68, eX6_init_70, eX6_init_72, eX6_init_75, eX6_init_76, eX6_init_78, eX6_init_80, eX6_init_83, eX6_init_84, eX6_init_86, eX6_init_88, eX6_init_91, eX6_init_92, eX6_init_95, eX6_init_96, eX6_init_97, eX6_init_98, pw_new, pw_21, pw_22, pw_pf0, pw_f0, pPf, pF, pw_wn, pw_si, pWn, pGv, vq59, cq1, Nat.add_assoc, m12]
theorem sX6_initL {b i : Nat} {l : List rE} (hi : i + 1 = l.length) (hl : l.getLast? = some (rO 5 [.null, .null, .null, .null, .null, .int 0, .int 0, .int 0, .int 0, .long 0, .int 0, .int 0, .null, .null, .null, .null, .null, .null, .int 0])) : sg θ (n + 2) 83 [.ref (b + i)] (pW h b l s) Q ↔ Q none (pW h b (l.dropLast ++ m12 (b + i)) (s + 630)) := by
  have hi2 : i = l.dropLast.length := by rw [List.length_dropLast]; omega
  have e := last_split hl
  conv => lhs; rw [e, pw_split, hi2]
  rw [sX6_init0, pw_split, hi2]
theorem av_cg {u v : rW} {k q : Nat} {r : rR} (h : u.1 q = v.1 q) : (avSet u k r).1 q = (avSet v k r).1 q := by
  simp only [avSet]
  rw [h]
def hB (h : Nat → Option rE) (k z s : Nat) : rW := (fun q => if q < k then h q else none, z, s)
theorem made_c {z : Nat} {q : Nat} : (if q < k then h q else (c37 k)[q - k]?) = (cW (hB h k z s) k row0 row0 row0 0 z0 0 0 0 sh0 z0).1 q := by
  by_cases h1 : q < k
  · rw [if_pos h1, cw_off (Or.inl h1)]
    simp only [hB]
    rw [if_pos h1]
  · rw [if_neg h1]
    by_cases h2 : q < k + 37
    · obtain ⟨i, rfl⟩ : ∃ i, q = k + i := ⟨q - k, by omega⟩
      have hi : i < 37 := by omega
      rw [Nat.add_sub_cancel_left]
      rcases (show i = 0 ∨ i = 1 ∨ i = 2 ∨ i = 3 ∨ i = 4 ∨ i = 5 ∨ i = 6 ∨ i = 7 ∨ i = 8 ∨ i = 9 ∨ i = 10 ∨ i = 11 ∨ i = 12 ∨ i = 13 ∨ i = 14 ∨ i = 15 ∨ i = 16 ∨ i = 17 ∨ i = 18 ∨ i = 19 ∨ i = 20 ∨ i = 21 ∨ i = 22 ∨ i = 23 ∨ i = 24 ∨ i = 25 ∨ i = 26 ∨ i = 27 ∨ i = 28 ∨ i = 29 ∨ i = 30 ∨ i = 31 ∨ i = 32 ∨ i = 33 ∨ i = 34 ∨ i = 35 ∨ i = 36 by omega) with rfl | rfl | rfl | rfl | rfl | rfl | rfl | rfl | rfl | rfl | rfl | rfl | rfl | rfl | rfl | rfl | rfl | rfl | rfl | rfl | rfl | rfl | rfl | rfl | rfl | rfl | rfl | rfl | rfl | rfl | rfl | rfl | rfl | rfl | rfl | rfl | rfl
      · simp [c37, cW, avSet, coSet, cObj, Nat.add_assoc]; rfl
      · simp [c37, av8, z8, cW, avSet, coSet, avObj, row0]
      · simp [c37, av8, z8, cW, avSet, coSet, ar0]
      · simp [c37, av8, z8, cW, avSet, coSet, ar0]
      · simp [c37, av8, z8, cW, avSet, coSet, ar0]
      · simp [c37, av8, z8, cW, avSet, coSet, ar0]
      · simp [c37, av8, z8, cW, avSet, coSet, ar0]
      · simp [c37, av8, z8, cW, avSet, coSet, ar0]
      · simp [c37, av8, z8, cW, avSet, coSet, ar0]
      · simp [c37, av8, z8, cW, avSet, coSet, avObj, row0]
      · simp [c37, av8, z8, cW, avSet, coSet, ar0]
      · simp [c37, av8, z8, cW, avSet, coSet, ar0]
      · simp [c37, av8, z8, cW, avSet, coSet, ar0]
      · simp [c37, av8, z8, cW, avSet, coSet, ar0]
      · simp [c37, av8, z8, cW, avSet, coSet, ar0]
      · simp [c37, av8, z8, cW, avSet, coSet, ar0]
      · simp [c37, av8, z8, cW, avSet, coSet, ar0]
      · simp [c37, av8, z8, cW, avSet, coSet, avObj, row0]
      · simp [c37, av8, z8, cW, avSet, coSet, ar0]
      · simp [c37, av8, z8, cW, avSet, coSet, ar0]
      · simp [c37, av8, z8, cW, avSet, coSet, ar0]
      · simp [c37, av8, z8, cW, avSet, coSet, ar0]
      · simp [c37, av8, z8, cW, avSet, coSet, ar0]
      · simp [c37, av8, z8, cW, avSet, coSet, ar0]
      · simp [c37, av8, z8, cW, avSet, coSet, ar0]
      · simp [c37, av8, cW, avSet, coSet]
      · simp [c37, av8, cW, avSet, coSet]; rfl
      · simp [c37, av8, cW, avSet, coSet]
      · simp [c37, av8, cW, avSet, coSet, sh0]
      · simp [c37, av8, cW, avSet, coSet, sh0]
      · simp [c37, av8, cW, avSet, coSet, sh0]
      · simp [c37, av8, cW, avSet, coSet, sh0]
      · simp [c37, av8, cW, avSet, coSet, sh0]
      · simp [c37, av8, cW, avSet, coSet, sh0]
      · simp [c37, av8, cW, avSet, coSet, sh0]
      · simp [c37, av8, cW, avSet, coSet, sh0]
      · simp [c37, av8, cW, avSet, coSet]; rfl
    · rw [cw_off (Or.inr (by omega)), List.getElem?_eq_none (by simp [c37, av8]; omega)]
      simp only [hB]
      rw [if_neg h1]
theorem made_m : pW h k (c37 k ++ m12 (k + 37)) s = mW (cW (hB h k (k + 49) s) k row0 row0 row0 0 z0 0 0 0 sh0 z0) (k + 37) row0 z0 z0 z0 z0 (tpF z0) (boF sh0) (zoF sh0) (slF sh0) (fun _ => 0) z0 0 0 0 0 0 0 0 0 := by
  have hl : (c37 k).length = 37 := by simp [c37, av8]
  have mz : mRow z0 = fun _ => 0 := by funext p; simp [mRow, z0]
  have tpz : tpF z0 = fun _ => 0 := by funext p; show (0 : Int32) &&& 255 = 0; decide
  rw [pw_split, hl]
  refine Prod.ext (funext fun q => ?_) ?_
  · show (if q < k + 37 then (if q < k then h q else (c37 k)[q - k]?) else (m12 (k + 37))[q - (k + 37)]?) = _
    by_cases h1 : q < k + 37
    · rw [if_pos h1, mw_off (Or.inl h1)]
      exact made_c
    · rw [if_neg h1]
      by_cases h2 : q < k + 49
      · obtain ⟨i, rfl⟩ : ∃ i, q = k + 37 + i := ⟨q - (k + 37), by omega⟩
        have hi : i < 12 := by omega
        rw [Nat.add_sub_cancel_left]
        match i, hi with
        | 0, _ => simp [m12, mW, mObj]
        | 1, _ => simp [m12, mW, mr0]
        | 2, _ => simp [m12, mW]; rfl
        | 3, _ => simp [m12, mW, mz]
        | 4, _ => simp [m12, mW, mz]
        | 5, _ => simp [m12, mW, tpz]
        | 6, _ => simp [m12, mW]; rfl
        | 7, _ => simp [m12, mW]; rfl
        | 8, _ => simp [m12, mW]; rfl
        | 9, _ => simp [m12, mW]
        | 10, _ => simp [m12, mW, mz]
        | 11, _ => simp [m12, mW, mz]
      · rw [mw_off (Or.inr (by omega)), cw_off (Or.inr (by omega)), List.getElem?_eq_none (by simp [m12]; omega)]
        simp only [hB]
        rw [if_neg (by omega)]
  · show (k + 37 + (m12 (k + 37)).length, s) = (k + 49, s)
    simp [m12]
theorem cm_comm {w : rW} {b : Nat} {P A K : rR} {kp : Int32} {tp : Nat → Int32} {tl rs re : Int32} {sh : rSh} {fd : Nat → Int32} {R : rR} {fd2 : Nat → Int32} {T B F : rR} {tp2 bo zo : Nat → Int32} {sl ln : Nat → Int64} {I : rR} {tm so be te : Int32} {wd : Int64} {vl gd kp2 : Int32} : mW (cW w b P A K kp tp tl rs re sh fd) (b + 37) R fd2 T B F tp2 bo zo sl ln I tm so be te wd vl gd kp2 = cW (mW w (b + 37) R fd2 T B F tp2 bo zo sl ln I tm so be te wd vl gd kp2) b P A K kp tp tl rs re sh fd := by
  refine Prod.ext (funext fun q => ?_) rfl
  by_cases h1 : q < b + 37
  · rw [mw_off (Or.inl h1)]
    by_cases h2 : q < b
    · rw [cw_off (Or.inl h2), cw_off (Or.inl h2), mw_off (Or.inl h1)]
    · have key : ∀ w w' : rW, (cW w b P A K kp tp tl rs re sh fd).1 q = (cW w' b P A K kp tp tl rs re sh fd).1 q := by
        intro w w'
        obtain ⟨i, rfl⟩ : ∃ i, q = b + i := ⟨q - b, by omega⟩
        have hi : i < 37 := by omega
        by_cases h25 : i = 0 ∨ 25 ≤ i
        · rw [cw_co (by omega), cw_co (by omega)]
          simp only [coSet]
          rcases (show i = 0 ∨ i = 25 ∨ i = 26 ∨ i = 27 ∨ i = 28 ∨ i = 29 ∨ i = 30 ∨ i = 31 ∨ i = 32 ∨ i = 33 ∨ i = 34 ∨ i = 35 ∨ i = 36 by omega) with rfl | rfl | rfl | rfl | rfl | rfl | rfl | rfl | rfl | rfl | rfl | rfl | rfl <;> simp
        · have avk : ∀ (u v : rW) (k : Nat) (r : rR), k ≤ b + i → b + i < k + 8 → (avSet u k r).1 (b + i) = (avSet v k r).1 (b + i) := by
            intro u v k r h1 h2
            obtain ⟨d, hd⟩ : ∃ d, b + i = k + d := ⟨b + i - k, by omega⟩
            rw [hd]
            have hd8 : d < 8 := by omega
            match d, hd8 with
            | 0, _ => rw [show k + 0 = k from rfl, av_at, av_at]
            | 1, _ => rw [av_at1, av_at1]
            | 2, _ => rw [av_at2, av_at2]
            | 3, _ => rw [av_at3, av_at3]
            | 4, _ => rw [av_at4, av_at4]
            | 5, _ => rw [av_at5, av_at5]
            | 6, _ => rw [av_at6, av_at6]
            | 7, _ => rw [av_at7, av_at7]
          unfold cW
          by_cases c1 : i < 9
          · exact avk _ _ _ _ (by omega) (by omega)
          · refine av_cg ?_
            by_cases c2 : i < 17
            · exact avk _ _ _ _ (by omega) (by omega)
            · refine av_cg ?_
              exact avk _ _ _ _ (by omega) (by omega)
      exact key _ _
  · rw [cw_off (Or.inr (by omega))]
    by_cases h2 : q < b + 49
    · obtain ⟨i, rfl⟩ : ∃ i, q = b + 37 + i := ⟨q - (b + 37), by omega⟩
      have hi : i < 12 := by omega
      match i, hi with
      | 0, _ => rw [show b + 37 + 0 = b + 37 from rfl, mw_a0, mw_a0]
      | 1, _ => rw [mw_a1, mw_a1]
      | 2, _ => rw [mw_a2, mw_a2]
      | 3, _ => rw [mw_a3, mw_a3]
      | 4, _ => rw [mw_a4, mw_a4]
      | 5, _ => rw [mw_a5, mw_a5]
      | 6, _ => rw [mw_a6, mw_a6]
      | 7, _ => rw [mw_a7, mw_a7]
      | 8, _ => rw [mw_a8, mw_a8]
      | 9, _ => rw [mw_a9, mw_a9]
      | 10, _ => rw [mw_a10, mw_a10]
      | 11, _ => rw [mw_a11, mw_a11]
    · rw [mw_off (Or.inr (by omega)), mw_off (Or.inr (by omega)), cw_off (Or.inr (by omega))]
end T86
