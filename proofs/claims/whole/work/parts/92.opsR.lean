/-! the reference does so -/
def mS (w : rW) (c : Nat) (s : sT) (T B F Ix : rR) (ln : Nat → Int64) (so be te : Int32) (wd : Int64) (vl gd : Int32) : rW := mW w c s.1 s.2.2.2.2.2 T B F (tpF s.2.2.1) (boF s.2.2.2.2.1) (zoF s.2.2.2.2.1) (slF s.2.2.2.2.1) ln (s.2.1.getD Ix) (nI s.2.2.2.1) so be te wd vl gd (kpO s.2.1)
section T92
variable {θ : (Nat → Value) × (Nat → Nat)} {n : Nat} {w : rW} {c : Nat} {Q : rQ} {P : rR} {img : Option rR} {tp : Nat → Int32} {t : Nat} {sh : rSh} {fd : Nat → Int32} {T B F Ix : rR} {ln : Nat → Int64} {so be te : Int32} {wd : Int64} {vl gd : Int32}
theorem kR_trams (x1 : Int32) (hi : invS (P, img, tp, t, sh, fd)) (hQ : ∀ T B F Ix ln so be te wd vl gd, Q (some (.int (o_trams P img tp t sh fd x1).1)) (mS w c (o_trams P img tp t sh fd x1).2 T B F Ix ln so be te wd vl gd)) : sg θ (n + 10) 84 [.ref c, .int x1] (mS w c (P, img, tp, t, sh, fd) T B F Ix ln so be te wd vl gd) Q := by
  obtain ⟨⟨m, hv⟩, hI, hb, ht, hs⟩ := hi
  have hv : invR P m := hv
  have ht : t ≤ 120 := ht
  have hs : shOK sh := hs
  have hb : bOK tp := hb
  show sg θ _ _ _ (mW w c P fd T B F (tpF tp) (boF sh) (zoF sh) (slF sh) ln (img.getD Ix) (nI t) so be te wd vl gd (kpO img)) Q
  unfold o_trams at hQ
  rw [sX6_trams]
  by_cases h1 : 0 ≤ x1 ∧ x1 ≤ 1
  · simp only [if_pos h1] at hQ
    rw [if_pos h1]
    exact hQ _ _ _ _ _ _ _ _ _ _ _
  · simp only [if_neg h1] at hQ
    rw [if_neg h1]
    exact hQ _ _ _ _ _ _ _ _ _ _ _
theorem kR_walker (x1 : Int32) (x2 : Int32) (hi : invS (P, img, tp, t, sh, fd)) (hQ : ∀ T B F Ix ln so be te wd vl gd, Q (some (.int (o_walker P img tp t sh fd x1 x2).1)) (mS w c (o_walker P img tp t sh fd x1 x2).2 T B F Ix ln so be te wd vl gd)) : sg θ (n + 10) 88 [.ref c, .int x1, .int x2] (mS w c (P, img, tp, t, sh, fd) T B F Ix ln so be te wd vl gd) Q := by
  obtain ⟨⟨m, hv⟩, hI, hb, ht, hs⟩ := hi
  have hv : invR P m := hv
  have ht : t ≤ 120 := ht
  have hs : shOK sh := hs
  have hb : bOK tp := hb
  show sg θ _ _ _ (mW w c P fd T B F (tpF tp) (boF sh) (zoF sh) (slF sh) ln (img.getD Ix) (nI t) so be te wd vl gd (kpO img)) Q
  have hm := mO_eq hv
  unfold o_walker at hQ
  rw [hm] at hQ
  unfold o_walkerM at hQ
  rw [sX6_walker hv.1.1 hv.1.2.1]
  by_cases h1 : (0 ≤ x1 ∧ x1 ≤ 5) ∧ (0 ≤ x2 ∧ x2 ≤ 99)
  · simp only [if_pos h1] at hQ
    rw [if_pos h1]
    by_cases h2 : m = 8
    · simp only [if_pos h2] at hQ
      rw [if_pos h2]
      exact hQ _ _ _ _ _ _ _ _ _ _ _
    · simp only [if_neg h2] at hQ
      rw [if_neg h2]
      exact hQ _ _ _ _ _ _ _ _ _ _ _
  · simp only [if_neg h1] at hQ
    rw [if_neg h1]
    exact hQ _ _ _ _ _ _ _ _ _ _ _
theorem kR_of (x1 : Int32) (x2 : Int32) (hi : invS (P, img, tp, t, sh, fd)) (hQ : ∀ T B F Ix ln so be te wd vl gd, Q (some (.int (o_of P img tp t sh fd x1 x2).1)) (mS w c (o_of P img tp t sh fd x1 x2).2 T B F Ix ln so be te wd vl gd)) : sg θ (n + 10) 92 [.ref c, .int x1, .int x2] (mS w c (P, img, tp, t, sh, fd) T B F Ix ln so be te wd vl gd) Q := by
  obtain ⟨⟨m, hv⟩, hI, hb, ht, hs⟩ := hi
  have hv : invR P m := hv
  have ht : t ≤ 120 := ht
  have hs : shOK sh := hs
  have hb : bOK tp := hb
  show sg θ _ _ _ (mW w c P fd T B F (tpF tp) (boF sh) (zoF sh) (slF sh) ln (img.getD Ix) (nI t) so be te wd vl gd (kpO img)) Q
  have hm := mO_eq hv
  unfold o_of at hQ
  rw [hm] at hQ
  unfold o_ofM at hQ
  rw [sX6_of hv]
  by_cases h1 : (isW P x1 && decide (0 ≤ x2 ∧ x2 ≤ 9)) = true
  · simp only [if_pos h1] at hQ
    rw [if_pos h1]
    exact hQ _ _ _ _ _ _ _ _ _ _ _
  · simp only [if_neg h1] at hQ
    rw [if_neg h1]
    exact hQ _ _ _ _ _ _ _ _ _ _ _
theorem kR_set (x1 : Int32) (x2 : Int32) (x3 : Int32) (hi : invS (P, img, tp, t, sh, fd)) (hQ : ∀ T B F Ix ln so be te wd vl gd, Q (some (.int (o_set P img tp t sh fd x1 x2 x3).1)) (mS w c (o_set P img tp t sh fd x1 x2 x3).2 T B F Ix ln so be te wd vl gd)) : sg θ (n + 10) 100 [.ref c, .int x1, .int x2, .int x3] (mS w c (P, img, tp, t, sh, fd) T B F Ix ln so be te wd vl gd) Q := by
  obtain ⟨⟨m, hv⟩, hI, hb, ht, hs⟩ := hi
  have hv : invR P m := hv
  have ht : t ≤ 120 := ht
  have hs : shOK sh := hs
  have hb : bOK tp := hb
  show sg θ _ _ _ (mW w c P fd T B F (tpF tp) (boF sh) (zoF sh) (slF sh) ln (img.getD Ix) (nI t) so be te wd vl gd (kpO img)) Q
  unfold o_set at hQ
  rw [sX6_set hv.1.1 hv.1.2.1]
  by_cases h1 : setOK P x1 x2 x3 = true
  · simp only [if_pos h1] at hQ
    rw [if_pos h1]
    exact hQ _ _ _ _ _ _ _ _ _ _ _
  · simp only [if_neg h1] at hQ
    rw [if_neg h1]
    exact hQ _ _ _ _ _ _ _ _ _ _ _
theorem kR_turn (x1 : Int32) (x2 : Int32) (hi : invS (P, img, tp, t, sh, fd)) (hQ : ∀ T B F Ix ln so be te wd vl gd, Q (some (.int (o_turn P img tp t sh fd x1 x2).1)) (mS w c (o_turn P img tp t sh fd x1 x2).2 T B F Ix ln so be te wd vl gd)) : sg θ (n + 10) 102 [.ref c, .int x1, .int x2] (mS w c (P, img, tp, t, sh, fd) T B F Ix ln so be te wd vl gd) Q := by
  obtain ⟨⟨m, hv⟩, hI, hb, ht, hs⟩ := hi
  have hv : invR P m := hv
  have ht : t ≤ 120 := ht
  have hs : shOK sh := hs
  have hb : bOK tp := hb
  show sg θ _ _ _ (mW w c P fd T B F (tpF tp) (boF sh) (zoF sh) (slF sh) ln (img.getD Ix) (nI t) so be te wd vl gd (kpO img)) Q
  unfold o_turn at hQ
  rw [sX6_turn hv.1.1 hv.1.2.1]
  by_cases h1 : (isW P x1 && decide (0 ≤ x2 ∧ x2 ≤ 5)) = true
  · simp only [if_pos h1] at hQ
    rw [if_pos h1]
    exact hQ _ _ _ _ _ _ _ _ _ _ _
  · simp only [if_neg h1] at hQ
    rw [if_neg h1]
    exact hQ _ _ _ _ _ _ _ _ _ _ _
theorem kR_as (x1 : Int32) (x2 : Int32) (hi : invS (P, img, tp, t, sh, fd)) (hQ : ∀ T B F Ix ln so be te wd vl gd, Q (some (.int (o_as P img tp t sh fd x1 x2).1)) (mS w c (o_as P img tp t sh fd x1 x2).2 T B F Ix ln so be te wd vl gd)) : sg θ (n + 10) 103 [.ref c, .int x1, .int x2] (mS w c (P, img, tp, t, sh, fd) T B F Ix ln so be te wd vl gd) Q := by
  obtain ⟨⟨m, hv⟩, hI, hb, ht, hs⟩ := hi
  have hv : invR P m := hv
  have ht : t ≤ 120 := ht
  have hs : shOK sh := hs
  have hb : bOK tp := hb
  show sg θ _ _ _ (mW w c P fd T B F (tpF tp) (boF sh) (zoF sh) (slF sh) ln (img.getD Ix) (nI t) so be te wd vl gd (kpO img)) Q
  unfold o_as at hQ
  rw [sX6_as hv.1]
  by_cases h1 : (isW P x1 && decide (0 ≤ x2 ∧ x2 ≤ 5)) = true
  · simp only [if_pos h1] at hQ
    rw [if_pos h1]
    by_cases h2 : underI (its P x1.toNatClampNeg 0) x2 = true
    · simp only [if_pos h2] at hQ
      rw [if_pos h2]
      exact hQ _ _ _ _ _ _ _ _ _ _ _
    · simp only [if_neg h2] at hQ
      rw [if_neg h2]
      exact hQ _ _ _ _ _ _ _ _ _ _ _
  · simp only [if_neg h1] at hQ
    rw [if_neg h1]
    exact hQ _ _ _ _ _ _ _ _ _ _ _
theorem kR_sees (x1 : Int32) (hi : invS (P, img, tp, t, sh, fd)) (hQ : ∀ T B F Ix ln so be te wd vl gd, Q (some (.int (o_sees P img tp t sh fd x1).1)) (mS w c (o_sees P img tp t sh fd x1).2 T B F Ix ln so be te wd vl gd)) : sg θ (n + 10) 104 [.ref c, .int x1] (mS w c (P, img, tp, t, sh, fd) T B F Ix ln so be te wd vl gd) Q := by
  obtain ⟨⟨m, hv⟩, hI, hb, ht, hs⟩ := hi
  have hv : invR P m := hv
  have ht : t ≤ 120 := ht
  have hs : shOK sh := hs
  have hb : bOK tp := hb
  show sg θ _ _ _ (mW w c P fd T B F (tpF tp) (boF sh) (zoF sh) (slF sh) ln (img.getD Ix) (nI t) so be te wd vl gd (kpO img)) Q
  have hm := mO_eq hv
  unfold o_sees at hQ
  rw [hm] at hQ
  unfold o_seesM at hQ
  rw [sX6_sees hv.1]
  by_cases h1 : isW P x1 = true
  · simp only [if_pos h1] at hQ
    rw [if_pos h1]
    exact hQ _ _ _ _ _ _ _ _ _ _ _
  · simp only [if_neg h1] at hQ
    rw [if_neg h1]
    exact hQ _ _ _ _ _ _ _ _ _ _ _
theorem kR_leader (x1 : Int32) (hi : invS (P, img, tp, t, sh, fd)) (hQ : ∀ T B F Ix ln so be te wd vl gd, Q (some (.int (o_leader P img tp t sh fd x1).1)) (mS w c (o_leader P img tp t sh fd x1).2 T B F Ix ln so be te wd vl gd)) : sg θ (n + 10) 105 [.ref c, .int x1] (mS w c (P, img, tp, t, sh, fd) T B F Ix ln so be te wd vl gd) Q := by
  obtain ⟨⟨m, hv⟩, hI, hb, ht, hs⟩ := hi
  have hv : invR P m := hv
  have ht : t ≤ 120 := ht
  have hs : shOK sh := hs
  have hb : bOK tp := hb
  show sg θ _ _ _ (mW w c P fd T B F (tpF tp) (boF sh) (zoF sh) (slF sh) ln (img.getD Ix) (nI t) so be te wd vl gd (kpO img)) Q
  have hm := mO_eq hv
  unfold o_leader at hQ
  rw [hm] at hQ
  unfold o_leaderM at hQ
  rw [sX6_leader hv.1]
  by_cases h1 : isW P x1 = true
  · simp only [if_pos h1] at hQ
    rw [if_pos h1]
    by_cases h2 : ledB P x1.toNatClampNeg m = true
    · simp only [if_pos h2] at hQ
      rw [if_pos h2]
      exact hQ _ _ _ _ _ _ _ _ _ _ _
    · simp only [if_neg h2] at hQ
      rw [if_neg h2]
      exact hQ _ _ _ _ _ _ _ _ _ _ _
  · simp only [if_neg h1] at hQ
    rw [if_neg h1]
    exact hQ _ _ _ _ _ _ _ _ _ _ _
theorem kR_minutes (x1 : Int32) (hi : invS (P, img, tp, t, sh, fd)) (hQ : ∀ T B F Ix ln so be te wd vl gd, Q (some (.int (o_minutes P img tp t sh fd x1).1)) (mS w c (o_minutes P img tp t sh fd x1).2 T B F Ix ln so be te wd vl gd)) : sg θ (n + 10) 107 [.ref c, .int x1] (mS w c (P, img, tp, t, sh, fd) T B F Ix ln so be te wd vl gd) Q := by
  obtain ⟨⟨m, hv⟩, hI, hb, ht, hs⟩ := hi
  have hv : invR P m := hv
  have ht : t ≤ 120 := ht
  have hs : shOK sh := hs
  have hb : bOK tp := hb
  show sg θ _ _ _ (mW w c P fd T B F (tpF tp) (boF sh) (zoF sh) (slF sh) ln (img.getD Ix) (nI t) so be te wd vl gd (kpO img)) Q
  have hm := mO_eq hv
  unfold o_minutes at hQ
  rw [hm] at hQ
  unfold o_minutesM at hQ
  rw [sX6_minutes hv]
  by_cases h1 : 1 ≤ x1 ∧ x1 ≤ 100
  · simp only [if_pos h1] at hQ
    rw [if_pos h1]
    by_cases h2 : P 0 + x1 ≤ 99999
    · simp only [if_pos h2] at hQ
      rw [if_pos h2]
      exact hQ _ _ _ _ _ _ _ _ _ _ _
    · simp only [if_neg h2] at hQ
      rw [if_neg h2]
      exact hQ _ _ _ _ _ _ _ _ _ _ _
  · simp only [if_neg h1] at hQ
    rw [if_neg h1]
    exact hQ _ _ _ _ _ _ _ _ _ _ _
theorem kR_now (x1 : Int32) (hi : invS (P, img, tp, t, sh, fd)) (hQ : ∀ T B F Ix ln so be te wd vl gd, Q (some (.int (o_now P img tp t sh fd x1).1)) (mS w c (o_now P img tp t sh fd x1).2 T B F Ix ln so be te wd vl gd)) : sg θ (n + 10) 118 [.ref c, .int x1] (mS w c (P, img, tp, t, sh, fd) T B F Ix ln so be te wd vl gd) Q := by
  obtain ⟨⟨m, hv⟩, hI, hb, ht, hs⟩ := hi
  have hv : invR P m := hv
  have ht : t ≤ 120 := ht
  have hs : shOK sh := hs
  have hb : bOK tp := hb
  show sg θ _ _ _ (mW w c P fd T B F (tpF tp) (boF sh) (zoF sh) (slF sh) ln (img.getD Ix) (nI t) so be te wd vl gd (kpO img)) Q
  have hm := mO_eq hv
  unfold o_now at hQ
  rw [hm] at hQ
  unfold o_nowM at hQ
  rw [sX6_now hv.1.1 hv.1.2.1]
  by_cases h1 : x1 = 0
  · simp only [if_pos h1] at hQ
    rw [if_pos h1]
    exact hQ _ _ _ _ _ _ _ _ _ _ _
  · simp only [if_neg h1] at hQ
    rw [if_neg h1]
    by_cases h2 : x1 = 1
    · simp only [if_pos h2] at hQ
      rw [if_pos h2]
      exact hQ _ _ _ _ _ _ _ _ _ _ _
    · simp only [if_neg h2] at hQ
      rw [if_neg h2]
      by_cases h3 : x1 = 2
      · simp only [if_pos h3] at hQ
        rw [if_pos h3]
        exact hQ _ _ _ _ _ _ _ _ _ _ _
      · simp only [if_neg h3] at hQ
        rw [if_neg h3]
        by_cases h4 : x1 = 3
        · simp only [if_pos h4] at hQ
          rw [if_pos h4]
          exact hQ _ _ _ _ _ _ _ _ _ _ _
        · simp only [if_neg h4] at hQ
          rw [if_neg h4]
          by_cases h5 : x1 = 4
          · simp only [if_pos h5] at hQ
            rw [if_pos h5]
            exact hQ _ _ _ _ _ _ _ _ _ _ _
          · simp only [if_neg h5] at hQ
            rw [if_neg h5]
            by_cases h6 : x1 = 5
            · simp only [if_pos h6] at hQ
              rw [if_pos h6]
              exact hQ _ _ _ _ _ _ _ _ _ _ _
            · simp only [if_neg h6] at hQ
              rw [if_neg h6]
              exact hQ _ _ _ _ _ _ _ _ _ _ _
theorem kR_on (x1 : Int32) (x2 : Int32) (x3 : Int32) (hi : invS (P, img, tp, t, sh, fd)) (hQ : ∀ T B F Ix ln so be te wd vl gd, Q (some (.int (o_on P img tp t sh fd x1 x2 x3).1)) (mS w c (o_on P img tp t sh fd x1 x2 x3).2 T B F Ix ln so be te wd vl gd)) : sg θ (n + 10) 120 [.ref c, .int x1, .int x2, .int x3] (mS w c (P, img, tp, t, sh, fd) T B F Ix ln so be te wd vl gd) Q := by
  obtain ⟨⟨m, hv⟩, hI, hb, ht, hs⟩ := hi
  have hv : invR P m := hv
  have ht : t ≤ 120 := ht
  have hs : shOK sh := hs
  have hb : bOK tp := hb
  show sg θ _ _ _ (mW w c P fd T B F (tpF tp) (boF sh) (zoF sh) (slF sh) ln (img.getD Ix) (nI t) so be te wd vl gd (kpO img)) Q
  have hm := mO_eq hv
  unfold o_on at hQ
  rw [hm] at hQ
  unfold o_onM at hQ
  rw [sX6_on hv]
  by_cases h1 : (isW P x1 && decide (0 ≤ x2 ∧ x2 ≤ 200) && decide (0 ≤ x3 ∧ x3 ≤ 3)) = true
  · simp only [if_pos h1] at hQ
    rw [if_pos h1]
    exact hQ _ _ _ _ _ _ _ _ _ _ _
  · simp only [if_neg h1] at hQ
    rw [if_neg h1]
    exact hQ _ _ _ _ _ _ _ _ _ _ _
theorem kR_through (x1 : Int32) (hi : invS (P, img, tp, t, sh, fd)) (hQ : ∀ T B F Ix ln so be te wd vl gd, Q (some (.int (o_through P img tp t sh fd x1).1)) (mS w c (o_through P img tp t sh fd x1).2 T B F Ix ln so be te wd vl gd)) : sg θ (n + 10) 122 [.ref c, .int x1] (mS w c (P, img, tp, t, sh, fd) T B F Ix ln so be te wd vl gd) Q := by
  obtain ⟨⟨m, hv⟩, hI, hb, ht, hs⟩ := hi
  have hv : invR P m := hv
  have ht : t ≤ 120 := ht
  have hs : shOK sh := hs
  have hb : bOK tp := hb
  show sg θ _ _ _ (mW w c P fd T B F (tpF tp) (boF sh) (zoF sh) (slF sh) ln (img.getD Ix) (nI t) so be te wd vl gd (kpO img)) Q
  have hm := mO_eq hv
  unfold o_through at hQ
  rw [hm] at hQ
  unfold o_throughM at hQ
  rw [sX6_through hv]
  by_cases h1 : isW P x1 = true
  · simp only [if_pos h1] at hQ
    rw [if_pos h1]
    by_cases h2 : tillR m x1.toNatClampNeg 201 P ≤ 200
    · simp only [if_pos h2] at hQ
      rw [if_pos h2]
      exact hQ _ _ _ _ _ _ _ _ _ _ _
    · simp only [if_neg h2] at hQ
      rw [if_neg h2]
      exact hQ _ _ _ _ _ _ _ _ _ _ _
  · simp only [if_neg h1] at hQ
    rw [if_neg h1]
    exact hQ _ _ _ _ _ _ _ _ _ _ _
theorem kR_bumps (x1 : Int32) (hi : invS (P, img, tp, t, sh, fd)) (hQ : ∀ T B F Ix ln so be te wd vl gd, Q (some (.int (o_bumps P img tp t sh fd x1).1)) (mS w c (o_bumps P img tp t sh fd x1).2 T B F Ix ln so be te wd vl gd)) : sg θ (n + 10) 124 [.ref c, .int x1] (mS w c (P, img, tp, t, sh, fd) T B F Ix ln so be te wd vl gd) Q := by
  obtain ⟨⟨m, hv⟩, hI, hb, ht, hs⟩ := hi
  have hv : invR P m := hv
  have ht : t ≤ 120 := ht
  have hs : shOK sh := hs
  have hb : bOK tp := hb
  show sg θ _ _ _ (mW w c P fd T B F (tpF tp) (boF sh) (zoF sh) (slF sh) ln (img.getD Ix) (nI t) so be te wd vl gd (kpO img)) Q
  have hm := mO_eq hv
  unfold o_bumps at hQ
  rw [hm] at hQ
  unfold o_bumpsM at hQ
  rw [sX6_bumps hv]
  by_cases h1 : isW P x1 = true
  · simp only [if_pos h1] at hQ
    rw [if_pos h1]
    by_cases h2 : thenN (fun r => decide (its P x1.toNatClampNeg 6 < its r x1.toNatClampNeg 6)) m 200 P < 200
    · simp only [if_pos h2] at hQ
      rw [if_pos h2]
      exact hQ _ _ _ _ _ _ _ _ _ _ _
    · simp only [if_neg h2] at hQ
      rw [if_neg h2]
      exact hQ _ _ _ _ _ _ _ _ _ _ _
  · simp only [if_neg h1] at hQ
    rw [if_neg h1]
    exact hQ _ _ _ _ _ _ _ _ _ _ _
theorem kR_meet (x1 : Int32) (x2 : Int32) (hi : invS (P, img, tp, t, sh, fd)) (hQ : ∀ T B F Ix ln so be te wd vl gd, Q (some (.int (o_meet P img tp t sh fd x1 x2).1)) (mS w c (o_meet P img tp t sh fd x1 x2).2 T B F Ix ln so be te wd vl gd)) : sg θ (n + 10) 125 [.ref c, .int x1, .int x2] (mS w c (P, img, tp, t, sh, fd) T B F Ix ln so be te wd vl gd) Q := by
  obtain ⟨⟨m, hv⟩, hI, hb, ht, hs⟩ := hi
  have hv : invR P m := hv
  have ht : t ≤ 120 := ht
  have hs : shOK sh := hs
  have hb : bOK tp := hb
  show sg θ _ _ _ (mW w c P fd T B F (tpF tp) (boF sh) (zoF sh) (slF sh) ln (img.getD Ix) (nI t) so be te wd vl gd (kpO img)) Q
  have hm := mO_eq hv
  unfold o_meet at hQ
  rw [hm] at hQ
  unfold o_meetM at hQ
  rw [sX6_meet hv]
  by_cases h1 : isW P x1 = true ∧ isW P x2 = true ∧ ¬ x1 = x2
  · simp only [if_pos h1] at hQ
    rw [if_pos h1]
    by_cases h2 : firstN (fun r => seesP r x1.toNatClampNeg x2.toNatClampNeg && seesP r x2.toNatClampNeg x1.toNatClampNeg) m 201 P < 201
    · simp only [if_pos h2] at hQ
      rw [if_pos h2]
      exact hQ _ _ _ _ _ _ _ _ _ _ _
    · simp only [if_neg h2] at hQ
      rw [if_neg h2]
      exact hQ _ _ _ _ _ _ _ _ _ _ _
  · simp only [if_neg h1] at hQ
    rw [if_neg h1]
    exact hQ _ _ _ _ _ _ _ _ _ _ _
theorem kR_pace (x1 : Int32) (hi : invS (P, img, tp, t, sh, fd)) (hQ : ∀ T B F Ix ln so be te wd vl gd, Q (some (.int (o_pace P img tp t sh fd x1).1)) (mS w c (o_pace P img tp t sh fd x1).2 T B F Ix ln so be te wd vl gd)) : sg θ (n + 10) 126 [.ref c, .int x1] (mS w c (P, img, tp, t, sh, fd) T B F Ix ln so be te wd vl gd) Q := by
  obtain ⟨⟨m, hv⟩, hI, hb, ht, hs⟩ := hi
  have hv : invR P m := hv
  have ht : t ≤ 120 := ht
  have hs : shOK sh := hs
  have hb : bOK tp := hb
  show sg θ _ _ _ (mW w c P fd T B F (tpF tp) (boF sh) (zoF sh) (slF sh) ln (img.getD Ix) (nI t) so be te wd vl gd (kpO img)) Q
  have hm := mO_eq hv
  unfold o_pace at hQ
  rw [hm] at hQ
  unfold o_paceM at hQ
  rw [sX6_pace hv]
  by_cases h1 : isW P x1 = true
  · simp only [if_pos h1] at hQ
    rw [if_pos h1]
    generalize (soonUp m x1.toNatClampNeg 3 P 10) = sz at hQ ⊢
    by_cases h2 : sz.1 = -1
    · simp only [if_pos h2] at hQ
      rw [if_pos h2]
      exact hQ _ _ _ _ _ _ _ _ _ _ _
    · simp only [if_neg h2] at hQ
      rw [if_neg h2]
      exact hQ _ _ _ _ _ _ _ _ _ _ _
  · simp only [if_neg h1] at hQ
    rw [if_neg h1]
    exact hQ _ _ _ _ _ _ _ _ _ _ _
theorem kR_kind (x1 : Int32) (hi : invS (P, img, tp, t, sh, fd)) (hQ : ∀ T B F Ix ln so be te wd vl gd, Q (some (.int (o_kind P img tp t sh fd x1).1)) (mS w c (o_kind P img tp t sh fd x1).2 T B F Ix ln so be te wd vl gd)) : sg θ (n + 10) 128 [.ref c, .int x1] (mS w c (P, img, tp, t, sh, fd) T B F Ix ln so be te wd vl gd) Q := by
  obtain ⟨⟨m, hv⟩, hI, hb, ht, hs⟩ := hi
  have hv : invR P m := hv
  have ht : t ≤ 120 := ht
  have hs : shOK sh := hs
  have hb : bOK tp := hb
  show sg θ _ _ _ (mW w c P fd T B F (tpF tp) (boF sh) (zoF sh) (slF sh) ln (img.getD Ix) (nI t) so be te wd vl gd (kpO img)) Q
  have hm := mO_eq hv
  unfold o_kind at hQ
  rw [hm] at hQ
  unfold o_kindM at hQ
  rw [sX6_kind hv]
  by_cases h1 : isW P x1 = true
  · simp only [if_pos h1] at hQ
    rw [if_pos h1]
    generalize (soonUp m x1.toNatClampNeg 0 P 6) = sz at hQ ⊢
    by_cases h2 : sz.1 = -1
    · simp only [if_pos h2] at hQ
      rw [if_pos h2]
      exact hQ _ _ _ _ _ _ _ _ _ _ _
    · simp only [if_neg h2] at hQ
      rw [if_neg h2]
      exact hQ _ _ _ _ _ _ _ _ _ _ _
  · simp only [if_neg h1] at hQ
    rw [if_neg h1]
    exact hQ _ _ _ _ _ _ _ _ _ _ _
theorem kR_begin (x1 : Int32) (x2 : Int32) (hi : invS (P, img, tp, t, sh, fd)) (hQ : ∀ T B F Ix ln so be te wd vl gd, Q (some (.int (o_begin P img tp t sh fd x1 x2).1)) (mS w c (o_begin P img tp t sh fd x1 x2).2 T B F Ix ln so be te wd vl gd)) : sg θ (n + 10) 129 [.ref c, .int x1, .int x2] (mS w c (P, img, tp, t, sh, fd) T B F Ix ln so be te wd vl gd) Q := by
  obtain ⟨⟨m, hv⟩, hI, hb, ht, hs⟩ := hi
  have hv : invR P m := hv
  have ht : t ≤ 120 := ht
  have hs : shOK sh := hs
  have hb : bOK tp := hb
  show sg θ _ _ _ (mW w c P fd T B F (tpF tp) (boF sh) (zoF sh) (slF sh) ln (img.getD Ix) (nI t) so be te wd vl gd (kpO img)) Q
  have hm := mO_eq hv
  unfold o_begin at hQ
  rw [hm] at hQ
  unfold o_beginM at hQ
  rw [sX6_begin hv]
  by_cases h1 : (isW P x1 && decide (1 ≤ x2 ∧ x2 ≤ 20)) = true
  · simp only [if_pos h1] at hQ
    rw [if_pos h1]
    exact hQ _ _ _ _ _ _ _ _ _ _ _
  · simp only [if_neg h1] at hQ
    rw [if_neg h1]
    exact hQ _ _ _ _ _ _ _ _ _ _ _
theorem kR_fewest (x1 : Int32) (hi : invS (P, img, tp, t, sh, fd)) (hQ : ∀ T B F Ix ln so be te wd vl gd, Q (some (.int (o_fewest P img tp t sh fd x1).1)) (mS w c (o_fewest P img tp t sh fd x1).2 T B F Ix ln so be te wd vl gd)) : sg θ (n + 10) 131 [.ref c, .int x1] (mS w c (P, img, tp, t, sh, fd) T B F Ix ln so be te wd vl gd) Q := by
  obtain ⟨⟨m, hv⟩, hI, hb, ht, hs⟩ := hi
  have hv : invR P m := hv
  have ht : t ≤ 120 := ht
  have hs : shOK sh := hs
  have hb : bOK tp := hb
  show sg θ _ _ _ (mW w c P fd T B F (tpF tp) (boF sh) (zoF sh) (slF sh) ln (img.getD Ix) (nI t) so be te wd vl gd (kpO img)) Q
  have hm := mO_eq hv
  unfold o_fewest at hQ
  rw [hm] at hQ
  unfold o_fewestM at hQ
  refine sX6_fewest hv ?_
  by_cases h1 : 1 ≤ x1 ∧ x1 ≤ 20
  · simp only [if_pos h1] at hQ
    rw [if_pos h1]
    cases hz : fewS (fewG m x1.toNatClampNeg P) (2 ^ m) (m + 1) 0 with
    | some z =>
      simp only [hz] at hQ ⊢
      exact hQ _ _ _ _ _ _ _ _ _ _ _
    | none =>
      simp only [hz] at hQ ⊢
      exact hQ _ _ _ _ _ _ _ _ _ _ _
  · simp only [if_neg h1] at hQ
    rw [if_neg h1]
    exact hQ _ _ _ _ _ _ _ _ _ _ _
theorem kR_other (x1 : Int32) (hi : invS (P, img, tp, t, sh, fd)) (hQ : ∀ T B F Ix ln so be te wd vl gd, Q (some (.int (o_other P img tp t sh fd x1).1)) (mS w c (o_other P img tp t sh fd x1).2 T B F Ix ln so be te wd vl gd)) : sg θ (n + 10) 133 [.ref c, .int x1] (mS w c (P, img, tp, t, sh, fd) T B F Ix ln so be te wd vl gd) Q := by
  obtain ⟨⟨m, hv⟩, hI, hb, ht, hs⟩ := hi
  have hv : invR P m := hv
  have ht : t ≤ 120 := ht
  have hs : shOK sh := hs
  have hb : bOK tp := hb
  show sg θ _ _ _ (mW w c P fd T B F (tpF tp) (boF sh) (zoF sh) (slF sh) ln (img.getD Ix) (nI t) so be te wd vl gd (kpO img)) Q
  have hm := mO_eq hv
  unfold o_other at hQ
  rw [hm] at hQ
  unfold o_otherM at hQ
  rw [sX6_other hv]
  by_cases h1 : 1 ≤ x1 ∧ x1 ≤ 60
  · simp only [if_pos h1] at hQ
    rw [if_pos h1]
    by_cases h2 : (othUp m x1.toNatClampNeg P m).1 = -1
    · simp only [if_pos h2] at hQ
      rw [if_pos h2]
      exact hQ _ _ _ _ _ _ _ _ _ _ _
    · simp only [if_neg h2] at hQ
      rw [if_neg h2]
      exact hQ _ _ _ _ _ _ _ _ _ _ _
  · simp only [if_neg h1] at hQ
    rw [if_neg h1]
    exact hQ _ _ _ _ _ _ _ _ _ _ _
theorem kR_first (hi : invS (P, img, tp, t, sh, fd)) (hQ : ∀ T B F Ix ln so be te wd vl gd, Q (some (.int (o_first P img tp t sh fd).1)) (mS w c (o_first P img tp t sh fd).2 T B F Ix ln so be te wd vl gd)) : sg θ (n + 10) 134 [.ref c] (mS w c (P, img, tp, t, sh, fd) T B F Ix ln so be te wd vl gd) Q := by
  obtain ⟨⟨m, hv⟩, hI, hb, ht, hs⟩ := hi
  have hv : invR P m := hv
  have ht : t ≤ 120 := ht
  have hs : shOK sh := hs
  have hb : bOK tp := hb
  show sg θ _ _ _ (mW w c P fd T B F (tpF tp) (boF sh) (zoF sh) (slF sh) ln (img.getD Ix) (nI t) so be te wd vl gd (kpO img)) Q
  have hm := mO_eq hv
  unfold o_first at hQ
  rw [hm] at hQ
  unfold o_firstM at hQ
  rw [sX6_first hv]
  by_cases h1 : hasT m 201 P = true
  · simp only [if_pos h1] at hQ
    rw [if_pos h1]
    exact hQ _ _ _ _ _ _ _ _ _ _ _
  · simp only [if_neg h1] at hQ
    rw [if_neg h1]
    exact hQ _ _ _ _ _ _ _ _ _ _ _
theorem kR_feed (x1 : Int32) (x2 : Int32) (hi : invS (P, img, tp, t, sh, fd)) (hQ : ∀ T B F Ix ln so be te wd vl gd, Q (some (.int (o_feed P img tp t sh fd x1 x2).1)) (mS w c (o_feed P img tp t sh fd x1 x2).2 T B F Ix ln so be te wd vl gd)) : sg θ (n + 10) 135 [.ref c, .int x1, .int x2] (mS w c (P, img, tp, t, sh, fd) T B F Ix ln so be te wd vl gd) Q := by
  obtain ⟨⟨m, hv⟩, hI, hb, ht, hs⟩ := hi
  have hv : invR P m := hv
  have ht : t ≤ 120 := ht
  have hs : shOK sh := hs
  have hb : bOK tp := hb
  show sg θ _ _ _ (mW w c P fd T B F (tpF tp) (boF sh) (zoF sh) (slF sh) ln (img.getD Ix) (nI t) so be te wd vl gd (kpO img)) Q
  unfold o_feed at hQ
  rw [sX6_feed ht]
  by_cases h1 : 1 ≤ x2 ∧ x2 ≤ 4
  · simp only [if_pos h1] at hQ
    rw [if_pos h1]
    by_cases h2 : t + x2.toNatClampNeg ≤ 120
    · simp only [if_pos h2] at hQ
      rw [if_pos h2]
      exact hQ _ _ _ _ _ _ _ _ _ _ _
    · simp only [if_neg h2] at hQ
      rw [if_neg h2]
      exact hQ _ _ _ _ _ _ _ _ _ _ _
  · simp only [if_neg h1] at hQ
    rw [if_neg h1]
    exact hQ _ _ _ _ _ _ _ _ _ _ _
theorem kR_wipe (hi : invS (P, img, tp, t, sh, fd)) (hQ : ∀ T B F Ix ln so be te wd vl gd, Q (some (.int (o_wipe P img tp t sh fd).1)) (mS w c (o_wipe P img tp t sh fd).2 T B F Ix ln so be te wd vl gd)) : sg θ (n + 10) 136 [.ref c] (mS w c (P, img, tp, t, sh, fd) T B F Ix ln so be te wd vl gd) Q := by
  obtain ⟨⟨m, hv⟩, hI, hb, ht, hs⟩ := hi
  have hv : invR P m := hv
  have ht : t ≤ 120 := ht
  have hs : shOK sh := hs
  have hb : bOK tp := hb
  show sg θ _ _ _ (mW w c P fd T B F (tpF tp) (boF sh) (zoF sh) (slF sh) ln (img.getD Ix) (nI t) so be te wd vl gd (kpO img)) Q
  unfold o_wipe at hQ
  rw [sX6_wipe]
  exact hQ _ _ _ _ _ _ _ _ _ _ _
theorem kR_avenue (hi : invS (P, img, tp, t, sh, fd)) (hQ : ∀ T B F Ix ln so be te wd vl gd, Q (some (.int (o_avenue P img tp t sh fd).1)) (mS w c (o_avenue P img tp t sh fd).2 T B F Ix ln so be te wd vl gd)) : sg θ (n + 10) 137 [.ref c] (mS w c (P, img, tp, t, sh, fd) T B F Ix ln so be te wd vl gd) Q := by
  obtain ⟨⟨m, hv⟩, hI, hb, ht, hs⟩ := hi
  have hv : invR P m := hv
  have ht : t ≤ 120 := ht
  have hs : shOK sh := hs
  have hb : bOK tp := hb
  show sg θ _ _ _ (mW w c P fd T B F (tpF tp) (boF sh) (zoF sh) (slF sh) ln (img.getD Ix) (nI t) so be te wd vl gd (kpO img)) Q
  unfold o_avenue at hQ
  exact sX6_avenue hb ht hv (fun F so be te wd vl gd => hQ _ _ _ _ _ _ _ _ _ _ _)
theorem kR_sheet (x1 : Int32) (x2 : Int32) (x3 : Int32) (hi : invS (P, img, tp, t, sh, fd)) (hQ : ∀ T B F Ix ln so be te wd vl gd, Q (some (.int (o_sheet P img tp t sh fd x1 x2 x3).1)) (mS w c (o_sheet P img tp t sh fd x1 x2 x3).2 T B F Ix ln so be te wd vl gd)) : sg θ (n + 10) 149 [.ref c, .int x1, .int x2, .int x3] (mS w c (P, img, tp, t, sh, fd) T B F Ix ln so be te wd vl gd) Q := by
  obtain ⟨⟨m, hv⟩, hI, hb, ht, hs⟩ := hi
  have hv : invR P m := hv
  have ht : t ≤ 120 := ht
  have hs : shOK sh := hs
  have hb : bOK tp := hb
  show sg θ _ _ _ (mW w c P fd T B F (tpF tp) (boF sh) (zoF sh) (slF sh) ln (img.getD Ix) (nI t) so be te wd vl gd (kpO img)) Q
  unfold o_sheet at hQ
  rw [sX6_sheet]
  by_cases h1 : (0 ≤ x1 ∧ x1 < 4) ∧ (x2 = 0 ∨ x2 = 8 ∨ x2 = 16 ∨ x2 = 64)
  · simp only [if_pos h1] at hQ
    rw [if_pos h1]
    by_cases h2 : x3 < 0
    · simp only [if_pos h2] at hQ
      rw [if_pos h2]
      exact hQ _ _ _ _ _ _ _ _ _ _ _
    · simp only [if_neg h2] at hQ
      rw [if_neg h2]
      by_cases h3 : x3 ≤ 40
      · simp only [if_pos h3] at hQ
        rw [if_pos h3]
        exact hQ _ _ _ _ _ _ _ _ _ _ _
      · simp only [if_neg h3] at hQ
        rw [if_neg h3]
        exact hQ _ _ _ _ _ _ _ _ _ _ _
  · simp only [if_neg h1] at hQ
    rw [if_neg h1]
    exact hQ _ _ _ _ _ _ _ _ _ _ _
theorem kR_write (x1 : Int32) (x2 : Int32) (x3 : Int64) (hi : invS (P, img, tp, t, sh, fd)) (hQ : ∀ T B F Ix ln so be te wd vl gd, Q (some (.long (o_write P img tp t sh fd x1 x2 x3).1)) (mS w c (o_write P img tp t sh fd x1 x2 x3).2 T B F Ix ln so be te wd vl gd)) : sg θ (n + 10) 151 [.ref c, .int x1, .int x2, .long x3] (mS w c (P, img, tp, t, sh, fd) T B F Ix ln so be te wd vl gd) Q := by
  obtain ⟨⟨m, hv⟩, hI, hb, ht, hs⟩ := hi
  have hv : invR P m := hv
  have ht : t ≤ 120 := ht
  have hs : shOK sh := hs
  have hb : bOK tp := hb
  show sg θ _ _ _ (mW w c P fd T B F (tpF tp) (boF sh) (zoF sh) (slF sh) ln (img.getD Ix) (nI t) so be te wd vl gd (kpO img)) Q
  unfold o_write at hQ
  rw [sX6_write hs]
  by_cases h1 : 0 ≤ x1 ∧ x1 < 4
  · simp only [if_pos h1] at hQ
    rw [if_pos h1]
    by_cases h2 : (sh x1.toNatClampNeg).1 = 0
    · simp only [if_pos h2] at hQ
      rw [if_pos h2]
      exact hQ _ _ _ _ _ _ _ _ _ _ _
    · simp only [if_neg h2] at hQ
      rw [if_neg h2]
      by_cases h3 : 0 ≤ x2 ∧ x2 ≤ (sh x1.toNatClampNeg).2.1 - 1
      · simp only [if_pos h3] at hQ
        rw [if_pos h3]
        (simp only [mS, bo_same, zo_same] at hQ; exact hQ _ _ _ _ _ _ _ _ _ _ _)
      · simp only [if_neg h3] at hQ
        rw [if_neg h3]
        exact hQ _ _ _ _ _ _ _ _ _ _ _
  · simp only [if_neg h1] at hQ
    rw [if_neg h1]
    exact hQ _ _ _ _ _ _ _ _ _ _ _
theorem kR_copy (x1 : Int32) (x2 : Int32) (x3 : Int32) (x4 : Int32) (x5 : Int32) (hi : invS (P, img, tp, t, sh, fd)) (hQ : ∀ T B F Ix ln so be te wd vl gd, Q (some (.int (o_copy P img tp t sh fd x1 x2 x3 x4 x5).1)) (mS w c (o_copy P img tp t sh fd x1 x2 x3 x4 x5).2 T B F Ix ln so be te wd vl gd)) : sg θ (n + 10) 153 [.ref c, .int x1, .int x2, .int x3, .int x4, .int x5] (mS w c (P, img, tp, t, sh, fd) T B F Ix ln so be te wd vl gd) Q := by
  obtain ⟨⟨m, hv⟩, hI, hb, ht, hs⟩ := hi
  have hv : invR P m := hv
  have ht : t ≤ 120 := ht
  have hs : shOK sh := hs
  have hb : bOK tp := hb
  show sg θ _ _ _ (mW w c P fd T B F (tpF tp) (boF sh) (zoF sh) (slF sh) ln (img.getD Ix) (nI t) so be te wd vl gd (kpO img)) Q
  unfold o_copy at hQ
  refine sX6_copy hs ?_
  by_cases h1 : (0 ≤ x1 ∧ x1 < 4) ∧ (0 ≤ x3 ∧ x3 < 4)
  · simp only [if_pos h1] at hQ
    rw [if_pos h1]
    by_cases h2 : (sh x1.toNatClampNeg).1 = 0 ∨ (sh x3.toNatClampNeg).1 = 0
    · simp only [if_pos h2] at hQ
      rw [if_pos h2]
      exact hQ _ _ _ _ _ _ _ _ _ _ _
    · simp only [if_neg h2] at hQ
      rw [if_neg h2]
      by_cases h3 : (sh x1.toNatClampNeg).1 = (sh x3.toNatClampNeg).1
      · simp only [if_pos h3] at hQ
        rw [if_pos h3]
        by_cases h4 : (hasB (sh x1.toNatClampNeg).2.1 x2 x5 && hasB (sh x3.toNatClampNeg).2.1 x4 x5) = true
        · simp only [if_pos h4] at hQ
          rw [if_pos h4]
          (simp only [mS, bo_same, zo_same] at hQ; exact fun _ => hQ _ _ _ _ _ _ _ _ _ _ _)
        · simp only [if_neg h4] at hQ
          rw [if_neg h4]
          exact hQ _ _ _ _ _ _ _ _ _ _ _
      · simp only [if_neg h3] at hQ
        rw [if_neg h3]
        exact hQ _ _ _ _ _ _ _ _ _ _ _
  · simp only [if_neg h1] at hQ
    rw [if_neg h1]
    exact hQ _ _ _ _ _ _ _ _ _ _ _
theorem kR_lays (x1 : Int32) (hi : invS (P, img, tp, t, sh, fd)) (hQ : ∀ T B F Ix ln so be te wd vl gd, Q (some (.int (o_lays P img tp t sh fd x1).1)) (mS w c (o_lays P img tp t sh fd x1).2 T B F Ix ln so be te wd vl gd)) : sg θ (n + 10) 155 [.ref c, .int x1] (mS w c (P, img, tp, t, sh, fd) T B F Ix ln so be te wd vl gd) Q := by
  obtain ⟨⟨m, hv⟩, hI, hb, ht, hs⟩ := hi
  have hv : invR P m := hv
  have ht : t ≤ 120 := ht
  have hs : shOK sh := hs
  have hb : bOK tp := hb
  show sg θ _ _ _ (mW w c P fd T B F (tpF tp) (boF sh) (zoF sh) (slF sh) ln (img.getD Ix) (nI t) so be te wd vl gd (kpO img)) Q
  have hm := mO_eq hv
  unfold o_lays at hQ
  rw [hm] at hQ
  unfold o_laysM at hQ
  rw [sX6_lays hv.1 hs]
  by_cases h1 : 0 ≤ x1 ∧ x1 < 4
  · simp only [if_pos h1] at hQ
    rw [if_pos h1]
    by_cases h2 : (sh x1.toNatClampNeg).1 = 0
    · simp only [if_pos h2] at hQ
      rw [if_pos h2]
      exact hQ _ _ _ _ _ _ _ _ _ _ _
    · simp only [if_neg h2] at hQ
      rw [if_neg h2]
      exact hQ _ _ _ _ _ _ _ _ _ _ _
  · simp only [if_neg h1] at hQ
    rw [if_neg h1]
    exact hQ _ _ _ _ _ _ _ _ _ _ _
theorem kR_book (x1 : Int32) (x2 : Int32) (hi : invS (P, img, tp, t, sh, fd)) (hQ : ∀ T B F Ix ln so be te wd vl gd, Q (some (.int (o_book P img tp t sh fd x1 x2).1)) (mS w c (o_book P img tp t sh fd x1 x2).2 T B F Ix ln so be te wd vl gd)) : sg θ (n + 10) 157 [.ref c, .int x1, .int x2] (mS w c (P, img, tp, t, sh, fd) T B F Ix ln so be te wd vl gd) Q := by
  obtain ⟨⟨m, hv⟩, hI, hb, ht, hs⟩ := hi
  have hv : invR P m := hv
  have ht : t ≤ 120 := ht
  have hs : shOK sh := hs
  have hb : bOK tp := hb
  show sg θ _ _ _ (mW w c P fd T B F (tpF tp) (boF sh) (zoF sh) (slF sh) ln (img.getD Ix) (nI t) so be te wd vl gd (kpO img)) Q
  have hm := mO_eq hv
  unfold o_book at hQ
  rw [hm] at hQ
  unfold o_bookM at hQ
  rw [sX6_book hv hs]
  by_cases h1 : 0 ≤ x1 ∧ x1 < 4
  · simp only [if_pos h1] at hQ
    rw [if_pos h1]
    by_cases h2 : (sh x1.toNatClampNeg).1 = 0
    · simp only [if_pos h2] at hQ
      rw [if_pos h2]
      exact hQ _ _ _ _ _ _ _ _ _ _ _
    · simp only [if_neg h2] at hQ
      rw [if_neg h2]
      by_cases h3 : isW P x2 = true
      · simp only [if_pos h3] at hQ
        rw [if_pos h3]
        (simp only [mS, bo_same, zo_same] at hQ; exact hQ _ _ _ _ _ _ _ _ _ _ _)
      · simp only [if_neg h3] at hQ
        rw [if_neg h3]
        exact hQ _ _ _ _ _ _ _ _ _ _ _
  · simp only [if_neg h1] at hQ
    rw [if_neg h1]
    exact hQ _ _ _ _ _ _ _ _ _ _ _
theorem kR_read (x1 : Int32) (x2 : Int32) (hi : invS (P, img, tp, t, sh, fd)) (hQ : ∀ T B F Ix ln so be te wd vl gd, Q (some (.int (o_read P img tp t sh fd x1 x2).1)) (mS w c (o_read P img tp t sh fd x1 x2).2 T B F Ix ln so be te wd vl gd)) : sg θ (n + 10) 158 [.ref c, .int x1, .int x2] (mS w c (P, img, tp, t, sh, fd) T B F Ix ln so be te wd vl gd) Q := by
  obtain ⟨⟨m, hv⟩, hI, hb, ht, hs⟩ := hi
  have hv : invR P m := hv
  have ht : t ≤ 120 := ht
  have hs : shOK sh := hs
  have hb : bOK tp := hb
  show sg θ _ _ _ (mW w c P fd T B F (tpF tp) (boF sh) (zoF sh) (slF sh) ln (img.getD Ix) (nI t) so be te wd vl gd (kpO img)) Q
  have hm := mO_eq hv
  unfold o_read at hQ
  rw [hm] at hQ
  unfold o_readM at hQ
  refine sX6_read hv hs ?_
  by_cases h1 : 0 ≤ x1 ∧ x1 < 4
  · simp only [if_pos h1] at hQ
    rw [if_pos h1]
    by_cases h2 : (sh x1.toNatClampNeg).1 = 0
    · simp only [if_pos h2] at hQ
      rw [if_pos h2]
      exact hQ _ _ _ _ _ _ _ _ _ _ _
    · simp only [if_neg h2] at hQ
      rw [if_neg h2]
      by_cases h3 : isW P x2 = true
      · simp only [if_pos h3] at hQ
        rw [if_pos h3]
        exact hQ _ _ _ _ _ _ _ _ _ _ _
      · simp only [if_neg h3] at hQ
        rw [if_neg h3]
        exact hQ _ _ _ _ _ _ _ _ _ _ _
  · simp only [if_neg h1] at hQ
    rw [if_neg h1]
    exact hQ _ _ _ _ _ _ _ _ _ _ _
theorem kR_image (hi : invS (P, img, tp, t, sh, fd)) (hQ : ∀ T B F Ix ln so be te wd vl gd, Q (some (.int (o_image P img tp t sh fd).1)) (mS w c (o_image P img tp t sh fd).2 T B F Ix ln so be te wd vl gd)) : sg θ (n + 10) 160 [.ref c] (mS w c (P, img, tp, t, sh, fd) T B F Ix ln so be te wd vl gd) Q := by
  obtain ⟨⟨m, hv⟩, hI, hb, ht, hs⟩ := hi
  have hv : invR P m := hv
  have ht : t ≤ 120 := ht
  have hs : shOK sh := hs
  have hb : bOK tp := hb
  show sg θ _ _ _ (mW w c P fd T B F (tpF tp) (boF sh) (zoF sh) (slF sh) ln (img.getD Ix) (nI t) so be te wd vl gd (kpO img)) Q
  unfold o_image at hQ
  rw [sX6_image]
  exact hQ T B F Ix ln so be te wd vl gd
theorem kR_undo (hi : invS (P, img, tp, t, sh, fd)) (hQ : ∀ T B F Ix ln so be te wd vl gd, Q (some (.int (o_undo P img tp t sh fd).1)) (mS w c (o_undo P img tp t sh fd).2 T B F Ix ln so be te wd vl gd)) : sg θ (n + 10) 161 [.ref c] (mS w c (P, img, tp, t, sh, fd) T B F Ix ln so be te wd vl gd) Q := by
  obtain ⟨⟨m, hv⟩, hI, hb, ht, hs⟩ := hi
  have hv : invR P m := hv
  have ht : t ≤ 120 := ht
  have hs : shOK sh := hs
  have hb : bOK tp := hb
  show sg θ _ _ _ (mW w c P fd T B F (tpF tp) (boF sh) (zoF sh) (slF sh) ln (img.getD Ix) (nI t) so be te wd vl gd (kpO img)) Q
  rw [sX6_undo]
  unfold o_undo at hQ
  cases img with
  | some r =>
    rw [if_neg (show ¬ kpO (some r) = 0 from (by decide : ¬ (1 : Int32) = 0))]
    exact hQ T B F Ix ln so be te wd vl gd
  | none =>
    rw [if_pos (show kpO none = 0 from rfl)]
    exact hQ T B F Ix ln so be te wd vl gd
theorem kR_tear (hi : invS (P, img, tp, t, sh, fd)) (hQ : ∀ T B F Ix ln so be te wd vl gd, Q (some (.int (o_tear P img tp t sh fd).1)) (mS w c (o_tear P img tp t sh fd).2 T B F Ix ln so be te wd vl gd)) : sg θ (n + 10) 162 [.ref c] (mS w c (P, img, tp, t, sh, fd) T B F Ix ln so be te wd vl gd) Q := by
  obtain ⟨⟨m, hv⟩, hI, hb, ht, hs⟩ := hi
  have hv : invR P m := hv
  have ht : t ≤ 120 := ht
  have hs : shOK sh := hs
  have hb : bOK tp := hb
  show sg θ _ _ _ (mW w c P fd T B F (tpF tp) (boF sh) (zoF sh) (slF sh) ln (img.getD Ix) (nI t) so be te wd vl gd (kpO img)) Q
  unfold o_tear at hQ
  rw [sX6_tear]
  exact hQ T B F (img.getD Ix) ln so be te wd vl gd
theorem kR_count (x1 : Int32) (hi : invS (P, img, tp, t, sh, fd)) (hQ : ∀ T B F Ix ln so be te wd vl gd, Q (some (.int (o_count P img tp t sh fd x1).1)) (mS w c (o_count P img tp t sh fd x1).2 T B F Ix ln so be te wd vl gd)) : sg θ (n + 10) 163 [.ref c, .int x1] (mS w c (P, img, tp, t, sh, fd) T B F Ix ln so be te wd vl gd) Q := by
  obtain ⟨⟨m, hv⟩, hI, hb, ht, hs⟩ := hi
  have hv : invR P m := hv
  have ht : t ≤ 120 := ht
  have hs : shOK sh := hs
  have hb : bOK tp := hb
  show sg θ _ _ _ (mW w c P fd T B F (tpF tp) (boF sh) (zoF sh) (slF sh) ln (img.getD Ix) (nI t) so be te wd vl gd (kpO img)) Q
  have hm := mO_eq hv
  unfold o_count at hQ
  rw [hm] at hQ
  unfold o_countM at hQ
  rw [sX6_count hv.1.1 hv.1.2.1]
  by_cases h1 : x1 = 0
  · simp only [if_pos h1] at hQ
    rw [if_pos h1]
    exact hQ _ _ _ _ _ _ _ _ _ _ _
  · simp only [if_neg h1] at hQ
    rw [if_neg h1]
    by_cases h2 : x1 = 1
    · simp only [if_pos h2] at hQ
      rw [if_pos h2]
      exact hQ _ _ _ _ _ _ _ _ _ _ _
    · simp only [if_neg h2] at hQ
      rw [if_neg h2]
      by_cases h3 : x1 = 2
      · simp only [if_pos h3] at hQ
        rw [if_pos h3]
        exact hQ _ _ _ _ _ _ _ _ _ _ _
      · simp only [if_neg h3] at hQ
        rw [if_neg h3]
        by_cases h4 : x1 = 3
        · simp only [if_pos h4] at hQ
          rw [if_pos h4]
          exact hQ _ _ _ _ _ _ _ _ _ _ _
        · simp only [if_neg h4] at hQ
          rw [if_neg h4]
          exact hQ _ _ _ _ _ _ _ _ _ _ _
theorem kR_status (x1 : Int32) (hi : invS (P, img, tp, t, sh, fd)) (hQ : ∀ T B F Ix ln so be te wd vl gd, Q (some (.int (o_status P img tp t sh fd x1).1)) (mS w c (o_status P img tp t sh fd x1).2 T B F Ix ln so be te wd vl gd)) : sg θ (n + 10) 164 [.ref c, .int x1] (mS w c (P, img, tp, t, sh, fd) T B F Ix ln so be te wd vl gd) Q := by
  obtain ⟨⟨m, hv⟩, hI, hb, ht, hs⟩ := hi
  have hv : invR P m := hv
  have ht : t ≤ 120 := ht
  have hs : shOK sh := hs
  have hb : bOK tp := hb
  show sg θ _ _ _ (mW w c P fd T B F (tpF tp) (boF sh) (zoF sh) (slF sh) ln (img.getD Ix) (nI t) so be te wd vl gd (kpO img)) Q
  unfold o_status at hQ
  rw [sX6_status]
  by_cases h1 : -1 ≤ x1 ∧ x1 ≤ 6
  · simp only [if_pos h1] at hQ
    rw [if_pos h1]
    exact hQ _ _ _ _ _ _ _ _ _ _ _
  · simp only [if_neg h1] at hQ
    rw [if_neg h1]
    exact hQ _ _ _ _ _ _ _ _ _ _ _
end T92
