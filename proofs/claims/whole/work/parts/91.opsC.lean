/-! the class does so -/
def cS (w : rW) (b : Nat) (s : sT) (A Kx : rR) (rs re : Int32) : rW := cW w b s.1 A (s.2.1.getD Kx) (kpO s.2.1) s.2.2.1 (nI s.2.2.2.1) rs re s.2.2.2.2.1 s.2.2.2.2.2
section T91
variable {θ : (Nat → Value) × (Nat → Nat)} {n : Nat} {w : rW} {b : Nat} {Q : rQ} {P : rR} {img : Option rR} {tp : Nat → Int32} {t : Nat} {sh : rSh} {fd : Nat → Int32} {A Kx : rR} {rs re : Int32}
theorem kC_trams (x1 : Int32) (hx : exOK θ w b) (hS : exS θ) (hi : invS (P, img, tp, t, sh, fd)) (hQ : ∀ A Kx rs re, Q (some (.int (o_trams P img tp t sh fd x1).1)) (cS w b (o_trams P img tp t sh fd x1).2 A Kx rs re)) : sg θ (n + 10) 38 [.ref b, .int x1] (cS w b (P, img, tp, t, sh, fd) A Kx rs re) Q := by
  obtain ⟨⟨m, hv⟩, hI, hb, ht, hs⟩ := hi
  have hv : invR P m := hv
  have ht : t ≤ 120 := ht
  have hs : shOK sh := hs
  have hb : bOK tp := hb
  show sg θ _ _ _ (cW w b P A (img.getD Kx) (kpO img) tp (nI t) rs re sh fd) Q
  unfold o_trams at hQ
  rw [sX5_trams]
  by_cases h1 : 0 ≤ x1 ∧ x1 ≤ 1
  · simp only [if_pos h1] at hQ
    rw [if_pos h1]
    exact hQ _ _ _ _
  · simp only [if_neg h1] at hQ
    rw [if_neg h1]
    exact hQ _ _ _ _
theorem kC_walker (x1 : Int32) (x2 : Int32) (hx : exOK θ w b) (hS : exS θ) (hi : invS (P, img, tp, t, sh, fd)) (hQ : ∀ A Kx rs re, Q (some (.int (o_walker P img tp t sh fd x1 x2).1)) (cS w b (o_walker P img tp t sh fd x1 x2).2 A Kx rs re)) : sg θ (n + 10) 41 [.ref b, .int x1, .int x2] (cS w b (P, img, tp, t, sh, fd) A Kx rs re) Q := by
  obtain ⟨⟨m, hv⟩, hI, hb, ht, hs⟩ := hi
  have hv : invR P m := hv
  have ht : t ≤ 120 := ht
  have hs : shOK sh := hs
  have hb : bOK tp := hb
  show sg θ _ _ _ (cW w b P A (img.getD Kx) (kpO img) tp (nI t) rs re sh fd) Q
  have hm := mO_eq hv
  unfold o_walker at hQ
  rw [hm] at hQ
  unfold o_walkerM at hQ
  rw [sX5_walker hv.1.1 hv.1.2.1]
  by_cases h1 : (0 ≤ x1 ∧ x1 ≤ 5) ∧ (0 ≤ x2 ∧ x2 ≤ 99)
  · simp only [if_pos h1] at hQ
    rw [if_pos h1]
    by_cases h2 : m = 8
    · simp only [if_pos h2] at hQ
      rw [if_pos h2]
      exact hQ _ _ _ _
    · simp only [if_neg h2] at hQ
      rw [if_neg h2]
      exact hQ _ _ _ _
  · simp only [if_neg h1] at hQ
    rw [if_neg h1]
    exact hQ _ _ _ _
theorem kC_of (x1 : Int32) (x2 : Int32) (hx : exOK θ w b) (hS : exS θ) (hi : invS (P, img, tp, t, sh, fd)) (hQ : ∀ A Kx rs re, Q (some (.int (o_of P img tp t sh fd x1 x2).1)) (cS w b (o_of P img tp t sh fd x1 x2).2 A Kx rs re)) : sg θ (n + 10) 42 [.ref b, .int x1, .int x2] (cS w b (P, img, tp, t, sh, fd) A Kx rs re) Q := by
  obtain ⟨⟨m, hv⟩, hI, hb, ht, hs⟩ := hi
  have hv : invR P m := hv
  have ht : t ≤ 120 := ht
  have hs : shOK sh := hs
  have hb : bOK tp := hb
  show sg θ _ _ _ (cW w b P A (img.getD Kx) (kpO img) tp (nI t) rs re sh fd) Q
  have hm := mO_eq hv
  unfold o_of at hQ
  rw [hm] at hQ
  unfold o_ofM at hQ
  rw [sX5_of hx hv.1]
  by_cases h1 : (isW P x1 && decide (0 ≤ x2 ∧ x2 ≤ 9)) = true
  · simp only [if_pos h1] at hQ
    rw [if_pos h1]
    exact hQ _ _ _ _
  · simp only [if_neg h1] at hQ
    rw [if_neg h1]
    exact hQ _ _ _ _
theorem kC_set (x1 : Int32) (x2 : Int32) (x3 : Int32) (hx : exOK θ w b) (hS : exS θ) (hi : invS (P, img, tp, t, sh, fd)) (hQ : ∀ A Kx rs re, Q (some (.int (o_set P img tp t sh fd x1 x2 x3).1)) (cS w b (o_set P img tp t sh fd x1 x2 x3).2 A Kx rs re)) : sg θ (n + 10) 44 [.ref b, .int x1, .int x2, .int x3] (cS w b (P, img, tp, t, sh, fd) A Kx rs re) Q := by
  obtain ⟨⟨m, hv⟩, hI, hb, ht, hs⟩ := hi
  have hv : invR P m := hv
  have ht : t ≤ 120 := ht
  have hs : shOK sh := hs
  have hb : bOK tp := hb
  show sg θ _ _ _ (cW w b P A (img.getD Kx) (kpO img) tp (nI t) rs re sh fd) Q
  unfold o_set at hQ
  rw [sX5_set hx hv.1.1 hv.1.2.1]
  by_cases h1 : setOK P x1 x2 x3 = true
  · simp only [if_pos h1] at hQ
    rw [if_pos h1]
    exact hQ _ _ _ _
  · simp only [if_neg h1] at hQ
    rw [if_neg h1]
    exact hQ _ _ _ _
theorem kC_turn (x1 : Int32) (x2 : Int32) (hx : exOK θ w b) (hS : exS θ) (hi : invS (P, img, tp, t, sh, fd)) (hQ : ∀ A Kx rs re, Q (some (.int (o_turn P img tp t sh fd x1 x2).1)) (cS w b (o_turn P img tp t sh fd x1 x2).2 A Kx rs re)) : sg θ (n + 10) 45 [.ref b, .int x1, .int x2] (cS w b (P, img, tp, t, sh, fd) A Kx rs re) Q := by
  obtain ⟨⟨m, hv⟩, hI, hb, ht, hs⟩ := hi
  have hv : invR P m := hv
  have ht : t ≤ 120 := ht
  have hs : shOK sh := hs
  have hb : bOK tp := hb
  show sg θ _ _ _ (cW w b P A (img.getD Kx) (kpO img) tp (nI t) rs re sh fd) Q
  unfold o_turn at hQ
  rw [sX5_turn hv.1.1 hv.1.2.1]
  by_cases h1 : (isW P x1 && decide (0 ≤ x2 ∧ x2 ≤ 5)) = true
  · simp only [if_pos h1] at hQ
    rw [if_pos h1]
    exact hQ _ _ _ _
  · simp only [if_neg h1] at hQ
    rw [if_neg h1]
    exact hQ _ _ _ _
theorem kC_as (x1 : Int32) (x2 : Int32) (hx : exOK θ w b) (hS : exS θ) (hi : invS (P, img, tp, t, sh, fd)) (hQ : ∀ A Kx rs re, Q (some (.int (o_as P img tp t sh fd x1 x2).1)) (cS w b (o_as P img tp t sh fd x1 x2).2 A Kx rs re)) : sg θ (n + 10) 46 [.ref b, .int x1, .int x2] (cS w b (P, img, tp, t, sh, fd) A Kx rs re) Q := by
  obtain ⟨⟨m, hv⟩, hI, hb, ht, hs⟩ := hi
  have hv : invR P m := hv
  have ht : t ≤ 120 := ht
  have hs : shOK sh := hs
  have hb : bOK tp := hb
  show sg θ _ _ _ (cW w b P A (img.getD Kx) (kpO img) tp (nI t) rs re sh fd) Q
  unfold o_as at hQ
  rw [sX5_as hx hv.1]
  by_cases h1 : (isW P x1 && decide (0 ≤ x2 ∧ x2 ≤ 5)) = true
  · simp only [if_pos h1] at hQ
    rw [if_pos h1]
    by_cases h2 : underI (its P x1.toNatClampNeg 0) x2 = true
    · simp only [if_pos h2] at hQ
      rw [if_pos h2]
      exact hQ _ _ _ _
    · simp only [if_neg h2] at hQ
      rw [if_neg h2]
      exact hQ _ _ _ _
  · simp only [if_neg h1] at hQ
    rw [if_neg h1]
    exact hQ _ _ _ _
theorem kC_sees (x1 : Int32) (hx : exOK θ w b) (hS : exS θ) (hi : invS (P, img, tp, t, sh, fd)) (hQ : ∀ A Kx rs re, Q (some (.int (o_sees P img tp t sh fd x1).1)) (cS w b (o_sees P img tp t sh fd x1).2 A Kx rs re)) : sg θ (n + 10) 47 [.ref b, .int x1] (cS w b (P, img, tp, t, sh, fd) A Kx rs re) Q := by
  obtain ⟨⟨m, hv⟩, hI, hb, ht, hs⟩ := hi
  have hv : invR P m := hv
  have ht : t ≤ 120 := ht
  have hs : shOK sh := hs
  have hb : bOK tp := hb
  show sg θ _ _ _ (cW w b P A (img.getD Kx) (kpO img) tp (nI t) rs re sh fd) Q
  have hm := mO_eq hv
  unfold o_sees at hQ
  rw [hm] at hQ
  unfold o_seesM at hQ
  rw [sX5_sees hx hv.1]
  by_cases h1 : isW P x1 = true
  · simp only [if_pos h1] at hQ
    rw [if_pos h1]
    exact hQ _ _ _ _
  · simp only [if_neg h1] at hQ
    rw [if_neg h1]
    exact hQ _ _ _ _
theorem kC_leader (x1 : Int32) (hx : exOK θ w b) (hS : exS θ) (hi : invS (P, img, tp, t, sh, fd)) (hQ : ∀ A Kx rs re, Q (some (.int (o_leader P img tp t sh fd x1).1)) (cS w b (o_leader P img tp t sh fd x1).2 A Kx rs re)) : sg θ (n + 10) 48 [.ref b, .int x1] (cS w b (P, img, tp, t, sh, fd) A Kx rs re) Q := by
  obtain ⟨⟨m, hv⟩, hI, hb, ht, hs⟩ := hi
  have hv : invR P m := hv
  have ht : t ≤ 120 := ht
  have hs : shOK sh := hs
  have hb : bOK tp := hb
  show sg θ _ _ _ (cW w b P A (img.getD Kx) (kpO img) tp (nI t) rs re sh fd) Q
  have hm := mO_eq hv
  unfold o_leader at hQ
  rw [hm] at hQ
  unfold o_leaderM at hQ
  rw [sX5_leader hx hv.1]
  by_cases h1 : isW P x1 = true
  · simp only [if_pos h1] at hQ
    rw [if_pos h1]
    by_cases h2 : ledB P x1.toNatClampNeg m = true
    · simp only [if_pos h2] at hQ
      rw [if_pos h2]
      exact hQ _ _ _ _
    · simp only [if_neg h2] at hQ
      rw [if_neg h2]
      exact hQ _ _ _ _
  · simp only [if_neg h1] at hQ
    rw [if_neg h1]
    exact hQ _ _ _ _
theorem kC_minutes (x1 : Int32) (hx : exOK θ w b) (hS : exS θ) (hi : invS (P, img, tp, t, sh, fd)) (hQ : ∀ A Kx rs re, Q (some (.int (o_minutes P img tp t sh fd x1).1)) (cS w b (o_minutes P img tp t sh fd x1).2 A Kx rs re)) : sg θ (n + 10) 49 [.ref b, .int x1] (cS w b (P, img, tp, t, sh, fd) A Kx rs re) Q := by
  obtain ⟨⟨m, hv⟩, hI, hb, ht, hs⟩ := hi
  have hv : invR P m := hv
  have ht : t ≤ 120 := ht
  have hs : shOK sh := hs
  have hb : bOK tp := hb
  show sg θ _ _ _ (cW w b P A (img.getD Kx) (kpO img) tp (nI t) rs re sh fd) Q
  have hm := mO_eq hv
  unfold o_minutes at hQ
  rw [hm] at hQ
  unfold o_minutesM at hQ
  rw [sX5_minutes hx hv.1]
  by_cases h1 : 1 ≤ x1 ∧ x1 ≤ 100
  · simp only [if_pos h1] at hQ
    rw [if_pos h1]
    by_cases h2 : P 0 + x1 ≤ 99999
    · simp only [if_pos h2] at hQ
      rw [if_pos h2]
      exact hQ _ _ _ _
    · simp only [if_neg h2] at hQ
      rw [if_neg h2]
      exact hQ _ _ _ _
  · simp only [if_neg h1] at hQ
    rw [if_neg h1]
    exact hQ _ _ _ _
theorem kC_now (x1 : Int32) (hx : exOK θ w b) (hS : exS θ) (hi : invS (P, img, tp, t, sh, fd)) (hQ : ∀ A Kx rs re, Q (some (.int (o_now P img tp t sh fd x1).1)) (cS w b (o_now P img tp t sh fd x1).2 A Kx rs re)) : sg θ (n + 10) 50 [.ref b, .int x1] (cS w b (P, img, tp, t, sh, fd) A Kx rs re) Q := by
  obtain ⟨⟨m, hv⟩, hI, hb, ht, hs⟩ := hi
  have hv : invR P m := hv
  have ht : t ≤ 120 := ht
  have hs : shOK sh := hs
  have hb : bOK tp := hb
  show sg θ _ _ _ (cW w b P A (img.getD Kx) (kpO img) tp (nI t) rs re sh fd) Q
  have hm := mO_eq hv
  unfold o_now at hQ
  rw [hm] at hQ
  unfold o_nowM at hQ
  rw [sX5_now hv.1.1 hv.1.2.1]
  by_cases h1 : x1 = 0
  · simp only [if_pos h1] at hQ
    rw [if_pos h1]
    exact hQ _ _ _ _
  · simp only [if_neg h1] at hQ
    rw [if_neg h1]
    by_cases h2 : x1 = 1
    · simp only [if_pos h2] at hQ
      rw [if_pos h2]
      exact hQ _ _ _ _
    · simp only [if_neg h2] at hQ
      rw [if_neg h2]
      by_cases h3 : x1 = 2
      · simp only [if_pos h3] at hQ
        rw [if_pos h3]
        exact hQ _ _ _ _
      · simp only [if_neg h3] at hQ
        rw [if_neg h3]
        by_cases h4 : x1 = 3
        · simp only [if_pos h4] at hQ
          rw [if_pos h4]
          exact hQ _ _ _ _
        · simp only [if_neg h4] at hQ
          rw [if_neg h4]
          by_cases h5 : x1 = 4
          · simp only [if_pos h5] at hQ
            rw [if_pos h5]
            exact hQ _ _ _ _
          · simp only [if_neg h5] at hQ
            rw [if_neg h5]
            by_cases h6 : x1 = 5
            · simp only [if_pos h6] at hQ
              rw [if_pos h6]
              exact hQ _ _ _ _
            · simp only [if_neg h6] at hQ
              rw [if_neg h6]
              exact hQ _ _ _ _
theorem kC_on (x1 : Int32) (x2 : Int32) (x3 : Int32) (hx : exOK θ w b) (hS : exS θ) (hi : invS (P, img, tp, t, sh, fd)) (hQ : ∀ A Kx rs re, Q (some (.int (o_on P img tp t sh fd x1 x2 x3).1)) (cS w b (o_on P img tp t sh fd x1 x2 x3).2 A Kx rs re)) : sg θ (n + 10) 51 [.ref b, .int x1, .int x2, .int x3] (cS w b (P, img, tp, t, sh, fd) A Kx rs re) Q := by
  obtain ⟨⟨m, hv⟩, hI, hb, ht, hs⟩ := hi
  have hv : invR P m := hv
  have ht : t ≤ 120 := ht
  have hs : shOK sh := hs
  have hb : bOK tp := hb
  show sg θ _ _ _ (cW w b P A (img.getD Kx) (kpO img) tp (nI t) rs re sh fd) Q
  have hm := mO_eq hv
  unfold o_on at hQ
  rw [hm] at hQ
  unfold o_onM at hQ
  rw [sX5_on hx hv.1]
  by_cases h1 : (isW P x1 && decide (0 ≤ x2 ∧ x2 ≤ 200) && decide (0 ≤ x3 ∧ x3 ≤ 3)) = true
  · simp only [if_pos h1] at hQ
    rw [if_pos h1]
    exact hQ _ _ _ _
  · simp only [if_neg h1] at hQ
    rw [if_neg h1]
    exact hQ _ _ _ _
theorem kC_through (x1 : Int32) (hx : exOK θ w b) (hS : exS θ) (hi : invS (P, img, tp, t, sh, fd)) (hQ : ∀ A Kx rs re, Q (some (.int (o_through P img tp t sh fd x1).1)) (cS w b (o_through P img tp t sh fd x1).2 A Kx rs re)) : sg θ (n + 10) 53 [.ref b, .int x1] (cS w b (P, img, tp, t, sh, fd) A Kx rs re) Q := by
  obtain ⟨⟨m, hv⟩, hI, hb, ht, hs⟩ := hi
  have hv : invR P m := hv
  have ht : t ≤ 120 := ht
  have hs : shOK sh := hs
  have hb : bOK tp := hb
  show sg θ _ _ _ (cW w b P A (img.getD Kx) (kpO img) tp (nI t) rs re sh fd) Q
  have hm := mO_eq hv
  unfold o_through at hQ
  rw [hm] at hQ
  unfold o_throughM at hQ
  rw [sX5_through hx hv.1]
  by_cases h1 : isW P x1 = true
  · simp only [if_pos h1] at hQ
    rw [if_pos h1]
    by_cases h2 : tillR m x1.toNatClampNeg 201 P ≤ 200
    · simp only [if_pos h2] at hQ
      rw [if_pos h2]
      exact hQ _ _ _ _
    · simp only [if_neg h2] at hQ
      rw [if_neg h2]
      exact hQ _ _ _ _
  · simp only [if_neg h1] at hQ
    rw [if_neg h1]
    exact hQ _ _ _ _
theorem kC_bumps (x1 : Int32) (hx : exOK θ w b) (hS : exS θ) (hi : invS (P, img, tp, t, sh, fd)) (hQ : ∀ A Kx rs re, Q (some (.int (o_bumps P img tp t sh fd x1).1)) (cS w b (o_bumps P img tp t sh fd x1).2 A Kx rs re)) : sg θ (n + 10) 54 [.ref b, .int x1] (cS w b (P, img, tp, t, sh, fd) A Kx rs re) Q := by
  obtain ⟨⟨m, hv⟩, hI, hb, ht, hs⟩ := hi
  have hv : invR P m := hv
  have ht : t ≤ 120 := ht
  have hs : shOK sh := hs
  have hb : bOK tp := hb
  show sg θ _ _ _ (cW w b P A (img.getD Kx) (kpO img) tp (nI t) rs re sh fd) Q
  have hm := mO_eq hv
  unfold o_bumps at hQ
  rw [hm] at hQ
  unfold o_bumpsM at hQ
  rw [sX5_bumps hx hv.1]
  by_cases h1 : isW P x1 = true
  · simp only [if_pos h1] at hQ
    rw [if_pos h1]
    by_cases h2 : thenN (fun r => decide (its P x1.toNatClampNeg 6 < its r x1.toNatClampNeg 6)) m 200 P < 200
    · simp only [if_pos h2] at hQ
      rw [if_pos h2]
      exact hQ _ _ _ _
    · simp only [if_neg h2] at hQ
      rw [if_neg h2]
      exact hQ _ _ _ _
  · simp only [if_neg h1] at hQ
    rw [if_neg h1]
    exact hQ _ _ _ _
theorem kC_meet (x1 : Int32) (x2 : Int32) (hx : exOK θ w b) (hS : exS θ) (hi : invS (P, img, tp, t, sh, fd)) (hQ : ∀ A Kx rs re, Q (some (.int (o_meet P img tp t sh fd x1 x2).1)) (cS w b (o_meet P img tp t sh fd x1 x2).2 A Kx rs re)) : sg θ (n + 10) 55 [.ref b, .int x1, .int x2] (cS w b (P, img, tp, t, sh, fd) A Kx rs re) Q := by
  obtain ⟨⟨m, hv⟩, hI, hb, ht, hs⟩ := hi
  have hv : invR P m := hv
  have ht : t ≤ 120 := ht
  have hs : shOK sh := hs
  have hb : bOK tp := hb
  show sg θ _ _ _ (cW w b P A (img.getD Kx) (kpO img) tp (nI t) rs re sh fd) Q
  have hm := mO_eq hv
  unfold o_meet at hQ
  rw [hm] at hQ
  unfold o_meetM at hQ
  rw [sX5_meet hx hv.1]
  by_cases h1 : isW P x1 = true ∧ isW P x2 = true ∧ ¬ x1 = x2
  · simp only [if_pos h1] at hQ
    rw [if_pos h1]
    by_cases h2 : firstN (fun r => seesP r x1.toNatClampNeg x2.toNatClampNeg && seesP r x2.toNatClampNeg x1.toNatClampNeg) m 201 P < 201
    · simp only [if_pos h2] at hQ
      rw [if_pos h2]
      exact hQ _ _ _ _
    · simp only [if_neg h2] at hQ
      rw [if_neg h2]
      exact hQ _ _ _ _
  · simp only [if_neg h1] at hQ
    rw [if_neg h1]
    exact hQ _ _ _ _
theorem kC_pace (x1 : Int32) (hx : exOK θ w b) (hS : exS θ) (hi : invS (P, img, tp, t, sh, fd)) (hQ : ∀ A Kx rs re, Q (some (.int (o_pace P img tp t sh fd x1).1)) (cS w b (o_pace P img tp t sh fd x1).2 A Kx rs re)) : sg θ (n + 10) 56 [.ref b, .int x1] (cS w b (P, img, tp, t, sh, fd) A Kx rs re) Q := by
  obtain ⟨⟨m, hv⟩, hI, hb, ht, hs⟩ := hi
  have hv : invR P m := hv
  have ht : t ≤ 120 := ht
  have hs : shOK sh := hs
  have hb : bOK tp := hb
  show sg θ _ _ _ (cW w b P A (img.getD Kx) (kpO img) tp (nI t) rs re sh fd) Q
  have hm := mO_eq hv
  unfold o_pace at hQ
  rw [hm] at hQ
  unfold o_paceM at hQ
  rw [sX5_pace hx hv.1]
  by_cases h1 : isW P x1 = true
  · simp only [if_pos h1] at hQ
    rw [if_pos h1]
    generalize (soonUp m x1.toNatClampNeg 3 P 10) = sz at hQ ⊢
    by_cases h2 : sz.1 = -1
    · simp only [if_pos h2] at hQ
      rw [if_pos h2]
      exact hQ _ _ _ _
    · simp only [if_neg h2] at hQ
      rw [if_neg h2]
      exact hQ _ _ _ _
  · simp only [if_neg h1] at hQ
    rw [if_neg h1]
    exact hQ _ _ _ _
theorem kC_kind (x1 : Int32) (hx : exOK θ w b) (hS : exS θ) (hi : invS (P, img, tp, t, sh, fd)) (hQ : ∀ A Kx rs re, Q (some (.int (o_kind P img tp t sh fd x1).1)) (cS w b (o_kind P img tp t sh fd x1).2 A Kx rs re)) : sg θ (n + 10) 58 [.ref b, .int x1] (cS w b (P, img, tp, t, sh, fd) A Kx rs re) Q := by
  obtain ⟨⟨m, hv⟩, hI, hb, ht, hs⟩ := hi
  have hv : invR P m := hv
  have ht : t ≤ 120 := ht
  have hs : shOK sh := hs
  have hb : bOK tp := hb
  show sg θ _ _ _ (cW w b P A (img.getD Kx) (kpO img) tp (nI t) rs re sh fd) Q
  have hm := mO_eq hv
  unfold o_kind at hQ
  rw [hm] at hQ
  unfold o_kindM at hQ
  rw [sX5_kind hx hv.1]
  by_cases h1 : isW P x1 = true
  · simp only [if_pos h1] at hQ
    rw [if_pos h1]
    generalize (soonUp m x1.toNatClampNeg 0 P 6) = sz at hQ ⊢
    by_cases h2 : sz.1 = -1
    · simp only [if_pos h2] at hQ
      rw [if_pos h2]
      exact hQ _ _ _ _
    · simp only [if_neg h2] at hQ
      rw [if_neg h2]
      exact hQ _ _ _ _
  · simp only [if_neg h1] at hQ
    rw [if_neg h1]
    exact hQ _ _ _ _
theorem kC_begin (x1 : Int32) (x2 : Int32) (hx : exOK θ w b) (hS : exS θ) (hi : invS (P, img, tp, t, sh, fd)) (hQ : ∀ A Kx rs re, Q (some (.int (o_begin P img tp t sh fd x1 x2).1)) (cS w b (o_begin P img tp t sh fd x1 x2).2 A Kx rs re)) : sg θ (n + 10) 59 [.ref b, .int x1, .int x2] (cS w b (P, img, tp, t, sh, fd) A Kx rs re) Q := by
  obtain ⟨⟨m, hv⟩, hI, hb, ht, hs⟩ := hi
  have hv : invR P m := hv
  have ht : t ≤ 120 := ht
  have hs : shOK sh := hs
  have hb : bOK tp := hb
  show sg θ _ _ _ (cW w b P A (img.getD Kx) (kpO img) tp (nI t) rs re sh fd) Q
  have hm := mO_eq hv
  unfold o_begin at hQ
  rw [hm] at hQ
  unfold o_beginM at hQ
  rw [sX5_begin hx hv.1]
  by_cases h1 : (isW P x1 && decide (1 ≤ x2 ∧ x2 ≤ 20)) = true
  · simp only [if_pos h1] at hQ
    rw [if_pos h1]
    exact hQ _ _ _ _
  · simp only [if_neg h1] at hQ
    rw [if_neg h1]
    exact hQ _ _ _ _
theorem kC_fewest (x1 : Int32) (hx : exOK θ w b) (hS : exS θ) (hi : invS (P, img, tp, t, sh, fd)) (hQ : ∀ A Kx rs re, Q (some (.int (o_fewest P img tp t sh fd x1).1)) (cS w b (o_fewest P img tp t sh fd x1).2 A Kx rs re)) : sg θ (n + 10) 61 [.ref b, .int x1] (cS w b (P, img, tp, t, sh, fd) A Kx rs re) Q := by
  obtain ⟨⟨m, hv⟩, hI, hb, ht, hs⟩ := hi
  have hv : invR P m := hv
  have ht : t ≤ 120 := ht
  have hs : shOK sh := hs
  have hb : bOK tp := hb
  show sg θ _ _ _ (cW w b P A (img.getD Kx) (kpO img) tp (nI t) rs re sh fd) Q
  have hm := mO_eq hv
  unfold o_fewest at hQ
  rw [hm] at hQ
  unfold o_fewestM at hQ
  refine sX5_fewest hx hv.1 ?_
  by_cases h1 : 1 ≤ x1 ∧ x1 ≤ 20
  · simp only [if_pos h1] at hQ
    rw [if_pos h1]
    cases hz : fewS (fewG m x1.toNatClampNeg P) (2 ^ m) (m + 1) 0 with
    | some z =>
      simp only [hz] at hQ ⊢
      exact fun _ => hQ _ _ _ _
    | none =>
      simp only [hz] at hQ ⊢
      exact fun _ => hQ _ _ _ _
  · simp only [if_neg h1] at hQ
    rw [if_neg h1]
    exact hQ _ _ _ _
theorem kC_other (x1 : Int32) (hx : exOK θ w b) (hS : exS θ) (hi : invS (P, img, tp, t, sh, fd)) (hQ : ∀ A Kx rs re, Q (some (.int (o_other P img tp t sh fd x1).1)) (cS w b (o_other P img tp t sh fd x1).2 A Kx rs re)) : sg θ (n + 10) 63 [.ref b, .int x1] (cS w b (P, img, tp, t, sh, fd) A Kx rs re) Q := by
  obtain ⟨⟨m, hv⟩, hI, hb, ht, hs⟩ := hi
  have hv : invR P m := hv
  have ht : t ≤ 120 := ht
  have hs : shOK sh := hs
  have hb : bOK tp := hb
  show sg θ _ _ _ (cW w b P A (img.getD Kx) (kpO img) tp (nI t) rs re sh fd) Q
  have hm := mO_eq hv
  unfold o_other at hQ
  rw [hm] at hQ
  unfold o_otherM at hQ
  rw [sX5_other hx hv.1]
  by_cases h1 : 1 ≤ x1 ∧ x1 ≤ 60
  · simp only [if_pos h1] at hQ
    rw [if_pos h1]
    by_cases h2 : (othUp m x1.toNatClampNeg P m).1 = -1
    · simp only [if_pos h2] at hQ
      rw [if_pos h2]
      exact hQ _ _ _ _
    · simp only [if_neg h2] at hQ
      rw [if_neg h2]
      exact hQ _ _ _ _
  · simp only [if_neg h1] at hQ
    rw [if_neg h1]
    exact hQ _ _ _ _
theorem kC_first (hx : exOK θ w b) (hS : exS θ) (hi : invS (P, img, tp, t, sh, fd)) (hQ : ∀ A Kx rs re, Q (some (.int (o_first P img tp t sh fd).1)) (cS w b (o_first P img tp t sh fd).2 A Kx rs re)) : sg θ (n + 10) 64 [.ref b] (cS w b (P, img, tp, t, sh, fd) A Kx rs re) Q := by
  obtain ⟨⟨m, hv⟩, hI, hb, ht, hs⟩ := hi
  have hv : invR P m := hv
  have ht : t ≤ 120 := ht
  have hs : shOK sh := hs
  have hb : bOK tp := hb
  show sg θ _ _ _ (cW w b P A (img.getD Kx) (kpO img) tp (nI t) rs re sh fd) Q
  have hm := mO_eq hv
  unfold o_first at hQ
  rw [hm] at hQ
  unfold o_firstM at hQ
  rw [sX5_first hx hv.1]
  by_cases h1 : hasT m 201 P = true
  · simp only [if_pos h1] at hQ
    rw [if_pos h1]
    exact hQ _ _ _ _
  · simp only [if_neg h1] at hQ
    rw [if_neg h1]
    exact hQ _ _ _ _
theorem kC_feed (x1 : Int32) (x2 : Int32) (hx : exOK θ w b) (hS : exS θ) (hi : invS (P, img, tp, t, sh, fd)) (hQ : ∀ A Kx rs re, Q (some (.int (o_feed P img tp t sh fd x1 x2).1)) (cS w b (o_feed P img tp t sh fd x1 x2).2 A Kx rs re)) : sg θ (n + 10) 65 [.ref b, .int x1, .int x2] (cS w b (P, img, tp, t, sh, fd) A Kx rs re) Q := by
  obtain ⟨⟨m, hv⟩, hI, hb, ht, hs⟩ := hi
  have hv : invR P m := hv
  have ht : t ≤ 120 := ht
  have hs : shOK sh := hs
  have hb : bOK tp := hb
  show sg θ _ _ _ (cW w b P A (img.getD Kx) (kpO img) tp (nI t) rs re sh fd) Q
  unfold o_feed at hQ
  rw [sX5_feed ht]
  by_cases h1 : 1 ≤ x2 ∧ x2 ≤ 4
  · simp only [if_pos h1] at hQ
    rw [if_pos h1]
    by_cases h2 : t + x2.toNatClampNeg ≤ 120
    · simp only [if_pos h2] at hQ
      rw [if_pos h2]
      exact hQ _ _ _ _
    · simp only [if_neg h2] at hQ
      rw [if_neg h2]
      exact hQ _ _ _ _
  · simp only [if_neg h1] at hQ
    rw [if_neg h1]
    exact hQ _ _ _ _
theorem kC_wipe (hx : exOK θ w b) (hS : exS θ) (hi : invS (P, img, tp, t, sh, fd)) (hQ : ∀ A Kx rs re, Q (some (.int (o_wipe P img tp t sh fd).1)) (cS w b (o_wipe P img tp t sh fd).2 A Kx rs re)) : sg θ (n + 10) 66 [.ref b] (cS w b (P, img, tp, t, sh, fd) A Kx rs re) Q := by
  obtain ⟨⟨m, hv⟩, hI, hb, ht, hs⟩ := hi
  have hv : invR P m := hv
  have ht : t ≤ 120 := ht
  have hs : shOK sh := hs
  have hb : bOK tp := hb
  show sg θ _ _ _ (cW w b P A (img.getD Kx) (kpO img) tp (nI t) rs re sh fd) Q
  unfold o_wipe at hQ
  rw [sX5_wipe]
  exact hQ _ _ _ _
theorem kC_avenue (hx : exOK θ w b) (hS : exS θ) (hi : invS (P, img, tp, t, sh, fd)) (hQ : ∀ A Kx rs re, Q (some (.int (o_avenue P img tp t sh fd).1)) (cS w b (o_avenue P img tp t sh fd).2 A Kx rs re)) : sg θ (n + 10) 67 [.ref b] (cS w b (P, img, tp, t, sh, fd) A Kx rs re) Q := by
  obtain ⟨⟨m, hv⟩, hI, hb, ht, hs⟩ := hi
  have hv : invR P m := hv
  have ht : t ≤ 120 := ht
  have hs : shOK sh := hs
  have hb : bOK tp := hb
  show sg θ _ _ _ (cW w b P A (img.getD Kx) (kpO img) tp (nI t) rs re sh fd) Q
  unfold o_avenue at hQ
  exact sX5_avenue hx hS hv ht (fun A rs re => hQ _ _ _ _)
theorem kC_sheet (x1 : Int32) (x2 : Int32) (x3 : Int32) (hx : exOK θ w b) (hS : exS θ) (hi : invS (P, img, tp, t, sh, fd)) (hQ : ∀ A Kx rs re, Q (some (.int (o_sheet P img tp t sh fd x1 x2 x3).1)) (cS w b (o_sheet P img tp t sh fd x1 x2 x3).2 A Kx rs re)) : sg θ (n + 10) 68 [.ref b, .int x1, .int x2, .int x3] (cS w b (P, img, tp, t, sh, fd) A Kx rs re) Q := by
  obtain ⟨⟨m, hv⟩, hI, hb, ht, hs⟩ := hi
  have hv : invR P m := hv
  have ht : t ≤ 120 := ht
  have hs : shOK sh := hs
  have hb : bOK tp := hb
  show sg θ _ _ _ (cW w b P A (img.getD Kx) (kpO img) tp (nI t) rs re sh fd) Q
  unfold o_sheet at hQ
  rw [sX5_sheet]
  by_cases h1 : (0 ≤ x1 ∧ x1 < 4) ∧ (x2 = 0 ∨ x2 = 8 ∨ x2 = 16 ∨ x2 = 64)
  · simp only [if_pos h1] at hQ
    rw [if_pos h1]
    by_cases h2 : x3 < 0
    · simp only [if_pos h2] at hQ
      rw [if_pos h2]
      exact hQ _ _ _ _
    · simp only [if_neg h2] at hQ
      rw [if_neg h2]
      by_cases h3 : x3 ≤ 40
      · simp only [if_pos h3] at hQ
        rw [if_pos h3]
        exact hQ _ _ _ _
      · simp only [if_neg h3] at hQ
        rw [if_neg h3]
        exact hQ _ _ _ _
  · simp only [if_neg h1] at hQ
    rw [if_neg h1]
    exact hQ _ _ _ _
theorem kC_write (x1 : Int32) (x2 : Int32) (x3 : Int64) (hx : exOK θ w b) (hS : exS θ) (hi : invS (P, img, tp, t, sh, fd)) (hQ : ∀ A Kx rs re, Q (some (.long (o_write P img tp t sh fd x1 x2 x3).1)) (cS w b (o_write P img tp t sh fd x1 x2 x3).2 A Kx rs re)) : sg θ (n + 10) 70 [.ref b, .int x1, .int x2, .long x3] (cS w b (P, img, tp, t, sh, fd) A Kx rs re) Q := by
  obtain ⟨⟨m, hv⟩, hI, hb, ht, hs⟩ := hi
  have hv : invR P m := hv
  have ht : t ≤ 120 := ht
  have hs : shOK sh := hs
  have hb : bOK tp := hb
  show sg θ _ _ _ (cW w b P A (img.getD Kx) (kpO img) tp (nI t) rs re sh fd) Q
  unfold o_write at hQ
  rw [sX5_write hs]
  by_cases h1 : 0 ≤ x1 ∧ x1 < 4
  · simp only [if_pos h1] at hQ
    rw [if_pos h1]
    by_cases h2 : (sh x1.toNatClampNeg).1 = 0
    · simp only [if_pos h2] at hQ
      rw [if_pos h2]
      exact hQ _ _ _ _
    · simp only [if_neg h2] at hQ
      rw [if_neg h2]
      by_cases h3 : 0 ≤ x2 ∧ x2 ≤ (sh x1.toNatClampNeg).2.1 - 1
      · simp only [if_pos h3] at hQ
        rw [if_pos h3]
        exact hQ _ _ _ _
      · simp only [if_neg h3] at hQ
        rw [if_neg h3]
        exact hQ _ _ _ _
  · simp only [if_neg h1] at hQ
    rw [if_neg h1]
    exact hQ _ _ _ _
theorem kC_copy (x1 : Int32) (x2 : Int32) (x3 : Int32) (x4 : Int32) (x5 : Int32) (hx : exOK θ w b) (hS : exS θ) (hi : invS (P, img, tp, t, sh, fd)) (hQ : ∀ A Kx rs re, Q (some (.int (o_copy P img tp t sh fd x1 x2 x3 x4 x5).1)) (cS w b (o_copy P img tp t sh fd x1 x2 x3 x4 x5).2 A Kx rs re)) : sg θ (n + 10) 72 [.ref b, .int x1, .int x2, .int x3, .int x4, .int x5] (cS w b (P, img, tp, t, sh, fd) A Kx rs re) Q := by
  obtain ⟨⟨m, hv⟩, hI, hb, ht, hs⟩ := hi
  have hv : invR P m := hv
  have ht : t ≤ 120 := ht
  have hs : shOK sh := hs
  have hb : bOK tp := hb
  show sg θ _ _ _ (cW w b P A (img.getD Kx) (kpO img) tp (nI t) rs re sh fd) Q
  unfold o_copy at hQ
  rw [sX5_copy hs]
  by_cases h1 : (0 ≤ x1 ∧ x1 < 4) ∧ (0 ≤ x3 ∧ x3 < 4)
  · simp only [if_pos h1] at hQ
    rw [if_pos h1]
    by_cases h2 : (sh x1.toNatClampNeg).1 = 0 ∨ (sh x3.toNatClampNeg).1 = 0
    · simp only [if_pos h2] at hQ
      rw [if_pos h2]
      exact hQ _ _ _ _
    · simp only [if_neg h2] at hQ
      rw [if_neg h2]
      by_cases h3 : (sh x1.toNatClampNeg).1 = (sh x3.toNatClampNeg).1
      · simp only [if_pos h3] at hQ
        rw [if_pos h3]
        by_cases h4 : (hasB (sh x1.toNatClampNeg).2.1 x2 x5 && hasB (sh x3.toNatClampNeg).2.1 x4 x5) = true
        · simp only [if_pos h4] at hQ
          rw [if_pos h4]
          exact hQ _ _ _ _
        · simp only [if_neg h4] at hQ
          rw [if_neg h4]
          exact hQ _ _ _ _
      · simp only [if_neg h3] at hQ
        rw [if_neg h3]
        exact hQ _ _ _ _
  · simp only [if_neg h1] at hQ
    rw [if_neg h1]
    exact hQ _ _ _ _
theorem kC_lays (x1 : Int32) (hx : exOK θ w b) (hS : exS θ) (hi : invS (P, img, tp, t, sh, fd)) (hQ : ∀ A Kx rs re, Q (some (.int (o_lays P img tp t sh fd x1).1)) (cS w b (o_lays P img tp t sh fd x1).2 A Kx rs re)) : sg θ (n + 10) 73 [.ref b, .int x1] (cS w b (P, img, tp, t, sh, fd) A Kx rs re) Q := by
  obtain ⟨⟨m, hv⟩, hI, hb, ht, hs⟩ := hi
  have hv : invR P m := hv
  have ht : t ≤ 120 := ht
  have hs : shOK sh := hs
  have hb : bOK tp := hb
  show sg θ _ _ _ (cW w b P A (img.getD Kx) (kpO img) tp (nI t) rs re sh fd) Q
  have hm := mO_eq hv
  unfold o_lays at hQ
  rw [hm] at hQ
  unfold o_laysM at hQ
  rw [sX5_lays hx hv.1 hs]
  by_cases h1 : 0 ≤ x1 ∧ x1 < 4
  · simp only [if_pos h1] at hQ
    rw [if_pos h1]
    by_cases h2 : (sh x1.toNatClampNeg).1 = 0
    · simp only [if_pos h2] at hQ
      rw [if_pos h2]
      exact hQ _ _ _ _
    · simp only [if_neg h2] at hQ
      rw [if_neg h2]
      exact hQ _ _ _ _
  · simp only [if_neg h1] at hQ
    rw [if_neg h1]
    exact hQ _ _ _ _
theorem kC_book (x1 : Int32) (x2 : Int32) (hx : exOK θ w b) (hS : exS θ) (hi : invS (P, img, tp, t, sh, fd)) (hQ : ∀ A Kx rs re, Q (some (.int (o_book P img tp t sh fd x1 x2).1)) (cS w b (o_book P img tp t sh fd x1 x2).2 A Kx rs re)) : sg θ (n + 10) 74 [.ref b, .int x1, .int x2] (cS w b (P, img, tp, t, sh, fd) A Kx rs re) Q := by
  obtain ⟨⟨m, hv⟩, hI, hb, ht, hs⟩ := hi
  have hv : invR P m := hv
  have ht : t ≤ 120 := ht
  have hs : shOK sh := hs
  have hb : bOK tp := hb
  show sg θ _ _ _ (cW w b P A (img.getD Kx) (kpO img) tp (nI t) rs re sh fd) Q
  have hm := mO_eq hv
  unfold o_book at hQ
  rw [hm] at hQ
  unfold o_bookM at hQ
  rw [sX5_book hx hv.1 hs]
  by_cases h1 : 0 ≤ x1 ∧ x1 < 4
  · simp only [if_pos h1] at hQ
    rw [if_pos h1]
    by_cases h2 : (sh x1.toNatClampNeg).1 = 0
    · simp only [if_pos h2] at hQ
      rw [if_pos h2]
      exact hQ _ _ _ _
    · simp only [if_neg h2] at hQ
      rw [if_neg h2]
      by_cases h3 : isW P x2 = true
      · simp only [if_pos h3] at hQ
        rw [if_pos h3]
        exact hQ _ _ _ _
      · simp only [if_neg h3] at hQ
        rw [if_neg h3]
        exact hQ _ _ _ _
  · simp only [if_neg h1] at hQ
    rw [if_neg h1]
    exact hQ _ _ _ _
theorem kC_read (x1 : Int32) (x2 : Int32) (hx : exOK θ w b) (hS : exS θ) (hi : invS (P, img, tp, t, sh, fd)) (hQ : ∀ A Kx rs re, Q (some (.int (o_read P img tp t sh fd x1 x2).1)) (cS w b (o_read P img tp t sh fd x1 x2).2 A Kx rs re)) : sg θ (n + 10) 76 [.ref b, .int x1, .int x2] (cS w b (P, img, tp, t, sh, fd) A Kx rs re) Q := by
  obtain ⟨⟨m, hv⟩, hI, hb, ht, hs⟩ := hi
  have hv : invR P m := hv
  have ht : t ≤ 120 := ht
  have hs : shOK sh := hs
  have hb : bOK tp := hb
  show sg θ _ _ _ (cW w b P A (img.getD Kx) (kpO img) tp (nI t) rs re sh fd) Q
  have hm := mO_eq hv
  unfold o_read at hQ
  rw [hm] at hQ
  unfold o_readM at hQ
  refine sX5_read hx hv.1 hs ?_
  by_cases h1 : 0 ≤ x1 ∧ x1 < 4
  · simp only [if_pos h1] at hQ
    rw [if_pos h1]
    by_cases h2 : (sh x1.toNatClampNeg).1 = 0
    · simp only [if_pos h2] at hQ
      rw [if_pos h2]
      exact hQ _ _ _ _
    · simp only [if_neg h2] at hQ
      rw [if_neg h2]
      by_cases h3 : isW P x2 = true
      · simp only [if_pos h3] at hQ
        rw [if_pos h3]
        exact fun _ => hQ _ _ _ _
      · simp only [if_neg h3] at hQ
        rw [if_neg h3]
        exact hQ _ _ _ _
  · simp only [if_neg h1] at hQ
    rw [if_neg h1]
    exact hQ _ _ _ _
theorem kC_image (hx : exOK θ w b) (hS : exS θ) (hi : invS (P, img, tp, t, sh, fd)) (hQ : ∀ A Kx rs re, Q (some (.int (o_image P img tp t sh fd).1)) (cS w b (o_image P img tp t sh fd).2 A Kx rs re)) : sg θ (n + 10) 78 [.ref b] (cS w b (P, img, tp, t, sh, fd) A Kx rs re) Q := by
  obtain ⟨⟨m, hv⟩, hI, hb, ht, hs⟩ := hi
  have hv : invR P m := hv
  have ht : t ≤ 120 := ht
  have hs : shOK sh := hs
  have hb : bOK tp := hb
  show sg θ _ _ _ (cW w b P A (img.getD Kx) (kpO img) tp (nI t) rs re sh fd) Q
  unfold o_image at hQ
  rw [sX5_image]
  exact hQ A Kx rs re
theorem kC_undo (hx : exOK θ w b) (hS : exS θ) (hi : invS (P, img, tp, t, sh, fd)) (hQ : ∀ A Kx rs re, Q (some (.int (o_undo P img tp t sh fd).1)) (cS w b (o_undo P img tp t sh fd).2 A Kx rs re)) : sg θ (n + 10) 79 [.ref b] (cS w b (P, img, tp, t, sh, fd) A Kx rs re) Q := by
  obtain ⟨⟨m, hv⟩, hI, hb, ht, hs⟩ := hi
  have hv : invR P m := hv
  have ht : t ≤ 120 := ht
  have hs : shOK sh := hs
  have hb : bOK tp := hb
  show sg θ _ _ _ (cW w b P A (img.getD Kx) (kpO img) tp (nI t) rs re sh fd) Q
  rw [sX5_undo]
  unfold o_undo at hQ
  cases img with
  | some r =>
    rw [if_neg (show ¬ kpO (some r) = 0 from (by decide : ¬ (1 : Int32) = 0))]
    exact hQ A Kx rs re
  | none =>
    rw [if_pos (show kpO none = 0 from rfl)]
    exact hQ A Kx rs re
theorem kC_tear (hx : exOK θ w b) (hS : exS θ) (hi : invS (P, img, tp, t, sh, fd)) (hQ : ∀ A Kx rs re, Q (some (.int (o_tear P img tp t sh fd).1)) (cS w b (o_tear P img tp t sh fd).2 A Kx rs re)) : sg θ (n + 10) 80 [.ref b] (cS w b (P, img, tp, t, sh, fd) A Kx rs re) Q := by
  obtain ⟨⟨m, hv⟩, hI, hb, ht, hs⟩ := hi
  have hv : invR P m := hv
  have ht : t ≤ 120 := ht
  have hs : shOK sh := hs
  have hb : bOK tp := hb
  show sg θ _ _ _ (cW w b P A (img.getD Kx) (kpO img) tp (nI t) rs re sh fd) Q
  unfold o_tear at hQ
  rw [sX5_tear]
  exact hQ A (img.getD Kx) rs re
theorem kC_count (x1 : Int32) (hx : exOK θ w b) (hS : exS θ) (hi : invS (P, img, tp, t, sh, fd)) (hQ : ∀ A Kx rs re, Q (some (.int (o_count P img tp t sh fd x1).1)) (cS w b (o_count P img tp t sh fd x1).2 A Kx rs re)) : sg θ (n + 10) 81 [.ref b, .int x1] (cS w b (P, img, tp, t, sh, fd) A Kx rs re) Q := by
  obtain ⟨⟨m, hv⟩, hI, hb, ht, hs⟩ := hi
  have hv : invR P m := hv
  have ht : t ≤ 120 := ht
  have hs : shOK sh := hs
  have hb : bOK tp := hb
  show sg θ _ _ _ (cW w b P A (img.getD Kx) (kpO img) tp (nI t) rs re sh fd) Q
  have hm := mO_eq hv
  unfold o_count at hQ
  rw [hm] at hQ
  unfold o_countM at hQ
  rw [sX5_count hv.1.1 hv.1.2.1]
  by_cases h1 : x1 = 0
  · simp only [if_pos h1] at hQ
    rw [if_pos h1]
    exact hQ _ _ _ _
  · simp only [if_neg h1] at hQ
    rw [if_neg h1]
    by_cases h2 : x1 = 1
    · simp only [if_pos h2] at hQ
      rw [if_pos h2]
      exact hQ _ _ _ _
    · simp only [if_neg h2] at hQ
      rw [if_neg h2]
      by_cases h3 : x1 = 2
      · simp only [if_pos h3] at hQ
        rw [if_pos h3]
        exact hQ _ _ _ _
      · simp only [if_neg h3] at hQ
        rw [if_neg h3]
        by_cases h4 : x1 = 3
        · simp only [if_pos h4] at hQ
          rw [if_pos h4]
          exact hQ _ _ _ _
        · simp only [if_neg h4] at hQ
          rw [if_neg h4]
          exact hQ _ _ _ _
theorem kC_status (x1 : Int32) (hx : exOK θ w b) (hS : exS θ) (hi : invS (P, img, tp, t, sh, fd)) (hQ : ∀ A Kx rs re, Q (some (.int (o_status P img tp t sh fd x1).1)) (cS w b (o_status P img tp t sh fd x1).2 A Kx rs re)) : sg θ (n + 10) 82 [.ref b, .int x1] (cS w b (P, img, tp, t, sh, fd) A Kx rs re) Q := by
  obtain ⟨⟨m, hv⟩, hI, hb, ht, hs⟩ := hi
  have hv : invR P m := hv
  have ht : t ≤ 120 := ht
  have hs : shOK sh := hs
  have hb : bOK tp := hb
  show sg θ _ _ _ (cW w b P A (img.getD Kx) (kpO img) tp (nI t) rs re sh fd) Q
  unfold o_status at hQ
  rw [sX5_status]
  by_cases h1 : -1 ≤ x1 ∧ x1 ≤ 6
  · simp only [if_pos h1] at hQ
    rw [if_pos h1]
    exact hQ _ _ _ _
  · simp only [if_neg h1] at hQ
    rw [if_neg h1]
    exact hQ _ _ _ _
end T91
