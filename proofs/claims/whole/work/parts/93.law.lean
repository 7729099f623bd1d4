/-! the law, case by case -/
section T93
variable {θ : (Nat → Value) × (Nat → Nat)} {w : rW} {b sc L i : Nat} {xs : Nat → Int32} {lim : Nat × Nat} {Q : rQ} {s1 s2 : sT} {P : rR} {img : Option rR} {tp : Nat → Int32} {t : Nat} {sh : rSh} {fd : Nat → Int32} {A Kx : rR} {rs re : Int32} {T B F Ix : rR} {ln : Nat → Int64} {so be te : Int32} {wd : Int64} {vl gd : Int32}
theorem com : cS (mS w (b + 37) s2 T B F Ix ln so be te wd vl gd) b s1 A Kx rs re = mS (cS w b s1 A Kx rs re) (b + 37) s2 T B F Ix ln so be te wd vl gd := cm_comm.symm
theorem co_sc {q : Nat} (hq : q < b) : (cS (mS w (b + 37) s2 T B F Ix ln so be te wd vl gd) b s1 A Kx rs re).1 q = w.1 q := by
  unfold cS mS
  rw [cw_off (Or.inl hq), mw_off (Or.inl (by omega))]
theorem co_gn (hsc : sc < b) (hw : w.1 sc = some (.inl (2, L, xs))) : rGn (cS (mS w (b + 37) s2 T B F Ix ln so be te wd vl gd) b s1 A Kx rs re) sc = L := by
  unfold rGn
  rw [co_sc hsc, hw]
  rfl
theorem co_gv (hsc : sc < b) (hw : w.1 sc = some (.inl (2, L, xs))) : rGv (cS (mS w (b + 37) s2 T B F Ix ln so be te wd vl gd) b s1 A Kx rs re) sc = xs := by
  unfold rGv
  rw [co_sc hsc, hw]
theorem co_ln (hsc : sc < b) (hw : w.1 sc = some (.inl (2, L, xs))) : rLen (cS (mS w (b + 37) s2 T B F Ix ln so be te wd vl gd) b s1 A Kx rs re) sc = some L := by
  unfold rLen
  rw [co_sc hsc, hw]
theorem co_c : rIs (cS (mS w (b + 37) s2 T B F Ix ln so be te wd vl gd) b s1 A Kx rs re) b 4 := cw_is
theorem co_m : rIs (cS (mS w (b + 37) s2 T B F Ix ln so be te wd vl gd) b s1 A Kx rs re) (b + 37) 5 := by
  rw [com]
  exact mw_is
theorem co_ex (hx : exOK θ w b) : exOK θ (mS w (b + 37) s2 T B F Ix ln so be te wd vl gd) b := hx.to (fun q hq => mw_off (Or.inl (by omega)))
theorem lawC_trams (hx : exOK θ w b) (hS : exS θ) (hsc : sc < b) (hw : w.1 sc = some (.inl (2, L, xs))) (hi : invS (P, img, tp, t, sh, fd)) (hiL : i + 6 ≤ L) (hL : L ≤ 3072) (hn : ∀ s A Kx rs re T B F Ix ln so be te wd vl gd, invS s → Wp (xL_law θ 12 lim) Q (1147, [some (.ref sc), some (.ref b), some (.ref (b + 37)), some (.int (nI i))], [], cS (mS w (b + 37) s T B F Ix ln so be te wd vl gd) b s A Kx rs re)) : Wp (xL_law θ 12 lim) Q (184, [some (.ref sc), some (.ref b), some (.ref (b + 37)), some (.int (nI i))], [], cS (mS w (b + 37) (P, img, tp, t, sh, fd) T B F Ix ln so be te wd vl gd) b (P, img, tp, t, sh, fd) A Kx rs re) := by
  have hj1 : nI i + 1 = nI (i + 1) := nI_add i 1
  simp only [eL_law_184, eL_law_185, eL_law_186, eL_law_187, eL_law_188, eL_law_189, eL_law_190, hj1, vp_in_nI (show i + 1 < L by omega) (show L < 2 ^ 31 by omega), nI_clamp (show i + 1 < 2 ^ 31 by omega), co_gn hsc hw, co_gv hsc hw, co_c, co_m, true_and, Option.toList_some, List.cons_append, List.nil_append]
  refine kC_trams (n := 2) _ (co_ex hx) hS hi (fun A Kx rs re => ?_)
  simp only [eL_law_193, eL_law_194, eL_law_195, eL_law_196, eL_law_197, eL_law_198, eL_law_199, hj1, vp_in_nI (show i + 1 < L by omega) (show L < 2 ^ 31 by omega), nI_clamp (show i + 1 < 2 ^ 31 by omega), co_gn hsc hw, co_gv hsc hw, co_c, co_m, true_and, Option.toList_some, List.cons_append, List.nil_append]
  rw [com]
  refine kR_trams (n := 2) _ hi (fun T B F Ix ln so be te wd vl gd => ?_)
  rw [← com]
  simp only [eL_law_202, eL_law_205, eL_law_206, Option.toList_some, List.cons_append, List.nil_append, lg_cmp_eq, if_true]
  exact hn _ _ _ _ _ _ _ _ _ _ _ _ _ _ _ _ (kI_trams _ hi)
theorem lawC_walker (hx : exOK θ w b) (hS : exS θ) (hsc : sc < b) (hw : w.1 sc = some (.inl (2, L, xs))) (hi : invS (P, img, tp, t, sh, fd)) (hiL : i + 6 ≤ L) (hL : L ≤ 3072) (hn : ∀ s A Kx rs re T B F Ix ln so be te wd vl gd, invS s → Wp (xL_law θ 12 lim) Q (1147, [some (.ref sc), some (.ref b), some (.ref (b + 37)), some (.int (nI i))], [], cS (mS w (b + 37) s T B F Ix ln so be te wd vl gd) b s A Kx rs re)) : Wp (xL_law θ 12 lim) Q (207, [some (.ref sc), some (.ref b), some (.ref (b + 37)), some (.int (nI i))], [], cS (mS w (b + 37) (P, img, tp, t, sh, fd) T B F Ix ln so be te wd vl gd) b (P, img, tp, t, sh, fd) A Kx rs re) := by
  have hj1 : nI i + 1 = nI (i + 1) := nI_add i 1
  have hj2 : nI i + 2 = nI (i + 2) := nI_add i 2
  simp only [eL_law_207, eL_law_208, eL_law_209, eL_law_210, eL_law_211, eL_law_212, eL_law_213, eL_law_214, eL_law_215, eL_law_216, eL_law_217, eL_law_218, hj1, vp_in_nI (show i + 1 < L by omega) (show L < 2 ^ 31 by omega), nI_clamp (show i + 1 < 2 ^ 31 by omega), hj2, vp_in_nI (show i + 2 < L by omega) (show L < 2 ^ 31 by omega), nI_clamp (show i + 2 < 2 ^ 31 by omega), co_gn hsc hw, co_gv hsc hw, co_c, co_m, true_and, Option.toList_some, List.cons_append, List.nil_append]
  refine kC_walker (n := 2) _ _ (co_ex hx) hS hi (fun A Kx rs re => ?_)
  simp only [eL_law_221, eL_law_222, eL_law_223, eL_law_224, eL_law_225, eL_law_226, eL_law_227, eL_law_228, eL_law_229, eL_law_230, eL_law_231, eL_law_232, hj1, vp_in_nI (show i + 1 < L by omega) (show L < 2 ^ 31 by omega), nI_clamp (show i + 1 < 2 ^ 31 by omega), hj2, vp_in_nI (show i + 2 < L by omega) (show L < 2 ^ 31 by omega), nI_clamp (show i + 2 < 2 ^ 31 by omega), co_gn hsc hw, co_gv hsc hw, co_c, co_m, true_and, Option.toList_some, List.cons_append, List.nil_append]
  rw [com]
  refine kR_walker (n := 2) _ _ hi (fun T B F Ix ln so be te wd vl gd => ?_)
  rw [← com]
  simp only [eL_law_235, eL_law_238, eL_law_239, Option.toList_some, List.cons_append, List.nil_append, lg_cmp_eq, if_true]
  exact hn _ _ _ _ _ _ _ _ _ _ _ _ _ _ _ _ (kI_walker _ _ hi)
theorem lawC_of (hx : exOK θ w b) (hS : exS θ) (hsc : sc < b) (hw : w.1 sc = some (.inl (2, L, xs))) (hi : invS (P, img, tp, t, sh, fd)) (hiL : i + 6 ≤ L) (hL : L ≤ 3072) (hn : ∀ s A Kx rs re T B F Ix ln so be te wd vl gd, invS s → Wp (xL_law θ 12 lim) Q (1147, [some (.ref sc), some (.ref b), some (.ref (b + 37)), some (.int (nI i))], [], cS (mS w (b + 37) s T B F Ix ln so be te wd vl gd) b s A Kx rs re)) : Wp (xL_law θ 12 lim) Q (240, [some (.ref sc), some (.ref b), some (.ref (b + 37)), some (.int (nI i))], [], cS (mS w (b + 37) (P, img, tp, t, sh, fd) T B F Ix ln so be te wd vl gd) b (P, img, tp, t, sh, fd) A Kx rs re) := by
  have hj1 : nI i + 1 = nI (i + 1) := nI_add i 1
  have hj2 : nI i + 2 = nI (i + 2) := nI_add i 2
  simp only [eL_law_240, eL_law_241, eL_law_242, eL_law_243, eL_law_244, eL_law_245, eL_law_246, eL_law_247, eL_law_248, eL_law_249, eL_law_250, eL_law_251, hj1, vp_in_nI (show i + 1 < L by omega) (show L < 2 ^ 31 by omega), nI_clamp (show i + 1 < 2 ^ 31 by omega), hj2, vp_in_nI (show i + 2 < L by omega) (show L < 2 ^ 31 by omega), nI_clamp (show i + 2 < 2 ^ 31 by omega), co_gn hsc hw, co_gv hsc hw, co_c, co_m, true_and, Option.toList_some, List.cons_append, List.nil_append]
  refine kC_of (n := 2) _ _ (co_ex hx) hS hi (fun A Kx rs re => ?_)
  simp only [eL_law_254, eL_law_255, eL_law_256, eL_law_257, eL_law_258, eL_law_259, eL_law_260, eL_law_261, eL_law_262, eL_law_263, eL_law_264, eL_law_265, hj1, vp_in_nI (show i + 1 < L by omega) (show L < 2 ^ 31 by omega), nI_clamp (show i + 1 < 2 ^ 31 by omega), hj2, vp_in_nI (show i + 2 < L by omega) (show L < 2 ^ 31 by omega), nI_clamp (show i + 2 < 2 ^ 31 by omega), co_gn hsc hw, co_gv hsc hw, co_c, co_m, true_and, Option.toList_some, List.cons_append, List.nil_append]
  rw [com]
  refine kR_of (n := 2) _ _ hi (fun T B F Ix ln so be te wd vl gd => ?_)
  rw [← com]
  simp only [eL_law_268, eL_law_271, eL_law_272, Option.toList_some, List.cons_append, List.nil_append, lg_cmp_eq, if_true]
  exact hn _ _ _ _ _ _ _ _ _ _ _ _ _ _ _ _ (kI_of _ _ hi)
theorem lawC_set (hx : exOK θ w b) (hS : exS θ) (hsc : sc < b) (hw : w.1 sc = some (.inl (2, L, xs))) (hi : invS (P, img, tp, t, sh, fd)) (hiL : i + 6 ≤ L) (hL : L ≤ 3072) (hn : ∀ s A Kx rs re T B F Ix ln so be te wd vl gd, invS s → Wp (xL_law θ 12 lim) Q (1147, [some (.ref sc), some (.ref b), some (.ref (b + 37)), some (.int (nI i))], [], cS (mS w (b + 37) s T B F Ix ln so be te wd vl gd) b s A Kx rs re)) : Wp (xL_law θ 12 lim) Q (273, [some (.ref sc), some (.ref b), some (.ref (b + 37)), some (.int (nI i))], [], cS (mS w (b + 37) (P, img, tp, t, sh, fd) T B F Ix ln so be te wd vl gd) b (P, img, tp, t, sh, fd) A Kx rs re) := by
  have hj1 : nI i + 1 = nI (i + 1) := nI_add i 1
  have hj2 : nI i + 2 = nI (i + 2) := nI_add i 2
  have hj3 : nI i + 3 = nI (i + 3) := nI_add i 3
  simp only [eL_law_273, eL_law_274, eL_law_275, eL_law_276, eL_law_277, eL_law_278, eL_law_279, eL_law_280, eL_law_281, eL_law_282, eL_law_283, eL_law_284, eL_law_285, eL_law_286, eL_law_287, eL_law_288, eL_law_289, hj1, vp_in_nI (show i + 1 < L by omega) (show L < 2 ^ 31 by omega), nI_clamp (show i + 1 < 2 ^ 31 by omega), hj2, vp_in_nI (show i + 2 < L by omega) (show L < 2 ^ 31 by omega), nI_clamp (show i + 2 < 2 ^ 31 by omega), hj3, vp_in_nI (show i + 3 < L by omega) (show L < 2 ^ 31 by omega), nI_clamp (show i + 3 < 2 ^ 31 by omega), co_gn hsc hw, co_gv hsc hw, co_c, co_m, true_and, Option.toList_some, List.cons_append, List.nil_append]
  refine kC_set (n := 2) _ _ _ (co_ex hx) hS hi (fun A Kx rs re => ?_)
  simp only [eL_law_292, eL_law_293, eL_law_294, eL_law_295, eL_law_296, eL_law_297, eL_law_298, eL_law_299, eL_law_300, eL_law_301, eL_law_302, eL_law_303, eL_law_304, eL_law_305, eL_law_306, eL_law_307, eL_law_308, hj1, vp_in_nI (show i + 1 < L by omega) (show L < 2 ^ 31 by omega), nI_clamp (show i + 1 < 2 ^ 31 by omega), hj2, vp_in_nI (show i + 2 < L by omega) (show L < 2 ^ 31 by omega), nI_clamp (show i + 2 < 2 ^ 31 by omega), hj3, vp_in_nI (show i + 3 < L by omega) (show L < 2 ^ 31 by omega), nI_clamp (show i + 3 < 2 ^ 31 by omega), co_gn hsc hw, co_gv hsc hw, co_c, co_m, true_and, Option.toList_some, List.cons_append, List.nil_append]
  rw [com]
  refine kR_set (n := 2) _ _ _ hi (fun T B F Ix ln so be te wd vl gd => ?_)
  rw [← com]
  simp only [eL_law_311, eL_law_314, eL_law_315, Option.toList_some, List.cons_append, List.nil_append, lg_cmp_eq, if_true]
  exact hn _ _ _ _ _ _ _ _ _ _ _ _ _ _ _ _ (kI_set _ _ _ hi)
theorem lawC_turn (hx : exOK θ w b) (hS : exS θ) (hsc : sc < b) (hw : w.1 sc = some (.inl (2, L, xs))) (hi : invS (P, img, tp, t, sh, fd)) (hiL : i + 6 ≤ L) (hL : L ≤ 3072) (hn : ∀ s A Kx rs re T B F Ix ln so be te wd vl gd, invS s → Wp (xL_law θ 12 lim) Q (1147, [some (.ref sc), some (.ref b), some (.ref (b + 37)), some (.int (nI i))], [], cS (mS w (b + 37) s T B F Ix ln so be te wd vl gd) b s A Kx rs re)) : Wp (xL_law θ 12 lim) Q (316, [some (.ref sc), some (.ref b), some (.ref (b + 37)), some (.int (nI i))], [], cS (mS w (b + 37) (P, img, tp, t, sh, fd) T B F Ix ln so be te wd vl gd) b (P, img, tp, t, sh, fd) A Kx rs re) := by
  have hj1 : nI i + 1 = nI (i + 1) := nI_add i 1
  have hj2 : nI i + 2 = nI (i + 2) := nI_add i 2
  simp only [eL_law_316, eL_law_317, eL_law_318, eL_law_319, eL_law_320, eL_law_321, eL_law_322, eL_law_323, eL_law_324, eL_law_325, eL_law_326, eL_law_327, hj1, vp_in_nI (show i + 1 < L by omega) (show L < 2 ^ 31 by omega), nI_clamp (show i + 1 < 2 ^ 31 by omega), hj2, vp_in_nI (show i + 2 < L by omega) (show L < 2 ^ 31 by omega), nI_clamp (show i + 2 < 2 ^ 31 by omega), co_gn hsc hw, co_gv hsc hw, co_c, co_m, true_and, Option.toList_some, List.cons_append, List.nil_append]
  refine kC_turn (n := 2) _ _ (co_ex hx) hS hi (fun A Kx rs re => ?_)
  simp only [eL_law_330, eL_law_331, eL_law_332, eL_law_333, eL_law_334, eL_law_335, eL_law_336, eL_law_337, eL_law_338, eL_law_339, eL_law_340, eL_law_341, hj1, vp_in_nI (show i + 1 < L by omega) (show L < 2 ^ 31 by omega), nI_clamp (show i + 1 < 2 ^ 31 by omega), hj2, vp_in_nI (show i + 2 < L by omega) (show L < 2 ^ 31 by omega), nI_clamp (show i + 2 < 2 ^ 31 by omega), co_gn hsc hw, co_gv hsc hw, co_c, co_m, true_and, Option.toList_some, List.cons_append, List.nil_append]
  rw [com]
  refine kR_turn (n := 2) _ _ hi (fun T B F Ix ln so be te wd vl gd => ?_)
  rw [← com]
  simp only [eL_law_344, eL_law_347, eL_law_348, Option.toList_some, List.cons_append, List.nil_append, lg_cmp_eq, if_true]
  exact hn _ _ _ _ _ _ _ _ _ _ _ _ _ _ _ _ (kI_turn _ _ hi)
theorem lawC_as (hx : exOK θ w b) (hS : exS θ) (hsc : sc < b) (hw : w.1 sc = some (.inl (2, L, xs))) (hi : invS (P, img, tp, t, sh, fd)) (hiL : i + 6 ≤ L) (hL : L ≤ 3072) (hn : ∀ s A Kx rs re T B F Ix ln so be te wd vl gd, invS s → Wp (xL_law θ 12 lim) Q (1147, [some (.ref sc), some (.ref b), some (.ref (b + 37)), some (.int (nI i))], [], cS (mS w (b + 37) s T B F Ix ln so be te wd vl gd) b s A Kx rs re)) : Wp (xL_law θ 12 lim) Q (349, [some (.ref sc), some (.ref b), some (.ref (b + 37)), some (.int (nI i))], [], cS (mS w (b + 37) (P, img, tp, t, sh, fd) T B F Ix ln so be te wd vl gd) b (P, img, tp, t, sh, fd) A Kx rs re) := by
  have hj1 : nI i + 1 = nI (i + 1) := nI_add i 1
  have hj2 : nI i + 2 = nI (i + 2) := nI_add i 2
  simp only [eL_law_349, eL_law_350, eL_law_351, eL_law_352, eL_law_353, eL_law_354, eL_law_355, eL_law_356, eL_law_357, eL_law_358, eL_law_359, eL_law_360, hj1, vp_in_nI (show i + 1 < L by omega) (show L < 2 ^ 31 by omega), nI_clamp (show i + 1 < 2 ^ 31 by omega), hj2, vp_in_nI (show i + 2 < L by omega) (show L < 2 ^ 31 by omega), nI_clamp (show i + 2 < 2 ^ 31 by omega), co_gn hsc hw, co_gv hsc hw, co_c, co_m, true_and, Option.toList_some, List.cons_append, List.nil_append]
  refine kC_as (n := 2) _ _ (co_ex hx) hS hi (fun A Kx rs re => ?_)
  simp only [eL_law_363, eL_law_364, eL_law_365, eL_law_366, eL_law_367, eL_law_368, eL_law_369, eL_law_370, eL_law_371, eL_law_372, eL_law_373, eL_law_374, hj1, vp_in_nI (show i + 1 < L by omega) (show L < 2 ^ 31 by omega), nI_clamp (show i + 1 < 2 ^ 31 by omega), hj2, vp_in_nI (show i + 2 < L by omega) (show L < 2 ^ 31 by omega), nI_clamp (show i + 2 < 2 ^ 31 by omega), co_gn hsc hw, co_gv hsc hw, co_c, co_m, true_and, Option.toList_some, List.cons_append, List.nil_append]
  rw [com]
  refine kR_as (n := 2) _ _ hi (fun T B F Ix ln so be te wd vl gd => ?_)
  rw [← com]
  simp only [eL_law_377, eL_law_380, eL_law_381, Option.toList_some, List.cons_append, List.nil_append, lg_cmp_eq, if_true]
  exact hn _ _ _ _ _ _ _ _ _ _ _ _ _ _ _ _ (kI_as _ _ hi)
theorem lawC_sees (hx : exOK θ w b) (hS : exS θ) (hsc : sc < b) (hw : w.1 sc = some (.inl (2, L, xs))) (hi : invS (P, img, tp, t, sh, fd)) (hiL : i + 6 ≤ L) (hL : L ≤ 3072) (hn : ∀ s A Kx rs re T B F Ix ln so be te wd vl gd, invS s → Wp (xL_law θ 12 lim) Q (1147, [some (.ref sc), some (.ref b), some (.ref (b + 37)), some (.int (nI i))], [], cS (mS w (b + 37) s T B F Ix ln so be te wd vl gd) b s A Kx rs re)) : Wp (xL_law θ 12 lim) Q (382, [some (.ref sc), some (.ref b), some (.ref (b + 37)), some (.int (nI i))], [], cS (mS w (b + 37) (P, img, tp, t, sh, fd) T B F Ix ln so be te wd vl gd) b (P, img, tp, t, sh, fd) A Kx rs re) := by
  have hj1 : nI i + 1 = nI (i + 1) := nI_add i 1
  simp only [eL_law_382, eL_law_383, eL_law_384, eL_law_385, eL_law_386, eL_law_387, eL_law_388, hj1, vp_in_nI (show i + 1 < L by omega) (show L < 2 ^ 31 by omega), nI_clamp (show i + 1 < 2 ^ 31 by omega), co_gn hsc hw, co_gv hsc hw, co_c, co_m, true_and, Option.toList_some, List.cons_append, List.nil_append]
  refine kC_sees (n := 2) _ (co_ex hx) hS hi (fun A Kx rs re => ?_)
  simp only [eL_law_391, eL_law_392, eL_law_393, eL_law_394, eL_law_395, eL_law_396, eL_law_397, hj1, vp_in_nI (show i + 1 < L by omega) (show L < 2 ^ 31 by omega), nI_clamp (show i + 1 < 2 ^ 31 by omega), co_gn hsc hw, co_gv hsc hw, co_c, co_m, true_and, Option.toList_some, List.cons_append, List.nil_append]
  rw [com]
  refine kR_sees (n := 2) _ hi (fun T B F Ix ln so be te wd vl gd => ?_)
  rw [← com]
  simp only [eL_law_400, eL_law_403, eL_law_404, Option.toList_some, List.cons_append, List.nil_append, lg_cmp_eq, if_true]
  exact hn _ _ _ _ _ _ _ _ _ _ _ _ _ _ _ _ (kI_sees _ hi)
theorem lawC_leader (hx : exOK θ w b) (hS : exS θ) (hsc : sc < b) (hw : w.1 sc = some (.inl (2, L, xs))) (hi : invS (P, img, tp, t, sh, fd)) (hiL : i + 6 ≤ L) (hL : L ≤ 3072) (hn : ∀ s A Kx rs re T B F Ix ln so be te wd vl gd, invS s → Wp (xL_law θ 12 lim) Q (1147, [some (.ref sc), some (.ref b), some (.ref (b + 37)), some (.int (nI i))], [], cS (mS w (b + 37) s T B F Ix ln so be te wd vl gd) b s A Kx rs re)) : Wp (xL_law θ 12 lim) Q (405, [some (.ref sc), some (.ref b), some (.ref (b + 37)), some (.int (nI i))], [], cS (mS w (b + 37) (P, img, tp, t, sh, fd) T B F Ix ln so be te wd vl gd) b (P, img, tp, t, sh, fd) A Kx rs re) := by
  have hj1 : nI i + 1 = nI (i + 1) := nI_add i 1
  simp only [eL_law_405, eL_law_406, eL_law_407, eL_law_408, eL_law_409, eL_law_410, eL_law_411, hj1, vp_in_nI (show i + 1 < L by omega) (show L < 2 ^ 31 by omega), nI_clamp (show i + 1 < 2 ^ 31 by omega), co_gn hsc hw, co_gv hsc hw, co_c, co_m, true_and, Option.toList_some, List.cons_append, List.nil_append]
  refine kC_leader (n := 2) _ (co_ex hx) hS hi (fun A Kx rs re => ?_)
  simp only [eL_law_414, eL_law_415, eL_law_416, eL_law_417, eL_law_418, eL_law_419, eL_law_420, hj1, vp_in_nI (show i + 1 < L by omega) (show L < 2 ^ 31 by omega), nI_clamp (show i + 1 < 2 ^ 31 by omega), co_gn hsc hw, co_gv hsc hw, co_c, co_m, true_and, Option.toList_some, List.cons_append, List.nil_append]
  rw [com]
  refine kR_leader (n := 2) _ hi (fun T B F Ix ln so be te wd vl gd => ?_)
  rw [← com]
  simp only [eL_law_423, eL_law_426, eL_law_427, Option.toList_some, List.cons_append, List.nil_append, lg_cmp_eq, if_true]
  exact hn _ _ _ _ _ _ _ _ _ _ _ _ _ _ _ _ (kI_leader _ hi)
theorem lawC_minutes (hx : exOK θ w b) (hS : exS θ) (hsc : sc < b) (hw : w.1 sc = some (.inl (2, L, xs))) (hi : invS (P, img, tp, t, sh, fd)) (hiL : i + 6 ≤ L) (hL : L ≤ 3072) (hn : ∀ s A Kx rs re T B F Ix ln so be te wd vl gd, invS s → Wp (xL_law θ 12 lim) Q (1147, [some (.ref sc), some (.ref b), some (.ref (b + 37)), some (.int (nI i))], [], cS (mS w (b + 37) s T B F Ix ln so be te wd vl gd) b s A Kx rs re)) : Wp (xL_law θ 12 lim) Q (428, [some (.ref sc), some (.ref b), some (.ref (b + 37)), some (.int (nI i))], [], cS (mS w (b + 37) (P, img, tp, t, sh, fd) T B F Ix ln so be te wd vl gd) b (P, img, tp, t, sh, fd) A Kx rs re) := by
  have hj1 : nI i + 1 = nI (i + 1) := nI_add i 1
  simp only [eL_law_428, eL_law_429, eL_law_430, eL_law_431, eL_law_432, eL_law_433, eL_law_434, hj1, vp_in_nI (show i + 1 < L by omega) (show L < 2 ^ 31 by omega), nI_clamp (show i + 1 < 2 ^ 31 by omega), co_gn hsc hw, co_gv hsc hw, co_c, co_m, true_and, Option.toList_some, List.cons_append, List.nil_append]
  refine kC_minutes (n := 2) _ (co_ex hx) hS hi (fun A Kx rs re => ?_)
  simp only [eL_law_437, eL_law_438, eL_law_439, eL_law_440, eL_law_441, eL_law_442, eL_law_443, hj1, vp_in_nI (show i + 1 < L by omega) (show L < 2 ^ 31 by omega), nI_clamp (show i + 1 < 2 ^ 31 by omega), co_gn hsc hw, co_gv hsc hw, co_c, co_m, true_and, Option.toList_some, List.cons_append, List.nil_append]
  rw [com]
  refine kR_minutes (n := 2) _ hi (fun T B F Ix ln so be te wd vl gd => ?_)
  rw [← com]
  simp only [eL_law_446, eL_law_449, eL_law_450, Option.toList_some, List.cons_append, List.nil_append, lg_cmp_eq, if_true]
  exact hn _ _ _ _ _ _ _ _ _ _ _ _ _ _ _ _ (kI_minutes _ hi)
theorem lawC_now (hx : exOK θ w b) (hS : exS θ) (hsc : sc < b) (hw : w.1 sc = some (.inl (2, L, xs))) (hi : invS (P, img, tp, t, sh, fd)) (hiL : i + 6 ≤ L) (hL : L ≤ 3072) (hn : ∀ s A Kx rs re T B F Ix ln so be te wd vl gd, invS s → Wp (xL_law θ 12 lim) Q (1147, [some (.ref sc), some (.ref b), some (.ref (b + 37)), some (.int (nI i))], [], cS (mS w (b + 37) s T B F Ix ln so be te wd vl gd) b s A Kx rs re)) : Wp (xL_law θ 12 lim) Q (451, [some (.ref sc), some (.ref b), some (.ref (b + 37)), some (.int (nI i))], [], cS (mS w (b + 37) (P, img, tp, t, sh, fd) T B F Ix ln so be te wd vl gd) b (P, img, tp, t, sh, fd) A Kx rs re) := by
  have hj1 : nI i + 1 = nI (i + 1) := nI_add i 1
  simp only [eL_law_451, eL_law_452, eL_law_453, eL_law_454, eL_law_455, eL_law_456, eL_law_457, hj1, vp_in_nI (show i + 1 < L by omega) (show L < 2 ^ 31 by omega), nI_clamp (show i + 1 < 2 ^ 31 by omega), co_gn hsc hw, co_gv hsc hw, co_c, co_m, true_and, Option.toList_some, List.cons_append, List.nil_append]
  refine kC_now (n := 2) _ (co_ex hx) hS hi (fun A Kx rs re => ?_)
  simp only [eL_law_460, eL_law_461, eL_law_462, eL_law_463, eL_law_464, eL_law_465, eL_law_466, hj1, vp_in_nI (show i + 1 < L by omega) (show L < 2 ^ 31 by omega), nI_clamp (show i + 1 < 2 ^ 31 by omega), co_gn hsc hw, co_gv hsc hw, co_c, co_m, true_and, Option.toList_some, List.cons_append, List.nil_append]
  rw [com]
  refine kR_now (n := 2) _ hi (fun T B F Ix ln so be te wd vl gd => ?_)
  rw [← com]
  simp only [eL_law_469, eL_law_472, eL_law_473, Option.toList_some, List.cons_append, List.nil_append, lg_cmp_eq, if_true]
  exact hn _ _ _ _ _ _ _ _ _ _ _ _ _ _ _ _ (kI_now _ hi)
theorem lawC_on (hx : exOK θ w b) (hS : exS θ) (hsc : sc < b) (hw : w.1 sc = some (.inl (2, L, xs))) (hi : invS (P, img, tp, t, sh, fd)) (hiL : i + 6 ≤ L) (hL : L ≤ 3072) (hn : ∀ s A Kx rs re T B F Ix ln so be te wd vl gd, invS s → Wp (xL_law θ 12 lim) Q (1147, [some (.ref sc), some (.ref b), some (.ref (b + 37)), some (.int (nI i))], [], cS (mS w (b + 37) s T B F Ix ln so be te wd vl gd) b s A Kx rs re)) : Wp (xL_law θ 12 lim) Q (474, [some (.ref sc), some (.ref b), some (.ref (b + 37)), some (.int (nI i))], [], cS (mS w (b + 37) (P, img, tp, t, sh, fd) T B F Ix ln so be te wd vl gd) b (P, img, tp, t, sh, fd) A Kx rs re) := by
  have hj1 : nI i + 1 = nI (i + 1) := nI_add i 1
  have hj2 : nI i + 2 = nI (i + 2) := nI_add i 2
  have hj3 : nI i + 3 = nI (i + 3) := nI_add i 3
  simp only [eL_law_474, eL_law_475, eL_law_476, eL_law_477, eL_law_478, eL_law_479, eL_law_480, eL_law_481, eL_law_482, eL_law_483, eL_law_484, eL_law_485, eL_law_486, eL_law_487, eL_law_488, eL_law_489, eL_law_490, hj1, vp_in_nI (show i + 1 < L by omega) (show L < 2 ^ 31 by omega), nI_clamp (show i + 1 < 2 ^ 31 by omega), hj2, vp_in_nI (show i + 2 < L by omega) (show L < 2 ^ 31 by omega), nI_clamp (show i + 2 < 2 ^ 31 by omega), hj3, vp_in_nI (show i + 3 < L by omega) (show L < 2 ^ 31 by omega), nI_clamp (show i + 3 < 2 ^ 31 by omega), co_gn hsc hw, co_gv hsc hw, co_c, co_m, true_and, Option.toList_some, List.cons_append, List.nil_append]
  refine kC_on (n := 2) _ _ _ (co_ex hx) hS hi (fun A Kx rs re => ?_)
  simp only [eL_law_493, eL_law_494, eL_law_495, eL_law_496, eL_law_497, eL_law_498, eL_law_499, eL_law_500, eL_law_501, eL_law_502, eL_law_503, eL_law_504, eL_law_505, eL_law_506, eL_law_507, eL_law_508, eL_law_509, hj1, vp_in_nI (show i + 1 < L by omega) (show L < 2 ^ 31 by omega), nI_clamp (show i + 1 < 2 ^ 31 by omega), hj2, vp_in_nI (show i + 2 < L by omega) (show L < 2 ^ 31 by omega), nI_clamp (show i + 2 < 2 ^ 31 by omega), hj3, vp_in_nI (show i + 3 < L by omega) (show L < 2 ^ 31 by omega), nI_clamp (show i + 3 < 2 ^ 31 by omega), co_gn hsc hw, co_gv hsc hw, co_c, co_m, true_and, Option.toList_some, List.cons_append, List.nil_append]
  rw [com]
  refine kR_on (n := 2) _ _ _ hi (fun T B F Ix ln so be te wd vl gd => ?_)
  rw [← com]
  simp only [eL_law_512, eL_law_515, eL_law_516, Option.toList_some, List.cons_append, List.nil_append, lg_cmp_eq, if_true]
  exact hn _ _ _ _ _ _ _ _ _ _ _ _ _ _ _ _ (kI_on _ _ _ hi)
theorem lawC_through (hx : exOK θ w b) (hS : exS θ) (hsc : sc < b) (hw : w.1 sc = some (.inl (2, L, xs))) (hi : invS (P, img, tp, t, sh, fd)) (hiL : i + 6 ≤ L) (hL : L ≤ 3072) (hn : ∀ s A Kx rs re T B F Ix ln so be te wd vl gd, invS s → Wp (xL_law θ 12 lim) Q (1147, [some (.ref sc), some (.ref b), some (.ref (b + 37)), some (.int (nI i))], [], cS (mS w (b + 37) s T B F Ix ln so be te wd vl gd) b s A Kx rs re)) : Wp (xL_law θ 12 lim) Q (517, [some (.ref sc), some (.ref b), some (.ref (b + 37)), some (.int (nI i))], [], cS (mS w (b + 37) (P, img, tp, t, sh, fd) T B F Ix ln so be te wd vl gd) b (P, img, tp, t, sh, fd) A Kx rs re) := by
  have hj1 : nI i + 1 = nI (i + 1) := nI_add i 1
  simp only [eL_law_517, eL_law_518, eL_law_519, eL_law_520, eL_law_521, eL_law_522, eL_law_523, hj1, vp_in_nI (show i + 1 < L by omega) (show L < 2 ^ 31 by omega), nI_clamp (show i + 1 < 2 ^ 31 by omega), co_gn hsc hw, co_gv hsc hw, co_c, co_m, true_and, Option.toList_some, List.cons_append, List.nil_append]
  refine kC_through (n := 2) _ (co_ex hx) hS hi (fun A Kx rs re => ?_)
  simp only [eL_law_526, eL_law_527, eL_law_528, eL_law_529, eL_law_530, eL_law_531, eL_law_532, hj1, vp_in_nI (show i + 1 < L by omega) (show L < 2 ^ 31 by omega), nI_clamp (show i + 1 < 2 ^ 31 by omega), co_gn hsc hw, co_gv hsc hw, co_c, co_m, true_and, Option.toList_some, List.cons_append, List.nil_append]
  rw [com]
  refine kR_through (n := 2) _ hi (fun T B F Ix ln so be te wd vl gd => ?_)
  rw [← com]
  simp only [eL_law_535, eL_law_538, eL_law_539, Option.toList_some, List.cons_append, List.nil_append, lg_cmp_eq, if_true]
  exact hn _ _ _ _ _ _ _ _ _ _ _ _ _ _ _ _ (kI_through _ hi)
theorem lawC_bumps (hx : exOK θ w b) (hS : exS θ) (hsc : sc < b) (hw : w.1 sc = some (.inl (2, L, xs))) (hi : invS (P, img, tp, t, sh, fd)) (hiL : i + 6 ≤ L) (hL : L ≤ 3072) (hn : ∀ s A Kx rs re T B F Ix ln so be te wd vl gd, invS s → Wp (xL_law θ 12 lim) Q (1147, [some (.ref sc), some (.ref b), some (.ref (b + 37)), some (.int (nI i))], [], cS (mS w (b + 37) s T B F Ix ln so be te wd vl gd) b s A Kx rs re)) : Wp (xL_law θ 12 lim) Q (540, [some (.ref sc), some (.ref b), some (.ref (b + 37)), some (.int (nI i))], [], cS (mS w (b + 37) (P, img, tp, t, sh, fd) T B F Ix ln so be te wd vl gd) b (P, img, tp, t, sh, fd) A Kx rs re) := by
  have hj1 : nI i + 1 = nI (i + 1) := nI_add i 1
  simp only [eL_law_540, eL_law_541, eL_law_542, eL_law_543, eL_law_544, eL_law_545, eL_law_546, hj1, vp_in_nI (show i + 1 < L by omega) (show L < 2 ^ 31 by omega), nI_clamp (show i + 1 < 2 ^ 31 by omega), co_gn hsc hw, co_gv hsc hw, co_c, co_m, true_and, Option.toList_some, List.cons_append, List.nil_append]
  refine kC_bumps (n := 2) _ (co_ex hx) hS hi (fun A Kx rs re => ?_)
  simp only [eL_law_549, eL_law_550, eL_law_551, eL_law_552, eL_law_553, eL_law_554, eL_law_555, hj1, vp_in_nI (show i + 1 < L by omega) (show L < 2 ^ 31 by omega), nI_clamp (show i + 1 < 2 ^ 31 by omega), co_gn hsc hw, co_gv hsc hw, co_c, co_m, true_and, Option.toList_some, List.cons_append, List.nil_append]
  rw [com]
  refine kR_bumps (n := 2) _ hi (fun T B F Ix ln so be te wd vl gd => ?_)
  rw [← com]
  simp only [eL_law_558, eL_law_561, eL_law_562, Option.toList_some, List.cons_append, List.nil_append, lg_cmp_eq, if_true]
  exact hn _ _ _ _ _ _ _ _ _ _ _ _ _ _ _ _ (kI_bumps _ hi)
theorem lawC_meet (hx : exOK θ w b) (hS : exS θ) (hsc : sc < b) (hw : w.1 sc = some (.inl (2, L, xs))) (hi : invS (P, img, tp, t, sh, fd)) (hiL : i + 6 ≤ L) (hL : L ≤ 3072) (hn : ∀ s A Kx rs re T B F Ix ln so be te wd vl gd, invS s → Wp (xL_law θ 12 lim) Q (1147, [some (.ref sc), some (.ref b), some (.ref (b + 37)), some (.int (nI i))], [], cS (mS w (b + 37) s T B F Ix ln so be te wd vl gd) b s A Kx rs re)) : Wp (xL_law θ 12 lim) Q (563, [some (.ref sc), some (.ref b), some (.ref (b + 37)), some (.int (nI i))], [], cS (mS w (b + 37) (P, img, tp, t, sh, fd) T B F Ix ln so be te wd vl gd) b (P, img, tp, t, sh, fd) A Kx rs re) := by
  have hj1 : nI i + 1 = nI (i + 1) := nI_add i 1
  have hj2 : nI i + 2 = nI (i + 2) := nI_add i 2
  simp only [eL_law_563, eL_law_564, eL_law_565, eL_law_566, eL_law_567, eL_law_568, eL_law_569, eL_law_570, eL_law_571, eL_law_572, eL_law_573, eL_law_574, hj1, vp_in_nI (show i + 1 < L by omega) (show L < 2 ^ 31 by omega), nI_clamp (show i + 1 < 2 ^ 31 by omega), hj2, vp_in_nI (show i + 2 < L by omega) (show L < 2 ^ 31 by omega), nI_clamp (show i + 2 < 2 ^ 31 by omega), co_gn hsc hw, co_gv hsc hw, co_c, co_m, true_and, Option.toList_some, List.cons_append, List.nil_append]
  refine kC_meet (n := 2) _ _ (co_ex hx) hS hi (fun A Kx rs re => ?_)
  simp only [eL_law_577, eL_law_578, eL_law_579, eL_law_580, eL_law_581, eL_law_582, eL_law_583, eL_law_584, eL_law_585, eL_law_586, eL_law_587, eL_law_588, hj1, vp_in_nI (show i + 1 < L by omega) (show L < 2 ^ 31 by omega), nI_clamp (show i + 1 < 2 ^ 31 by omega), hj2, vp_in_nI (show i + 2 < L by omega) (show L < 2 ^ 31 by omega), nI_clamp (show i + 2 < 2 ^ 31 by omega), co_gn hsc hw, co_gv hsc hw, co_c, co_m, true_and, Option.toList_some, List.cons_append, List.nil_append]
  rw [com]
  refine kR_meet (n := 2) _ _ hi (fun T B F Ix ln so be te wd vl gd => ?_)
  rw [← com]
  simp only [eL_law_591, eL_law_594, eL_law_595, Option.toList_some, List.cons_append, List.nil_append, lg_cmp_eq, if_true]
  exact hn _ _ _ _ _ _ _ _ _ _ _ _ _ _ _ _ (kI_meet _ _ hi)
theorem lawC_pace (hx : exOK θ w b) (hS : exS θ) (hsc : sc < b) (hw : w.1 sc = some (.inl (2, L, xs))) (hi : invS (P, img, tp, t, sh, fd)) (hiL : i + 6 ≤ L) (hL : L ≤ 3072) (hn : ∀ s A Kx rs re T B F Ix ln so be te wd vl gd, invS s → Wp (xL_law θ 12 lim) Q (1147, [some (.ref sc), some (.ref b), some (.ref (b + 37)), some (.int (nI i))], [], cS (mS w (b + 37) s T B F Ix ln so be te wd vl gd) b s A Kx rs re)) : Wp (xL_law θ 12 lim) Q (596, [some (.ref sc), some (.ref b), some (.ref (b + 37)), some (.int (nI i))], [], cS (mS w (b + 37) (P, img, tp, t, sh, fd) T B F Ix ln so be te wd vl gd) b (P, img, tp, t, sh, fd) A Kx rs re) := by
  have hj1 : nI i + 1 = nI (i + 1) := nI_add i 1
  simp only [eL_law_596, eL_law_597, eL_law_598, eL_law_599, eL_law_600, eL_law_601, eL_law_602, hj1, vp_in_nI (show i + 1 < L by omega) (show L < 2 ^ 31 by omega), nI_clamp (show i + 1 < 2 ^ 31 by omega), co_gn hsc hw, co_gv hsc hw, co_c, co_m, true_and, Option.toList_some, List.cons_append, List.nil_append]
  refine kC_pace (n := 2) _ (co_ex hx) hS hi (fun A Kx rs re => ?_)
  simp only [eL_law_605, eL_law_606, eL_law_607, eL_law_608, eL_law_609, eL_law_610, eL_law_611, hj1, vp_in_nI (show i + 1 < L by omega) (show L < 2 ^ 31 by omega), nI_clamp (show i + 1 < 2 ^ 31 by omega), co_gn hsc hw, co_gv hsc hw, co_c, co_m, true_and, Option.toList_some, List.cons_append, List.nil_append]
  rw [com]
  refine kR_pace (n := 2) _ hi (fun T B F Ix ln so be te wd vl gd => ?_)
  rw [← com]
  simp only [eL_law_614, eL_law_617, eL_law_618, Option.toList_some, List.cons_append, List.nil_append, lg_cmp_eq, if_true]
  exact hn _ _ _ _ _ _ _ _ _ _ _ _ _ _ _ _ (kI_pace _ hi)
theorem lawC_kind (hx : exOK θ w b) (hS : exS θ) (hsc : sc < b) (hw : w.1 sc = some (.inl (2, L, xs))) (hi : invS (P, img, tp, t, sh, fd)) (hiL : i + 6 ≤ L) (hL : L ≤ 3072) (hn : ∀ s A Kx rs re T B F Ix ln so be te wd vl gd, invS s → Wp (xL_law θ 12 lim) Q (1147, [some (.ref sc), some (.ref b), some (.ref (b + 37)), some (.int (nI i))], [], cS (mS w (b + 37) s T B F Ix ln so be te wd vl gd) b s A Kx rs re)) : Wp (xL_law θ 12 lim) Q (619, [some (.ref sc), some (.ref b), some (.ref (b + 37)), some (.int (nI i))], [], cS (mS w (b + 37) (P, img, tp, t, sh, fd) T B F Ix ln so be te wd vl gd) b (P, img, tp, t, sh, fd) A Kx rs re) := by
  have hj1 : nI i + 1 = nI (i + 1) := nI_add i 1
  simp only [eL_law_619, eL_law_620, eL_law_621, eL_law_622, eL_law_623, eL_law_624, eL_law_625, hj1, vp_in_nI (show i + 1 < L by omega) (show L < 2 ^ 31 by omega), nI_clamp (show i + 1 < 2 ^ 31 by omega), co_gn hsc hw, co_gv hsc hw, co_c, co_m, true_and, Option.toList_some, List.cons_append, List.nil_append]
  refine kC_kind (n := 2) _ (co_ex hx) hS hi (fun A Kx rs re => ?_)
  simp only [eL_law_628, eL_law_629, eL_law_630, eL_law_631, eL_law_632, eL_law_633, eL_law_634, hj1, vp_in_nI (show i + 1 < L by omega) (show L < 2 ^ 31 by omega), nI_clamp (show i + 1 < 2 ^ 31 by omega), co_gn hsc hw, co_gv hsc hw, co_c, co_m, true_and, Option.toList_some, List.cons_append, List.nil_append]
  rw [com]
  refine kR_kind (n := 2) _ hi (fun T B F Ix ln so be te wd vl gd => ?_)
  rw [← com]
  simp only [eL_law_637, eL_law_640, eL_law_641, Option.toList_some, List.cons_append, List.nil_append, lg_cmp_eq, if_true]
  exact hn _ _ _ _ _ _ _ _ _ _ _ _ _ _ _ _ (kI_kind _ hi)
theorem lawC_begin (hx : exOK θ w b) (hS : exS θ) (hsc : sc < b) (hw : w.1 sc = some (.inl (2, L, xs))) (hi : invS (P, img, tp, t, sh, fd)) (hiL : i + 6 ≤ L) (hL : L ≤ 3072) (hn : ∀ s A Kx rs re T B F Ix ln so be te wd vl gd, invS s → Wp (xL_law θ 12 lim) Q (1147, [some (.ref sc), some (.ref b), some (.ref (b + 37)), some (.int (nI i))], [], cS (mS w (b + 37) s T B F Ix ln so be te wd vl gd) b s A Kx rs re)) : Wp (xL_law θ 12 lim) Q (642, [some (.ref sc), some (.ref b), some (.ref (b + 37)), some (.int (nI i))], [], cS (mS w (b + 37) (P, img, tp, t, sh, fd) T B F Ix ln so be te wd vl gd) b (P, img, tp, t, sh, fd) A Kx rs re) := by
  have hj1 : nI i + 1 = nI (i + 1) := nI_add i 1
  have hj2 : nI i + 2 = nI (i + 2) := nI_add i 2
  simp only [eL_law_642, eL_law_643, eL_law_644, eL_law_645, eL_law_646, eL_law_647, eL_law_648, eL_law_649, eL_law_650, eL_law_651, eL_law_652, eL_law_653, hj1, vp_in_nI (show i + 1 < L by omega) (show L < 2 ^ 31 by omega), nI_clamp (show i + 1 < 2 ^ 31 by omega), hj2, vp_in_nI (show i + 2 < L by omega) (show L < 2 ^ 31 by omega), nI_clamp (show i + 2 < 2 ^ 31 by omega), co_gn hsc hw, co_gv hsc hw, co_c, co_m, true_and, Option.toList_some, List.cons_append, List.nil_append]
  refine kC_begin (n := 2) _ _ (co_ex hx) hS hi (fun A Kx rs re => ?_)
  simp only [eL_law_656, eL_law_657, eL_law_658, eL_law_659, eL_law_660, eL_law_661, eL_law_662, eL_law_663, eL_law_664, eL_law_665, eL_law_666, eL_law_667, hj1, vp_in_nI (show i + 1 < L by omega) (show L < 2 ^ 31 by omega), nI_clamp (show i + 1 < 2 ^ 31 by omega), hj2, vp_in_nI (show i + 2 < L by omega) (show L < 2 ^ 31 by omega), nI_clamp (show i + 2 < 2 ^ 31 by omega), co_gn hsc hw, co_gv hsc hw, co_c, co_m, true_and, Option.toList_some, List.cons_append, List.nil_append]
  rw [com]
  refine kR_begin (n := 2) _ _ hi (fun T B F Ix ln so be te wd vl gd => ?_)
  rw [← com]
  simp only [eL_law_670, eL_law_673, eL_law_674, Option.toList_some, List.cons_append, List.nil_append, lg_cmp_eq, if_true]
  exact hn _ _ _ _ _ _ _ _ _ _ _ _ _ _ _ _ (kI_begin _ _ hi)
theorem lawC_fewest (hx : exOK θ w b) (hS : exS θ) (hsc : sc < b) (hw : w.1 sc = some (.inl (2, L, xs))) (hi : invS (P, img, tp, t, sh, fd)) (hiL : i + 6 ≤ L) (hL : L ≤ 3072) (hn : ∀ s A Kx rs re T B F Ix ln so be te wd vl gd, invS s → Wp (xL_law θ 12 lim) Q (1147, [some (.ref sc), some (.ref b), some (.ref (b + 37)), some (.int (nI i))], [], cS (mS w (b + 37) s T B F Ix ln so be te wd vl gd) b s A Kx rs re)) : Wp (xL_law θ 12 lim) Q (675, [some (.ref sc), some (.ref b), some (.ref (b + 37)), some (.int (nI i))], [], cS (mS w (b + 37) (P, img, tp, t, sh, fd) T B F Ix ln so be te wd vl gd) b (P, img, tp, t, sh, fd) A Kx rs re) := by
  have hj1 : nI i + 1 = nI (i + 1) := nI_add i 1
  simp only [eL_law_675, eL_law_676, eL_law_677, eL_law_678, eL_law_679, eL_law_680, eL_law_681, hj1, vp_in_nI (show i + 1 < L by omega) (show L < 2 ^ 31 by omega), nI_clamp (show i + 1 < 2 ^ 31 by omega), co_gn hsc hw, co_gv hsc hw, co_c, co_m, true_and, Option.toList_some, List.cons_append, List.nil_append]
  refine kC_fewest (n := 2) _ (co_ex hx) hS hi (fun A Kx rs re => ?_)
  simp only [eL_law_684, eL_law_685, eL_law_686, eL_law_687, eL_law_688, eL_law_689, eL_law_690, hj1, vp_in_nI (show i + 1 < L by omega) (show L < 2 ^ 31 by omega), nI_clamp (show i + 1 < 2 ^ 31 by omega), co_gn hsc hw, co_gv hsc hw, co_c, co_m, true_and, Option.toList_some, List.cons_append, List.nil_append]
  rw [com]
  refine kR_fewest (n := 2) _ hi (fun T B F Ix ln so be te wd vl gd => ?_)
  rw [← com]
  simp only [eL_law_693, eL_law_696, eL_law_697, Option.toList_some, List.cons_append, List.nil_append, lg_cmp_eq, if_true]
  exact hn _ _ _ _ _ _ _ _ _ _ _ _ _ _ _ _ (kI_fewest _ hi)
theorem lawC_other (hx : exOK θ w b) (hS : exS θ) (hsc : sc < b) (hw : w.1 sc = some (.inl (2, L, xs))) (hi : invS (P, img, tp, t, sh, fd)) (hiL : i + 6 ≤ L) (hL : L ≤ 3072) (hn : ∀ s A Kx rs re T B F Ix ln so be te wd vl gd, invS s → Wp (xL_law θ 12 lim) Q (1147, [some (.ref sc), some (.ref b), some (.ref (b + 37)), some (.int (nI i))], [], cS (mS w (b + 37) s T B F Ix ln so be te wd vl gd) b s A Kx rs re)) : Wp (xL_law θ 12 lim) Q (698, [some (.ref sc), some (.ref b), some (.ref (b + 37)), some (.int (nI i))], [], cS (mS w (b + 37) (P, img, tp, t, sh, fd) T B F Ix ln so be te wd vl gd) b (P, img, tp, t, sh, fd) A Kx rs re) := by
  have hj1 : nI i + 1 = nI (i + 1) := nI_add i 1
  simp only [eL_law_698, eL_law_699, eL_law_700, eL_law_701, eL_law_702, eL_law_703, eL_law_704, hj1, vp_in_nI (show i + 1 < L by omega) (show L < 2 ^ 31 by omega), nI_clamp (show i + 1 < 2 ^ 31 by omega), co_gn hsc hw, co_gv hsc hw, co_c, co_m, true_and, Option.toList_some, List.cons_append, List.nil_append]
  refine kC_other (n := 2) _ (co_ex hx) hS hi (fun A Kx rs re => ?_)
  simp only [eL_law_707, eL_law_708, eL_law_709, eL_law_710, eL_law_711, eL_law_712, eL_law_713, hj1, vp_in_nI (show i + 1 < L by omega) (show L < 2 ^ 31 by omega), nI_clamp (show i + 1 < 2 ^ 31 by omega), co_gn hsc hw, co_gv hsc hw, co_c, co_m, true_and, Option.toList_some, List.cons_append, List.nil_append]
  rw [com]
  refine kR_other (n := 2) _ hi (fun T B F Ix ln so be te wd vl gd => ?_)
  rw [← com]
  simp only [eL_law_716, eL_law_719, eL_law_720, Option.toList_some, List.cons_append, List.nil_append, lg_cmp_eq, if_true]
  exact hn _ _ _ _ _ _ _ _ _ _ _ _ _ _ _ _ (kI_other _ hi)
theorem lawC_first (hx : exOK θ w b) (hS : exS θ) (hsc : sc < b) (hw : w.1 sc = some (.inl (2, L, xs))) (hi : invS (P, img, tp, t, sh, fd)) (hiL : i + 6 ≤ L) (hL : L ≤ 3072) (hn : ∀ s A Kx rs re T B F Ix ln so be te wd vl gd, invS s → Wp (xL_law θ 12 lim) Q (1147, [some (.ref sc), some (.ref b), some (.ref (b + 37)), some (.int (nI i))], [], cS (mS w (b + 37) s T B F Ix ln so be te wd vl gd) b s A Kx rs re)) : Wp (xL_law θ 12 lim) Q (721, [some (.ref sc), some (.ref b), some (.ref (b + 37)), some (.int (nI i))], [], cS (mS w (b + 37) (P, img, tp, t, sh, fd) T B F Ix ln so be te wd vl gd) b (P, img, tp, t, sh, fd) A Kx rs re) := by
  simp only [eL_law_721, eL_law_722, co_gn hsc hw, co_gv hsc hw, co_c, co_m, true_and, Option.toList_some, List.cons_append, List.nil_append]
  refine kC_first (n := 2)  (co_ex hx) hS hi (fun A Kx rs re => ?_)
  simp only [eL_law_725, eL_law_726, co_gn hsc hw, co_gv hsc hw, co_c, co_m, true_and, Option.toList_some, List.cons_append, List.nil_append]
  rw [com]
  refine kR_first (n := 2)  hi (fun T B F Ix ln so be te wd vl gd => ?_)
  rw [← com]
  simp only [eL_law_729, eL_law_732, eL_law_733, Option.toList_some, List.cons_append, List.nil_append, lg_cmp_eq, if_true]
  exact hn _ _ _ _ _ _ _ _ _ _ _ _ _ _ _ _ (kI_first  hi)
theorem lawC_feed (hx : exOK θ w b) (hS : exS θ) (hsc : sc < b) (hw : w.1 sc = some (.inl (2, L, xs))) (hi : invS (P, img, tp, t, sh, fd)) (hiL : i + 6 ≤ L) (hL : L ≤ 3072) (hn : ∀ s A Kx rs re T B F Ix ln so be te wd vl gd, invS s → Wp (xL_law θ 12 lim) Q (1147, [some (.ref sc), some (.ref b), some (.ref (b + 37)), some (.int (nI i))], [], cS (mS w (b + 37) s T B F Ix ln so be te wd vl gd) b s A Kx rs re)) : Wp (xL_law θ 12 lim) Q (734, [some (.ref sc), some (.ref b), some (.ref (b + 37)), some (.int (nI i))], [], cS (mS w (b + 37) (P, img, tp, t, sh, fd) T B F Ix ln so be te wd vl gd) b (P, img, tp, t, sh, fd) A Kx rs re) := by
  have hj1 : nI i + 1 = nI (i + 1) := nI_add i 1
  have hj2 : nI i + 2 = nI (i + 2) := nI_add i 2
  simp only [eL_law_734, eL_law_735, eL_law_736, eL_law_737, eL_law_738, eL_law_739, eL_law_740, eL_law_741, eL_law_742, eL_law_743, eL_law_744, eL_law_745, hj1, vp_in_nI (show i + 1 < L by omega) (show L < 2 ^ 31 by omega), nI_clamp (show i + 1 < 2 ^ 31 by omega), hj2, vp_in_nI (show i + 2 < L by omega) (show L < 2 ^ 31 by omega), nI_clamp (show i + 2 < 2 ^ 31 by omega), co_gn hsc hw, co_gv hsc hw, co_c, co_m, true_and, Option.toList_some, List.cons_append, List.nil_append]
  refine kC_feed (n := 2) _ _ (co_ex hx) hS hi (fun A Kx rs re => ?_)
  simp only [eL_law_748, eL_law_749, eL_law_750, eL_law_751, eL_law_752, eL_law_753, eL_law_754, eL_law_755, eL_law_756, eL_law_757, eL_law_758, eL_law_759, hj1, vp_in_nI (show i + 1 < L by omega) (show L < 2 ^ 31 by omega), nI_clamp (show i + 1 < 2 ^ 31 by omega), hj2, vp_in_nI (show i + 2 < L by omega) (show L < 2 ^ 31 by omega), nI_clamp (show i + 2 < 2 ^ 31 by omega), co_gn hsc hw, co_gv hsc hw, co_c, co_m, true_and, Option.toList_some, List.cons_append, List.nil_append]
  rw [com]
  refine kR_feed (n := 2) _ _ hi (fun T B F Ix ln so be te wd vl gd => ?_)
  rw [← com]
  simp only [eL_law_762, eL_law_765, eL_law_766, Option.toList_some, List.cons_append, List.nil_append, lg_cmp_eq, if_true]
  exact hn _ _ _ _ _ _ _ _ _ _ _ _ _ _ _ _ (kI_feed _ _ hi)
theorem lawC_wipe (hx : exOK θ w b) (hS : exS θ) (hsc : sc < b) (hw : w.1 sc = some (.inl (2, L, xs))) (hi : invS (P, img, tp, t, sh, fd)) (hiL : i + 6 ≤ L) (hL : L ≤ 3072) (hn : ∀ s A Kx rs re T B F Ix ln so be te wd vl gd, invS s → Wp (xL_law θ 12 lim) Q (1147, [some (.ref sc), some (.ref b), some (.ref (b + 37)), some (.int (nI i))], [], cS (mS w (b + 37) s T B F Ix ln so be te wd vl gd) b s A Kx rs re)) : Wp (xL_law θ 12 lim) Q (767, [some (.ref sc), some (.ref b), some (.ref (b + 37)), some (.int (nI i))], [], cS (mS w (b + 37) (P, img, tp, t, sh, fd) T B F Ix ln so be te wd vl gd) b (P, img, tp, t, sh, fd) A Kx rs re) := by
  simp only [eL_law_767, eL_law_768, co_gn hsc hw, co_gv hsc hw, co_c, co_m, true_and, Option.toList_some, List.cons_append, List.nil_append]
  refine kC_wipe (n := 2)  (co_ex hx) hS hi (fun A Kx rs re => ?_)
  simp only [eL_law_771, eL_law_772, co_gn hsc hw, co_gv hsc hw, co_c, co_m, true_and, Option.toList_some, List.cons_append, List.nil_append]
  rw [com]
  refine kR_wipe (n := 2)  hi (fun T B F Ix ln so be te wd vl gd => ?_)
  rw [← com]
  simp only [eL_law_775, eL_law_778, eL_law_779, Option.toList_some, List.cons_append, List.nil_append, lg_cmp_eq, if_true]
  exact hn _ _ _ _ _ _ _ _ _ _ _ _ _ _ _ _ (kI_wipe  hi)
theorem lawC_avenue (hx : exOK θ w b) (hS : exS θ) (hsc : sc < b) (hw : w.1 sc = some (.inl (2, L, xs))) (hi : invS (P, img, tp, t, sh, fd)) (hiL : i + 6 ≤ L) (hL : L ≤ 3072) (hn : ∀ s A Kx rs re T B F Ix ln so be te wd vl gd, invS s → Wp (xL_law θ 12 lim) Q (1147, [some (.ref sc), some (.ref b), some (.ref (b + 37)), some (.int (nI i))], [], cS (mS w (b + 37) s T B F Ix ln so be te wd vl gd) b s A Kx rs re)) : Wp (xL_law θ 12 lim) Q (780, [some (.ref sc), some (.ref b), some (.ref (b + 37)), some (.int (nI i))], [], cS (mS w (b + 37) (P, img, tp, t, sh, fd) T B F Ix ln so be te wd vl gd) b (P, img, tp, t, sh, fd) A Kx rs re) := by
  simp only [eL_law_780, eL_law_781, co_gn hsc hw, co_gv hsc hw, co_c, co_m, true_and, Option.toList_some, List.cons_append, List.nil_append]
  refine kC_avenue (n := 2)  (co_ex hx) hS hi (fun A Kx rs re => ?_)
  simp only [eL_law_784, eL_law_785, co_gn hsc hw, co_gv hsc hw, co_c, co_m, true_and, Option.toList_some, List.cons_append, List.nil_append]
  rw [com]
  refine kR_avenue (n := 2)  hi (fun T B F Ix ln so be te wd vl gd => ?_)
  rw [← com]
  simp only [eL_law_788, eL_law_791, eL_law_792, Option.toList_some, List.cons_append, List.nil_append, lg_cmp_eq, if_true]
  exact hn _ _ _ _ _ _ _ _ _ _ _ _ _ _ _ _ (kI_avenue  hi)
theorem lawC_sheet (hx : exOK θ w b) (hS : exS θ) (hsc : sc < b) (hw : w.1 sc = some (.inl (2, L, xs))) (hi : invS (P, img, tp, t, sh, fd)) (hiL : i + 6 ≤ L) (hL : L ≤ 3072) (hn : ∀ s A Kx rs re T B F Ix ln so be te wd vl gd, invS s → Wp (xL_law θ 12 lim) Q (1147, [some (.ref sc), some (.ref b), some (.ref (b + 37)), some (.int (nI i))], [], cS (mS w (b + 37) s T B F Ix ln so be te wd vl gd) b s A Kx rs re)) : Wp (xL_law θ 12 lim) Q (793, [some (.ref sc), some (.ref b), some (.ref (b + 37)), some (.int (nI i))], [], cS (mS w (b + 37) (P, img, tp, t, sh, fd) T B F Ix ln so be te wd vl gd) b (P, img, tp, t, sh, fd) A Kx rs re) := by
  have hj1 : nI i + 1 = nI (i + 1) := nI_add i 1
  have hj2 : nI i + 2 = nI (i + 2) := nI_add i 2
  have hj3 : nI i + 3 = nI (i + 3) := nI_add i 3
  simp only [eL_law_793, eL_law_794, eL_law_795, eL_law_796, eL_law_797, eL_law_798, eL_law_799, eL_law_800, eL_law_801, eL_law_802, eL_law_803, eL_law_804, eL_law_805, eL_law_806, eL_law_807, eL_law_808, eL_law_809, hj1, vp_in_nI (show i + 1 < L by omega) (show L < 2 ^ 31 by omega), nI_clamp (show i + 1 < 2 ^ 31 by omega), hj2, vp_in_nI (show i + 2 < L by omega) (show L < 2 ^ 31 by omega), nI_clamp (show i + 2 < 2 ^ 31 by omega), hj3, vp_in_nI (show i + 3 < L by omega) (show L < 2 ^ 31 by omega), nI_clamp (show i + 3 < 2 ^ 31 by omega), co_gn hsc hw, co_gv hsc hw, co_c, co_m, true_and, Option.toList_some, List.cons_append, List.nil_append]
  refine kC_sheet (n := 2) _ _ _ (co_ex hx) hS hi (fun A Kx rs re => ?_)
  simp only [eL_law_812, eL_law_813, eL_law_814, eL_law_815, eL_law_816, eL_law_817, eL_law_818, eL_law_819, eL_law_820, eL_law_821, eL_law_822, eL_law_823, eL_law_824, eL_law_825, eL_law_826, eL_law_827, eL_law_828, hj1, vp_in_nI (show i + 1 < L by omega) (show L < 2 ^ 31 by omega), nI_clamp (show i + 1 < 2 ^ 31 by omega), hj2, vp_in_nI (show i + 2 < L by omega) (show L < 2 ^ 31 by omega), nI_clamp (show i + 2 < 2 ^ 31 by omega), hj3, vp_in_nI (show i + 3 < L by omega) (show L < 2 ^ 31 by omega), nI_clamp (show i + 3 < 2 ^ 31 by omega), co_gn hsc hw, co_gv hsc hw, co_c, co_m, true_and, Option.toList_some, List.cons_append, List.nil_append]
  rw [com]
  refine kR_sheet (n := 2) _ _ _ hi (fun T B F Ix ln so be te wd vl gd => ?_)
  rw [← com]
  simp only [eL_law_831, eL_law_834, eL_law_835, Option.toList_some, List.cons_append, List.nil_append, lg_cmp_eq, if_true]
  exact hn _ _ _ _ _ _ _ _ _ _ _ _ _ _ _ _ (kI_sheet _ _ _ hi)
theorem lawC_write (hx : exOK θ w b) (hS : exS θ) (hsc : sc < b) (hw : w.1 sc = some (.inl (2, L, xs))) (hi : invS (P, img, tp, t, sh, fd)) (hiL : i + 6 ≤ L) (hL : L ≤ 3072) (hn : ∀ s A Kx rs re T B F Ix ln so be te wd vl gd, invS s → Wp (xL_law θ 12 lim) Q (1147, [some (.ref sc), some (.ref b), some (.ref (b + 37)), some (.int (nI i))], [], cS (mS w (b + 37) s T B F Ix ln so be te wd vl gd) b s A Kx rs re)) : Wp (xL_law θ 12 lim) Q (836, [some (.ref sc), some (.ref b), some (.ref (b + 37)), some (.int (nI i))], [], cS (mS w (b + 37) (P, img, tp, t, sh, fd) T B F Ix ln so be te wd vl gd) b (P, img, tp, t, sh, fd) A Kx rs re) := by
  have hj1 : nI i + 1 = nI (i + 1) := nI_add i 1
  have hj2 : nI i + 2 = nI (i + 2) := nI_add i 2
  have hj3 : nI i + 3 = nI (i + 3) := nI_add i 3
  have hj4 : nI i + 4 = nI (i + 4) := nI_add i 4
  simp only [eL_law_836, eL_law_837, eL_law_838, eL_law_839, eL_law_840, eL_law_841, eL_law_842, eL_law_843, eL_law_844, eL_law_845, eL_law_846, eL_law_847, eL_law_848, eL_law_849, eL_law_850, eL_law_851, eL_law_852, eL_law_853, eL_law_855, eL_law_856, eL_law_857, eL_law_858, eL_law_859, eL_law_860, eL_law_861, eL_law_862, eL_law_865, eL_law_866, eL_law_867, hj1, vp_in_nI (show i + 1 < L by omega) (show L < 2 ^ 31 by omega), nI_clamp (show i + 1 < 2 ^ 31 by omega), hj2, vp_in_nI (show i + 2 < L by omega) (show L < 2 ^ 31 by omega), nI_clamp (show i + 2 < 2 ^ 31 by omega), hj3, vp_in_nI (show i + 3 < L by omega) (show L < 2 ^ 31 by omega), nI_clamp (show i + 3 < 2 ^ 31 by omega), hj4, vp_in_nI (show i + 4 < L by omega) (show L < 2 ^ 31 by omega), nI_clamp (show i + 4 < 2 ^ 31 by omega), co_gn hsc hw, co_gv hsc hw, co_c, co_m, true_and, Option.toList_some, List.cons_append, List.nil_append]
  refine kC_write (n := 2) _ _ _ (co_ex hx) hS hi (fun A Kx rs re => ?_)
  simp only [eL_law_870, eL_law_871, eL_law_872, eL_law_873, eL_law_874, eL_law_875, eL_law_876, eL_law_877, eL_law_878, eL_law_879, eL_law_880, eL_law_881, eL_law_882, eL_law_883, eL_law_884, eL_law_885, eL_law_886, eL_law_887, eL_law_889, eL_law_890, eL_law_891, eL_law_892, eL_law_893, eL_law_894, eL_law_895, eL_law_896, eL_law_899, eL_law_900, eL_law_901, hj1, vp_in_nI (show i + 1 < L by omega) (show L < 2 ^ 31 by omega), nI_clamp (show i + 1 < 2 ^ 31 by omega), hj2, vp_in_nI (show i + 2 < L by omega) (show L < 2 ^ 31 by omega), nI_clamp (show i + 2 < 2 ^ 31 by omega), hj3, vp_in_nI (show i + 3 < L by omega) (show L < 2 ^ 31 by omega), nI_clamp (show i + 3 < 2 ^ 31 by omega), hj4, vp_in_nI (show i + 4 < L by omega) (show L < 2 ^ 31 by omega), nI_clamp (show i + 4 < 2 ^ 31 by omega), co_gn hsc hw, co_gv hsc hw, co_c, co_m, true_and, Option.toList_some, List.cons_append, List.nil_append]
  rw [com]
  refine kR_write (n := 2) _ _ _ hi (fun T B F Ix ln so be te wd vl gd => ?_)
  rw [← com]
  simp only [eL_law_904, eL_law_905, eL_law_908, eL_law_909, Option.toList_some, List.cons_append, List.nil_append, lg_cmp_eq, if_true]
  exact hn _ _ _ _ _ _ _ _ _ _ _ _ _ _ _ _ (kI_write _ _ _ hi)
theorem lawC_copy (hx : exOK θ w b) (hS : exS θ) (hsc : sc < b) (hw : w.1 sc = some (.inl (2, L, xs))) (hi : invS (P, img, tp, t, sh, fd)) (hiL : i + 6 ≤ L) (hL : L ≤ 3072) (hn : ∀ s A Kx rs re T B F Ix ln so be te wd vl gd, invS s → Wp (xL_law θ 12 lim) Q (1147, [some (.ref sc), some (.ref b), some (.ref (b + 37)), some (.int (nI i))], [], cS (mS w (b + 37) s T B F Ix ln so be te wd vl gd) b s A Kx rs re)) : Wp (xL_law θ 12 lim) Q (910, [some (.ref sc), some (.ref b), some (.ref (b + 37)), some (.int (nI i))], [], cS (mS w (b + 37) (P, img, tp, t, sh, fd) T B F Ix ln so be te wd vl gd) b (P, img, tp, t, sh, fd) A Kx rs re) := by
  have hj1 : nI i + 1 = nI (i + 1) := nI_add i 1
  have hj2 : nI i + 2 = nI (i + 2) := nI_add i 2
  have hj3 : nI i + 3 = nI (i + 3) := nI_add i 3
  have hj4 : nI i + 4 = nI (i + 4) := nI_add i 4
  have hj5 : nI i + 5 = nI (i + 5) := nI_add i 5
  simp only [eL_law_910, eL_law_911, eL_law_912, eL_law_913, eL_law_914, eL_law_915, eL_law_916, eL_law_917, eL_law_918, eL_law_919, eL_law_920, eL_law_921, eL_law_922, eL_law_923, eL_law_924, eL_law_925, eL_law_926, eL_law_927, eL_law_928, eL_law_929, eL_law_930, eL_law_931, eL_law_932, eL_law_933, eL_law_934, eL_law_935, eL_law_936, hj1, vp_in_nI (show i + 1 < L by omega) (show L < 2 ^ 31 by omega), nI_clamp (show i + 1 < 2 ^ 31 by omega), hj2, vp_in_nI (show i + 2 < L by omega) (show L < 2 ^ 31 by omega), nI_clamp (show i + 2 < 2 ^ 31 by omega), hj3, vp_in_nI (show i + 3 < L by omega) (show L < 2 ^ 31 by omega), nI_clamp (show i + 3 < 2 ^ 31 by omega), hj4, vp_in_nI (show i + 4 < L by omega) (show L < 2 ^ 31 by omega), nI_clamp (show i + 4 < 2 ^ 31 by omega), hj5, vp_in_nI (show i + 5 < L by omega) (show L < 2 ^ 31 by omega), nI_clamp (show i + 5 < 2 ^ 31 by omega), co_gn hsc hw, co_gv hsc hw, co_c, co_m, true_and, Option.toList_some, List.cons_append, List.nil_append]
  refine kC_copy (n := 2) _ _ _ _ _ (co_ex hx) hS hi (fun A Kx rs re => ?_)
  simp only [eL_law_939, eL_law_940, eL_law_941, eL_law_942, eL_law_943, eL_law_944, eL_law_945, eL_law_946, eL_law_947, eL_law_948, eL_law_949, eL_law_950, eL_law_951, eL_law_952, eL_law_953, eL_law_954, eL_law_955, eL_law_956, eL_law_957, eL_law_958, eL_law_959, eL_law_960, eL_law_961, eL_law_962, eL_law_963, eL_law_964, eL_law_965, hj1, vp_in_nI (show i + 1 < L by omega) (show L < 2 ^ 31 by omega), nI_clamp (show i + 1 < 2 ^ 31 by omega), hj2, vp_in_nI (show i + 2 < L by omega) (show L < 2 ^ 31 by omega), nI_clamp (show i + 2 < 2 ^ 31 by omega), hj3, vp_in_nI (show i + 3 < L by omega) (show L < 2 ^ 31 by omega), nI_clamp (show i + 3 < 2 ^ 31 by omega), hj4, vp_in_nI (show i + 4 < L by omega) (show L < 2 ^ 31 by omega), nI_clamp (show i + 4 < 2 ^ 31 by omega), hj5, vp_in_nI (show i + 5 < L by omega) (show L < 2 ^ 31 by omega), nI_clamp (show i + 5 < 2 ^ 31 by omega), co_gn hsc hw, co_gv hsc hw, co_c, co_m, true_and, Option.toList_some, List.cons_append, List.nil_append]
  rw [com]
  refine kR_copy (n := 2) _ _ _ _ _ hi (fun T B F Ix ln so be te wd vl gd => ?_)
  rw [← com]
  simp only [eL_law_968, eL_law_971, eL_law_972, Option.toList_some, List.cons_append, List.nil_append, lg_cmp_eq, if_true]
  exact hn _ _ _ _ _ _ _ _ _ _ _ _ _ _ _ _ (kI_copy _ _ _ _ _ hi)
theorem lawC_lays (hx : exOK θ w b) (hS : exS θ) (hsc : sc < b) (hw : w.1 sc = some (.inl (2, L, xs))) (hi : invS (P, img, tp, t, sh, fd)) (hiL : i + 6 ≤ L) (hL : L ≤ 3072) (hn : ∀ s A Kx rs re T B F Ix ln so be te wd vl gd, invS s → Wp (xL_law θ 12 lim) Q (1147, [some (.ref sc), some (.ref b), some (.ref (b + 37)), some (.int (nI i))], [], cS (mS w (b + 37) s T B F Ix ln so be te wd vl gd) b s A Kx rs re)) : Wp (xL_law θ 12 lim) Q (973, [some (.ref sc), some (.ref b), some (.ref (b + 37)), some (.int (nI i))], [], cS (mS w (b + 37) (P, img, tp, t, sh, fd) T B F Ix ln so be te wd vl gd) b (P, img, tp, t, sh, fd) A Kx rs re) := by
  have hj1 : nI i + 1 = nI (i + 1) := nI_add i 1
  simp only [eL_law_973, eL_law_974, eL_law_975, eL_law_976, eL_law_977, eL_law_978, eL_law_979, hj1, vp_in_nI (show i + 1 < L by omega) (show L < 2 ^ 31 by omega), nI_clamp (show i + 1 < 2 ^ 31 by omega), co_gn hsc hw, co_gv hsc hw, co_c, co_m, true_and, Option.toList_some, List.cons_append, List.nil_append]
  refine kC_lays (n := 2) _ (co_ex hx) hS hi (fun A Kx rs re => ?_)
  simp only [eL_law_982, eL_law_983, eL_law_984, eL_law_985, eL_law_986, eL_law_987, eL_law_988, hj1, vp_in_nI (show i + 1 < L by omega) (show L < 2 ^ 31 by omega), nI_clamp (show i + 1 < 2 ^ 31 by omega), co_gn hsc hw, co_gv hsc hw, co_c, co_m, true_and, Option.toList_some, List.cons_append, List.nil_append]
  rw [com]
  refine kR_lays (n := 2) _ hi (fun T B F Ix ln so be te wd vl gd => ?_)
  rw [← com]
  simp only [eL_law_991, eL_law_994, eL_law_995, Option.toList_some, List.cons_append, List.nil_append, lg_cmp_eq, if_true]
  exact hn _ _ _ _ _ _ _ _ _ _ _ _ _ _ _ _ (kI_lays _ hi)
theorem lawC_book (hx : exOK θ w b) (hS : exS θ) (hsc : sc < b) (hw : w.1 sc = some (.inl (2, L, xs))) (hi : invS (P, img, tp, t, sh, fd)) (hiL : i + 6 ≤ L) (hL : L ≤ 3072) (hn : ∀ s A Kx rs re T B F Ix ln so be te wd vl gd, invS s → Wp (xL_law θ 12 lim) Q (1147, [some (.ref sc), some (.ref b), some (.ref (b + 37)), some (.int (nI i))], [], cS (mS w (b + 37) s T B F Ix ln so be te wd vl gd) b s A Kx rs re)) : Wp (xL_law θ 12 lim) Q (996, [some (.ref sc), some (.ref b), some (.ref (b + 37)), some (.int (nI i))], [], cS (mS w (b + 37) (P, img, tp, t, sh, fd) T B F Ix ln so be te wd vl gd) b (P, img, tp, t, sh, fd) A Kx rs re) := by
  have hj1 : nI i + 1 = nI (i + 1) := nI_add i 1
  have hj2 : nI i + 2 = nI (i + 2) := nI_add i 2
  simp only [eL_law_996, eL_law_997, eL_law_998, eL_law_999, eL_law_1000, eL_law_1001, eL_law_1002, eL_law_1003, eL_law_1004, eL_law_1005, eL_law_1006, eL_law_1007, hj1, vp_in_nI (show i + 1 < L by omega) (show L < 2 ^ 31 by omega), nI_clamp (show i + 1 < 2 ^ 31 by omega), hj2, vp_in_nI (show i + 2 < L by omega) (show L < 2 ^ 31 by omega), nI_clamp (show i + 2 < 2 ^ 31 by omega), co_gn hsc hw, co_gv hsc hw, co_c, co_m, true_and, Option.toList_some, List.cons_append, List.nil_append]
  refine kC_book (n := 2) _ _ (co_ex hx) hS hi (fun A Kx rs re => ?_)
  simp only [eL_law_1010, eL_law_1011, eL_law_1012, eL_law_1013, eL_law_1014, eL_law_1015, eL_law_1016, eL_law_1017, eL_law_1018, eL_law_1019, eL_law_1020, eL_law_1021, hj1, vp_in_nI (show i + 1 < L by omega) (show L < 2 ^ 31 by omega), nI_clamp (show i + 1 < 2 ^ 31 by omega), hj2, vp_in_nI (show i + 2 < L by omega) (show L < 2 ^ 31 by omega), nI_clamp (show i + 2 < 2 ^ 31 by omega), co_gn hsc hw, co_gv hsc hw, co_c, co_m, true_and, Option.toList_some, List.cons_append, List.nil_append]
  rw [com]
  refine kR_book (n := 2) _ _ hi (fun T B F Ix ln so be te wd vl gd => ?_)
  rw [← com]
  simp only [eL_law_1024, eL_law_1027, eL_law_1028, Option.toList_some, List.cons_append, List.nil_append, lg_cmp_eq, if_true]
  exact hn _ _ _ _ _ _ _ _ _ _ _ _ _ _ _ _ (kI_book _ _ hi)
theorem lawC_read (hx : exOK θ w b) (hS : exS θ) (hsc : sc < b) (hw : w.1 sc = some (.inl (2, L, xs))) (hi : invS (P, img, tp, t, sh, fd)) (hiL : i + 6 ≤ L) (hL : L ≤ 3072) (hn : ∀ s A Kx rs re T B F Ix ln so be te wd vl gd, invS s → Wp (xL_law θ 12 lim) Q (1147, [some (.ref sc), some (.ref b), some (.ref (b + 37)), some (.int (nI i))], [], cS (mS w (b + 37) s T B F Ix ln so be te wd vl gd) b s A Kx rs re)) : Wp (xL_law θ 12 lim) Q (1029, [some (.ref sc), some (.ref b), some (.ref (b + 37)), some (.int (nI i))], [], cS (mS w (b + 37) (P, img, tp, t, sh, fd) T B F Ix ln so be te wd vl gd) b (P, img, tp, t, sh, fd) A Kx rs re) := by
  have hj1 : nI i + 1 = nI (i + 1) := nI_add i 1
  have hj2 : nI i + 2 = nI (i + 2) := nI_add i 2
  simp only [eL_law_1029, eL_law_1030, eL_law_1031, eL_law_1032, eL_law_1033, eL_law_1034, eL_law_1035, eL_law_1036, eL_law_1037, eL_law_1038, eL_law_1039, eL_law_1040, hj1, vp_in_nI (show i + 1 < L by omega) (show L < 2 ^ 31 by omega), nI_clamp (show i + 1 < 2 ^ 31 by omega), hj2, vp_in_nI (show i + 2 < L by omega) (show L < 2 ^ 31 by omega), nI_clamp (show i + 2 < 2 ^ 31 by omega), co_gn hsc hw, co_gv hsc hw, co_c, co_m, true_and, Option.toList_some, List.cons_append, List.nil_append]
  refine kC_read (n := 2) _ _ (co_ex hx) hS hi (fun A Kx rs re => ?_)
  simp only [eL_law_1043, eL_law_1044, eL_law_1045, eL_law_1046, eL_law_1047, eL_law_1048, eL_law_1049, eL_law_1050, eL_law_1051, eL_law_1052, eL_law_1053, eL_law_1054, hj1, vp_in_nI (show i + 1 < L by omega) (show L < 2 ^ 31 by omega), nI_clamp (show i + 1 < 2 ^ 31 by omega), hj2, vp_in_nI (show i + 2 < L by omega) (show L < 2 ^ 31 by omega), nI_clamp (show i + 2 < 2 ^ 31 by omega), co_gn hsc hw, co_gv hsc hw, co_c, co_m, true_and, Option.toList_some, List.cons_append, List.nil_append]
  rw [com]
  refine kR_read (n := 2) _ _ hi (fun T B F Ix ln so be te wd vl gd => ?_)
  rw [← com]
  simp only [eL_law_1057, eL_law_1060, eL_law_1061, Option.toList_some, List.cons_append, List.nil_append, lg_cmp_eq, if_true]
  exact hn _ _ _ _ _ _ _ _ _ _ _ _ _ _ _ _ (kI_read _ _ hi)
theorem lawC_image (hx : exOK θ w b) (hS : exS θ) (hsc : sc < b) (hw : w.1 sc = some (.inl (2, L, xs))) (hi : invS (P, img, tp, t, sh, fd)) (hiL : i + 6 ≤ L) (hL : L ≤ 3072) (hn : ∀ s A Kx rs re T B F Ix ln so be te wd vl gd, invS s → Wp (xL_law θ 12 lim) Q (1147, [some (.ref sc), some (.ref b), some (.ref (b + 37)), some (.int (nI i))], [], cS (mS w (b + 37) s T B F Ix ln so be te wd vl gd) b s A Kx rs re)) : Wp (xL_law θ 12 lim) Q (1062, [some (.ref sc), some (.ref b), some (.ref (b + 37)), some (.int (nI i))], [], cS (mS w (b + 37) (P, img, tp, t, sh, fd) T B F Ix ln so be te wd vl gd) b (P, img, tp, t, sh, fd) A Kx rs re) := by
  simp only [eL_law_1062, eL_law_1063, co_gn hsc hw, co_gv hsc hw, co_c, co_m, true_and, Option.toList_some, List.cons_append, List.nil_append]
  refine kC_image (n := 2)  (co_ex hx) hS hi (fun A Kx rs re => ?_)
  simp only [eL_law_1066, eL_law_1067, co_gn hsc hw, co_gv hsc hw, co_c, co_m, true_and, Option.toList_some, List.cons_append, List.nil_append]
  rw [com]
  refine kR_image (n := 2)  hi (fun T B F Ix ln so be te wd vl gd => ?_)
  rw [← com]
  simp only [eL_law_1070, eL_law_1073, eL_law_1074, Option.toList_some, List.cons_append, List.nil_append, lg_cmp_eq, if_true]
  exact hn _ _ _ _ _ _ _ _ _ _ _ _ _ _ _ _ (kI_image  hi)
theorem lawC_undo (hx : exOK θ w b) (hS : exS θ) (hsc : sc < b) (hw : w.1 sc = some (.inl (2, L, xs))) (hi : invS (P, img, tp, t, sh, fd)) (hiL : i + 6 ≤ L) (hL : L ≤ 3072) (hn : ∀ s A Kx rs re T B F Ix ln so be te wd vl gd, invS s → Wp (xL_law θ 12 lim) Q (1147, [some (.ref sc), some (.ref b), some (.ref (b + 37)), some (.int (nI i))], [], cS (mS w (b + 37) s T B F Ix ln so be te wd vl gd) b s A Kx rs re)) : Wp (xL_law θ 12 lim) Q (1075, [some (.ref sc), some (.ref b), some (.ref (b + 37)), some (.int (nI i))], [], cS (mS w (b + 37) (P, img, tp, t, sh, fd) T B F Ix ln so be te wd vl gd) b (P, img, tp, t, sh, fd) A Kx rs re) := by
  simp only [eL_law_1075, eL_law_1076, co_gn hsc hw, co_gv hsc hw, co_c, co_m, true_and, Option.toList_some, List.cons_append, List.nil_append]
  refine kC_undo (n := 2)  (co_ex hx) hS hi (fun A Kx rs re => ?_)
  simp only [eL_law_1079, eL_law_1080, co_gn hsc hw, co_gv hsc hw, co_c, co_m, true_and, Option.toList_some, List.cons_append, List.nil_append]
  rw [com]
  refine kR_undo (n := 2)  hi (fun T B F Ix ln so be te wd vl gd => ?_)
  rw [← com]
  simp only [eL_law_1083, eL_law_1086, eL_law_1087, Option.toList_some, List.cons_append, List.nil_append, lg_cmp_eq, if_true]
  exact hn _ _ _ _ _ _ _ _ _ _ _ _ _ _ _ _ (kI_undo  hi)
theorem lawC_tear (hx : exOK θ w b) (hS : exS θ) (hsc : sc < b) (hw : w.1 sc = some (.inl (2, L, xs))) (hi : invS (P, img, tp, t, sh, fd)) (hiL : i + 6 ≤ L) (hL : L ≤ 3072) (hn : ∀ s A Kx rs re T B F Ix ln so be te wd vl gd, invS s → Wp (xL_law θ 12 lim) Q (1147, [some (.ref sc), some (.ref b), some (.ref (b + 37)), some (.int (nI i))], [], cS (mS w (b + 37) s T B F Ix ln so be te wd vl gd) b s A Kx rs re)) : Wp (xL_law θ 12 lim) Q (1088, [some (.ref sc), some (.ref b), some (.ref (b + 37)), some (.int (nI i))], [], cS (mS w (b + 37) (P, img, tp, t, sh, fd) T B F Ix ln so be te wd vl gd) b (P, img, tp, t, sh, fd) A Kx rs re) := by
  simp only [eL_law_1088, eL_law_1089, co_gn hsc hw, co_gv hsc hw, co_c, co_m, true_and, Option.toList_some, List.cons_append, List.nil_append]
  refine kC_tear (n := 2)  (co_ex hx) hS hi (fun A Kx rs re => ?_)
  simp only [eL_law_1092, eL_law_1093, co_gn hsc hw, co_gv hsc hw, co_c, co_m, true_and, Option.toList_some, List.cons_append, List.nil_append]
  rw [com]
  refine kR_tear (n := 2)  hi (fun T B F Ix ln so be te wd vl gd => ?_)
  rw [← com]
  simp only [eL_law_1096, eL_law_1099, eL_law_1100, Option.toList_some, List.cons_append, List.nil_append, lg_cmp_eq, if_true]
  exact hn _ _ _ _ _ _ _ _ _ _ _ _ _ _ _ _ (kI_tear  hi)
theorem lawC_count (hx : exOK θ w b) (hS : exS θ) (hsc : sc < b) (hw : w.1 sc = some (.inl (2, L, xs))) (hi : invS (P, img, tp, t, sh, fd)) (hiL : i + 6 ≤ L) (hL : L ≤ 3072) (hn : ∀ s A Kx rs re T B F Ix ln so be te wd vl gd, invS s → Wp (xL_law θ 12 lim) Q (1147, [some (.ref sc), some (.ref b), some (.ref (b + 37)), some (.int (nI i))], [], cS (mS w (b + 37) s T B F Ix ln so be te wd vl gd) b s A Kx rs re)) : Wp (xL_law θ 12 lim) Q (1101, [some (.ref sc), some (.ref b), some (.ref (b + 37)), some (.int (nI i))], [], cS (mS w (b + 37) (P, img, tp, t, sh, fd) T B F Ix ln so be te wd vl gd) b (P, img, tp, t, sh, fd) A Kx rs re) := by
  have hj1 : nI i + 1 = nI (i + 1) := nI_add i 1
  simp only [eL_law_1101, eL_law_1102, eL_law_1103, eL_law_1104, eL_law_1105, eL_law_1106, eL_law_1107, hj1, vp_in_nI (show i + 1 < L by omega) (show L < 2 ^ 31 by omega), nI_clamp (show i + 1 < 2 ^ 31 by omega), co_gn hsc hw, co_gv hsc hw, co_c, co_m, true_and, Option.toList_some, List.cons_append, List.nil_append]
  refine kC_count (n := 2) _ (co_ex hx) hS hi (fun A Kx rs re => ?_)
  simp only [eL_law_1110, eL_law_1111, eL_law_1112, eL_law_1113, eL_law_1114, eL_law_1115, eL_law_1116, hj1, vp_in_nI (show i + 1 < L by omega) (show L < 2 ^ 31 by omega), nI_clamp (show i + 1 < 2 ^ 31 by omega), co_gn hsc hw, co_gv hsc hw, co_c, co_m, true_and, Option.toList_some, List.cons_append, List.nil_append]
  rw [com]
  refine kR_count (n := 2) _ hi (fun T B F Ix ln so be te wd vl gd => ?_)
  rw [← com]
  simp only [eL_law_1119, eL_law_1122, eL_law_1123, Option.toList_some, List.cons_append, List.nil_append, lg_cmp_eq, if_true]
  exact hn _ _ _ _ _ _ _ _ _ _ _ _ _ _ _ _ (kI_count _ hi)
theorem lawC_status (hx : exOK θ w b) (hS : exS θ) (hsc : sc < b) (hw : w.1 sc = some (.inl (2, L, xs))) (hi : invS (P, img, tp, t, sh, fd)) (hiL : i + 6 ≤ L) (hL : L ≤ 3072) (hn : ∀ s A Kx rs re T B F Ix ln so be te wd vl gd, invS s → Wp (xL_law θ 12 lim) Q (1147, [some (.ref sc), some (.ref b), some (.ref (b + 37)), some (.int (nI i))], [], cS (mS w (b + 37) s T B F Ix ln so be te wd vl gd) b s A Kx rs re)) : Wp (xL_law θ 12 lim) Q (1124, [some (.ref sc), some (.ref b), some (.ref (b + 37)), some (.int (nI i))], [], cS (mS w (b + 37) (P, img, tp, t, sh, fd) T B F Ix ln so be te wd vl gd) b (P, img, tp, t, sh, fd) A Kx rs re) := by
  have hj1 : nI i + 1 = nI (i + 1) := nI_add i 1
  simp only [eL_law_1124, eL_law_1125, eL_law_1126, eL_law_1127, eL_law_1128, eL_law_1129, eL_law_1130, hj1, vp_in_nI (show i + 1 < L by omega) (show L < 2 ^ 31 by omega), nI_clamp (show i + 1 < 2 ^ 31 by omega), co_gn hsc hw, co_gv hsc hw, co_c, co_m, true_and, Option.toList_some, List.cons_append, List.nil_append]
  refine kC_status (n := 2) _ (co_ex hx) hS hi (fun A Kx rs re => ?_)
  simp only [eL_law_1133, eL_law_1134, eL_law_1135, eL_law_1136, eL_law_1137, eL_law_1138, eL_law_1139, hj1, vp_in_nI (show i + 1 < L by omega) (show L < 2 ^ 31 by omega), nI_clamp (show i + 1 < 2 ^ 31 by omega), co_gn hsc hw, co_gv hsc hw, co_c, co_m, true_and, Option.toList_some, List.cons_append, List.nil_append]
  rw [com]
  refine kR_status (n := 2) _ hi (fun T B F Ix ln so be te wd vl gd => ?_)
  rw [← com]
  simp only [eL_law_1142, eL_law_1145, eL_law_1146, Option.toList_some, List.cons_append, List.nil_append, lg_cmp_eq, if_true]
  exact hn _ _ _ _ _ _ _ _ _ _ _ _ _ _ _ _ (kI_status _ hi)
end T93
