theorem lkC_14_9 : rCal.lookup (14, 9) = some (2, 37) := by decide +kernel
theorem lkC_14_12 : rCal.lookup (14, 12) = some (2, 83) := by decide +kernel
theorem lkC_14_13 : rCal.lookup (14, 13) = some (0, 38) := by decide +kernel
theorem lkC_14_17 : rCal.lookup (14, 17) = some (0, 84) := by decide +kernel
theorem lkC_14_18 : rCal.lookup (14, 18) = some (0, 41) := by decide +kernel
theorem lkC_14_22 : rCal.lookup (14, 22) = some (0, 88) := by decide +kernel
theorem lkC_14_23 : rCal.lookup (14, 23) = some (0, 42) := by decide +kernel
theorem lkC_14_26 : rCal.lookup (14, 26) = some (0, 92) := by decide +kernel
theorem lkC_14_27 : rCal.lookup (14, 27) = some (0, 44) := by decide +kernel
theorem lkC_14_31 : rCal.lookup (14, 31) = some (0, 100) := by decide +kernel
theorem lkC_14_32 : rCal.lookup (14, 32) = some (0, 45) := by decide +kernel
theorem lkC_14_35 : rCal.lookup (14, 35) = some (0, 102) := by decide +kernel
theorem lkC_14_36 : rCal.lookup (14, 36) = some (0, 46) := by decide +kernel
theorem lkC_14_39 : rCal.lookup (14, 39) = some (0, 103) := by decide +kernel
theorem lkC_14_40 : rCal.lookup (14, 40) = some (0, 47) := by decide +kernel
theorem lkC_14_43 : rCal.lookup (14, 43) = some (0, 104) := by decide +kernel
theorem lkC_14_44 : rCal.lookup (14, 44) = some (0, 48) := by decide +kernel
theorem lkC_14_47 : rCal.lookup (14, 47) = some (0, 105) := by decide +kernel
theorem lkC_14_48 : rCal.lookup (14, 48) = some (0, 49) := by decide +kernel
theorem lkC_14_51 : rCal.lookup (14, 51) = some (0, 107) := by decide +kernel
theorem lkC_14_52 : rCal.lookup (14, 52) = some (0, 50) := by decide +kernel
theorem lkC_14_55 : rCal.lookup (14, 55) = some (0, 118) := by decide +kernel
theorem lkC_14_56 : rCal.lookup (14, 56) = some (0, 51) := by decide +kernel
theorem lkC_14_59 : rCal.lookup (14, 59) = some (0, 120) := by decide +kernel
theorem lkC_14_60 : rCal.lookup (14, 60) = some (0, 53) := by decide +kernel
theorem lkC_14_63 : rCal.lookup (14, 63) = some (0, 122) := by decide +kernel
theorem lkC_14_64 : rCal.lookup (14, 64) = some (0, 54) := by decide +kernel
theorem lkC_14_67 : rCal.lookup (14, 67) = some (0, 124) := by decide +kernel
theorem lkC_14_68 : rCal.lookup (14, 68) = some (0, 55) := by decide +kernel
theorem lkC_14_71 : rCal.lookup (14, 71) = some (0, 125) := by decide +kernel
theorem lkC_14_72 : rCal.lookup (14, 72) = some (0, 56) := by decide +kernel
theorem lkC_14_75 : rCal.lookup (14, 75) = some (0, 126) := by decide +kernel
theorem lkC_14_76 : rCal.lookup (14, 76) = some (0, 58) := by decide +kernel
theorem lkC_14_79 : rCal.lookup (14, 79) = some (0, 128) := by decide +kernel
theorem lkC_14_80 : rCal.lookup (14, 80) = some (0, 59) := by decide +kernel
theorem lkC_14_83 : rCal.lookup (14, 83) = some (0, 129) := by decide +kernel
theorem lkC_14_84 : rCal.lookup (14, 84) = some (0, 61) := by decide +kernel
theorem lkC_14_87 : rCal.lookup (14, 87) = some (0, 131) := by decide +kernel
theorem lkC_14_88 : rCal.lookup (14, 88) = some (0, 63) := by decide +kernel
theorem lkC_14_91 : rCal.lookup (14, 91) = some (0, 133) := by decide +kernel
theorem lkC_14_92 : rCal.lookup (14, 92) = some (0, 64) := by decide +kernel
theorem lkC_14_96 : rCal.lookup (14, 96) = some (0, 134) := by decide +kernel
theorem lkC_14_97 : rCal.lookup (14, 97) = some (0, 65) := by decide +kernel
theorem lkC_14_100 : rCal.lookup (14, 100) = some (0, 135) := by decide +kernel
theorem lkC_14_101 : rCal.lookup (14, 101) = some (0, 66) := by decide +kernel
theorem lkC_14_104 : rCal.lookup (14, 104) = some (0, 136) := by decide +kernel
theorem lkC_14_105 : rCal.lookup (14, 105) = some (0, 67) := by decide +kernel
theorem lkC_14_108 : rCal.lookup (14, 108) = some (0, 137) := by decide +kernel
theorem lkC_14_109 : rCal.lookup (14, 109) = some (0, 68) := by decide +kernel
theorem lkC_14_112 : rCal.lookup (14, 112) = some (0, 149) := by decide +kernel
theorem lkC_14_115 : rCal.lookup (14, 115) = some (0, 70) := by decide +kernel
theorem lkC_14_119 : rCal.lookup (14, 119) = some (0, 151) := by decide +kernel
theorem lkC_14_120 : rCal.lookup (14, 120) = some (0, 72) := by decide +kernel
theorem lkC_14_124 : rCal.lookup (14, 124) = some (0, 153) := by decide +kernel
theorem lkC_14_125 : rCal.lookup (14, 125) = some (0, 73) := by decide +kernel
theorem lkC_14_128 : rCal.lookup (14, 128) = some (0, 155) := by decide +kernel
theorem lkC_14_129 : rCal.lookup (14, 129) = some (0, 74) := by decide +kernel
theorem lkC_14_132 : rCal.lookup (14, 132) = some (0, 157) := by decide +kernel
theorem lkC_14_133 : rCal.lookup (14, 133) = some (0, 76) := by decide +kernel
theorem lkC_14_136 : rCal.lookup (14, 136) = some (0, 158) := by decide +kernel
theorem lkC_14_137 : rCal.lookup (14, 137) = some (0, 78) := by decide +kernel
theorem lkC_14_140 : rCal.lookup (14, 140) = some (0, 160) := by decide +kernel
theorem lkC_14_141 : rCal.lookup (14, 141) = some (0, 79) := by decide +kernel
theorem lkC_14_144 : rCal.lookup (14, 144) = some (0, 161) := by decide +kernel
theorem lkC_14_145 : rCal.lookup (14, 145) = some (0, 80) := by decide +kernel
theorem lkC_14_148 : rCal.lookup (14, 148) = some (0, 162) := by decide +kernel
theorem lkC_14_149 : rCal.lookup (14, 149) = some (0, 81) := by decide +kernel
theorem lkC_14_152 : rCal.lookup (14, 152) = some (0, 163) := by decide +kernel
theorem lkC_14_153 : rCal.lookup (14, 153) = some (0, 82) := by decide +kernel
theorem lkC_14_156 : rCal.lookup (14, 156) = some (0, 164) := by decide +kernel
def xL_law (θ : (Nat → Value) × (Nat → Nat)) (n : Nat) (lim : Nat × Nat) : rX := (θ, sg θ n, n, 14, cL_law, (some .boolean), false, lim)
theorem hxL_law (θ : (Nat → Value) × (Nat → Nat)) (n : Nat) (lim : Nat × Nat) : xL_law θ n lim = (θ, sg θ n, n, 14, cL_law, (some .boolean), false, lim) := rfl
section EQL
variable {θ : (Nat → Value) × (Nat → Nat)} {n : Nat} {lim : Nat × Nat} {Q : rQ} {lo : List (Option Value)} {st : List Value} {w : rW} {x y z : Int32} {u v : Int64} {a b : Nat} {o0 o1 o2 o3 o4 o5 o6 o7 : Option Value}
theorem eL_law_0  : Wp (xL_law θ n lim) Q (0, lo, st, w) ↔ (w.2.1 + 1 ≤ lim.1 ∧ w.2.2 + 7 ≤ lim.2 ∧ Wp (xL_law θ n lim) Q (3, lo, .ref w.2.1 :: st, rNew w (rO 4 [.null, .null, .null, .int 0, .null, .null, .null]) 7)) := tt_new (hxL_law θ n lim) dL_law_0 (by decide +kernel : rCls.lookup (14, 7) = some (4, 7, [.null, .null, .null, .int 0, .null, .null, .null]))
theorem eL_law_3  : Wp (xL_law θ n lim) Q (3, lo, .ref a :: st, w) ↔ Wp (xL_law θ n lim) Q (4, lo, .ref a :: .ref a :: st, w) := tt_dup (hxL_law θ n lim) dL_law_3 rfl
theorem eL_law_4 {z0 : Nat} {z1 : Nat} : Wp (xL_law θ n lim) Q (4, lo, [.ref z0, .ref z1], w) ↔ (((36 = 0 ∧ 505 = 0) ∨ (w.2.1 + 36 ≤ lim.1 ∧ w.2.2 + 505 ≤ lim.2)) ∧ rIs w z0 4 ∧ sg θ n 37 [.ref z0] w (fun v w' => Wp (xL_law θ n lim) Q (7, lo, v.toList ++ [.ref z1], w'))) := tt_callI (As := []) (r := [.ref z1]) (hxL_law θ n lim) dL_law_4 (Or.inl rfl) lkC_14_9 mX5_init rfl rfl (Nat.le_of_ble_eq_true rfl) rfl
theorem eL_law_7  : Wp (xL_law θ n lim) Q (7, [some (.ref b), o1, o2, o3], .ref a :: st, w) ↔ Wp (xL_law θ n lim) Q (8, [some (.ref b), some (.ref a), o2, o3], st, w) := tt_astore_n (hxL_law θ n lim) dL_law_7 (Nat.le_of_ble_eq_true rfl) rfl rfl
theorem eL_law_8  : Wp (xL_law θ n lim) Q (8, lo, st, w) ↔ (w.2.1 + 1 ≤ lim.1 ∧ w.2.2 + 19 ≤ lim.2 ∧ Wp (xL_law θ n lim) Q (11, lo, .ref w.2.1 :: st, rNew w (rO 5 [.null, .null, .null, .null, .null, .int 0, .int 0, .int 0, .int 0, .long 0, .int 0, .int 0, .null, .null, .null, .null, .null, .null, .int 0]) 19)) := tt_new (hxL_law θ n lim) dL_law_8 (by decide +kernel : rCls.lookup (14, 10) = some (5, 19, [.null, .null, .null, .null, .null, .int 0, .int 0, .int 0, .int 0, .long 0, .int 0, .int 0, .null, .null, .null, .null, .null, .null, .int 0]))
theorem eL_law_11  : Wp (xL_law θ n lim) Q (11, lo, .ref a :: st, w) ↔ Wp (xL_law θ n lim) Q (12, lo, .ref a :: .ref a :: st, w) := tt_dup (hxL_law θ n lim) dL_law_11 rfl
theorem eL_law_12 {z0 : Nat} {z1 : Nat} : Wp (xL_law θ n lim) Q (12, lo, [.ref z0, .ref z1], w) ↔ (((11 = 0 ∧ 630 = 0) ∨ (w.2.1 + 11 ≤ lim.1 ∧ w.2.2 + 630 ≤ lim.2)) ∧ rIs w z0 5 ∧ sg θ n 83 [.ref z0] w (fun v w' => Wp (xL_law θ n lim) Q (15, lo, v.toList ++ [.ref z1], w'))) := tt_callI (As := []) (r := [.ref z1]) (hxL_law θ n lim) dL_law_12 (Or.inl rfl) lkC_14_12 mX6_init rfl rfl (Nat.le_of_ble_eq_true rfl) rfl
theorem eL_law_15  : Wp (xL_law θ n lim) Q (15, [o0, some (.ref b), o2, o3], .ref a :: st, w) ↔ Wp (xL_law θ n lim) Q (16, [o0, some (.ref b), some (.ref a), o3], st, w) := tt_astore_n (hxL_law θ n lim) dL_law_15 (Nat.le_of_ble_eq_true rfl) rfl rfl
theorem eL_law_16  : Wp (xL_law θ n lim) Q (16, lo, st, w) ↔ Wp (xL_law θ n lim) Q (17, lo, .int 0 :: st, w) := tt_iconst (hxL_law θ n lim) dL_law_16 (by decide)
theorem eL_law_17  : Wp (xL_law θ n lim) Q (17, [o0, o1, some (.ref b), o3], .int x :: st, w) ↔ Wp (xL_law θ n lim) Q (18, [o0, o1, some (.ref b), some (.int x)], st, w) := tt_istore_n (hxL_law θ n lim) dL_law_17 (Nat.le_of_ble_eq_true rfl) rfl rfl
theorem eL_law_18  : Wp (xL_law θ n lim) Q (18, [o0, o1, o2, some (.int x)], st, w) ↔ Wp (xL_law θ n lim) Q (19, [o0, o1, o2, some (.int x)], .int x :: st, w) := tt_iload_n (hxL_law θ n lim) dL_law_18 rfl
theorem eL_law_19  : Wp (xL_law θ n lim) Q (19, [some (.ref a), o1, o2, o3], st, w) ↔ Wp (xL_law θ n lim) Q (20, [some (.ref a), o1, o2, o3], .ref a :: st, w) := tt_aload_n (hxL_law θ n lim) dL_law_19 rfl
theorem eL_law_20  : Wp (xL_law θ n lim) Q (20, lo, .ref a :: st, w) ↔ (rLen w a).elim False (fun k => Wp (xL_law θ n lim) Q (21, lo, .int (Int32.ofNat k) :: st, w)) := tt_alen (hxL_law θ n lim) dL_law_20
theorem eL_law_21  : Wp (xL_law θ n lim) Q (21, lo, st, w) ↔ Wp (xL_law θ n lim) Q (23, lo, .int 6 :: st, w) := tt_bipush (hxL_law θ n lim) dL_law_21 (by decide)
theorem eL_law_23  : Wp (xL_law θ n lim) Q (23, lo, .int y :: .int x :: st, w) ↔ Wp (xL_law θ n lim) Q (24, lo, .int (x - y) :: st, w) := tt_isub (hxL_law θ n lim) dL_law_23
theorem eL_law_24  : Wp (xL_law θ n lim) Q (24, lo, .int y :: .int x :: st, w) ↔ if y < x then Wp (xL_law θ n lim) Q (1153, lo, st, w) else Wp (xL_law θ n lim) Q (27, lo, st, w) := tt_ic_gt (hxL_law θ n lim) dL_law_24 (by decide)
theorem eL_law_27  : Wp (xL_law θ n lim) Q (27, [some (.ref a), o1, o2, o3], st, w) ↔ Wp (xL_law θ n lim) Q (28, [some (.ref a), o1, o2, o3], .ref a :: st, w) := tt_aload_n (hxL_law θ n lim) dL_law_27 rfl
theorem eL_law_28  : Wp (xL_law θ n lim) Q (28, [o0, o1, o2, some (.int x)], st, w) ↔ Wp (xL_law θ n lim) Q (29, [o0, o1, o2, some (.int x)], .int x :: st, w) := tt_iload_n (hxL_law θ n lim) dL_law_28 rfl
theorem eL_law_29  : Wp (xL_law θ n lim) Q (29, lo, .int x :: .ref a :: st, w) ↔ (vp_in x (rGn w a) ∧ Wp (xL_law θ n lim) Q (30, lo, .int (rGv w a x.toNatClampNeg) :: st, w)) := tt_iaload (hxL_law θ n lim) dL_law_29
theorem eL_law_30  : Wp (xL_law θ n lim) Q (30, lo, st, w) ↔ Wp (xL_law θ n lim) Q (32, lo, .int 63 :: st, w) := tt_bipush (hxL_law θ n lim) dL_law_30 (by decide)
theorem eL_law_32  : Wp (xL_law θ n lim) Q (32, lo, .int y :: .int x :: st, w) ↔ Wp (xL_law θ n lim) Q (33, lo, .int (x &&& y) :: st, w) := tt_iand (hxL_law θ n lim) dL_law_32
theorem eL_law_33  : Wp (xL_law θ n lim) Q (33, lo, .int x :: st, w) ↔ if x = 0 then Wp (xL_law θ n lim) Q (184, lo, st, w) else if x = 1 then Wp (xL_law θ n lim) Q (207, lo, st, w) else if x = 2 then Wp (xL_law θ n lim) Q (240, lo, st, w) else if x = 3 then Wp (xL_law θ n lim) Q (273, lo, st, w) else if x = 4 then Wp (xL_law θ n lim) Q (316, lo, st, w) else if x = 5 then Wp (xL_law θ n lim) Q (349, lo, st, w) else if x = 6 then Wp (xL_law θ n lim) Q (382, lo, st, w) else if x = 7 then Wp (xL_law θ n lim) Q (405, lo, st, w) else if x = 8 then Wp (xL_law θ n lim) Q (428, lo, st, w) else if x = 9 then Wp (xL_law θ n lim) Q (451, lo, st, w) else if x = 10 then Wp (xL_law θ n lim) Q (474, lo, st, w) else if x = 11 then Wp (xL_law θ n lim) Q (517, lo, st, w) else if x = 12 then Wp (xL_law θ n lim) Q (540, lo, st, w) else if x = 13 then Wp (xL_law θ n lim) Q (563, lo, st, w) else if x = 14 then Wp (xL_law θ n lim) Q (596, lo, st, w) else if x = 15 then Wp (xL_law θ n lim) Q (619, lo, st, w) else if x = 16 then Wp (xL_law θ n lim) Q (642, lo, st, w) else if x = 17 then Wp (xL_law θ n lim) Q (675, lo, st, w) else if x = 18 then Wp (xL_law θ n lim) Q (698, lo, st, w) else if x = 19 then Wp (xL_law θ n lim) Q (721, lo, st, w) else if x = 20 then Wp (xL_law θ n lim) Q (734, lo, st, w) else if x = 21 then Wp (xL_law θ n lim) Q (767, lo, st, w) else if x = 22 then Wp (xL_law θ n lim) Q (780, lo, st, w) else if x = 23 then Wp (xL_law θ n lim) Q (793, lo, st, w) else if x = 24 then Wp (xL_law θ n lim) Q (836, lo, st, w) else if x = 25 then Wp (xL_law θ n lim) Q (910, lo, st, w) else if x = 26 then Wp (xL_law θ n lim) Q (973, lo, st, w) else if x = 27 then Wp (xL_law θ n lim) Q (996, lo, st, w) else if x = 28 then Wp (xL_law θ n lim) Q (1029, lo, st, w) else if x = 29 then Wp (xL_law θ n lim) Q (1062, lo, st, w) else if x = 30 then Wp (xL_law θ n lim) Q (1075, lo, st, w) else if x = 31 then Wp (xL_law θ n lim) Q (1088, lo, st, w) else if x = 32 then Wp (xL_law θ n lim) Q (1101, lo, st, w) else if x = 33 then Wp (xL_law θ n lim) Q (1124, lo, st, w) else Wp (xL_law θ n lim) Q (1147, lo, st, w) := by
  by_cases h0 : x = 0
  · subst h0; rw [if_pos rfl]; exact tt_tableI (off := 151) (hxL_law θ n lim) dL_law_33 (by decide) (by rfl) (by decide)
  rw [if_neg h0]
  have g0 : ¬ x.toInt = 0 := fun e => h0 (Int32.toInt_inj.mp (e.trans (by decide)))
  by_cases h1 : x = 1
  · subst h1; rw [if_pos rfl]; exact tt_tableI (off := 174) (hxL_law θ n lim) dL_law_33 (by decide) (by rfl) (by decide)
  rw [if_neg h1]
  have g1 : ¬ x.toInt = 1 := fun e => h1 (Int32.toInt_inj.mp (e.trans (by decide)))
  by_cases h2 : x = 2
  · subst h2; rw [if_pos rfl]; exact tt_tableI (off := 207) (hxL_law θ n lim) dL_law_33 (by decide) (by rfl) (by decide)
  rw [if_neg h2]
  have g2 : ¬ x.toInt = 2 := fun e => h2 (Int32.toInt_inj.mp (e.trans (by decide)))
  by_cases h3 : x = 3
  · subst h3; rw [if_pos rfl]; exact tt_tableI (off := 240) (hxL_law θ n lim) dL_law_33 (by decide) (by rfl) (by decide)
  rw [if_neg h3]
  have g3 : ¬ x.toInt = 3 := fun e => h3 (Int32.toInt_inj.mp (e.trans (by decide)))
  by_cases h4 : x = 4
  · subst h4; rw [if_pos rfl]; exact tt_tableI (off := 283) (hxL_law θ n lim) dL_law_33 (by decide) (by rfl) (by decide)
  rw [if_neg h4]
  have g4 : ¬ x.toInt = 4 := fun e => h4 (Int32.toInt_inj.mp (e.trans (by decide)))
  by_cases h5 : x = 5
  · subst h5; rw [if_pos rfl]; exact tt_tableI (off := 316) (hxL_law θ n lim) dL_law_33 (by decide) (by rfl) (by decide)
  rw [if_neg h5]
  have g5 : ¬ x.toInt = 5 := fun e => h5 (Int32.toInt_inj.mp (e.trans (by decide)))
  by_cases h6 : x = 6
  · subst h6; rw [if_pos rfl]; exact tt_tableI (off := 349) (hxL_law θ n lim) dL_law_33 (by decide) (by rfl) (by decide)
  rw [if_neg h6]
  have g6 : ¬ x.toInt = 6 := fun e => h6 (Int32.toInt_inj.mp (e.trans (by decide)))
  by_cases h7 : x = 7
  · subst h7; rw [if_pos rfl]; exact tt_tableI (off := 372) (hxL_law θ n lim) dL_law_33 (by decide) (by rfl) (by decide)
  rw [if_neg h7]
  have g7 : ¬ x.toInt = 7 := fun e => h7 (Int32.toInt_inj.mp (e.trans (by decide)))
  by_cases h8 : x = 8
  · subst h8; rw [if_pos rfl]; exact tt_tableI (off := 395) (hxL_law θ n lim) dL_law_33 (by decide) (by rfl) (by decide)
  rw [if_neg h8]
  have g8 : ¬ x.toInt = 8 := fun e => h8 (Int32.toInt_inj.mp (e.trans (by decide)))
  by_cases h9 : x = 9
  · subst h9; rw [if_pos rfl]; exact tt_tableI (off := 418) (hxL_law θ n lim) dL_law_33 (by decide) (by rfl) (by decide)
  rw [if_neg h9]
  have g9 : ¬ x.toInt = 9 := fun e => h9 (Int32.toInt_inj.mp (e.trans (by decide)))
  by_cases h10 : x = 10
  · subst h10; rw [if_pos rfl]; exact tt_tableI (off := 441) (hxL_law θ n lim) dL_law_33 (by decide) (by rfl) (by decide)
  rw [if_neg h10]
  have g10 : ¬ x.toInt = 10 := fun e => h10 (Int32.toInt_inj.mp (e.trans (by decide)))
  by_cases h11 : x = 11
  · subst h11; rw [if_pos rfl]; exact tt_tableI (off := 484) (hxL_law θ n lim) dL_law_33 (by decide) (by rfl) (by decide)
  rw [if_neg h11]
  have g11 : ¬ x.toInt = 11 := fun e => h11 (Int32.toInt_inj.mp (e.trans (by decide)))
  by_cases h12 : x = 12
  · subst h12; rw [if_pos rfl]; exact tt_tableI (off := 507) (hxL_law θ n lim) dL_law_33 (by decide) (by rfl) (by decide)
  rw [if_neg h12]
  have g12 : ¬ x.toInt = 12 := fun e => h12 (Int32.toInt_inj.mp (e.trans (by decide)))
  by_cases h13 : x = 13
  · subst h13; rw [if_pos rfl]; exact tt_tableI (off := 530) (hxL_law θ n lim) dL_law_33 (by decide) (by rfl) (by decide)
  rw [if_neg h13]
  have g13 : ¬ x.toInt = 13 := fun e => h13 (Int32.toInt_inj.mp (e.trans (by decide)))
  by_cases h14 : x = 14
  · subst h14; rw [if_pos rfl]; exact tt_tableI (off := 563) (hxL_law θ n lim) dL_law_33 (by decide) (by rfl) (by decide)
  rw [if_neg h14]
  have g14 : ¬ x.toInt = 14 := fun e => h14 (Int32.toInt_inj.mp (e.trans (by decide)))
  by_cases h15 : x = 15
  · subst h15; rw [if_pos rfl]; exact tt_tableI (off := 586) (hxL_law θ n lim) dL_law_33 (by decide) (by rfl) (by decide)
  rw [if_neg h15]
  have g15 : ¬ x.toInt = 15 := fun e => h15 (Int32.toInt_inj.mp (e.trans (by decide)))
  by_cases h16 : x = 16
  · subst h16; rw [if_pos rfl]; exact tt_tableI (off := 609) (hxL_law θ n lim) dL_law_33 (by decide) (by rfl) (by decide)
  rw [if_neg h16]
  have g16 : ¬ x.toInt = 16 := fun e => h16 (Int32.toInt_inj.mp (e.trans (by decide)))
  by_cases h17 : x = 17
  · subst h17; rw [if_pos rfl]; exact tt_tableI (off := 642) (hxL_law θ n lim) dL_law_33 (by decide) (by rfl) (by decide)
  rw [if_neg h17]
  have g17 : ¬ x.toInt = 17 := fun e => h17 (Int32.toInt_inj.mp (e.trans (by decide)))
  by_cases h18 : x = 18
  · subst h18; rw [if_pos rfl]; exact tt_tableI (off := 665) (hxL_law θ n lim) dL_law_33 (by decide) (by rfl) (by decide)
  rw [if_neg h18]
  have g18 : ¬ x.toInt = 18 := fun e => h18 (Int32.toInt_inj.mp (e.trans (by decide)))
  by_cases h19 : x = 19
  · subst h19; rw [if_pos rfl]; exact tt_tableI (off := 688) (hxL_law θ n lim) dL_law_33 (by decide) (by rfl) (by decide)
  rw [if_neg h19]
  have g19 : ¬ x.toInt = 19 := fun e => h19 (Int32.toInt_inj.mp (e.trans (by decide)))
  by_cases h20 : x = 20
  · subst h20; rw [if_pos rfl]; exact tt_tableI (off := 701) (hxL_law θ n lim) dL_law_33 (by decide) (by rfl) (by decide)
  rw [if_neg h20]
  have g20 : ¬ x.toInt = 20 := fun e => h20 (Int32.toInt_inj.mp (e.trans (by decide)))
  by_cases h21 : x = 21
  · subst h21; rw [if_pos rfl]; exact tt_tableI (off := 734) (hxL_law θ n lim) dL_law_33 (by decide) (by rfl) (by decide)
  rw [if_neg h21]
  have g21 : ¬ x.toInt = 21 := fun e => h21 (Int32.toInt_inj.mp (e.trans (by decide)))
  by_cases h22 : x = 22
  · subst h22; rw [if_pos rfl]; exact tt_tableI (off := 747) (hxL_law θ n lim) dL_law_33 (by decide) (by rfl) (by decide)
  rw [if_neg h22]
  have g22 : ¬ x.toInt = 22 := fun e => h22 (Int32.toInt_inj.mp (e.trans (by decide)))
  by_cases h23 : x = 23
  · subst h23; rw [if_pos rfl]; exact tt_tableI (off := 760) (hxL_law θ n lim) dL_law_33 (by decide) (by rfl) (by decide)
  rw [if_neg h23]
  have g23 : ¬ x.toInt = 23 := fun e => h23 (Int32.toInt_inj.mp (e.trans (by decide)))
  by_cases h24 : x = 24
  · subst h24; rw [if_pos rfl]; exact tt_tableI (off := 803) (hxL_law θ n lim) dL_law_33 (by decide) (by rfl) (by decide)
  rw [if_neg h24]
  have g24 : ¬ x.toInt = 24 := fun e => h24 (Int32.toInt_inj.mp (e.trans (by decide)))
  by_cases h25 : x = 25
  · subst h25; rw [if_pos rfl]; exact tt_tableI (off := 877) (hxL_law θ n lim) dL_law_33 (by decide) (by rfl) (by decide)
  rw [if_neg h25]
  have g25 : ¬ x.toInt = 25 := fun e => h25 (Int32.toInt_inj.mp (e.trans (by decide)))
  by_cases h26 : x = 26
  · subst h26; rw [if_pos rfl]; exact tt_tableI (off := 940) (hxL_law θ n lim) dL_law_33 (by decide) (by rfl) (by decide)
  rw [if_neg h26]
  have g26 : ¬ x.toInt = 26 := fun e => h26 (Int32.toInt_inj.mp (e.trans (by decide)))
  by_cases h27 : x = 27
  · subst h27; rw [if_pos rfl]; exact tt_tableI (off := 963) (hxL_law θ n lim) dL_law_33 (by decide) (by rfl) (by decide)
  rw [if_neg h27]
  have g27 : ¬ x.toInt = 27 := fun e => h27 (Int32.toInt_inj.mp (e.trans (by decide)))
  by_cases h28 : x = 28
  · subst h28; rw [if_pos rfl]; exact tt_tableI (off := 996) (hxL_law θ n lim) dL_law_33 (by decide) (by rfl) (by decide)
  rw [if_neg h28]
  have g28 : ¬ x.toInt = 28 := fun e => h28 (Int32.toInt_inj.mp (e.trans (by decide)))
  by_cases h29 : x = 29
  · subst h29; rw [if_pos rfl]; exact tt_tableI (off := 1029) (hxL_law θ n lim) dL_law_33 (by decide) (by rfl) (by decide)
  rw [if_neg h29]
  have g29 : ¬ x.toInt = 29 := fun e => h29 (Int32.toInt_inj.mp (e.trans (by decide)))
  by_cases h30 : x = 30
  · subst h30; rw [if_pos rfl]; exact tt_tableI (off := 1042) (hxL_law θ n lim) dL_law_33 (by decide) (by rfl) (by decide)
  rw [if_neg h30]
  have g30 : ¬ x.toInt = 30 := fun e => h30 (Int32.toInt_inj.mp (e.trans (by decide)))
  by_cases h31 : x = 31
  · subst h31; rw [if_pos rfl]; exact tt_tableI (off := 1055) (hxL_law θ n lim) dL_law_33 (by decide) (by rfl) (by decide)
  rw [if_neg h31]
  have g31 : ¬ x.toInt = 31 := fun e => h31 (Int32.toInt_inj.mp (e.trans (by decide)))
  by_cases h32 : x = 32
  · subst h32; rw [if_pos rfl]; exact tt_tableI (off := 1068) (hxL_law θ n lim) dL_law_33 (by decide) (by rfl) (by decide)
  rw [if_neg h32]
  have g32 : ¬ x.toInt = 32 := fun e => h32 (Int32.toInt_inj.mp (e.trans (by decide)))
  by_cases h33 : x = 33
  · subst h33; rw [if_pos rfl]; exact tt_tableI (off := 1091) (hxL_law θ n lim) dL_law_33 (by decide) (by rfl) (by decide)
  rw [if_neg h33]
  have g33 : ¬ x.toInt = 33 := fun e => h33 (Int32.toInt_inj.mp (e.trans (by decide)))
  exact tt_tableO (hxL_law θ n lim) dL_law_33 (by omega) (by decide)
theorem eL_law_184  : Wp (xL_law θ n lim) Q (184, [o0, some (.ref a), o2, o3], st, w) ↔ Wp (xL_law θ n lim) Q (185, [o0, some (.ref a), o2, o3], .ref a :: st, w) := tt_aload_n (hxL_law θ n lim) dL_law_184 rfl
theorem eL_law_185  : Wp (xL_law θ n lim) Q (185, [some (.ref a), o1, o2, o3], st, w) ↔ Wp (xL_law θ n lim) Q (186, [some (.ref a), o1, o2, o3], .ref a :: st, w) := tt_aload_n (hxL_law θ n lim) dL_law_185 rfl
theorem eL_law_186  : Wp (xL_law θ n lim) Q (186, [o0, o1, o2, some (.int x)], st, w) ↔ Wp (xL_law θ n lim) Q (187, [o0, o1, o2, some (.int x)], .int x :: st, w) := tt_iload_n (hxL_law θ n lim) dL_law_186 rfl
theorem eL_law_187  : Wp (xL_law θ n lim) Q (187, lo, st, w) ↔ Wp (xL_law θ n lim) Q (188, lo, .int 1 :: st, w) := tt_iconst (hxL_law θ n lim) dL_law_187 (by decide)
theorem eL_law_188  : Wp (xL_law θ n lim) Q (188, lo, .int y :: .int x :: st, w) ↔ Wp (xL_law θ n lim) Q (189, lo, .int (x + y) :: st, w) := tt_iadd (hxL_law θ n lim) dL_law_188
theorem eL_law_189  : Wp (xL_law θ n lim) Q (189, lo, .int x :: .ref a :: st, w) ↔ (vp_in x (rGn w a) ∧ Wp (xL_law θ n lim) Q (190, lo, .int (rGv w a x.toNatClampNeg) :: st, w)) := tt_iaload (hxL_law θ n lim) dL_law_189
theorem eL_law_190 {z0 : Int32} {z1 : Nat} : Wp (xL_law θ n lim) Q (190, lo, [.int z0, .ref z1], w) ↔ (rIs w z1 4 ∧ sg θ n 38 [.ref z1, .int z0] w (fun v w' => Wp (xL_law θ n lim) Q (193, lo, v.toList ++ [], w'))) := tt_callV (As := [.int z0]) (r := []) (hxL_law θ n lim) dL_law_190 lkC_14_13 mX5_trams ⟨rfl, rfl⟩ rfl rfl (Nat.le_of_ble_eq_true rfl) rfl
theorem eL_law_193  : Wp (xL_law θ n lim) Q (193, [o0, o1, some (.ref a), o3], st, w) ↔ Wp (xL_law θ n lim) Q (194, [o0, o1, some (.ref a), o3], .ref a :: st, w) := tt_aload_n (hxL_law θ n lim) dL_law_193 rfl
theorem eL_law_194  : Wp (xL_law θ n lim) Q (194, [some (.ref a), o1, o2, o3], st, w) ↔ Wp (xL_law θ n lim) Q (195, [some (.ref a), o1, o2, o3], .ref a :: st, w) := tt_aload_n (hxL_law θ n lim) dL_law_194 rfl
theorem eL_law_195  : Wp (xL_law θ n lim) Q (195, [o0, o1, o2, some (.int x)], st, w) ↔ Wp (xL_law θ n lim) Q (196, [o0, o1, o2, some (.int x)], .int x :: st, w) := tt_iload_n (hxL_law θ n lim) dL_law_195 rfl
theorem eL_law_196  : Wp (xL_law θ n lim) Q (196, lo, st, w) ↔ Wp (xL_law θ n lim) Q (197, lo, .int 1 :: st, w) := tt_iconst (hxL_law θ n lim) dL_law_196 (by decide)
theorem eL_law_197  : Wp (xL_law θ n lim) Q (197, lo, .int y :: .int x :: st, w) ↔ Wp (xL_law θ n lim) Q (198, lo, .int (x + y) :: st, w) := tt_iadd (hxL_law θ n lim) dL_law_197
theorem eL_law_198  : Wp (xL_law θ n lim) Q (198, lo, .int x :: .ref a :: st, w) ↔ (vp_in x (rGn w a) ∧ Wp (xL_law θ n lim) Q (199, lo, .int (rGv w a x.toNatClampNeg) :: st, w)) := tt_iaload (hxL_law θ n lim) dL_law_198
theorem eL_law_199 {z0 : Int32} {z1 : Nat} {z2 : Int32} : Wp (xL_law θ n lim) Q (199, lo, [.int z0, .ref z1, .int z2], w) ↔ (rIs w z1 5 ∧ sg θ n 84 [.ref z1, .int z0] w (fun v w' => Wp (xL_law θ n lim) Q (202, lo, v.toList ++ [.int z2], w'))) := tt_callV (As := [.int z0]) (r := [.int z2]) (hxL_law θ n lim) dL_law_199 lkC_14_17 mX6_trams ⟨rfl, rfl⟩ rfl rfl (Nat.le_of_ble_eq_true rfl) rfl
theorem eL_law_202  : Wp (xL_law θ n lim) Q (202, lo, .int y :: .int x :: st, w) ↔ if x = y then Wp (xL_law θ n lim) Q (1147, lo, st, w) else Wp (xL_law θ n lim) Q (205, lo, st, w) := tt_ic_eq (hxL_law θ n lim) dL_law_202 (by decide)
theorem eL_law_205  : Wp (xL_law θ n lim) Q (205, lo, st, w) ↔ Wp (xL_law θ n lim) Q (206, lo, .int 0 :: st, w) := tt_iconst (hxL_law θ n lim) dL_law_205 (by decide)
theorem eL_law_206  : Wp (xL_law θ n lim) Q (206, lo, [.int x], w) ↔ (narrow .boolean (.int x) = .int x ∧ Q (some (.int x)) w) := tt_iret (hxL_law θ n lim) dL_law_206 rfl
theorem eL_law_207  : Wp (xL_law θ n lim) Q (207, [o0, some (.ref a), o2, o3], st, w) ↔ Wp (xL_law θ n lim) Q (208, [o0, some (.ref a), o2, o3], .ref a :: st, w) := tt_aload_n (hxL_law θ n lim) dL_law_207 rfl
theorem eL_law_208  : Wp (xL_law θ n lim) Q (208, [some (.ref a), o1, o2, o3], st, w) ↔ Wp (xL_law θ n lim) Q (209, [some (.ref a), o1, o2, o3], .ref a :: st, w) := tt_aload_n (hxL_law θ n lim) dL_law_208 rfl
theorem eL_law_209  : Wp (xL_law θ n lim) Q (209, [o0, o1, o2, some (.int x)], st, w) ↔ Wp (xL_law θ n lim) Q (210, [o0, o1, o2, some (.int x)], .int x :: st, w) := tt_iload_n (hxL_law θ n lim) dL_law_209 rfl
theorem eL_law_210  : Wp (xL_law θ n lim) Q (210, lo, st, w) ↔ Wp (xL_law θ n lim) Q (211, lo, .int 1 :: st, w) := tt_iconst (hxL_law θ n lim) dL_law_210 (by decide)
theorem eL_law_211  : Wp (xL_law θ n lim) Q (211, lo, .int y :: .int x :: st, w) ↔ Wp (xL_law θ n lim) Q (212, lo, .int (x + y) :: st, w) := tt_iadd (hxL_law θ n lim) dL_law_211
theorem eL_law_212  : Wp (xL_law θ n lim) Q (212, lo, .int x :: .ref a :: st, w) ↔ (vp_in x (rGn w a) ∧ Wp (xL_law θ n lim) Q (213, lo, .int (rGv w a x.toNatClampNeg) :: st, w)) := tt_iaload (hxL_law θ n lim) dL_law_212
theorem eL_law_213  : Wp (xL_law θ n lim) Q (213, [some (.ref a), o1, o2, o3], st, w) ↔ Wp (xL_law θ n lim) Q (214, [some (.ref a), o1, o2, o3], .ref a :: st, w) := tt_aload_n (hxL_law θ n lim) dL_law_213 rfl
theorem eL_law_214  : Wp (xL_law θ n lim) Q (214, [o0, o1, o2, some (.int x)], st, w) ↔ Wp (xL_law θ n lim) Q (215, [o0, o1, o2, some (.int x)], .int x :: st, w) := tt_iload_n (hxL_law θ n lim) dL_law_214 rfl
theorem eL_law_215  : Wp (xL_law θ n lim) Q (215, lo, st, w) ↔ Wp (xL_law θ n lim) Q (216, lo, .int 2 :: st, w) := tt_iconst (hxL_law θ n lim) dL_law_215 (by decide)
theorem eL_law_216  : Wp (xL_law θ n lim) Q (216, lo, .int y :: .int x :: st, w) ↔ Wp (xL_law θ n lim) Q (217, lo, .int (x + y) :: st, w) := tt_iadd (hxL_law θ n lim) dL_law_216
theorem eL_law_217  : Wp (xL_law θ n lim) Q (217, lo, .int x :: .ref a :: st, w) ↔ (vp_in x (rGn w a) ∧ Wp (xL_law θ n lim) Q (218, lo, .int (rGv w a x.toNatClampNeg) :: st, w)) := tt_iaload (hxL_law θ n lim) dL_law_217
theorem eL_law_218 {z0 : Int32} {z1 : Int32} {z2 : Nat} : Wp (xL_law θ n lim) Q (218, lo, [.int z0, .int z1, .ref z2], w) ↔ (rIs w z2 4 ∧ sg θ n 41 [.ref z2, .int z1, .int z0] w (fun v w' => Wp (xL_law θ n lim) Q (221, lo, v.toList ++ [], w'))) := tt_callV (As := [.int z1, .int z0]) (r := []) (hxL_law θ n lim) dL_law_218 lkC_14_18 mX5_walker ⟨rfl, rfl⟩ rfl rfl (Nat.le_of_ble_eq_true rfl) rfl
theorem eL_law_221  : Wp (xL_law θ n lim) Q (221, [o0, o1, some (.ref a), o3], st, w) ↔ Wp (xL_law θ n lim) Q (222, [o0, o1, some (.ref a), o3], .ref a :: st, w) := tt_aload_n (hxL_law θ n lim) dL_law_221 rfl
theorem eL_law_222  : Wp (xL_law θ n lim) Q (222, [some (.ref a), o1, o2, o3], st, w) ↔ Wp (xL_law θ n lim) Q (223, [some (.ref a), o1, o2, o3], .ref a :: st, w) := tt_aload_n (hxL_law θ n lim) dL_law_222 rfl
theorem eL_law_223  : Wp (xL_law θ n lim) Q (223, [o0, o1, o2, some (.int x)], st, w) ↔ Wp (xL_law θ n lim) Q (224, [o0, o1, o2, some (.int x)], .int x :: st, w) := tt_iload_n (hxL_law θ n lim) dL_law_223 rfl
theorem eL_law_224  : Wp (xL_law θ n lim) Q (224, lo, st, w) ↔ Wp (xL_law θ n lim) Q (225, lo, .int 1 :: st, w) := tt_iconst (hxL_law θ n lim) dL_law_224 (by decide)
theorem eL_law_225  : Wp (xL_law θ n lim) Q (225, lo, .int y :: .int x :: st, w) ↔ Wp (xL_law θ n lim) Q (226, lo, .int (x + y) :: st, w) := tt_iadd (hxL_law θ n lim) dL_law_225
theorem eL_law_226  : Wp (xL_law θ n lim) Q (226, lo, .int x :: .ref a :: st, w) ↔ (vp_in x (rGn w a) ∧ Wp (xL_law θ n lim) Q (227, lo, .int (rGv w a x.toNatClampNeg) :: st, w)) := tt_iaload (hxL_law θ n lim) dL_law_226
theorem eL_law_227  : Wp (xL_law θ n lim) Q (227, [some (.ref a), o1, o2, o3], st, w) ↔ Wp (xL_law θ n lim) Q (228, [some (.ref a), o1, o2, o3], .ref a :: st, w) := tt_aload_n (hxL_law θ n lim) dL_law_227 rfl
theorem eL_law_228  : Wp (xL_law θ n lim) Q (228, [o0, o1, o2, some (.int x)], st, w) ↔ Wp (xL_law θ n lim) Q (229, [o0, o1, o2, some (.int x)], .int x :: st, w) := tt_iload_n (hxL_law θ n lim) dL_law_228 rfl
theorem eL_law_229  : Wp (xL_law θ n lim) Q (229, lo, st, w) ↔ Wp (xL_law θ n lim) Q (230, lo, .int 2 :: st, w) := tt_iconst (hxL_law θ n lim) dL_law_229 (by decide)
theorem eL_law_230  : Wp (xL_law θ n lim) Q (230, lo, .int y :: .int x :: st, w) ↔ Wp (xL_law θ n lim) Q (231, lo, .int (x + y) :: st, w) := tt_iadd (hxL_law θ n lim) dL_law_230
theorem eL_law_231  : Wp (xL_law θ n lim) Q (231, lo, .int x :: .ref a :: st, w) ↔ (vp_in x (rGn w a) ∧ Wp (xL_law θ n lim) Q (232, lo, .int (rGv w a x.toNatClampNeg) :: st, w)) := tt_iaload (hxL_law θ n lim) dL_law_231
theorem eL_law_232 {z0 : Int32} {z1 : Int32} {z2 : Nat} {z3 : Int32} : Wp (xL_law θ n lim) Q (232, lo, [.int z0, .int z1, .ref z2, .int z3], w) ↔ (rIs w z2 5 ∧ sg θ n 88 [.ref z2, .int z1, .int z0] w (fun v w' => Wp (xL_law θ n lim) Q (235, lo, v.toList ++ [.int z3], w'))) := tt_callV (As := [.int z1, .int z0]) (r := [.int z3]) (hxL_law θ n lim) dL_law_232 lkC_14_22 mX6_walker ⟨rfl, rfl⟩ rfl rfl (Nat.le_of_ble_eq_true rfl) rfl
theorem eL_law_235  : Wp (xL_law θ n lim) Q (235, lo, .int y :: .int x :: st, w) ↔ if x = y then Wp (xL_law θ n lim) Q (1147, lo, st, w) else Wp (xL_law θ n lim) Q (238, lo, st, w) := tt_ic_eq (hxL_law θ n lim) dL_law_235 (by decide)
theorem eL_law_238  : Wp (xL_law θ n lim) Q (238, lo, st, w) ↔ Wp (xL_law θ n lim) Q (239, lo, .int 0 :: st, w) := tt_iconst (hxL_law θ n lim) dL_law_238 (by decide)
theorem eL_law_239  : Wp (xL_law θ n lim) Q (239, lo, [.int x], w) ↔ (narrow .boolean (.int x) = .int x ∧ Q (some (.int x)) w) := tt_iret (hxL_law θ n lim) dL_law_239 rfl
theorem eL_law_240  : Wp (xL_law θ n lim) Q (240, [o0, some (.ref a), o2, o3], st, w) ↔ Wp (xL_law θ n lim) Q (241, [o0, some (.ref a), o2, o3], .ref a :: st, w) := tt_aload_n (hxL_law θ n lim) dL_law_240 rfl
theorem eL_law_241  : Wp (xL_law θ n lim) Q (241, [some (.ref a), o1, o2, o3], st, w) ↔ Wp (xL_law θ n lim) Q (242, [some (.ref a), o1, o2, o3], .ref a :: st, w) := tt_aload_n (hxL_law θ n lim) dL_law_241 rfl
theorem eL_law_242  : Wp (xL_law θ n lim) Q (242, [o0, o1, o2, some (.int x)], st, w) ↔ Wp (xL_law θ n lim) Q (243, [o0, o1, o2, some (.int x)], .int x :: st, w) := tt_iload_n (hxL_law θ n lim) dL_law_242 rfl
theorem eL_law_243  : Wp (xL_law θ n lim) Q (243, lo, st, w) ↔ Wp (xL_law θ n lim) Q (244, lo, .int 1 :: st, w) := tt_iconst (hxL_law θ n lim) dL_law_243 (by decide)
theorem eL_law_244  : Wp (xL_law θ n lim) Q (244, lo, .int y :: .int x :: st, w) ↔ Wp (xL_law θ n lim) Q (245, lo, .int (x + y) :: st, w) := tt_iadd (hxL_law θ n lim) dL_law_244
theorem eL_law_245  : Wp (xL_law θ n lim) Q (245, lo, .int x :: .ref a :: st, w) ↔ (vp_in x (rGn w a) ∧ Wp (xL_law θ n lim) Q (246, lo, .int (rGv w a x.toNatClampNeg) :: st, w)) := tt_iaload (hxL_law θ n lim) dL_law_245
theorem eL_law_246  : Wp (xL_law θ n lim) Q (246, [some (.ref a), o1, o2, o3], st, w) ↔ Wp (xL_law θ n lim) Q (247, [some (.ref a), o1, o2, o3], .ref a :: st, w) := tt_aload_n (hxL_law θ n lim) dL_law_246 rfl
theorem eL_law_247  : Wp (xL_law θ n lim) Q (247, [o0, o1, o2, some (.int x)], st, w) ↔ Wp (xL_law θ n lim) Q (248, [o0, o1, o2, some (.int x)], .int x :: st, w) := tt_iload_n (hxL_law θ n lim) dL_law_247 rfl
theorem eL_law_248  : Wp (xL_law θ n lim) Q (248, lo, st, w) ↔ Wp (xL_law θ n lim) Q (249, lo, .int 2 :: st, w) := tt_iconst (hxL_law θ n lim) dL_law_248 (by decide)
theorem eL_law_249  : Wp (xL_law θ n lim) Q (249, lo, .int y :: .int x :: st, w) ↔ Wp (xL_law θ n lim) Q (250, lo, .int (x + y) :: st, w) := tt_iadd (hxL_law θ n lim) dL_law_249
theorem eL_law_250  : Wp (xL_law θ n lim) Q (250, lo, .int x :: .ref a :: st, w) ↔ (vp_in x (rGn w a) ∧ Wp (xL_law θ n lim) Q (251, lo, .int (rGv w a x.toNatClampNeg) :: st, w)) := tt_iaload (hxL_law θ n lim) dL_law_250
theorem eL_law_251 {z0 : Int32} {z1 : Int32} {z2 : Nat} : Wp (xL_law θ n lim) Q (251, lo, [.int z0, .int z1, .ref z2], w) ↔ (rIs w z2 4 ∧ sg θ n 42 [.ref z2, .int z1, .int z0] w (fun v w' => Wp (xL_law θ n lim) Q (254, lo, v.toList ++ [], w'))) := tt_callV (As := [.int z1, .int z0]) (r := []) (hxL_law θ n lim) dL_law_251 lkC_14_23 mX5_of ⟨rfl, rfl⟩ rfl rfl (Nat.le_of_ble_eq_true rfl) rfl
theorem eL_law_254  : Wp (xL_law θ n lim) Q (254, [o0, o1, some (.ref a), o3], st, w) ↔ Wp (xL_law θ n lim) Q (255, [o0, o1, some (.ref a), o3], .ref a :: st, w) := tt_aload_n (hxL_law θ n lim) dL_law_254 rfl
theorem eL_law_255  : Wp (xL_law θ n lim) Q (255, [some (.ref a), o1, o2, o3], st, w) ↔ Wp (xL_law θ n lim) Q (256, [some (.ref a), o1, o2, o3], .ref a :: st, w) := tt_aload_n (hxL_law θ n lim) dL_law_255 rfl
theorem eL_law_256  : Wp (xL_law θ n lim) Q (256, [o0, o1, o2, some (.int x)], st, w) ↔ Wp (xL_law θ n lim) Q (257, [o0, o1, o2, some (.int x)], .int x :: st, w) := tt_iload_n (hxL_law θ n lim) dL_law_256 rfl
theorem eL_law_257  : Wp (xL_law θ n lim) Q (257, lo, st, w) ↔ Wp (xL_law θ n lim) Q (258, lo, .int 1 :: st, w) := tt_iconst (hxL_law θ n lim) dL_law_257 (by decide)
theorem eL_law_258  : Wp (xL_law θ n lim) Q (258, lo, .int y :: .int x :: st, w) ↔ Wp (xL_law θ n lim) Q (259, lo, .int (x + y) :: st, w) := tt_iadd (hxL_law θ n lim) dL_law_258
theorem eL_law_259  : Wp (xL_law θ n lim) Q (259, lo, .int x :: .ref a :: st, w) ↔ (vp_in x (rGn w a) ∧ Wp (xL_law θ n lim) Q (260, lo, .int (rGv w a x.toNatClampNeg) :: st, w)) := tt_iaload (hxL_law θ n lim) dL_law_259
theorem eL_law_260  : Wp (xL_law θ n lim) Q (260, [some (.ref a), o1, o2, o3], st, w) ↔ Wp (xL_law θ n lim) Q (261, [some (.ref a), o1, o2, o3], .ref a :: st, w) := tt_aload_n (hxL_law θ n lim) dL_law_260 rfl
theorem eL_law_261  : Wp (xL_law θ n lim) Q (261, [o0, o1, o2, some (.int x)], st, w) ↔ Wp (xL_law θ n lim) Q (262, [o0, o1, o2, some (.int x)], .int x :: st, w) := tt_iload_n (hxL_law θ n lim) dL_law_261 rfl
theorem eL_law_262  : Wp (xL_law θ n lim) Q (262, lo, st, w) ↔ Wp (xL_law θ n lim) Q (263, lo, .int 2 :: st, w) := tt_iconst (hxL_law θ n lim) dL_law_262 (by decide)
theorem eL_law_263  : Wp (xL_law θ n lim) Q (263, lo, .int y :: .int x :: st, w) ↔ Wp (xL_law θ n lim) Q (264, lo, .int (x + y) :: st, w) := tt_iadd (hxL_law θ n lim) dL_law_263
theorem eL_law_264  : Wp (xL_law θ n lim) Q (264, lo, .int x :: .ref a :: st, w) ↔ (vp_in x (rGn w a) ∧ Wp (xL_law θ n lim) Q (265, lo, .int (rGv w a x.toNatClampNeg) :: st, w)) := tt_iaload (hxL_law θ n lim) dL_law_264
theorem eL_law_265 {z0 : Int32} {z1 : Int32} {z2 : Nat} {z3 : Int32} : Wp (xL_law θ n lim) Q (265, lo, [.int z0, .int z1, .ref z2, .int z3], w) ↔ (rIs w z2 5 ∧ sg θ n 92 [.ref z2, .int z1, .int z0] w (fun v w' => Wp (xL_law θ n lim) Q (268, lo, v.toList ++ [.int z3], w'))) := tt_callV (As := [.int z1, .int z0]) (r := [.int z3]) (hxL_law θ n lim) dL_law_265 lkC_14_26 mX6_of ⟨rfl, rfl⟩ rfl rfl (Nat.le_of_ble_eq_true rfl) rfl
theorem eL_law_268  : Wp (xL_law θ n lim) Q (268, lo, .int y :: .int x :: st, w) ↔ if x = y then Wp (xL_law θ n lim) Q (1147, lo, st, w) else Wp (xL_law θ n lim) Q (271, lo, st, w) := tt_ic_eq (hxL_law θ n lim) dL_law_268 (by decide)
theorem eL_law_271  : Wp (xL_law θ n lim) Q (271, lo, st, w) ↔ Wp (xL_law θ n lim) Q (272, lo, .int 0 :: st, w) := tt_iconst (hxL_law θ n lim) dL_law_271 (by decide)
theorem eL_law_272  : Wp (xL_law θ n lim) Q (272, lo, [.int x], w) ↔ (narrow .boolean (.int x) = .int x ∧ Q (some (.int x)) w) := tt_iret (hxL_law θ n lim) dL_law_272 rfl
theorem eL_law_273  : Wp (xL_law θ n lim) Q (273, [o0, some (.ref a), o2, o3], st, w) ↔ Wp (xL_law θ n lim) Q (274, [o0, some (.ref a), o2, o3], .ref a :: st, w) := tt_aload_n (hxL_law θ n lim) dL_law_273 rfl
theorem eL_law_274  : Wp (xL_law θ n lim) Q (274, [some (.ref a), o1, o2, o3], st, w) ↔ Wp (xL_law θ n lim) Q (275, [some (.ref a), o1, o2, o3], .ref a :: st, w) := tt_aload_n (hxL_law θ n lim) dL_law_274 rfl
theorem eL_law_275  : Wp (xL_law θ n lim) Q (275, [o0, o1, o2, some (.int x)], st, w) ↔ Wp (xL_law θ n lim) Q (276, [o0, o1, o2, some (.int x)], .int x :: st, w) := tt_iload_n (hxL_law θ n lim) dL_law_275 rfl
theorem eL_law_276  : Wp (xL_law θ n lim) Q (276, lo, st, w) ↔ Wp (xL_law θ n lim) Q (277, lo, .int 1 :: st, w) := tt_iconst (hxL_law θ n lim) dL_law_276 (by decide)
theorem eL_law_277  : Wp (xL_law θ n lim) Q (277, lo, .int y :: .int x :: st, w) ↔ Wp (xL_law θ n lim) Q (278, lo, .int (x + y) :: st, w) := tt_iadd (hxL_law θ n lim) dL_law_277
theorem eL_law_278  : Wp (xL_law θ n lim) Q (278, lo, .int x :: .ref a :: st, w) ↔ (vp_in x (rGn w a) ∧ Wp (xL_law θ n lim) Q (279, lo, .int (rGv w a x.toNatClampNeg) :: st, w)) := tt_iaload (hxL_law θ n lim) dL_law_278
theorem eL_law_279  : Wp (xL_law θ n lim) Q (279, [some (.ref a), o1, o2, o3], st, w) ↔ Wp (xL_law θ n lim) Q (280, [some (.ref a), o1, o2, o3], .ref a :: st, w) := tt_aload_n (hxL_law θ n lim) dL_law_279 rfl
theorem eL_law_280  : Wp (xL_law θ n lim) Q (280, [o0, o1, o2, some (.int x)], st, w) ↔ Wp (xL_law θ n lim) Q (281, [o0, o1, o2, some (.int x)], .int x :: st, w) := tt_iload_n (hxL_law θ n lim) dL_law_280 rfl
theorem eL_law_281  : Wp (xL_law θ n lim) Q (281, lo, st, w) ↔ Wp (xL_law θ n lim) Q (282, lo, .int 2 :: st, w) := tt_iconst (hxL_law θ n lim) dL_law_281 (by decide)
theorem eL_law_282  : Wp (xL_law θ n lim) Q (282, lo, .int y :: .int x :: st, w) ↔ Wp (xL_law θ n lim) Q (283, lo, .int (x + y) :: st, w) := tt_iadd (hxL_law θ n lim) dL_law_282
theorem eL_law_283  : Wp (xL_law θ n lim) Q (283, lo, .int x :: .ref a :: st, w) ↔ (vp_in x (rGn w a) ∧ Wp (xL_law θ n lim) Q (284, lo, .int (rGv w a x.toNatClampNeg) :: st, w)) := tt_iaload (hxL_law θ n lim) dL_law_283
theorem eL_law_284  : Wp (xL_law θ n lim) Q (284, [some (.ref a), o1, o2, o3], st, w) ↔ Wp (xL_law θ n lim) Q (285, [some (.ref a), o1, o2, o3], .ref a :: st, w) := tt_aload_n (hxL_law θ n lim) dL_law_284 rfl
theorem eL_law_285  : Wp (xL_law θ n lim) Q (285, [o0, o1, o2, some (.int x)], st, w) ↔ Wp (xL_law θ n lim) Q (286, [o0, o1, o2, some (.int x)], .int x :: st, w) := tt_iload_n (hxL_law θ n lim) dL_law_285 rfl
theorem eL_law_286  : Wp (xL_law θ n lim) Q (286, lo, st, w) ↔ Wp (xL_law θ n lim) Q (287, lo, .int 3 :: st, w) := tt_iconst (hxL_law θ n lim) dL_law_286 (by decide)
theorem eL_law_287  : Wp (xL_law θ n lim) Q (287, lo, .int y :: .int x :: st, w) ↔ Wp (xL_law θ n lim) Q (288, lo, .int (x + y) :: st, w) := tt_iadd (hxL_law θ n lim) dL_law_287
theorem eL_law_288  : Wp (xL_law θ n lim) Q (288, lo, .int x :: .ref a :: st, w) ↔ (vp_in x (rGn w a) ∧ Wp (xL_law θ n lim) Q (289, lo, .int (rGv w a x.toNatClampNeg) :: st, w)) := tt_iaload (hxL_law θ n lim) dL_law_288
theorem eL_law_289 {z0 : Int32} {z1 : Int32} {z2 : Int32} {z3 : Nat} : Wp (xL_law θ n lim) Q (289, lo, [.int z0, .int z1, .int z2, .ref z3], w) ↔ (rIs w z3 4 ∧ sg θ n 44 [.ref z3, .int z2, .int z1, .int z0] w (fun v w' => Wp (xL_law θ n lim) Q (292, lo, v.toList ++ [], w'))) := tt_callV (As := [.int z2, .int z1, .int z0]) (r := []) (hxL_law θ n lim) dL_law_289 lkC_14_27 mX5_set ⟨rfl, rfl⟩ rfl rfl (Nat.le_of_ble_eq_true rfl) rfl
theorem eL_law_292  : Wp (xL_law θ n lim) Q (292, [o0, o1, some (.ref a), o3], st, w) ↔ Wp (xL_law θ n lim) Q (293, [o0, o1, some (.ref a), o3], .ref a :: st, w) := tt_aload_n (hxL_law θ n lim) dL_law_292 rfl
theorem eL_law_293  : Wp (xL_law θ n lim) Q (293, [some (.ref a), o1, o2, o3], st, w) ↔ Wp (xL_law θ n lim) Q (294, [some (.ref a), o1, o2, o3], .ref a :: st, w) := tt_aload_n (hxL_law θ n lim) dL_law_293 rfl
theorem eL_law_294  : Wp (xL_law θ n lim) Q (294, [o0, o1, o2, some (.int x)], st, w) ↔ Wp (xL_law θ n lim) Q (295, [o0, o1, o2, some (.int x)], .int x :: st, w) := tt_iload_n (hxL_law θ n lim) dL_law_294 rfl
theorem eL_law_295  : Wp (xL_law θ n lim) Q (295, lo, st, w) ↔ Wp (xL_law θ n lim) Q (296, lo, .int 1 :: st, w) := tt_iconst (hxL_law θ n lim) dL_law_295 (by decide)
theorem eL_law_296  : Wp (xL_law θ n lim) Q (296, lo, .int y :: .int x :: st, w) ↔ Wp (xL_law θ n lim) Q (297, lo, .int (x + y) :: st, w) := tt_iadd (hxL_law θ n lim) dL_law_296
theorem eL_law_297  : Wp (xL_law θ n lim) Q (297, lo, .int x :: .ref a :: st, w) ↔ (vp_in x (rGn w a) ∧ Wp (xL_law θ n lim) Q (298, lo, .int (rGv w a x.toNatClampNeg) :: st, w)) := tt_iaload (hxL_law θ n lim) dL_law_297
theorem eL_law_298  : Wp (xL_law θ n lim) Q (298, [some (.ref a), o1, o2, o3], st, w) ↔ Wp (xL_law θ n lim) Q (299, [some (.ref a), o1, o2, o3], .ref a :: st, w) := tt_aload_n (hxL_law θ n lim) dL_law_298 rfl
theorem eL_law_299  : Wp (xL_law θ n lim) Q (299, [o0, o1, o2, some (.int x)], st, w) ↔ Wp (xL_law θ n lim) Q (300, [o0, o1, o2, some (.int x)], .int x :: st, w) := tt_iload_n (hxL_law θ n lim) dL_law_299 rfl
theorem eL_law_300  : Wp (xL_law θ n lim) Q (300, lo, st, w) ↔ Wp (xL_law θ n lim) Q (301, lo, .int 2 :: st, w) := tt_iconst (hxL_law θ n lim) dL_law_300 (by decide)
theorem eL_law_301  : Wp (xL_law θ n lim) Q (301, lo, .int y :: .int x :: st, w) ↔ Wp (xL_law θ n lim) Q (302, lo, .int (x + y) :: st, w) := tt_iadd (hxL_law θ n lim) dL_law_301
theorem eL_law_302  : Wp (xL_law θ n lim) Q (302, lo, .int x :: .ref a :: st, w) ↔ (vp_in x (rGn w a) ∧ Wp (xL_law θ n lim) Q (303, lo, .int (rGv w a x.toNatClampNeg) :: st, w)) := tt_iaload (hxL_law θ n lim) dL_law_302
theorem eL_law_303  : Wp (xL_law θ n lim) Q (303, [some (.ref a), o1, o2, o3], st, w) ↔ Wp (xL_law θ n lim) Q (304, [some (.ref a), o1, o2, o3], .ref a :: st, w) := tt_aload_n (hxL_law θ n lim) dL_law_303 rfl
theorem eL_law_304  : Wp (xL_law θ n lim) Q (304, [o0, o1, o2, some (.int x)], st, w) ↔ Wp (xL_law θ n lim) Q (305, [o0, o1, o2, some (.int x)], .int x :: st, w) := tt_iload_n (hxL_law θ n lim) dL_law_304 rfl
theorem eL_law_305  : Wp (xL_law θ n lim) Q (305, lo, st, w) ↔ Wp (xL_law θ n lim) Q (306, lo, .int 3 :: st, w) := tt_iconst (hxL_law θ n lim) dL_law_305 (by decide)
theorem eL_law_306  : Wp (xL_law θ n lim) Q (306, lo, .int y :: .int x :: st, w) ↔ Wp (xL_law θ n lim) Q (307, lo, .int (x + y) :: st, w) := tt_iadd (hxL_law θ n lim) dL_law_306
theorem eL_law_307  : Wp (xL_law θ n lim) Q (307, lo, .int x :: .ref a :: st, w) ↔ (vp_in x (rGn w a) ∧ Wp (xL_law θ n lim) Q (308, lo, .int (rGv w a x.toNatClampNeg) :: st, w)) := tt_iaload (hxL_law θ n lim) dL_law_307
theorem eL_law_308 {z0 : Int32} {z1 : Int32} {z2 : Int32} {z3 : Nat} {z4 : Int32} : Wp (xL_law θ n lim) Q (308, lo, [.int z0, .int z1, .int z2, .ref z3, .int z4], w) ↔ (rIs w z3 5 ∧ sg θ n 100 [.ref z3, .int z2, .int z1, .int z0] w (fun v w' => Wp (xL_law θ n lim) Q (311, lo, v.toList ++ [.int z4], w'))) := tt_callV (As := [.int z2, .int z1, .int z0]) (r := [.int z4]) (hxL_law θ n lim) dL_law_308 lkC_14_31 mX6_set ⟨rfl, rfl⟩ rfl rfl (Nat.le_of_ble_eq_true rfl) rfl
theorem eL_law_311  : Wp (xL_law θ n lim) Q (311, lo, .int y :: .int x :: st, w) ↔ if x = y then Wp (xL_law θ n lim) Q (1147, lo, st, w) else Wp (xL_law θ n lim) Q (314, lo, st, w) := tt_ic_eq (hxL_law θ n lim) dL_law_311 (by decide)
theorem eL_law_314  : Wp (xL_law θ n lim) Q (314, lo, st, w) ↔ Wp (xL_law θ n lim) Q (315, lo, .int 0 :: st, w) := tt_iconst (hxL_law θ n lim) dL_law_314 (by decide)
theorem eL_law_315  : Wp (xL_law θ n lim) Q (315, lo, [.int x], w) ↔ (narrow .boolean (.int x) = .int x ∧ Q (some (.int x)) w) := tt_iret (hxL_law θ n lim) dL_law_315 rfl
theorem eL_law_316  : Wp (xL_law θ n lim) Q (316, [o0, some (.ref a), o2, o3], st, w) ↔ Wp (xL_law θ n lim) Q (317, [o0, some (.ref a), o2, o3], .ref a :: st, w) := tt_aload_n (hxL_law θ n lim) dL_law_316 rfl
theorem eL_law_317  : Wp (xL_law θ n lim) Q (317, [some (.ref a), o1, o2, o3], st, w) ↔ Wp (xL_law θ n lim) Q (318, [some (.ref a), o1, o2, o3], .ref a :: st, w) := tt_aload_n (hxL_law θ n lim) dL_law_317 rfl
theorem eL_law_318  : Wp (xL_law θ n lim) Q (318, [o0, o1, o2, some (.int x)], st, w) ↔ Wp (xL_law θ n lim) Q (319, [o0, o1, o2, some (.int x)], .int x :: st, w) := tt_iload_n (hxL_law θ n lim) dL_law_318 rfl
theorem eL_law_319  : Wp (xL_law θ n lim) Q (319, lo, st, w) ↔ Wp (xL_law θ n lim) Q (320, lo, .int 1 :: st, w) := tt_iconst (hxL_law θ n lim) dL_law_319 (by decide)
theorem eL_law_320  : Wp (xL_law θ n lim) Q (320, lo, .int y :: .int x :: st, w) ↔ Wp (xL_law θ n lim) Q (321, lo, .int (x + y) :: st, w) := tt_iadd (hxL_law θ n lim) dL_law_320
theorem eL_law_321  : Wp (xL_law θ n lim) Q (321, lo, .int x :: .ref a :: st, w) ↔ (vp_in x (rGn w a) ∧ Wp (xL_law θ n lim) Q (322, lo, .int (rGv w a x.toNatClampNeg) :: st, w)) := tt_iaload (hxL_law θ n lim) dL_law_321
theorem eL_law_322  : Wp (xL_law θ n lim) Q (322, [some (.ref a), o1, o2, o3], st, w) ↔ Wp (xL_law θ n lim) Q (323, [some (.ref a), o1, o2, o3], .ref a :: st, w) := tt_aload_n (hxL_law θ n lim) dL_law_322 rfl
theorem eL_law_323  : Wp (xL_law θ n lim) Q (323, [o0, o1, o2, some (.int x)], st, w) ↔ Wp (xL_law θ n lim) Q (324, [o0, o1, o2, some (.int x)], .int x :: st, w) := tt_iload_n (hxL_law θ n lim) dL_law_323 rfl
theorem eL_law_324  : Wp (xL_law θ n lim) Q (324, lo, st, w) ↔ Wp (xL_law θ n lim) Q (325, lo, .int 2 :: st, w) := tt_iconst (hxL_law θ n lim) dL_law_324 (by decide)
theorem eL_law_325  : Wp (xL_law θ n lim) Q (325, lo, .int y :: .int x :: st, w) ↔ Wp (xL_law θ n lim) Q (326, lo, .int (x + y) :: st, w) := tt_iadd (hxL_law θ n lim) dL_law_325
theorem eL_law_326  : Wp (xL_law θ n lim) Q (326, lo, .int x :: .ref a :: st, w) ↔ (vp_in x (rGn w a) ∧ Wp (xL_law θ n lim) Q (327, lo, .int (rGv w a x.toNatClampNeg) :: st, w)) := tt_iaload (hxL_law θ n lim) dL_law_326
theorem eL_law_327 {z0 : Int32} {z1 : Int32} {z2 : Nat} : Wp (xL_law θ n lim) Q (327, lo, [.int z0, .int z1, .ref z2], w) ↔ (rIs w z2 4 ∧ sg θ n 45 [.ref z2, .int z1, .int z0] w (fun v w' => Wp (xL_law θ n lim) Q (330, lo, v.toList ++ [], w'))) := tt_callV (As := [.int z1, .int z0]) (r := []) (hxL_law θ n lim) dL_law_327 lkC_14_32 mX5_turn ⟨rfl, rfl⟩ rfl rfl (Nat.le_of_ble_eq_true rfl) rfl
theorem eL_law_330  : Wp (xL_law θ n lim) Q (330, [o0, o1, some (.ref a), o3], st, w) ↔ Wp (xL_law θ n lim) Q (331, [o0, o1, some (.ref a), o3], .ref a :: st, w) := tt_aload_n (hxL_law θ n lim) dL_law_330 rfl
theorem eL_law_331  : Wp (xL_law θ n lim) Q (331, [some (.ref a), o1, o2, o3], st, w) ↔ Wp (xL_law θ n lim) Q (332, [some (.ref a), o1, o2, o3], .ref a :: st, w) := tt_aload_n (hxL_law θ n lim) dL_law_331 rfl
theorem eL_law_332  : Wp (xL_law θ n lim) Q (332, [o0, o1, o2, some (.int x)], st, w) ↔ Wp (xL_law θ n lim) Q (333, [o0, o1, o2, some (.int x)], .int x :: st, w) := tt_iload_n (hxL_law θ n lim) dL_law_332 rfl
theorem eL_law_333  : Wp (xL_law θ n lim) Q (333, lo, st, w) ↔ Wp (xL_law θ n lim) Q (334, lo, .int 1 :: st, w) := tt_iconst (hxL_law θ n lim) dL_law_333 (by decide)
theorem eL_law_334  : Wp (xL_law θ n lim) Q (334, lo, .int y :: .int x :: st, w) ↔ Wp (xL_law θ n lim) Q (335, lo, .int (x + y) :: st, w) := tt_iadd (hxL_law θ n lim) dL_law_334
theorem eL_law_335  : Wp (xL_law θ n lim) Q (335, lo, .int x :: .ref a :: st, w) ↔ (vp_in x (rGn w a) ∧ Wp (xL_law θ n lim) Q (336, lo, .int (rGv w a x.toNatClampNeg) :: st, w)) := tt_iaload (hxL_law θ n lim) dL_law_335
theorem eL_law_336  : Wp (xL_law θ n lim) Q (336, [some (.ref a), o1, o2, o3], st, w) ↔ Wp (xL_law θ n lim) Q (337, [some (.ref a), o1, o2, o3], .ref a :: st, w) := tt_aload_n (hxL_law θ n lim) dL_law_336 rfl
theorem eL_law_337  : Wp (xL_law θ n lim) Q (337, [o0, o1, o2, some (.int x)], st, w) ↔ Wp (xL_law θ n lim) Q (338, [o0, o1, o2, some (.int x)], .int x :: st, w) := tt_iload_n (hxL_law θ n lim) dL_law_337 rfl
theorem eL_law_338  : Wp (xL_law θ n lim) Q (338, lo, st, w) ↔ Wp (xL_law θ n lim) Q (339, lo, .int 2 :: st, w) := tt_iconst (hxL_law θ n lim) dL_law_338 (by decide)
theorem eL_law_339  : Wp (xL_law θ n lim) Q (339, lo, .int y :: .int x :: st, w) ↔ Wp (xL_law θ n lim) Q (340, lo, .int (x + y) :: st, w) := tt_iadd (hxL_law θ n lim) dL_law_339
theorem eL_law_340  : Wp (xL_law θ n lim) Q (340, lo, .int x :: .ref a :: st, w) ↔ (vp_in x (rGn w a) ∧ Wp (xL_law θ n lim) Q (341, lo, .int (rGv w a x.toNatClampNeg) :: st, w)) := tt_iaload (hxL_law θ n lim) dL_law_340
theorem eL_law_341 {z0 : Int32} {z1 : Int32} {z2 : Nat} {z3 : Int32} : Wp (xL_law θ n lim) Q (341, lo, [.int z0, .int z1, .ref z2, .int z3], w) ↔ (rIs w z2 5 ∧ sg θ n 102 [.ref z2, .int z1, .int z0] w (fun v w' => Wp (xL_law θ n lim) Q (344, lo, v.toList ++ [.int z3], w'))) := tt_callV (As := [.int z1, .int z0]) (r := [.int z3]) (hxL_law θ n lim) dL_law_341 lkC_14_35 mX6_turn ⟨rfl, rfl⟩ rfl rfl (Nat.le_of_ble_eq_true rfl) rfl
theorem eL_law_344  : Wp (xL_law θ n lim) Q (344, lo, .int y :: .int x :: st, w) ↔ if x = y then Wp (xL_law θ n lim) Q (1147, lo, st, w) else Wp (xL_law θ n lim) Q (347, lo, st, w) := tt_ic_eq (hxL_law θ n lim) dL_law_344 (by decide)
theorem eL_law_347  : Wp (xL_law θ n lim) Q (347, lo, st, w) ↔ Wp (xL_law θ n lim) Q (348, lo, .int 0 :: st, w) := tt_iconst (hxL_law θ n lim) dL_law_347 (by decide)
theorem eL_law_348  : Wp (xL_law θ n lim) Q (348, lo, [.int x], w) ↔ (narrow .boolean (.int x) = .int x ∧ Q (some (.int x)) w) := tt_iret (hxL_law θ n lim) dL_law_348 rfl
theorem eL_law_349  : Wp (xL_law θ n lim) Q (349, [o0, some (.ref a), o2, o3], st, w) ↔ Wp (xL_law θ n lim) Q (350, [o0, some (.ref a), o2, o3], .ref a :: st, w) := tt_aload_n (hxL_law θ n lim) dL_law_349 rfl
theorem eL_law_350  : Wp (xL_law θ n lim) Q (350, [some (.ref a), o1, o2, o3], st, w) ↔ Wp (xL_law θ n lim) Q (351, [some (.ref a), o1, o2, o3], .ref a :: st, w) := tt_aload_n (hxL_law θ n lim) dL_law_350 rfl
theorem eL_law_351  : Wp (xL_law θ n lim) Q (351, [o0, o1, o2, some (.int x)], st, w) ↔ Wp (xL_law θ n lim) Q (352, [o0, o1, o2, some (.int x)], .int x :: st, w) := tt_iload_n (hxL_law θ n lim) dL_law_351 rfl
theorem eL_law_352  : Wp (xL_law θ n lim) Q (352, lo, st, w) ↔ Wp (xL_law θ n lim) Q (353, lo, .int 1 :: st, w) := tt_iconst (hxL_law θ n lim) dL_law_352 (by decide)
theorem eL_law_353  : Wp (xL_law θ n lim) Q (353, lo, .int y :: .int x :: st, w) ↔ Wp (xL_law θ n lim) Q (354, lo, .int (x + y) :: st, w) := tt_iadd (hxL_law θ n lim) dL_law_353
theorem eL_law_354  : Wp (xL_law θ n lim) Q (354, lo, .int x :: .ref a :: st, w) ↔ (vp_in x (rGn w a) ∧ Wp (xL_law θ n lim) Q (355, lo, .int (rGv w a x.toNatClampNeg) :: st, w)) := tt_iaload (hxL_law θ n lim) dL_law_354
theorem eL_law_355  : Wp (xL_law θ n lim) Q (355, [some (.ref a), o1, o2, o3], st, w) ↔ Wp (xL_law θ n lim) Q (356, [some (.ref a), o1, o2, o3], .ref a :: st, w) := tt_aload_n (hxL_law θ n lim) dL_law_355 rfl
theorem eL_law_356  : Wp (xL_law θ n lim) Q (356, [o0, o1, o2, some (.int x)], st, w) ↔ Wp (xL_law θ n lim) Q (357, [o0, o1, o2, some (.int x)], .int x :: st, w) := tt_iload_n (hxL_law θ n lim) dL_law_356 rfl
theorem eL_law_357  : Wp (xL_law θ n lim) Q (357, lo, st, w) ↔ Wp (xL_law θ n lim) Q (358, lo, .int 2 :: st, w) := tt_iconst (hxL_law θ n lim) dL_law_357 (by decide)
theorem eL_law_358  : Wp (xL_law θ n lim) Q (358, lo, .int y :: .int x :: st, w) ↔ Wp (xL_law θ n lim) Q (359, lo, .int (x + y) :: st, w) := tt_iadd (hxL_law θ n lim) dL_law_358
theorem eL_law_359  : Wp (xL_law θ n lim) Q (359, lo, .int x :: .ref a :: st, w) ↔ (vp_in x (rGn w a) ∧ Wp (xL_law θ n lim) Q (360, lo, .int (rGv w a x.toNatClampNeg) :: st, w)) := tt_iaload (hxL_law θ n lim) dL_law_359
theorem eL_law_360 {z0 : Int32} {z1 : Int32} {z2 : Nat} : Wp (xL_law θ n lim) Q (360, lo, [.int z0, .int z1, .ref z2], w) ↔ (rIs w z2 4 ∧ sg θ n 46 [.ref z2, .int z1, .int z0] w (fun v w' => Wp (xL_law θ n lim) Q (363, lo, v.toList ++ [], w'))) := tt_callV (As := [.int z1, .int z0]) (r := []) (hxL_law θ n lim) dL_law_360 lkC_14_36 mX5_as ⟨rfl, rfl⟩ rfl rfl (Nat.le_of_ble_eq_true rfl) rfl
theorem eL_law_363  : Wp (xL_law θ n lim) Q (363, [o0, o1, some (.ref a), o3], st, w) ↔ Wp (xL_law θ n lim) Q (364, [o0, o1, some (.ref a), o3], .ref a :: st, w) := tt_aload_n (hxL_law θ n lim) dL_law_363 rfl
theorem eL_law_364  : Wp (xL_law θ n lim) Q (364, [some (.ref a), o1, o2, o3], st, w) ↔ Wp (xL_law θ n lim) Q (365, [some (.ref a), o1, o2, o3], .ref a :: st, w) := tt_aload_n (hxL_law θ n lim) dL_law_364 rfl
theorem eL_law_365  : Wp (xL_law θ n lim) Q (365, [o0, o1, o2, some (.int x)], st, w) ↔ Wp (xL_law θ n lim) Q (366, [o0, o1, o2, some (.int x)], .int x :: st, w) := tt_iload_n (hxL_law θ n lim) dL_law_365 rfl
theorem eL_law_366  : Wp (xL_law θ n lim) Q (366, lo, st, w) ↔ Wp (xL_law θ n lim) Q (367, lo, .int 1 :: st, w) := tt_iconst (hxL_law θ n lim) dL_law_366 (by decide)
theorem eL_law_367  : Wp (xL_law θ n lim) Q (367, lo, .int y :: .int x :: st, w) ↔ Wp (xL_law θ n lim) Q (368, lo, .int (x + y) :: st, w) := tt_iadd (hxL_law θ n lim) dL_law_367
theorem eL_law_368  : Wp (xL_law θ n lim) Q (368, lo, .int x :: .ref a :: st, w) ↔ (vp_in x (rGn w a) ∧ Wp (xL_law θ n lim) Q (369, lo, .int (rGv w a x.toNatClampNeg) :: st, w)) := tt_iaload (hxL_law θ n lim) dL_law_368
theorem eL_law_369  : Wp (xL_law θ n lim) Q (369, [some (.ref a), o1, o2, o3], st, w) ↔ Wp (xL_law θ n lim) Q (370, [some (.ref a), o1, o2, o3], .ref a :: st, w) := tt_aload_n (hxL_law θ n lim) dL_law_369 rfl
theorem eL_law_370  : Wp (xL_law θ n lim) Q (370, [o0, o1, o2, some (.int x)], st, w) ↔ Wp (xL_law θ n lim) Q (371, [o0, o1, o2, some (.int x)], .int x :: st, w) := tt_iload_n (hxL_law θ n lim) dL_law_370 rfl
theorem eL_law_371  : Wp (xL_law θ n lim) Q (371, lo, st, w) ↔ Wp (xL_law θ n lim) Q (372, lo, .int 2 :: st, w) := tt_iconst (hxL_law θ n lim) dL_law_371 (by decide)
theorem eL_law_372  : Wp (xL_law θ n lim) Q (372, lo, .int y :: .int x :: st, w) ↔ Wp (xL_law θ n lim) Q (373, lo, .int (x + y) :: st, w) := tt_iadd (hxL_law θ n lim) dL_law_372
theorem eL_law_373  : Wp (xL_law θ n lim) Q (373, lo, .int x :: .ref a :: st, w) ↔ (vp_in x (rGn w a) ∧ Wp (xL_law θ n lim) Q (374, lo, .int (rGv w a x.toNatClampNeg) :: st, w)) := tt_iaload (hxL_law θ n lim) dL_law_373
theorem eL_law_374 {z0 : Int32} {z1 : Int32} {z2 : Nat} {z3 : Int32} : Wp (xL_law θ n lim) Q (374, lo, [.int z0, .int z1, .ref z2, .int z3], w) ↔ (rIs w z2 5 ∧ sg θ n 103 [.ref z2, .int z1, .int z0] w (fun v w' => Wp (xL_law θ n lim) Q (377, lo, v.toList ++ [.int z3], w'))) := tt_callV (As := [.int z1, .int z0]) (r := [.int z3]) (hxL_law θ n lim) dL_law_374 lkC_14_39 mX6_as ⟨rfl, rfl⟩ rfl rfl (Nat.le_of_ble_eq_true rfl) rfl
theorem eL_law_377  : Wp (xL_law θ n lim) Q (377, lo, .int y :: .int x :: st, w) ↔ if x = y then Wp (xL_law θ n lim) Q (1147, lo, st, w) else Wp (xL_law θ n lim) Q (380, lo, st, w) := tt_ic_eq (hxL_law θ n lim) dL_law_377 (by decide)
theorem eL_law_380  : Wp (xL_law θ n lim) Q (380, lo, st, w) ↔ Wp (xL_law θ n lim) Q (381, lo, .int 0 :: st, w) := tt_iconst (hxL_law θ n lim) dL_law_380 (by decide)
theorem eL_law_381  : Wp (xL_law θ n lim) Q (381, lo, [.int x], w) ↔ (narrow .boolean (.int x) = .int x ∧ Q (some (.int x)) w) := tt_iret (hxL_law θ n lim) dL_law_381 rfl
theorem eL_law_382  : Wp (xL_law θ n lim) Q (382, [o0, some (.ref a), o2, o3], st, w) ↔ Wp (xL_law θ n lim) Q (383, [o0, some (.ref a), o2, o3], .ref a :: st, w) := tt_aload_n (hxL_law θ n lim) dL_law_382 rfl
theorem eL_law_383  : Wp (xL_law θ n lim) Q (383, [some (.ref a), o1, o2, o3], st, w) ↔ Wp (xL_law θ n lim) Q (384, [some (.ref a), o1, o2, o3], .ref a :: st, w) := tt_aload_n (hxL_law θ n lim) dL_law_383 rfl
theorem eL_law_384  : Wp (xL_law θ n lim) Q (384, [o0, o1, o2, some (.int x)], st, w) ↔ Wp (xL_law θ n lim) Q (385, [o0, o1, o2, some (.int x)], .int x :: st, w) := tt_iload_n (hxL_law θ n lim) dL_law_384 rfl
theorem eL_law_385  : Wp (xL_law θ n lim) Q (385, lo, st, w) ↔ Wp (xL_law θ n lim) Q (386, lo, .int 1 :: st, w) := tt_iconst (hxL_law θ n lim) dL_law_385 (by decide)
theorem eL_law_386  : Wp (xL_law θ n lim) Q (386, lo, .int y :: .int x :: st, w) ↔ Wp (xL_law θ n lim) Q (387, lo, .int (x + y) :: st, w) := tt_iadd (hxL_law θ n lim) dL_law_386
theorem eL_law_387  : Wp (xL_law θ n lim) Q (387, lo, .int x :: .ref a :: st, w) ↔ (vp_in x (rGn w a) ∧ Wp (xL_law θ n lim) Q (388, lo, .int (rGv w a x.toNatClampNeg) :: st, w)) := tt_iaload (hxL_law θ n lim) dL_law_387
theorem eL_law_388 {z0 : Int32} {z1 : Nat} : Wp (xL_law θ n lim) Q (388, lo, [.int z0, .ref z1], w) ↔ (rIs w z1 4 ∧ sg θ n 47 [.ref z1, .int z0] w (fun v w' => Wp (xL_law θ n lim) Q (391, lo, v.toList ++ [], w'))) := tt_callV (As := [.int z0]) (r := []) (hxL_law θ n lim) dL_law_388 lkC_14_40 mX5_sees ⟨rfl, rfl⟩ rfl rfl (Nat.le_of_ble_eq_true rfl) rfl
theorem eL_law_391  : Wp (xL_law θ n lim) Q (391, [o0, o1, some (.ref a), o3], st, w) ↔ Wp (xL_law θ n lim) Q (392, [o0, o1, some (.ref a), o3], .ref a :: st, w) := tt_aload_n (hxL_law θ n lim) dL_law_391 rfl
theorem eL_law_392  : Wp (xL_law θ n lim) Q (392, [some (.ref a), o1, o2, o3], st, w) ↔ Wp (xL_law θ n lim) Q (393, [some (.ref a), o1, o2, o3], .ref a :: st, w) := tt_aload_n (hxL_law θ n lim) dL_law_392 rfl
theorem eL_law_393  : Wp (xL_law θ n lim) Q (393, [o0, o1, o2, some (.int x)], st, w) ↔ Wp (xL_law θ n lim) Q (394, [o0, o1, o2, some (.int x)], .int x :: st, w) := tt_iload_n (hxL_law θ n lim) dL_law_393 rfl
theorem eL_law_394  : Wp (xL_law θ n lim) Q (394, lo, st, w) ↔ Wp (xL_law θ n lim) Q (395, lo, .int 1 :: st, w) := tt_iconst (hxL_law θ n lim) dL_law_394 (by decide)
theorem eL_law_395  : Wp (xL_law θ n lim) Q (395, lo, .int y :: .int x :: st, w) ↔ Wp (xL_law θ n lim) Q (396, lo, .int (x + y) :: st, w) := tt_iadd (hxL_law θ n lim) dL_law_395
theorem eL_law_396  : Wp (xL_law θ n lim) Q (396, lo, .int x :: .ref a :: st, w) ↔ (vp_in x (rGn w a) ∧ Wp (xL_law θ n lim) Q (397, lo, .int (rGv w a x.toNatClampNeg) :: st, w)) := tt_iaload (hxL_law θ n lim) dL_law_396
theorem eL_law_397 {z0 : Int32} {z1 : Nat} {z2 : Int32} : Wp (xL_law θ n lim) Q (397, lo, [.int z0, .ref z1, .int z2], w) ↔ (rIs w z1 5 ∧ sg θ n 104 [.ref z1, .int z0] w (fun v w' => Wp (xL_law θ n lim) Q (400, lo, v.toList ++ [.int z2], w'))) := tt_callV (As := [.int z0]) (r := [.int z2]) (hxL_law θ n lim) dL_law_397 lkC_14_43 mX6_sees ⟨rfl, rfl⟩ rfl rfl (Nat.le_of_ble_eq_true rfl) rfl
theorem eL_law_400  : Wp (xL_law θ n lim) Q (400, lo, .int y :: .int x :: st, w) ↔ if x = y then Wp (xL_law θ n lim) Q (1147, lo, st, w) else Wp (xL_law θ n lim) Q (403, lo, st, w) := tt_ic_eq (hxL_law θ n lim) dL_law_400 (by decide)
theorem eL_law_403  : Wp (xL_law θ n lim) Q (403, lo, st, w) ↔ Wp (xL_law θ n lim) Q (404, lo, .int 0 :: st, w) := tt_iconst (hxL_law θ n lim) dL_law_403 (by decide)
theorem eL_law_404  : Wp (xL_law θ n lim) Q (404, lo, [.int x], w) ↔ (narrow .boolean (.int x) = .int x ∧ Q (some (.int x)) w) := tt_iret (hxL_law θ n lim) dL_law_404 rfl
theorem eL_law_405  : Wp (xL_law θ n lim) Q (405, [o0, some (.ref a), o2, o3], st, w) ↔ Wp (xL_law θ n lim) Q (406, [o0, some (.ref a), o2, o3], .ref a :: st, w) := tt_aload_n (hxL_law θ n lim) dL_law_405 rfl
theorem eL_law_406  : Wp (xL_law θ n lim) Q (406, [some (.ref a), o1, o2, o3], st, w) ↔ Wp (xL_law θ n lim) Q (407, [some (.ref a), o1, o2, o3], .ref a :: st, w) := tt_aload_n (hxL_law θ n lim) dL_law_406 rfl
theorem eL_law_407  : Wp (xL_law θ n lim) Q (407, [o0, o1, o2, some (.int x)], st, w) ↔ Wp (xL_law θ n lim) Q (408, [o0, o1, o2, some (.int x)], .int x :: st, w) := tt_iload_n (hxL_law θ n lim) dL_law_407 rfl
theorem eL_law_408  : Wp (xL_law θ n lim) Q (408, lo, st, w) ↔ Wp (xL_law θ n lim) Q (409, lo, .int 1 :: st, w) := tt_iconst (hxL_law θ n lim) dL_law_408 (by decide)
theorem eL_law_409  : Wp (xL_law θ n lim) Q (409, lo, .int y :: .int x :: st, w) ↔ Wp (xL_law θ n lim) Q (410, lo, .int (x + y) :: st, w) := tt_iadd (hxL_law θ n lim) dL_law_409
theorem eL_law_410  : Wp (xL_law θ n lim) Q (410, lo, .int x :: .ref a :: st, w) ↔ (vp_in x (rGn w a) ∧ Wp (xL_law θ n lim) Q (411, lo, .int (rGv w a x.toNatClampNeg) :: st, w)) := tt_iaload (hxL_law θ n lim) dL_law_410
theorem eL_law_411 {z0 : Int32} {z1 : Nat} : Wp (xL_law θ n lim) Q (411, lo, [.int z0, .ref z1], w) ↔ (rIs w z1 4 ∧ sg θ n 48 [.ref z1, .int z0] w (fun v w' => Wp (xL_law θ n lim) Q (414, lo, v.toList ++ [], w'))) := tt_callV (As := [.int z0]) (r := []) (hxL_law θ n lim) dL_law_411 lkC_14_44 mX5_leader ⟨rfl, rfl⟩ rfl rfl (Nat.le_of_ble_eq_true rfl) rfl
theorem eL_law_414  : Wp (xL_law θ n lim) Q (414, [o0, o1, some (.ref a), o3], st, w) ↔ Wp (xL_law θ n lim) Q (415, [o0, o1, some (.ref a), o3], .ref a :: st, w) := tt_aload_n (hxL_law θ n lim) dL_law_414 rfl
theorem eL_law_415  : Wp (xL_law θ n lim) Q (415, [some (.ref a), o1, o2, o3], st, w) ↔ Wp (xL_law θ n lim) Q (416, [some (.ref a), o1, o2, o3], .ref a :: st, w) := tt_aload_n (hxL_law θ n lim) dL_law_415 rfl
theorem eL_law_416  : Wp (xL_law θ n lim) Q (416, [o0, o1, o2, some (.int x)], st, w) ↔ Wp (xL_law θ n lim) Q (417, [o0, o1, o2, some (.int x)], .int x :: st, w) := tt_iload_n (hxL_law θ n lim) dL_law_416 rfl
theorem eL_law_417  : Wp (xL_law θ n lim) Q (417, lo, st, w) ↔ Wp (xL_law θ n lim) Q (418, lo, .int 1 :: st, w) := tt_iconst (hxL_law θ n lim) dL_law_417 (by decide)
theorem eL_law_418  : Wp (xL_law θ n lim) Q (418, lo, .int y :: .int x :: st, w) ↔ Wp (xL_law θ n lim) Q (419, lo, .int (x + y) :: st, w) := tt_iadd (hxL_law θ n lim) dL_law_418
theorem eL_law_419  : Wp (xL_law θ n lim) Q (419, lo, .int x :: .ref a :: st, w) ↔ (vp_in x (rGn w a) ∧ Wp (xL_law θ n lim) Q (420, lo, .int (rGv w a x.toNatClampNeg) :: st, w)) := tt_iaload (hxL_law θ n lim) dL_law_419
theorem eL_law_420 {z0 : Int32} {z1 : Nat} {z2 : Int32} : Wp (xL_law θ n lim) Q (420, lo, [.int z0, .ref z1, .int z2], w) ↔ (rIs w z1 5 ∧ sg θ n 105 [.ref z1, .int z0] w (fun v w' => Wp (xL_law θ n lim) Q (423, lo, v.toList ++ [.int z2], w'))) := tt_callV (As := [.int z0]) (r := [.int z2]) (hxL_law θ n lim) dL_law_420 lkC_14_47 mX6_leader ⟨rfl, rfl⟩ rfl rfl (Nat.le_of_ble_eq_true rfl) rfl
theorem eL_law_423  : Wp (xL_law θ n lim) Q (423, lo, .int y :: .int x :: st, w) ↔ if x = y then Wp (xL_law θ n lim) Q (1147, lo, st, w) else Wp (xL_law θ n lim) Q (426, lo, st, w) := tt_ic_eq (hxL_law θ n lim) dL_law_423 (by decide)
theorem eL_law_426  : Wp (xL_law θ n lim) Q (426, lo, st, w) ↔ Wp (xL_law θ n lim) Q (427, lo, .int 0 :: st, w) := tt_iconst (hxL_law θ n lim) dL_law_426 (by decide)
theorem eL_law_427  : Wp (xL_law θ n lim) Q (427, lo, [.int x], w) ↔ (narrow .boolean (.int x) = .int x ∧ Q (some (.int x)) w) := tt_iret (hxL_law θ n lim) dL_law_427 rfl
theorem eL_law_428  : Wp (xL_law θ n lim) Q (428, [o0, some (.ref a), o2, o3], st, w) ↔ Wp (xL_law θ n lim) Q (429, [o0, some (.ref a), o2, o3], .ref a :: st, w) := tt_aload_n (hxL_law θ n lim) dL_law_428 rfl
theorem eL_law_429  : Wp (xL_law θ n lim) Q (429, [some (.ref a), o1, o2, o3], st, w) ↔ Wp (xL_law θ n lim) Q (430, [some (.ref a), o1, o2, o3], .ref a :: st, w) := tt_aload_n (hxL_law θ n lim) dL_law_429 rfl
theorem eL_law_430  : Wp (xL_law θ n lim) Q (430, [o0, o1, o2, some (.int x)], st, w) ↔ Wp (xL_law θ n lim) Q (431, [o0, o1, o2, some (.int x)], .int x :: st, w) := tt_iload_n (hxL_law θ n lim) dL_law_430 rfl
theorem eL_law_431  : Wp (xL_law θ n lim) Q (431, lo, st, w) ↔ Wp (xL_law θ n lim) Q (432, lo, .int 1 :: st, w) := tt_iconst (hxL_law θ n lim) dL_law_431 (by decide)
theorem eL_law_432  : Wp (xL_law θ n lim) Q (432, lo, .int y :: .int x :: st, w) ↔ Wp (xL_law θ n lim) Q (433, lo, .int (x + y) :: st, w) := tt_iadd (hxL_law θ n lim) dL_law_432
theorem eL_law_433  : Wp (xL_law θ n lim) Q (433, lo, .int x :: .ref a :: st, w) ↔ (vp_in x (rGn w a) ∧ Wp (xL_law θ n lim) Q (434, lo, .int (rGv w a x.toNatClampNeg) :: st, w)) := tt_iaload (hxL_law θ n lim) dL_law_433
theorem eL_law_434 {z0 : Int32} {z1 : Nat} : Wp (xL_law θ n lim) Q (434, lo, [.int z0, .ref z1], w) ↔ (rIs w z1 4 ∧ sg θ n 49 [.ref z1, .int z0] w (fun v w' => Wp (xL_law θ n lim) Q (437, lo, v.toList ++ [], w'))) := tt_callV (As := [.int z0]) (r := []) (hxL_law θ n lim) dL_law_434 lkC_14_48 mX5_minutes ⟨rfl, rfl⟩ rfl rfl (Nat.le_of_ble_eq_true rfl) rfl
theorem eL_law_437  : Wp (xL_law θ n lim) Q (437, [o0, o1, some (.ref a), o3], st, w) ↔ Wp (xL_law θ n lim) Q (438, [o0, o1, some (.ref a), o3], .ref a :: st, w) := tt_aload_n (hxL_law θ n lim) dL_law_437 rfl
theorem eL_law_438  : Wp (xL_law θ n lim) Q (438, [some (.ref a), o1, o2, o3], st, w) ↔ Wp (xL_law θ n lim) Q (439, [some (.ref a), o1, o2, o3], .ref a :: st, w) := tt_aload_n (hxL_law θ n lim) dL_law_438 rfl
theorem eL_law_439  : Wp (xL_law θ n lim) Q (439, [o0, o1, o2, some (.int x)], st, w) ↔ Wp (xL_law θ n lim) Q (440, [o0, o1, o2, some (.int x)], .int x :: st, w) := tt_iload_n (hxL_law θ n lim) dL_law_439 rfl
theorem eL_law_440  : Wp (xL_law θ n lim) Q (440, lo, st, w) ↔ Wp (xL_law θ n lim) Q (441, lo, .int 1 :: st, w) := tt_iconst (hxL_law θ n lim) dL_law_440 (by decide)
theorem eL_law_441  : Wp (xL_law θ n lim) Q (441, lo, .int y :: .int x :: st, w) ↔ Wp (xL_law θ n lim) Q (442, lo, .int (x + y) :: st, w) := tt_iadd (hxL_law θ n lim) dL_law_441
theorem eL_law_442  : Wp (xL_law θ n lim) Q (442, lo, .int x :: .ref a :: st, w) ↔ (vp_in x (rGn w a) ∧ Wp (xL_law θ n lim) Q (443, lo, .int (rGv w a x.toNatClampNeg) :: st, w)) := tt_iaload (hxL_law θ n lim) dL_law_442
theorem eL_law_443 {z0 : Int32} {z1 : Nat} {z2 : Int32} : Wp (xL_law θ n lim) Q (443, lo, [.int z0, .ref z1, .int z2], w) ↔ (rIs w z1 5 ∧ sg θ n 107 [.ref z1, .int z0] w (fun v w' => Wp (xL_law θ n lim) Q (446, lo, v.toList ++ [.int z2], w'))) := tt_callV (As := [.int z0]) (r := [.int z2]) (hxL_law θ n lim) dL_law_443 lkC_14_51 mX6_minutes ⟨rfl, rfl⟩ rfl rfl (Nat.le_of_ble_eq_true rfl) rfl
theorem eL_law_446  : Wp (xL_law θ n lim) Q (446, lo, .int y :: .int x :: st, w) ↔ if x = y then Wp (xL_law θ n lim) Q (1147, lo, st, w) else Wp (xL_law θ n lim) Q (449, lo, st, w) := tt_ic_eq (hxL_law θ n lim) dL_law_446 (by decide)
theorem eL_law_449  : Wp (xL_law θ n lim) Q (449, lo, st, w) ↔ Wp (xL_law θ n lim) Q (450, lo, .int 0 :: st, w) := tt_iconst (hxL_law θ n lim) dL_law_449 (by decide)
theorem eL_law_450  : Wp (xL_law θ n lim) Q (450, lo, [.int x], w) ↔ (narrow .boolean (.int x) = .int x ∧ Q (some (.int x)) w) := tt_iret (hxL_law θ n lim) dL_law_450 rfl
theorem eL_law_451  : Wp (xL_law θ n lim) Q (451, [o0, some (.ref a), o2, o3], st, w) ↔ Wp (xL_law θ n lim) Q (452, [o0, some (.ref a), o2, o3], .ref a :: st, w) := tt_aload_n (hxL_law θ n lim) dL_law_451 rfl
theorem eL_law_452  : Wp (xL_law θ n lim) Q (452, [some (.ref a), o1, o2, o3], st, w) ↔ Wp (xL_law θ n lim) Q (453, [some (.ref a), o1, o2, o3], .ref a :: st, w) := tt_aload_n (hxL_law θ n lim) dL_law_452 rfl
theorem eL_law_453  : Wp (xL_law θ n lim) Q (453, [o0, o1, o2, some (.int x)], st, w) ↔ Wp (xL_law θ n lim) Q (454, [o0, o1, o2, some (.int x)], .int x :: st, w) := tt_iload_n (hxL_law θ n lim) dL_law_453 rfl
theorem eL_law_454  : Wp (xL_law θ n lim) Q (454, lo, st, w) ↔ Wp (xL_law θ n lim) Q (455, lo, .int 1 :: st, w) := tt_iconst (hxL_law θ n lim) dL_law_454 (by decide)
theorem eL_law_455  : Wp (xL_law θ n lim) Q (455, lo, .int y :: .int x :: st, w) ↔ Wp (xL_law θ n lim) Q (456, lo, .int (x + y) :: st, w) := tt_iadd (hxL_law θ n lim) dL_law_455
theorem eL_law_456  : Wp (xL_law θ n lim) Q (456, lo, .int x :: .ref a :: st, w) ↔ (vp_in x (rGn w a) ∧ Wp (xL_law θ n lim) Q (457, lo, .int (rGv w a x.toNatClampNeg) :: st, w)) := tt_iaload (hxL_law θ n lim) dL_law_456
theorem eL_law_457 {z0 : Int32} {z1 : Nat} : Wp (xL_law θ n lim) Q (457, lo, [.int z0, .ref z1], w) ↔ (rIs w z1 4 ∧ sg θ n 50 [.ref z1, .int z0] w (fun v w' => Wp (xL_law θ n lim) Q (460, lo, v.toList ++ [], w'))) := tt_callV (As := [.int z0]) (r := []) (hxL_law θ n lim) dL_law_457 lkC_14_52 mX5_now ⟨rfl, rfl⟩ rfl rfl (Nat.le_of_ble_eq_true rfl) rfl
theorem eL_law_460  : Wp (xL_law θ n lim) Q (460, [o0, o1, some (.ref a), o3], st, w) ↔ Wp (xL_law θ n lim) Q (461, [o0, o1, some (.ref a), o3], .ref a :: st, w) := tt_aload_n (hxL_law θ n lim) dL_law_460 rfl
theorem eL_law_461  : Wp (xL_law θ n lim) Q (461, [some (.ref a), o1, o2, o3], st, w) ↔ Wp (xL_law θ n lim) Q (462, [some (.ref a), o1, o2, o3], .ref a :: st, w) := tt_aload_n (hxL_law θ n lim) dL_law_461 rfl
theorem eL_law_462  : Wp (xL_law θ n lim) Q (462, [o0, o1, o2, some (.int x)], st, w) ↔ Wp (xL_law θ n lim) Q (463, [o0, o1, o2, some (.int x)], .int x :: st, w) := tt_iload_n (hxL_law θ n lim) dL_law_462 rfl
theorem eL_law_463  : Wp (xL_law θ n lim) Q (463, lo, st, w) ↔ Wp (xL_law θ n lim) Q (464, lo, .int 1 :: st, w) := tt_iconst (hxL_law θ n lim) dL_law_463 (by decide)
theorem eL_law_464  : Wp (xL_law θ n lim) Q (464, lo, .int y :: .int x :: st, w) ↔ Wp (xL_law θ n lim) Q (465, lo, .int (x + y) :: st, w) := tt_iadd (hxL_law θ n lim) dL_law_464
theorem eL_law_465  : Wp (xL_law θ n lim) Q (465, lo, .int x :: .ref a :: st, w) ↔ (vp_in x (rGn w a) ∧ Wp (xL_law θ n lim) Q (466, lo, .int (rGv w a x.toNatClampNeg) :: st, w)) := tt_iaload (hxL_law θ n lim) dL_law_465
theorem eL_law_466 {z0 : Int32} {z1 : Nat} {z2 : Int32} : Wp (xL_law θ n lim) Q (466, lo, [.int z0, .ref z1, .int z2], w) ↔ (rIs w z1 5 ∧ sg θ n 118 [.ref z1, .int z0] w (fun v w' => Wp (xL_law θ n lim) Q (469, lo, v.toList ++ [.int z2], w'))) := tt_callV (As := [.int z0]) (r := [.int z2]) (hxL_law θ n lim) dL_law_466 lkC_14_55 mX6_now ⟨rfl, rfl⟩ rfl rfl (Nat.le_of_ble_eq_true rfl) rfl
theorem eL_law_469  : Wp (xL_law θ n lim) Q (469, lo, .int y :: .int x :: st, w) ↔ if x = y then Wp (xL_law θ n lim) Q (1147, lo, st, w) else Wp (xL_law θ n lim) Q (472, lo, st, w) := tt_ic_eq (hxL_law θ n lim) dL_law_469 (by decide)
theorem eL_law_472  : Wp (xL_law θ n lim) Q (472, lo, st, w) ↔ Wp (xL_law θ n lim) Q (473, lo, .int 0 :: st, w) := tt_iconst (hxL_law θ n lim) dL_law_472 (by decide)
theorem eL_law_473  : Wp (xL_law θ n lim) Q (473, lo, [.int x], w) ↔ (narrow .boolean (.int x) = .int x ∧ Q (some (.int x)) w) := tt_iret (hxL_law θ n lim) dL_law_473 rfl
theorem eL_law_474  : Wp (xL_law θ n lim) Q (474, [o0, some (.ref a), o2, o3], st, w) ↔ Wp (xL_law θ n lim) Q (475, [o0, some (.ref a), o2, o3], .ref a :: st, w) := tt_aload_n (hxL_law θ n lim) dL_law_474 rfl
theorem eL_law_475  : Wp (xL_law θ n lim) Q (475, [some (.ref a), o1, o2, o3], st, w) ↔ Wp (xL_law θ n lim) Q (476, [some (.ref a), o1, o2, o3], .ref a :: st, w) := tt_aload_n (hxL_law θ n lim) dL_law_475 rfl
theorem eL_law_476  : Wp (xL_law θ n lim) Q (476, [o0, o1, o2, some (.int x)], st, w) ↔ Wp (xL_law θ n lim) Q (477, [o0, o1, o2, some (.int x)], .int x :: st, w) := tt_iload_n (hxL_law θ n lim) dL_law_476 rfl
theorem eL_law_477  : Wp (xL_law θ n lim) Q (477, lo, st, w) ↔ Wp (xL_law θ n lim) Q (478, lo, .int 1 :: st, w) := tt_iconst (hxL_law θ n lim) dL_law_477 (by decide)
theorem eL_law_478  : Wp (xL_law θ n lim) Q (478, lo, .int y :: .int x :: st, w) ↔ Wp (xL_law θ n lim) Q (479, lo, .int (x + y) :: st, w) := tt_iadd (hxL_law θ n lim) dL_law_478
theorem eL_law_479  : Wp (xL_law θ n lim) Q (479, lo, .int x :: .ref a :: st, w) ↔ (vp_in x (rGn w a) ∧ Wp (xL_law θ n lim) Q (480, lo, .int (rGv w a x.toNatClampNeg) :: st, w)) := tt_iaload (hxL_law θ n lim) dL_law_479
theorem eL_law_480  : Wp (xL_law θ n lim) Q (480, [some (.ref a), o1, o2, o3], st, w) ↔ Wp (xL_law θ n lim) Q (481, [some (.ref a), o1, o2, o3], .ref a :: st, w) := tt_aload_n (hxL_law θ n lim) dL_law_480 rfl
theorem eL_law_481  : Wp (xL_law θ n lim) Q (481, [o0, o1, o2, some (.int x)], st, w) ↔ Wp (xL_law θ n lim) Q (482, [o0, o1, o2, some (.int x)], .int x :: st, w) := tt_iload_n (hxL_law θ n lim) dL_law_481 rfl
theorem eL_law_482  : Wp (xL_law θ n lim) Q (482, lo, st, w) ↔ Wp (xL_law θ n lim) Q (483, lo, .int 2 :: st, w) := tt_iconst (hxL_law θ n lim) dL_law_482 (by decide)
theorem eL_law_483  : Wp (xL_law θ n lim) Q (483, lo, .int y :: .int x :: st, w) ↔ Wp (xL_law θ n lim) Q (484, lo, .int (x + y) :: st, w) := tt_iadd (hxL_law θ n lim) dL_law_483
theorem eL_law_484  : Wp (xL_law θ n lim) Q (484, lo, .int x :: .ref a :: st, w) ↔ (vp_in x (rGn w a) ∧ Wp (xL_law θ n lim) Q (485, lo, .int (rGv w a x.toNatClampNeg) :: st, w)) := tt_iaload (hxL_law θ n lim) dL_law_484
theorem eL_law_485  : Wp (xL_law θ n lim) Q (485, [some (.ref a), o1, o2, o3], st, w) ↔ Wp (xL_law θ n lim) Q (486, [some (.ref a), o1, o2, o3], .ref a :: st, w) := tt_aload_n (hxL_law θ n lim) dL_law_485 rfl
theorem eL_law_486  : Wp (xL_law θ n lim) Q (486, [o0, o1, o2, some (.int x)], st, w) ↔ Wp (xL_law θ n lim) Q (487, [o0, o1, o2, some (.int x)], .int x :: st, w) := tt_iload_n (hxL_law θ n lim) dL_law_486 rfl
theorem eL_law_487  : Wp (xL_law θ n lim) Q (487, lo, st, w) ↔ Wp (xL_law θ n lim) Q (488, lo, .int 3 :: st, w) := tt_iconst (hxL_law θ n lim) dL_law_487 (by decide)
theorem eL_law_488  : Wp (xL_law θ n lim) Q (488, lo, .int y :: .int x :: st, w) ↔ Wp (xL_law θ n lim) Q (489, lo, .int (x + y) :: st, w) := tt_iadd (hxL_law θ n lim) dL_law_488
theorem eL_law_489  : Wp (xL_law θ n lim) Q (489, lo, .int x :: .ref a :: st, w) ↔ (vp_in x (rGn w a) ∧ Wp (xL_law θ n lim) Q (490, lo, .int (rGv w a x.toNatClampNeg) :: st, w)) := tt_iaload (hxL_law θ n lim) dL_law_489
theorem eL_law_490 {z0 : Int32} {z1 : Int32} {z2 : Int32} {z3 : Nat} : Wp (xL_law θ n lim) Q (490, lo, [.int z0, .int z1, .int z2, .ref z3], w) ↔ (rIs w z3 4 ∧ sg θ n 51 [.ref z3, .int z2, .int z1, .int z0] w (fun v w' => Wp (xL_law θ n lim) Q (493, lo, v.toList ++ [], w'))) := tt_callV (As := [.int z2, .int z1, .int z0]) (r := []) (hxL_law θ n lim) dL_law_490 lkC_14_56 mX5_on ⟨rfl, rfl⟩ rfl rfl (Nat.le_of_ble_eq_true rfl) rfl
theorem eL_law_493  : Wp (xL_law θ n lim) Q (493, [o0, o1, some (.ref a), o3], st, w) ↔ Wp (xL_law θ n lim) Q (494, [o0, o1, some (.ref a), o3], .ref a :: st, w) := tt_aload_n (hxL_law θ n lim) dL_law_493 rfl
theorem eL_law_494  : Wp (xL_law θ n lim) Q (494, [some (.ref a), o1, o2, o3], st, w) ↔ Wp (xL_law θ n lim) Q (495, [some (.ref a), o1, o2, o3], .ref a :: st, w) := tt_aload_n (hxL_law θ n lim) dL_law_494 rfl
theorem eL_law_495  : Wp (xL_law θ n lim) Q (495, [o0, o1, o2, some (.int x)], st, w) ↔ Wp (xL_law θ n lim) Q (496, [o0, o1, o2, some (.int x)], .int x :: st, w) := tt_iload_n (hxL_law θ n lim) dL_law_495 rfl
theorem eL_law_496  : Wp (xL_law θ n lim) Q (496, lo, st, w) ↔ Wp (xL_law θ n lim) Q (497, lo, .int 1 :: st, w) := tt_iconst (hxL_law θ n lim) dL_law_496 (by decide)
theorem eL_law_497  : Wp (xL_law θ n lim) Q (497, lo, .int y :: .int x :: st, w) ↔ Wp (xL_law θ n lim) Q (498, lo, .int (x + y) :: st, w) := tt_iadd (hxL_law θ n lim) dL_law_497
theorem eL_law_498  : Wp (xL_law θ n lim) Q (498, lo, .int x :: .ref a :: st, w) ↔ (vp_in x (rGn w a) ∧ Wp (xL_law θ n lim) Q (499, lo, .int (rGv w a x.toNatClampNeg) :: st, w)) := tt_iaload (hxL_law θ n lim) dL_law_498
theorem eL_law_499  : Wp (xL_law θ n lim) Q (499, [some (.ref a), o1, o2, o3], st, w) ↔ Wp (xL_law θ n lim) Q (500, [some (.ref a), o1, o2, o3], .ref a :: st, w) := tt_aload_n (hxL_law θ n lim) dL_law_499 rfl
theorem eL_law_500  : Wp (xL_law θ n lim) Q (500, [o0, o1, o2, some (.int x)], st, w) ↔ Wp (xL_law θ n lim) Q (501, [o0, o1, o2, some (.int x)], .int x :: st, w) := tt_iload_n (hxL_law θ n lim) dL_law_500 rfl
theorem eL_law_501  : Wp (xL_law θ n lim) Q (501, lo, st, w) ↔ Wp (xL_law θ n lim) Q (502, lo, .int 2 :: st, w) := tt_iconst (hxL_law θ n lim) dL_law_501 (by decide)
theorem eL_law_502  : Wp (xL_law θ n lim) Q (502, lo, .int y :: .int x :: st, w) ↔ Wp (xL_law θ n lim) Q (503, lo, .int (x + y) :: st, w) := tt_iadd (hxL_law θ n lim) dL_law_502
theorem eL_law_503  : Wp (xL_law θ n lim) Q (503, lo, .int x :: .ref a :: st, w) ↔ (vp_in x (rGn w a) ∧ Wp (xL_law θ n lim) Q (504, lo, .int (rGv w a x.toNatClampNeg) :: st, w)) := tt_iaload (hxL_law θ n lim) dL_law_503
theorem eL_law_504  : Wp (xL_law θ n lim) Q (504, [some (.ref a), o1, o2, o3], st, w) ↔ Wp (xL_law θ n lim) Q (505, [some (.ref a), o1, o2, o3], .ref a :: st, w) := tt_aload_n (hxL_law θ n lim) dL_law_504 rfl
theorem eL_law_505  : Wp (xL_law θ n lim) Q (505, [o0, o1, o2, some (.int x)], st, w) ↔ Wp (xL_law θ n lim) Q (506, [o0, o1, o2, some (.int x)], .int x :: st, w) := tt_iload_n (hxL_law θ n lim) dL_law_505 rfl
theorem eL_law_506  : Wp (xL_law θ n lim) Q (506, lo, st, w) ↔ Wp (xL_law θ n lim) Q (507, lo, .int 3 :: st, w) := tt_iconst (hxL_law θ n lim) dL_law_506 (by decide)
theorem eL_law_507  : Wp (xL_law θ n lim) Q (507, lo, .int y :: .int x :: st, w) ↔ Wp (xL_law θ n lim) Q (508, lo, .int (x + y) :: st, w) := tt_iadd (hxL_law θ n lim) dL_law_507
theorem eL_law_508  : Wp (xL_law θ n lim) Q (508, lo, .int x :: .ref a :: st, w) ↔ (vp_in x (rGn w a) ∧ Wp (xL_law θ n lim) Q (509, lo, .int (rGv w a x.toNatClampNeg) :: st, w)) := tt_iaload (hxL_law θ n lim) dL_law_508
theorem eL_law_509 {z0 : Int32} {z1 : Int32} {z2 : Int32} {z3 : Nat} {z4 : Int32} : Wp (xL_law θ n lim) Q (509, lo, [.int z0, .int z1, .int z2, .ref z3, .int z4], w) ↔ (rIs w z3 5 ∧ sg θ n 120 [.ref z3, .int z2, .int z1, .int z0] w (fun v w' => Wp (xL_law θ n lim) Q (512, lo, v.toList ++ [.int z4], w'))) := tt_callV (As := [.int z2, .int z1, .int z0]) (r := [.int z4]) (hxL_law θ n lim) dL_law_509 lkC_14_59 mX6_on ⟨rfl, rfl⟩ rfl rfl (Nat.le_of_ble_eq_true rfl) rfl
theorem eL_law_512  : Wp (xL_law θ n lim) Q (512, lo, .int y :: .int x :: st, w) ↔ if x = y then Wp (xL_law θ n lim) Q (1147, lo, st, w) else Wp (xL_law θ n lim) Q (515, lo, st, w) := tt_ic_eq (hxL_law θ n lim) dL_law_512 (by decide)
theorem eL_law_515  : Wp (xL_law θ n lim) Q (515, lo, st, w) ↔ Wp (xL_law θ n lim) Q (516, lo, .int 0 :: st, w) := tt_iconst (hxL_law θ n lim) dL_law_515 (by decide)
theorem eL_law_516  : Wp (xL_law θ n lim) Q (516, lo, [.int x], w) ↔ (narrow .boolean (.int x) = .int x ∧ Q (some (.int x)) w) := tt_iret (hxL_law θ n lim) dL_law_516 rfl
theorem eL_law_517  : Wp (xL_law θ n lim) Q (517, [o0, some (.ref a), o2, o3], st, w) ↔ Wp (xL_law θ n lim) Q (518, [o0, some (.ref a), o2, o3], .ref a :: st, w) := tt_aload_n (hxL_law θ n lim) dL_law_517 rfl
theorem eL_law_518  : Wp (xL_law θ n lim) Q (518, [some (.ref a), o1, o2, o3], st, w) ↔ Wp (xL_law θ n lim) Q (519, [some (.ref a), o1, o2, o3], .ref a :: st, w) := tt_aload_n (hxL_law θ n lim) dL_law_518 rfl
theorem eL_law_519  : Wp (xL_law θ n lim) Q (519, [o0, o1, o2, some (.int x)], st, w) ↔ Wp (xL_law θ n lim) Q (520, [o0, o1, o2, some (.int x)], .int x :: st, w) := tt_iload_n (hxL_law θ n lim) dL_law_519 rfl
theorem eL_law_520  : Wp (xL_law θ n lim) Q (520, lo, st, w) ↔ Wp (xL_law θ n lim) Q (521, lo, .int 1 :: st, w) := tt_iconst (hxL_law θ n lim) dL_law_520 (by decide)
theorem eL_law_521  : Wp (xL_law θ n lim) Q (521, lo, .int y :: .int x :: st, w) ↔ Wp (xL_law θ n lim) Q (522, lo, .int (x + y) :: st, w) := tt_iadd (hxL_law θ n lim) dL_law_521
theorem eL_law_522  : Wp (xL_law θ n lim) Q (522, lo, .int x :: .ref a :: st, w) ↔ (vp_in x (rGn w a) ∧ Wp (xL_law θ n lim) Q (523, lo, .int (rGv w a x.toNatClampNeg) :: st, w)) := tt_iaload (hxL_law θ n lim) dL_law_522
theorem eL_law_523 {z0 : Int32} {z1 : Nat} : Wp (xL_law θ n lim) Q (523, lo, [.int z0, .ref z1], w) ↔ (rIs w z1 4 ∧ sg θ n 53 [.ref z1, .int z0] w (fun v w' => Wp (xL_law θ n lim) Q (526, lo, v.toList ++ [], w'))) := tt_callV (As := [.int z0]) (r := []) (hxL_law θ n lim) dL_law_523 lkC_14_60 mX5_through ⟨rfl, rfl⟩ rfl rfl (Nat.le_of_ble_eq_true rfl) rfl
theorem eL_law_526  : Wp (xL_law θ n lim) Q (526, [o0, o1, some (.ref a), o3], st, w) ↔ Wp (xL_law θ n lim) Q (527, [o0, o1, some (.ref a), o3], .ref a :: st, w) := tt_aload_n (hxL_law θ n lim) dL_law_526 rfl
theorem eL_law_527  : Wp (xL_law θ n lim) Q (527, [some (.ref a), o1, o2, o3], st, w) ↔ Wp (xL_law θ n lim) Q (528, [some (.ref a), o1, o2, o3], .ref a :: st, w) := tt_aload_n (hxL_law θ n lim) dL_law_527 rfl
theorem eL_law_528  : Wp (xL_law θ n lim) Q (528, [o0, o1, o2, some (.int x)], st, w) ↔ Wp (xL_law θ n lim) Q (529, [o0, o1, o2, some (.int x)], .int x :: st, w) := tt_iload_n (hxL_law θ n lim) dL_law_528 rfl
theorem eL_law_529  : Wp (xL_law θ n lim) Q (529, lo, st, w) ↔ Wp (xL_law θ n lim) Q (530, lo, .int 1 :: st, w) := tt_iconst (hxL_law θ n lim) dL_law_529 (by decide)
theorem eL_law_530  : Wp (xL_law θ n lim) Q (530, lo, .int y :: .int x :: st, w) ↔ Wp (xL_law θ n lim) Q (531, lo, .int (x + y) :: st, w) := tt_iadd (hxL_law θ n lim) dL_law_530
theorem eL_law_531  : Wp (xL_law θ n lim) Q (531, lo, .int x :: .ref a :: st, w) ↔ (vp_in x (rGn w a) ∧ Wp (xL_law θ n lim) Q (532, lo, .int (rGv w a x.toNatClampNeg) :: st, w)) := tt_iaload (hxL_law θ n lim) dL_law_531
theorem eL_law_532 {z0 : Int32} {z1 : Nat} {z2 : Int32} : Wp (xL_law θ n lim) Q (532, lo, [.int z0, .ref z1, .int z2], w) ↔ (rIs w z1 5 ∧ sg θ n 122 [.ref z1, .int z0] w (fun v w' => Wp (xL_law θ n lim) Q (535, lo, v.toList ++ [.int z2], w'))) := tt_callV (As := [.int z0]) (r := [.int z2]) (hxL_law θ n lim) dL_law_532 lkC_14_63 mX6_through ⟨rfl, rfl⟩ rfl rfl (Nat.le_of_ble_eq_true rfl) rfl
theorem eL_law_535  : Wp (xL_law θ n lim) Q (535, lo, .int y :: .int x :: st, w) ↔ if x = y then Wp (xL_law θ n lim) Q (1147, lo, st, w) else Wp (xL_law θ n lim) Q (538, lo, st, w) := tt_ic_eq (hxL_law θ n lim) dL_law_535 (by decide)
theorem eL_law_538  : Wp (xL_law θ n lim) Q (538, lo, st, w) ↔ Wp (xL_law θ n lim) Q (539, lo, .int 0 :: st, w) := tt_iconst (hxL_law θ n lim) dL_law_538 (by decide)
theorem eL_law_539  : Wp (xL_law θ n lim) Q (539, lo, [.int x], w) ↔ (narrow .boolean (.int x) = .int x ∧ Q (some (.int x)) w) := tt_iret (hxL_law θ n lim) dL_law_539 rfl
theorem eL_law_540  : Wp (xL_law θ n lim) Q (540, [o0, some (.ref a), o2, o3], st, w) ↔ Wp (xL_law θ n lim) Q (541, [o0, some (.ref a), o2, o3], .ref a :: st, w) := tt_aload_n (hxL_law θ n lim) dL_law_540 rfl
theorem eL_law_541  : Wp (xL_law θ n lim) Q (541, [some (.ref a), o1, o2, o3], st, w) ↔ Wp (xL_law θ n lim) Q (542, [some (.ref a), o1, o2, o3], .ref a :: st, w) := tt_aload_n (hxL_law θ n lim) dL_law_541 rfl
theorem eL_law_542  : Wp (xL_law θ n lim) Q (542, [o0, o1, o2, some (.int x)], st, w) ↔ Wp (xL_law θ n lim) Q (543, [o0, o1, o2, some (.int x)], .int x :: st, w) := tt_iload_n (hxL_law θ n lim) dL_law_542 rfl
theorem eL_law_543  : Wp (xL_law θ n lim) Q (543, lo, st, w) ↔ Wp (xL_law θ n lim) Q (544, lo, .int 1 :: st, w) := tt_iconst (hxL_law θ n lim) dL_law_543 (by decide)
theorem eL_law_544  : Wp (xL_law θ n lim) Q (544, lo, .int y :: .int x :: st, w) ↔ Wp (xL_law θ n lim) Q (545, lo, .int (x + y) :: st, w) := tt_iadd (hxL_law θ n lim) dL_law_544
theorem eL_law_545  : Wp (xL_law θ n lim) Q (545, lo, .int x :: .ref a :: st, w) ↔ (vp_in x (rGn w a) ∧ Wp (xL_law θ n lim) Q (546, lo, .int (rGv w a x.toNatClampNeg) :: st, w)) := tt_iaload (hxL_law θ n lim) dL_law_545
theorem eL_law_546 {z0 : Int32} {z1 : Nat} : Wp (xL_law θ n lim) Q (546, lo, [.int z0, .ref z1], w) ↔ (rIs w z1 4 ∧ sg θ n 54 [.ref z1, .int z0] w (fun v w' => Wp (xL_law θ n lim) Q (549, lo, v.toList ++ [], w'))) := tt_callV (As := [.int z0]) (r := []) (hxL_law θ n lim) dL_law_546 lkC_14_64 mX5_bumps ⟨rfl, rfl⟩ rfl rfl (Nat.le_of_ble_eq_true rfl) rfl
theorem eL_law_549  : Wp (xL_law θ n lim) Q (549, [o0, o1, some (.ref a), o3], st, w) ↔ Wp (xL_law θ n lim) Q (550, [o0, o1, some (.ref a), o3], .ref a :: st, w) := tt_aload_n (hxL_law θ n lim) dL_law_549 rfl
theorem eL_law_550  : Wp (xL_law θ n lim) Q (550, [some (.ref a), o1, o2, o3], st, w) ↔ Wp (xL_law θ n lim) Q (551, [some (.ref a), o1, o2, o3], .ref a :: st, w) := tt_aload_n (hxL_law θ n lim) dL_law_550 rfl
theorem eL_law_551  : Wp (xL_law θ n lim) Q (551, [o0, o1, o2, some (.int x)], st, w) ↔ Wp (xL_law θ n lim) Q (552, [o0, o1, o2, some (.int x)], .int x :: st, w) := tt_iload_n (hxL_law θ n lim) dL_law_551 rfl
theorem eL_law_552  : Wp (xL_law θ n lim) Q (552, lo, st, w) ↔ Wp (xL_law θ n lim) Q (553, lo, .int 1 :: st, w) := tt_iconst (hxL_law θ n lim) dL_law_552 (by decide)
theorem eL_law_553  : Wp (xL_law θ n lim) Q (553, lo, .int y :: .int x :: st, w) ↔ Wp (xL_law θ n lim) Q (554, lo, .int (x + y) :: st, w) := tt_iadd (hxL_law θ n lim) dL_law_553
theorem eL_law_554  : Wp (xL_law θ n lim) Q (554, lo, .int x :: .ref a :: st, w) ↔ (vp_in x (rGn w a) ∧ Wp (xL_law θ n lim) Q (555, lo, .int (rGv w a x.toNatClampNeg) :: st, w)) := tt_iaload (hxL_law θ n lim) dL_law_554
theorem eL_law_555 {z0 : Int32} {z1 : Nat} {z2 : Int32} : Wp (xL_law θ n lim) Q (555, lo, [.int z0, .ref z1, .int z2], w) ↔ (rIs w z1 5 ∧ sg θ n 124 [.ref z1, .int z0] w (fun v w' => Wp (xL_law θ n lim) Q (558, lo, v.toList ++ [.int z2], w'))) := tt_callV (As := [.int z0]) (r := [.int z2]) (hxL_law θ n lim) dL_law_555 lkC_14_67 mX6_bumps ⟨rfl, rfl⟩ rfl rfl (Nat.le_of_ble_eq_true rfl) rfl
theorem eL_law_558  : Wp (xL_law θ n lim) Q (558, lo, .int y :: .int x :: st, w) ↔ if x = y then Wp (xL_law θ n lim) Q (1147, lo, st, w) else Wp (xL_law θ n lim) Q (561, lo, st, w) := tt_ic_eq (hxL_law θ n lim) dL_law_558 (by decide)
theorem eL_law_561  : Wp (xL_law θ n lim) Q (561, lo, st, w) ↔ Wp (xL_law θ n lim) Q (562, lo, .int 0 :: st, w) := tt_iconst (hxL_law θ n lim) dL_law_561 (by decide)
theorem eL_law_562  : Wp (xL_law θ n lim) Q (562, lo, [.int x], w) ↔ (narrow .boolean (.int x) = .int x ∧ Q (some (.int x)) w) := tt_iret (hxL_law θ n lim) dL_law_562 rfl
theorem eL_law_563  : Wp (xL_law θ n lim) Q (563, [o0, some (.ref a), o2, o3], st, w) ↔ Wp (xL_law θ n lim) Q (564, [o0, some (.ref a), o2, o3], .ref a :: st, w) := tt_aload_n (hxL_law θ n lim) dL_law_563 rfl
theorem eL_law_564  : Wp (xL_law θ n lim) Q (564, [some (.ref a), o1, o2, o3], st, w) ↔ Wp (xL_law θ n lim) Q (565, [some (.ref a), o1, o2, o3], .ref a :: st, w) := tt_aload_n (hxL_law θ n lim) dL_law_564 rfl
theorem eL_law_565  : Wp (xL_law θ n lim) Q (565, [o0, o1, o2, some (.int x)], st, w) ↔ Wp (xL_law θ n lim) Q (566, [o0, o1, o2, some (.int x)], .int x :: st, w) := tt_iload_n (hxL_law θ n lim) dL_law_565 rfl
theorem eL_law_566  : Wp (xL_law θ n lim) Q (566, lo, st, w) ↔ Wp (xL_law θ n lim) Q (567, lo, .int 1 :: st, w) := tt_iconst (hxL_law θ n lim) dL_law_566 (by decide)
theorem eL_law_567  : Wp (xL_law θ n lim) Q (567, lo, .int y :: .int x :: st, w) ↔ Wp (xL_law θ n lim) Q (568, lo, .int (x + y) :: st, w) := tt_iadd (hxL_law θ n lim) dL_law_567
theorem eL_law_568  : Wp (xL_law θ n lim) Q (568, lo, .int x :: .ref a :: st, w) ↔ (vp_in x (rGn w a) ∧ Wp (xL_law θ n lim) Q (569, lo, .int (rGv w a x.toNatClampNeg) :: st, w)) := tt_iaload (hxL_law θ n lim) dL_law_568
theorem eL_law_569  : Wp (xL_law θ n lim) Q (569, [some (.ref a), o1, o2, o3], st, w) ↔ Wp (xL_law θ n lim) Q (570, [some (.ref a), o1, o2, o3], .ref a :: st, w) := tt_aload_n (hxL_law θ n lim) dL_law_569 rfl
theorem eL_law_570  : Wp (xL_law θ n lim) Q (570, [o0, o1, o2, some (.int x)], st, w) ↔ Wp (xL_law θ n lim) Q (571, [o0, o1, o2, some (.int x)], .int x :: st, w) := tt_iload_n (hxL_law θ n lim) dL_law_570 rfl
theorem eL_law_571  : Wp (xL_law θ n lim) Q (571, lo, st, w) ↔ Wp (xL_law θ n lim) Q (572, lo, .int 2 :: st, w) := tt_iconst (hxL_law θ n lim) dL_law_571 (by decide)
theorem eL_law_572  : Wp (xL_law θ n lim) Q (572, lo, .int y :: .int x :: st, w) ↔ Wp (xL_law θ n lim) Q (573, lo, .int (x + y) :: st, w) := tt_iadd (hxL_law θ n lim) dL_law_572
theorem eL_law_573  : Wp (xL_law θ n lim) Q (573, lo, .int x :: .ref a :: st, w) ↔ (vp_in x (rGn w a) ∧ Wp (xL_law θ n lim) Q (574, lo, .int (rGv w a x.toNatClampNeg) :: st, w)) := tt_iaload (hxL_law θ n lim) dL_law_573
theorem eL_law_574 {z0 : Int32} {z1 : Int32} {z2 : Nat} : Wp (xL_law θ n lim) Q (574, lo, [.int z0, .int z1, .ref z2], w) ↔ (rIs w z2 4 ∧ sg θ n 55 [.ref z2, .int z1, .int z0] w (fun v w' => Wp (xL_law θ n lim) Q (577, lo, v.toList ++ [], w'))) := tt_callV (As := [.int z1, .int z0]) (r := []) (hxL_law θ n lim) dL_law_574 lkC_14_68 mX5_meet ⟨rfl, rfl⟩ rfl rfl (Nat.le_of_ble_eq_true rfl) rfl
theorem eL_law_577  : Wp (xL_law θ n lim) Q (577, [o0, o1, some (.ref a), o3], st, w) ↔ Wp (xL_law θ n lim) Q (578, [o0, o1, some (.ref a), o3], .ref a :: st, w) := tt_aload_n (hxL_law θ n lim) dL_law_577 rfl
theorem eL_law_578  : Wp (xL_law θ n lim) Q (578, [some (.ref a), o1, o2, o3], st, w) ↔ Wp (xL_law θ n lim) Q (579, [some (.ref a), o1, o2, o3], .ref a :: st, w) := tt_aload_n (hxL_law θ n lim) dL_law_578 rfl
theorem eL_law_579  : Wp (xL_law θ n lim) Q (579, [o0, o1, o2, some (.int x)], st, w) ↔ Wp (xL_law θ n lim) Q (580, [o0, o1, o2, some (.int x)], .int x :: st, w) := tt_iload_n (hxL_law θ n lim) dL_law_579 rfl
theorem eL_law_580  : Wp (xL_law θ n lim) Q (580, lo, st, w) ↔ Wp (xL_law θ n lim) Q (581, lo, .int 1 :: st, w) := tt_iconst (hxL_law θ n lim) dL_law_580 (by decide)
theorem eL_law_581  : Wp (xL_law θ n lim) Q (581, lo, .int y :: .int x :: st, w) ↔ Wp (xL_law θ n lim) Q (582, lo, .int (x + y) :: st, w) := tt_iadd (hxL_law θ n lim) dL_law_581
theorem eL_law_582  : Wp (xL_law θ n lim) Q (582, lo, .int x :: .ref a :: st, w) ↔ (vp_in x (rGn w a) ∧ Wp (xL_law θ n lim) Q (583, lo, .int (rGv w a x.toNatClampNeg) :: st, w)) := tt_iaload (hxL_law θ n lim) dL_law_582
theorem eL_law_583  : Wp (xL_law θ n lim) Q (583, [some (.ref a), o1, o2, o3], st, w) ↔ Wp (xL_law θ n lim) Q (584, [some (.ref a), o1, o2, o3], .ref a :: st, w) := tt_aload_n (hxL_law θ n lim) dL_law_583 rfl
theorem eL_law_584  : Wp (xL_law θ n lim) Q (584, [o0, o1, o2, some (.int x)], st, w) ↔ Wp (xL_law θ n lim) Q (585, [o0, o1, o2, some (.int x)], .int x :: st, w) := tt_iload_n (hxL_law θ n lim) dL_law_584 rfl
theorem eL_law_585  : Wp (xL_law θ n lim) Q (585, lo, st, w) ↔ Wp (xL_law θ n lim) Q (586, lo, .int 2 :: st, w) := tt_iconst (hxL_law θ n lim) dL_law_585 (by decide)
theorem eL_law_586  : Wp (xL_law θ n lim) Q (586, lo, .int y :: .int x :: st, w) ↔ Wp (xL_law θ n lim) Q (587, lo, .int (x + y) :: st, w) := tt_iadd (hxL_law θ n lim) dL_law_586
theorem eL_law_587  : Wp (xL_law θ n lim) Q (587, lo, .int x :: .ref a :: st, w) ↔ (vp_in x (rGn w a) ∧ Wp (xL_law θ n lim) Q (588, lo, .int (rGv w a x.toNatClampNeg) :: st, w)) := tt_iaload (hxL_law θ n lim) dL_law_587
theorem eL_law_588 {z0 : Int32} {z1 : Int32} {z2 : Nat} {z3 : Int32} : Wp (xL_law θ n lim) Q (588, lo, [.int z0, .int z1, .ref z2, .int z3], w) ↔ (rIs w z2 5 ∧ sg θ n 125 [.ref z2, .int z1, .int z0] w (fun v w' => Wp (xL_law θ n lim) Q (591, lo, v.toList ++ [.int z3], w'))) := tt_callV (As := [.int z1, .int z0]) (r := [.int z3]) (hxL_law θ n lim) dL_law_588 lkC_14_71 mX6_meet ⟨rfl, rfl⟩ rfl rfl (Nat.le_of_ble_eq_true rfl) rfl
theorem eL_law_591  : Wp (xL_law θ n lim) Q (591, lo, .int y :: .int x :: st, w) ↔ if x = y then Wp (xL_law θ n lim) Q (1147, lo, st, w) else Wp (xL_law θ n lim) Q (594, lo, st, w) := tt_ic_eq (hxL_law θ n lim) dL_law_591 (by decide)
theorem eL_law_594  : Wp (xL_law θ n lim) Q (594, lo, st, w) ↔ Wp (xL_law θ n lim) Q (595, lo, .int 0 :: st, w) := tt_iconst (hxL_law θ n lim) dL_law_594 (by decide)
theorem eL_law_595  : Wp (xL_law θ n lim) Q (595, lo, [.int x], w) ↔ (narrow .boolean (.int x) = .int x ∧ Q (some (.int x)) w) := tt_iret (hxL_law θ n lim) dL_law_595 rfl
theorem eL_law_596  : Wp (xL_law θ n lim) Q (596, [o0, some (.ref a), o2, o3], st, w) ↔ Wp (xL_law θ n lim) Q (597, [o0, some (.ref a), o2, o3], .ref a :: st, w) := tt_aload_n (hxL_law θ n lim) dL_law_596 rfl
theorem eL_law_597  : Wp (xL_law θ n lim) Q (597, [some (.ref a), o1, o2, o3], st, w) ↔ Wp (xL_law θ n lim) Q (598, [some (.ref a), o1, o2, o3], .ref a :: st, w) := tt_aload_n (hxL_law θ n lim) dL_law_597 rfl
theorem eL_law_598  : Wp (xL_law θ n lim) Q (598, [o0, o1, o2, some (.int x)], st, w) ↔ Wp (xL_law θ n lim) Q (599, [o0, o1, o2, some (.int x)], .int x :: st, w) := tt_iload_n (hxL_law θ n lim) dL_law_598 rfl
theorem eL_law_599  : Wp (xL_law θ n lim) Q (599, lo, st, w) ↔ Wp (xL_law θ n lim) Q (600, lo, .int 1 :: st, w) := tt_iconst (hxL_law θ n lim) dL_law_599 (by decide)
theorem eL_law_600  : Wp (xL_law θ n lim) Q (600, lo, .int y :: .int x :: st, w) ↔ Wp (xL_law θ n lim) Q (601, lo, .int (x + y) :: st, w) := tt_iadd (hxL_law θ n lim) dL_law_600
theorem eL_law_601  : Wp (xL_law θ n lim) Q (601, lo, .int x :: .ref a :: st, w) ↔ (vp_in x (rGn w a) ∧ Wp (xL_law θ n lim) Q (602, lo, .int (rGv w a x.toNatClampNeg) :: st, w)) := tt_iaload (hxL_law θ n lim) dL_law_601
theorem eL_law_602 {z0 : Int32} {z1 : Nat} : Wp (xL_law θ n lim) Q (602, lo, [.int z0, .ref z1], w) ↔ (rIs w z1 4 ∧ sg θ n 56 [.ref z1, .int z0] w (fun v w' => Wp (xL_law θ n lim) Q (605, lo, v.toList ++ [], w'))) := tt_callV (As := [.int z0]) (r := []) (hxL_law θ n lim) dL_law_602 lkC_14_72 mX5_pace ⟨rfl, rfl⟩ rfl rfl (Nat.le_of_ble_eq_true rfl) rfl
theorem eL_law_605  : Wp (xL_law θ n lim) Q (605, [o0, o1, some (.ref a), o3], st, w) ↔ Wp (xL_law θ n lim) Q (606, [o0, o1, some (.ref a), o3], .ref a :: st, w) := tt_aload_n (hxL_law θ n lim) dL_law_605 rfl
theorem eL_law_606  : Wp (xL_law θ n lim) Q (606, [some (.ref a), o1, o2, o3], st, w) ↔ Wp (xL_law θ n lim) Q (607, [some (.ref a), o1, o2, o3], .ref a :: st, w) := tt_aload_n (hxL_law θ n lim) dL_law_606 rfl
theorem eL_law_607  : Wp (xL_law θ n lim) Q (607, [o0, o1, o2, some (.int x)], st, w) ↔ Wp (xL_law θ n lim) Q (608, [o0, o1, o2, some (.int x)], .int x :: st, w) := tt_iload_n (hxL_law θ n lim) dL_law_607 rfl
theorem eL_law_608  : Wp (xL_law θ n lim) Q (608, lo, st, w) ↔ Wp (xL_law θ n lim) Q (609, lo, .int 1 :: st, w) := tt_iconst (hxL_law θ n lim) dL_law_608 (by decide)
theorem eL_law_609  : Wp (xL_law θ n lim) Q (609, lo, .int y :: .int x :: st, w) ↔ Wp (xL_law θ n lim) Q (610, lo, .int (x + y) :: st, w) := tt_iadd (hxL_law θ n lim) dL_law_609
theorem eL_law_610  : Wp (xL_law θ n lim) Q (610, lo, .int x :: .ref a :: st, w) ↔ (vp_in x (rGn w a) ∧ Wp (xL_law θ n lim) Q (611, lo, .int (rGv w a x.toNatClampNeg) :: st, w)) := tt_iaload (hxL_law θ n lim) dL_law_610
theorem eL_law_611 {z0 : Int32} {z1 : Nat} {z2 : Int32} : Wp (xL_law θ n lim) Q (611, lo, [.int z0, .ref z1, .int z2], w) ↔ (rIs w z1 5 ∧ sg θ n 126 [.ref z1, .int z0] w (fun v w' => Wp (xL_law θ n lim) Q (614, lo, v.toList ++ [.int z2], w'))) := tt_callV (As := [.int z0]) (r := [.int z2]) (hxL_law θ n lim) dL_law_611 lkC_14_75 mX6_pace ⟨rfl, rfl⟩ rfl rfl (Nat.le_of_ble_eq_true rfl) rfl
theorem eL_law_614  : Wp (xL_law θ n lim) Q (614, lo, .int y :: .int x :: st, w) ↔ if x = y then Wp (xL_law θ n lim) Q (1147, lo, st, w) else Wp (xL_law θ n lim) Q (617, lo, st, w) := tt_ic_eq (hxL_law θ n lim) dL_law_614 (by decide)
theorem eL_law_617  : Wp (xL_law θ n lim) Q (617, lo, st, w) ↔ Wp (xL_law θ n lim) Q (618, lo, .int 0 :: st, w) := tt_iconst (hxL_law θ n lim) dL_law_617 (by decide)
theorem eL_law_618  : Wp (xL_law θ n lim) Q (618, lo, [.int x], w) ↔ (narrow .boolean (.int x) = .int x ∧ Q (some (.int x)) w) := tt_iret (hxL_law θ n lim) dL_law_618 rfl
theorem eL_law_619  : Wp (xL_law θ n lim) Q (619, [o0, some (.ref a), o2, o3], st, w) ↔ Wp (xL_law θ n lim) Q (620, [o0, some (.ref a), o2, o3], .ref a :: st, w) := tt_aload_n (hxL_law θ n lim) dL_law_619 rfl
theorem eL_law_620  : Wp (xL_law θ n lim) Q (620, [some (.ref a), o1, o2, o3], st, w) ↔ Wp (xL_law θ n lim) Q (621, [some (.ref a), o1, o2, o3], .ref a :: st, w) := tt_aload_n (hxL_law θ n lim) dL_law_620 rfl
theorem eL_law_621  : Wp (xL_law θ n lim) Q (621, [o0, o1, o2, some (.int x)], st, w) ↔ Wp (xL_law θ n lim) Q (622, [o0, o1, o2, some (.int x)], .int x :: st, w) := tt_iload_n (hxL_law θ n lim) dL_law_621 rfl
theorem eL_law_622  : Wp (xL_law θ n lim) Q (622, lo, st, w) ↔ Wp (xL_law θ n lim) Q (623, lo, .int 1 :: st, w) := tt_iconst (hxL_law θ n lim) dL_law_622 (by decide)
theorem eL_law_623  : Wp (xL_law θ n lim) Q (623, lo, .int y :: .int x :: st, w) ↔ Wp (xL_law θ n lim) Q (624, lo, .int (x + y) :: st, w) := tt_iadd (hxL_law θ n lim) dL_law_623
theorem eL_law_624  : Wp (xL_law θ n lim) Q (624, lo, .int x :: .ref a :: st, w) ↔ (vp_in x (rGn w a) ∧ Wp (xL_law θ n lim) Q (625, lo, .int (rGv w a x.toNatClampNeg) :: st, w)) := tt_iaload (hxL_law θ n lim) dL_law_624
theorem eL_law_625 {z0 : Int32} {z1 : Nat} : Wp (xL_law θ n lim) Q (625, lo, [.int z0, .ref z1], w) ↔ (rIs w z1 4 ∧ sg θ n 58 [.ref z1, .int z0] w (fun v w' => Wp (xL_law θ n lim) Q (628, lo, v.toList ++ [], w'))) := tt_callV (As := [.int z0]) (r := []) (hxL_law θ n lim) dL_law_625 lkC_14_76 mX5_kind ⟨rfl, rfl⟩ rfl rfl (Nat.le_of_ble_eq_true rfl) rfl
theorem eL_law_628  : Wp (xL_law θ n lim) Q (628, [o0, o1, some (.ref a), o3], st, w) ↔ Wp (xL_law θ n lim) Q (629, [o0, o1, some (.ref a), o3], .ref a :: st, w) := tt_aload_n (hxL_law θ n lim) dL_law_628 rfl
theorem eL_law_629  : Wp (xL_law θ n lim) Q (629, [some (.ref a), o1, o2, o3], st, w) ↔ Wp (xL_law θ n lim) Q (630, [some (.ref a), o1, o2, o3], .ref a :: st, w) := tt_aload_n (hxL_law θ n lim) dL_law_629 rfl
theorem eL_law_630  : Wp (xL_law θ n lim) Q (630, [o0, o1, o2, some (.int x)], st, w) ↔ Wp (xL_law θ n lim) Q (631, [o0, o1, o2, some (.int x)], .int x :: st, w) := tt_iload_n (hxL_law θ n lim) dL_law_630 rfl
theorem eL_law_631  : Wp (xL_law θ n lim) Q (631, lo, st, w) ↔ Wp (xL_law θ n lim) Q (632, lo, .int 1 :: st, w) := tt_iconst (hxL_law θ n lim) dL_law_631 (by decide)
theorem eL_law_632  : Wp (xL_law θ n lim) Q (632, lo, .int y :: .int x :: st, w) ↔ Wp (xL_law θ n lim) Q (633, lo, .int (x + y) :: st, w) := tt_iadd (hxL_law θ n lim) dL_law_632
theorem eL_law_633  : Wp (xL_law θ n lim) Q (633, lo, .int x :: .ref a :: st, w) ↔ (vp_in x (rGn w a) ∧ Wp (xL_law θ n lim) Q (634, lo, .int (rGv w a x.toNatClampNeg) :: st, w)) := tt_iaload (hxL_law θ n lim) dL_law_633
theorem eL_law_634 {z0 : Int32} {z1 : Nat} {z2 : Int32} : Wp (xL_law θ n lim) Q (634, lo, [.int z0, .ref z1, .int z2], w) ↔ (rIs w z1 5 ∧ sg θ n 128 [.ref z1, .int z0] w (fun v w' => Wp (xL_law θ n lim) Q (637, lo, v.toList ++ [.int z2], w'))) := tt_callV (As := [.int z0]) (r := [.int z2]) (hxL_law θ n lim) dL_law_634 lkC_14_79 mX6_kind ⟨rfl, rfl⟩ rfl rfl (Nat.le_of_ble_eq_true rfl) rfl
theorem eL_law_637  : Wp (xL_law θ n lim) Q (637, lo, .int y :: .int x :: st, w) ↔ if x = y then Wp (xL_law θ n lim) Q (1147, lo, st, w) else Wp (xL_law θ n lim) Q (640, lo, st, w) := tt_ic_eq (hxL_law θ n lim) dL_law_637 (by decide)
theorem eL_law_640  : Wp (xL_law θ n lim) Q (640, lo, st, w) ↔ Wp (xL_law θ n lim) Q (641, lo, .int 0 :: st, w) := tt_iconst (hxL_law θ n lim) dL_law_640 (by decide)
theorem eL_law_641  : Wp (xL_law θ n lim) Q (641, lo, [.int x], w) ↔ (narrow .boolean (.int x) = .int x ∧ Q (some (.int x)) w) := tt_iret (hxL_law θ n lim) dL_law_641 rfl
theorem eL_law_642  : Wp (xL_law θ n lim) Q (642, [o0, some (.ref a), o2, o3], st, w) ↔ Wp (xL_law θ n lim) Q (643, [o0, some (.ref a), o2, o3], .ref a :: st, w) := tt_aload_n (hxL_law θ n lim) dL_law_642 rfl
theorem eL_law_643  : Wp (xL_law θ n lim) Q (643, [some (.ref a), o1, o2, o3], st, w) ↔ Wp (xL_law θ n lim) Q (644, [some (.ref a), o1, o2, o3], .ref a :: st, w) := tt_aload_n (hxL_law θ n lim) dL_law_643 rfl
theorem eL_law_644  : Wp (xL_law θ n lim) Q (644, [o0, o1, o2, some (.int x)], st, w) ↔ Wp (xL_law θ n lim) Q (645, [o0, o1, o2, some (.int x)], .int x :: st, w) := tt_iload_n (hxL_law θ n lim) dL_law_644 rfl
theorem eL_law_645  : Wp (xL_law θ n lim) Q (645, lo, st, w) ↔ Wp (xL_law θ n lim) Q (646, lo, .int 1 :: st, w) := tt_iconst (hxL_law θ n lim) dL_law_645 (by decide)
theorem eL_law_646  : Wp (xL_law θ n lim) Q (646, lo, .int y :: .int x :: st, w) ↔ Wp (xL_law θ n lim) Q (647, lo, .int (x + y) :: st, w) := tt_iadd (hxL_law θ n lim) dL_law_646
theorem eL_law_647  : Wp (xL_law θ n lim) Q (647, lo, .int x :: .ref a :: st, w) ↔ (vp_in x (rGn w a) ∧ Wp (xL_law θ n lim) Q (648, lo, .int (rGv w a x.toNatClampNeg) :: st, w)) := tt_iaload (hxL_law θ n lim) dL_law_647
theorem eL_law_648  : Wp (xL_law θ n lim) Q (648, [some (.ref a), o1, o2, o3], st, w) ↔ Wp (xL_law θ n lim) Q (649, [some (.ref a), o1, o2, o3], .ref a :: st, w) := tt_aload_n (hxL_law θ n lim) dL_law_648 rfl
theorem eL_law_649  : Wp (xL_law θ n lim) Q (649, [o0, o1, o2, some (.int x)], st, w) ↔ Wp (xL_law θ n lim) Q (650, [o0, o1, o2, some (.int x)], .int x :: st, w) := tt_iload_n (hxL_law θ n lim) dL_law_649 rfl
theorem eL_law_650  : Wp (xL_law θ n lim) Q (650, lo, st, w) ↔ Wp (xL_law θ n lim) Q (651, lo, .int 2 :: st, w) := tt_iconst (hxL_law θ n lim) dL_law_650 (by decide)
theorem eL_law_651  : Wp (xL_law θ n lim) Q (651, lo, .int y :: .int x :: st, w) ↔ Wp (xL_law θ n lim) Q (652, lo, .int (x + y) :: st, w) := tt_iadd (hxL_law θ n lim) dL_law_651
theorem eL_law_652  : Wp (xL_law θ n lim) Q (652, lo, .int x :: .ref a :: st, w) ↔ (vp_in x (rGn w a) ∧ Wp (xL_law θ n lim) Q (653, lo, .int (rGv w a x.toNatClampNeg) :: st, w)) := tt_iaload (hxL_law θ n lim) dL_law_652
theorem eL_law_653 {z0 : Int32} {z1 : Int32} {z2 : Nat} : Wp (xL_law θ n lim) Q (653, lo, [.int z0, .int z1, .ref z2], w) ↔ (rIs w z2 4 ∧ sg θ n 59 [.ref z2, .int z1, .int z0] w (fun v w' => Wp (xL_law θ n lim) Q (656, lo, v.toList ++ [], w'))) := tt_callV (As := [.int z1, .int z0]) (r := []) (hxL_law θ n lim) dL_law_653 lkC_14_80 mX5_begin ⟨rfl, rfl⟩ rfl rfl (Nat.le_of_ble_eq_true rfl) rfl
theorem eL_law_656  : Wp (xL_law θ n lim) Q (656, [o0, o1, some (.ref a), o3], st, w) ↔ Wp (xL_law θ n lim) Q (657, [o0, o1, some (.ref a), o3], .ref a :: st, w) := tt_aload_n (hxL_law θ n lim) dL_law_656 rfl
theorem eL_law_657  : Wp (xL_law θ n lim) Q (657, [some (.ref a), o1, o2, o3], st, w) ↔ Wp (xL_law θ n lim) Q (658, [some (.ref a), o1, o2, o3], .ref a :: st, w) := tt_aload_n (hxL_law θ n lim) dL_law_657 rfl
theorem eL_law_658  : Wp (xL_law θ n lim) Q (658, [o0, o1, o2, some (.int x)], st, w) ↔ Wp (xL_law θ n lim) Q (659, [o0, o1, o2, some (.int x)], .int x :: st, w) := tt_iload_n (hxL_law θ n lim) dL_law_658 rfl
theorem eL_law_659  : Wp (xL_law θ n lim) Q (659, lo, st, w) ↔ Wp (xL_law θ n lim) Q (660, lo, .int 1 :: st, w) := tt_iconst (hxL_law θ n lim) dL_law_659 (by decide)
theorem eL_law_660  : Wp (xL_law θ n lim) Q (660, lo, .int y :: .int x :: st, w) ↔ Wp (xL_law θ n lim) Q (661, lo, .int (x + y) :: st, w) := tt_iadd (hxL_law θ n lim) dL_law_660
theorem eL_law_661  : Wp (xL_law θ n lim) Q (661, lo, .int x :: .ref a :: st, w) ↔ (vp_in x (rGn w a) ∧ Wp (xL_law θ n lim) Q (662, lo, .int (rGv w a x.toNatClampNeg) :: st, w)) := tt_iaload (hxL_law θ n lim) dL_law_661
theorem eL_law_662  : Wp (xL_law θ n lim) Q (662, [some (.ref a), o1, o2, o3], st, w) ↔ Wp (xL_law θ n lim) Q (663, [some (.ref a), o1, o2, o3], .ref a :: st, w) := tt_aload_n (hxL_law θ n lim) dL_law_662 rfl
theorem eL_law_663  : Wp (xL_law θ n lim) Q (663, [o0, o1, o2, some (.int x)], st, w) ↔ Wp (xL_law θ n lim) Q (664, [o0, o1, o2, some (.int x)], .int x :: st, w) := tt_iload_n (hxL_law θ n lim) dL_law_663 rfl
theorem eL_law_664  : Wp (xL_law θ n lim) Q (664, lo, st, w) ↔ Wp (xL_law θ n lim) Q (665, lo, .int 2 :: st, w) := tt_iconst (hxL_law θ n lim) dL_law_664 (by decide)
theorem eL_law_665  : Wp (xL_law θ n lim) Q (665, lo, .int y :: .int x :: st, w) ↔ Wp (xL_law θ n lim) Q (666, lo, .int (x + y) :: st, w) := tt_iadd (hxL_law θ n lim) dL_law_665
theorem eL_law_666  : Wp (xL_law θ n lim) Q (666, lo, .int x :: .ref a :: st, w) ↔ (vp_in x (rGn w a) ∧ Wp (xL_law θ n lim) Q (667, lo, .int (rGv w a x.toNatClampNeg) :: st, w)) := tt_iaload (hxL_law θ n lim) dL_law_666
theorem eL_law_667 {z0 : Int32} {z1 : Int32} {z2 : Nat} {z3 : Int32} : Wp (xL_law θ n lim) Q (667, lo, [.int z0, .int z1, .ref z2, .int z3], w) ↔ (rIs w z2 5 ∧ sg θ n 129 [.ref z2, .int z1, .int z0] w (fun v w' => Wp (xL_law θ n lim) Q (670, lo, v.toList ++ [.int z3], w'))) := tt_callV (As := [.int z1, .int z0]) (r := [.int z3]) (hxL_law θ n lim) dL_law_667 lkC_14_83 mX6_begin ⟨rfl, rfl⟩ rfl rfl (Nat.le_of_ble_eq_true rfl) rfl
theorem eL_law_670  : Wp (xL_law θ n lim) Q (670, lo, .int y :: .int x :: st, w) ↔ if x = y then Wp (xL_law θ n lim) Q (1147, lo, st, w) else Wp (xL_law θ n lim) Q (673, lo, st, w) := tt_ic_eq (hxL_law θ n lim) dL_law_670 (by decide)
theorem eL_law_673  : Wp (xL_law θ n lim) Q (673, lo, st, w) ↔ Wp (xL_law θ n lim) Q (674, lo, .int 0 :: st, w) := tt_iconst (hxL_law θ n lim) dL_law_673 (by decide)
theorem eL_law_674  : Wp (xL_law θ n lim) Q (674, lo, [.int x], w) ↔ (narrow .boolean (.int x) = .int x ∧ Q (some (.int x)) w) := tt_iret (hxL_law θ n lim) dL_law_674 rfl
theorem eL_law_675  : Wp (xL_law θ n lim) Q (675, [o0, some (.ref a), o2, o3], st, w) ↔ Wp (xL_law θ n lim) Q (676, [o0, some (.ref a), o2, o3], .ref a :: st, w) := tt_aload_n (hxL_law θ n lim) dL_law_675 rfl
theorem eL_law_676  : Wp (xL_law θ n lim) Q (676, [some (.ref a), o1, o2, o3], st, w) ↔ Wp (xL_law θ n lim) Q (677, [some (.ref a), o1, o2, o3], .ref a :: st, w) := tt_aload_n (hxL_law θ n lim) dL_law_676 rfl
theorem eL_law_677  : Wp (xL_law θ n lim) Q (677, [o0, o1, o2, some (.int x)], st, w) ↔ Wp (xL_law θ n lim) Q (678, [o0, o1, o2, some (.int x)], .int x :: st, w) := tt_iload_n (hxL_law θ n lim) dL_law_677 rfl
theorem eL_law_678  : Wp (xL_law θ n lim) Q (678, lo, st, w) ↔ Wp (xL_law θ n lim) Q (679, lo, .int 1 :: st, w) := tt_iconst (hxL_law θ n lim) dL_law_678 (by decide)
theorem eL_law_679  : Wp (xL_law θ n lim) Q (679, lo, .int y :: .int x :: st, w) ↔ Wp (xL_law θ n lim) Q (680, lo, .int (x + y) :: st, w) := tt_iadd (hxL_law θ n lim) dL_law_679
theorem eL_law_680  : Wp (xL_law θ n lim) Q (680, lo, .int x :: .ref a :: st, w) ↔ (vp_in x (rGn w a) ∧ Wp (xL_law θ n lim) Q (681, lo, .int (rGv w a x.toNatClampNeg) :: st, w)) := tt_iaload (hxL_law θ n lim) dL_law_680
theorem eL_law_681 {z0 : Int32} {z1 : Nat} : Wp (xL_law θ n lim) Q (681, lo, [.int z0, .ref z1], w) ↔ (rIs w z1 4 ∧ sg θ n 61 [.ref z1, .int z0] w (fun v w' => Wp (xL_law θ n lim) Q (684, lo, v.toList ++ [], w'))) := tt_callV (As := [.int z0]) (r := []) (hxL_law θ n lim) dL_law_681 lkC_14_84 mX5_fewest ⟨rfl, rfl⟩ rfl rfl (Nat.le_of_ble_eq_true rfl) rfl
theorem eL_law_684  : Wp (xL_law θ n lim) Q (684, [o0, o1, some (.ref a), o3], st, w) ↔ Wp (xL_law θ n lim) Q (685, [o0, o1, some (.ref a), o3], .ref a :: st, w) := tt_aload_n (hxL_law θ n lim) dL_law_684 rfl
theorem eL_law_685  : Wp (xL_law θ n lim) Q (685, [some (.ref a), o1, o2, o3], st, w) ↔ Wp (xL_law θ n lim) Q (686, [some (.ref a), o1, o2, o3], .ref a :: st, w) := tt_aload_n (hxL_law θ n lim) dL_law_685 rfl
theorem eL_law_686  : Wp (xL_law θ n lim) Q (686, [o0, o1, o2, some (.int x)], st, w) ↔ Wp (xL_law θ n lim) Q (687, [o0, o1, o2, some (.int x)], .int x :: st, w) := tt_iload_n (hxL_law θ n lim) dL_law_686 rfl
theorem eL_law_687  : Wp (xL_law θ n lim) Q (687, lo, st, w) ↔ Wp (xL_law θ n lim) Q (688, lo, .int 1 :: st, w) := tt_iconst (hxL_law θ n lim) dL_law_687 (by decide)
theorem eL_law_688  : Wp (xL_law θ n lim) Q (688, lo, .int y :: .int x :: st, w) ↔ Wp (xL_law θ n lim) Q (689, lo, .int (x + y) :: st, w) := tt_iadd (hxL_law θ n lim) dL_law_688
theorem eL_law_689  : Wp (xL_law θ n lim) Q (689, lo, .int x :: .ref a :: st, w) ↔ (vp_in x (rGn w a) ∧ Wp (xL_law θ n lim) Q (690, lo, .int (rGv w a x.toNatClampNeg) :: st, w)) := tt_iaload (hxL_law θ n lim) dL_law_689
theorem eL_law_690 {z0 : Int32} {z1 : Nat} {z2 : Int32} : Wp (xL_law θ n lim) Q (690, lo, [.int z0, .ref z1, .int z2], w) ↔ (rIs w z1 5 ∧ sg θ n 131 [.ref z1, .int z0] w (fun v w' => Wp (xL_law θ n lim) Q (693, lo, v.toList ++ [.int z2], w'))) := tt_callV (As := [.int z0]) (r := [.int z2]) (hxL_law θ n lim) dL_law_690 lkC_14_87 mX6_fewest ⟨rfl, rfl⟩ rfl rfl (Nat.le_of_ble_eq_true rfl) rfl
theorem eL_law_693  : Wp (xL_law θ n lim) Q (693, lo, .int y :: .int x :: st, w) ↔ if x = y then Wp (xL_law θ n lim) Q (1147, lo, st, w) else Wp (xL_law θ n lim) Q (696, lo, st, w) := tt_ic_eq (hxL_law θ n lim) dL_law_693 (by decide)
theorem eL_law_696  : Wp (xL_law θ n lim) Q (696, lo, st, w) ↔ Wp (xL_law θ n lim) Q (697, lo, .int 0 :: st, w) := tt_iconst (hxL_law θ n lim) dL_law_696 (by decide)
theorem eL_law_697  : Wp (xL_law θ n lim) Q (697, lo, [.int x], w) ↔ (narrow .boolean (.int x) = .int x ∧ Q (some (.int x)) w) := tt_iret (hxL_law θ n lim) dL_law_697 rfl
theorem eL_law_698  : Wp (xL_law θ n lim) Q (698, [o0, some (.ref a), o2, o3], st, w) ↔ Wp (xL_law θ n lim) Q (699, [o0, some (.ref a), o2, o3], .ref a :: st, w) := tt_aload_n (hxL_law θ n lim) dL_law_698 rfl
theorem eL_law_699  : Wp (xL_law θ n lim) Q (699, [some (.ref a), o1, o2, o3], st, w) ↔ Wp (xL_law θ n lim) Q (700, [some (.ref a), o1, o2, o3], .ref a :: st, w) := tt_aload_n (hxL_law θ n lim) dL_law_699 rfl
theorem eL_law_700  : Wp (xL_law θ n lim) Q (700, [o0, o1, o2, some (.int x)], st, w) ↔ Wp (xL_law θ n lim) Q (701, [o0, o1, o2, some (.int x)], .int x :: st, w) := tt_iload_n (hxL_law θ n lim) dL_law_700 rfl
theorem eL_law_701  : Wp (xL_law θ n lim) Q (701, lo, st, w) ↔ Wp (xL_law θ n lim) Q (702, lo, .int 1 :: st, w) := tt_iconst (hxL_law θ n lim) dL_law_701 (by decide)
theorem eL_law_702  : Wp (xL_law θ n lim) Q (702, lo, .int y :: .int x :: st, w) ↔ Wp (xL_law θ n lim) Q (703, lo, .int (x + y) :: st, w) := tt_iadd (hxL_law θ n lim) dL_law_702
theorem eL_law_703  : Wp (xL_law θ n lim) Q (703, lo, .int x :: .ref a :: st, w) ↔ (vp_in x (rGn w a) ∧ Wp (xL_law θ n lim) Q (704, lo, .int (rGv w a x.toNatClampNeg) :: st, w)) := tt_iaload (hxL_law θ n lim) dL_law_703
theorem eL_law_704 {z0 : Int32} {z1 : Nat} : Wp (xL_law θ n lim) Q (704, lo, [.int z0, .ref z1], w) ↔ (rIs w z1 4 ∧ sg θ n 63 [.ref z1, .int z0] w (fun v w' => Wp (xL_law θ n lim) Q (707, lo, v.toList ++ [], w'))) := tt_callV (As := [.int z0]) (r := []) (hxL_law θ n lim) dL_law_704 lkC_14_88 mX5_other ⟨rfl, rfl⟩ rfl rfl (Nat.le_of_ble_eq_true rfl) rfl
theorem eL_law_707  : Wp (xL_law θ n lim) Q (707, [o0, o1, some (.ref a), o3], st, w) ↔ Wp (xL_law θ n lim) Q (708, [o0, o1, some (.ref a), o3], .ref a :: st, w) := tt_aload_n (hxL_law θ n lim) dL_law_707 rfl
theorem eL_law_708  : Wp (xL_law θ n lim) Q (708, [some (.ref a), o1, o2, o3], st, w) ↔ Wp (xL_law θ n lim) Q (709, [some (.ref a), o1, o2, o3], .ref a :: st, w) := tt_aload_n (hxL_law θ n lim) dL_law_708 rfl
theorem eL_law_709  : Wp (xL_law θ n lim) Q (709, [o0, o1, o2, some (.int x)], st, w) ↔ Wp (xL_law θ n lim) Q (710, [o0, o1, o2, some (.int x)], .int x :: st, w) := tt_iload_n (hxL_law θ n lim) dL_law_709 rfl
theorem eL_law_710  : Wp (xL_law θ n lim) Q (710, lo, st, w) ↔ Wp (xL_law θ n lim) Q (711, lo, .int 1 :: st, w) := tt_iconst (hxL_law θ n lim) dL_law_710 (by decide)
theorem eL_law_711  : Wp (xL_law θ n lim) Q (711, lo, .int y :: .int x :: st, w) ↔ Wp (xL_law θ n lim) Q (712, lo, .int (x + y) :: st, w) := tt_iadd (hxL_law θ n lim) dL_law_711
theorem eL_law_712  : Wp (xL_law θ n lim) Q (712, lo, .int x :: .ref a :: st, w) ↔ (vp_in x (rGn w a) ∧ Wp (xL_law θ n lim) Q (713, lo, .int (rGv w a x.toNatClampNeg) :: st, w)) := tt_iaload (hxL_law θ n lim) dL_law_712
theorem eL_law_713 {z0 : Int32} {z1 : Nat} {z2 : Int32} : Wp (xL_law θ n lim) Q (713, lo, [.int z0, .ref z1, .int z2], w) ↔ (rIs w z1 5 ∧ sg θ n 133 [.ref z1, .int z0] w (fun v w' => Wp (xL_law θ n lim) Q (716, lo, v.toList ++ [.int z2], w'))) := tt_callV (As := [.int z0]) (r := [.int z2]) (hxL_law θ n lim) dL_law_713 lkC_14_91 mX6_other ⟨rfl, rfl⟩ rfl rfl (Nat.le_of_ble_eq_true rfl) rfl
theorem eL_law_716  : Wp (xL_law θ n lim) Q (716, lo, .int y :: .int x :: st, w) ↔ if x = y then Wp (xL_law θ n lim) Q (1147, lo, st, w) else Wp (xL_law θ n lim) Q (719, lo, st, w) := tt_ic_eq (hxL_law θ n lim) dL_law_716 (by decide)
theorem eL_law_719  : Wp (xL_law θ n lim) Q (719, lo, st, w) ↔ Wp (xL_law θ n lim) Q (720, lo, .int 0 :: st, w) := tt_iconst (hxL_law θ n lim) dL_law_719 (by decide)
theorem eL_law_720  : Wp (xL_law θ n lim) Q (720, lo, [.int x], w) ↔ (narrow .boolean (.int x) = .int x ∧ Q (some (.int x)) w) := tt_iret (hxL_law θ n lim) dL_law_720 rfl
theorem eL_law_721  : Wp (xL_law θ n lim) Q (721, [o0, some (.ref a), o2, o3], st, w) ↔ Wp (xL_law θ n lim) Q (722, [o0, some (.ref a), o2, o3], .ref a :: st, w) := tt_aload_n (hxL_law θ n lim) dL_law_721 rfl
theorem eL_law_722 {z0 : Nat} : Wp (xL_law θ n lim) Q (722, lo, [.ref z0], w) ↔ (rIs w z0 4 ∧ sg θ n 64 [.ref z0] w (fun v w' => Wp (xL_law θ n lim) Q (725, lo, v.toList ++ [], w'))) := tt_callV (As := []) (r := []) (hxL_law θ n lim) dL_law_722 lkC_14_92 mX5_first ⟨rfl, rfl⟩ rfl rfl (Nat.le_of_ble_eq_true rfl) rfl
theorem eL_law_725  : Wp (xL_law θ n lim) Q (725, [o0, o1, some (.ref a), o3], st, w) ↔ Wp (xL_law θ n lim) Q (726, [o0, o1, some (.ref a), o3], .ref a :: st, w) := tt_aload_n (hxL_law θ n lim) dL_law_725 rfl
theorem eL_law_726 {z0 : Nat} {z1 : Int32} : Wp (xL_law θ n lim) Q (726, lo, [.ref z0, .int z1], w) ↔ (rIs w z0 5 ∧ sg θ n 134 [.ref z0] w (fun v w' => Wp (xL_law θ n lim) Q (729, lo, v.toList ++ [.int z1], w'))) := tt_callV (As := []) (r := [.int z1]) (hxL_law θ n lim) dL_law_726 lkC_14_96 mX6_first ⟨rfl, rfl⟩ rfl rfl (Nat.le_of_ble_eq_true rfl) rfl
theorem eL_law_729  : Wp (xL_law θ n lim) Q (729, lo, .int y :: .int x :: st, w) ↔ if x = y then Wp (xL_law θ n lim) Q (1147, lo, st, w) else Wp (xL_law θ n lim) Q (732, lo, st, w) := tt_ic_eq (hxL_law θ n lim) dL_law_729 (by decide)
theorem eL_law_732  : Wp (xL_law θ n lim) Q (732, lo, st, w) ↔ Wp (xL_law θ n lim) Q (733, lo, .int 0 :: st, w) := tt_iconst (hxL_law θ n lim) dL_law_732 (by decide)
theorem eL_law_733  : Wp (xL_law θ n lim) Q (733, lo, [.int x], w) ↔ (narrow .boolean (.int x) = .int x ∧ Q (some (.int x)) w) := tt_iret (hxL_law θ n lim) dL_law_733 rfl
theorem eL_law_734  : Wp (xL_law θ n lim) Q (734, [o0, some (.ref a), o2, o3], st, w) ↔ Wp (xL_law θ n lim) Q (735, [o0, some (.ref a), o2, o3], .ref a :: st, w) := tt_aload_n (hxL_law θ n lim) dL_law_734 rfl
theorem eL_law_735  : Wp (xL_law θ n lim) Q (735, [some (.ref a), o1, o2, o3], st, w) ↔ Wp (xL_law θ n lim) Q (736, [some (.ref a), o1, o2, o3], .ref a :: st, w) := tt_aload_n (hxL_law θ n lim) dL_law_735 rfl
theorem eL_law_736  : Wp (xL_law θ n lim) Q (736, [o0, o1, o2, some (.int x)], st, w) ↔ Wp (xL_law θ n lim) Q (737, [o0, o1, o2, some (.int x)], .int x :: st, w) := tt_iload_n (hxL_law θ n lim) dL_law_736 rfl
theorem eL_law_737  : Wp (xL_law θ n lim) Q (737, lo, st, w) ↔ Wp (xL_law θ n lim) Q (738, lo, .int 1 :: st, w) := tt_iconst (hxL_law θ n lim) dL_law_737 (by decide)
theorem eL_law_738  : Wp (xL_law θ n lim) Q (738, lo, .int y :: .int x :: st, w) ↔ Wp (xL_law θ n lim) Q (739, lo, .int (x + y) :: st, w) := tt_iadd (hxL_law θ n lim) dL_law_738
theorem eL_law_739  : Wp (xL_law θ n lim) Q (739, lo, .int x :: .ref a :: st, w) ↔ (vp_in x (rGn w a) ∧ Wp (xL_law θ n lim) Q (740, lo, .int (rGv w a x.toNatClampNeg) :: st, w)) := tt_iaload (hxL_law θ n lim) dL_law_739
theorem eL_law_740  : Wp (xL_law θ n lim) Q (740, [some (.ref a), o1, o2, o3], st, w) ↔ Wp (xL_law θ n lim) Q (741, [some (.ref a), o1, o2, o3], .ref a :: st, w) := tt_aload_n (hxL_law θ n lim) dL_law_740 rfl
theorem eL_law_741  : Wp (xL_law θ n lim) Q (741, [o0, o1, o2, some (.int x)], st, w) ↔ Wp (xL_law θ n lim) Q (742, [o0, o1, o2, some (.int x)], .int x :: st, w) := tt_iload_n (hxL_law θ n lim) dL_law_741 rfl
theorem eL_law_742  : Wp (xL_law θ n lim) Q (742, lo, st, w) ↔ Wp (xL_law θ n lim) Q (743, lo, .int 2 :: st, w) := tt_iconst (hxL_law θ n lim) dL_law_742 (by decide)
theorem eL_law_743  : Wp (xL_law θ n lim) Q (743, lo, .int y :: .int x :: st, w) ↔ Wp (xL_law θ n lim) Q (744, lo, .int (x + y) :: st, w) := tt_iadd (hxL_law θ n lim) dL_law_743
theorem eL_law_744  : Wp (xL_law θ n lim) Q (744, lo, .int x :: .ref a :: st, w) ↔ (vp_in x (rGn w a) ∧ Wp (xL_law θ n lim) Q (745, lo, .int (rGv w a x.toNatClampNeg) :: st, w)) := tt_iaload (hxL_law θ n lim) dL_law_744
theorem eL_law_745 {z0 : Int32} {z1 : Int32} {z2 : Nat} : Wp (xL_law θ n lim) Q (745, lo, [.int z0, .int z1, .ref z2], w) ↔ (rIs w z2 4 ∧ sg θ n 65 [.ref z2, .int z1, .int z0] w (fun v w' => Wp (xL_law θ n lim) Q (748, lo, v.toList ++ [], w'))) := tt_callV (As := [.int z1, .int z0]) (r := []) (hxL_law θ n lim) dL_law_745 lkC_14_97 mX5_feed ⟨rfl, rfl⟩ rfl rfl (Nat.le_of_ble_eq_true rfl) rfl
theorem eL_law_748  : Wp (xL_law θ n lim) Q (748, [o0, o1, some (.ref a), o3], st, w) ↔ Wp (xL_law θ n lim) Q (749, [o0, o1, some (.ref a), o3], .ref a :: st, w) := tt_aload_n (hxL_law θ n lim) dL_law_748 rfl
theorem eL_law_749  : Wp (xL_law θ n lim) Q (749, [some (.ref a), o1, o2, o3], st, w) ↔ Wp (xL_law θ n lim) Q (750, [some (.ref a), o1, o2, o3], .ref a :: st, w) := tt_aload_n (hxL_law θ n lim) dL_law_749 rfl
theorem eL_law_750  : Wp (xL_law θ n lim) Q (750, [o0, o1, o2, some (.int x)], st, w) ↔ Wp (xL_law θ n lim) Q (751, [o0, o1, o2, some (.int x)], .int x :: st, w) := tt_iload_n (hxL_law θ n lim) dL_law_750 rfl
theorem eL_law_751  : Wp (xL_law θ n lim) Q (751, lo, st, w) ↔ Wp (xL_law θ n lim) Q (752, lo, .int 1 :: st, w) := tt_iconst (hxL_law θ n lim) dL_law_751 (by decide)
theorem eL_law_752  : Wp (xL_law θ n lim) Q (752, lo, .int y :: .int x :: st, w) ↔ Wp (xL_law θ n lim) Q (753, lo, .int (x + y) :: st, w) := tt_iadd (hxL_law θ n lim) dL_law_752
theorem eL_law_753  : Wp (xL_law θ n lim) Q (753, lo, .int x :: .ref a :: st, w) ↔ (vp_in x (rGn w a) ∧ Wp (xL_law θ n lim) Q (754, lo, .int (rGv w a x.toNatClampNeg) :: st, w)) := tt_iaload (hxL_law θ n lim) dL_law_753
theorem eL_law_754  : Wp (xL_law θ n lim) Q (754, [some (.ref a), o1, o2, o3], st, w) ↔ Wp (xL_law θ n lim) Q (755, [some (.ref a), o1, o2, o3], .ref a :: st, w) := tt_aload_n (hxL_law θ n lim) dL_law_754 rfl
theorem eL_law_755  : Wp (xL_law θ n lim) Q (755, [o0, o1, o2, some (.int x)], st, w) ↔ Wp (xL_law θ n lim) Q (756, [o0, o1, o2, some (.int x)], .int x :: st, w) := tt_iload_n (hxL_law θ n lim) dL_law_755 rfl
theorem eL_law_756  : Wp (xL_law θ n lim) Q (756, lo, st, w) ↔ Wp (xL_law θ n lim) Q (757, lo, .int 2 :: st, w) := tt_iconst (hxL_law θ n lim) dL_law_756 (by decide)
theorem eL_law_757  : Wp (xL_law θ n lim) Q (757, lo, .int y :: .int x :: st, w) ↔ Wp (xL_law θ n lim) Q (758, lo, .int (x + y) :: st, w) := tt_iadd (hxL_law θ n lim) dL_law_757
theorem eL_law_758  : Wp (xL_law θ n lim) Q (758, lo, .int x :: .ref a :: st, w) ↔ (vp_in x (rGn w a) ∧ Wp (xL_law θ n lim) Q (759, lo, .int (rGv w a x.toNatClampNeg) :: st, w)) := tt_iaload (hxL_law θ n lim) dL_law_758
theorem eL_law_759 {z0 : Int32} {z1 : Int32} {z2 : Nat} {z3 : Int32} : Wp (xL_law θ n lim) Q (759, lo, [.int z0, .int z1, .ref z2, .int z3], w) ↔ (rIs w z2 5 ∧ sg θ n 135 [.ref z2, .int z1, .int z0] w (fun v w' => Wp (xL_law θ n lim) Q (762, lo, v.toList ++ [.int z3], w'))) := tt_callV (As := [.int z1, .int z0]) (r := [.int z3]) (hxL_law θ n lim) dL_law_759 lkC_14_100 mX6_feed ⟨rfl, rfl⟩ rfl rfl (Nat.le_of_ble_eq_true rfl) rfl
theorem eL_law_762  : Wp (xL_law θ n lim) Q (762, lo, .int y :: .int x :: st, w) ↔ if x = y then Wp (xL_law θ n lim) Q (1147, lo, st, w) else Wp (xL_law θ n lim) Q (765, lo, st, w) := tt_ic_eq (hxL_law θ n lim) dL_law_762 (by decide)
theorem eL_law_765  : Wp (xL_law θ n lim) Q (765, lo, st, w) ↔ Wp (xL_law θ n lim) Q (766, lo, .int 0 :: st, w) := tt_iconst (hxL_law θ n lim) dL_law_765 (by decide)
theorem eL_law_766  : Wp (xL_law θ n lim) Q (766, lo, [.int x], w) ↔ (narrow .boolean (.int x) = .int x ∧ Q (some (.int x)) w) := tt_iret (hxL_law θ n lim) dL_law_766 rfl
theorem eL_law_767  : Wp (xL_law θ n lim) Q (767, [o0, some (.ref a), o2, o3], st, w) ↔ Wp (xL_law θ n lim) Q (768, [o0, some (.ref a), o2, o3], .ref a :: st, w) := tt_aload_n (hxL_law θ n lim) dL_law_767 rfl
theorem eL_law_768 {z0 : Nat} : Wp (xL_law θ n lim) Q (768, lo, [.ref z0], w) ↔ (rIs w z0 4 ∧ sg θ n 66 [.ref z0] w (fun v w' => Wp (xL_law θ n lim) Q (771, lo, v.toList ++ [], w'))) := tt_callV (As := []) (r := []) (hxL_law θ n lim) dL_law_768 lkC_14_101 mX5_wipe ⟨rfl, rfl⟩ rfl rfl (Nat.le_of_ble_eq_true rfl) rfl
theorem eL_law_771  : Wp (xL_law θ n lim) Q (771, [o0, o1, some (.ref a), o3], st, w) ↔ Wp (xL_law θ n lim) Q (772, [o0, o1, some (.ref a), o3], .ref a :: st, w) := tt_aload_n (hxL_law θ n lim) dL_law_771 rfl
theorem eL_law_772 {z0 : Nat} {z1 : Int32} : Wp (xL_law θ n lim) Q (772, lo, [.ref z0, .int z1], w) ↔ (rIs w z0 5 ∧ sg θ n 136 [.ref z0] w (fun v w' => Wp (xL_law θ n lim) Q (775, lo, v.toList ++ [.int z1], w'))) := tt_callV (As := []) (r := [.int z1]) (hxL_law θ n lim) dL_law_772 lkC_14_104 mX6_wipe ⟨rfl, rfl⟩ rfl rfl (Nat.le_of_ble_eq_true rfl) rfl
theorem eL_law_775  : Wp (xL_law θ n lim) Q (775, lo, .int y :: .int x :: st, w) ↔ if x = y then Wp (xL_law θ n lim) Q (1147, lo, st, w) else Wp (xL_law θ n lim) Q (778, lo, st, w) := tt_ic_eq (hxL_law θ n lim) dL_law_775 (by decide)
theorem eL_law_778  : Wp (xL_law θ n lim) Q (778, lo, st, w) ↔ Wp (xL_law θ n lim) Q (779, lo, .int 0 :: st, w) := tt_iconst (hxL_law θ n lim) dL_law_778 (by decide)
theorem eL_law_779  : Wp (xL_law θ n lim) Q (779, lo, [.int x], w) ↔ (narrow .boolean (.int x) = .int x ∧ Q (some (.int x)) w) := tt_iret (hxL_law θ n lim) dL_law_779 rfl
theorem eL_law_780  : Wp (xL_law θ n lim) Q (780, [o0, some (.ref a), o2, o3], st, w) ↔ Wp (xL_law θ n lim) Q (781, [o0, some (.ref a), o2, o3], .ref a :: st, w) := tt_aload_n (hxL_law θ n lim) dL_law_780 rfl
theorem eL_law_781 {z0 : Nat} : Wp (xL_law θ n lim) Q (781, lo, [.ref z0], w) ↔ (rIs w z0 4 ∧ sg θ n 67 [.ref z0] w (fun v w' => Wp (xL_law θ n lim) Q (784, lo, v.toList ++ [], w'))) := tt_callV (As := []) (r := []) (hxL_law θ n lim) dL_law_781 lkC_14_105 mX5_avenue ⟨rfl, rfl⟩ rfl rfl (Nat.le_of_ble_eq_true rfl) rfl
theorem eL_law_784  : Wp (xL_law θ n lim) Q (784, [o0, o1, some (.ref a), o3], st, w) ↔ Wp (xL_law θ n lim) Q (785, [o0, o1, some (.ref a), o3], .ref a :: st, w) := tt_aload_n (hxL_law θ n lim) dL_law_784 rfl
theorem eL_law_785 {z0 : Nat} {z1 : Int32} : Wp (xL_law θ n lim) Q (785, lo, [.ref z0, .int z1], w) ↔ (rIs w z0 5 ∧ sg θ n 137 [.ref z0] w (fun v w' => Wp (xL_law θ n lim) Q (788, lo, v.toList ++ [.int z1], w'))) := tt_callV (As := []) (r := [.int z1]) (hxL_law θ n lim) dL_law_785 lkC_14_108 mX6_avenue ⟨rfl, rfl⟩ rfl rfl (Nat.le_of_ble_eq_true rfl) rfl
theorem eL_law_788  : Wp (xL_law θ n lim) Q (788, lo, .int y :: .int x :: st, w) ↔ if x = y then Wp (xL_law θ n lim) Q (1147, lo, st, w) else Wp (xL_law θ n lim) Q (791, lo, st, w) := tt_ic_eq (hxL_law θ n lim) dL_law_788 (by decide)
theorem eL_law_791  : Wp (xL_law θ n lim) Q (791, lo, st, w) ↔ Wp (xL_law θ n lim) Q (792, lo, .int 0 :: st, w) := tt_iconst (hxL_law θ n lim) dL_law_791 (by decide)
theorem eL_law_792  : Wp (xL_law θ n lim) Q (792, lo, [.int x], w) ↔ (narrow .boolean (.int x) = .int x ∧ Q (some (.int x)) w) := tt_iret (hxL_law θ n lim) dL_law_792 rfl
theorem eL_law_793  : Wp (xL_law θ n lim) Q (793, [o0, some (.ref a), o2, o3], st, w) ↔ Wp (xL_law θ n lim) Q (794, [o0, some (.ref a), o2, o3], .ref a :: st, w) := tt_aload_n (hxL_law θ n lim) dL_law_793 rfl
theorem eL_law_794  : Wp (xL_law θ n lim) Q (794, [some (.ref a), o1, o2, o3], st, w) ↔ Wp (xL_law θ n lim) Q (795, [some (.ref a), o1, o2, o3], .ref a :: st, w) := tt_aload_n (hxL_law θ n lim) dL_law_794 rfl
theorem eL_law_795  : Wp (xL_law θ n lim) Q (795, [o0, o1, o2, some (.int x)], st, w) ↔ Wp (xL_law θ n lim) Q (796, [o0, o1, o2, some (.int x)], .int x :: st, w) := tt_iload_n (hxL_law θ n lim) dL_law_795 rfl
theorem eL_law_796  : Wp (xL_law θ n lim) Q (796, lo, st, w) ↔ Wp (xL_law θ n lim) Q (797, lo, .int 1 :: st, w) := tt_iconst (hxL_law θ n lim) dL_law_796 (by decide)
theorem eL_law_797  : Wp (xL_law θ n lim) Q (797, lo, .int y :: .int x :: st, w) ↔ Wp (xL_law θ n lim) Q (798, lo, .int (x + y) :: st, w) := tt_iadd (hxL_law θ n lim) dL_law_797
theorem eL_law_798  : Wp (xL_law θ n lim) Q (798, lo, .int x :: .ref a :: st, w) ↔ (vp_in x (rGn w a) ∧ Wp (xL_law θ n lim) Q (799, lo, .int (rGv w a x.toNatClampNeg) :: st, w)) := tt_iaload (hxL_law θ n lim) dL_law_798
theorem eL_law_799  : Wp (xL_law θ n lim) Q (799, [some (.ref a), o1, o2, o3], st, w) ↔ Wp (xL_law θ n lim) Q (800, [some (.ref a), o1, o2, o3], .ref a :: st, w) := tt_aload_n (hxL_law θ n lim) dL_law_799 rfl
theorem eL_law_800  : Wp (xL_law θ n lim) Q (800, [o0, o1, o2, some (.int x)], st, w) ↔ Wp (xL_law θ n lim) Q (801, [o0, o1, o2, some (.int x)], .int x :: st, w) := tt_iload_n (hxL_law θ n lim) dL_law_800 rfl
theorem eL_law_801  : Wp (xL_law θ n lim) Q (801, lo, st, w) ↔ Wp (xL_law θ n lim) Q (802, lo, .int 2 :: st, w) := tt_iconst (hxL_law θ n lim) dL_law_801 (by decide)
theorem eL_law_802  : Wp (xL_law θ n lim) Q (802, lo, .int y :: .int x :: st, w) ↔ Wp (xL_law θ n lim) Q (803, lo, .int (x + y) :: st, w) := tt_iadd (hxL_law θ n lim) dL_law_802
theorem eL_law_803  : Wp (xL_law θ n lim) Q (803, lo, .int x :: .ref a :: st, w) ↔ (vp_in x (rGn w a) ∧ Wp (xL_law θ n lim) Q (804, lo, .int (rGv w a x.toNatClampNeg) :: st, w)) := tt_iaload (hxL_law θ n lim) dL_law_803
theorem eL_law_804  : Wp (xL_law θ n lim) Q (804, [some (.ref a), o1, o2, o3], st, w) ↔ Wp (xL_law θ n lim) Q (805, [some (.ref a), o1, o2, o3], .ref a :: st, w) := tt_aload_n (hxL_law θ n lim) dL_law_804 rfl
theorem eL_law_805  : Wp (xL_law θ n lim) Q (805, [o0, o1, o2, some (.int x)], st, w) ↔ Wp (xL_law θ n lim) Q (806, [o0, o1, o2, some (.int x)], .int x :: st, w) := tt_iload_n (hxL_law θ n lim) dL_law_805 rfl
theorem eL_law_806  : Wp (xL_law θ n lim) Q (806, lo, st, w) ↔ Wp (xL_law θ n lim) Q (807, lo, .int 3 :: st, w) := tt_iconst (hxL_law θ n lim) dL_law_806 (by decide)
theorem eL_law_807  : Wp (xL_law θ n lim) Q (807, lo, .int y :: .int x :: st, w) ↔ Wp (xL_law θ n lim) Q (808, lo, .int (x + y) :: st, w) := tt_iadd (hxL_law θ n lim) dL_law_807
theorem eL_law_808  : Wp (xL_law θ n lim) Q (808, lo, .int x :: .ref a :: st, w) ↔ (vp_in x (rGn w a) ∧ Wp (xL_law θ n lim) Q (809, lo, .int (rGv w a x.toNatClampNeg) :: st, w)) := tt_iaload (hxL_law θ n lim) dL_law_808
theorem eL_law_809 {z0 : Int32} {z1 : Int32} {z2 : Int32} {z3 : Nat} : Wp (xL_law θ n lim) Q (809, lo, [.int z0, .int z1, .int z2, .ref z3], w) ↔ (rIs w z3 4 ∧ sg θ n 68 [.ref z3, .int z2, .int z1, .int z0] w (fun v w' => Wp (xL_law θ n lim) Q (812, lo, v.toList ++ [], w'))) := tt_callV (As := [.int z2, .int z1, .int z0]) (r := []) (hxL_law θ n lim) dL_law_809 lkC_14_109 mX5_sheet ⟨rfl, rfl⟩ rfl rfl (Nat.le_of_ble_eq_true rfl) rfl
theorem eL_law_812  : Wp (xL_law θ n lim) Q (812, [o0, o1, some (.ref a), o3], st, w) ↔ Wp (xL_law θ n lim) Q (813, [o0, o1, some (.ref a), o3], .ref a :: st, w) := tt_aload_n (hxL_law θ n lim) dL_law_812 rfl
theorem eL_law_813  : Wp (xL_law θ n lim) Q (813, [some (.ref a), o1, o2, o3], st, w) ↔ Wp (xL_law θ n lim) Q (814, [some (.ref a), o1, o2, o3], .ref a :: st, w) := tt_aload_n (hxL_law θ n lim) dL_law_813 rfl
theorem eL_law_814  : Wp (xL_law θ n lim) Q (814, [o0, o1, o2, some (.int x)], st, w) ↔ Wp (xL_law θ n lim) Q (815, [o0, o1, o2, some (.int x)], .int x :: st, w) := tt_iload_n (hxL_law θ n lim) dL_law_814 rfl
theorem eL_law_815  : Wp (xL_law θ n lim) Q (815, lo, st, w) ↔ Wp (xL_law θ n lim) Q (816, lo, .int 1 :: st, w) := tt_iconst (hxL_law θ n lim) dL_law_815 (by decide)
theorem eL_law_816  : Wp (xL_law θ n lim) Q (816, lo, .int y :: .int x :: st, w) ↔ Wp (xL_law θ n lim) Q (817, lo, .int (x + y) :: st, w) := tt_iadd (hxL_law θ n lim) dL_law_816
theorem eL_law_817  : Wp (xL_law θ n lim) Q (817, lo, .int x :: .ref a :: st, w) ↔ (vp_in x (rGn w a) ∧ Wp (xL_law θ n lim) Q (818, lo, .int (rGv w a x.toNatClampNeg) :: st, w)) := tt_iaload (hxL_law θ n lim) dL_law_817
theorem eL_law_818  : Wp (xL_law θ n lim) Q (818, [some (.ref a), o1, o2, o3], st, w) ↔ Wp (xL_law θ n lim) Q (819, [some (.ref a), o1, o2, o3], .ref a :: st, w) := tt_aload_n (hxL_law θ n lim) dL_law_818 rfl
theorem eL_law_819  : Wp (xL_law θ n lim) Q (819, [o0, o1, o2, some (.int x)], st, w) ↔ Wp (xL_law θ n lim) Q (820, [o0, o1, o2, some (.int x)], .int x :: st, w) := tt_iload_n (hxL_law θ n lim) dL_law_819 rfl
theorem eL_law_820  : Wp (xL_law θ n lim) Q (820, lo, st, w) ↔ Wp (xL_law θ n lim) Q (821, lo, .int 2 :: st, w) := tt_iconst (hxL_law θ n lim) dL_law_820 (by decide)
theorem eL_law_821  : Wp (xL_law θ n lim) Q (821, lo, .int y :: .int x :: st, w) ↔ Wp (xL_law θ n lim) Q (822, lo, .int (x + y) :: st, w) := tt_iadd (hxL_law θ n lim) dL_law_821
theorem eL_law_822  : Wp (xL_law θ n lim) Q (822, lo, .int x :: .ref a :: st, w) ↔ (vp_in x (rGn w a) ∧ Wp (xL_law θ n lim) Q (823, lo, .int (rGv w a x.toNatClampNeg) :: st, w)) := tt_iaload (hxL_law θ n lim) dL_law_822
theorem eL_law_823  : Wp (xL_law θ n lim) Q (823, [some (.ref a), o1, o2, o3], st, w) ↔ Wp (xL_law θ n lim) Q (824, [some (.ref a), o1, o2, o3], .ref a :: st, w) := tt_aload_n (hxL_law θ n lim) dL_law_823 rfl
theorem eL_law_824  : Wp (xL_law θ n lim) Q (824, [o0, o1, o2, some (.int x)], st, w) ↔ Wp (xL_law θ n lim) Q (825, [o0, o1, o2, some (.int x)], .int x :: st, w) := tt_iload_n (hxL_law θ n lim) dL_law_824 rfl
theorem eL_law_825  : Wp (xL_law θ n lim) Q (825, lo, st, w) ↔ Wp (xL_law θ n lim) Q (826, lo, .int 3 :: st, w) := tt_iconst (hxL_law θ n lim) dL_law_825 (by decide)
theorem eL_law_826  : Wp (xL_law θ n lim) Q (826, lo, .int y :: .int x :: st, w) ↔ Wp (xL_law θ n lim) Q (827, lo, .int (x + y) :: st, w) := tt_iadd (hxL_law θ n lim) dL_law_826
theorem eL_law_827  : Wp (xL_law θ n lim) Q (827, lo, .int x :: .ref a :: st, w) ↔ (vp_in x (rGn w a) ∧ Wp (xL_law θ n lim) Q (828, lo, .int (rGv w a x.toNatClampNeg) :: st, w)) := tt_iaload (hxL_law θ n lim) dL_law_827
theorem eL_law_828 {z0 : Int32} {z1 : Int32} {z2 : Int32} {z3 : Nat} {z4 : Int32} : Wp (xL_law θ n lim) Q (828, lo, [.int z0, .int z1, .int z2, .ref z3, .int z4], w) ↔ (rIs w z3 5 ∧ sg θ n 149 [.ref z3, .int z2, .int z1, .int z0] w (fun v w' => Wp (xL_law θ n lim) Q (831, lo, v.toList ++ [.int z4], w'))) := tt_callV (As := [.int z2, .int z1, .int z0]) (r := [.int z4]) (hxL_law θ n lim) dL_law_828 lkC_14_112 mX6_sheet ⟨rfl, rfl⟩ rfl rfl (Nat.le_of_ble_eq_true rfl) rfl
theorem eL_law_831  : Wp (xL_law θ n lim) Q (831, lo, .int y :: .int x :: st, w) ↔ if x = y then Wp (xL_law θ n lim) Q (1147, lo, st, w) else Wp (xL_law θ n lim) Q (834, lo, st, w) := tt_ic_eq (hxL_law θ n lim) dL_law_831 (by decide)
theorem eL_law_834  : Wp (xL_law θ n lim) Q (834, lo, st, w) ↔ Wp (xL_law θ n lim) Q (835, lo, .int 0 :: st, w) := tt_iconst (hxL_law θ n lim) dL_law_834 (by decide)
theorem eL_law_835  : Wp (xL_law θ n lim) Q (835, lo, [.int x], w) ↔ (narrow .boolean (.int x) = .int x ∧ Q (some (.int x)) w) := tt_iret (hxL_law θ n lim) dL_law_835 rfl
theorem eL_law_836  : Wp (xL_law θ n lim) Q (836, [o0, some (.ref a), o2, o3], st, w) ↔ Wp (xL_law θ n lim) Q (837, [o0, some (.ref a), o2, o3], .ref a :: st, w) := tt_aload_n (hxL_law θ n lim) dL_law_836 rfl
theorem eL_law_837  : Wp (xL_law θ n lim) Q (837, [some (.ref a), o1, o2, o3], st, w) ↔ Wp (xL_law θ n lim) Q (838, [some (.ref a), o1, o2, o3], .ref a :: st, w) := tt_aload_n (hxL_law θ n lim) dL_law_837 rfl
theorem eL_law_838  : Wp (xL_law θ n lim) Q (838, [o0, o1, o2, some (.int x)], st, w) ↔ Wp (xL_law θ n lim) Q (839, [o0, o1, o2, some (.int x)], .int x :: st, w) := tt_iload_n (hxL_law θ n lim) dL_law_838 rfl
theorem eL_law_839  : Wp (xL_law θ n lim) Q (839, lo, st, w) ↔ Wp (xL_law θ n lim) Q (840, lo, .int 1 :: st, w) := tt_iconst (hxL_law θ n lim) dL_law_839 (by decide)
theorem eL_law_840  : Wp (xL_law θ n lim) Q (840, lo, .int y :: .int x :: st, w) ↔ Wp (xL_law θ n lim) Q (841, lo, .int (x + y) :: st, w) := tt_iadd (hxL_law θ n lim) dL_law_840
theorem eL_law_841  : Wp (xL_law θ n lim) Q (841, lo, .int x :: .ref a :: st, w) ↔ (vp_in x (rGn w a) ∧ Wp (xL_law θ n lim) Q (842, lo, .int (rGv w a x.toNatClampNeg) :: st, w)) := tt_iaload (hxL_law θ n lim) dL_law_841
theorem eL_law_842  : Wp (xL_law θ n lim) Q (842, [some (.ref a), o1, o2, o3], st, w) ↔ Wp (xL_law θ n lim) Q (843, [some (.ref a), o1, o2, o3], .ref a :: st, w) := tt_aload_n (hxL_law θ n lim) dL_law_842 rfl
theorem eL_law_843  : Wp (xL_law θ n lim) Q (843, [o0, o1, o2, some (.int x)], st, w) ↔ Wp (xL_law θ n lim) Q (844, [o0, o1, o2, some (.int x)], .int x :: st, w) := tt_iload_n (hxL_law θ n lim) dL_law_843 rfl
theorem eL_law_844  : Wp (xL_law θ n lim) Q (844, lo, st, w) ↔ Wp (xL_law θ n lim) Q (845, lo, .int 2 :: st, w) := tt_iconst (hxL_law θ n lim) dL_law_844 (by decide)
theorem eL_law_845  : Wp (xL_law θ n lim) Q (845, lo, .int y :: .int x :: st, w) ↔ Wp (xL_law θ n lim) Q (846, lo, .int (x + y) :: st, w) := tt_iadd (hxL_law θ n lim) dL_law_845
theorem eL_law_846  : Wp (xL_law θ n lim) Q (846, lo, .int x :: .ref a :: st, w) ↔ (vp_in x (rGn w a) ∧ Wp (xL_law θ n lim) Q (847, lo, .int (rGv w a x.toNatClampNeg) :: st, w)) := tt_iaload (hxL_law θ n lim) dL_law_846
theorem eL_law_847  : Wp (xL_law θ n lim) Q (847, [some (.ref a), o1, o2, o3], st, w) ↔ Wp (xL_law θ n lim) Q (848, [some (.ref a), o1, o2, o3], .ref a :: st, w) := tt_aload_n (hxL_law θ n lim) dL_law_847 rfl
theorem eL_law_848  : Wp (xL_law θ n lim) Q (848, [o0, o1, o2, some (.int x)], st, w) ↔ Wp (xL_law θ n lim) Q (849, [o0, o1, o2, some (.int x)], .int x :: st, w) := tt_iload_n (hxL_law θ n lim) dL_law_848 rfl
theorem eL_law_849  : Wp (xL_law θ n lim) Q (849, lo, st, w) ↔ Wp (xL_law θ n lim) Q (850, lo, .int 3 :: st, w) := tt_iconst (hxL_law θ n lim) dL_law_849 (by decide)
theorem eL_law_850  : Wp (xL_law θ n lim) Q (850, lo, .int y :: .int x :: st, w) ↔ Wp (xL_law θ n lim) Q (851, lo, .int (x + y) :: st, w) := tt_iadd (hxL_law θ n lim) dL_law_850
theorem eL_law_851  : Wp (xL_law θ n lim) Q (851, lo, .int x :: .ref a :: st, w) ↔ (vp_in x (rGn w a) ∧ Wp (xL_law θ n lim) Q (852, lo, .int (rGv w a x.toNatClampNeg) :: st, w)) := tt_iaload (hxL_law θ n lim) dL_law_851
theorem eL_law_852  : Wp (xL_law θ n lim) Q (852, lo, .int x :: st, w) ↔ Wp (xL_law θ n lim) Q (853, lo, .long x.toInt64 :: st, w) := tt_i2l (hxL_law θ n lim) dL_law_852
theorem eL_law_853  : Wp (xL_law θ n lim) Q (853, lo, st, w) ↔ Wp (xL_law θ n lim) Q (855, lo, .int 32 :: st, w) := tt_bipush (hxL_law θ n lim) dL_law_853 (by decide)
theorem eL_law_855  : Wp (xL_law θ n lim) Q (855, lo, .int y :: .long u :: st, w) ↔ Wp (xL_law θ n lim) Q (856, lo, .long (u <<< (y.toInt64 &&& 63)) :: st, w) := tt_lshl (hxL_law θ n lim) dL_law_855
theorem eL_law_856  : Wp (xL_law θ n lim) Q (856, [some (.ref a), o1, o2, o3], st, w) ↔ Wp (xL_law θ n lim) Q (857, [some (.ref a), o1, o2, o3], .ref a :: st, w) := tt_aload_n (hxL_law θ n lim) dL_law_856 rfl
theorem eL_law_857  : Wp (xL_law θ n lim) Q (857, [o0, o1, o2, some (.int x)], st, w) ↔ Wp (xL_law θ n lim) Q (858, [o0, o1, o2, some (.int x)], .int x :: st, w) := tt_iload_n (hxL_law θ n lim) dL_law_857 rfl
theorem eL_law_858  : Wp (xL_law θ n lim) Q (858, lo, st, w) ↔ Wp (xL_law θ n lim) Q (859, lo, .int 4 :: st, w) := tt_iconst (hxL_law θ n lim) dL_law_858 (by decide)
theorem eL_law_859  : Wp (xL_law θ n lim) Q (859, lo, .int y :: .int x :: st, w) ↔ Wp (xL_law θ n lim) Q (860, lo, .int (x + y) :: st, w) := tt_iadd (hxL_law θ n lim) dL_law_859
theorem eL_law_860  : Wp (xL_law θ n lim) Q (860, lo, .int x :: .ref a :: st, w) ↔ (vp_in x (rGn w a) ∧ Wp (xL_law θ n lim) Q (861, lo, .int (rGv w a x.toNatClampNeg) :: st, w)) := tt_iaload (hxL_law θ n lim) dL_law_860
theorem eL_law_861  : Wp (xL_law θ n lim) Q (861, lo, .int x :: st, w) ↔ Wp (xL_law θ n lim) Q (862, lo, .long x.toInt64 :: st, w) := tt_i2l (hxL_law θ n lim) dL_law_861
theorem eL_law_862  : Wp (xL_law θ n lim) Q (862, lo, st, w) ↔ Wp (xL_law θ n lim) Q (865, lo, .long 4294967295 :: st, w) := tt_ldc2 (hxL_law θ n lim) dL_law_862 (by decide +kernel : rLng.lookup (14, 113) = some 4294967295)
theorem eL_law_865  : Wp (xL_law θ n lim) Q (865, lo, .long v :: .long u :: st, w) ↔ Wp (xL_law θ n lim) Q (866, lo, .long (u &&& v) :: st, w) := tt_land (hxL_law θ n lim) dL_law_865
theorem eL_law_866  : Wp (xL_law θ n lim) Q (866, lo, .long v :: .long u :: st, w) ↔ Wp (xL_law θ n lim) Q (867, lo, .long (u ||| v) :: st, w) := tt_lor (hxL_law θ n lim) dL_law_866
theorem eL_law_867 {z0 : Int64} {z1 : Int32} {z2 : Int32} {z3 : Nat} : Wp (xL_law θ n lim) Q (867, lo, [.long z0, .int z1, .int z2, .ref z3], w) ↔ (rIs w z3 4 ∧ sg θ n 70 [.ref z3, .int z2, .int z1, .long z0] w (fun v w' => Wp (xL_law θ n lim) Q (870, lo, v.toList ++ [], w'))) := tt_callV (As := [.int z2, .int z1, .long z0]) (r := []) (hxL_law θ n lim) dL_law_867 lkC_14_115 mX5_write ⟨rfl, rfl⟩ rfl rfl (Nat.le_of_ble_eq_true rfl) rfl
theorem eL_law_870  : Wp (xL_law θ n lim) Q (870, [o0, o1, some (.ref a), o3], st, w) ↔ Wp (xL_law θ n lim) Q (871, [o0, o1, some (.ref a), o3], .ref a :: st, w) := tt_aload_n (hxL_law θ n lim) dL_law_870 rfl
theorem eL_law_871  : Wp (xL_law θ n lim) Q (871, [some (.ref a), o1, o2, o3], st, w) ↔ Wp (xL_law θ n lim) Q (872, [some (.ref a), o1, o2, o3], .ref a :: st, w) := tt_aload_n (hxL_law θ n lim) dL_law_871 rfl
theorem eL_law_872  : Wp (xL_law θ n lim) Q (872, [o0, o1, o2, some (.int x)], st, w) ↔ Wp (xL_law θ n lim) Q (873, [o0, o1, o2, some (.int x)], .int x :: st, w) := tt_iload_n (hxL_law θ n lim) dL_law_872 rfl
theorem eL_law_873  : Wp (xL_law θ n lim) Q (873, lo, st, w) ↔ Wp (xL_law θ n lim) Q (874, lo, .int 1 :: st, w) := tt_iconst (hxL_law θ n lim) dL_law_873 (by decide)
theorem eL_law_874  : Wp (xL_law θ n lim) Q (874, lo, .int y :: .int x :: st, w) ↔ Wp (xL_law θ n lim) Q (875, lo, .int (x + y) :: st, w) := tt_iadd (hxL_law θ n lim) dL_law_874
theorem eL_law_875  : Wp (xL_law θ n lim) Q (875, lo, .int x :: .ref a :: st, w) ↔ (vp_in x (rGn w a) ∧ Wp (xL_law θ n lim) Q (876, lo, .int (rGv w a x.toNatClampNeg) :: st, w)) := tt_iaload (hxL_law θ n lim) dL_law_875
theorem eL_law_876  : Wp (xL_law θ n lim) Q (876, [some (.ref a), o1, o2, o3], st, w) ↔ Wp (xL_law θ n lim) Q (877, [some (.ref a), o1, o2, o3], .ref a :: st, w) := tt_aload_n (hxL_law θ n lim) dL_law_876 rfl
theorem eL_law_877  : Wp (xL_law θ n lim) Q (877, [o0, o1, o2, some (.int x)], st, w) ↔ Wp (xL_law θ n lim) Q (878, [o0, o1, o2, some (.int x)], .int x :: st, w) := tt_iload_n (hxL_law θ n lim) dL_law_877 rfl
theorem eL_law_878  : Wp (xL_law θ n lim) Q (878, lo, st, w) ↔ Wp (xL_law θ n lim) Q (879, lo, .int 2 :: st, w) := tt_iconst (hxL_law θ n lim) dL_law_878 (by decide)
theorem eL_law_879  : Wp (xL_law θ n lim) Q (879, lo, .int y :: .int x :: st, w) ↔ Wp (xL_law θ n lim) Q (880, lo, .int (x + y) :: st, w) := tt_iadd (hxL_law θ n lim) dL_law_879
theorem eL_law_880  : Wp (xL_law θ n lim) Q (880, lo, .int x :: .ref a :: st, w) ↔ (vp_in x (rGn w a) ∧ Wp (xL_law θ n lim) Q (881, lo, .int (rGv w a x.toNatClampNeg) :: st, w)) := tt_iaload (hxL_law θ n lim) dL_law_880
theorem eL_law_881  : Wp (xL_law θ n lim) Q (881, [some (.ref a), o1, o2, o3], st, w) ↔ Wp (xL_law θ n lim) Q (882, [some (.ref a), o1, o2, o3], .ref a :: st, w) := tt_aload_n (hxL_law θ n lim) dL_law_881 rfl
theorem eL_law_882  : Wp (xL_law θ n lim) Q (882, [o0, o1, o2, some (.int x)], st, w) ↔ Wp (xL_law θ n lim) Q (883, [o0, o1, o2, some (.int x)], .int x :: st, w) := tt_iload_n (hxL_law θ n lim) dL_law_882 rfl
theorem eL_law_883  : Wp (xL_law θ n lim) Q (883, lo, st, w) ↔ Wp (xL_law θ n lim) Q (884, lo, .int 3 :: st, w) := tt_iconst (hxL_law θ n lim) dL_law_883 (by decide)
theorem eL_law_884  : Wp (xL_law θ n lim) Q (884, lo, .int y :: .int x :: st, w) ↔ Wp (xL_law θ n lim) Q (885, lo, .int (x + y) :: st, w) := tt_iadd (hxL_law θ n lim) dL_law_884
theorem eL_law_885  : Wp (xL_law θ n lim) Q (885, lo, .int x :: .ref a :: st, w) ↔ (vp_in x (rGn w a) ∧ Wp (xL_law θ n lim) Q (886, lo, .int (rGv w a x.toNatClampNeg) :: st, w)) := tt_iaload (hxL_law θ n lim) dL_law_885
theorem eL_law_886  : Wp (xL_law θ n lim) Q (886, lo, .int x :: st, w) ↔ Wp (xL_law θ n lim) Q (887, lo, .long x.toInt64 :: st, w) := tt_i2l (hxL_law θ n lim) dL_law_886
theorem eL_law_887  : Wp (xL_law θ n lim) Q (887, lo, st, w) ↔ Wp (xL_law θ n lim) Q (889, lo, .int 32 :: st, w) := tt_bipush (hxL_law θ n lim) dL_law_887 (by decide)
theorem eL_law_889  : Wp (xL_law θ n lim) Q (889, lo, .int y :: .long u :: st, w) ↔ Wp (xL_law θ n lim) Q (890, lo, .long (u <<< (y.toInt64 &&& 63)) :: st, w) := tt_lshl (hxL_law θ n lim) dL_law_889
theorem eL_law_890  : Wp (xL_law θ n lim) Q (890, [some (.ref a), o1, o2, o3], st, w) ↔ Wp (xL_law θ n lim) Q (891, [some (.ref a), o1, o2, o3], .ref a :: st, w) := tt_aload_n (hxL_law θ n lim) dL_law_890 rfl
theorem eL_law_891  : Wp (xL_law θ n lim) Q (891, [o0, o1, o2, some (.int x)], st, w) ↔ Wp (xL_law θ n lim) Q (892, [o0, o1, o2, some (.int x)], .int x :: st, w) := tt_iload_n (hxL_law θ n lim) dL_law_891 rfl
theorem eL_law_892  : Wp (xL_law θ n lim) Q (892, lo, st, w) ↔ Wp (xL_law θ n lim) Q (893, lo, .int 4 :: st, w) := tt_iconst (hxL_law θ n lim) dL_law_892 (by decide)
theorem eL_law_893  : Wp (xL_law θ n lim) Q (893, lo, .int y :: .int x :: st, w) ↔ Wp (xL_law θ n lim) Q (894, lo, .int (x + y) :: st, w) := tt_iadd (hxL_law θ n lim) dL_law_893
theorem eL_law_894  : Wp (xL_law θ n lim) Q (894, lo, .int x :: .ref a :: st, w) ↔ (vp_in x (rGn w a) ∧ Wp (xL_law θ n lim) Q (895, lo, .int (rGv w a x.toNatClampNeg) :: st, w)) := tt_iaload (hxL_law θ n lim) dL_law_894
theorem eL_law_895  : Wp (xL_law θ n lim) Q (895, lo, .int x :: st, w) ↔ Wp (xL_law θ n lim) Q (896, lo, .long x.toInt64 :: st, w) := tt_i2l (hxL_law θ n lim) dL_law_895
theorem eL_law_896  : Wp (xL_law θ n lim) Q (896, lo, st, w) ↔ Wp (xL_law θ n lim) Q (899, lo, .long 4294967295 :: st, w) := tt_ldc2 (hxL_law θ n lim) dL_law_896 (by decide +kernel : rLng.lookup (14, 113) = some 4294967295)
theorem eL_law_899  : Wp (xL_law θ n lim) Q (899, lo, .long v :: .long u :: st, w) ↔ Wp (xL_law θ n lim) Q (900, lo, .long (u &&& v) :: st, w) := tt_land (hxL_law θ n lim) dL_law_899
theorem eL_law_900  : Wp (xL_law θ n lim) Q (900, lo, .long v :: .long u :: st, w) ↔ Wp (xL_law θ n lim) Q (901, lo, .long (u ||| v) :: st, w) := tt_lor (hxL_law θ n lim) dL_law_900
theorem eL_law_901 {z0 : Int64} {z1 : Int32} {z2 : Int32} {z3 : Nat} {z4 : Int64} : Wp (xL_law θ n lim) Q (901, lo, [.long z0, .int z1, .int z2, .ref z3, .long z4], w) ↔ (rIs w z3 5 ∧ sg θ n 151 [.ref z3, .int z2, .int z1, .long z0] w (fun v w' => Wp (xL_law θ n lim) Q (904, lo, v.toList ++ [.long z4], w'))) := tt_callV (As := [.int z2, .int z1, .long z0]) (r := [.long z4]) (hxL_law θ n lim) dL_law_901 lkC_14_119 mX6_write ⟨rfl, rfl⟩ rfl rfl (Nat.le_of_ble_eq_true rfl) rfl
theorem eL_law_904  : Wp (xL_law θ n lim) Q (904, lo, .long v :: .long u :: st, w) ↔ Wp (xL_law θ n lim) Q (905, lo, .int (lg_cmp u v) :: st, w) := tt_lcmp (hxL_law θ n lim) dL_law_904
theorem eL_law_905  : Wp (xL_law θ n lim) Q (905, lo, .int x :: st, w) ↔ if x = 0 then Wp (xL_law θ n lim) Q (1147, lo, st, w) else Wp (xL_law θ n lim) Q (908, lo, st, w) := tt_if_eq (hxL_law θ n lim) dL_law_905 (by decide)
theorem eL_law_908  : Wp (xL_law θ n lim) Q (908, lo, st, w) ↔ Wp (xL_law θ n lim) Q (909, lo, .int 0 :: st, w) := tt_iconst (hxL_law θ n lim) dL_law_908 (by decide)
theorem eL_law_909  : Wp (xL_law θ n lim) Q (909, lo, [.int x], w) ↔ (narrow .boolean (.int x) = .int x ∧ Q (some (.int x)) w) := tt_iret (hxL_law θ n lim) dL_law_909 rfl
theorem eL_law_910  : Wp (xL_law θ n lim) Q (910, [o0, some (.ref a), o2, o3], st, w) ↔ Wp (xL_law θ n lim) Q (911, [o0, some (.ref a), o2, o3], .ref a :: st, w) := tt_aload_n (hxL_law θ n lim) dL_law_910 rfl
theorem eL_law_911  : Wp (xL_law θ n lim) Q (911, [some (.ref a), o1, o2, o3], st, w) ↔ Wp (xL_law θ n lim) Q (912, [some (.ref a), o1, o2, o3], .ref a :: st, w) := tt_aload_n (hxL_law θ n lim) dL_law_911 rfl
theorem eL_law_912  : Wp (xL_law θ n lim) Q (912, [o0, o1, o2, some (.int x)], st, w) ↔ Wp (xL_law θ n lim) Q (913, [o0, o1, o2, some (.int x)], .int x :: st, w) := tt_iload_n (hxL_law θ n lim) dL_law_912 rfl
theorem eL_law_913  : Wp (xL_law θ n lim) Q (913, lo, st, w) ↔ Wp (xL_law θ n lim) Q (914, lo, .int 1 :: st, w) := tt_iconst (hxL_law θ n lim) dL_law_913 (by decide)
theorem eL_law_914  : Wp (xL_law θ n lim) Q (914, lo, .int y :: .int x :: st, w) ↔ Wp (xL_law θ n lim) Q (915, lo, .int (x + y) :: st, w) := tt_iadd (hxL_law θ n lim) dL_law_914
theorem eL_law_915  : Wp (xL_law θ n lim) Q (915, lo, .int x :: .ref a :: st, w) ↔ (vp_in x (rGn w a) ∧ Wp (xL_law θ n lim) Q (916, lo, .int (rGv w a x.toNatClampNeg) :: st, w)) := tt_iaload (hxL_law θ n lim) dL_law_915
theorem eL_law_916  : Wp (xL_law θ n lim) Q (916, [some (.ref a), o1, o2, o3], st, w) ↔ Wp (xL_law θ n lim) Q (917, [some (.ref a), o1, o2, o3], .ref a :: st, w) := tt_aload_n (hxL_law θ n lim) dL_law_916 rfl
theorem eL_law_917  : Wp (xL_law θ n lim) Q (917, [o0, o1, o2, some (.int x)], st, w) ↔ Wp (xL_law θ n lim) Q (918, [o0, o1, o2, some (.int x)], .int x :: st, w) := tt_iload_n (hxL_law θ n lim) dL_law_917 rfl
theorem eL_law_918  : Wp (xL_law θ n lim) Q (918, lo, st, w) ↔ Wp (xL_law θ n lim) Q (919, lo, .int 2 :: st, w) := tt_iconst (hxL_law θ n lim) dL_law_918 (by decide)
theorem eL_law_919  : Wp (xL_law θ n lim) Q (919, lo, .int y :: .int x :: st, w) ↔ Wp (xL_law θ n lim) Q (920, lo, .int (x + y) :: st, w) := tt_iadd (hxL_law θ n lim) dL_law_919
theorem eL_law_920  : Wp (xL_law θ n lim) Q (920, lo, .int x :: .ref a :: st, w) ↔ (vp_in x (rGn w a) ∧ Wp (xL_law θ n lim) Q (921, lo, .int (rGv w a x.toNatClampNeg) :: st, w)) := tt_iaload (hxL_law θ n lim) dL_law_920
theorem eL_law_921  : Wp (xL_law θ n lim) Q (921, [some (.ref a), o1, o2, o3], st, w) ↔ Wp (xL_law θ n lim) Q (922, [some (.ref a), o1, o2, o3], .ref a :: st, w) := tt_aload_n (hxL_law θ n lim) dL_law_921 rfl
theorem eL_law_922  : Wp (xL_law θ n lim) Q (922, [o0, o1, o2, some (.int x)], st, w) ↔ Wp (xL_law θ n lim) Q (923, [o0, o1, o2, some (.int x)], .int x :: st, w) := tt_iload_n (hxL_law θ n lim) dL_law_922 rfl
theorem eL_law_923  : Wp (xL_law θ n lim) Q (923, lo, st, w) ↔ Wp (xL_law θ n lim) Q (924, lo, .int 3 :: st, w) := tt_iconst (hxL_law θ n lim) dL_law_923 (by decide)
theorem eL_law_924  : Wp (xL_law θ n lim) Q (924, lo, .int y :: .int x :: st, w) ↔ Wp (xL_law θ n lim) Q (925, lo, .int (x + y) :: st, w) := tt_iadd (hxL_law θ n lim) dL_law_924
theorem eL_law_925  : Wp (xL_law θ n lim) Q (925, lo, .int x :: .ref a :: st, w) ↔ (vp_in x (rGn w a) ∧ Wp (xL_law θ n lim) Q (926, lo, .int (rGv w a x.toNatClampNeg) :: st, w)) := tt_iaload (hxL_law θ n lim) dL_law_925
theorem eL_law_926  : Wp (xL_law θ n lim) Q (926, [some (.ref a), o1, o2, o3], st, w) ↔ Wp (xL_law θ n lim) Q (927, [some (.ref a), o1, o2, o3], .ref a :: st, w) := tt_aload_n (hxL_law θ n lim) dL_law_926 rfl
theorem eL_law_927  : Wp (xL_law θ n lim) Q (927, [o0, o1, o2, some (.int x)], st, w) ↔ Wp (xL_law θ n lim) Q (928, [o0, o1, o2, some (.int x)], .int x :: st, w) := tt_iload_n (hxL_law θ n lim) dL_law_927 rfl
theorem eL_law_928  : Wp (xL_law θ n lim) Q (928, lo, st, w) ↔ Wp (xL_law θ n lim) Q (929, lo, .int 4 :: st, w) := tt_iconst (hxL_law θ n lim) dL_law_928 (by decide)
theorem eL_law_929  : Wp (xL_law θ n lim) Q (929, lo, .int y :: .int x :: st, w) ↔ Wp (xL_law θ n lim) Q (930, lo, .int (x + y) :: st, w) := tt_iadd (hxL_law θ n lim) dL_law_929
theorem eL_law_930  : Wp (xL_law θ n lim) Q (930, lo, .int x :: .ref a :: st, w) ↔ (vp_in x (rGn w a) ∧ Wp (xL_law θ n lim) Q (931, lo, .int (rGv w a x.toNatClampNeg) :: st, w)) := tt_iaload (hxL_law θ n lim) dL_law_930
theorem eL_law_931  : Wp (xL_law θ n lim) Q (931, [some (.ref a), o1, o2, o3], st, w) ↔ Wp (xL_law θ n lim) Q (932, [some (.ref a), o1, o2, o3], .ref a :: st, w) := tt_aload_n (hxL_law θ n lim) dL_law_931 rfl
theorem eL_law_932  : Wp (xL_law θ n lim) Q (932, [o0, o1, o2, some (.int x)], st, w) ↔ Wp (xL_law θ n lim) Q (933, [o0, o1, o2, some (.int x)], .int x :: st, w) := tt_iload_n (hxL_law θ n lim) dL_law_932 rfl
theorem eL_law_933  : Wp (xL_law θ n lim) Q (933, lo, st, w) ↔ Wp (xL_law θ n lim) Q (934, lo, .int 5 :: st, w) := tt_iconst (hxL_law θ n lim) dL_law_933 (by decide)
theorem eL_law_934  : Wp (xL_law θ n lim) Q (934, lo, .int y :: .int x :: st, w) ↔ Wp (xL_law θ n lim) Q (935, lo, .int (x + y) :: st, w) := tt_iadd (hxL_law θ n lim) dL_law_934
theorem eL_law_935  : Wp (xL_law θ n lim) Q (935, lo, .int x :: .ref a :: st, w) ↔ (vp_in x (rGn w a) ∧ Wp (xL_law θ n lim) Q (936, lo, .int (rGv w a x.toNatClampNeg) :: st, w)) := tt_iaload (hxL_law θ n lim) dL_law_935
theorem eL_law_936 {z0 : Int32} {z1 : Int32} {z2 : Int32} {z3 : Int32} {z4 : Int32} {z5 : Nat} : Wp (xL_law θ n lim) Q (936, lo, [.int z0, .int z1, .int z2, .int z3, .int z4, .ref z5], w) ↔ (rIs w z5 4 ∧ sg θ n 72 [.ref z5, .int z4, .int z3, .int z2, .int z1, .int z0] w (fun v w' => Wp (xL_law θ n lim) Q (939, lo, v.toList ++ [], w'))) := tt_callV (As := [.int z4, .int z3, .int z2, .int z1, .int z0]) (r := []) (hxL_law θ n lim) dL_law_936 lkC_14_120 mX5_copy ⟨rfl, rfl⟩ rfl rfl (Nat.le_of_ble_eq_true rfl) rfl
theorem eL_law_939  : Wp (xL_law θ n lim) Q (939, [o0, o1, some (.ref a), o3], st, w) ↔ Wp (xL_law θ n lim) Q (940, [o0, o1, some (.ref a), o3], .ref a :: st, w) := tt_aload_n (hxL_law θ n lim) dL_law_939 rfl
theorem eL_law_940  : Wp (xL_law θ n lim) Q (940, [some (.ref a), o1, o2, o3], st, w) ↔ Wp (xL_law θ n lim) Q (941, [some (.ref a), o1, o2, o3], .ref a :: st, w) := tt_aload_n (hxL_law θ n lim) dL_law_940 rfl
theorem eL_law_941  : Wp (xL_law θ n lim) Q (941, [o0, o1, o2, some (.int x)], st, w) ↔ Wp (xL_law θ n lim) Q (942, [o0, o1, o2, some (.int x)], .int x :: st, w) := tt_iload_n (hxL_law θ n lim) dL_law_941 rfl
theorem eL_law_942  : Wp (xL_law θ n lim) Q (942, lo, st, w) ↔ Wp (xL_law θ n lim) Q (943, lo, .int 1 :: st, w) := tt_iconst (hxL_law θ n lim) dL_law_942 (by decide)
theorem eL_law_943  : Wp (xL_law θ n lim) Q (943, lo, .int y :: .int x :: st, w) ↔ Wp (xL_law θ n lim) Q (944, lo, .int (x + y) :: st, w) := tt_iadd (hxL_law θ n lim) dL_law_943
theorem eL_law_944  : Wp (xL_law θ n lim) Q (944, lo, .int x :: .ref a :: st, w) ↔ (vp_in x (rGn w a) ∧ Wp (xL_law θ n lim) Q (945, lo, .int (rGv w a x.toNatClampNeg) :: st, w)) := tt_iaload (hxL_law θ n lim) dL_law_944
theorem eL_law_945  : Wp (xL_law θ n lim) Q (945, [some (.ref a), o1, o2, o3], st, w) ↔ Wp (xL_law θ n lim) Q (946, [some (.ref a), o1, o2, o3], .ref a :: st, w) := tt_aload_n (hxL_law θ n lim) dL_law_945 rfl
theorem eL_law_946  : Wp (xL_law θ n lim) Q (946, [o0, o1, o2, some (.int x)], st, w) ↔ Wp (xL_law θ n lim) Q (947, [o0, o1, o2, some (.int x)], .int x :: st, w) := tt_iload_n (hxL_law θ n lim) dL_law_946 rfl
theorem eL_law_947  : Wp (xL_law θ n lim) Q (947, lo, st, w) ↔ Wp (xL_law θ n lim) Q (948, lo, .int 2 :: st, w) := tt_iconst (hxL_law θ n lim) dL_law_947 (by decide)
theorem eL_law_948  : Wp (xL_law θ n lim) Q (948, lo, .int y :: .int x :: st, w) ↔ Wp (xL_law θ n lim) Q (949, lo, .int (x + y) :: st, w) := tt_iadd (hxL_law θ n lim) dL_law_948
theorem eL_law_949  : Wp (xL_law θ n lim) Q (949, lo, .int x :: .ref a :: st, w) ↔ (vp_in x (rGn w a) ∧ Wp (xL_law θ n lim) Q (950, lo, .int (rGv w a x.toNatClampNeg) :: st, w)) := tt_iaload (hxL_law θ n lim) dL_law_949
theorem eL_law_950  : Wp (xL_law θ n lim) Q (950, [some (.ref a), o1, o2, o3], st, w) ↔ Wp (xL_law θ n lim) Q (951, [some (.ref a), o1, o2, o3], .ref a :: st, w) := tt_aload_n (hxL_law θ n lim) dL_law_950 rfl
theorem eL_law_951  : Wp (xL_law θ n lim) Q (951, [o0, o1, o2, some (.int x)], st, w) ↔ Wp (xL_law θ n lim) Q (952, [o0, o1, o2, some (.int x)], .int x :: st, w) := tt_iload_n (hxL_law θ n lim) dL_law_951 rfl
theorem eL_law_952  : Wp (xL_law θ n lim) Q (952, lo, st, w) ↔ Wp (xL_law θ n lim) Q (953, lo, .int 3 :: st, w) := tt_iconst (hxL_law θ n lim) dL_law_952 (by decide)
theorem eL_law_953  : Wp (xL_law θ n lim) Q (953, lo, .int y :: .int x :: st, w) ↔ Wp (xL_law θ n lim) Q (954, lo, .int (x + y) :: st, w) := tt_iadd (hxL_law θ n lim) dL_law_953
theorem eL_law_954  : Wp (xL_law θ n lim) Q (954, lo, .int x :: .ref a :: st, w) ↔ (vp_in x (rGn w a) ∧ Wp (xL_law θ n lim) Q (955, lo, .int (rGv w a x.toNatClampNeg) :: st, w)) := tt_iaload (hxL_law θ n lim) dL_law_954
theorem eL_law_955  : Wp (xL_law θ n lim) Q (955, [some (.ref a), o1, o2, o3], st, w) ↔ Wp (xL_law θ n lim) Q (956, [some (.ref a), o1, o2, o3], .ref a :: st, w) := tt_aload_n (hxL_law θ n lim) dL_law_955 rfl
theorem eL_law_956  : Wp (xL_law θ n lim) Q (956, [o0, o1, o2, some (.int x)], st, w) ↔ Wp (xL_law θ n lim) Q (957, [o0, o1, o2, some (.int x)], .int x :: st, w) := tt_iload_n (hxL_law θ n lim) dL_law_956 rfl
theorem eL_law_957  : Wp (xL_law θ n lim) Q (957, lo, st, w) ↔ Wp (xL_law θ n lim) Q (958, lo, .int 4 :: st, w) := tt_iconst (hxL_law θ n lim) dL_law_957 (by decide)
theorem eL_law_958  : Wp (xL_law θ n lim) Q (958, lo, .int y :: .int x :: st, w) ↔ Wp (xL_law θ n lim) Q (959, lo, .int (x + y) :: st, w) := tt_iadd (hxL_law θ n lim) dL_law_958
theorem eL_law_959  : Wp (xL_law θ n lim) Q (959, lo, .int x :: .ref a :: st, w) ↔ (vp_in x (rGn w a) ∧ Wp (xL_law θ n lim) Q (960, lo, .int (rGv w a x.toNatClampNeg) :: st, w)) := tt_iaload (hxL_law θ n lim) dL_law_959
theorem eL_law_960  : Wp (xL_law θ n lim) Q (960, [some (.ref a), o1, o2, o3], st, w) ↔ Wp (xL_law θ n lim) Q (961, [some (.ref a), o1, o2, o3], .ref a :: st, w) := tt_aload_n (hxL_law θ n lim) dL_law_960 rfl
theorem eL_law_961  : Wp (xL_law θ n lim) Q (961, [o0, o1, o2, some (.int x)], st, w) ↔ Wp (xL_law θ n lim) Q (962, [o0, o1, o2, some (.int x)], .int x :: st, w) := tt_iload_n (hxL_law θ n lim) dL_law_961 rfl
theorem eL_law_962  : Wp (xL_law θ n lim) Q (962, lo, st, w) ↔ Wp (xL_law θ n lim) Q (963, lo, .int 5 :: st, w) := tt_iconst (hxL_law θ n lim) dL_law_962 (by decide)
theorem eL_law_963  : Wp (xL_law θ n lim) Q (963, lo, .int y :: .int x :: st, w) ↔ Wp (xL_law θ n lim) Q (964, lo, .int (x + y) :: st, w) := tt_iadd (hxL_law θ n lim) dL_law_963
theorem eL_law_964  : Wp (xL_law θ n lim) Q (964, lo, .int x :: .ref a :: st, w) ↔ (vp_in x (rGn w a) ∧ Wp (xL_law θ n lim) Q (965, lo, .int (rGv w a x.toNatClampNeg) :: st, w)) := tt_iaload (hxL_law θ n lim) dL_law_964
theorem eL_law_965 {z0 : Int32} {z1 : Int32} {z2 : Int32} {z3 : Int32} {z4 : Int32} {z5 : Nat} {z6 : Int32} : Wp (xL_law θ n lim) Q (965, lo, [.int z0, .int z1, .int z2, .int z3, .int z4, .ref z5, .int z6], w) ↔ (rIs w z5 5 ∧ sg θ n 153 [.ref z5, .int z4, .int z3, .int z2, .int z1, .int z0] w (fun v w' => Wp (xL_law θ n lim) Q (968, lo, v.toList ++ [.int z6], w'))) := tt_callV (As := [.int z4, .int z3, .int z2, .int z1, .int z0]) (r := [.int z6]) (hxL_law θ n lim) dL_law_965 lkC_14_124 mX6_copy ⟨rfl, rfl⟩ rfl rfl (Nat.le_of_ble_eq_true rfl) rfl
theorem eL_law_968  : Wp (xL_law θ n lim) Q (968, lo, .int y :: .int x :: st, w) ↔ if x = y then Wp (xL_law θ n lim) Q (1147, lo, st, w) else Wp (xL_law θ n lim) Q (971, lo, st, w) := tt_ic_eq (hxL_law θ n lim) dL_law_968 (by decide)
theorem eL_law_971  : Wp (xL_law θ n lim) Q (971, lo, st, w) ↔ Wp (xL_law θ n lim) Q (972, lo, .int 0 :: st, w) := tt_iconst (hxL_law θ n lim) dL_law_971 (by decide)
theorem eL_law_972  : Wp (xL_law θ n lim) Q (972, lo, [.int x], w) ↔ (narrow .boolean (.int x) = .int x ∧ Q (some (.int x)) w) := tt_iret (hxL_law θ n lim) dL_law_972 rfl
theorem eL_law_973  : Wp (xL_law θ n lim) Q (973, [o0, some (.ref a), o2, o3], st, w) ↔ Wp (xL_law θ n lim) Q (974, [o0, some (.ref a), o2, o3], .ref a :: st, w) := tt_aload_n (hxL_law θ n lim) dL_law_973 rfl
theorem eL_law_974  : Wp (xL_law θ n lim) Q (974, [some (.ref a), o1, o2, o3], st, w) ↔ Wp (xL_law θ n lim) Q (975, [some (.ref a), o1, o2, o3], .ref a :: st, w) := tt_aload_n (hxL_law θ n lim) dL_law_974 rfl
theorem eL_law_975  : Wp (xL_law θ n lim) Q (975, [o0, o1, o2, some (.int x)], st, w) ↔ Wp (xL_law θ n lim) Q (976, [o0, o1, o2, some (.int x)], .int x :: st, w) := tt_iload_n (hxL_law θ n lim) dL_law_975 rfl
theorem eL_law_976  : Wp (xL_law θ n lim) Q (976, lo, st, w) ↔ Wp (xL_law θ n lim) Q (977, lo, .int 1 :: st, w) := tt_iconst (hxL_law θ n lim) dL_law_976 (by decide)
theorem eL_law_977  : Wp (xL_law θ n lim) Q (977, lo, .int y :: .int x :: st, w) ↔ Wp (xL_law θ n lim) Q (978, lo, .int (x + y) :: st, w) := tt_iadd (hxL_law θ n lim) dL_law_977
theorem eL_law_978  : Wp (xL_law θ n lim) Q (978, lo, .int x :: .ref a :: st, w) ↔ (vp_in x (rGn w a) ∧ Wp (xL_law θ n lim) Q (979, lo, .int (rGv w a x.toNatClampNeg) :: st, w)) := tt_iaload (hxL_law θ n lim) dL_law_978
theorem eL_law_979 {z0 : Int32} {z1 : Nat} : Wp (xL_law θ n lim) Q (979, lo, [.int z0, .ref z1], w) ↔ (rIs w z1 4 ∧ sg θ n 73 [.ref z1, .int z0] w (fun v w' => Wp (xL_law θ n lim) Q (982, lo, v.toList ++ [], w'))) := tt_callV (As := [.int z0]) (r := []) (hxL_law θ n lim) dL_law_979 lkC_14_125 mX5_lays ⟨rfl, rfl⟩ rfl rfl (Nat.le_of_ble_eq_true rfl) rfl
theorem eL_law_982  : Wp (xL_law θ n lim) Q (982, [o0, o1, some (.ref a), o3], st, w) ↔ Wp (xL_law θ n lim) Q (983, [o0, o1, some (.ref a), o3], .ref a :: st, w) := tt_aload_n (hxL_law θ n lim) dL_law_982 rfl
theorem eL_law_983  : Wp (xL_law θ n lim) Q (983, [some (.ref a), o1, o2, o3], st, w) ↔ Wp (xL_law θ n lim) Q (984, [some (.ref a), o1, o2, o3], .ref a :: st, w) := tt_aload_n (hxL_law θ n lim) dL_law_983 rfl
theorem eL_law_984  : Wp (xL_law θ n lim) Q (984, [o0, o1, o2, some (.int x)], st, w) ↔ Wp (xL_law θ n lim) Q (985, [o0, o1, o2, some (.int x)], .int x :: st, w) := tt_iload_n (hxL_law θ n lim) dL_law_984 rfl
theorem eL_law_985  : Wp (xL_law θ n lim) Q (985, lo, st, w) ↔ Wp (xL_law θ n lim) Q (986, lo, .int 1 :: st, w) := tt_iconst (hxL_law θ n lim) dL_law_985 (by decide)
theorem eL_law_986  : Wp (xL_law θ n lim) Q (986, lo, .int y :: .int x :: st, w) ↔ Wp (xL_law θ n lim) Q (987, lo, .int (x + y) :: st, w) := tt_iadd (hxL_law θ n lim) dL_law_986
theorem eL_law_987  : Wp (xL_law θ n lim) Q (987, lo, .int x :: .ref a :: st, w) ↔ (vp_in x (rGn w a) ∧ Wp (xL_law θ n lim) Q (988, lo, .int (rGv w a x.toNatClampNeg) :: st, w)) := tt_iaload (hxL_law θ n lim) dL_law_987
theorem eL_law_988 {z0 : Int32} {z1 : Nat} {z2 : Int32} : Wp (xL_law θ n lim) Q (988, lo, [.int z0, .ref z1, .int z2], w) ↔ (rIs w z1 5 ∧ sg θ n 155 [.ref z1, .int z0] w (fun v w' => Wp (xL_law θ n lim) Q (991, lo, v.toList ++ [.int z2], w'))) := tt_callV (As := [.int z0]) (r := [.int z2]) (hxL_law θ n lim) dL_law_988 lkC_14_128 mX6_lays ⟨rfl, rfl⟩ rfl rfl (Nat.le_of_ble_eq_true rfl) rfl
theorem eL_law_991  : Wp (xL_law θ n lim) Q (991, lo, .int y :: .int x :: st, w) ↔ if x = y then Wp (xL_law θ n lim) Q (1147, lo, st, w) else Wp (xL_law θ n lim) Q (994, lo, st, w) := tt_ic_eq (hxL_law θ n lim) dL_law_991 (by decide)
theorem eL_law_994  : Wp (xL_law θ n lim) Q (994, lo, st, w) ↔ Wp (xL_law θ n lim) Q (995, lo, .int 0 :: st, w) := tt_iconst (hxL_law θ n lim) dL_law_994 (by decide)
theorem eL_law_995  : Wp (xL_law θ n lim) Q (995, lo, [.int x], w) ↔ (narrow .boolean (.int x) = .int x ∧ Q (some (.int x)) w) := tt_iret (hxL_law θ n lim) dL_law_995 rfl
theorem eL_law_996  : Wp (xL_law θ n lim) Q (996, [o0, some (.ref a), o2, o3], st, w) ↔ Wp (xL_law θ n lim) Q (997, [o0, some (.ref a), o2, o3], .ref a :: st, w) := tt_aload_n (hxL_law θ n lim) dL_law_996 rfl
theorem eL_law_997  : Wp (xL_law θ n lim) Q (997, [some (.ref a), o1, o2, o3], st, w) ↔ Wp (xL_law θ n lim) Q (998, [some (.ref a), o1, o2, o3], .ref a :: st, w) := tt_aload_n (hxL_law θ n lim) dL_law_997 rfl
theorem eL_law_998  : Wp (xL_law θ n lim) Q (998, [o0, o1, o2, some (.int x)], st, w) ↔ Wp (xL_law θ n lim) Q (999, [o0, o1, o2, some (.int x)], .int x :: st, w) := tt_iload_n (hxL_law θ n lim) dL_law_998 rfl
theorem eL_law_999  : Wp (xL_law θ n lim) Q (999, lo, st, w) ↔ Wp (xL_law θ n lim) Q (1000, lo, .int 1 :: st, w) := tt_iconst (hxL_law θ n lim) dL_law_999 (by decide)
theorem eL_law_1000  : Wp (xL_law θ n lim) Q (1000, lo, .int y :: .int x :: st, w) ↔ Wp (xL_law θ n lim) Q (1001, lo, .int (x + y) :: st, w) := tt_iadd (hxL_law θ n lim) dL_law_1000
theorem eL_law_1001  : Wp (xL_law θ n lim) Q (1001, lo, .int x :: .ref a :: st, w) ↔ (vp_in x (rGn w a) ∧ Wp (xL_law θ n lim) Q (1002, lo, .int (rGv w a x.toNatClampNeg) :: st, w)) := tt_iaload (hxL_law θ n lim) dL_law_1001
theorem eL_law_1002  : Wp (xL_law θ n lim) Q (1002, [some (.ref a), o1, o2, o3], st, w) ↔ Wp (xL_law θ n lim) Q (1003, [some (.ref a), o1, o2, o3], .ref a :: st, w) := tt_aload_n (hxL_law θ n lim) dL_law_1002 rfl
theorem eL_law_1003  : Wp (xL_law θ n lim) Q (1003, [o0, o1, o2, some (.int x)], st, w) ↔ Wp (xL_law θ n lim) Q (1004, [o0, o1, o2, some (.int x)], .int x :: st, w) := tt_iload_n (hxL_law θ n lim) dL_law_1003 rfl
theorem eL_law_1004  : Wp (xL_law θ n lim) Q (1004, lo, st, w) ↔ Wp (xL_law θ n lim) Q (1005, lo, .int 2 :: st, w) := tt_iconst (hxL_law θ n lim) dL_law_1004 (by decide)
theorem eL_law_1005  : Wp (xL_law θ n lim) Q (1005, lo, .int y :: .int x :: st, w) ↔ Wp (xL_law θ n lim) Q (1006, lo, .int (x + y) :: st, w) := tt_iadd (hxL_law θ n lim) dL_law_1005
theorem eL_law_1006  : Wp (xL_law θ n lim) Q (1006, lo, .int x :: .ref a :: st, w) ↔ (vp_in x (rGn w a) ∧ Wp (xL_law θ n lim) Q (1007, lo, .int (rGv w a x.toNatClampNeg) :: st, w)) := tt_iaload (hxL_law θ n lim) dL_law_1006
theorem eL_law_1007 {z0 : Int32} {z1 : Int32} {z2 : Nat} : Wp (xL_law θ n lim) Q (1007, lo, [.int z0, .int z1, .ref z2], w) ↔ (rIs w z2 4 ∧ sg θ n 74 [.ref z2, .int z1, .int z0] w (fun v w' => Wp (xL_law θ n lim) Q (1010, lo, v.toList ++ [], w'))) := tt_callV (As := [.int z1, .int z0]) (r := []) (hxL_law θ n lim) dL_law_1007 lkC_14_129 mX5_book ⟨rfl, rfl⟩ rfl rfl (Nat.le_of_ble_eq_true rfl) rfl
theorem eL_law_1010  : Wp (xL_law θ n lim) Q (1010, [o0, o1, some (.ref a), o3], st, w) ↔ Wp (xL_law θ n lim) Q (1011, [o0, o1, some (.ref a), o3], .ref a :: st, w) := tt_aload_n (hxL_law θ n lim) dL_law_1010 rfl
theorem eL_law_1011  : Wp (xL_law θ n lim) Q (1011, [some (.ref a), o1, o2, o3], st, w) ↔ Wp (xL_law θ n lim) Q (1012, [some (.ref a), o1, o2, o3], .ref a :: st, w) := tt_aload_n (hxL_law θ n lim) dL_law_1011 rfl
theorem eL_law_1012  : Wp (xL_law θ n lim) Q (1012, [o0, o1, o2, some (.int x)], st, w) ↔ Wp (xL_law θ n lim) Q (1013, [o0, o1, o2, some (.int x)], .int x :: st, w) := tt_iload_n (hxL_law θ n lim) dL_law_1012 rfl
theorem eL_law_1013  : Wp (xL_law θ n lim) Q (1013, lo, st, w) ↔ Wp (xL_law θ n lim) Q (1014, lo, .int 1 :: st, w) := tt_iconst (hxL_law θ n lim) dL_law_1013 (by decide)
theorem eL_law_1014  : Wp (xL_law θ n lim) Q (1014, lo, .int y :: .int x :: st, w) ↔ Wp (xL_law θ n lim) Q (1015, lo, .int (x + y) :: st, w) := tt_iadd (hxL_law θ n lim) dL_law_1014
theorem eL_law_1015  : Wp (xL_law θ n lim) Q (1015, lo, .int x :: .ref a :: st, w) ↔ (vp_in x (rGn w a) ∧ Wp (xL_law θ n lim) Q (1016, lo, .int (rGv w a x.toNatClampNeg) :: st, w)) := tt_iaload (hxL_law θ n lim) dL_law_1015
theorem eL_law_1016  : Wp (xL_law θ n lim) Q (1016, [some (.ref a), o1, o2, o3], st, w) ↔ Wp (xL_law θ n lim) Q (1017, [some (.ref a), o1, o2, o3], .ref a :: st, w) := tt_aload_n (hxL_law θ n lim) dL_law_1016 rfl
theorem eL_law_1017  : Wp (xL_law θ n lim) Q (1017, [o0, o1, o2, some (.int x)], st, w) ↔ Wp (xL_law θ n lim) Q (1018, [o0, o1, o2, some (.int x)], .int x :: st, w) := tt_iload_n (hxL_law θ n lim) dL_law_1017 rfl
theorem eL_law_1018  : Wp (xL_law θ n lim) Q (1018, lo, st, w) ↔ Wp (xL_law θ n lim) Q (1019, lo, .int 2 :: st, w) := tt_iconst (hxL_law θ n lim) dL_law_1018 (by decide)
theorem eL_law_1019  : Wp (xL_law θ n lim) Q (1019, lo, .int y :: .int x :: st, w) ↔ Wp (xL_law θ n lim) Q (1020, lo, .int (x + y) :: st, w) := tt_iadd (hxL_law θ n lim) dL_law_1019
theorem eL_law_1020  : Wp (xL_law θ n lim) Q (1020, lo, .int x :: .ref a :: st, w) ↔ (vp_in x (rGn w a) ∧ Wp (xL_law θ n lim) Q (1021, lo, .int (rGv w a x.toNatClampNeg) :: st, w)) := tt_iaload (hxL_law θ n lim) dL_law_1020
theorem eL_law_1021 {z0 : Int32} {z1 : Int32} {z2 : Nat} {z3 : Int32} : Wp (xL_law θ n lim) Q (1021, lo, [.int z0, .int z1, .ref z2, .int z3], w) ↔ (rIs w z2 5 ∧ sg θ n 157 [.ref z2, .int z1, .int z0] w (fun v w' => Wp (xL_law θ n lim) Q (1024, lo, v.toList ++ [.int z3], w'))) := tt_callV (As := [.int z1, .int z0]) (r := [.int z3]) (hxL_law θ n lim) dL_law_1021 lkC_14_132 mX6_book ⟨rfl, rfl⟩ rfl rfl (Nat.le_of_ble_eq_true rfl) rfl
theorem eL_law_1024  : Wp (xL_law θ n lim) Q (1024, lo, .int y :: .int x :: st, w) ↔ if x = y then Wp (xL_law θ n lim) Q (1147, lo, st, w) else Wp (xL_law θ n lim) Q (1027, lo, st, w) := tt_ic_eq (hxL_law θ n lim) dL_law_1024 (by decide)
theorem eL_law_1027  : Wp (xL_law θ n lim) Q (1027, lo, st, w) ↔ Wp (xL_law θ n lim) Q (1028, lo, .int 0 :: st, w) := tt_iconst (hxL_law θ n lim) dL_law_1027 (by decide)
theorem eL_law_1028  : Wp (xL_law θ n lim) Q (1028, lo, [.int x], w) ↔ (narrow .boolean (.int x) = .int x ∧ Q (some (.int x)) w) := tt_iret (hxL_law θ n lim) dL_law_1028 rfl
theorem eL_law_1029  : Wp (xL_law θ n lim) Q (1029, [o0, some (.ref a), o2, o3], st, w) ↔ Wp (xL_law θ n lim) Q (1030, [o0, some (.ref a), o2, o3], .ref a :: st, w) := tt_aload_n (hxL_law θ n lim) dL_law_1029 rfl
theorem eL_law_1030  : Wp (xL_law θ n lim) Q (1030, [some (.ref a), o1, o2, o3], st, w) ↔ Wp (xL_law θ n lim) Q (1031, [some (.ref a), o1, o2, o3], .ref a :: st, w) := tt_aload_n (hxL_law θ n lim) dL_law_1030 rfl
theorem eL_law_1031  : Wp (xL_law θ n lim) Q (1031, [o0, o1, o2, some (.int x)], st, w) ↔ Wp (xL_law θ n lim) Q (1032, [o0, o1, o2, some (.int x)], .int x :: st, w) := tt_iload_n (hxL_law θ n lim) dL_law_1031 rfl
theorem eL_law_1032  : Wp (xL_law θ n lim) Q (1032, lo, st, w) ↔ Wp (xL_law θ n lim) Q (1033, lo, .int 1 :: st, w) := tt_iconst (hxL_law θ n lim) dL_law_1032 (by decide)
theorem eL_law_1033  : Wp (xL_law θ n lim) Q (1033, lo, .int y :: .int x :: st, w) ↔ Wp (xL_law θ n lim) Q (1034, lo, .int (x + y) :: st, w) := tt_iadd (hxL_law θ n lim) dL_law_1033
theorem eL_law_1034  : Wp (xL_law θ n lim) Q (1034, lo, .int x :: .ref a :: st, w) ↔ (vp_in x (rGn w a) ∧ Wp (xL_law θ n lim) Q (1035, lo, .int (rGv w a x.toNatClampNeg) :: st, w)) := tt_iaload (hxL_law θ n lim) dL_law_1034
theorem eL_law_1035  : Wp (xL_law θ n lim) Q (1035, [some (.ref a), o1, o2, o3], st, w) ↔ Wp (xL_law θ n lim) Q (1036, [some (.ref a), o1, o2, o3], .ref a :: st, w) := tt_aload_n (hxL_law θ n lim) dL_law_1035 rfl
theorem eL_law_1036  : Wp (xL_law θ n lim) Q (1036, [o0, o1, o2, some (.int x)], st, w) ↔ Wp (xL_law θ n lim) Q (1037, [o0, o1, o2, some (.int x)], .int x :: st, w) := tt_iload_n (hxL_law θ n lim) dL_law_1036 rfl
theorem eL_law_1037  : Wp (xL_law θ n lim) Q (1037, lo, st, w) ↔ Wp (xL_law θ n lim) Q (1038, lo, .int 2 :: st, w) := tt_iconst (hxL_law θ n lim) dL_law_1037 (by decide)
theorem eL_law_1038  : Wp (xL_law θ n lim) Q (1038, lo, .int y :: .int x :: st, w) ↔ Wp (xL_law θ n lim) Q (1039, lo, .int (x + y) :: st, w) := tt_iadd (hxL_law θ n lim) dL_law_1038
theorem eL_law_1039  : Wp (xL_law θ n lim) Q (1039, lo, .int x :: .ref a :: st, w) ↔ (vp_in x (rGn w a) ∧ Wp (xL_law θ n lim) Q (1040, lo, .int (rGv w a x.toNatClampNeg) :: st, w)) := tt_iaload (hxL_law θ n lim) dL_law_1039
theorem eL_law_1040 {z0 : Int32} {z1 : Int32} {z2 : Nat} : Wp (xL_law θ n lim) Q (1040, lo, [.int z0, .int z1, .ref z2], w) ↔ (rIs w z2 4 ∧ sg θ n 76 [.ref z2, .int z1, .int z0] w (fun v w' => Wp (xL_law θ n lim) Q (1043, lo, v.toList ++ [], w'))) := tt_callV (As := [.int z1, .int z0]) (r := []) (hxL_law θ n lim) dL_law_1040 lkC_14_133 mX5_read ⟨rfl, rfl⟩ rfl rfl (Nat.le_of_ble_eq_true rfl) rfl
theorem eL_law_1043  : Wp (xL_law θ n lim) Q (1043, [o0, o1, some (.ref a), o3], st, w) ↔ Wp (xL_law θ n lim) Q (1044, [o0, o1, some (.ref a), o3], .ref a :: st, w) := tt_aload_n (hxL_law θ n lim) dL_law_1043 rfl
theorem eL_law_1044  : Wp (xL_law θ n lim) Q (1044, [some (.ref a), o1, o2, o3], st, w) ↔ Wp (xL_law θ n lim) Q (1045, [some (.ref a), o1, o2, o3], .ref a :: st, w) := tt_aload_n (hxL_law θ n lim) dL_law_1044 rfl
theorem eL_law_1045  : Wp (xL_law θ n lim) Q (1045, [o0, o1, o2, some (.int x)], st, w) ↔ Wp (xL_law θ n lim) Q (1046, [o0, o1, o2, some (.int x)], .int x :: st, w) := tt_iload_n (hxL_law θ n lim) dL_law_1045 rfl
theorem eL_law_1046  : Wp (xL_law θ n lim) Q (1046, lo, st, w) ↔ Wp (xL_law θ n lim) Q (1047, lo, .int 1 :: st, w) := tt_iconst (hxL_law θ n lim) dL_law_1046 (by decide)
theorem eL_law_1047  : Wp (xL_law θ n lim) Q (1047, lo, .int y :: .int x :: st, w) ↔ Wp (xL_law θ n lim) Q (1048, lo, .int (x + y) :: st, w) := tt_iadd (hxL_law θ n lim) dL_law_1047
theorem eL_law_1048  : Wp (xL_law θ n lim) Q (1048, lo, .int x :: .ref a :: st, w) ↔ (vp_in x (rGn w a) ∧ Wp (xL_law θ n lim) Q (1049, lo, .int (rGv w a x.toNatClampNeg) :: st, w)) := tt_iaload (hxL_law θ n lim) dL_law_1048
theorem eL_law_1049  : Wp (xL_law θ n lim) Q (1049, [some (.ref a), o1, o2, o3], st, w) ↔ Wp (xL_law θ n lim) Q (1050, [some (.ref a), o1, o2, o3], .ref a :: st, w) := tt_aload_n (hxL_law θ n lim) dL_law_1049 rfl
theorem eL_law_1050  : Wp (xL_law θ n lim) Q (1050, [o0, o1, o2, some (.int x)], st, w) ↔ Wp (xL_law θ n lim) Q (1051, [o0, o1, o2, some (.int x)], .int x :: st, w) := tt_iload_n (hxL_law θ n lim) dL_law_1050 rfl
theorem eL_law_1051  : Wp (xL_law θ n lim) Q (1051, lo, st, w) ↔ Wp (xL_law θ n lim) Q (1052, lo, .int 2 :: st, w) := tt_iconst (hxL_law θ n lim) dL_law_1051 (by decide)
theorem eL_law_1052  : Wp (xL_law θ n lim) Q (1052, lo, .int y :: .int x :: st, w) ↔ Wp (xL_law θ n lim) Q (1053, lo, .int (x + y) :: st, w) := tt_iadd (hxL_law θ n lim) dL_law_1052
theorem eL_law_1053  : Wp (xL_law θ n lim) Q (1053, lo, .int x :: .ref a :: st, w) ↔ (vp_in x (rGn w a) ∧ Wp (xL_law θ n lim) Q (1054, lo, .int (rGv w a x.toNatClampNeg) :: st, w)) := tt_iaload (hxL_law θ n lim) dL_law_1053
theorem eL_law_1054 {z0 : Int32} {z1 : Int32} {z2 : Nat} {z3 : Int32} : Wp (xL_law θ n lim) Q (1054, lo, [.int z0, .int z1, .ref z2, .int z3], w) ↔ (rIs w z2 5 ∧ sg θ n 158 [.ref z2, .int z1, .int z0] w (fun v w' => Wp (xL_law θ n lim) Q (1057, lo, v.toList ++ [.int z3], w'))) := tt_callV (As := [.int z1, .int z0]) (r := [.int z3]) (hxL_law θ n lim) dL_law_1054 lkC_14_136 mX6_read ⟨rfl, rfl⟩ rfl rfl (Nat.le_of_ble_eq_true rfl) rfl
theorem eL_law_1057  : Wp (xL_law θ n lim) Q (1057, lo, .int y :: .int x :: st, w) ↔ if x = y then Wp (xL_law θ n lim) Q (1147, lo, st, w) else Wp (xL_law θ n lim) Q (1060, lo, st, w) := tt_ic_eq (hxL_law θ n lim) dL_law_1057 (by decide)
theorem eL_law_1060  : Wp (xL_law θ n lim) Q (1060, lo, st, w) ↔ Wp (xL_law θ n lim) Q (1061, lo, .int 0 :: st, w) := tt_iconst (hxL_law θ n lim) dL_law_1060 (by decide)
theorem eL_law_1061  : Wp (xL_law θ n lim) Q (1061, lo, [.int x], w) ↔ (narrow .boolean (.int x) = .int x ∧ Q (some (.int x)) w) := tt_iret (hxL_law θ n lim) dL_law_1061 rfl
theorem eL_law_1062  : Wp (xL_law θ n lim) Q (1062, [o0, some (.ref a), o2, o3], st, w) ↔ Wp (xL_law θ n lim) Q (1063, [o0, some (.ref a), o2, o3], .ref a :: st, w) := tt_aload_n (hxL_law θ n lim) dL_law_1062 rfl
theorem eL_law_1063 {z0 : Nat} : Wp (xL_law θ n lim) Q (1063, lo, [.ref z0], w) ↔ (rIs w z0 4 ∧ sg θ n 78 [.ref z0] w (fun v w' => Wp (xL_law θ n lim) Q (1066, lo, v.toList ++ [], w'))) := tt_callV (As := []) (r := []) (hxL_law θ n lim) dL_law_1063 lkC_14_137 mX5_image ⟨rfl, rfl⟩ rfl rfl (Nat.le_of_ble_eq_true rfl) rfl
theorem eL_law_1066  : Wp (xL_law θ n lim) Q (1066, [o0, o1, some (.ref a), o3], st, w) ↔ Wp (xL_law θ n lim) Q (1067, [o0, o1, some (.ref a), o3], .ref a :: st, w) := tt_aload_n (hxL_law θ n lim) dL_law_1066 rfl
theorem eL_law_1067 {z0 : Nat} {z1 : Int32} : Wp (xL_law θ n lim) Q (1067, lo, [.ref z0, .int z1], w) ↔ (rIs w z0 5 ∧ sg θ n 160 [.ref z0] w (fun v w' => Wp (xL_law θ n lim) Q (1070, lo, v.toList ++ [.int z1], w'))) := tt_callV (As := []) (r := [.int z1]) (hxL_law θ n lim) dL_law_1067 lkC_14_140 mX6_image ⟨rfl, rfl⟩ rfl rfl (Nat.le_of_ble_eq_true rfl) rfl
theorem eL_law_1070  : Wp (xL_law θ n lim) Q (1070, lo, .int y :: .int x :: st, w) ↔ if x = y then Wp (xL_law θ n lim) Q (1147, lo, st, w) else Wp (xL_law θ n lim) Q (1073, lo, st, w) := tt_ic_eq (hxL_law θ n lim) dL_law_1070 (by decide)
theorem eL_law_1073  : Wp (xL_law θ n lim) Q (1073, lo, st, w) ↔ Wp (xL_law θ n lim) Q (1074, lo, .int 0 :: st, w) := tt_iconst (hxL_law θ n lim) dL_law_1073 (by decide)
theorem eL_law_1074  : Wp (xL_law θ n lim) Q (1074, lo, [.int x], w) ↔ (narrow .boolean (.int x) = .int x ∧ Q (some (.int x)) w) := tt_iret (hxL_law θ n lim) dL_law_1074 rfl
theorem eL_law_1075  : Wp (xL_law θ n lim) Q (1075, [o0, some (.ref a), o2, o3], st, w) ↔ Wp (xL_law θ n lim) Q (1076, [o0, some (.ref a), o2, o3], .ref a :: st, w) := tt_aload_n (hxL_law θ n lim) dL_law_1075 rfl
theorem eL_law_1076 {z0 : Nat} : Wp (xL_law θ n lim) Q (1076, lo, [.ref z0], w) ↔ (rIs w z0 4 ∧ sg θ n 79 [.ref z0] w (fun v w' => Wp (xL_law θ n lim) Q (1079, lo, v.toList ++ [], w'))) := tt_callV (As := []) (r := []) (hxL_law θ n lim) dL_law_1076 lkC_14_141 mX5_undo ⟨rfl, rfl⟩ rfl rfl (Nat.le_of_ble_eq_true rfl) rfl
theorem eL_law_1079  : Wp (xL_law θ n lim) Q (1079, [o0, o1, some (.ref a), o3], st, w) ↔ Wp (xL_law θ n lim) Q (1080, [o0, o1, some (.ref a), o3], .ref a :: st, w) := tt_aload_n (hxL_law θ n lim) dL_law_1079 rfl
theorem eL_law_1080 {z0 : Nat} {z1 : Int32} : Wp (xL_law θ n lim) Q (1080, lo, [.ref z0, .int z1], w) ↔ (rIs w z0 5 ∧ sg θ n 161 [.ref z0] w (fun v w' => Wp (xL_law θ n lim) Q (1083, lo, v.toList ++ [.int z1], w'))) := tt_callV (As := []) (r := [.int z1]) (hxL_law θ n lim) dL_law_1080 lkC_14_144 mX6_undo ⟨rfl, rfl⟩ rfl rfl (Nat.le_of_ble_eq_true rfl) rfl
theorem eL_law_1083  : Wp (xL_law θ n lim) Q (1083, lo, .int y :: .int x :: st, w) ↔ if x = y then Wp (xL_law θ n lim) Q (1147, lo, st, w) else Wp (xL_law θ n lim) Q (1086, lo, st, w) := tt_ic_eq (hxL_law θ n lim) dL_law_1083 (by decide)
theorem eL_law_1086  : Wp (xL_law θ n lim) Q (1086, lo, st, w) ↔ Wp (xL_law θ n lim) Q (1087, lo, .int 0 :: st, w) := tt_iconst (hxL_law θ n lim) dL_law_1086 (by decide)
theorem eL_law_1087  : Wp (xL_law θ n lim) Q (1087, lo, [.int x], w) ↔ (narrow .boolean (.int x) = .int x ∧ Q (some (.int x)) w) := tt_iret (hxL_law θ n lim) dL_law_1087 rfl
theorem eL_law_1088  : Wp (xL_law θ n lim) Q (1088, [o0, some (.ref a), o2, o3], st, w) ↔ Wp (xL_law θ n lim) Q (1089, [o0, some (.ref a), o2, o3], .ref a :: st, w) := tt_aload_n (hxL_law θ n lim) dL_law_1088 rfl
theorem eL_law_1089 {z0 : Nat} : Wp (xL_law θ n lim) Q (1089, lo, [.ref z0], w) ↔ (rIs w z0 4 ∧ sg θ n 80 [.ref z0] w (fun v w' => Wp (xL_law θ n lim) Q (1092, lo, v.toList ++ [], w'))) := tt_callV (As := []) (r := []) (hxL_law θ n lim) dL_law_1089 lkC_14_145 mX5_tear ⟨rfl, rfl⟩ rfl rfl (Nat.le_of_ble_eq_true rfl) rfl
theorem eL_law_1092  : Wp (xL_law θ n lim) Q (1092, [o0, o1, some (.ref a), o3], st, w) ↔ Wp (xL_law θ n lim) Q (1093, [o0, o1, some (.ref a), o3], .ref a :: st, w) := tt_aload_n (hxL_law θ n lim) dL_law_1092 rfl
theorem eL_law_1093 {z0 : Nat} {z1 : Int32} : Wp (xL_law θ n lim) Q (1093, lo, [.ref z0, .int z1], w) ↔ (rIs w z0 5 ∧ sg θ n 162 [.ref z0] w (fun v w' => Wp (xL_law θ n lim) Q (1096, lo, v.toList ++ [.int z1], w'))) := tt_callV (As := []) (r := [.int z1]) (hxL_law θ n lim) dL_law_1093 lkC_14_148 mX6_tear ⟨rfl, rfl⟩ rfl rfl (Nat.le_of_ble_eq_true rfl) rfl
theorem eL_law_1096  : Wp (xL_law θ n lim) Q (1096, lo, .int y :: .int x :: st, w) ↔ if x = y then Wp (xL_law θ n lim) Q (1147, lo, st, w) else Wp (xL_law θ n lim) Q (1099, lo, st, w) := tt_ic_eq (hxL_law θ n lim) dL_law_1096 (by decide)
theorem eL_law_1099  : Wp (xL_law θ n lim) Q (1099, lo, st, w) ↔ Wp (xL_law θ n lim) Q (1100, lo, .int 0 :: st, w) := tt_iconst (hxL_law θ n lim) dL_law_1099 (by decide)
theorem eL_law_1100  : Wp (xL_law θ n lim) Q (1100, lo, [.int x], w) ↔ (narrow .boolean (.int x) = .int x ∧ Q (some (.int x)) w) := tt_iret (hxL_law θ n lim) dL_law_1100 rfl
theorem eL_law_1101  : Wp (xL_law θ n lim) Q (1101, [o0, some (.ref a), o2, o3], st, w) ↔ Wp (xL_law θ n lim) Q (1102, [o0, some (.ref a), o2, o3], .ref a :: st, w) := tt_aload_n (hxL_law θ n lim) dL_law_1101 rfl
theorem eL_law_1102  : Wp (xL_law θ n lim) Q (1102, [some (.ref a), o1, o2, o3], st, w) ↔ Wp (xL_law θ n lim) Q (1103, [some (.ref a), o1, o2, o3], .ref a :: st, w) := tt_aload_n (hxL_law θ n lim) dL_law_1102 rfl
theorem eL_law_1103  : Wp (xL_law θ n lim) Q (1103, [o0, o1, o2, some (.int x)], st, w) ↔ Wp (xL_law θ n lim) Q (1104, [o0, o1, o2, some (.int x)], .int x :: st, w) := tt_iload_n (hxL_law θ n lim) dL_law_1103 rfl
theorem eL_law_1104  : Wp (xL_law θ n lim) Q (1104, lo, st, w) ↔ Wp (xL_law θ n lim) Q (1105, lo, .int 1 :: st, w) := tt_iconst (hxL_law θ n lim) dL_law_1104 (by decide)
theorem eL_law_1105  : Wp (xL_law θ n lim) Q (1105, lo, .int y :: .int x :: st, w) ↔ Wp (xL_law θ n lim) Q (1106, lo, .int (x + y) :: st, w) := tt_iadd (hxL_law θ n lim) dL_law_1105
theorem eL_law_1106  : Wp (xL_law θ n lim) Q (1106, lo, .int x :: .ref a :: st, w) ↔ (vp_in x (rGn w a) ∧ Wp (xL_law θ n lim) Q (1107, lo, .int (rGv w a x.toNatClampNeg) :: st, w)) := tt_iaload (hxL_law θ n lim) dL_law_1106
theorem eL_law_1107 {z0 : Int32} {z1 : Nat} : Wp (xL_law θ n lim) Q (1107, lo, [.int z0, .ref z1], w) ↔ (rIs w z1 4 ∧ sg θ n 81 [.ref z1, .int z0] w (fun v w' => Wp (xL_law θ n lim) Q (1110, lo, v.toList ++ [], w'))) := tt_callV (As := [.int z0]) (r := []) (hxL_law θ n lim) dL_law_1107 lkC_14_149 mX5_count ⟨rfl, rfl⟩ rfl rfl (Nat.le_of_ble_eq_true rfl) rfl
theorem eL_law_1110  : Wp (xL_law θ n lim) Q (1110, [o0, o1, some (.ref a), o3], st, w) ↔ Wp (xL_law θ n lim) Q (1111, [o0, o1, some (.ref a), o3], .ref a :: st, w) := tt_aload_n (hxL_law θ n lim) dL_law_1110 rfl
theorem eL_law_1111  : Wp (xL_law θ n lim) Q (1111, [some (.ref a), o1, o2, o3], st, w) ↔ Wp (xL_law θ n lim) Q (1112, [some (.ref a), o1, o2, o3], .ref a :: st, w) := tt_aload_n (hxL_law θ n lim) dL_law_1111 rfl
theorem eL_law_1112  : Wp (xL_law θ n lim) Q (1112, [o0, o1, o2, some (.int x)], st, w) ↔ Wp (xL_law θ n lim) Q (1113, [o0, o1, o2, some (.int x)], .int x :: st, w) := tt_iload_n (hxL_law θ n lim) dL_law_1112 rfl
theorem eL_law_1113  : Wp (xL_law θ n lim) Q (1113, lo, st, w) ↔ Wp (xL_law θ n lim) Q (1114, lo, .int 1 :: st, w) := tt_iconst (hxL_law θ n lim) dL_law_1113 (by decide)
theorem eL_law_1114  : Wp (xL_law θ n lim) Q (1114, lo, .int y :: .int x :: st, w) ↔ Wp (xL_law θ n lim) Q (1115, lo, .int (x + y) :: st, w) := tt_iadd (hxL_law θ n lim) dL_law_1114
theorem eL_law_1115  : Wp (xL_law θ n lim) Q (1115, lo, .int x :: .ref a :: st, w) ↔ (vp_in x (rGn w a) ∧ Wp (xL_law θ n lim) Q (1116, lo, .int (rGv w a x.toNatClampNeg) :: st, w)) := tt_iaload (hxL_law θ n lim) dL_law_1115
theorem eL_law_1116 {z0 : Int32} {z1 : Nat} {z2 : Int32} : Wp (xL_law θ n lim) Q (1116, lo, [.int z0, .ref z1, .int z2], w) ↔ (rIs w z1 5 ∧ sg θ n 163 [.ref z1, .int z0] w (fun v w' => Wp (xL_law θ n lim) Q (1119, lo, v.toList ++ [.int z2], w'))) := tt_callV (As := [.int z0]) (r := [.int z2]) (hxL_law θ n lim) dL_law_1116 lkC_14_152 mX6_count ⟨rfl, rfl⟩ rfl rfl (Nat.le_of_ble_eq_true rfl) rfl
theorem eL_law_1119  : Wp (xL_law θ n lim) Q (1119, lo, .int y :: .int x :: st, w) ↔ if x = y then Wp (xL_law θ n lim) Q (1147, lo, st, w) else Wp (xL_law θ n lim) Q (1122, lo, st, w) := tt_ic_eq (hxL_law θ n lim) dL_law_1119 (by decide)
theorem eL_law_1122  : Wp (xL_law θ n lim) Q (1122, lo, st, w) ↔ Wp (xL_law θ n lim) Q (1123, lo, .int 0 :: st, w) := tt_iconst (hxL_law θ n lim) dL_law_1122 (by decide)
theorem eL_law_1123  : Wp (xL_law θ n lim) Q (1123, lo, [.int x], w) ↔ (narrow .boolean (.int x) = .int x ∧ Q (some (.int x)) w) := tt_iret (hxL_law θ n lim) dL_law_1123 rfl
theorem eL_law_1124  : Wp (xL_law θ n lim) Q (1124, [o0, some (.ref a), o2, o3], st, w) ↔ Wp (xL_law θ n lim) Q (1125, [o0, some (.ref a), o2, o3], .ref a :: st, w) := tt_aload_n (hxL_law θ n lim) dL_law_1124 rfl
theorem eL_law_1125  : Wp (xL_law θ n lim) Q (1125, [some (.ref a), o1, o2, o3], st, w) ↔ Wp (xL_law θ n lim) Q (1126, [some (.ref a), o1, o2, o3], .ref a :: st, w) := tt_aload_n (hxL_law θ n lim) dL_law_1125 rfl
theorem eL_law_1126  : Wp (xL_law θ n lim) Q (1126, [o0, o1, o2, some (.int x)], st, w) ↔ Wp (xL_law θ n lim) Q (1127, [o0, o1, o2, some (.int x)], .int x :: st, w) := tt_iload_n (hxL_law θ n lim) dL_law_1126 rfl
theorem eL_law_1127  : Wp (xL_law θ n lim) Q (1127, lo, st, w) ↔ Wp (xL_law θ n lim) Q (1128, lo, .int 1 :: st, w) := tt_iconst (hxL_law θ n lim) dL_law_1127 (by decide)
theorem eL_law_1128  : Wp (xL_law θ n lim) Q (1128, lo, .int y :: .int x :: st, w) ↔ Wp (xL_law θ n lim) Q (1129, lo, .int (x + y) :: st, w) := tt_iadd (hxL_law θ n lim) dL_law_1128
theorem eL_law_1129  : Wp (xL_law θ n lim) Q (1129, lo, .int x :: .ref a :: st, w) ↔ (vp_in x (rGn w a) ∧ Wp (xL_law θ n lim) Q (1130, lo, .int (rGv w a x.toNatClampNeg) :: st, w)) := tt_iaload (hxL_law θ n lim) dL_law_1129
theorem eL_law_1130 {z0 : Int32} {z1 : Nat} : Wp (xL_law θ n lim) Q (1130, lo, [.int z0, .ref z1], w) ↔ (rIs w z1 4 ∧ sg θ n 82 [.ref z1, .int z0] w (fun v w' => Wp (xL_law θ n lim) Q (1133, lo, v.toList ++ [], w'))) := tt_callV (As := [.int z0]) (r := []) (hxL_law θ n lim) dL_law_1130 lkC_14_153 mX5_status ⟨rfl, rfl⟩ rfl rfl (Nat.le_of_ble_eq_true rfl) rfl
theorem eL_law_1133  : Wp (xL_law θ n lim) Q (1133, [o0, o1, some (.ref a), o3], st, w) ↔ Wp (xL_law θ n lim) Q (1134, [o0, o1, some (.ref a), o3], .ref a :: st, w) := tt_aload_n (hxL_law θ n lim) dL_law_1133 rfl
theorem eL_law_1134  : Wp (xL_law θ n lim) Q (1134, [some (.ref a), o1, o2, o3], st, w) ↔ Wp (xL_law θ n lim) Q (1135, [some (.ref a), o1, o2, o3], .ref a :: st, w) := tt_aload_n (hxL_law θ n lim) dL_law_1134 rfl
theorem eL_law_1135  : Wp (xL_law θ n lim) Q (1135, [o0, o1, o2, some (.int x)], st, w) ↔ Wp (xL_law θ n lim) Q (1136, [o0, o1, o2, some (.int x)], .int x :: st, w) := tt_iload_n (hxL_law θ n lim) dL_law_1135 rfl
theorem eL_law_1136  : Wp (xL_law θ n lim) Q (1136, lo, st, w) ↔ Wp (xL_law θ n lim) Q (1137, lo, .int 1 :: st, w) := tt_iconst (hxL_law θ n lim) dL_law_1136 (by decide)
theorem eL_law_1137  : Wp (xL_law θ n lim) Q (1137, lo, .int y :: .int x :: st, w) ↔ Wp (xL_law θ n lim) Q (1138, lo, .int (x + y) :: st, w) := tt_iadd (hxL_law θ n lim) dL_law_1137
theorem eL_law_1138  : Wp (xL_law θ n lim) Q (1138, lo, .int x :: .ref a :: st, w) ↔ (vp_in x (rGn w a) ∧ Wp (xL_law θ n lim) Q (1139, lo, .int (rGv w a x.toNatClampNeg) :: st, w)) := tt_iaload (hxL_law θ n lim) dL_law_1138
theorem eL_law_1139 {z0 : Int32} {z1 : Nat} {z2 : Int32} : Wp (xL_law θ n lim) Q (1139, lo, [.int z0, .ref z1, .int z2], w) ↔ (rIs w z1 5 ∧ sg θ n 164 [.ref z1, .int z0] w (fun v w' => Wp (xL_law θ n lim) Q (1142, lo, v.toList ++ [.int z2], w'))) := tt_callV (As := [.int z0]) (r := [.int z2]) (hxL_law θ n lim) dL_law_1139 lkC_14_156 mX6_status ⟨rfl, rfl⟩ rfl rfl (Nat.le_of_ble_eq_true rfl) rfl
theorem eL_law_1142  : Wp (xL_law θ n lim) Q (1142, lo, .int y :: .int x :: st, w) ↔ if x = y then Wp (xL_law θ n lim) Q (1147, lo, st, w) else Wp (xL_law θ n lim) Q (1145, lo, st, w) := tt_ic_eq (hxL_law θ n lim) dL_law_1142 (by decide)
theorem eL_law_1145  : Wp (xL_law θ n lim) Q (1145, lo, st, w) ↔ Wp (xL_law θ n lim) Q (1146, lo, .int 0 :: st, w) := tt_iconst (hxL_law θ n lim) dL_law_1145 (by decide)
theorem eL_law_1146  : Wp (xL_law θ n lim) Q (1146, lo, [.int x], w) ↔ (narrow .boolean (.int x) = .int x ∧ Q (some (.int x)) w) := tt_iret (hxL_law θ n lim) dL_law_1146 rfl
theorem eL_law_1147  : Wp (xL_law θ n lim) Q (1147, [o0, o1, o2, some (.int x)], st, w) ↔ Wp (xL_law θ n lim) Q (1150, [o0, o1, o2, some (.int (x + 6))], st, w) := tt_iinc (hxL_law θ n lim) dL_law_1147 rfl (by decide) rfl
theorem eL_law_1150  : Wp (xL_law θ n lim) Q (1150, lo, st, w) ↔ Wp (xL_law θ n lim) Q (18, lo, st, w) := tt_goto (hxL_law θ n lim) dL_law_1150 (by decide)
theorem eL_law_1153  : Wp (xL_law θ n lim) Q (1153, lo, st, w) ↔ Wp (xL_law θ n lim) Q (1154, lo, .int 1 :: st, w) := tt_iconst (hxL_law θ n lim) dL_law_1153 (by decide)
theorem eL_law_1154  : Wp (xL_law θ n lim) Q (1154, lo, [.int x], w) ↔ (narrow .boolean (.int x) = .int x ∧ Q (some (.int x)) w) := tt_iret (hxL_law θ n lim) dL_law_1154 rfl
end EQL
