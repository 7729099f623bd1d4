theorem sg_entry {θ : (Nat → Value) × (Nat → Nat)} {n mid : Nat} {as : List Value} {w : rW} {Q : rQ} {md : rM} (hm : rMth mid = some md) (hl : (lg_sl as).length ≤ md.2.2.1) (hz : md.2.2.2.2.2.2.1 = 0 ∧ md.2.2.2.2.2.2.2 = 0) {X : rX} (hX : rMX θ (sg θ n) n md w = X) {lo : List (Option Value)} (hlo : rLo as md.2.2.1 = lo) : sg θ (n + 1) mid as w Q ↔ Wp X Q (0, lo, [], w) := by
  subst hX hlo
  constructor
  · rintro ⟨md2, h1, h2, h3⟩
    cases hm.symm.trans h1
    exact Wp_mono (X := rMX θ (sg θ n) n md w) (sg_mono θ n) (fun _ _ q => q.2) h3
  · intro h
    exact ⟨md, hm, hl, Wp_mono (X := rMX θ (sg θ n) n md w) (sg_mono θ n) (fun _ _ q => ⟨Or.inl hz, q⟩) h⟩
theorem sg_entry1 {θ : (Nat → Value) × (Nat → Nat)} {n mid : Nat} {as : List Value} {w : rW} {Q : rQ} {md : rM} (hm : rMth mid = some md) (hl : (lg_sl as).length ≤ md.2.2.1) (hz : ¬ (md.2.2.2.2.2.2.1 = 0 ∧ md.2.2.2.2.2.2.2 = 0)) {X : rX} (hX : rMX θ (sg θ n) n md w = X) {lo : List (Option Value)} (hlo : rLo as md.2.2.1 = lo) : sg θ (n + 1) mid as w Q ↔ Wp X (fun v w' => (w'.2.1 = w.2.1 + md.2.2.2.2.2.2.1 ∧ w'.2.2 = w.2.2 + md.2.2.2.2.2.2.2) ∧ Q v w') (0, lo, [], w) := by
  subst hX hlo
  constructor
  · rintro ⟨md2, h1, h2, h3⟩
    cases hm.symm.trans h1
    exact Wp_mono (X := rMX θ (sg θ n) n md w) (sg_mono θ n) (fun _ _ q => ⟨q.1.elim (fun z => absurd z hz) id, q.2⟩) h3
  · intro h
    exact ⟨md, hm, hl, Wp_mono (X := rMX θ (sg θ n) n md w) (sg_mono θ n) (fun _ _ q => ⟨Or.inr q.1, q.2⟩) h⟩
theorem lkF_0_7 : rFld.lookup (0, 7) = some (0, 0) := by decide +kernel
theorem lkF_0_13 : rFld.lookup (0, 13) = some (0, 1) := by decide +kernel
theorem lkF_0_16 : rFld.lookup (0, 16) = some (0, 2) := by decide +kernel
theorem lkF_0_19 : rFld.lookup (0, 19) = some (0, 3) := by decide +kernel
theorem lkF_0_23 : rFld.lookup (0, 23) = some (0, 4) := by decide +kernel
theorem lkF_0_26 : rFld.lookup (0, 26) = some (0, 5) := by decide +kernel
theorem lkF_0_29 : rFld.lookup (0, 29) = some (0, 6) := by decide +kernel
theorem lkF_0_32 : rFld.lookup (0, 32) = some (0, 7) := by decide +kernel
theorem lkF_0_35 : rFld.lookup (0, 35) = some (0, 8) := by decide +kernel
theorem lkF_0_38 : rFld.lookup (0, 38) = some (0, 9) := by decide +kernel
theorem lkF_1_9 : rFld.lookup (1, 9) = some (1, 0) := by decide +kernel
theorem lkF_1_13 : rFld.lookup (1, 13) = some (1, 1) := by decide +kernel
theorem lkF_1_17 : rFld.lookup (1, 17) = some (1, 2) := by decide +kernel
theorem lkF_2_7 : rFld.lookup (2, 7) = some (2, 0) := by decide +kernel
theorem lkF_2_13 : rFld.lookup (2, 13) = some (2, 1) := by decide +kernel
theorem lkF_2_17 : rFld.lookup (2, 17) = some (2, 2) := by decide +kernel
theorem lkF_2_20 : rFld.lookup (2, 20) = some (2, 3) := by decide +kernel
theorem lkF_4_10 : rFld.lookup (4, 10) = some (4, 0) := by decide +kernel
theorem lkF_4_16 : rFld.lookup (4, 16) = some (4, 1) := by decide +kernel
theorem lkF_4_19 : rFld.lookup (4, 19) = some (4, 2) := by decide +kernel
theorem lkF_4_22 : rFld.lookup (4, 22) = some (4, 3) := by decide +kernel
theorem lkF_4_29 : rFld.lookup (4, 29) = some (4, 4) := by decide +kernel
theorem lkF_4_36 : rFld.lookup (4, 36) = some (4, 5) := by decide +kernel
theorem lkF_4_40 : rFld.lookup (4, 40) = some (4, 6) := by decide +kernel
theorem lkF_4_53 : rFld.lookup (4, 53) = some (0, 1) := by decide +kernel
theorem lkF_4_75 : rFld.lookup (4, 75) = some (0, 3) := by decide +kernel
theorem lkF_4_100 : rFld.lookup (4, 100) = some (0, 6) := by decide +kernel
theorem lkF_4_110 : rFld.lookup (4, 110) = some (0, 0) := by decide +kernel
theorem lkF_4_132 : rFld.lookup (4, 132) = some (0, 4) := by decide +kernel
theorem lkF_4_135 : rFld.lookup (4, 135) = some (0, 7) := by decide +kernel
theorem lkF_4_138 : rFld.lookup (4, 138) = some (0, 8) := by decide +kernel
theorem lkF_4_141 : rFld.lookup (4, 141) = some (0, 9) := by decide +kernel
theorem lkF_4_160 : rFld.lookup (4, 160) = some (0, 2) := by decide +kernel
theorem lkF_4_171 : rFld.lookup (4, 171) = some (0, 5) := by decide +kernel
theorem lkF_4_184 : rFld.lookup (4, 184) = some (2, 0) := by decide +kernel
theorem lkF_4_205 : rFld.lookup (4, 205) = some (1, 2) := by decide +kernel
theorem lkF_4_209 : rFld.lookup (4, 209) = some (1, 0) := by decide +kernel
theorem lkF_4_220 : rFld.lookup (4, 220) = some (1, 1) := by decide +kernel
theorem lkF_5_7 : rFld.lookup (5, 7) = some (5, 0) := by decide +kernel
theorem lkF_5_13 : rFld.lookup (5, 13) = some (5, 1) := by decide +kernel
theorem lkF_5_16 : rFld.lookup (5, 16) = some (5, 2) := by decide +kernel
theorem lkF_5_19 : rFld.lookup (5, 19) = some (5, 3) := by decide +kernel
theorem lkF_5_22 : rFld.lookup (5, 22) = some (5, 4) := by decide +kernel
theorem lkF_5_25 : rFld.lookup (5, 25) = some (5, 12) := by decide +kernel
theorem lkF_5_28 : rFld.lookup (5, 28) = some (5, 13) := by decide +kernel
theorem lkF_5_31 : rFld.lookup (5, 31) = some (5, 14) := by decide +kernel
theorem lkF_5_35 : rFld.lookup (5, 35) = some (5, 15) := by decide +kernel
theorem lkF_5_38 : rFld.lookup (5, 38) = some (5, 16) := by decide +kernel
theorem lkF_5_41 : rFld.lookup (5, 41) = some (5, 17) := by decide +kernel
theorem lkF_5_155 : rFld.lookup (5, 155) = some (5, 5) := by decide +kernel
theorem lkF_5_159 : rFld.lookup (5, 159) = some (5, 8) := by decide +kernel
theorem lkF_5_162 : rFld.lookup (5, 162) = some (5, 7) := by decide +kernel
theorem lkF_5_174 : rFld.lookup (5, 174) = some (5, 6) := by decide +kernel
theorem lkF_5_177 : rFld.lookup (5, 177) = some (5, 9) := by decide +kernel
theorem lkF_5_181 : rFld.lookup (5, 181) = some (5, 10) := by decide +kernel
theorem lkF_5_206 : rFld.lookup (5, 206) = some (5, 11) := by decide +kernel
theorem lkF_5_263 : rFld.lookup (5, 263) = some (5, 18) := by decide +kernel
theorem lkF_7_9 : rFld.lookup (7, 9) = some (100, 0) := by decide +kernel
theorem lkF_7_15 : rFld.lookup (7, 15) = some (100, 1) := by decide +kernel
theorem lkF_16_34 : rFld.lookup (16, 34) = some (0, 1) := by decide +kernel
theorem lkF_16_63 : rFld.lookup (16, 63) = some (0, 5) := by decide +kernel
theorem lkF_16_72 : rFld.lookup (16, 72) = some (0, 6) := by decide +kernel
theorem lkF_16_76 : rFld.lookup (16, 76) = some (0, 7) := by decide +kernel
theorem lkC_0_43 : rCal.lookup (0, 43) = some (0, 7) := by decide +kernel
theorem lkC_0_53 : rCal.lookup (0, 53) = some (0, 3) := by decide +kernel
theorem lkC_0_57 : rCal.lookup (0, 57) = some (1, 165) := by decide +kernel
theorem lkC_0_61 : rCal.lookup (0, 61) = some (0, 6) := by decide +kernel
theorem lkC_0_65 : rCal.lookup (0, 65) = some (0, 5) := by decide +kernel
theorem lkC_0_68 : rCal.lookup (0, 68) = some (1, 166) := by decide +kernel
theorem lkC_0_72 : rCal.lookup (0, 72) = some (0, 12) := by decide +kernel
theorem lkC_0_75 : rCal.lookup (0, 75) = some (0, 4) := by decide +kernel
theorem lkC_0_78 : rCal.lookup (0, 78) = some (0, 13) := by decide +kernel
theorem lkC_0_82 : rCal.lookup (0, 82) = some (0, 16) := by decide +kernel
theorem lkC_0_86 : rCal.lookup (0, 86) = some (0, 14) := by decide +kernel
theorem lkC_0_89 : rCal.lookup (0, 89) = some (0, 15) := by decide +kernel
theorem lkC_0_97 : rCal.lookup (0, 97) = some (1, 169) := by decide +kernel
theorem lkC_0_101 : rCal.lookup (0, 101) = some (0, 17) := by decide +kernel
theorem lkC_1_20 : rCal.lookup (1, 20) = some (1, 183) := by decide +kernel
theorem lkC_2_23 : rCal.lookup (2, 23) = some (0, 28) := by decide +kernel
theorem lkC_2_27 : rCal.lookup (2, 27) = some (0, 31) := by decide +kernel
theorem lkC_2_30 : rCal.lookup (2, 30) = some (0, 171) := by decide +kernel
theorem lkC_2_35 : rCal.lookup (2, 35) = some (0, 173) := by decide +kernel
theorem lkC_2_39 : rCal.lookup (2, 39) = some (0, 32) := by decide +kernel
theorem lkC_2_43 : rCal.lookup (2, 43) = some (1, 33) := by decide +kernel
theorem lkC_4_9 : rCal.lookup (4, 9) = some (3, 0) := by decide +kernel
theorem lkC_4_28 : rCal.lookup (4, 28) = some (3, 27) := by decide +kernel
theorem lkC_4_35 : rCal.lookup (4, 35) = some (3, 22) := by decide +kernel
theorem lkC_4_44 : rCal.lookup (4, 44) = some (1, 39) := by decide +kernel
theorem lkC_4_49 : rCal.lookup (4, 49) = some (0, 40) := by decide +kernel
theorem lkC_4_59 : rCal.lookup (4, 59) = some (0, 1) := by decide +kernel
theorem lkC_4_64 : rCal.lookup (4, 64) = some (0, 2) := by decide +kernel
theorem lkC_4_68 : rCal.lookup (4, 68) = some (0, 43) := by decide +kernel
theorem lkC_4_72 : rCal.lookup (4, 72) = some (0, 3) := by decide +kernel
theorem lkC_4_78 : rCal.lookup (4, 78) = some (1, 165) := by decide +kernel
theorem lkC_4_81 : rCal.lookup (4, 81) = some (0, 4) := by decide +kernel
theorem lkC_4_84 : rCal.lookup (4, 84) = some (0, 7) := by decide +kernel
theorem lkC_4_88 : rCal.lookup (4, 88) = some (1, 8) := by decide +kernel
theorem lkC_4_91 : rCal.lookup (4, 91) = some (0, 9) := by decide +kernel
theorem lkC_4_95 : rCal.lookup (4, 95) = some (1, 167) := by decide +kernel
theorem lkC_4_103 : rCal.lookup (4, 103) = some (0, 10) := by decide +kernel
theorem lkC_4_106 : rCal.lookup (4, 106) = some (0, 5) := by decide +kernel
theorem lkC_4_115 : rCal.lookup (4, 115) = some (0, 11) := by decide +kernel
theorem lkC_4_119 : rCal.lookup (4, 119) = some (0, 18) := by decide +kernel
theorem lkC_4_123 : rCal.lookup (4, 123) = some (0, 17) := by decide +kernel
theorem lkC_4_126 : rCal.lookup (4, 126) = some (0, 19) := by decide +kernel
theorem lkC_4_129 : rCal.lookup (4, 129) = some (0, 52) := by decide +kernel
theorem lkC_4_144 : rCal.lookup (4, 144) = some (0, 21) := by decide +kernel
theorem lkC_4_147 : rCal.lookup (4, 147) = some (0, 12) := by decide +kernel
theorem lkC_4_150 : rCal.lookup (4, 150) = some (0, 6) := by decide +kernel
theorem lkC_4_153 : rCal.lookup (4, 153) = some (0, 57) := by decide +kernel
theorem lkC_4_157 : rCal.lookup (4, 157) = some (0, 60) := by decide +kernel
theorem lkC_4_163 : rCal.lookup (4, 163) = some (1, 181) := by decide +kernel
theorem lkC_4_168 : rCal.lookup (4, 168) = some (0, 62) := by decide +kernel
theorem lkC_4_174 : rCal.lookup (4, 174) = some (1, 182) := by decide +kernel
theorem lkC_4_177 : rCal.lookup (4, 177) = some (0, 28) := by decide +kernel
theorem lkC_4_180 : rCal.lookup (4, 180) = some (0, 29) := by decide +kernel
theorem lkC_4_187 : rCal.lookup (4, 187) = some (1, 185) := by decide +kernel
theorem lkC_4_193 : rCal.lookup (4, 193) = some (0, 20) := by decide +kernel
theorem lkC_4_197 : rCal.lookup (4, 197) = some (0, 69) := by decide +kernel
theorem lkC_4_201 : rCal.lookup (4, 201) = some (0, 23) := by decide +kernel
theorem lkC_4_206 : rCal.lookup (4, 206) = some (0, 71) := by decide +kernel
theorem lkC_4_213 : rCal.lookup (4, 213) = some (0, 25) := by decide +kernel
theorem lkC_4_216 : rCal.lookup (4, 216) = some (0, 24) := by decide +kernel
theorem lkC_4_223 : rCal.lookup (4, 223) = some (0, 26) := by decide +kernel
theorem lkC_4_232 : rCal.lookup (4, 232) = some (0, 75) := by decide +kernel
theorem lkC_4_235 : rCal.lookup (4, 235) = some (0, 77) := by decide +kernel
theorem lkC_5_45 : rCal.lookup (5, 45) = some (0, 95) := by decide +kernel
theorem lkC_5_49 : rCal.lookup (5, 49) = some (1, 114) := by decide +kernel
theorem lkC_5_53 : rCal.lookup (5, 53) = some (0, 91) := by decide +kernel
theorem lkC_5_57 : rCal.lookup (5, 57) = some (1, 85) := by decide +kernel
theorem lkC_5_61 : rCal.lookup (5, 61) = some (0, 86) := by decide +kernel
theorem lkC_5_64 : rCal.lookup (5, 64) = some (0, 87) := by decide +kernel
theorem lkC_5_68 : rCal.lookup (5, 68) = some (0, 94) := by decide +kernel
theorem lkC_5_72 : rCal.lookup (5, 72) = some (0, 99) := by decide +kernel
theorem lkC_5_75 : rCal.lookup (5, 75) = some (0, 96) := by decide +kernel
theorem lkC_5_78 : rCal.lookup (5, 78) = some (0, 98) := by decide +kernel
theorem lkC_5_81 : rCal.lookup (5, 81) = some (1, 89) := by decide +kernel
theorem lkC_5_85 : rCal.lookup (5, 85) = some (0, 90) := by decide +kernel
theorem lkC_5_89 : rCal.lookup (5, 89) = some (0, 93) := by decide +kernel
theorem lkC_5_92 : rCal.lookup (5, 92) = some (0, 97) := by decide +kernel
theorem lkC_5_95 : rCal.lookup (5, 95) = some (1, 101) := by decide +kernel
theorem lkC_5_100 : rCal.lookup (5, 100) = some (0, 106) := by decide +kernel
theorem lkC_5_104 : rCal.lookup (5, 104) = some (0, 113) := by decide +kernel
theorem lkC_5_108 : rCal.lookup (5, 108) = some (0, 115) := by decide +kernel
theorem lkC_5_111 : rCal.lookup (5, 111) = some (0, 111) := by decide +kernel
theorem lkC_5_114 : rCal.lookup (5, 114) = some (0, 112) := by decide +kernel
theorem lkC_5_117 : rCal.lookup (5, 117) = some (0, 116) := by decide +kernel
theorem lkC_5_121 : rCal.lookup (5, 121) = some (0, 110) := by decide +kernel
theorem lkC_5_125 : rCal.lookup (5, 125) = some (0, 109) := by decide +kernel
theorem lkC_5_130 : rCal.lookup (5, 130) = some (0, 108) := by decide +kernel
theorem lkC_5_133 : rCal.lookup (5, 133) = some (0, 117) := by decide +kernel
theorem lkC_5_136 : rCal.lookup (5, 136) = some (0, 119) := by decide +kernel
theorem lkC_5_139 : rCal.lookup (5, 139) = some (0, 121) := by decide +kernel
theorem lkC_5_143 : rCal.lookup (5, 143) = some (0, 123) := by decide +kernel
theorem lkC_5_146 : rCal.lookup (5, 146) = some (0, 127) := by decide +kernel
theorem lkC_5_149 : rCal.lookup (5, 149) = some (0, 130) := by decide +kernel
theorem lkC_5_152 : rCal.lookup (5, 152) = some (1, 132) := by decide +kernel
theorem lkC_5_165 : rCal.lookup (5, 165) = some (0, 139) := by decide +kernel
theorem lkC_5_168 : rCal.lookup (5, 168) = some (1, 140) := by decide +kernel
theorem lkC_5_171 : rCal.lookup (5, 171) = some (1, 141) := by decide +kernel
theorem lkC_5_192 : rCal.lookup (5, 192) = some (0, 144) := by decide +kernel
theorem lkC_5_210 : rCal.lookup (5, 210) = some (0, 138) := by decide +kernel
theorem lkC_5_213 : rCal.lookup (5, 213) = some (0, 147) := by decide +kernel
theorem lkC_5_218 : rCal.lookup (5, 218) = some (0, 146) := by decide +kernel
theorem lkC_5_225 : rCal.lookup (5, 225) = some (0, 148) := by decide +kernel
theorem lkC_5_231 : rCal.lookup (5, 231) = some (0, 143) := by decide +kernel
theorem lkC_5_234 : rCal.lookup (5, 234) = some (0, 145) := by decide +kernel
theorem lkC_5_241 : rCal.lookup (5, 241) = some (0, 142) := by decide +kernel
theorem lkC_5_244 : rCal.lookup (5, 244) = some (1, 150) := by decide +kernel
theorem lkC_5_249 : rCal.lookup (5, 249) = some (1, 152) := by decide +kernel
theorem lkC_5_253 : rCal.lookup (5, 253) = some (0, 154) := by decide +kernel
theorem lkC_5_255 : rCal.lookup (5, 255) = some (0, 156) := by decide +kernel
theorem lkC_5_260 : rCal.lookup (5, 260) = some (0, 159) := by decide +kernel
theorem lkC_6_9 : rCal.lookup (6, 9) = some (1, 168) := by decide +kernel
theorem lkC_7_335 : rCal.lookup (7, 335) = some (0, 172) := by decide +kernel
theorem lkC_7_492 : rCal.lookup (7, 492) = some (0, 174) := by decide +kernel
theorem lkC_7_495 : rCal.lookup (7, 495) = some (1, 176) := by decide +kernel
theorem lkC_7_498 : rCal.lookup (7, 498) = some (1, 177) := by decide +kernel
theorem lkC_7_1059 : rCal.lookup (7, 1059) = some (1, 184) := by decide +kernel
theorem lkC_8_9 : rCal.lookup (8, 9) = some (1, 175) := by decide +kernel
theorem lkC_9_48 : rCal.lookup (9, 48) = some (1, 179) := by decide +kernel
theorem lkC_9_67 : rCal.lookup (9, 67) = some (1, 178) := by decide +kernel
theorem lkC_9_71 : rCal.lookup (9, 71) = some (1, 180) := by decide +kernel
theorem lkC_9_414 : rCal.lookup (9, 414) = some (1, 175) := by decide +kernel
theorem lkC_16_7 : rCal.lookup (16, 7) = some (0, 30) := by decide +kernel
theorem lkC_16_12 : rCal.lookup (16, 12) = some (1, 186) := by decide +kernel
theorem lkC_16_18 : rCal.lookup (16, 18) = some (0, 36) := by decide +kernel
theorem lkC_16_22 : rCal.lookup (16, 22) = some (0, 32) := by decide +kernel
theorem lkC_16_28 : rCal.lookup (16, 28) = some (0, 34) := by decide +kernel
theorem lkC_16_41 : rCal.lookup (16, 41) = some (1, 187) := by decide +kernel
theorem lkC_16_44 : rCal.lookup (16, 44) = some (0, 1) := by decide +kernel
theorem lkC_16_47 : rCal.lookup (16, 47) = some (1, 188) := by decide +kernel
theorem lkC_16_53 : rCal.lookup (16, 53) = some (0, 35) := by decide +kernel
theorem lkC_16_57 : rCal.lookup (16, 57) = some (0, 2) := by decide +kernel
theorem lkC_16_69 : rCal.lookup (16, 69) = some (1, 8) := by decide +kernel
theorem lkC_16_80 : rCal.lookup (16, 80) = some (1, 170) := by decide +kernel
theorem ptF_0_0 : parseFieldDescriptor (rTk 0 0).2.2.1 = some (.int) := by decide +kernel
theorem pfF_0_0 : (rTk 0 0).2.2.2 = false := by decide +kernel
theorem ptF_0_1 : parseFieldDescriptor (rTk 0 1).2.2.1 = some (.int) := by decide +kernel
theorem pfF_0_1 : (rTk 0 1).2.2.2 = false := by decide +kernel
theorem ptF_0_2 : parseFieldDescriptor (rTk 0 2).2.2.1 = some (.int) := by decide +kernel
theorem pfF_0_2 : (rTk 0 2).2.2.2 = false := by decide +kernel
theorem ptF_0_3 : parseFieldDescriptor (rTk 0 3).2.2.1 = some (.array .int) := by decide +kernel
theorem pfF_0_3 : (rTk 0 3).2.2.2 = true := by decide +kernel
theorem ptF_0_4 : parseFieldDescriptor (rTk 0 4).2.2.1 = some (.array .int) := by decide +kernel
theorem pfF_0_4 : (rTk 0 4).2.2.2 = true := by decide +kernel
theorem ptF_0_5 : parseFieldDescriptor (rTk 0 5).2.2.1 = some (.array .int) := by decide +kernel
theorem pfF_0_5 : (rTk 0 5).2.2.2 = true := by decide +kernel
theorem ptF_0_6 : parseFieldDescriptor (rTk 0 6).2.2.1 = some (.array .int) := by decide +kernel
theorem pfF_0_6 : (rTk 0 6).2.2.2 = true := by decide +kernel
theorem ptF_0_7 : parseFieldDescriptor (rTk 0 7).2.2.1 = some (.array .int) := by decide +kernel
theorem pfF_0_7 : (rTk 0 7).2.2.2 = true := by decide +kernel
theorem ptF_0_8 : parseFieldDescriptor (rTk 0 8).2.2.1 = some (.array .int) := by decide +kernel
theorem pfF_0_8 : (rTk 0 8).2.2.2 = true := by decide +kernel
theorem ptF_0_9 : parseFieldDescriptor (rTk 0 9).2.2.1 = some (.array .int) := by decide +kernel
theorem pfF_0_9 : (rTk 0 9).2.2.2 = true := by decide +kernel
theorem ptF_1_0 : parseFieldDescriptor (rTk 1 0).2.2.1 = some (.array .long) := by decide +kernel
theorem pfF_1_0 : (rTk 1 0).2.2.2 = true := by decide +kernel
theorem ptF_1_1 : parseFieldDescriptor (rTk 1 1).2.2.1 = some (.int) := by decide +kernel
theorem pfF_1_1 : (rTk 1 1).2.2.2 = false := by decide +kernel
theorem ptF_1_2 : parseFieldDescriptor (rTk 1 2).2.2.1 = some (.int) := by decide +kernel
theorem pfF_1_2 : (rTk 1 2).2.2.2 = false := by decide +kernel
theorem ptF_2_0 : parseFieldDescriptor (rTk 2 0).2.2.1 = some (.int) := by decide +kernel
theorem pfF_2_0 : (rTk 2 0).2.2.2 = false := by decide +kernel
theorem ptF_2_1 : parseFieldDescriptor (rTk 2 1).2.2.1 = some (.array .byte) := by decide +kernel
theorem pfF_2_1 : (rTk 2 1).2.2.2 = true := by decide +kernel
theorem ptF_2_2 : parseFieldDescriptor (rTk 2 2).2.2.1 = some (.int) := by decide +kernel
theorem pfF_2_2 : (rTk 2 2).2.2.2 = false := by decide +kernel
theorem ptF_2_3 : parseFieldDescriptor (rTk 2 3).2.2.1 = some (.int) := by decide +kernel
theorem pfF_2_3 : (rTk 2 3).2.2.2 = false := by decide +kernel
theorem ptF_4_0 : parseFieldDescriptor (rTk 4 0).2.2.1 = some (.object "BackAvenue$Avenue") := by decide +kernel
theorem pfF_4_0 : (rTk 4 0).2.2.2 = true := by decide +kernel
theorem ptF_4_1 : parseFieldDescriptor (rTk 4 1).2.2.1 = some (.object "BackAvenue$Avenue") := by decide +kernel
theorem pfF_4_1 : (rTk 4 1).2.2.2 = true := by decide +kernel
theorem ptF_4_2 : parseFieldDescriptor (rTk 4 2).2.2.1 = some (.object "BackAvenue$Avenue") := by decide +kernel
theorem pfF_4_2 : (rTk 4 2).2.2.2 = true := by decide +kernel
theorem ptF_4_3 : parseFieldDescriptor (rTk 4 3).2.2.1 = some (.boolean) := by decide +kernel
theorem pfF_4_3 : (rTk 4 3).2.2.2 = false := by decide +kernel
theorem ptF_4_4 : parseFieldDescriptor (rTk 4 4).2.2.1 = some (.object "BackAvenue$Tape") := by decide +kernel
theorem pfF_4_4 : (rTk 4 4).2.2.2 = true := by decide +kernel
theorem ptF_4_5 : parseFieldDescriptor (rTk 4 5).2.2.1 = some (.array (.object "BackAvenue$Sheet")) := by decide +kernel
theorem pfF_4_5 : (rTk 4 5).2.2.2 = true := by decide +kernel
theorem ptF_4_6 : parseFieldDescriptor (rTk 4 6).2.2.1 = some (.array .int) := by decide +kernel
theorem pfF_4_6 : (rTk 4 6).2.2.2 = true := by decide +kernel
theorem ptF_5_0 : parseFieldDescriptor (rTk 5 0).2.2.1 = some (.array .int) := by decide +kernel
theorem pfF_5_0 : (rTk 5 0).2.2.2 = true := by decide +kernel
theorem ptF_5_1 : parseFieldDescriptor (rTk 5 1).2.2.1 = some (.array .int) := by decide +kernel
theorem pfF_5_1 : (rTk 5 1).2.2.2 = true := by decide +kernel
theorem ptF_5_2 : parseFieldDescriptor (rTk 5 2).2.2.1 = some (.array .int) := by decide +kernel
theorem pfF_5_2 : (rTk 5 2).2.2.2 = true := by decide +kernel
theorem ptF_5_3 : parseFieldDescriptor (rTk 5 3).2.2.1 = some (.array .int) := by decide +kernel
theorem pfF_5_3 : (rTk 5 3).2.2.2 = true := by decide +kernel
theorem ptF_5_4 : parseFieldDescriptor (rTk 5 4).2.2.1 = some (.array .int) := by decide +kernel
theorem pfF_5_4 : (rTk 5 4).2.2.2 = true := by decide +kernel
theorem ptF_5_5 : parseFieldDescriptor (rTk 5 5).2.2.1 = some (.int) := by decide +kernel
theorem pfF_5_5 : (rTk 5 5).2.2.2 = false := by decide +kernel
theorem ptF_5_6 : parseFieldDescriptor (rTk 5 6).2.2.1 = some (.int) := by decide +kernel
theorem pfF_5_6 : (rTk 5 6).2.2.2 = false := by decide +kernel
theorem ptF_5_7 : parseFieldDescriptor (rTk 5 7).2.2.1 = some (.int) := by decide +kernel
theorem pfF_5_7 : (rTk 5 7).2.2.2 = false := by decide +kernel
theorem ptF_5_8 : parseFieldDescriptor (rTk 5 8).2.2.1 = some (.int) := by decide +kernel
theorem pfF_5_8 : (rTk 5 8).2.2.2 = false := by decide +kernel
theorem ptF_5_9 : parseFieldDescriptor (rTk 5 9).2.2.1 = some (.long) := by decide +kernel
theorem pfF_5_9 : (rTk 5 9).2.2.2 = false := by decide +kernel
theorem ptF_5_10 : parseFieldDescriptor (rTk 5 10).2.2.1 = some (.int) := by decide +kernel
theorem pfF_5_10 : (rTk 5 10).2.2.2 = false := by decide +kernel
theorem ptF_5_11 : parseFieldDescriptor (rTk 5 11).2.2.1 = some (.boolean) := by decide +kernel
theorem pfF_5_11 : (rTk 5 11).2.2.2 = false := by decide +kernel
theorem ptF_5_12 : parseFieldDescriptor (rTk 5 12).2.2.1 = some (.array .int) := by decide +kernel
theorem pfF_5_12 : (rTk 5 12).2.2.2 = true := by decide +kernel
theorem ptF_5_13 : parseFieldDescriptor (rTk 5 13).2.2.1 = some (.array .int) := by decide +kernel
theorem pfF_5_13 : (rTk 5 13).2.2.2 = true := by decide +kernel
theorem ptF_5_14 : parseFieldDescriptor (rTk 5 14).2.2.1 = some (.array .long) := by decide +kernel
theorem pfF_5_14 : (rTk 5 14).2.2.2 = true := by decide +kernel
theorem ptF_5_15 : parseFieldDescriptor (rTk 5 15).2.2.1 = some (.array .long) := by decide +kernel
theorem pfF_5_15 : (rTk 5 15).2.2.2 = true := by decide +kernel
theorem ptF_5_16 : parseFieldDescriptor (rTk 5 16).2.2.1 = some (.array .int) := by decide +kernel
theorem pfF_5_16 : (rTk 5 16).2.2.2 = true := by decide +kernel
theorem ptF_5_17 : parseFieldDescriptor (rTk 5 17).2.2.1 = some (.array .int) := by decide +kernel
theorem pfF_5_17 : (rTk 5 17).2.2.2 = true := by decide +kernel
theorem ptF_5_18 : parseFieldDescriptor (rTk 5 18).2.2.1 = some (.boolean) := by decide +kernel
theorem pfF_5_18 : (rTk 5 18).2.2.2 = false := by decide +kernel
theorem mX0_init : rMth 0 = some (yX0_init, cX0_init, 1, none, 0, 0, 7, 56) := rfl
theorem mX0_isFull : rMth 1 = some (yX0_isFull, cX0_isFull, 1, (some .boolean), 0, 0, 0, 0) := rfl
theorem mX0_add : rMth 2 = some (yX0_add, cX0_add, 4, (some .int), 0, 2, 0, 0) := rfl
theorem mX0_isThrough : rMth 3 = some (yX0_isThrough, cX0_isThrough, 2, (some .boolean), 0, 1, 0, 0) := rfl
theorem mX0_placesToGo : rMth 4 = some (yX0_placesToGo, cX0_placesToGo, 2, (some .int), 0, 1, 0, 0) := rfl
theorem mX0_leaderOf : rMth 5 = some (yX0_leaderOf, cX0_leaderOf, 6, (some .int), 0, 1, 0, 0) := rfl
theorem mX0_distanceSeen : rMth 6 = some (yX0_distanceSeen, cX0_distanceSeen, 6, (some .int), 0, 2, 0, 0) := rfl
theorem mX0_row : rMth 7 = some (yX0_row, cX0_row, 2, (some (.array .int)), 0, 1, 0, 0) := rfl
theorem mX0_most : rMth 8 = some (yX0_most, cX0_most, 1, (some .int), 0, 1, 0, 0) := rfl
theorem mX0_put : rMth 9 = some (yX0_put, cX0_put, 6, (some .int), 0, 3, 0, 0) := rfl
theorem mX0_seenBy : rMth 10 = some (yX0_seenBy, cX0_seenBy, 4, (some .int), 0, 1, 0, 0) := rfl
theorem mX0_passMinutes : rMth 11 = some (yX0_passMinutes, cX0_passMinutes, 3, none, 0, 1, 0, 0) := rfl
theorem mX0_passMinute : rMth 12 = some (yX0_passMinute, cX0_passMinute, 2, none, 0, 0, 0, 0) := rfl
theorem mX0_walk : rMth 13 = some (yX0_walk, cX0_walk, 6, none, 0, 2, 0, 0) := rfl
theorem mX0_inTheWayOf : rMth 14 = some (yX0_inTheWayOf, cX0_inTheWayOf, 3, (some .int), 0, 1, 0, 0) := rfl
theorem mX0_bump : rMth 15 = some (yX0_bump, cX0_bump, 3, none, 0, 2, 0, 0) := rfl
theorem mX0_ride : rMth 16 = some (yX0_ride, cX0_ride, 2, none, 0, 1, 0, 0) := rfl
theorem mX0_tramPlace : rMth 17 = some (yX0_tramPlace, cX0_tramPlace, 1, (some .int), 0, 0, 0, 0) := rfl
theorem mX0_throughSet : rMth 18 = some (yX0_throughSet, cX0_throughSet, 3, (some .int), 0, 0, 0, 0) := rfl
theorem mX0_sum : rMth 19 = some (yX0_sum, cX0_sum, 5, (some .int), 0, 1, 0, 0) := rfl
theorem mX0_copyFrom : rMth 20 = some (yX0_copyFrom, cX0_copyFrom, 3, none, 0, 1, 0, 0) := rfl
theorem mX0_minutesTillThrough : rMth 21 = some (yX0_minutesTillThrough, cX0_minutesTillThrough, 4, (some .int), 0, 2, 0, 0) := rfl
theorem mX2_init : rMth 22 = some (yX2_init, cX2_init, 1, none, 1, 0, 1, 40) := rfl
theorem mX2_make : rMth 23 = some (yX2_make, cX2_make, 3, none, 1, 2, 0, 0) := rfl
theorem mX2_isMissing : rMth 24 = some (yX2_isMissing, cX2_isMissing, 1, (some .boolean), 1, 0, 0, 0) := rfl
theorem mX2_put : rMth 25 = some (yX2_put, cX2_put, 4, none, 1, 2, 0, 0) := rfl
theorem mX2_hasFrom : rMth 26 = some (yX2_hasFrom, cX2_hasFrom, 3, (some .boolean), 1, 2, 0, 0) := rfl
theorem mX3_init : rMth 27 = some (yX3_init, cX3_init, 1, none, 2, 0, 1, 120) := rfl
theorem mX3_hasRoomFor : rMth 28 = some (yX3_hasRoomFor, cX3_hasRoomFor, 2, (some .boolean), 2, 1, 0, 0) := rfl
theorem mX3_append : rMth 29 = some (yX3_append, cX3_append, 2, none, 2, 1, 0, 0) := rfl
theorem mX3_lookAtFirst : rMth 30 = some (yX3_lookAtFirst, cX3_lookAtFirst, 1, none, 2, 0, 0, 0) := rfl
theorem mX3_lookAtNext : rMth 31 = some (yX3_lookAtNext, cX3_lookAtNext, 2, none, 2, 0, 0, 0) := rfl
theorem mX3_isAllTaken : rMth 32 = some (yX3_isAllTaken, cX3_isAllTaken, 1, (some .boolean), 2, 0, 0, 0) := rfl
theorem mX3_sortOf : rMth 33 = some (yX3_sortOf, cX3_sortOf, 1, (some .int), 2, 1, 0, 0) := rfl
theorem mX3_take : rMth 34 = some (yX3_take, cX3_take, 3, (some .boolean), 2, 1, 0, 0) := rfl
theorem mX3_takeNumber : rMth 35 = some (yX3_takeNumber, cX3_takeNumber, 4, (some .int), 2, 1, 0, 0) := rfl
theorem mX3_looksAt : rMth 36 = some (yX3_looksAt, cX3_looksAt, 1, (some .int), 2, 0, 0, 0) := rfl
theorem mX5_init : rMth 37 = some (yX5_init, cX5_init, 1, none, 4, 0, 36, 505) := rfl
theorem mX5_trams : rMth 38 = some (yX5_trams, cX5_trams, 3, (some .int), 4, 1, 0, 0) := rfl
theorem mX5_isWithin : rMth 39 = some (yX5_isWithin, cX5_isWithin, 3, (some .boolean), 4, 3, 0, 0) := rfl
theorem mX5_finding : rMth 40 = some (yX5_finding, cX5_finding, 3, (some .int), 4, 1, 0, 0) := rfl
theorem mX5_walker : rMth 41 = some (yX5_walker, cX5_walker, 3, (some .int), 4, 2, 0, 0) := rfl
theorem mX5_of : rMth 42 = some (yX5_of, cX5_of, 3, (some .int), 4, 2, 0, 0) := rfl
theorem mX5_isWalker : rMth 43 = some (yX5_isWalker, cX5_isWalker, 2, (some .boolean), 4, 1, 0, 0) := rfl
theorem mX5_set : rMth 44 = some (yX5_set, cX5_set, 4, (some .int), 4, 3, 0, 0) := rfl
theorem mX5_turn : rMth 45 = some (yX5_turn, cX5_turn, 3, (some .int), 4, 2, 0, 0) := rfl
theorem mX5_as : rMth 46 = some (yX5_as, cX5_as, 3, (some .int), 4, 2, 0, 0) := rfl
theorem mX5_sees : rMth 47 = some (yX5_sees, cX5_sees, 2, (some .int), 4, 1, 0, 0) := rfl
theorem mX5_leader : rMth 48 = some (yX5_leader, cX5_leader, 3, (some .int), 4, 1, 0, 0) := rfl
theorem mX5_minutes : rMth 49 = some (yX5_minutes, cX5_minutes, 2, (some .int), 4, 1, 0, 0) := rfl
theorem mX5_now : rMth 50 = some (yX5_now, cX5_now, 2, (some .int), 4, 1, 0, 0) := rfl
theorem mX5_on : rMth 51 = some (yX5_on, cX5_on, 4, (some .int), 4, 3, 0, 0) := rfl
theorem mX5_lookAhead : rMth 52 = some (yX5_lookAhead, cX5_lookAhead, 1, none, 4, 0, 0, 0) := rfl
theorem mX5_through : rMth 53 = some (yX5_through, cX5_through, 3, (some .int), 4, 1, 0, 0) := rfl
theorem mX5_bumps : rMth 54 = some (yX5_bumps, cX5_bumps, 3, (some .int), 4, 1, 0, 0) := rfl
theorem mX5_meet : rMth 55 = some (yX5_meet, cX5_meet, 4, (some .int), 4, 2, 0, 0) := rfl
theorem mX5_pace : rMth 56 = some (yX5_pace, cX5_pace, 2, (some .int), 4, 1, 0, 0) := rfl
theorem mX5_soonestThrough : rMth 57 = some (yX5_soonestThrough, cX5_soonestThrough, 7, (some .int), 4, 2, 0, 0) := rfl
theorem mX5_kind : rMth 58 = some (yX5_kind, cX5_kind, 2, (some .int), 4, 1, 0, 0) := rfl
theorem mX5_begin : rMth 59 = some (yX5_begin, cX5_begin, 7, (some .int), 4, 2, 0, 0) := rfl
theorem mX5_bumpsAhead : rMth 60 = some (yX5_bumpsAhead, cX5_bumpsAhead, 5, (some .int), 4, 2, 0, 0) := rfl
theorem mX5_fewest : rMth 61 = some (yX5_fewest, cX5_fewest, 5, (some .int), 4, 1, 0, 0) := rfl
theorem mX5_isWithoutFines : rMth 62 = some (yX5_isWithoutFines, cX5_isWithoutFines, 5, (some .boolean), 4, 2, 0, 0) := rfl
theorem mX5_other : rMth 63 = some (yX5_other, cX5_other, 6, (some .int), 4, 1, 0, 0) := rfl
theorem mX5_first : rMth 64 = some (yX5_first, cX5_first, 3, (some .int), 4, 0, 0, 0) := rfl
theorem mX5_feed : rMth 65 = some (yX5_feed, cX5_feed, 4, (some .int), 4, 2, 0, 0) := rfl
theorem mX5_wipe : rMth 66 = some (yX5_wipe, cX5_wipe, 2, (some .int), 4, 0, 0, 0) := rfl
theorem mX5_avenue : rMth 67 = some (yX5_avenue, cX5_avenue, 2, (some .int), 4, 0, 0, 0) := rfl
theorem mX5_sheet : rMth 68 = some (yX5_sheet, cX5_sheet, 4, (some .int), 4, 3, 0, 0) := rfl
theorem mX5_isSheet : rMth 69 = some (yX5_isSheet, cX5_isSheet, 2, (some .boolean), 4, 1, 0, 0) := rfl
theorem mX5_write : rMth 70 = some (yX5_write, cX5_write, 8, (some .long), 4, 3, 0, 0) := rfl
theorem mX5_sheetFault : rMth 71 = some (yX5_sheetFault, cX5_sheetFault, 2, (some .int), 4, 1, 0, 0) := rfl
theorem mX5_copy : rMth 72 = some (yX5_copy, cX5_copy, 8, (some .int), 4, 5, 0, 0) := rfl
theorem mX5_lays : rMth 73 = some (yX5_lays, cX5_lays, 7, (some .int), 4, 1, 0, 0) := rfl
theorem mX5_book : rMth 74 = some (yX5_book, cX5_book, 5, (some .int), 4, 2, 0, 0) := rfl
theorem mX5_sheetAndWalkerFault : rMth 75 = some (yX5_sheetAndWalkerFault, cX5_sheetAndWalkerFault, 4, (some .int), 4, 2, 0, 0) := rfl
theorem mX5_read : rMth 76 = some (yX5_read, cX5_read, 7, (some .int), 4, 2, 0, 0) := rfl
theorem mX5_isJustSo : rMth 77 = some (yX5_isJustSo, cX5_isJustSo, 4, (some .boolean), 4, 2, 0, 0) := rfl
theorem mX5_image : rMth 78 = some (yX5_image, cX5_image, 1, (some .int), 4, 0, 0, 0) := rfl
theorem mX5_undo : rMth 79 = some (yX5_undo, cX5_undo, 1, (some .int), 4, 0, 0, 0) := rfl
theorem mX5_tear : rMth 80 = some (yX5_tear, cX5_tear, 2, (some .int), 4, 0, 0, 0) := rfl
theorem mX5_count : rMth 81 = some (yX5_count, cX5_count, 2, (some .int), 4, 1, 0, 0) := rfl
theorem mX5_status : rMth 82 = some (yX5_status, cX5_status, 4, (some .int), 4, 1, 0, 0) := rfl
theorem mX6_init : rMth 83 = some (yX6_init, cX6_init, 1, none, 5, 0, 11, 630) := rfl
theorem mX6_trams : rMth 84 = some (yX6_trams, cX6_trams, 2, (some .int), 5, 1, 0, 0) := rfl
theorem mX6_in : rMth 85 = some (yX6_in, cX6_in, 3, (some .boolean), 5, 3, 0, 0) := rfl
theorem mX6_becomes : rMth 86 = some (yX6_becomes, cX6_becomes, 4, (some .int), 5, 2, 0, 0) := rfl
theorem mX6_finds : rMth 87 = some (yX6_finds, cX6_finds, 2, (some .int), 5, 1, 0, 0) := rfl
theorem mX6_walker : rMth 88 = some (yX6_walker, cX6_walker, 3, (some .int), 5, 2, 0, 0) := rfl
theorem mX6_isKind : rMth 89 = some (yX6_isKind, cX6_isKind, 1, (some .boolean), 5, 1, 0, 0) := rfl
theorem mX6_adds : rMth 90 = some (yX6_adds, cX6_adds, 7, none, 5, 5, 0, 0) := rfl
theorem mX6_puts : rMth 91 = some (yX6_puts, cX6_puts, 4, none, 5, 3, 0, 0) := rfl
theorem mX6_of : rMth 92 = some (yX6_of, cX6_of, 3, (some .int), 5, 2, 0, 0) := rfl
theorem mX6_isOne : rMth 93 = some (yX6_isOne, cX6_isOne, 2, (some .boolean), 5, 1, 0, 0) := rfl
theorem mX6_isThrough : rMth 94 = some (yX6_isThrough, cX6_isThrough, 2, (some .boolean), 5, 1, 0, 0) := rfl
theorem mX6_its : rMth 95 = some (yX6_its, cX6_its, 3, (some .int), 5, 2, 0, 0) := rfl
theorem mX6_sight : rMth 96 = some (yX6_sight, cX6_sight, 2, (some .int), 5, 1, 0, 0) := rfl
theorem mX6_goes : rMth 97 = some (yX6_goes, cX6_goes, 7, (some .int), 5, 1, 0, 0) := rfl
theorem mX6_seen : rMth 98 = some (yX6_seen, cX6_seen, 4, (some .int), 5, 1, 0, 0) := rfl
theorem mX6_offFrom : rMth 99 = some (yX6_offFrom, cX6_offFrom, 4, (some .int), 5, 2, 0, 0) := rfl
theorem mX6_set : rMth 100 = some (yX6_set, cX6_set, 4, (some .int), 5, 3, 0, 0) := rfl
theorem mX6_isPart : rMth 101 = some (yX6_isPart, cX6_isPart, 2, (some .boolean), 5, 2, 0, 0) := rfl
theorem mX6_turn : rMth 102 = some (yX6_turn, cX6_turn, 3, (some .int), 5, 2, 0, 0) := rfl
theorem mX6_as : rMth 103 = some (yX6_as, cX6_as, 5, (some .int), 5, 2, 0, 0) := rfl
theorem mX6_sees : rMth 104 = some (yX6_sees, cX6_sees, 2, (some .int), 5, 1, 0, 0) := rfl
theorem mX6_leader : rMth 105 = some (yX6_leader, cX6_leader, 3, (some .int), 5, 1, 0, 0) := rfl
theorem mX6_followed : rMth 106 = some (yX6_followed, cX6_followed, 5, (some .int), 5, 1, 0, 0) := rfl
theorem mX6_minutes : rMth 107 = some (yX6_minutes, cX6_minutes, 2, (some .int), 5, 1, 0, 0) := rfl
theorem mX6_passes : rMth 108 = some (yX6_passes, cX6_passes, 3, none, 5, 1, 0, 0) := rfl
theorem mX6_oneMinute : rMth 109 = some (yX6_oneMinute, cX6_oneMinute, 2, none, 5, 0, 0, 0) := rfl
theorem mX6_walks : rMth 110 = some (yX6_walks, cX6_walks, 5, none, 5, 1, 0, 0) := rfl
theorem mX6_besides : rMth 111 = some (yX6_besides, cX6_besides, 3, (some .int), 5, 1, 0, 0) := rfl
theorem mX6_bumpInto : rMth 112 = some (yX6_bumpInto, cX6_bumpInto, 3, none, 5, 2, 0, 0) := rfl
theorem mX6_more : rMth 113 = some (yX6_more, cX6_more, 3, none, 5, 2, 0, 0) := rfl
theorem mX6_held : rMth 114 = some (yX6_held, cX6_held, 3, (some .int), 5, 3, 0, 0) := rfl
theorem mX6_isTurned : rMth 115 = some (yX6_isTurned, cX6_isTurned, 3, (some .boolean), 5, 1, 0, 0) := rfl
theorem mX6_tram : rMth 116 = some (yX6_tram, cX6_tram, 1, (some .int), 5, 0, 0, 0) := rfl
theorem mX6_throughSet : rMth 117 = some (yX6_throughSet, cX6_throughSet, 3, (some .int), 5, 0, 0, 0) := rfl
theorem mX6_now : rMth 118 = some (yX6_now, cX6_now, 2, (some .int), 5, 1, 0, 0) := rfl
theorem mX6_sumOf : rMth 119 = some (yX6_sumOf, cX6_sumOf, 4, (some .int), 5, 1, 0, 0) := rfl
theorem mX6_on : rMth 120 = some (yX6_on, cX6_on, 5, (some .int), 5, 3, 0, 0) := rfl
theorem mX6_moveAll : rMth 121 = some (yX6_moveAll, cX6_moveAll, 4, none, 5, 2, 0, 0) := rfl
theorem mX6_through : rMth 122 = some (yX6_through, cX6_through, 3, (some .int), 5, 1, 0, 0) := rfl
theorem mX6_throughIn : rMth 123 = some (yX6_throughIn, cX6_throughIn, 3, (some .int), 5, 1, 0, 0) := rfl
theorem mX6_bumps : rMth 124 = some (yX6_bumps, cX6_bumps, 4, (some .int), 5, 1, 0, 0) := rfl
theorem mX6_meet : rMth 125 = some (yX6_meet, cX6_meet, 4, (some .int), 5, 2, 0, 0) := rfl
theorem mX6_pace : rMth 126 = some (yX6_pace, cX6_pace, 2, (some .int), 5, 1, 0, 0) := rfl
theorem mX6_soonest : rMth 127 = some (yX6_soonest, cX6_soonest, 8, (some .int), 5, 3, 0, 0) := rfl
theorem mX6_kind : rMth 128 = some (yX6_kind, cX6_kind, 2, (some .int), 5, 1, 0, 0) := rfl
theorem mX6_begin : rMth 129 = some (yX6_begin, cX6_begin, 7, (some .int), 5, 2, 0, 0) := rfl
theorem mX6_sumBehind : rMth 130 = some (yX6_sumBehind, cX6_sumBehind, 4, (some .int), 5, 2, 0, 0) := rfl
theorem mX6_fewest : rMth 131 = some (yX6_fewest, cX6_fewest, 6, (some .int), 5, 1, 0, 0) := rfl
theorem mX6_bits : rMth 132 = some (yX6_bits, cX6_bits, 3, (some .int), 5, 1, 0, 0) := rfl
theorem mX6_other : rMth 133 = some (yX6_other, cX6_other, 6, (some .int), 5, 1, 0, 0) := rfl
theorem mX6_first : rMth 134 = some (yX6_first, cX6_first, 4, (some .int), 5, 0, 0, 0) := rfl
theorem mX6_feed : rMth 135 = some (yX6_feed, cX6_feed, 4, (some .int), 5, 2, 0, 0) := rfl
theorem mX6_wipe : rMth 136 = some (yX6_wipe, cX6_wipe, 2, (some .int), 5, 0, 0, 0) := rfl
theorem mX6_avenue : rMth 137 = some (yX6_avenue, cX6_avenue, 3, (some .int), 5, 0, 0, 0) := rfl
theorem mX6_advance : rMth 138 = some (yX6_advance, cX6_advance, 2, none, 5, 0, 0, 0) := rfl
theorem mX6_byteAt : rMth 139 = some (yX6_byteAt, cX6_byteAt, 2, (some .int), 5, 1, 0, 0) := rfl
theorem mX6_isLetter : rMth 140 = some (yX6_isLetter, cX6_isLetter, 1, (some .boolean), 5, 1, 0, 0) := rfl
theorem mX6_isDigit : rMth 141 = some (yX6_isDigit, cX6_isDigit, 1, (some .boolean), 5, 1, 0, 0) := rfl
theorem mX6_wantItem : rMth 142 = some (yX6_wantItem, cX6_wantItem, 1, none, 5, 0, 0, 0) := rfl
theorem mX6_kindHere : rMth 143 = some (yX6_kindHere, cX6_kindHere, 1, (some .int), 5, 0, 0, 0) := rfl
theorem mX6_isWord : rMth 144 = some (yX6_isWord, cX6_isWord, 3, (some .boolean), 5, 1, 0, 0) := rfl
theorem mX6_wantOne : rMth 145 = some (yX6_wantOne, cX6_wantOne, 6, none, 5, 1, 0, 0) := rfl
theorem mX6_may : rMth 146 = some (yX6_may, cX6_may, 4, (some .boolean), 5, 1, 0, 0) := rfl
theorem mX6_wantNumber : rMth 147 = some (yX6_wantNumber, cX6_wantNumber, 4, (some .int), 5, 2, 0, 0) := rfl
theorem mX6_mayWant : rMth 148 = some (yX6_mayWant, cX6_mayWant, 6, (some .int), 5, 4, 0, 0) := rfl
theorem mX6_sheet : rMth 149 = some (yX6_sheet, cX6_sheet, 5, (some .int), 5, 3, 0, 0) := rfl
theorem mX6_isSheet : rMth 150 = some (yX6_isSheet, cX6_isSheet, 1, (some .boolean), 5, 1, 0, 0) := rfl
theorem mX6_write : rMth 151 = some (yX6_write, cX6_write, 7, (some .long), 5, 3, 0, 0) := rfl
theorem mX6_narrow : rMth 152 = some (yX6_narrow, cX6_narrow, 3, (some .long), 5, 2, 0, 0) := rfl
theorem mX6_copy : rMth 153 = some (yX6_copy, cX6_copy, 7, (some .int), 5, 5, 0, 0) := rfl
theorem mX6_isPart_ : rMth 154 = some (yX6_isPart_, cX6_isPart_, 4, (some .boolean), 5, 3, 0, 0) := rfl
theorem mX6_lays : rMth 155 = some (yX6_lays, cX6_lays, 7, (some .int), 5, 1, 0, 0) := rfl
theorem mX6_badSheet : rMth 156 = some (yX6_badSheet, cX6_badSheet, 2, (some .int), 5, 1, 0, 0) := rfl
theorem mX6_book : rMth 157 = some (yX6_book, cX6_book, 5, (some .int), 5, 2, 0, 0) := rfl
theorem mX6_read : rMth 158 = some (yX6_read, cX6_read, 6, (some .int), 5, 2, 0, 0) := rfl
theorem mX6_isSo : rMth 159 = some (yX6_isSo, cX6_isSo, 5, (some .boolean), 5, 2, 0, 0) := rfl
theorem mX6_image : rMth 160 = some (yX6_image, cX6_image, 1, (some .int), 5, 0, 0, 0) := rfl
theorem mX6_undo : rMth 161 = some (yX6_undo, cX6_undo, 1, (some .int), 5, 0, 0, 0) := rfl
theorem mX6_tear : rMth 162 = some (yX6_tear, cX6_tear, 2, (some .int), 5, 0, 0, 0) := rfl
theorem mX6_count : rMth 163 = some (yX6_count, cX6_count, 2, (some .int), 5, 1, 0, 0) := rfl
theorem mX6_status : rMth 164 = some (yX6_status, cX6_status, 4, (some .int), 5, 1, 0, 0) := rfl
theorem mX1_sight : rMth 165 = some (yX1_sight, cX1_sight, 1, (some .int), 6, 1, 0, 0) := rfl
theorem mX1_goes : rMth 166 = some (yX1_goes, cX1_goes, 8, (some .int), 6, 5, 0, 0) := rfl
theorem mX1_isUnder : rMth 167 = some (yX1_isUnder, cX1_isUnder, 4, (some .boolean), 6, 2, 0, 0) := rfl
theorem mX1_above : rMth 168 = some (yX1_above, cX1_above, 1, (some .int), 6, 1, 0, 0) := rfl
theorem mX1_turns : rMth 169 = some (yX1_turns, cX1_turns, 2, (some .boolean), 6, 2, 0, 0) := rfl
theorem mX1_name : rMth 170 = some (yX1_name, cX1_name, 1, (some (.object "java/lang/String")), 6, 1, 0, 0) := rfl
theorem mJ0_length_8abf5 : rMth 171 = some (yJ0_length_8abf5, cJ0_length_8abf5, 1, (some .int), 7, 0, 0, 0) := rfl
theorem mJ0_coder_7d493 : rMth 172 = some (yJ0_coder_7d493, cJ0_coder_7d493, 1, (some .byte), 7, 0, 0, 0) := rfl
theorem mJ0_charAt_5068e : rMth 173 = some (yJ0_charAt_5068e, cJ0_charAt_5068e, 2, (some .char), 7, 1, 0, 0) := rfl
theorem mJ0_isLatin1_aae02 : rMth 174 = some (yJ0_isLatin1_aae02, cJ0_isLatin1_aae02, 1, (some .boolean), 7, 0, 0, 0) := rfl
theorem mJ0_checkIndex_df160 : rMth 175 = some (yJ0_checkIndex_df160, cJ0_checkIndex_df160, 2, none, 7, 2, 0, 0) := rfl
theorem mJ1_charAt_3b067 : rMth 176 = some (yJ1_charAt_3b067, cJ1_charAt_3b067, 2, (some .char), 8, 2, 0, 0) := rfl
theorem mJ2_charAt_3b067 : rMth 177 = some (yJ2_charAt_3b067, cJ2_charAt_3b067, 2, (some .char), 9, 2, 0, 0) := rfl
theorem mJ2_checkIndex_2214a : rMth 178 = some (yJ2_checkIndex_2214a, cJ2_checkIndex_2214a, 2, none, 9, 2, 0, 0) := rfl
theorem mJ2_length_9d52b : rMth 179 = some (yJ2_length_9d52b, cJ2_length_9d52b, 1, (some .int), 9, 1, 0, 0) := rfl
theorem mJ2_getChar_3b067 : rMth 180 = some (yJ2_getChar_3b067, cJ2_getChar_3b067, 2, (some .char), 9, 2, 0, 0) := rfl
theorem mJ6_bitCount_0f7a4 : rMth 181 = some (yJ6_bitCount_0f7a4, cJ6_bitCount_0f7a4, 1, (some .int), 10, 1, 0, 0) := rfl
theorem mJ6_numberOfTrailingZeros_0f7a4 : rMth 182 = some (yJ6_numberOfTrailingZeros_0f7a4, cJ6_numberOfTrailingZeros_0f7a4, 2, (some .int), 10, 1, 0, 0) := rfl
theorem mJ7_fill_d0a16 : rMth 183 = some (yJ7_fill_d0a16, cJ7_fill_d0a16, 5, none, 12, 2, 0, 0) := rfl
theorem mJ3_checkIndex_8e157 : rMth 184 = some (yJ3_checkIndex_8e157, cJ3_checkIndex_8e157, 3, (some .int), 13, 3, 0, 0) := rfl
theorem mX4_readInto : rMth 185 = some (yX4_readInto, cX4_readInto, 3, (some .int), 16, 2, 0, 0) := rfl
theorem mX4_takeItem : rMth 186 = some (yX4_takeItem, cX4_takeItem, 2, (some .boolean), 16, 2, 0, 0) := rfl
theorem mX4_takeWalker : rMth 187 = some (yX4_takeWalker, cX4_takeWalker, 6, (some .boolean), 16, 2, 0, 0) := rfl
theorem mX4_takeKind : rMth 188 = some (yX4_takeKind, cX4_takeKind, 2, (some .int), 16, 1, 0, 0) := rfl
