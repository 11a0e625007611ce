/-! rows of the tables by place -/
theorem mm_I_eq {m pc : Nat} {q : mm_MT} {r : Instr × Nat} (hq : mm_tab[m]? = some q) (h : decode q.2.1 pc = .ok r) : mm_I m pc = some r := by unfold mm_I; rw [hq]; dsimp only; rw [h]
theorem ff0_10 : mm_ft.find? (fun q => q.1 == 0 && q.2.1 == 10) = some (0, 10, 5, 0, false, 435) := by decide +kernel
theorem ff0_19 : mm_ft.find? (fun q => q.1 == 0 && q.2.1 == 19) = some (0, 19, 5, 1, false, 436) := by decide +kernel
theorem ff0_28 : mm_ft.find? (fun q => q.1 == 0 && q.2.1 == 28) = some (0, 28, 5, 2, false, 437) := by decide +kernel
theorem ff0_32 : mm_ft.find? (fun q => q.1 == 0 && q.2.1 == 32) = some (0, 32, 5, 3, false, 438) := by decide +kernel
theorem ff0_35 : mm_ft.find? (fun q => q.1 == 0 && q.2.1 == 35) = some (0, 35, 5, 4, false, 439) := by decide +kernel
theorem ff0_40 : mm_ft.find? (fun q => q.1 == 0 && q.2.1 == 40) = some (0, 40, 5, 5, false, 440) := by decide +kernel
theorem ff0_103 : mm_ft.find? (fun q => q.1 == 0 && q.2.1 == 103) = some (0, 103, 1, 1, true, 128) := by decide +kernel
theorem ff0_110 : mm_ft.find? (fun q => q.1 == 0 && q.2.1 == 110) = some (0, 110, 4, 12, true, 205) := by decide +kernel
theorem ff0_137 : mm_ft.find? (fun q => q.1 == 0 && q.2.1 == 137) = some (0, 137, 4, 2, true, 190) := by decide +kernel
theorem ff0_150 : mm_ft.find? (fun q => q.1 == 0 && q.2.1 == 150) = some (0, 150, 4, 1, true, 188) := by decide +kernel
theorem ff0_156 : mm_ft.find? (fun q => q.1 == 0 && q.2.1 == 156) = some (0, 156, 4, 3, true, 192) := by decide +kernel
theorem ff0_159 : mm_ft.find? (fun q => q.1 == 0 && q.2.1 == 159) = some (0, 159, 4, 13, true, 207) := by decide +kernel
theorem ff0_202 : mm_ft.find? (fun q => q.1 == 0 && q.2.1 == 202) = some (0, 202, 5, 6, false, 441) := by decide +kernel
theorem ff0_206 : mm_ft.find? (fun q => q.1 == 0 && q.2.1 == 206) = some (0, 206, 4, 6, true, 198) := by decide +kernel
theorem ff0_212 : mm_ft.find? (fun q => q.1 == 0 && q.2.1 == 212) = some (0, 212, 0, 1, true, 150) := by decide +kernel
theorem ff0_219 : mm_ft.find? (fun q => q.1 == 0 && q.2.1 == 219) = some (0, 219, 2, 0, true, 245) := by decide +kernel
theorem ff0_222 : mm_ft.find? (fun q => q.1 == 0 && q.2.1 == 222) = some (0, 222, 2, 2, true, 249) := by decide +kernel
theorem ff0_235 : mm_ft.find? (fun q => q.1 == 0 && q.2.1 == 235) = some (0, 235, 4, 4, true, 194) := by decide +kernel
theorem ff0_243 : mm_ft.find? (fun q => q.1 == 0 && q.2.1 == 243) = some (0, 243, 4, 5, true, 196) := by decide +kernel
theorem ff2_9 : mm_ft.find? (fun q => q.1 == 2 && q.2.1 == 9) = some (2, 9, 0, 0, false, 148) := by decide +kernel
theorem ff2_15 : mm_ft.find? (fun q => q.1 == 2 && q.2.1 == 15) = some (2, 15, 0, 7, false, 156) := by decide +kernel
theorem ff2_18 : mm_ft.find? (fun q => q.1 == 2 && q.2.1 == 18) = some (2, 18, 0, 9, false, 158) := by decide +kernel
theorem ff2_21 : mm_ft.find? (fun q => q.1 == 2 && q.2.1 == 21) = some (2, 21, 0, 1, false, 149) := by decide +kernel
theorem ff2_25 : mm_ft.find? (fun q => q.1 == 2 && q.2.1 == 25) = some (2, 25, 0, 4, false, 153) := by decide +kernel
theorem ff2_28 : mm_ft.find? (fun q => q.1 == 2 && q.2.1 == 28) = some (2, 28, 0, 2, false, 151) := by decide +kernel
theorem ff2_31 : mm_ft.find? (fun q => q.1 == 2 && q.2.1 == 31) = some (2, 31, 0, 6, false, 155) := by decide +kernel
theorem ff2_34 : mm_ft.find? (fun q => q.1 == 2 && q.2.1 == 34) = some (2, 34, 0, 8, false, 157) := by decide +kernel
theorem ff2_40 : mm_ft.find? (fun q => q.1 == 2 && q.2.1 == 40) = some (2, 40, 0, 3, false, 152) := by decide +kernel
theorem ff2_86 : mm_ft.find? (fun q => q.1 == 2 && q.2.1 == 86) = some (2, 86, 0, 5, false, 154) := by decide +kernel
theorem ff3_11 : mm_ft.find? (fun q => q.1 == 3 && q.2.1 == 11) = some (3, 11, 1, 0, false, 126) := by decide +kernel
theorem ff3_19 : mm_ft.find? (fun q => q.1 == 3 && q.2.1 == 19) = some (3, 19, 1, 2, false, 130) := by decide +kernel
theorem ff3_23 : mm_ft.find? (fun q => q.1 == 3 && q.2.1 == 23) = some (3, 23, 1, 3, false, 131) := by decide +kernel
theorem ff3_26 : mm_ft.find? (fun q => q.1 == 3 && q.2.1 == 26) = some (3, 26, 1, 1, false, 127) := by decide +kernel
theorem ff3_37 : mm_ft.find? (fun q => q.1 == 3 && q.2.1 == 37) = some (3, 37, 3, 0, true, 416) := by decide +kernel
theorem ff4_9 : mm_ft.find? (fun q => q.1 == 4 && q.2.1 == 9) = some (4, 9, 2, 0, false, 244) := by decide +kernel
theorem ff4_15 : mm_ft.find? (fun q => q.1 == 4 && q.2.1 == 15) = some (4, 15, 2, 2, false, 248) := by decide +kernel
theorem ff4_19 : mm_ft.find? (fun q => q.1 == 4 && q.2.1 == 19) = some (4, 19, 2, 1, false, 246) := by decide +kernel
theorem ff5_9 : mm_ft.find? (fun q => q.1 == 5 && q.2.1 == 9) = some (5, 9, 3, 0, false, 415) := by decide +kernel
theorem ff5_15 : mm_ft.find? (fun q => q.1 == 5 && q.2.1 == 15) = some (5, 15, 3, 1, false, 417) := by decide +kernel
theorem ff5_19 : mm_ft.find? (fun q => q.1 == 5 && q.2.1 == 19) = some (5, 19, 3, 2, false, 418) := by decide +kernel
theorem ff7_9 : mm_ft.find? (fun q => q.1 == 7 && q.2.1 == 9) = some (7, 9, 4, 2, false, 189) := by decide +kernel
theorem ff7_15 : mm_ft.find? (fun q => q.1 == 7 && q.2.1 == 15) = some (7, 15, 4, 4, false, 193) := by decide +kernel
theorem ff7_19 : mm_ft.find? (fun q => q.1 == 7 && q.2.1 == 19) = some (7, 19, 4, 5, false, 195) := by decide +kernel
theorem ff7_22 : mm_ft.find? (fun q => q.1 == 7 && q.2.1 == 22) = some (7, 22, 4, 7, false, 199) := by decide +kernel
theorem ff7_25 : mm_ft.find? (fun q => q.1 == 7 && q.2.1 == 25) = some (7, 25, 4, 8, false, 200) := by decide +kernel
theorem ff7_28 : mm_ft.find? (fun q => q.1 == 7 && q.2.1 == 28) = some (7, 28, 4, 9, false, 201) := by decide +kernel
theorem ff7_31 : mm_ft.find? (fun q => q.1 == 7 && q.2.1 == 31) = some (7, 31, 4, 10, false, 202) := by decide +kernel
theorem ff7_34 : mm_ft.find? (fun q => q.1 == 7 && q.2.1 == 34) = some (7, 34, 4, 11, false, 203) := by decide +kernel
theorem ff7_37 : mm_ft.find? (fun q => q.1 == 7 && q.2.1 == 37) = some (7, 37, 4, 0, false, 186) := by decide +kernel
theorem ff7_41 : mm_ft.find? (fun q => q.1 == 7 && q.2.1 == 41) = some (7, 41, 4, 1, false, 187) := by decide +kernel
theorem ff7_44 : mm_ft.find? (fun q => q.1 == 7 && q.2.1 == 44) = some (7, 44, 4, 3, false, 191) := by decide +kernel
theorem ff7_53 : mm_ft.find? (fun q => q.1 == 7 && q.2.1 == 53) = some (7, 53, 4, 6, false, 197) := by decide +kernel
theorem ff7_56 : mm_ft.find? (fun q => q.1 == 7 && q.2.1 == 56) = some (7, 56, 4, 12, false, 204) := by decide +kernel
theorem ff7_59 : mm_ft.find? (fun q => q.1 == 7 && q.2.1 == 59) = some (7, 59, 4, 13, false, 206) := by decide +kernel
theorem ff7_132 : mm_ft.find? (fun q => q.1 == 7 && q.2.1 == 132) = some (7, 132, 2, 1, true, 247) := by decide +kernel
theorem ff7_137 : mm_ft.find? (fun q => q.1 == 7 && q.2.1 == 137) = some (7, 137, 2, 2, true, 250) := by decide +kernel
theorem ff7_140 : mm_ft.find? (fun q => q.1 == 7 && q.2.1 == 140) = some (7, 140, 1, 1, true, 129) := by decide +kernel
theorem ff8_13 : mm_ft.find? (fun q => q.1 == 8 && q.2.1 == 13) = some (8, 13, 6, 1, false, 808) := by decide +kernel
theorem ff8_17 : mm_ft.find? (fun q => q.1 == 8 && q.2.1 == 17) = some (8, 17, 6, 2, false, 809) := by decide +kernel
theorem ff8_20 : mm_ft.find? (fun q => q.1 == 8 && q.2.1 == 20) = some (8, 20, 6, 5, false, 812) := by decide +kernel
theorem ff8_23 : mm_ft.find? (fun q => q.1 == 8 && q.2.1 == 23) = some (8, 23, 6, 8, false, 815) := by decide +kernel
theorem ff8_26 : mm_ft.find? (fun q => q.1 == 8 && q.2.1 == 26) = some (8, 26, 6, 9, false, 816) := by decide +kernel
theorem ff8_29 : mm_ft.find? (fun q => q.1 == 8 && q.2.1 == 29) = some (8, 29, 6, 10, false, 817) := by decide +kernel
theorem ff8_32 : mm_ft.find? (fun q => q.1 == 8 && q.2.1 == 32) = some (8, 32, 6, 12, false, 819) := by decide +kernel
theorem ff8_35 : mm_ft.find? (fun q => q.1 == 8 && q.2.1 == 35) = some (8, 35, 6, 13, false, 820) := by decide +kernel
theorem ff8_38 : mm_ft.find? (fun q => q.1 == 8 && q.2.1 == 38) = some (8, 38, 6, 14, false, 821) := by decide +kernel
theorem ff8_41 : mm_ft.find? (fun q => q.1 == 8 && q.2.1 == 41) = some (8, 41, 6, 32, false, 839) := by decide +kernel
theorem ff8_44 : mm_ft.find? (fun q => q.1 == 8 && q.2.1 == 44) = some (8, 44, 6, 33, false, 840) := by decide +kernel
theorem ff8_47 : mm_ft.find? (fun q => q.1 == 8 && q.2.1 == 47) = some (8, 47, 6, 34, false, 841) := by decide +kernel
theorem ff8_50 : mm_ft.find? (fun q => q.1 == 8 && q.2.1 == 50) = some (8, 50, 6, 35, false, 842) := by decide +kernel
theorem ff8_53 : mm_ft.find? (fun q => q.1 == 8 && q.2.1 == 53) = some (8, 53, 6, 36, false, 843) := by decide +kernel
theorem ff8_56 : mm_ft.find? (fun q => q.1 == 8 && q.2.1 == 56) = some (8, 56, 6, 37, false, 844) := by decide +kernel
theorem ff8_59 : mm_ft.find? (fun q => q.1 == 8 && q.2.1 == 59) = some (8, 59, 6, 38, false, 845) := by decide +kernel
theorem ff8_62 : mm_ft.find? (fun q => q.1 == 8 && q.2.1 == 62) = some (8, 62, 6, 43, false, 850) := by decide +kernel
theorem ff8_66 : mm_ft.find? (fun q => q.1 == 8 && q.2.1 == 66) = some (8, 66, 6, 44, false, 851) := by decide +kernel
theorem ff8_69 : mm_ft.find? (fun q => q.1 == 8 && q.2.1 == 69) = some (8, 69, 6, 45, false, 852) := by decide +kernel
theorem ff8_72 : mm_ft.find? (fun q => q.1 == 8 && q.2.1 == 72) = some (8, 72, 6, 46, false, 853) := by decide +kernel
theorem ff8_79 : mm_ft.find? (fun q => q.1 == 8 && q.2.1 == 79) = some (8, 79, 6, 3, false, 810) := by decide +kernel
theorem ff8_82 : mm_ft.find? (fun q => q.1 == 8 && q.2.1 == 82) = some (8, 82, 6, 11, false, 818) := by decide +kernel
theorem ff8_89 : mm_ft.find? (fun q => q.1 == 8 && q.2.1 == 89) = some (8, 89, 6, 15, false, 822) := by decide +kernel
theorem ff8_122 : mm_ft.find? (fun q => q.1 == 8 && q.2.1 == 122) = some (8, 122, 6, 7, false, 814) := by decide +kernel
theorem ff8_125 : mm_ft.find? (fun q => q.1 == 8 && q.2.1 == 125) = some (8, 125, 6, 4, false, 811) := by decide +kernel
theorem ff8_149 : mm_ft.find? (fun q => q.1 == 8 && q.2.1 == 149) = some (8, 149, 6, 6, false, 813) := by decide +kernel
theorem ff8_152 : mm_ft.find? (fun q => q.1 == 8 && q.2.1 == 152) = some (8, 152, 6, 23, false, 830) := by decide +kernel
theorem ff8_155 : mm_ft.find? (fun q => q.1 == 8 && q.2.1 == 155) = some (8, 155, 6, 22, false, 829) := by decide +kernel
theorem ff8_158 : mm_ft.find? (fun q => q.1 == 8 && q.2.1 == 158) = some (8, 158, 6, 24, false, 831) := by decide +kernel
theorem ff8_165 : mm_ft.find? (fun q => q.1 == 8 && q.2.1 == 165) = some (8, 165, 6, 26, false, 833) := by decide +kernel
theorem ff8_168 : mm_ft.find? (fun q => q.1 == 8 && q.2.1 == 168) = some (8, 168, 6, 25, false, 832) := by decide +kernel
theorem ff8_179 : mm_ft.find? (fun q => q.1 == 8 && q.2.1 == 179) = some (8, 179, 6, 27, false, 834) := by decide +kernel
theorem ff8_185 : mm_ft.find? (fun q => q.1 == 8 && q.2.1 == 185) = some (8, 185, 6, 29, false, 836) := by decide +kernel
theorem ff8_189 : mm_ft.find? (fun q => q.1 == 8 && q.2.1 == 189) = some (8, 189, 6, 30, false, 837) := by decide +kernel
theorem ff8_195 : mm_ft.find? (fun q => q.1 == 8 && q.2.1 == 195) = some (8, 195, 6, 28, false, 835) := by decide +kernel
theorem ff8_208 : mm_ft.find? (fun q => q.1 == 8 && q.2.1 == 208) = some (8, 208, 6, 16, false, 823) := by decide +kernel
theorem ff8_211 : mm_ft.find? (fun q => q.1 == 8 && q.2.1 == 211) = some (8, 211, 6, 17, false, 824) := by decide +kernel
theorem ff8_214 : mm_ft.find? (fun q => q.1 == 8 && q.2.1 == 214) = some (8, 214, 6, 18, false, 825) := by decide +kernel
theorem ff8_217 : mm_ft.find? (fun q => q.1 == 8 && q.2.1 == 217) = some (8, 217, 6, 19, false, 826) := by decide +kernel
theorem ff8_220 : mm_ft.find? (fun q => q.1 == 8 && q.2.1 == 220) = some (8, 220, 6, 20, false, 827) := by decide +kernel
theorem ff8_223 : mm_ft.find? (fun q => q.1 == 8 && q.2.1 == 223) = some (8, 223, 6, 21, false, 828) := by decide +kernel
theorem ff8_366 : mm_ft.find? (fun q => q.1 == 8 && q.2.1 == 366) = some (8, 366, 6, 31, false, 838) := by decide +kernel
theorem ff8_433 : mm_ft.find? (fun q => q.1 == 8 && q.2.1 == 433) = some (8, 433, 6, 39, false, 846) := by decide +kernel
theorem ff8_436 : mm_ft.find? (fun q => q.1 == 8 && q.2.1 == 436) = some (8, 436, 6, 40, false, 847) := by decide +kernel
theorem ff8_439 : mm_ft.find? (fun q => q.1 == 8 && q.2.1 == 439) = some (8, 439, 6, 41, false, 848) := by decide +kernel
theorem ff8_442 : mm_ft.find? (fun q => q.1 == 8 && q.2.1 == 442) = some (8, 442, 6, 42, false, 849) := by decide +kernel
theorem fc0_9 : mm_ct.find? (fun q => q.1 == 0 && q.2.1 == 9) = some (0, 9, 61, true, 120) := by decide +kernel
theorem fc0_18 : mm_ct.find? (fun q => q.1 == 0 && q.2.1 == 18) = some (0, 18, 41, true, 144) := by decide +kernel
theorem fc0_25 : mm_ct.find? (fun q => q.1 == 0 && q.2.1 == 25) = some (0, 25, 77, false, 182) := by decide +kernel
theorem fc0_44 : mm_ct.find? (fun q => q.1 == 0 && q.2.1 == 44) = some (0, 44, 66, true, 240) := by decide +kernel
theorem fc0_47 : mm_ct.find? (fun q => q.1 == 0 && q.2.1 == 47) = some (0, 47, 215, false, 259) := by decide +kernel
theorem fc0_53 : mm_ct.find? (fun q => q.1 == 0 && q.2.1 == 53) = some (0, 53, 216, false, 269) := by decide +kernel
theorem fc0_57 : mm_ct.find? (fun q => q.1 == 0 && q.2.1 == 57) = some (0, 57, 42, false, 307) := by decide +kernel
theorem fc0_61 : mm_ct.find? (fun q => q.1 == 0 && q.2.1 == 61) = some (0, 61, 45, false, 311) := by decide +kernel
theorem fc0_65 : mm_ct.find? (fun q => q.1 == 0 && q.2.1 == 65) = some (0, 65, 62, false, 427) := by decide +kernel
theorem fc0_68 : mm_ct.find? (fun q => q.1 == 0 && q.2.1 == 68) = some (0, 68, 43, false, 431) := by decide +kernel
theorem fc0_71 : mm_ct.find? (fun q => q.1 == 0 && q.2.1 == 71) = some (0, 71, 84, false, 461) := by decide +kernel
theorem fc0_75 : mm_ct.find? (fun q => q.1 == 0 && q.2.1 == 75) = some (0, 75, 28, false, 473) := by decide +kernel
theorem fc0_78 : mm_ct.find? (fun q => q.1 == 0 && q.2.1 == 78) = some (0, 78, 29, false, 477) := by decide +kernel
theorem fc0_81 : mm_ct.find? (fun q => q.1 == 0 && q.2.1 == 81) = some (0, 81, 85, false, 481) := by decide +kernel
theorem fc0_85 : mm_ct.find? (fun q => q.1 == 0 && q.2.1 == 85) = some (0, 85, 86, false, 549) := by decide +kernel
theorem fc0_89 : mm_ct.find? (fun q => q.1 == 0 && q.2.1 == 89) = some (0, 89, 82, false, 557) := by decide +kernel
theorem fc0_92 : mm_ct.find? (fun q => q.1 == 0 && q.2.1 == 92) = some (0, 92, 30, false, 565) := by decide +kernel
theorem fc0_96 : mm_ct.find? (fun q => q.1 == 0 && q.2.1 == 96) = some (0, 96, 79, false, 568) := by decide +kernel
theorem fc0_99 : mm_ct.find? (fun q => q.1 == 0 && q.2.1 == 99) = some (0, 99, 83, false, 569) := by decide +kernel
theorem fc0_107 : mm_ct.find? (fun q => q.1 == 0 && q.2.1 == 107) = some (0, 107, 44, false, 585) := by decide +kernel
theorem fc0_113 : mm_ct.find? (fun q => q.1 == 0 && q.2.1 == 113) = some (0, 113, 97, false, 597) := by decide +kernel
theorem fc0_116 : mm_ct.find? (fun q => q.1 == 0 && q.2.1 == 116) = some (0, 116, 94, false, 612) := by decide +kernel
theorem fc0_119 : mm_ct.find? (fun q => q.1 == 0 && q.2.1 == 119) = some (0, 119, 100, false, 616) := by decide +kernel
theorem fc0_122 : mm_ct.find? (fun q => q.1 == 0 && q.2.1 == 122) = some (0, 122, 101, false, 628) := by decide +kernel
theorem fc0_126 : mm_ct.find? (fun q => q.1 == 0 && q.2.1 == 126) = some (0, 126, 214, false, 634) := by decide +kernel
theorem fc0_131 : mm_ct.find? (fun q => q.1 == 0 && q.2.1 == 131) = some (0, 131, 95, false, 640) := by decide +kernel
theorem fc0_134 : mm_ct.find? (fun q => q.1 == 0 && q.2.1 == 134) = some (0, 134, 102, false, 644) := by decide +kernel
theorem fc0_140 : mm_ct.find? (fun q => q.1 == 0 && q.2.1 == 140) = some (0, 140, 99, false, 652) := by decide +kernel
theorem fc0_143 : mm_ct.find? (fun q => q.1 == 0 && q.2.1 == 143) = some (0, 143, 96, false, 657) := by decide +kernel
theorem fc0_146 : mm_ct.find? (fun q => q.1 == 0 && q.2.1 == 146) = some (0, 146, 78, false, 661) := by decide +kernel
theorem fc0_153 : mm_ct.find? (fun q => q.1 == 0 && q.2.1 == 153) = some (0, 153, 81, false, 670) := by decide +kernel
theorem fc0_162 : mm_ct.find? (fun q => q.1 == 0 && q.2.1 == 162) = some (0, 162, 31, false, 690) := by decide +kernel
theorem fc0_165 : mm_ct.find? (fun q => q.1 == 0 && q.2.1 == 165) = some (0, 165, 80, false, 693) := by decide +kernel
theorem fc0_168 : mm_ct.find? (fun q => q.1 == 0 && q.2.1 == 168) = some (0, 168, 67, false, 694) := by decide +kernel
theorem fc0_171 : mm_ct.find? (fun q => q.1 == 0 && q.2.1 == 171) = some (0, 171, 103, false, 698) := by decide +kernel
theorem fc0_175 : mm_ct.find? (fun q => q.1 == 0 && q.2.1 == 175) = some (0, 175, 104, false, 702) := by decide +kernel
theorem fc0_179 : mm_ct.find? (fun q => q.1 == 0 && q.2.1 == 179) = some (0, 179, 105, false, 708) := by decide +kernel
theorem fc0_182 : mm_ct.find? (fun q => q.1 == 0 && q.2.1 == 182) = some (0, 182, 106, false, 712) := by decide +kernel
theorem fc0_185 : mm_ct.find? (fun q => q.1 == 0 && q.2.1 == 185) = some (0, 185, 68, false, 720) := by decide +kernel
theorem fc0_188 : mm_ct.find? (fun q => q.1 == 0 && q.2.1 == 188) = some (0, 188, 88, false, 727) := by decide +kernel
theorem fc0_191 : mm_ct.find? (fun q => q.1 == 0 && q.2.1 == 191) = some (0, 191, 70, false, 728) := by decide +kernel
theorem fc0_193 : mm_ct.find? (fun q => q.1 == 0 && q.2.1 == 193) = some (0, 193, 107, false, 740) := by decide +kernel
theorem fc0_199 : mm_ct.find? (fun q => q.1 == 0 && q.2.1 == 199) = some (0, 199, 34, false, 750) := by decide +kernel
theorem fc0_209 : mm_ct.find? (fun q => q.1 == 0 && q.2.1 == 209) = some (0, 209, 87, false, 765) := by decide +kernel
theorem fc0_213 : mm_ct.find? (fun q => q.1 == 0 && q.2.1 == 213) = some (0, 213, 32, false, 770) := by decide +kernel
theorem fc0_216 : mm_ct.find? (fun q => q.1 == 0 && q.2.1 == 216) = some (0, 216, 69, false, 777) := by decide +kernel
theorem fc0_232 : mm_ct.find? (fun q => q.1 == 0 && q.2.1 == 232) = some (0, 232, 2, false, 787) := by decide +kernel
theorem fc0_238 : mm_ct.find? (fun q => q.1 == 0 && q.2.1 == 238) = some (0, 238, 38, false, 792) := by decide +kernel
theorem fc1_9 : mm_ct.find? (fun q => q.1 == 1 && q.2.1 == 9) = some (1, 9, 40, false, 527) := by decide +kernel
theorem fc1_15 : mm_ct.find? (fun q => q.1 == 1 && q.2.1 == 15) = some (1, 15, 33, true, 530) := by decide +kernel
theorem fc1_19 : mm_ct.find? (fun q => q.1 == 1 && q.2.1 == 19) = some (1, 19, 39, false, 795) := by decide +kernel
theorem fc2_37 : mm_ct.find? (fun q => q.1 == 2 && q.2.1 == 37) = some (2, 37, 55, false, 315) := by decide +kernel
theorem fc2_45 : mm_ct.find? (fun q => q.1 == 2 && q.2.1 == 45) = some (2, 45, 46, false, 354) := by decide +kernel
theorem fc2_51 : mm_ct.find? (fun q => q.1 == 2 && q.2.1 == 51) = some (2, 51, 222, false, 395) := by decide +kernel
theorem fc2_57 : mm_ct.find? (fun q => q.1 == 2 && q.2.1 == 57) = some (2, 57, 71, false, 411) := by decide +kernel
theorem fc2_60 : mm_ct.find? (fun q => q.1 == 2 && q.2.1 == 60) = some (2, 60, 47, false, 358) := by decide +kernel
theorem fc2_63 : mm_ct.find? (fun q => q.1 == 2 && q.2.1 == 63) = some (2, 63, 54, false, 385) := by decide +kernel
theorem fc2_67 : mm_ct.find? (fun q => q.1 == 2 && q.2.1 == 67) = some (2, 67, 48, false, 362) := by decide +kernel
theorem fc2_70 : mm_ct.find? (fun q => q.1 == 2 && q.2.1 == 70) = some (2, 70, 49, false, 366) := by decide +kernel
theorem fc2_73 : mm_ct.find? (fun q => q.1 == 2 && q.2.1 == 73) = some (2, 73, 50, false, 370) := by decide +kernel
theorem fc2_76 : mm_ct.find? (fun q => q.1 == 2 && q.2.1 == 76) = some (2, 76, 51, false, 374) := by decide +kernel
theorem fc2_79 : mm_ct.find? (fun q => q.1 == 2 && q.2.1 == 79) = some (2, 79, 52, false, 378) := by decide +kernel
theorem fc2_82 : mm_ct.find? (fun q => q.1 == 2 && q.2.1 == 82) = some (2, 82, 74, false, 382) := by decide +kernel
theorem fc2_89 : mm_ct.find? (fun q => q.1 == 2 && q.2.1 == 89) = some (2, 89, 53, false, 389) := by decide +kernel
theorem fc2_92 : mm_ct.find? (fun q => q.1 == 2 && q.2.1 == 92) = some (2, 92, 59, false, 319) := by decide +kernel
theorem fc2_95 : mm_ct.find? (fun q => q.1 == 2 && q.2.1 == 95) = some (2, 95, 57, false, 322) := by decide +kernel
theorem fc2_98 : mm_ct.find? (fun q => q.1 == 2 && q.2.1 == 98) = some (2, 98, 60, false, 344) := by decide +kernel
theorem fc2_101 : mm_ct.find? (fun q => q.1 == 2 && q.2.1 == 101) = some (2, 101, 56, false, 347) := by decide +kernel
theorem fc2_104 : mm_ct.find? (fun q => q.1 == 2 && q.2.1 == 104) = some (2, 104, 75, false, 351) := by decide +kernel
theorem fc2_109 : mm_ct.find? (fun q => q.1 == 2 && q.2.1 == 109) = some (2, 109, 58, false, 327) := by decide +kernel
theorem fc2_135 : mm_ct.find? (fun q => q.1 == 2 && q.2.1 == 135) = some (2, 135, 215, false, 331) := by decide +kernel
theorem fc2_140 : mm_ct.find? (fun q => q.1 == 2 && q.2.1 == 140) = some (2, 140, 216, false, 332) := by decide +kernel
theorem fc3_30 : mm_ct.find? (fun q => q.1 == 3 && q.2.1 == 30) = some (3, 30, 73, false, 506) := by decide +kernel
theorem fc3_34 : mm_ct.find? (fun q => q.1 == 3 && q.2.1 == 34) = some (3, 34, 72, false, 510) := by decide +kernel
theorem fc3_40 : mm_ct.find? (fun q => q.1 == 3 && q.2.1 == 40) = some (3, 40, 76, false, 514) := by decide +kernel
theorem fc3_43 : mm_ct.find? (fun q => q.1 == 3 && q.2.1 == 43) = some (3, 43, 65, false, 517) := by decide +kernel
theorem fc3_47 : mm_ct.find? (fun q => q.1 == 3 && q.2.1 == 47) = some (3, 47, 33, true, 521) := by decide +kernel
theorem fc4_22 : mm_ct.find? (fun q => q.1 == 4 && q.2.1 == 22) = some (4, 22, 221, false, 724) := by decide +kernel
theorem fc4_28 : mm_ct.find? (fun q => q.1 == 4 && q.2.1 == 28) = some (4, 28, 69, false, 732) := by decide +kernel
theorem fc7_62 : mm_ct.find? (fun q => q.1 == 7 && q.2.1 == 62) = some (7, 62, 79, false, 465) := by decide +kernel
theorem fc7_66 : mm_ct.find? (fun q => q.1 == 7 && q.2.1 == 66) = some (7, 66, 80, false, 469) := by decide +kernel
theorem fc7_69 : mm_ct.find? (fun q => q.1 == 7 && q.2.1 == 69) = some (7, 69, 84, false, 485) := by decide +kernel
theorem fc7_73 : mm_ct.find? (fun q => q.1 == 7 && q.2.1 == 73) = some (7, 73, 88, false, 486) := by decide +kernel
theorem fc7_77 : mm_ct.find? (fun q => q.1 == 7 && q.2.1 == 77) = some (7, 77, 89, false, 531) := by decide +kernel
theorem fc7_80 : mm_ct.find? (fun q => q.1 == 7 && q.2.1 == 80) = some (7, 80, 90, false, 538) := by decide +kernel
theorem fc7_83 : mm_ct.find? (fun q => q.1 == 7 && q.2.1 == 83) = some (7, 83, 91, false, 545) := by decide +kernel
theorem fc7_86 : mm_ct.find? (fun q => q.1 == 7 && q.2.1 == 86) = some (7, 86, 93, false, 490) := by decide +kernel
theorem fc7_90 : mm_ct.find? (fun q => q.1 == 7 && q.2.1 == 90) = some (7, 90, 35, false, 524) := by decide +kernel
theorem fc7_95 : mm_ct.find? (fun q => q.1 == 7 && q.2.1 == 95) = some (7, 95, 36, false, 535) := by decide +kernel
theorem fc7_102 : mm_ct.find? (fun q => q.1 == 7 && q.2.1 == 102) = some (7, 102, 37, false, 605) := by decide +kernel
theorem fc7_104 : mm_ct.find? (fun q => q.1 == 7 && q.2.1 == 104) = some (7, 104, 87, false, 494) := by decide +kernel
theorem fc7_108 : mm_ct.find? (fun q => q.1 == 7 && q.2.1 == 108) = some (7, 108, 63, false, 498) := by decide +kernel
theorem fc7_114 : mm_ct.find? (fun q => q.1 == 7 && q.2.1 == 114) = some (7, 114, 64, false, 502) := by decide +kernel
theorem fc7_117 : mm_ct.find? (fun q => q.1 == 7 && q.2.1 == 117) = some (7, 117, 92, false, 601) := by decide +kernel
theorem fc7_120 : mm_ct.find? (fun q => q.1 == 7 && q.2.1 == 120) = some (7, 120, 98, false, 624) := by decide +kernel
theorem fc7_123 : mm_ct.find? (fun q => q.1 == 7 && q.2.1 == 123) = some (7, 123, 99, false, 620) := by decide +kernel
theorem fc7_126 : mm_ct.find? (fun q => q.1 == 7 && q.2.1 == 126) = some (7, 126, 94, false, 632) := by decide +kernel
theorem fc7_129 : mm_ct.find? (fun q => q.1 == 7 && q.2.1 == 129) = some (7, 129, 100, false, 633) := by decide +kernel
theorem fc7_141 : mm_ct.find? (fun q => q.1 == 7 && q.2.1 == 141) = some (7, 141, 86, false, 706) := by decide +kernel
theorem fc7_145 : mm_ct.find? (fun q => q.1 == 7 && q.2.1 == 145) = some (7, 145, 103, false, 707) := by decide +kernel
theorem fc8_75 : mm_ct.find? (fun q => q.1 == 8 && q.2.1 == 75) = some (8, 75, 111, false, 804) := by decide +kernel
theorem fc8_85 : mm_ct.find? (fun q => q.1 == 8 && q.2.1 == 85) = some (8, 85, 108, false, 955) := by decide +kernel
theorem fc8_92 : mm_ct.find? (fun q => q.1 == 8 && q.2.1 == 92) = some (8, 92, 112, false, 962) := by decide +kernel
theorem fc8_96 : mm_ct.find? (fun q => q.1 == 8 && q.2.1 == 96) = some (8, 96, 113, false, 966) := by decide +kernel
theorem fc8_107 : mm_ct.find? (fun q => q.1 == 8 && q.2.1 == 107) = some (8, 107, 114, false, 958) := by decide +kernel
theorem fc8_111 : mm_ct.find? (fun q => q.1 == 8 && q.2.1 == 111) = some (8, 111, 115, false, 970) := by decide +kernel
theorem fc8_114 : mm_ct.find? (fun q => q.1 == 8 && q.2.1 == 114) = some (8, 114, 120, false, 977) := by decide +kernel
theorem fc8_118 : mm_ct.find? (fun q => q.1 == 8 && q.2.1 == 118) = some (8, 118, 117, false, 1200) := by decide +kernel
theorem fc8_134 : mm_ct.find? (fun q => q.1 == 8 && q.2.1 == 134) = some (8, 134, 172, false, 982) := by decide +kernel
theorem fc8_138 : mm_ct.find? (fun q => q.1 == 8 && q.2.1 == 138) = some (8, 138, 173, false, 1188) := by decide +kernel
theorem fc8_141 : mm_ct.find? (fun q => q.1 == 8 && q.2.1 == 141) = some (8, 141, 175, false, 1192) := by decide +kernel
theorem fc8_144 : mm_ct.find? (fun q => q.1 == 8 && q.2.1 == 144) = some (8, 144, 176, false, 1196) := by decide +kernel
theorem fc8_161 : mm_ct.find? (fun q => q.1 == 8 && q.2.1 == 161) = some (8, 161, 122, false, 1002) := by decide +kernel
theorem fc8_192 : mm_ct.find? (fun q => q.1 == 8 && q.2.1 == 192) = some (8, 192, 125, false, 1015) := by decide +kernel
theorem fc8_198 : mm_ct.find? (fun q => q.1 == 8 && q.2.1 == 198) = some (8, 198, 124, false, 1023) := by decide +kernel
theorem fc8_201 : mm_ct.find? (fun q => q.1 == 8 && q.2.1 == 201) = some (8, 201, 123, false, 998) := by decide +kernel
theorem fc8_204 : mm_ct.find? (fun q => q.1 == 8 && q.2.1 == 204) = some (8, 204, 126, false, 1011) := by decide +kernel
theorem fc8_226 : mm_ct.find? (fun q => q.1 == 8 && q.2.1 == 226) = some (8, 226, 127, false, 1075) := by decide +kernel
theorem fc8_229 : mm_ct.find? (fun q => q.1 == 8 && q.2.1 == 229) = some (8, 229, 128, false, 1039) := by decide +kernel
theorem fc8_233 : mm_ct.find? (fun q => q.1 == 8 && q.2.1 == 233) = some (8, 233, 129, false, 1079) := by decide +kernel
theorem fc8_237 : mm_ct.find? (fun q => q.1 == 8 && q.2.1 == 237) = some (8, 237, 130, false, 1071) := by decide +kernel
theorem fc8_240 : mm_ct.find? (fun q => q.1 == 8 && q.2.1 == 240) = some (8, 240, 131, false, 1067) := by decide +kernel
theorem fc8_245 : mm_ct.find? (fun q => q.1 == 8 && q.2.1 == 245) = some (8, 245, 132, false, 1063) := by decide +kernel
theorem fc8_250 : mm_ct.find? (fun q => q.1 == 8 && q.2.1 == 250) = some (8, 250, 133, false, 1059) := by decide +kernel
theorem fc8_253 : mm_ct.find? (fun q => q.1 == 8 && q.2.1 == 253) = some (8, 253, 134, false, 1101) := by decide +kernel
theorem fc8_256 : mm_ct.find? (fun q => q.1 == 8 && q.2.1 == 256) = some (8, 256, 135, false, 1097) := by decide +kernel
theorem fc8_259 : mm_ct.find? (fun q => q.1 == 8 && q.2.1 == 259) = some (8, 259, 136, false, 1093) := by decide +kernel
theorem fc8_262 : mm_ct.find? (fun q => q.1 == 8 && q.2.1 == 262) = some (8, 262, 137, false, 1089) := by decide +kernel
theorem fc8_265 : mm_ct.find? (fun q => q.1 == 8 && q.2.1 == 265) = some (8, 265, 138, false, 1085) := by decide +kernel
theorem fc8_268 : mm_ct.find? (fun q => q.1 == 8 && q.2.1 == 268) = some (8, 268, 139, false, 1055) := by decide +kernel
theorem fc8_271 : mm_ct.find? (fun q => q.1 == 8 && q.2.1 == 271) = some (8, 271, 140, false, 1121) := by decide +kernel
theorem fc8_274 : mm_ct.find? (fun q => q.1 == 8 && q.2.1 == 274) = some (8, 274, 141, false, 1117) := by decide +kernel
theorem fc8_277 : mm_ct.find? (fun q => q.1 == 8 && q.2.1 == 277) = some (8, 277, 142, false, 1113) := by decide +kernel
theorem fc8_280 : mm_ct.find? (fun q => q.1 == 8 && q.2.1 == 280) = some (8, 280, 143, false, 1109) := by decide +kernel
theorem fc8_283 : mm_ct.find? (fun q => q.1 == 8 && q.2.1 == 283) = some (8, 283, 144, false, 1105) := by decide +kernel
theorem fc8_286 : mm_ct.find? (fun q => q.1 == 8 && q.2.1 == 286) = some (8, 286, 145, false, 1051) := by decide +kernel
theorem fc8_289 : mm_ct.find? (fun q => q.1 == 8 && q.2.1 == 289) = some (8, 289, 146, false, 1141) := by decide +kernel
theorem fc8_292 : mm_ct.find? (fun q => q.1 == 8 && q.2.1 == 292) = some (8, 292, 147, false, 1137) := by decide +kernel
theorem fc8_295 : mm_ct.find? (fun q => q.1 == 8 && q.2.1 == 295) = some (8, 295, 148, false, 1133) := by decide +kernel
theorem fc8_298 : mm_ct.find? (fun q => q.1 == 8 && q.2.1 == 298) = some (8, 298, 149, false, 1129) := by decide +kernel
theorem fc8_301 : mm_ct.find? (fun q => q.1 == 8 && q.2.1 == 301) = some (8, 301, 150, false, 1125) := by decide +kernel
theorem fc8_304 : mm_ct.find? (fun q => q.1 == 8 && q.2.1 == 304) = some (8, 304, 151, false, 1047) := by decide +kernel
theorem fc8_307 : mm_ct.find? (fun q => q.1 == 8 && q.2.1 == 307) = some (8, 307, 152, false, 1161) := by decide +kernel
theorem fc8_310 : mm_ct.find? (fun q => q.1 == 8 && q.2.1 == 310) = some (8, 310, 153, false, 1157) := by decide +kernel
theorem fc8_313 : mm_ct.find? (fun q => q.1 == 8 && q.2.1 == 313) = some (8, 313, 154, false, 1153) := by decide +kernel
theorem fc8_316 : mm_ct.find? (fun q => q.1 == 8 && q.2.1 == 316) = some (8, 316, 155, false, 1149) := by decide +kernel
theorem fc8_319 : mm_ct.find? (fun q => q.1 == 8 && q.2.1 == 319) = some (8, 319, 156, false, 1145) := by decide +kernel
theorem fc8_322 : mm_ct.find? (fun q => q.1 == 8 && q.2.1 == 322) = some (8, 322, 157, false, 1043) := by decide +kernel
theorem fc8_325 : mm_ct.find? (fun q => q.1 == 8 && q.2.1 == 325) = some (8, 325, 158, false, 1181) := by decide +kernel
theorem fc8_328 : mm_ct.find? (fun q => q.1 == 8 && q.2.1 == 328) = some (8, 328, 159, false, 1177) := by decide +kernel
theorem fc8_331 : mm_ct.find? (fun q => q.1 == 8 && q.2.1 == 331) = some (8, 331, 160, false, 1173) := by decide +kernel
theorem fc8_334 : mm_ct.find? (fun q => q.1 == 8 && q.2.1 == 334) = some (8, 334, 161, false, 1169) := by decide +kernel
theorem fc8_337 : mm_ct.find? (fun q => q.1 == 8 && q.2.1 == 337) = some (8, 337, 162, false, 1165) := by decide +kernel
theorem fc8_340 : mm_ct.find? (fun q => q.1 == 8 && q.2.1 == 340) = some (8, 340, 163, false, 1035) := by decide +kernel
theorem fc8_343 : mm_ct.find? (fun q => q.1 == 8 && q.2.1 == 343) = some (8, 343, 164, false, 1031) := by decide +kernel
theorem fc8_346 : mm_ct.find? (fun q => q.1 == 8 && q.2.1 == 346) = some (8, 346, 165, false, 1027) := by decide +kernel
theorem fc8_349 : mm_ct.find? (fun q => q.1 == 8 && q.2.1 == 349) = some (8, 349, 166, false, 1019) := by decide +kernel
theorem fc8_353 : mm_ct.find? (fun q => q.1 == 8 && q.2.1 == 353) = some (8, 353, 167, false, 994) := by decide +kernel
theorem fc8_356 : mm_ct.find? (fun q => q.1 == 8 && q.2.1 == 356) = some (8, 356, 170, false, 990) := by decide +kernel
theorem fc8_359 : mm_ct.find? (fun q => q.1 == 8 && q.2.1 == 359) = some (8, 359, 109, false, 1185) := by decide +kernel
theorem fc8_362 : mm_ct.find? (fun q => q.1 == 8 && q.2.1 == 362) = some (8, 362, 171, false, 986) := by decide +kernel
theorem fc8_369 : mm_ct.find? (fun q => q.1 == 8 && q.2.1 == 369) = some (8, 369, 180, false, 1256) := by decide +kernel
theorem fc8_372 : mm_ct.find? (fun q => q.1 == 8 && q.2.1 == 372) = some (8, 372, 177, false, 1248) := by decide +kernel
theorem fc8_375 : mm_ct.find? (fun q => q.1 == 8 && q.2.1 == 375) = some (8, 375, 181, false, 1252) := by decide +kernel
theorem fc8_378 : mm_ct.find? (fun q => q.1 == 8 && q.2.1 == 378) = some (8, 378, 174, false, 1236) := by decide +kernel
theorem fc8_381 : mm_ct.find? (fun q => q.1 == 8 && q.2.1 == 381) = some (8, 381, 183, false, 1232) := by decide +kernel
theorem fc8_384 : mm_ct.find? (fun q => q.1 == 8 && q.2.1 == 384) = some (8, 384, 182, false, 1244) := by decide +kernel
theorem fc8_387 : mm_ct.find? (fun q => q.1 == 8 && q.2.1 == 387) = some (8, 387, 179, false, 1260) := by decide +kernel
theorem fc8_390 : mm_ct.find? (fun q => q.1 == 8 && q.2.1 == 390) = some (8, 390, 178, false, 1263) := by decide +kernel
theorem fc8_393 : mm_ct.find? (fun q => q.1 == 8 && q.2.1 == 393) = some (8, 393, 185, false, 1267) := by decide +kernel
theorem fc8_396 : mm_ct.find? (fun q => q.1 == 8 && q.2.1 == 396) = some (8, 396, 189, false, 1287) := by decide +kernel
theorem fc8_399 : mm_ct.find? (fun q => q.1 == 8 && q.2.1 == 399) = some (8, 399, 190, false, 1291) := by decide +kernel
theorem fc8_402 : mm_ct.find? (fun q => q.1 == 8 && q.2.1 == 402) = some (8, 402, 191, false, 1283) := by decide +kernel
theorem fc8_405 : mm_ct.find? (fun q => q.1 == 8 && q.2.1 == 405) = some (8, 405, 193, false, 1299) := by decide +kernel
theorem fc8_408 : mm_ct.find? (fun q => q.1 == 8 && q.2.1 == 408) = some (8, 408, 207, false, 1315) := by decide +kernel
theorem fc8_413 : mm_ct.find? (fun q => q.1 == 8 && q.2.1 == 413) = some (8, 413, 197, false, 1320) := by decide +kernel
theorem fc8_418 : mm_ct.find? (fun q => q.1 == 8 && q.2.1 == 418) = some (8, 418, 208, false, 1329) := by decide +kernel
theorem fc8_422 : mm_ct.find? (fun q => q.1 == 8 && q.2.1 == 422) = some (8, 422, 200, false, 1339) := by decide +kernel
theorem fc8_426 : mm_ct.find? (fun q => q.1 == 8 && q.2.1 == 426) = some (8, 426, 201, false, 1344) := by decide +kernel
theorem fc8_451 : mm_ct.find? (fun q => q.1 == 8 && q.2.1 == 451) = some (8, 451, 118, false, 1379) := by decide +kernel
theorem fc8_454 : mm_ct.find? (fun q => q.1 == 8 && q.2.1 == 454) = some (8, 454, 212, false, 1384) := by decide +kernel
theorem fc9_9 : mm_ct.find? (fun q => q.1 == 9 && q.2.1 == 9) = some (9, 9, 0, false, 112) := by decide +kernel
theorem fc9_12 : mm_ct.find? (fun q => q.1 == 9 && q.2.1 == 12) = some (9, 12, 110, false, 800) := by decide +kernel
theorem fc9_13 : mm_ct.find? (fun q => q.1 == 9 && q.2.1 == 13) = some (9, 13, 1, false, 457) := by decide +kernel
theorem fc9_17 : mm_ct.find? (fun q => q.1 == 9 && q.2.1 == 17) = some (9, 17, 116, false, 950) := by decide +kernel
theorem fc9_18 : mm_ct.find? (fun q => q.1 == 9 && q.2.1 == 18) = some (9, 18, 2, false, 553) := by decide +kernel
theorem fc9_22 : mm_ct.find? (fun q => q.1 == 9 && q.2.1 == 22) = some (9, 22, 118, false, 1204) := by decide +kernel
theorem fc9_23 : mm_ct.find? (fun q => q.1 == 9 && q.2.1 == 23) = some (9, 23, 3, false, 561) := by decide +kernel
theorem fc9_26 : mm_ct.find? (fun q => q.1 == 9 && q.2.1 == 26) = some (9, 26, 119, false, 1208) := by decide +kernel
theorem fc9_27 : mm_ct.find? (fun q => q.1 == 9 && q.2.1 == 27) = some (9, 27, 4, false, 573) := by decide +kernel
theorem fc9_30 : mm_ct.find? (fun q => q.1 == 9 && q.2.1 == 30) = some (9, 30, 120, false, 1214) := by decide +kernel
theorem fc9_31 : mm_ct.find? (fun q => q.1 == 9 && q.2.1 == 31) = some (9, 31, 5, false, 577) := by decide +kernel
theorem fc9_35 : mm_ct.find? (fun q => q.1 == 9 && q.2.1 == 35) = some (9, 35, 121, false, 1215) := by decide +kernel
theorem fc9_36 : mm_ct.find? (fun q => q.1 == 9 && q.2.1 == 36) = some (9, 36, 6, false, 581) := by decide +kernel
theorem fc9_40 : mm_ct.find? (fun q => q.1 == 9 && q.2.1 == 40) = some (9, 40, 168, false, 1220) := by decide +kernel
theorem fc9_41 : mm_ct.find? (fun q => q.1 == 9 && q.2.1 == 41) = some (9, 41, 7, false, 589) := by decide +kernel
theorem fc9_44 : mm_ct.find? (fun q => q.1 == 9 && q.2.1 == 44) = some (9, 44, 169, false, 1224) := by decide +kernel
theorem fc9_45 : mm_ct.find? (fun q => q.1 == 9 && q.2.1 == 45) = some (9, 45, 8, false, 593) := by decide +kernel
theorem fc9_48 : mm_ct.find? (fun q => q.1 == 9 && q.2.1 == 48) = some (9, 48, 184, false, 1228) := by decide +kernel
theorem fc9_49 : mm_ct.find? (fun q => q.1 == 9 && q.2.1 == 49) = some (9, 49, 9, false, 608) := by decide +kernel
theorem fc9_52 : mm_ct.find? (fun q => q.1 == 9 && q.2.1 == 52) = some (9, 52, 186, false, 1240) := by decide +kernel
theorem fc9_53 : mm_ct.find? (fun q => q.1 == 9 && q.2.1 == 53) = some (9, 53, 10, false, 648) := by decide +kernel
theorem fc9_56 : mm_ct.find? (fun q => q.1 == 9 && q.2.1 == 56) = some (9, 56, 187, false, 1271) := by decide +kernel
theorem fc9_57 : mm_ct.find? (fun q => q.1 == 9 && q.2.1 == 57) = some (9, 57, 11, false, 653) := by decide +kernel
theorem fc9_60 : mm_ct.find? (fun q => q.1 == 9 && q.2.1 == 60) = some (9, 60, 188, false, 1275) := by decide +kernel
theorem fc9_61 : mm_ct.find? (fun q => q.1 == 9 && q.2.1 == 61) = some (9, 61, 12, false, 666) := by decide +kernel
theorem fc9_64 : mm_ct.find? (fun q => q.1 == 9 && q.2.1 == 64) = some (9, 64, 192, false, 1279) := by decide +kernel
theorem fc9_65 : mm_ct.find? (fun q => q.1 == 9 && q.2.1 == 65) = some (9, 65, 13, false, 674) := by decide +kernel
theorem fc9_68 : mm_ct.find? (fun q => q.1 == 9 && q.2.1 == 68) = some (9, 68, 194, false, 1295) := by decide +kernel
theorem fc9_69 : mm_ct.find? (fun q => q.1 == 9 && q.2.1 == 69) = some (9, 69, 14, false, 678) := by decide +kernel
theorem fc9_72 : mm_ct.find? (fun q => q.1 == 9 && q.2.1 == 72) = some (9, 72, 195, false, 1303) := by decide +kernel
theorem fc9_73 : mm_ct.find? (fun q => q.1 == 9 && q.2.1 == 73) = some (9, 73, 15, false, 682) := by decide +kernel
theorem fc9_76 : mm_ct.find? (fun q => q.1 == 9 && q.2.1 == 76) = some (9, 76, 196, false, 1307) := by decide +kernel
theorem fc9_77 : mm_ct.find? (fun q => q.1 == 9 && q.2.1 == 77) = some (9, 77, 16, false, 686) := by decide +kernel
theorem fc9_81 : mm_ct.find? (fun q => q.1 == 9 && q.2.1 == 81) = some (9, 81, 198, false, 1311) := by decide +kernel
theorem fc9_82 : mm_ct.find? (fun q => q.1 == 9 && q.2.1 == 82) = some (9, 82, 17, false, 716) := by decide +kernel
theorem fc9_85 : mm_ct.find? (fun q => q.1 == 9 && q.2.1 == 85) = some (9, 85, 199, false, 1324) := by decide +kernel
theorem fc9_86 : mm_ct.find? (fun q => q.1 == 9 && q.2.1 == 86) = some (9, 86, 18, false, 736) := by decide +kernel
theorem fc9_89 : mm_ct.find? (fun q => q.1 == 9 && q.2.1 == 89) = some (9, 89, 202, false, 1335) := by decide +kernel
theorem fc9_90 : mm_ct.find? (fun q => q.1 == 9 && q.2.1 == 90) = some (9, 90, 19, false, 745) := by decide +kernel
theorem fc9_94 : mm_ct.find? (fun q => q.1 == 9 && q.2.1 == 94) = some (9, 94, 203, false, 1348) := by decide +kernel
theorem fc9_95 : mm_ct.find? (fun q => q.1 == 9 && q.2.1 == 95) = some (9, 95, 20, false, 753) := by decide +kernel
theorem fc9_98 : mm_ct.find? (fun q => q.1 == 9 && q.2.1 == 98) = some (9, 98, 204, false, 1354) := by decide +kernel
theorem fc9_99 : mm_ct.find? (fun q => q.1 == 9 && q.2.1 == 99) = some (9, 99, 21, false, 757) := by decide +kernel
theorem fc9_102 : mm_ct.find? (fun q => q.1 == 9 && q.2.1 == 102) = some (9, 102, 205, false, 1358) := by decide +kernel
theorem fc9_103 : mm_ct.find? (fun q => q.1 == 9 && q.2.1 == 103) = some (9, 103, 22, false, 761) := by decide +kernel
theorem fc9_106 : mm_ct.find? (fun q => q.1 == 9 && q.2.1 == 106) = some (9, 106, 206, false, 1362) := by decide +kernel
theorem fc9_107 : mm_ct.find? (fun q => q.1 == 9 && q.2.1 == 107) = some (9, 107, 23, false, 766) := by decide +kernel
theorem fc9_110 : mm_ct.find? (fun q => q.1 == 9 && q.2.1 == 110) = some (9, 110, 208, false, 1366) := by decide +kernel
theorem fc9_111 : mm_ct.find? (fun q => q.1 == 9 && q.2.1 == 111) = some (9, 111, 24, false, 773) := by decide +kernel
theorem fc9_114 : mm_ct.find? (fun q => q.1 == 9 && q.2.1 == 114) = some (9, 114, 209, false, 1367) := by decide +kernel
theorem fc9_115 : mm_ct.find? (fun q => q.1 == 9 && q.2.1 == 115) = some (9, 115, 25, false, 778) := by decide +kernel
theorem fc9_119 : mm_ct.find? (fun q => q.1 == 9 && q.2.1 == 119) = some (9, 119, 210, false, 1371) := by decide +kernel
theorem fc9_120 : mm_ct.find? (fun q => q.1 == 9 && q.2.1 == 120) = some (9, 120, 26, false, 783) := by decide +kernel
theorem fc9_123 : mm_ct.find? (fun q => q.1 == 9 && q.2.1 == 123) = some (9, 123, 211, false, 1375) := by decide +kernel
theorem fc9_124 : mm_ct.find? (fun q => q.1 == 9 && q.2.1 == 124) = some (9, 124, 27, false, 788) := by decide +kernel
theorem fc9_127 : mm_ct.find? (fun q => q.1 == 9 && q.2.1 == 127) = some (9, 127, 213, false, 1380) := by decide +kernel
theorem fc12_335 : mm_ct.find? (fun q => q.1 == 12 && q.2.1 == 335) = some (12, 335, 217, false, 263) := by decide +kernel
theorem fc12_492 : mm_ct.find? (fun q => q.1 == 12 && q.2.1 == 492) = some (12, 492, 218, false, 273) := by decide +kernel
theorem fc12_495 : mm_ct.find? (fun q => q.1 == 12 && q.2.1 == 495) = some (12, 495, 220, false, 277) := by decide +kernel
theorem fc12_1059 : mm_ct.find? (fun q => q.1 == 12 && q.2.1 == 1059) = some (12, 1059, 223, false, 285) := by decide +kernel
theorem fc13_9 : mm_ct.find? (fun q => q.1 == 13 && q.2.1 == 9) = some (13, 9, 219, false, 280) := by decide +kernel
theorem fv0_1 : mm_nt.find? (fun q => q.1 == 0 && q.2.1 == 1) = some (0, 1, 0, 115) := by decide +kernel
theorem fx0_1 : mm_ct.find? (fun q => q.1 == 0 && q.2.1 == 1) = none := by decide +kernel
theorem fv0_226 : mm_nt.find? (fun q => q.1 == 0 && q.2.1 == 226) = some (0, 226, 1, 782) := by decide +kernel
theorem fx0_226 : mm_ct.find? (fun q => q.1 == 0 && q.2.1 == 226) = none := by decide +kernel
theorem fv2_3 : mm_nt.find? (fun q => q.1 == 2 && q.2.1 == 3) = some (2, 3, 0, 147) := by decide +kernel
theorem fx2_3 : mm_ct.find? (fun q => q.1 == 2 && q.2.1 == 3) = none := by decide +kernel
theorem fv3_3 : mm_nt.find? (fun q => q.1 == 3 && q.2.1 == 3) = some (3, 3, 0, 123) := by decide +kernel
theorem fx3_3 : mm_ct.find? (fun q => q.1 == 3 && q.2.1 == 3) = none := by decide +kernel
theorem fv4_3 : mm_nt.find? (fun q => q.1 == 4 && q.2.1 == 3) = some (4, 3, 0, 243) := by decide +kernel
theorem fx4_3 : mm_ct.find? (fun q => q.1 == 4 && q.2.1 == 3) = none := by decide +kernel
theorem fv5_3 : mm_nt.find? (fun q => q.1 == 5 && q.2.1 == 3) = some (5, 3, 0, 414) := by decide +kernel
theorem fx5_3 : mm_ct.find? (fun q => q.1 == 5 && q.2.1 == 3) = none := by decide +kernel
theorem fv7_3 : mm_nt.find? (fun q => q.1 == 7 && q.2.1 == 3) = some (7, 3, 0, 185) := by decide +kernel
theorem fx7_3 : mm_ct.find? (fun q => q.1 == 7 && q.2.1 == 3) = none := by decide +kernel
theorem fv7_47 : mm_nt.find? (fun q => q.1 == 7 && q.2.1 == 47) = some (7, 47, 1, 665) := by decide +kernel
theorem fx7_47 : mm_ct.find? (fun q => q.1 == 7 && q.2.1 == 47) = none := by decide +kernel
theorem fv7_97 : mm_nt.find? (fun q => q.1 == 7 && q.2.1 == 97) = some (7, 97, 2, 542) := by decide +kernel
theorem fx7_97 : mm_ct.find? (fun q => q.1 == 7 && q.2.1 == 97) = none := by decide +kernel
theorem fv8_7 : mm_nt.find? (fun q => q.1 == 8 && q.2.1 == 7) = some (8, 7, 0, 803) := by decide +kernel
theorem fx8_7 : mm_ct.find? (fun q => q.1 == 8 && q.2.1 == 7) = none := by decide +kernel
theorem fv14_150 : mm_nt.find? (fun q => q.1 == 14 && q.2.1 == 150) = some (14, 150, 1, 408) := by decide +kernel
theorem fx14_150 : mm_ct.find? (fun q => q.1 == 14 && q.2.1 == 150) = none := by decide +kernel
theorem fv14_304 : mm_nt.find? (fun q => q.1 == 14 && q.2.1 == 304) = some (14, 304, 3, 405) := by decide +kernel
theorem fx14_304 : mm_ct.find? (fun q => q.1 == 14 && q.2.1 == 304) = none := by decide +kernel
theorem fk7_149 : mm_kt.find? (fun q => q.1 == 7 && q.2.1 == 149) = some (7, 149, 1103515245, 744) := by decide +kernel
theorem fk8_421 : mm_kt.find? (fun q => q.1 == 8 && q.2.1 == 421) = some (8, 421, 1103515245, 1343) := by decide +kernel
theorem fk10_265 : mm_kt.find? (fun q => q.1 == 10 && q.2.1 == 265) = some (10, 265, 1431655765, 637) := by decide +kernel
theorem fk10_266 : mm_kt.find? (fun q => q.1 == 10 && q.2.1 == 266) = some (10, 266, 858993459, 638) := by decide +kernel
theorem fk10_267 : mm_kt.find? (fun q => q.1 == 10 && q.2.1 == 267) = some (10, 267, 252645135, 639) := by decide +kernel
theorem fl0_197 : mm_lt.find? (fun q => q.1 == 0 && q.2.1 == 197) = some (0, 197, -4611686018427387904, 749) := by decide +kernel
theorem fl8_99 : mm_lt.find? (fun q => q.1 == 8 && q.2.1 == 99) = some (8, 99, 99, 974) := by decide +kernel
theorem fl8_101 : mm_lt.find? (fun q => q.1 == 8 && q.2.1 == 101) = some (8, 101, 8, 975) := by decide +kernel
theorem fl8_103 : mm_lt.find? (fun q => q.1 == 8 && q.2.1 == 103) = some (8, 103, 9, 976) := by decide +kernel
theorem fl8_105 : mm_lt.find? (fun q => q.1 == 8 && q.2.1 == 105) = some (8, 105, 5, 954) := by decide +kernel
theorem fl8_128 : mm_lt.find? (fun q => q.1 == 8 && q.2.1 == 128) = some (8, 128, 77, 1212) := by decide +kernel
theorem fl8_130 : mm_lt.find? (fun q => q.1 == 8 && q.2.1 == 130) = some (8, 130, 999, 1213) := by decide +kernel
theorem fl8_132 : mm_lt.find? (fun q => q.1 == 8 && q.2.1 == 132) = some (8, 132, 12, 981) := by decide +kernel
theorem fl8_147 : mm_lt.find? (fun q => q.1 == 8 && q.2.1 == 147) = some (8, 147, 255, 1219) := by decide +kernel
theorem fl8_171 : mm_lt.find? (fun q => q.1 == 8 && q.2.1 == 171) = some (8, 171, 97, 1006) := by decide +kernel
theorem fl8_173 : mm_lt.find? (fun q => q.1 == 8 && q.2.1 == 173) = some (8, 173, 122, 1007) := by decide +kernel
theorem fl8_175 : mm_lt.find? (fun q => q.1 == 8 && q.2.1 == 175) = some (8, 175, 48, 1008) := by decide +kernel
theorem fl8_177 : mm_lt.find? (fun q => q.1 == 8 && q.2.1 == 177) = some (8, 177, 57, 1009) := by decide +kernel
theorem fl8_183 : mm_lt.find? (fun q => q.1 == 8 && q.2.1 == 183) = some (8, 183, 10, 1010) := by decide +kernel
theorem fl8_243 : mm_lt.find? (fun q => q.1 == 8 && q.2.1 == 243) = some (8, 243, 43, 1083) := by decide +kernel
theorem fl8_248 : mm_lt.find? (fun q => q.1 == 8 && q.2.1 == 248) = some (8, 248, 60, 1084) := by decide +kernel
theorem fl8_411 : mm_lt.find? (fun q => q.1 == 8 && q.2.1 == 411) = some (8, 411, 6, 1319) := by decide +kernel
theorem fl8_416 : mm_lt.find? (fun q => q.1 == 8 && q.2.1 == 416) = some (8, 416, 40, 1328) := by decide +kernel
theorem fl8_429 : mm_lt.find? (fun q => q.1 == 8 && q.2.1 == 429) = some (8, 429, 20, 1352) := by decide +kernel
theorem fl8_431 : mm_lt.find? (fun q => q.1 == 8 && q.2.1 == 431) = some (8, 431, -4611686018427387904, 1353) := by decide +kernel
theorem fl8_445 : mm_lt.find? (fun q => q.1 == 8 && q.2.1 == 445) = some (8, 445, 3, 1318) := by decide +kernel
theorem fl8_447 : mm_lt.find? (fun q => q.1 == 8 && q.2.1 == 447) = some (8, 447, -1, 1333) := by decide +kernel
theorem fl8_449 : mm_lt.find? (fun q => q.1 == 8 && q.2.1 == 449) = some (8, 449, 2, 1334) := by decide +kernel
theorem fs0_45 : mm_st.find? (fun q => q.1 == 0 && q.2.1 == 45) = some (0, 45, 0, 258) := by decide +kernel
theorem fn0_45 : mm_kt.find? (fun q => q.1 == 0 && q.2.1 == 45) = none := by decide +kernel
theorem fs2_107 : mm_st.find? (fun q => q.1 == 2 && q.2.1 == 107) = some (2, 107, 1, 326) := by decide +kernel
theorem fn2_107 : mm_kt.find? (fun q => q.1 == 2 && q.2.1 == 107) = none := by decide +kernel
theorem fs2_113 : mm_st.find? (fun q => q.1 == 2 && q.2.1 == 113) = some (2, 113, 2, 333) := by decide +kernel
theorem fn2_113 : mm_kt.find? (fun q => q.1 == 2 && q.2.1 == 113) = none := by decide +kernel
theorem fs2_115 : mm_st.find? (fun q => q.1 == 2 && q.2.1 == 115) = some (2, 115, 3, 334) := by decide +kernel
theorem fn2_115 : mm_kt.find? (fun q => q.1 == 2 && q.2.1 == 115) = none := by decide +kernel
theorem fs2_117 : mm_st.find? (fun q => q.1 == 2 && q.2.1 == 117) = some (2, 117, 4, 335) := by decide +kernel
theorem fn2_117 : mm_kt.find? (fun q => q.1 == 2 && q.2.1 == 117) = none := by decide +kernel
theorem fs2_119 : mm_st.find? (fun q => q.1 == 2 && q.2.1 == 119) = some (2, 119, 5, 336) := by decide +kernel
theorem fn2_119 : mm_kt.find? (fun q => q.1 == 2 && q.2.1 == 119) = none := by decide +kernel
theorem fs2_121 : mm_st.find? (fun q => q.1 == 2 && q.2.1 == 121) = some (2, 121, 6, 337) := by decide +kernel
theorem fn2_121 : mm_kt.find? (fun q => q.1 == 2 && q.2.1 == 121) = none := by decide +kernel
theorem fs2_123 : mm_st.find? (fun q => q.1 == 2 && q.2.1 == 123) = some (2, 123, 7, 338) := by decide +kernel
theorem fn2_123 : mm_kt.find? (fun q => q.1 == 2 && q.2.1 == 123) = none := by decide +kernel
theorem fs2_125 : mm_st.find? (fun q => q.1 == 2 && q.2.1 == 125) = some (2, 125, 8, 339) := by decide +kernel
theorem fn2_125 : mm_kt.find? (fun q => q.1 == 2 && q.2.1 == 125) = none := by decide +kernel
theorem fs2_127 : mm_st.find? (fun q => q.1 == 2 && q.2.1 == 127) = some (2, 127, 9, 340) := by decide +kernel
theorem fn2_127 : mm_kt.find? (fun q => q.1 == 2 && q.2.1 == 127) = none := by decide +kernel
theorem fs2_129 : mm_st.find? (fun q => q.1 == 2 && q.2.1 == 129) = some (2, 129, 10, 341) := by decide +kernel
theorem fn2_129 : mm_kt.find? (fun q => q.1 == 2 && q.2.1 == 129) = none := by decide +kernel
theorem fs2_131 : mm_st.find? (fun q => q.1 == 2 && q.2.1 == 131) = some (2, 131, 11, 342) := by decide +kernel
theorem fn2_131 : mm_kt.find? (fun q => q.1 == 2 && q.2.1 == 131) = none := by decide +kernel
theorem fs2_133 : mm_st.find? (fun q => q.1 == 2 && q.2.1 == 133) = some (2, 133, 12, 343) := by decide +kernel
theorem fn2_133 : mm_kt.find? (fun q => q.1 == 2 && q.2.1 == 133) = none := by decide +kernel
theorem fo0_7 : mm_ot.find? (fun q => q.1 == 0 && q.2.1 == 7) = some (0, 7, 1, 118, 119, 94) := by decide +kernel
theorem fo0_16 : mm_ot.find? (fun q => q.1 == 0 && q.2.1 == 16) = some (0, 16, 0, 142, 143, 95) := by decide +kernel
theorem fo0_23 : mm_ot.find? (fun q => q.1 == 0 && q.2.1 == 23) = some (0, 23, 4, 180, 181, 96) := by decide +kernel
theorem fo0_38 : mm_ot.find? (fun q => q.1 == 0 && q.2.1 == 38) = some (0, 38, 2, 237, 239, 97) := by decide +kernel
theorem fo2_49 : mm_ot.find? (fun q => q.1 == 2 && q.2.1 == 49) = some (2, 49, 3, 393, 394, 103) := by decide +kernel
theorem fo3_9 : mm_ot.find? (fun q => q.1 == 3 && q.2.1 == 9) = some (3, 9, 3, 124, 394, 103) := by decide +kernel
theorem fo9_7 : mm_ot.find? (fun q => q.1 == 9 && q.2.1 == 7) = some (9, 7, 5, 110, 111, 93) := by decide +kernel
theorem fo9_10 : mm_ot.find? (fun q => q.1 == 9 && q.2.1 == 10) = some (9, 10, 6, 798, 799, 107) := by decide +kernel
theorem fa0_38 : mm_at.find? (fun q => q.1 == 0 && q.2.1 == 38) = some (0, 38, 13, 237) := by decide +kernel
theorem fa3_9 : mm_at.find? (fun q => q.1 == 3 && q.2.1 == 9) = some (3, 9, 12, 124) := by decide +kernel
