/-! SMALL METHODS THAT CHANGE NOTHING -/
section
variable {L : Nat} {xs : Nat → Int32} {d : Nat} {M : mm_H} {Q : Option Value → mm_H → Prop}
def s_bd (v : Int32) : Int32 := if v < 0 then 0 else if 99 < v then 99 else v
theorem c_bound {v : Int32} : Call L xs d 33 [.int v] M Q = Q (some (.int (s_bd v))) M := by
  rw [en33]
  simp only [↓e33_0, ↓e33_1, ↓e33_4, ↓e33_5, ↓e33_8, ↓e33_9, ↓e33_11, ↓e33_14, ↓e33_16, ↓e33_19, ↓e33_20, bc1_a, bd1, bd2, bd3, bd4, bd5, bd6, bd7, bd8, bd9, bd10, bd11, bd12, bd13, bd14, bd15, bd16, bd17, bd18, bd19, bd20, bd21, bd22, bd23, bd24, bd25, bd26, bd27, bd28, bd29, bd30, bd31, bd32, bd33, bd34, bd35, bd36, bd37, bd38, bd39, bc1_i, bc1_r, bc1_n, bc1_U, bisA_r, bisA_n, bisA_a, bct_i, bct_r, bct_n, bct_l, bcs_0, bcs_i, bcs_r, bcs_l, bcs_a, brt_0, brt_1, ↓bz0, ↓bz1, true_and, and_true, false_and, and_false, and_self, Nat.reduceAdd, Nat.reduceLeDiff, Nat.reduceSub, Nat.reduceEqDiff, ite_true, ite_false, if_true, if_false]
  unfold s_bd
  by_cases h : v < 0
  · simp only [h, if_true]
  · by_cases h2 : 99 < v
    · simp only [h, h2, if_true, if_false]
    · simp only [h, h2, if_false]
def s_b2i (b : Bool) : Int32 := if b = true then 1 else 0
theorem lg_lt0 {x y : Int64} : (lg_cmp x y < 0) = (x < y) := by
  unfold lg_cmp
  by_cases h : y < x
  · rw [if_pos h]
    exact propext ⟨fun q => absurd q (by decide), fun q => absurd q (Int64.lt_asymm h)⟩
  · rw [if_neg h]
    by_cases e : x = y
    · rw [if_pos e]; subst e
      exact propext ⟨fun q => absurd q (by decide), fun q => absurd q (Int64.lt_irrefl)⟩
    · rw [if_neg e]
      exact propext ⟨fun _ => Int64.lt_of_le_of_ne (Int64.not_lt.mp h) e, fun _ => by decide⟩
theorem lg_gt0 {x y : Int64} : (0 < lg_cmp x y) = (y < x) := by
  unfold lg_cmp
  by_cases h : y < x
  · rw [if_pos h]
    exact propext ⟨fun _ => h, fun _ => by decide⟩
  · rw [if_neg h]
    by_cases e : x = y
    · rw [if_pos e]
      exact propext ⟨fun q => absurd q (by decide), fun q => absurd q h⟩
    · rw [if_neg e]
      exact propext ⟨fun q => absurd q (by decide), fun q => absurd q h⟩
def s_in (v a b : Int64) : Int32 := if v < a then 0 else if b < v then 0 else 1
theorem c_in {v a b : Int64} : Call L xs d 108 [.long v, .long a, .long b] M Q = Q (some (.int (s_in v a b))) M := by
  rw [en108]
  unfold s_in
  by_cases h : v < a
  · simp only [↓e108_0, ↓e108_1, ↓e108_2, ↓e108_3, ↓e108_6, ↓e108_7, ↓e108_9, ↓e108_10, ↓e108_13, ↓e108_14, ↓e108_17, ↓e108_18, bc1_a, bd1, bd2, bd3, bd4, bd5, bd6, bd7, bd8, bd9, bd10, bd11, bd12, bd13, bd14, bd15, bd16, bd17, bd18, bd19, bd20, bd21, bd22, bd23, bd24, bd25, bd26, bd27, bd28, bd29, bd30, bd31, bd32, bd33, bd34, bd35, bd36, bd37, bd38, bd39, bc1_i, bc1_r, bc1_n, bc1_U, bisA_r, bisA_n, bisA_a, bct_i, bct_r, bct_n, bct_l, bcs_0, bcs_i, bcs_r, bcs_l, bcs_a, brt_0, brt_1, ↓bz0, ↓bz1, true_and, and_true, false_and, and_false, and_self, Nat.reduceAdd, Nat.reduceLeDiff, Nat.reduceSub, Nat.reduceEqDiff, ite_true, ite_false, if_true, if_false, lg_lt0, lg_gt0, h]
  · by_cases h2 : b < v
    · simp only [↓e108_0, ↓e108_1, ↓e108_2, ↓e108_3, ↓e108_6, ↓e108_7, ↓e108_9, ↓e108_10, ↓e108_13, ↓e108_14, ↓e108_17, ↓e108_18, bc1_a, bd1, bd2, bd3, bd4, bd5, bd6, bd7, bd8, bd9, bd10, bd11, bd12, bd13, bd14, bd15, bd16, bd17, bd18, bd19, bd20, bd21, bd22, bd23, bd24, bd25, bd26, bd27, bd28, bd29, bd30, bd31, bd32, bd33, bd34, bd35, bd36, bd37, bd38, bd39, bc1_i, bc1_r, bc1_n, bc1_U, bisA_r, bisA_n, bisA_a, bct_i, bct_r, bct_n, bct_l, bcs_0, bcs_i, bcs_r, bcs_l, bcs_a, brt_0, brt_1, ↓bz0, ↓bz1, true_and, and_true, false_and, and_false, and_self, Nat.reduceAdd, Nat.reduceLeDiff, Nat.reduceSub, Nat.reduceEqDiff, ite_true, ite_false, if_true, if_false, lg_lt0, lg_gt0, h, h2]
    · simp only [↓e108_0, ↓e108_1, ↓e108_2, ↓e108_3, ↓e108_6, ↓e108_7, ↓e108_9, ↓e108_10, ↓e108_13, ↓e108_14, ↓e108_17, ↓e108_18, bc1_a, bd1, bd2, bd3, bd4, bd5, bd6, bd7, bd8, bd9, bd10, bd11, bd12, bd13, bd14, bd15, bd16, bd17, bd18, bd19, bd20, bd21, bd22, bd23, bd24, bd25, bd26, bd27, bd28, bd29, bd30, bd31, bd32, bd33, bd34, bd35, bd36, bd37, bd38, bd39, bc1_i, bc1_r, bc1_n, bc1_U, bisA_r, bisA_n, bisA_a, bct_i, bct_r, bct_n, bct_l, bcs_0, bcs_i, bcs_r, bcs_l, bcs_a, brt_0, brt_1, ↓bz0, ↓bz1, true_and, and_true, false_and, and_false, and_self, Nat.reduceAdd, Nat.reduceLeDiff, Nat.reduceSub, Nat.reduceEqDiff, ite_true, ite_false, if_true, if_false, lg_lt0, lg_gt0, h, h2]
theorem c_within {v a b : Int32} : Call L xs d 109 [.int v, .int a, .int b] M Q = Q (some (.int (if v < a then a else if b < v then b else v))) M := by
  rw [en109]
  simp only [↓e109_0, ↓e109_1, ↓e109_2, ↓e109_5, ↓e109_6, ↓e109_9, ↓e109_10, ↓e109_11, ↓e109_14, ↓e109_15, ↓e109_18, ↓e109_19, bc1_a, bd1, bd2, bd3, bd4, bd5, bd6, bd7, bd8, bd9, bd10, bd11, bd12, bd13, bd14, bd15, bd16, bd17, bd18, bd19, bd20, bd21, bd22, bd23, bd24, bd25, bd26, bd27, bd28, bd29, bd30, bd31, bd32, bd33, bd34, bd35, bd36, bd37, bd38, bd39, bc1_i, bc1_r, bc1_n, bc1_U, bisA_r, bisA_n, bisA_a, bct_i, bct_r, bct_n, bct_l, bcs_0, bcs_i, bcs_r, bcs_l, bcs_a, brt_0, brt_1, ↓bz0, ↓bz1, true_and, and_true, false_and, and_false, and_self, Nat.reduceAdd, Nat.reduceLeDiff, Nat.reduceSub, Nat.reduceEqDiff, ite_true, ite_false, if_true, if_false]
  by_cases h : v < a
  · simp only [h, if_true]
  · by_cases h2 : b < v
    · simp only [h, h2, if_true, if_false]
    · simp only [h, h2, if_false]
def s_lsay (n day v : Int32) : Int32 := s_bd (if irm day 7 = 0 then v + n else v)
theorem i7ne : ((7 : Int32) = 0) = False := by simp
theorem i2ne : ((2 : Int32) = 0) = False := by simp
theorem c_lsay {n day v : Int32} : Call L xs (d + 1) 40 [.int n, .int day, .int v] M Q = Q (some (.int (s_lsay n day v))) M := by
  rw [en40]
  unfold s_lsay
  by_cases h : irm day 7 = 0
  · simp only [↓e40_0, ↓e40_1, ↓e40_3, ↓e40_4, ↓e40_7, ↓e40_8, ↓e40_9, ↓e40_10, ↓e40_13, ↓e40_14, ↓e40_17, bc1_a, bd1, bd2, bd3, bd4, bd5, bd6, bd7, bd8, bd9, bd10, bd11, bd12, bd13, bd14, bd15, bd16, bd17, bd18, bd19, bd20, bd21, bd22, bd23, bd24, bd25, bd26, bd27, bd28, bd29, bd30, bd31, bd32, bd33, bd34, bd35, bd36, bd37, bd38, bd39, bc1_i, bc1_r, bc1_n, bc1_U, bisA_r, bisA_n, bisA_a, bct_i, bct_r, bct_n, bct_l, bcs_0, bcs_i, bcs_r, bcs_l, bcs_a, brt_0, brt_1, ↓bz0, ↓bz1, true_and, and_true, false_and, and_false, and_self, Nat.reduceAdd, Nat.reduceLeDiff, Nat.reduceSub, Nat.reduceEqDiff, ite_true, ite_false, if_true, if_false, c_bound, i7ne, not_false_eq_true, h]
  · simp only [↓e40_0, ↓e40_1, ↓e40_3, ↓e40_4, ↓e40_7, ↓e40_8, ↓e40_9, ↓e40_10, ↓e40_13, ↓e40_14, ↓e40_17, bc1_a, bd1, bd2, bd3, bd4, bd5, bd6, bd7, bd8, bd9, bd10, bd11, bd12, bd13, bd14, bd15, bd16, bd17, bd18, bd19, bd20, bd21, bd22, bd23, bd24, bd25, bd26, bd27, bd28, bd29, bd30, bd31, bd32, bd33, bd34, bd35, bd36, bd37, bd38, bd39, bc1_i, bc1_r, bc1_n, bc1_U, bisA_r, bisA_n, bisA_a, bct_i, bct_r, bct_n, bct_l, bcs_0, bcs_i, bcs_r, bcs_l, bcs_a, brt_0, brt_1, ↓bz0, ↓bz1, true_and, and_true, false_and, and_false, and_self, Nat.reduceAdd, Nat.reduceLeDiff, Nat.reduceSub, Nat.reduceEqDiff, ite_true, ite_false, if_true, if_false, c_bound, i7ne, not_false_eq_true, h]
def s_say (k n day v : Int32) : Int32 := if k = 1 then s_lsay n day v else if k = 2 then s_bd (v - day) else if k = 3 then s_lsay n day v / 2 else if k = 4 then (if irm day 2 = 0 then s_bd (v - day) else 0) else if k = 5 then s_bd (9 * n) else s_bd v
theorem c_say {k n day v : Int32} : Call L xs (d + 2) 35 [.int k, .int n, .int day, .int v] M Q = Q (some (.int (s_say k n day v))) M := by
  rw [en35]
  unfold s_say
  simp only [↓e35_0, ↓e35_1, ↓e35_36, ↓e35_37, ↓e35_38, ↓e35_39, ↓e35_42, ↓e35_43, ↓e35_44, ↓e35_45, ↓e35_46, ↓e35_49, ↓e35_50, ↓e35_51, ↓e35_52, ↓e35_53, ↓e35_56, ↓e35_57, ↓e35_58, ↓e35_59, ↓e35_60, ↓e35_61, ↓e35_62, ↓e35_65, ↓e35_66, ↓e35_69, ↓e35_70, ↓e35_71, ↓e35_72, ↓e35_75, ↓e35_76, ↓e35_78, ↓e35_79, ↓e35_80, ↓e35_83, ↓e35_84, ↓e35_85, ↓e35_88, bc1_a, bd1, bd2, bd3, bd4, bd5, bd6, bd7, bd8, bd9, bd10, bd11, bd12, bd13, bd14, bd15, bd16, bd17, bd18, bd19, bd20, bd21, bd22, bd23, bd24, bd25, bd26, bd27, bd28, bd29, bd30, bd31, bd32, bd33, bd34, bd35, bd36, bd37, bd38, bd39, bc1_i, bc1_r, bc1_n, bc1_U, bisA_r, bisA_n, bisA_a, bct_i, bct_r, bct_n, bct_l, bcs_0, bcs_i, bcs_r, bcs_l, bcs_a, brt_0, brt_1, ↓bz0, ↓bz1, true_and, and_true, false_and, and_false, and_self, Nat.reduceAdd, Nat.reduceLeDiff, Nat.reduceSub, Nat.reduceEqDiff, ite_true, ite_false, if_true, if_false]
  by_cases h1 : k = 1
  · rw [if_pos h1, if_pos h1]; simp only [↓e35_0, ↓e35_1, ↓e35_36, ↓e35_37, ↓e35_38, ↓e35_39, ↓e35_42, ↓e35_43, ↓e35_44, ↓e35_45, ↓e35_46, ↓e35_49, ↓e35_50, ↓e35_51, ↓e35_52, ↓e35_53, ↓e35_56, ↓e35_57, ↓e35_58, ↓e35_59, ↓e35_60, ↓e35_61, ↓e35_62, ↓e35_65, ↓e35_66, ↓e35_69, ↓e35_70, ↓e35_71, ↓e35_72, ↓e35_75, ↓e35_76, ↓e35_78, ↓e35_79, ↓e35_80, ↓e35_83, ↓e35_84, ↓e35_85, ↓e35_88, bc1_a, bd1, bd2, bd3, bd4, bd5, bd6, bd7, bd8, bd9, bd10, bd11, bd12, bd13, bd14, bd15, bd16, bd17, bd18, bd19, bd20, bd21, bd22, bd23, bd24, bd25, bd26, bd27, bd28, bd29, bd30, bd31, bd32, bd33, bd34, bd35, bd36, bd37, bd38, bd39, bc1_i, bc1_r, bc1_n, bc1_U, bisA_r, bisA_n, bisA_a, bct_i, bct_r, bct_n, bct_l, bcs_0, bcs_i, bcs_r, bcs_l, bcs_a, brt_0, brt_1, ↓bz0, ↓bz1, true_and, and_true, false_and, and_false, and_self, Nat.reduceAdd, Nat.reduceLeDiff, Nat.reduceSub, Nat.reduceEqDiff, ite_true, ite_false, if_true, if_false, c_lsay]
  rw [if_neg h1, if_neg h1]
  by_cases h2 : k = 2
  · rw [if_pos h2, if_pos h2]; simp only [↓e35_0, ↓e35_1, ↓e35_36, ↓e35_37, ↓e35_38, ↓e35_39, ↓e35_42, ↓e35_43, ↓e35_44, ↓e35_45, ↓e35_46, ↓e35_49, ↓e35_50, ↓e35_51, ↓e35_52, ↓e35_53, ↓e35_56, ↓e35_57, ↓e35_58, ↓e35_59, ↓e35_60, ↓e35_61, ↓e35_62, ↓e35_65, ↓e35_66, ↓e35_69, ↓e35_70, ↓e35_71, ↓e35_72, ↓e35_75, ↓e35_76, ↓e35_78, ↓e35_79, ↓e35_80, ↓e35_83, ↓e35_84, ↓e35_85, ↓e35_88, bc1_a, bd1, bd2, bd3, bd4, bd5, bd6, bd7, bd8, bd9, bd10, bd11, bd12, bd13, bd14, bd15, bd16, bd17, bd18, bd19, bd20, bd21, bd22, bd23, bd24, bd25, bd26, bd27, bd28, bd29, bd30, bd31, bd32, bd33, bd34, bd35, bd36, bd37, bd38, bd39, bc1_i, bc1_r, bc1_n, bc1_U, bisA_r, bisA_n, bisA_a, bct_i, bct_r, bct_n, bct_l, bcs_0, bcs_i, bcs_r, bcs_l, bcs_a, brt_0, brt_1, ↓bz0, ↓bz1, true_and, and_true, false_and, and_false, and_self, Nat.reduceAdd, Nat.reduceLeDiff, Nat.reduceSub, Nat.reduceEqDiff, ite_true, ite_false, if_true, if_false, c_bound]
  rw [if_neg h2, if_neg h2]
  by_cases h3 : k = 3
  · rw [if_pos h3, if_pos h3]; simp only [↓e35_0, ↓e35_1, ↓e35_36, ↓e35_37, ↓e35_38, ↓e35_39, ↓e35_42, ↓e35_43, ↓e35_44, ↓e35_45, ↓e35_46, ↓e35_49, ↓e35_50, ↓e35_51, ↓e35_52, ↓e35_53, ↓e35_56, ↓e35_57, ↓e35_58, ↓e35_59, ↓e35_60, ↓e35_61, ↓e35_62, ↓e35_65, ↓e35_66, ↓e35_69, ↓e35_70, ↓e35_71, ↓e35_72, ↓e35_75, ↓e35_76, ↓e35_78, ↓e35_79, ↓e35_80, ↓e35_83, ↓e35_84, ↓e35_85, ↓e35_88, bc1_a, bd1, bd2, bd3, bd4, bd5, bd6, bd7, bd8, bd9, bd10, bd11, bd12, bd13, bd14, bd15, bd16, bd17, bd18, bd19, bd20, bd21, bd22, bd23, bd24, bd25, bd26, bd27, bd28, bd29, bd30, bd31, bd32, bd33, bd34, bd35, bd36, bd37, bd38, bd39, bc1_i, bc1_r, bc1_n, bc1_U, bisA_r, bisA_n, bisA_a, bct_i, bct_r, bct_n, bct_l, bcs_0, bcs_i, bcs_r, bcs_l, bcs_a, brt_0, brt_1, ↓bz0, ↓bz1, true_and, and_true, false_and, and_false, and_self, Nat.reduceAdd, Nat.reduceLeDiff, Nat.reduceSub, Nat.reduceEqDiff, ite_true, ite_false, if_true, if_false, c_lsay, i2ne, not_false_eq_true]
  rw [if_neg h3, if_neg h3]
  by_cases h4 : k = 4
  · rw [if_pos h4, if_pos h4]
    by_cases h : irm day 2 = 0
    · simp only [↓e35_0, ↓e35_1, ↓e35_36, ↓e35_37, ↓e35_38, ↓e35_39, ↓e35_42, ↓e35_43, ↓e35_44, ↓e35_45, ↓e35_46, ↓e35_49, ↓e35_50, ↓e35_51, ↓e35_52, ↓e35_53, ↓e35_56, ↓e35_57, ↓e35_58, ↓e35_59, ↓e35_60, ↓e35_61, ↓e35_62, ↓e35_65, ↓e35_66, ↓e35_69, ↓e35_70, ↓e35_71, ↓e35_72, ↓e35_75, ↓e35_76, ↓e35_78, ↓e35_79, ↓e35_80, ↓e35_83, ↓e35_84, ↓e35_85, ↓e35_88, bc1_a, bd1, bd2, bd3, bd4, bd5, bd6, bd7, bd8, bd9, bd10, bd11, bd12, bd13, bd14, bd15, bd16, bd17, bd18, bd19, bd20, bd21, bd22, bd23, bd24, bd25, bd26, bd27, bd28, bd29, bd30, bd31, bd32, bd33, bd34, bd35, bd36, bd37, bd38, bd39, bc1_i, bc1_r, bc1_n, bc1_U, bisA_r, bisA_n, bisA_a, bct_i, bct_r, bct_n, bct_l, bcs_0, bcs_i, bcs_r, bcs_l, bcs_a, brt_0, brt_1, ↓bz0, ↓bz1, true_and, and_true, false_and, and_false, and_self, Nat.reduceAdd, Nat.reduceLeDiff, Nat.reduceSub, Nat.reduceEqDiff, ite_true, ite_false, if_true, if_false, c_bound, i2ne, not_false_eq_true, h]
    · simp only [↓e35_0, ↓e35_1, ↓e35_36, ↓e35_37, ↓e35_38, ↓e35_39, ↓e35_42, ↓e35_43, ↓e35_44, ↓e35_45, ↓e35_46, ↓e35_49, ↓e35_50, ↓e35_51, ↓e35_52, ↓e35_53, ↓e35_56, ↓e35_57, ↓e35_58, ↓e35_59, ↓e35_60, ↓e35_61, ↓e35_62, ↓e35_65, ↓e35_66, ↓e35_69, ↓e35_70, ↓e35_71, ↓e35_72, ↓e35_75, ↓e35_76, ↓e35_78, ↓e35_79, ↓e35_80, ↓e35_83, ↓e35_84, ↓e35_85, ↓e35_88, bc1_a, bd1, bd2, bd3, bd4, bd5, bd6, bd7, bd8, bd9, bd10, bd11, bd12, bd13, bd14, bd15, bd16, bd17, bd18, bd19, bd20, bd21, bd22, bd23, bd24, bd25, bd26, bd27, bd28, bd29, bd30, bd31, bd32, bd33, bd34, bd35, bd36, bd37, bd38, bd39, bc1_i, bc1_r, bc1_n, bc1_U, bisA_r, bisA_n, bisA_a, bct_i, bct_r, bct_n, bct_l, bcs_0, bcs_i, bcs_r, bcs_l, bcs_a, brt_0, brt_1, ↓bz0, ↓bz1, true_and, and_true, false_and, and_false, and_self, Nat.reduceAdd, Nat.reduceLeDiff, Nat.reduceSub, Nat.reduceEqDiff, ite_true, ite_false, if_true, if_false, c_bound, i2ne, not_false_eq_true, h]
  rw [if_neg h4, if_neg h4]
  by_cases h5 : k = 5
  · rw [if_pos h5, if_pos h5]; simp only [↓e35_0, ↓e35_1, ↓e35_36, ↓e35_37, ↓e35_38, ↓e35_39, ↓e35_42, ↓e35_43, ↓e35_44, ↓e35_45, ↓e35_46, ↓e35_49, ↓e35_50, ↓e35_51, ↓e35_52, ↓e35_53, ↓e35_56, ↓e35_57, ↓e35_58, ↓e35_59, ↓e35_60, ↓e35_61, ↓e35_62, ↓e35_65, ↓e35_66, ↓e35_69, ↓e35_70, ↓e35_71, ↓e35_72, ↓e35_75, ↓e35_76, ↓e35_78, ↓e35_79, ↓e35_80, ↓e35_83, ↓e35_84, ↓e35_85, ↓e35_88, bc1_a, bd1, bd2, bd3, bd4, bd5, bd6, bd7, bd8, bd9, bd10, bd11, bd12, bd13, bd14, bd15, bd16, bd17, bd18, bd19, bd20, bd21, bd22, bd23, bd24, bd25, bd26, bd27, bd28, bd29, bd30, bd31, bd32, bd33, bd34, bd35, bd36, bd37, bd38, bd39, bc1_i, bc1_r, bc1_n, bc1_U, bisA_r, bisA_n, bisA_a, bct_i, bct_r, bct_n, bct_l, bcs_0, bcs_i, bcs_r, bcs_l, bcs_a, brt_0, brt_1, ↓bz0, ↓bz1, true_and, and_true, false_and, and_false, and_self, Nat.reduceAdd, Nat.reduceLeDiff, Nat.reduceSub, Nat.reduceEqDiff, ite_true, ite_false, if_true, if_false, c_bound]
  · rw [if_neg h5, if_neg h5]; simp only [↓e35_0, ↓e35_1, ↓e35_36, ↓e35_37, ↓e35_38, ↓e35_39, ↓e35_42, ↓e35_43, ↓e35_44, ↓e35_45, ↓e35_46, ↓e35_49, ↓e35_50, ↓e35_51, ↓e35_52, ↓e35_53, ↓e35_56, ↓e35_57, ↓e35_58, ↓e35_59, ↓e35_60, ↓e35_61, ↓e35_62, ↓e35_65, ↓e35_66, ↓e35_69, ↓e35_70, ↓e35_71, ↓e35_72, ↓e35_75, ↓e35_76, ↓e35_78, ↓e35_79, ↓e35_80, ↓e35_83, ↓e35_84, ↓e35_85, ↓e35_88, bc1_a, bd1, bd2, bd3, bd4, bd5, bd6, bd7, bd8, bd9, bd10, bd11, bd12, bd13, bd14, bd15, bd16, bd17, bd18, bd19, bd20, bd21, bd22, bd23, bd24, bd25, bd26, bd27, bd28, bd29, bd30, bd31, bd32, bd33, bd34, bd35, bd36, bd37, bd38, bd39, bc1_i, bc1_r, bc1_n, bc1_U, bisA_r, bisA_n, bisA_a, bct_i, bct_r, bct_n, bct_l, bcs_0, bcs_i, bcs_r, bcs_l, bcs_a, brt_0, brt_1, ↓bz0, ↓bz1, true_and, and_true, false_and, and_false, and_self, Nat.reduceAdd, Nat.reduceLeDiff, Nat.reduceSub, Nat.reduceEqDiff, ite_true, ite_false, if_true, if_false, c_bound]
end
