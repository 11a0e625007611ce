/-! SHEETS (1) -/
section
variable {L : Nat} {xs : Nat → Int32} {d : Nat} {M : mm_H} {Q : Option Value → mm_H → Prop}
theorem c_missing {t : Nat} (h : gS M t = 2) : Call L xs d 67 [.ref t] M Q = Q (some (.int (s_b2i (decide (gI M t 0 = -1))))) M := by
  rw [en67]
  by_cases hc : gI M t 0 = -1
  · rw [decide_eq_true hc]
    simp only [↓e67_0, ↓e67_1, ↓e67_4, ↓e67_5, ↓e67_8, ↓e67_9, ↓e67_12, ↓e67_13, bc1_a, bd1, bd2, bd3, bd4, bd5, bd6, bd7, bd8, bd9, bd10, bd11, bd12, bd13, bd14, bd15, bd16, bd17, bd18, bd19, bd20, bd21, bd22, bd23, bd24, bd25, bd26, bd27, bd28, bd29, bd30, bd31, bd32, bd33, bd34, bd35, bd36, bd37, bd38, bd39, bc1_i, bc1_r, bc1_n, bc1_U, bisA_r, bisA_n, bisA_a, bct_i, bct_r, bct_n, bct_l, bcs_0, bcs_i, bcs_r, bcs_l, bcs_a, brt_0, brt_1, ↓bz0, ↓bz1, true_and, and_true, false_and, and_false, and_self, Nat.reduceAdd, Nat.reduceLeDiff, Nat.reduceSub, Nat.reduceEqDiff, ite_true, ite_false, if_true, if_false, h, hc]
    rfl
  · rw [decide_eq_false hc]
    simp only [↓e67_0, ↓e67_1, ↓e67_4, ↓e67_5, ↓e67_8, ↓e67_9, ↓e67_12, ↓e67_13, bc1_a, bd1, bd2, bd3, bd4, bd5, bd6, bd7, bd8, bd9, bd10, bd11, bd12, bd13, bd14, bd15, bd16, bd17, bd18, bd19, bd20, bd21, bd22, bd23, bd24, bd25, bd26, bd27, bd28, bd29, bd30, bd31, bd32, bd33, bd34, bd35, bd36, bd37, bd38, bd39, bc1_i, bc1_r, bc1_n, bc1_U, bisA_r, bisA_n, bisA_a, bct_i, bct_r, bct_n, bct_l, bcs_0, bcs_i, bcs_r, bcs_l, bcs_a, brt_0, brt_1, ↓bz0, ↓bz1, true_and, and_true, false_and, and_false, and_self, Nat.reduceAdd, Nat.reduceLeDiff, Nat.reduceSub, Nat.reduceEqDiff, ite_true, ite_false, if_true, if_false, h, hc]
    rfl
def s_hasI (size i m : Int32) : Bool := if m < 0 then false else if i < 0 then false else if size < m then false else if size - m < i then false else true
theorem c_hasItems {t : Nat} {i m : Int32} (h : gS M t = 2) : Call L xs d 69 [.ref t, .int i, .int m] M Q = Q (some (.int (s_b2i (s_hasI (gI M t 1) i m)))) M := by
  rw [en69]
  unfold s_hasI
  by_cases h1 : m < 0
  · rw [if_pos h1]
    simp only [↓e69_0, ↓e69_1, ↓e69_4, ↓e69_5, ↓e69_8, ↓e69_9, ↓e69_10, ↓e69_13, ↓e69_16, ↓e69_17, ↓e69_18, ↓e69_21, ↓e69_22, ↓e69_23, ↓e69_26, ↓e69_27, ↓e69_30, ↓e69_31, bc1_a, bd1, bd2, bd3, bd4, bd5, bd6, bd7, bd8, bd9, bd10, bd11, bd12, bd13, bd14, bd15, bd16, bd17, bd18, bd19, bd20, bd21, bd22, bd23, bd24, bd25, bd26, bd27, bd28, bd29, bd30, bd31, bd32, bd33, bd34, bd35, bd36, bd37, bd38, bd39, bc1_i, bc1_r, bc1_n, bc1_U, bisA_r, bisA_n, bisA_a, bct_i, bct_r, bct_n, bct_l, bcs_0, bcs_i, bcs_r, bcs_l, bcs_a, brt_0, brt_1, ↓bz0, ↓bz1, true_and, and_true, false_and, and_false, and_self, Nat.reduceAdd, Nat.reduceLeDiff, Nat.reduceSub, Nat.reduceEqDiff, ite_true, ite_false, if_true, if_false, h, h1]
    rfl
  rw [if_neg h1]
  by_cases h2 : i < 0
  · rw [if_pos h2]
    simp only [↓e69_0, ↓e69_1, ↓e69_4, ↓e69_5, ↓e69_8, ↓e69_9, ↓e69_10, ↓e69_13, ↓e69_16, ↓e69_17, ↓e69_18, ↓e69_21, ↓e69_22, ↓e69_23, ↓e69_26, ↓e69_27, ↓e69_30, ↓e69_31, bc1_a, bd1, bd2, bd3, bd4, bd5, bd6, bd7, bd8, bd9, bd10, bd11, bd12, bd13, bd14, bd15, bd16, bd17, bd18, bd19, bd20, bd21, bd22, bd23, bd24, bd25, bd26, bd27, bd28, bd29, bd30, bd31, bd32, bd33, bd34, bd35, bd36, bd37, bd38, bd39, bc1_i, bc1_r, bc1_n, bc1_U, bisA_r, bisA_n, bisA_a, bct_i, bct_r, bct_n, bct_l, bcs_0, bcs_i, bcs_r, bcs_l, bcs_a, brt_0, brt_1, ↓bz0, ↓bz1, true_and, and_true, false_and, and_false, and_self, Nat.reduceAdd, Nat.reduceLeDiff, Nat.reduceSub, Nat.reduceEqDiff, ite_true, ite_false, if_true, if_false, h, h1, h2]
    rfl
  rw [if_neg h2]
  by_cases h3 : gI M t 1 < m
  · rw [if_pos h3]
    simp only [↓e69_0, ↓e69_1, ↓e69_4, ↓e69_5, ↓e69_8, ↓e69_9, ↓e69_10, ↓e69_13, ↓e69_16, ↓e69_17, ↓e69_18, ↓e69_21, ↓e69_22, ↓e69_23, ↓e69_26, ↓e69_27, ↓e69_30, ↓e69_31, bc1_a, bd1, bd2, bd3, bd4, bd5, bd6, bd7, bd8, bd9, bd10, bd11, bd12, bd13, bd14, bd15, bd16, bd17, bd18, bd19, bd20, bd21, bd22, bd23, bd24, bd25, bd26, bd27, bd28, bd29, bd30, bd31, bd32, bd33, bd34, bd35, bd36, bd37, bd38, bd39, bc1_i, bc1_r, bc1_n, bc1_U, bisA_r, bisA_n, bisA_a, bct_i, bct_r, bct_n, bct_l, bcs_0, bcs_i, bcs_r, bcs_l, bcs_a, brt_0, brt_1, ↓bz0, ↓bz1, true_and, and_true, false_and, and_false, and_self, Nat.reduceAdd, Nat.reduceLeDiff, Nat.reduceSub, Nat.reduceEqDiff, ite_true, ite_false, if_true, if_false, h, h1, h2, h3]
    rfl
  rw [if_neg h3]
  by_cases h4 : gI M t 1 - m < i
  · rw [if_pos h4]
    simp only [↓e69_0, ↓e69_1, ↓e69_4, ↓e69_5, ↓e69_8, ↓e69_9, ↓e69_10, ↓e69_13, ↓e69_16, ↓e69_17, ↓e69_18, ↓e69_21, ↓e69_22, ↓e69_23, ↓e69_26, ↓e69_27, ↓e69_30, ↓e69_31, bc1_a, bd1, bd2, bd3, bd4, bd5, bd6, bd7, bd8, bd9, bd10, bd11, bd12, bd13, bd14, bd15, bd16, bd17, bd18, bd19, bd20, bd21, bd22, bd23, bd24, bd25, bd26, bd27, bd28, bd29, bd30, bd31, bd32, bd33, bd34, bd35, bd36, bd37, bd38, bd39, bc1_i, bc1_r, bc1_n, bc1_U, bisA_r, bisA_n, bisA_a, bct_i, bct_r, bct_n, bct_l, bcs_0, bcs_i, bcs_r, bcs_l, bcs_a, brt_0, brt_1, ↓bz0, ↓bz1, true_and, and_true, false_and, and_false, and_self, Nat.reduceAdd, Nat.reduceLeDiff, Nat.reduceSub, Nat.reduceEqDiff, ite_true, ite_false, if_true, if_false, h, h1, h2, h3, h4]
    rfl
  · rw [if_neg h4]
    simp only [↓e69_0, ↓e69_1, ↓e69_4, ↓e69_5, ↓e69_8, ↓e69_9, ↓e69_10, ↓e69_13, ↓e69_16, ↓e69_17, ↓e69_18, ↓e69_21, ↓e69_22, ↓e69_23, ↓e69_26, ↓e69_27, ↓e69_30, ↓e69_31, bc1_a, bd1, bd2, bd3, bd4, bd5, bd6, bd7, bd8, bd9, bd10, bd11, bd12, bd13, bd14, bd15, bd16, bd17, bd18, bd19, bd20, bd21, bd22, bd23, bd24, bd25, bd26, bd27, bd28, bd29, bd30, bd31, bd32, bd33, bd34, bd35, bd36, bd37, bd38, bd39, bc1_i, bc1_r, bc1_n, bc1_U, bisA_r, bisA_n, bisA_a, bct_i, bct_r, bct_n, bct_l, bcs_0, bcs_i, bcs_r, bcs_l, bcs_a, brt_0, brt_1, ↓bz0, ↓bz1, true_and, and_true, false_and, and_false, and_self, Nat.reduceAdd, Nat.reduceLeDiff, Nat.reduceSub, Nat.reduceEqDiff, ite_true, ite_false, if_true, if_false, h, h1, h2, h3, h4]
    rfl
end
