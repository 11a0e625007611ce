/-! SMALL METHODS THAT CHANGE NOTHING -/
section
variable {L : Nat} {xs : Nat → Int32} {d : Nat} {M : mm_H} {Q : Option Value → mm_H → Prop}
def s_bd (v : Int32) : Int32 := if v < 0 then 0 else if 99 < v then 99 else v
theorem c_bound {v : Int32} : Call L xs d 33 [.int v] M Q = Q (some (.int (s_bd v))) M := by
  rw [en33]
  simp only [↓e33_0, ↓e33_1, ↓e33_4, ↓e33_5, ↓e33_8, ↓e33_9, ↓e33_11, ↓e33_14, ↓e33_16, ↓e33_19, ↓e33_20, bc1_i, bc1_r, bc1_n, bc1_U, bisA_r, bisA_n, bisA_a, bct_i, bct_r, bct_n, bcs_0, bcs_i, bcs_r, bcs_l, bcs_a, brt_0, brt_1, Nat.reduceAdd, Nat.reduceLeDiff, Nat.reduceSub, Nat.reduceEqDiff, ite_true, ite_false, if_true, if_false]
  unfold s_bd
  by_cases h : v < 0
  · simp only [h, if_true]
  · by_cases h2 : 99 < v
    · simp only [h, h2, if_true, if_false]
    · simp only [h, h2, if_false]
def s_in (v a b : Int64) : Int32 := if a ≤ v ∧ v ≤ b then 1 else 0
theorem c_in {v a b : Int64} : Call L xs d 108 [.long v, .long a, .long b] M Q = Q (some (.int (s_in v a b))) M := by
  rw [en108]
  simp only [↓e108_0, ↓e108_1, ↓e108_2, ↓e108_3, ↓e108_6, ↓e108_7, ↓e108_9, ↓e108_10, ↓e108_13, ↓e108_14, ↓e108_17, ↓e108_18, bc1_i, bc1_r, bc1_n, bc1_U, bisA_r, bisA_n, bisA_a, bct_i, bct_r, bct_n, bcs_0, bcs_i, bcs_r, bcs_l, bcs_a, brt_0, brt_1, Nat.reduceAdd, Nat.reduceLeDiff, Nat.reduceSub, Nat.reduceEqDiff, ite_true, ite_false, if_true, if_false]
  trace_state
  sorry
theorem c_within {v a b : Int32} : Call L xs d 109 [.int v, .int a, .int b] M Q = Q (some (.int (if v < a then a else if b < v then b else v))) M := by
  rw [en109]
  simp only [↓e109_0, ↓e109_1, ↓e109_2, ↓e109_5, ↓e109_6, ↓e109_9, ↓e109_10, ↓e109_11, ↓e109_14, ↓e109_15, ↓e109_18, ↓e109_19, bc1_i, bc1_r, bc1_n, bc1_U, bisA_r, bisA_n, bisA_a, bct_i, bct_r, bct_n, bcs_0, bcs_i, bcs_r, bcs_l, bcs_a, brt_0, brt_1, Nat.reduceAdd, Nat.reduceLeDiff, Nat.reduceSub, Nat.reduceEqDiff, ite_true, ite_false, if_true, if_false]
  by_cases h : v < a
  · simp only [h, if_true]
  · by_cases h2 : b < v
    · simp only [h, h2, if_true, if_false]
    · simp only [h, h2, if_false]
def s_lsay (n day v : Int32) : Int32 := s_bd (if irm day 7 = 0 then v + n else v)
theorem c_lsay {n day v : Int32} : Call L xs (d + 1) 40 [.int n, .int day, .int v] M Q = Q (some (.int (s_lsay n day v))) M := by
  rw [en40]
  simp only [↓e40_0, ↓e40_1, ↓e40_3, ↓e40_4, ↓e40_7, ↓e40_8, ↓e40_9, ↓e40_10, ↓e40_13, ↓e40_14, ↓e40_17, bc1_i, bc1_r, bc1_n, bc1_U, bisA_r, bisA_n, bisA_a, bct_i, bct_r, bct_n, bcs_0, bcs_i, bcs_r, bcs_l, bcs_a, brt_0, brt_1, Nat.reduceAdd, Nat.reduceLeDiff, Nat.reduceSub, Nat.reduceEqDiff, ite_true, ite_false, if_true, if_false, c_bound]
  trace_state
  sorry
def s_say (k n day v : Int32) : Int32 := if k = 1 then s_lsay n day v else if k = 2 then s_bd (v - day) else if k = 3 then s_lsay n day v / 2 else if k = 4 then (if irm day 2 = 0 then s_bd (v - day) else 0) else if k = 5 then s_bd (9 * n) else s_bd v
theorem c_say {k n day v : Int32} : Call L xs (d + 2) 35 [.int k, .int n, .int day, .int v] M Q = Q (some (.int (s_say k n day v))) M := by
  rw [en35]
  simp only [↓e35_0, ↓e35_1, ↓e35_36, ↓e35_37, ↓e35_38, ↓e35_39, ↓e35_42, ↓e35_43, ↓e35_44, ↓e35_45, ↓e35_46, ↓e35_49, ↓e35_50, ↓e35_51, ↓e35_52, ↓e35_53, ↓e35_56, ↓e35_57, ↓e35_58, ↓e35_59, ↓e35_60, ↓e35_61, ↓e35_62, ↓e35_65, ↓e35_66, ↓e35_69, ↓e35_70, ↓e35_71, ↓e35_72, ↓e35_75, ↓e35_76, ↓e35_78, ↓e35_79, ↓e35_80, ↓e35_83, ↓e35_84, ↓e35_85, ↓e35_88, bc1_i, bc1_r, bc1_n, bc1_U, bisA_r, bisA_n, bisA_a, bct_i, bct_r, bct_n, bcs_0, bcs_i, bcs_r, bcs_l, bcs_a, brt_0, brt_1, Nat.reduceAdd, Nat.reduceLeDiff, Nat.reduceSub, Nat.reduceEqDiff, ite_true, ite_false, if_true, if_false, c_bound, c_lsay]
  trace_state
  sorry
end
