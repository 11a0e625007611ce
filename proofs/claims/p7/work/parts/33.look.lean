/-! THE READER: tokens -/
/-- the shape of the reader's cells -/
def Rd (M : mm_H) : Prop := gS M 5 = 0 ∧ gR M 5 0 = .ref 6 ∧ gR M 5 7 = .ref 7 ∧ gR M 5 9 = .ref 8 ∧ gS M 6 = 10 ∧ gL M 6 = 160 ∧ gS M 7 = 10 ∧ gL M 7 = 160 ∧ gS M 8 = 10 ∧ gL M 8 = 3
theorem Rd.fr {S : Nat → Prop} {M M1 : mm_H} (h : Rd M) (hf : Fr S M M1) : Rd M1 := by
  unfold Rd
  simp only [hf.hS, hf.hL]
  have e : ∀ k, gR M1 5 k = gR M 5 k := fun k => hf.2.1 5 k (fun z => by omega)
  simp only [e]
  exact h
section
variable {L : Nat} {xs : Nat → Int32} {d : Nat} {M : mm_H} {Q : Option Value → mm_H → Prop}
theorem c_isLetter {b : Int32} : Call L xs d 59 [.int b] M Q = Q (some (.int (s_b2i (t_lt b)))) M := by
  rw [en59]
  unfold s_b2i t_lt
  by_cases h1 : b < 97
  · simp only [↓e59_0, ↓e59_1, ↓e59_3, ↓e59_6, ↓e59_7, ↓e59_9, ↓e59_12, ↓e59_13, ↓e59_16, ↓e59_17, bc1_a, bd1, bd2, bd3, bd4, bd5, bd6, bd7, bd8, bd9, bd10, bd11, bd12, bd13, bd14, bd15, bd16, bd17, bd18, bd19, bd20, bd21, bd22, bd23, bd24, bd25, bd26, bd27, bd28, bd29, bd30, bd31, bd32, bd33, bd34, bd35, bd36, bd37, bd38, bd39, bc1_i, bc1_r, bc1_n, bc1_U, bisA_r, bisA_n, bisA_a, bct_i, bct_r, bct_n, bct_l, bcs_0, bcs_i, bcs_r, bcs_l, bcs_a, brt_0, brt_1, ↓bz0, ↓bz1, true_and, and_true, false_and, and_false, and_self, Nat.reduceAdd, Nat.reduceLeDiff, Nat.reduceSub, Nat.reduceEqDiff, ite_true, ite_false, if_true, if_false, h1]
    simp [Int32.not_le.mpr h1]
  · by_cases h2 : 122 < b
    · simp only [↓e59_0, ↓e59_1, ↓e59_3, ↓e59_6, ↓e59_7, ↓e59_9, ↓e59_12, ↓e59_13, ↓e59_16, ↓e59_17, bc1_a, bd1, bd2, bd3, bd4, bd5, bd6, bd7, bd8, bd9, bd10, bd11, bd12, bd13, bd14, bd15, bd16, bd17, bd18, bd19, bd20, bd21, bd22, bd23, bd24, bd25, bd26, bd27, bd28, bd29, bd30, bd31, bd32, bd33, bd34, bd35, bd36, bd37, bd38, bd39, bc1_i, bc1_r, bc1_n, bc1_U, bisA_r, bisA_n, bisA_a, bct_i, bct_r, bct_n, bct_l, bcs_0, bcs_i, bcs_r, bcs_l, bcs_a, brt_0, brt_1, ↓bz0, ↓bz1, true_and, and_true, false_and, and_false, and_self, Nat.reduceAdd, Nat.reduceLeDiff, Nat.reduceSub, Nat.reduceEqDiff, ite_true, ite_false, if_true, if_false, h1, h2]
      simp [Int32.not_le.mpr h2]
    · simp only [↓e59_0, ↓e59_1, ↓e59_3, ↓e59_6, ↓e59_7, ↓e59_9, ↓e59_12, ↓e59_13, ↓e59_16, ↓e59_17, bc1_a, bd1, bd2, bd3, bd4, bd5, bd6, bd7, bd8, bd9, bd10, bd11, bd12, bd13, bd14, bd15, bd16, bd17, bd18, bd19, bd20, bd21, bd22, bd23, bd24, bd25, bd26, bd27, bd28, bd29, bd30, bd31, bd32, bd33, bd34, bd35, bd36, bd37, bd38, bd39, bc1_i, bc1_r, bc1_n, bc1_U, bisA_r, bisA_n, bisA_a, bct_i, bct_r, bct_n, bct_l, bcs_0, bcs_i, bcs_r, bcs_l, bcs_a, brt_0, brt_1, ↓bz0, ↓bz1, true_and, and_true, false_and, and_false, and_self, Nat.reduceAdd, Nat.reduceLeDiff, Nat.reduceSub, Nat.reduceEqDiff, ite_true, ite_false, if_true, if_false, h1, h2]
      simp [Int32.not_lt.mp h1, Int32.not_lt.mp h2]
theorem c_isDigit {b : Int32} : Call L xs d 60 [.int b] M Q = Q (some (.int (s_b2i (t_dg b)))) M := by
  rw [en60]
  unfold s_b2i t_dg
  by_cases h1 : b < 48
  · simp only [↓e60_0, ↓e60_1, ↓e60_3, ↓e60_6, ↓e60_7, ↓e60_9, ↓e60_12, ↓e60_13, ↓e60_16, ↓e60_17, bc1_a, bd1, bd2, bd3, bd4, bd5, bd6, bd7, bd8, bd9, bd10, bd11, bd12, bd13, bd14, bd15, bd16, bd17, bd18, bd19, bd20, bd21, bd22, bd23, bd24, bd25, bd26, bd27, bd28, bd29, bd30, bd31, bd32, bd33, bd34, bd35, bd36, bd37, bd38, bd39, bc1_i, bc1_r, bc1_n, bc1_U, bisA_r, bisA_n, bisA_a, bct_i, bct_r, bct_n, bct_l, bcs_0, bcs_i, bcs_r, bcs_l, bcs_a, brt_0, brt_1, ↓bz0, ↓bz1, true_and, and_true, false_and, and_false, and_self, Nat.reduceAdd, Nat.reduceLeDiff, Nat.reduceSub, Nat.reduceEqDiff, ite_true, ite_false, if_true, if_false, h1]
    simp [Int32.not_le.mpr h1]
  · by_cases h2 : 57 < b
    · simp only [↓e60_0, ↓e60_1, ↓e60_3, ↓e60_6, ↓e60_7, ↓e60_9, ↓e60_12, ↓e60_13, ↓e60_16, ↓e60_17, bc1_a, bd1, bd2, bd3, bd4, bd5, bd6, bd7, bd8, bd9, bd10, bd11, bd12, bd13, bd14, bd15, bd16, bd17, bd18, bd19, bd20, bd21, bd22, bd23, bd24, bd25, bd26, bd27, bd28, bd29, bd30, bd31, bd32, bd33, bd34, bd35, bd36, bd37, bd38, bd39, bc1_i, bc1_r, bc1_n, bc1_U, bisA_r, bisA_n, bisA_a, bct_i, bct_r, bct_n, bct_l, bcs_0, bcs_i, bcs_r, bcs_l, bcs_a, brt_0, brt_1, ↓bz0, ↓bz1, true_and, and_true, false_and, and_false, and_self, Nat.reduceAdd, Nat.reduceLeDiff, Nat.reduceSub, Nat.reduceEqDiff, ite_true, ite_false, if_true, if_false, h1, h2]
      simp [Int32.not_le.mpr h2]
    · simp only [↓e60_0, ↓e60_1, ↓e60_3, ↓e60_6, ↓e60_7, ↓e60_9, ↓e60_12, ↓e60_13, ↓e60_16, ↓e60_17, bc1_a, bd1, bd2, bd3, bd4, bd5, bd6, bd7, bd8, bd9, bd10, bd11, bd12, bd13, bd14, bd15, bd16, bd17, bd18, bd19, bd20, bd21, bd22, bd23, bd24, bd25, bd26, bd27, bd28, bd29, bd30, bd31, bd32, bd33, bd34, bd35, bd36, bd37, bd38, bd39, bc1_i, bc1_r, bc1_n, bc1_U, bisA_r, bisA_n, bisA_a, bct_i, bct_r, bct_n, bct_l, bcs_0, bcs_i, bcs_r, bcs_l, bcs_a, brt_0, brt_1, ↓bz0, ↓bz1, true_and, and_true, false_and, and_false, and_self, Nat.reduceAdd, Nat.reduceLeDiff, Nat.reduceSub, Nat.reduceEqDiff, ite_true, ite_false, if_true, if_false, h1, h2]
      simp [Int32.not_lt.mp h1, Int32.not_lt.mp h2]
theorem c_isSign {b : Int32} : Call L xs d 75 [.int b] M Q = Q (some (.int (s_b2i (t_sg b)))) M := by
  rw [en75]
  simp only [↓e75_0, ↓e75_1, ↓e75_3, ↓e75_6, ↓e75_7, ↓e75_9, ↓e75_12, ↓e75_13, ↓e75_15, ↓e75_18, ↓e75_19, ↓e75_21, ↓e75_24, ↓e75_25, ↓e75_27, ↓e75_30, ↓e75_31, ↓e75_33, ↓e75_36, ↓e75_37, ↓e75_39, ↓e75_42, ↓e75_43, ↓e75_45, ↓e75_48, ↓e75_49, ↓e75_52, ↓e75_53, bc1_a, bd1, bd2, bd3, bd4, bd5, bd6, bd7, bd8, bd9, bd10, bd11, bd12, bd13, bd14, bd15, bd16, bd17, bd18, bd19, bd20, bd21, bd22, bd23, bd24, bd25, bd26, bd27, bd28, bd29, bd30, bd31, bd32, bd33, bd34, bd35, bd36, bd37, bd38, bd39, bc1_i, bc1_r, bc1_n, bc1_U, bisA_r, bisA_n, bisA_a, bct_i, bct_r, bct_n, bct_l, bcs_0, bcs_i, bcs_r, bcs_l, bcs_a, brt_0, brt_1, ↓bz0, ↓bz1, true_and, and_true, false_and, and_false, and_self, Nat.reduceAdd, Nat.reduceLeDiff, Nat.reduceSub, Nat.reduceEqDiff, ite_true, ite_false, if_true, if_false]
  by_cases h1 : b = 40
  · rw [if_pos h1]; subst h1; rfl
  rw [if_neg h1]
  by_cases h2 : b = 41
  · rw [if_pos h2]; subst h2; rfl
  rw [if_neg h2]
  by_cases h3 : b = 59
  · rw [if_pos h3]; subst h3; rfl
  rw [if_neg h3]
  by_cases h4 : b = 43
  · rw [if_pos h4]; subst h4; rfl
  rw [if_neg h4]
  by_cases h5 : b = 45
  · rw [if_pos h5]; subst h5; rfl
  rw [if_neg h5]
  by_cases h6 : b = 42
  · rw [if_pos h6]; subst h6; rfl
  rw [if_neg h6]
  by_cases h7 : b = 60
  · rw [if_pos h7]; subst h7; rfl
  rw [if_neg h7]
  by_cases h8 : b = 61
  · rw [if_pos h8]; subst h8; rfl
  rw [if_neg h8]
  have : t_sg b = false := by unfold t_sg; simp [h1, h2, h3, h4, h5, h6, h7, h8]
  rw [this]; rfl
/-- texts -/
def sb_len (j : Nat) : Nat := (mm_sb.getD j []).length
theorem sb_lens : ∀ j, j < 13 → sb_len j < 100 := by decide +kernel
theorem sb_chr : ∀ j, j < 13 → ∀ i, i < sb_len j → ((((mm_sb.getD j []).getD i 0) &&& 255).toUInt32 % 65536).toInt32 = (mm_sb.getD j []).getD i 0 := by decide +kernel
theorem c_coder {j : Nat} (hj : j < 13) : Call L xs d 217 [.retAddr j] M Q = Q (some (.int 0)) M := by
  rw [en217]
  have h0 : narrow .byte (.int 0) = .int 0 := rfl
  have h1 : ((1 : Int32) = 0) = False := by simp
  simp only [↓e217_0, ↓e217_3, ↓e217_6, ↓e217_7, ↓e217_10, ↓e217_13, ↓e217_14, bc1_a, bd1, bd2, bd3, bd4, bd5, bd6, bd7, bd8, bd9, bd10, bd11, bd12, bd13, bd14, bd15, bd16, bd17, bd18, bd19, bd20, bd21, bd22, bd23, bd24, bd25, bd26, bd27, bd28, bd29, bd30, bd31, bd32, bd33, bd34, bd35, bd36, bd37, bd38, bd39, bc1_i, bc1_r, bc1_n, bc1_U, bisA_r, bisA_n, bisA_a, bct_i, bct_r, bct_n, bct_l, bcs_0, bcs_i, bcs_r, bcs_l, bcs_a, brt_0, brt_1, ↓bz0, ↓bz1, true_and, and_true, false_and, and_false, and_self, Nat.reduceAdd, Nat.reduceLeDiff, Nat.reduceSub, Nat.reduceEqDiff, ite_true, ite_false, if_true, if_false, hj, h0, h1]
theorem c_slen {j : Nat} (hj : j < 13) : Call L xs (d + 1) 215 [.retAddr j] M Q = Q (some (.int (nI (sb_len j)))) M := by
  rw [en215]
  have h1 : 100 ≤ j + 100 ∧ j + 100 < 113 := ⟨by omega, by omega⟩
  have h2 : j + 100 - 100 = j := by omega
  have h3 : nI (mm_sb.getD j []).length >>> ((0 : Int32) &&& 31) = nI (sb_len j) := sc_shr0 (Nat.lt_trans (sb_lens j hj) (by decide))
  simp only [↓e215_0, ↓e215_1, ↓e215_5, ↓e215_6, ↓e215_9, ↓e215_10, e215_4 h1, bc1_a, bd1, bd2, bd3, bd4, bd5, bd6, bd7, bd8, bd9, bd10, bd11, bd12, bd13, bd14, bd15, bd16, bd17, bd18, bd19, bd20, bd21, bd22, bd23, bd24, bd25, bd26, bd27, bd28, bd29, bd30, bd31, bd32, bd33, bd34, bd35, bd36, bd37, bd38, bd39, bc1_i, bc1_r, bc1_n, bc1_U, bisA_r, bisA_n, bisA_a, bct_i, bct_r, bct_n, bct_l, bcs_0, bcs_i, bcs_r, bcs_l, bcs_a, brt_0, brt_1, ↓bz0, ↓bz1, true_and, and_true, false_and, and_false, and_self, Nat.reduceAdd, Nat.reduceLeDiff, Nat.reduceSub, Nat.reduceEqDiff, ite_true, ite_false, if_true, if_false, hj, h2, c_coder hj, h3]
theorem c_latin {j : Nat} (hj : j < 13) : Call L xs d 218 [.retAddr j] M Q = Q (some (.int 1)) M := by
  rw [en218]
  have h1 : ((1 : Int32) = 0) = False := by simp
  have h2 : ((0 : Int32) = 0) = True := by simp
  have h3 : ((1 : Int32) = 0 ∨ (1 : Int32) = 1) := Or.inr rfl
  simp only [↓e218_0, ↓e218_3, ↓e218_6, ↓e218_7, ↓e218_10, ↓e218_13, ↓e218_14, ↓e218_17, ↓e218_18, bc1_a, bd1, bd2, bd3, bd4, bd5, bd6, bd7, bd8, bd9, bd10, bd11, bd12, bd13, bd14, bd15, bd16, bd17, bd18, bd19, bd20, bd21, bd22, bd23, bd24, bd25, bd26, bd27, bd28, bd29, bd30, bd31, bd32, bd33, bd34, bd35, bd36, bd37, bd38, bd39, bc1_i, bc1_r, bc1_n, bc1_U, bisA_r, bisA_n, bisA_a, bct_i, bct_r, bct_n, bct_l, bcs_0, bcs_i, bcs_r, bcs_l, bcs_a, brt_0, brt_1, ↓bz0, ↓bz1, true_and, and_true, false_and, and_false, and_self, Nat.reduceAdd, Nat.reduceLeDiff, Nat.reduceSub, Nat.reduceEqDiff, ite_true, ite_false, if_true, if_false, hj, h1, h2, h3]
theorem c_chk1 {x y : Int32} {a : Nat} (h0 : ¬ x < 0) (h1 : x < y) : Call L xs d 223 [.int x, .int y, .retAddr a] M Q = Q (some (.int x)) M := by
  rw [en223]
  simp only [↓e223_0, ↓e223_1, ↓e223_4, ↓e223_5, ↓e223_6, ↓e223_9, ↓e223_10, ↓e223_11, ↓e223_16, ↓e223_17, bc1_a, bd1, bd2, bd3, bd4, bd5, bd6, bd7, bd8, bd9, bd10, bd11, bd12, bd13, bd14, bd15, bd16, bd17, bd18, bd19, bd20, bd21, bd22, bd23, bd24, bd25, bd26, bd27, bd28, bd29, bd30, bd31, bd32, bd33, bd34, bd35, bd36, bd37, bd38, bd39, bc1_i, bc1_r, bc1_n, bc1_U, bisA_r, bisA_n, bisA_a, bct_i, bct_r, bct_n, bct_l, bcs_0, bcs_i, bcs_r, bcs_l, bcs_a, brt_0, brt_1, ↓bz0, ↓bz1, true_and, and_true, false_and, and_false, and_self, Nat.reduceAdd, Nat.reduceLeDiff, Nat.reduceSub, Nat.reduceEqDiff, ite_true, ite_false, if_true, if_false, h0, h1]
theorem c_chk2 {x y : Int32} (h0 : ¬ x < 0) (h1 : x < y) : Call L xs (d + 1) 219 [.int x, .int y] M Q = Q none M := by
  rw [en219]
  simp only [↓e219_0, ↓e219_1, ↓e219_2, ↓e219_5, ↓e219_8, ↓e219_9, bc1_a, bd1, bd2, bd3, bd4, bd5, bd6, bd7, bd8, bd9, bd10, bd11, bd12, bd13, bd14, bd15, bd16, bd17, bd18, bd19, bd20, bd21, bd22, bd23, bd24, bd25, bd26, bd27, bd28, bd29, bd30, bd31, bd32, bd33, bd34, bd35, bd36, bd37, bd38, bd39, bc1_i, bc1_r, bc1_n, bc1_U, bisA_r, bisA_n, bisA_a, bct_i, bct_r, bct_n, bct_l, bcs_0, bcs_i, bcs_r, bcs_l, bcs_a, brt_0, brt_1, ↓bz0, ↓bz1, true_and, and_true, false_and, and_false, and_self, Nat.reduceAdd, Nat.reduceLeDiff, Nat.reduceSub, Nat.reduceEqDiff, ite_true, ite_false, if_true, if_false, c_chk1 h0 h1]
theorem c_chr1 {j i : Nat} (hj : j < 13) (hi : i < sb_len j) : Call L xs (d + 2) 220 [.retAddr (j + 100), .int (nI i)] M Q = Q (some (.int ((mm_sb.getD j []).getD i 0))) M := by
  rw [en220]
  have hl := sb_lens j hj
  have h1 : 100 ≤ j + 100 ∧ j + 100 < 113 := ⟨by omega, by omega⟩
  have h2 : j + 100 - 100 = j := by omega
  have h3 : ¬ nI i < 0 := nI_pos (by omega)
  have h4 : nI i < nI (mm_sb.getD j []).length := nI_lt hi (by unfold sb_len at hl; omega)
  have h5 : 0 ≤ nI i := nI_pos' (by omega)
  have h6 : (nI i).toNatClampNeg = i := nI_clamp (by omega)
  have h7 : i < (mm_sb.getD j []).length := hi
  have h8 := sb_chr j hj i hi
  have h9 : narrow .char (.int ((mm_sb.getD j []).getD i 0)) = .int ((mm_sb.getD j []).getD i 0) := by
    have := pk_nc ((mm_sb.getD j []).getD i 0 &&& 255)
    rw [h8] at this
    exact this
  simp only [↓e220_0, ↓e220_1, ↓e220_3, ↓e220_6, ↓e220_7, ↓e220_9, ↓e220_12, ↓e220_13, ↓e220_14, e220_2 (j := j + 100) h1, e220_8 (j := j + 100) (k := nI i) h1 h5 (by rw [h2, h6]; exact h7), bc1_a, bd1, bd2, bd3, bd4, bd5, bd6, bd7, bd8, bd9, bd10, bd11, bd12, bd13, bd14, bd15, bd16, bd17, bd18, bd19, bd20, bd21, bd22, bd23, bd24, bd25, bd26, bd27, bd28, bd29, bd30, bd31, bd32, bd33, bd34, bd35, bd36, bd37, bd38, bd39, bc1_i, bc1_r, bc1_n, bc1_U, bisA_r, bisA_n, bisA_a, bct_i, bct_r, bct_n, bct_l, bcs_0, bcs_i, bcs_r, bcs_l, bcs_a, brt_0, brt_1, ↓bz0, ↓bz1, true_and, and_true, false_and, and_false, and_self, Nat.reduceAdd, Nat.reduceLeDiff, Nat.reduceSub, Nat.reduceEqDiff, ite_true, ite_false, if_true, if_false, h2, c_chk2 h3 h4, h6, h8, h9]
theorem c_chr {j i : Nat} (hj : j < 13) (hi : i < sb_len j) : Call L xs (d + 3) 216 [.retAddr j, .int (nI i)] M Q = Q (some (.int ((mm_sb.getD j []).getD i 0))) M := by
  rw [en216]
  have h1 : ((1 : Int32) = 0) = False := by simp
  have h8 := sb_chr j hj i hi
  have h9 : narrow .char (.int ((mm_sb.getD j []).getD i 0)) = .int ((mm_sb.getD j []).getD i 0) := by
    have := pk_nc ((mm_sb.getD j []).getD i 0 &&& 255)
    rw [h8] at this
    exact this
  simp only [↓e216_0, ↓e216_1, ↓e216_4, ↓e216_7, ↓e216_8, ↓e216_11, ↓e216_12, ↓e216_15, ↓e216_16, ↓e216_17, ↓e216_20, ↓e216_24, bc1_a, bd1, bd2, bd3, bd4, bd5, bd6, bd7, bd8, bd9, bd10, bd11, bd12, bd13, bd14, bd15, bd16, bd17, bd18, bd19, bd20, bd21, bd22, bd23, bd24, bd25, bd26, bd27, bd28, bd29, bd30, bd31, bd32, bd33, bd34, bd35, bd36, bd37, bd38, bd39, bc1_i, bc1_r, bc1_n, bc1_U, bisA_r, bisA_n, bisA_a, bct_i, bct_r, bct_n, bct_l, bcs_0, bcs_i, bcs_r, bcs_l, bcs_a, brt_0, brt_1, ↓bz0, ↓bz1, true_and, and_true, false_and, and_false, and_self, Nat.reduceAdd, Nat.reduceLeDiff, Nat.reduceSub, Nat.reduceEqDiff, ite_true, ite_false, if_true, if_false, c_latin hj, hj, h1, c_chr1 hj hi, h9]
end
