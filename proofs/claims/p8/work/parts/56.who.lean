/-! THE VASE: who is there; kinds -/
def s_isI (x cnt : Int32) : Bool := !decide (x < 0) && decide (x < cnt)
def s_has (V : Nat → Nat → Int32) (what of : Int32) : Bool := if what = 0 then true else if what = 1 then true else if what = 2 then s_isI of (V 0 3) else if what = 6 then s_isI of (V 0 3) else if what = 13 then true else s_isI of (V 0 6)
def s_above (k : Int32) : Int32 := if k = 0 then -1 else if k = 3 then 1 else if k = 4 then 2 else 0
def s_underR (above : Int32) : Nat → Int32 → Bool
  | 0, _ => false
  | n + 1, k => if k = -1 then false else if k = above then true else s_underR above n (s_above k)
section
variable {L : Nat} {xs : Nat → Int32} {d : Nat} {M : mm_H} {Q : Option Value → mm_H → Prop}
theorem c_isPerson {v : Nat} {x : Int32} (hv : SV M v) : Call L xs d 79 [.ref v, .int x] M Q = Q (some (.int (s_b2i (s_isI x (Vw M v 0 3))))) M := by
  have v0 := hv.1.1
  rw [en79]
  unfold s_isI
  rw [Vw_at (by decide)]
  by_cases h : x < 0
  · rw [decide_eq_true h]
    simp only [↓e79_0, ↓e79_1, ↓e79_4, ↓e79_5, ↓e79_6, ↓e79_9, ↓e79_12, ↓e79_13, ↓e79_16, ↓e79_17, bc1_a, bd1, bd2, bd3, bd4, bd5, bd6, bd7, bd8, bd9, bd10, bd11, bd12, bd13, bd14, bd15, bd16, bd17, bd18, bd19, bd20, bd21, bd22, bd23, bd24, bd25, bd26, bd27, bd28, bd29, bd30, bd31, bd32, bd33, bd34, bd35, bd36, bd37, bd38, bd39, bc1_i, bc1_r, bc1_n, bc1_U, bisA_r, bisA_n, bisA_a, bct_i, bct_r, bct_n, bct_l, bcs_0, bcs_i, bcs_r, bcs_l, bcs_a, brt_0, brt_1, ↓bz0, ↓bz1, true_and, and_true, false_and, and_false, and_self, Nat.reduceAdd, Nat.reduceLeDiff, Nat.reduceSub, Nat.reduceEqDiff, ite_true, ite_false, if_true, if_false, v0, h]
    rfl
  · rw [decide_eq_false h]
    by_cases h2 : x < gI M v 3
    · rw [decide_eq_true (show x < gI M (v + 0) 3 from h2)]
      simp only [↓e79_0, ↓e79_1, ↓e79_4, ↓e79_5, ↓e79_6, ↓e79_9, ↓e79_12, ↓e79_13, ↓e79_16, ↓e79_17, bc1_a, bd1, bd2, bd3, bd4, bd5, bd6, bd7, bd8, bd9, bd10, bd11, bd12, bd13, bd14, bd15, bd16, bd17, bd18, bd19, bd20, bd21, bd22, bd23, bd24, bd25, bd26, bd27, bd28, bd29, bd30, bd31, bd32, bd33, bd34, bd35, bd36, bd37, bd38, bd39, bc1_i, bc1_r, bc1_n, bc1_U, bisA_r, bisA_n, bisA_a, bct_i, bct_r, bct_n, bct_l, bcs_0, bcs_i, bcs_r, bcs_l, bcs_a, brt_0, brt_1, ↓bz0, ↓bz1, true_and, and_true, false_and, and_false, and_self, Nat.reduceAdd, Nat.reduceLeDiff, Nat.reduceSub, Nat.reduceEqDiff, ite_true, ite_false, if_true, if_false, v0, h, h2]
      rfl
    · rw [decide_eq_false (show ¬ x < gI M (v + 0) 3 from h2)]
      simp only [↓e79_0, ↓e79_1, ↓e79_4, ↓e79_5, ↓e79_6, ↓e79_9, ↓e79_12, ↓e79_13, ↓e79_16, ↓e79_17, bc1_a, bd1, bd2, bd3, bd4, bd5, bd6, bd7, bd8, bd9, bd10, bd11, bd12, bd13, bd14, bd15, bd16, bd17, bd18, bd19, bd20, bd21, bd22, bd23, bd24, bd25, bd26, bd27, bd28, bd29, bd30, bd31, bd32, bd33, bd34, bd35, bd36, bd37, bd38, bd39, bc1_i, bc1_r, bc1_n, bc1_U, bisA_r, bisA_n, bisA_a, bct_i, bct_r, bct_n, bct_l, bcs_0, bcs_i, bcs_r, bcs_l, bcs_a, brt_0, brt_1, ↓bz0, ↓bz1, true_and, and_true, false_and, and_false, and_self, Nat.reduceAdd, Nat.reduceLeDiff, Nat.reduceSub, Nat.reduceEqDiff, ite_true, ite_false, if_true, if_false, v0, h, h2]
      rfl
theorem c_isSeam {v : Nat} {x : Int32} (hv : SV M v) : Call L xs d 80 [.ref v, .int x] M Q = Q (some (.int (s_b2i (s_isI x (Vw M v 0 6))))) M := by
  have v0 := hv.1.1
  rw [en80]
  unfold s_isI
  rw [Vw_at (by decide)]
  by_cases h : x < 0
  · rw [decide_eq_true h]
    simp only [↓e80_0, ↓e80_1, ↓e80_4, ↓e80_5, ↓e80_6, ↓e80_9, ↓e80_12, ↓e80_13, ↓e80_16, ↓e80_17, bc1_a, bd1, bd2, bd3, bd4, bd5, bd6, bd7, bd8, bd9, bd10, bd11, bd12, bd13, bd14, bd15, bd16, bd17, bd18, bd19, bd20, bd21, bd22, bd23, bd24, bd25, bd26, bd27, bd28, bd29, bd30, bd31, bd32, bd33, bd34, bd35, bd36, bd37, bd38, bd39, bc1_i, bc1_r, bc1_n, bc1_U, bisA_r, bisA_n, bisA_a, bct_i, bct_r, bct_n, bct_l, bcs_0, bcs_i, bcs_r, bcs_l, bcs_a, brt_0, brt_1, ↓bz0, ↓bz1, true_and, and_true, false_and, and_false, and_self, Nat.reduceAdd, Nat.reduceLeDiff, Nat.reduceSub, Nat.reduceEqDiff, ite_true, ite_false, if_true, if_false, v0, h]
    rfl
  · rw [decide_eq_false h]
    by_cases h2 : x < gI M v 6
    · rw [decide_eq_true (show x < gI M (v + 0) 6 from h2)]
      simp only [↓e80_0, ↓e80_1, ↓e80_4, ↓e80_5, ↓e80_6, ↓e80_9, ↓e80_12, ↓e80_13, ↓e80_16, ↓e80_17, bc1_a, bd1, bd2, bd3, bd4, bd5, bd6, bd7, bd8, bd9, bd10, bd11, bd12, bd13, bd14, bd15, bd16, bd17, bd18, bd19, bd20, bd21, bd22, bd23, bd24, bd25, bd26, bd27, bd28, bd29, bd30, bd31, bd32, bd33, bd34, bd35, bd36, bd37, bd38, bd39, bc1_i, bc1_r, bc1_n, bc1_U, bisA_r, bisA_n, bisA_a, bct_i, bct_r, bct_n, bct_l, bcs_0, bcs_i, bcs_r, bcs_l, bcs_a, brt_0, brt_1, ↓bz0, ↓bz1, true_and, and_true, false_and, and_false, and_self, Nat.reduceAdd, Nat.reduceLeDiff, Nat.reduceSub, Nat.reduceEqDiff, ite_true, ite_false, if_true, if_false, v0, h, h2]
      rfl
    · rw [decide_eq_false (show ¬ x < gI M (v + 0) 6 from h2)]
      simp only [↓e80_0, ↓e80_1, ↓e80_4, ↓e80_5, ↓e80_6, ↓e80_9, ↓e80_12, ↓e80_13, ↓e80_16, ↓e80_17, bc1_a, bd1, bd2, bd3, bd4, bd5, bd6, bd7, bd8, bd9, bd10, bd11, bd12, bd13, bd14, bd15, bd16, bd17, bd18, bd19, bd20, bd21, bd22, bd23, bd24, bd25, bd26, bd27, bd28, bd29, bd30, bd31, bd32, bd33, bd34, bd35, bd36, bd37, bd38, bd39, bc1_i, bc1_r, bc1_n, bc1_U, bisA_r, bisA_n, bisA_a, bct_i, bct_r, bct_n, bct_l, bcs_0, bcs_i, bcs_r, bcs_l, bcs_a, brt_0, brt_1, ↓bz0, ↓bz1, true_and, and_true, false_and, and_false, and_self, Nat.reduceAdd, Nat.reduceLeDiff, Nat.reduceSub, Nat.reduceEqDiff, ite_true, ite_false, if_true, if_false, v0, h, h2]
      rfl
theorem b2i_01 (b : Bool) : (s_b2i b = 0 ∨ s_b2i b = 1) = True := by
  cases b
  · exact eq_true (Or.inl rfl)
  · exact eq_true (Or.inr rfl)
theorem c_has {v : Nat} {what of : Int32} (hv : SV M v) : Call L xs (d + 1) 84 [.ref v, .int what, .int of] M Q = Q (some (.int (s_b2i (s_has (Vw M v) what of)))) M := by
  have v0 := hv.1.1
  rw [en84]
  unfold s_has
  simp only [↓e84_0, ↓e84_1, ↓e84_72, ↓e84_73, ↓e84_74, ↓e84_75, ↓e84_76, ↓e84_79, ↓e84_80, ↓e84_81, ↓e84_82, ↓e84_85, bc1_a, bd1, bd2, bd3, bd4, bd5, bd6, bd7, bd8, bd9, bd10, bd11, bd12, bd13, bd14, bd15, bd16, bd17, bd18, bd19, bd20, bd21, bd22, bd23, bd24, bd25, bd26, bd27, bd28, bd29, bd30, bd31, bd32, bd33, bd34, bd35, bd36, bd37, bd38, bd39, bc1_i, bc1_r, bc1_n, bc1_U, bisA_r, bisA_n, bisA_a, bct_i, bct_r, bct_n, bct_l, bcs_0, bcs_i, bcs_r, bcs_l, bcs_a, brt_0, brt_1, ↓bz0, ↓bz1, true_and, and_true, false_and, and_false, and_self, Nat.reduceAdd, Nat.reduceLeDiff, Nat.reduceSub, Nat.reduceEqDiff, ite_true, ite_false, if_true, if_false]
  by_cases h0 : what = 0
  · rw [if_pos h0, if_pos h0]; rfl
  rw [if_neg h0, if_neg h0]
  by_cases h1 : what = 1
  · rw [if_pos h1, if_pos h1]; rfl
  rw [if_neg h1, if_neg h1]
  by_cases h2 : what = 2
  · rw [if_pos h2, if_pos h2]; simp only [↓e84_0, ↓e84_1, ↓e84_72, ↓e84_73, ↓e84_74, ↓e84_75, ↓e84_76, ↓e84_79, ↓e84_80, ↓e84_81, ↓e84_82, ↓e84_85, bc1_a, bd1, bd2, bd3, bd4, bd5, bd6, bd7, bd8, bd9, bd10, bd11, bd12, bd13, bd14, bd15, bd16, bd17, bd18, bd19, bd20, bd21, bd22, bd23, bd24, bd25, bd26, bd27, bd28, bd29, bd30, bd31, bd32, bd33, bd34, bd35, bd36, bd37, bd38, bd39, bc1_i, bc1_r, bc1_n, bc1_U, bisA_r, bisA_n, bisA_a, bct_i, bct_r, bct_n, bct_l, bcs_0, bcs_i, bcs_r, bcs_l, bcs_a, brt_0, brt_1, ↓bz0, ↓bz1, true_and, and_true, false_and, and_false, and_self, Nat.reduceAdd, Nat.reduceLeDiff, Nat.reduceSub, Nat.reduceEqDiff, ite_true, ite_false, if_true, if_false, v0, c_isPerson hv, ↓b2i_01]
  rw [if_neg h2, if_neg h2]
  by_cases h6 : what = 6
  · rw [if_pos h6, if_pos h6]; simp only [↓e84_0, ↓e84_1, ↓e84_72, ↓e84_73, ↓e84_74, ↓e84_75, ↓e84_76, ↓e84_79, ↓e84_80, ↓e84_81, ↓e84_82, ↓e84_85, bc1_a, bd1, bd2, bd3, bd4, bd5, bd6, bd7, bd8, bd9, bd10, bd11, bd12, bd13, bd14, bd15, bd16, bd17, bd18, bd19, bd20, bd21, bd22, bd23, bd24, bd25, bd26, bd27, bd28, bd29, bd30, bd31, bd32, bd33, bd34, bd35, bd36, bd37, bd38, bd39, bc1_i, bc1_r, bc1_n, bc1_U, bisA_r, bisA_n, bisA_a, bct_i, bct_r, bct_n, bct_l, bcs_0, bcs_i, bcs_r, bcs_l, bcs_a, brt_0, brt_1, ↓bz0, ↓bz1, true_and, and_true, false_and, and_false, and_self, Nat.reduceAdd, Nat.reduceLeDiff, Nat.reduceSub, Nat.reduceEqDiff, ite_true, ite_false, if_true, if_false, v0, c_isPerson hv, ↓b2i_01]
  rw [if_neg h6, if_neg h6]
  by_cases h13 : what = 13
  · rw [if_pos h13, if_pos h13]; rfl
  rw [if_neg h13, if_neg h13]
  simp only [↓e84_0, ↓e84_1, ↓e84_72, ↓e84_73, ↓e84_74, ↓e84_75, ↓e84_76, ↓e84_79, ↓e84_80, ↓e84_81, ↓e84_82, ↓e84_85, bc1_a, bd1, bd2, bd3, bd4, bd5, bd6, bd7, bd8, bd9, bd10, bd11, bd12, bd13, bd14, bd15, bd16, bd17, bd18, bd19, bd20, bd21, bd22, bd23, bd24, bd25, bd26, bd27, bd28, bd29, bd30, bd31, bd32, bd33, bd34, bd35, bd36, bd37, bd38, bd39, bc1_i, bc1_r, bc1_n, bc1_U, bisA_r, bisA_n, bisA_a, bct_i, bct_r, bct_n, bct_l, bcs_0, bcs_i, bcs_r, bcs_l, bcs_a, brt_0, brt_1, ↓bz0, ↓bz1, true_and, and_true, false_and, and_false, and_self, Nat.reduceAdd, Nat.reduceLeDiff, Nat.reduceSub, Nat.reduceEqDiff, ite_true, ite_false, if_true, if_false, v0, c_isSeam hv, ↓b2i_01]
theorem c_everybody {v : Nat} (hv : SV M v) : Call L xs d 81 [.ref v] M Q = Q (some (.int ((1 <<< (gI M v 3 &&& 31)) - 1))) M := by
  have v0 := hv.1.1
  rw [en81]
  simp only [↓e81_0, ↓e81_1, ↓e81_2, ↓e81_5, ↓e81_6, ↓e81_7, ↓e81_8, bc1_a, bd1, bd2, bd3, bd4, bd5, bd6, bd7, bd8, bd9, bd10, bd11, bd12, bd13, bd14, bd15, bd16, bd17, bd18, bd19, bd20, bd21, bd22, bd23, bd24, bd25, bd26, bd27, bd28, bd29, bd30, bd31, bd32, bd33, bd34, bd35, bd36, bd37, bd38, bd39, bc1_i, bc1_r, bc1_n, bc1_U, bisA_r, bisA_n, bisA_a, bct_i, bct_r, bct_n, bct_l, bcs_0, bcs_i, bcs_r, bcs_l, bcs_a, brt_0, brt_1, ↓bz0, ↓bz1, true_and, and_true, false_and, and_false, and_self, Nat.reduceAdd, Nat.reduceLeDiff, Nat.reduceSub, Nat.reduceEqDiff, ite_true, ite_false, if_true, if_false, v0]
theorem c_above {k : Int32} : Call L xs d 39 [.int k] M Q = Q (some (.int (s_above k))) M := by
  rw [en39]
  unfold s_above
  simp only [↓e39_0, ↓e39_1, ↓e39_36, ↓e39_37, ↓e39_38, ↓e39_39, ↓e39_40, ↓e39_41, ↓e39_42, ↓e39_43, bc1_a, bd1, bd2, bd3, bd4, bd5, bd6, bd7, bd8, bd9, bd10, bd11, bd12, bd13, bd14, bd15, bd16, bd17, bd18, bd19, bd20, bd21, bd22, bd23, bd24, bd25, bd26, bd27, bd28, bd29, bd30, bd31, bd32, bd33, bd34, bd35, bd36, bd37, bd38, bd39, bc1_i, bc1_r, bc1_n, bc1_U, bisA_r, bisA_n, bisA_a, bct_i, bct_r, bct_n, bct_l, bcs_0, bcs_i, bcs_r, bcs_l, bcs_a, brt_0, brt_1, ↓bz0, ↓bz1, true_and, and_true, false_and, and_false, and_self, Nat.reduceAdd, Nat.reduceLeDiff, Nat.reduceSub, Nat.reduceEqDiff, ite_true, ite_false, if_true, if_false]
  by_cases h0 : k = 0
  · rw [if_pos h0, if_pos h0]
  rw [if_neg h0, if_neg h0]
  by_cases h3 : k = 3
  · rw [if_pos h3, if_pos h3]
  rw [if_neg h3, if_neg h3]
  by_cases h4 : k = 4
  · rw [if_pos h4, if_pos h4]
  rw [if_neg h4, if_neg h4]
theorem l_under {k0 above : Int32} : ∀ (n i : Nat) (k : Int32), i + n = 6 → Wp L xs (d + 1) 38 4 [.int k0, .int above, .int k, .int (nI i)] [] M Q = Q (some (.int (s_b2i (s_underR above n k)))) M := by
  intro n
  induction n with
  | zero =>
    intro i k hi
    have hc : (nI i < 6) = False := nI_lt0 (a := i) (b := 6) (by omega) (by omega)
    rw [e38_4]
    simp only [↓e38_0, ↓e38_1, ↓e38_2, ↓e38_3, ↓e38_5, ↓e38_7, ↓e38_10, ↓e38_11, ↓e38_12, ↓e38_15, ↓e38_16, ↓e38_17, ↓e38_20, ↓e38_21, ↓e38_22, ↓e38_23, ↓e38_26, ↓e38_27, ↓e38_30, ↓e38_33, ↓e38_34, bc1_a, bd1, bd2, bd3, bd4, bd5, bd6, bd7, bd8, bd9, bd10, bd11, bd12, bd13, bd14, bd15, bd16, bd17, bd18, bd19, bd20, bd21, bd22, bd23, bd24, bd25, bd26, bd27, bd28, bd29, bd30, bd31, bd32, bd33, bd34, bd35, bd36, bd37, bd38, bd39, bc1_i, bc1_r, bc1_n, bc1_U, bisA_r, bisA_n, bisA_a, bct_i, bct_r, bct_n, bct_l, bcs_0, bcs_i, bcs_r, bcs_l, bcs_a, brt_0, brt_1, ↓bz0, ↓bz1, true_and, and_true, false_and, and_false, and_self, Nat.reduceAdd, Nat.reduceLeDiff, Nat.reduceSub, Nat.reduceEqDiff, ite_true, ite_false, if_true, if_false, hc]
    rfl
  | succ n ih =>
    intro i k hi
    have hc : (nI i < 6) = True := nI_lt1 (a := i) (b := 6) (by omega) (by omega)
    have hih := ih (i + 1) (s_above k) (by omega)
    rw [s_underR, e38_4]
    by_cases h1 : k = -1
    · rw [if_pos h1]
      simp only [↓e38_0, ↓e38_1, ↓e38_2, ↓e38_3, ↓e38_5, ↓e38_7, ↓e38_10, ↓e38_11, ↓e38_12, ↓e38_15, ↓e38_16, ↓e38_17, ↓e38_20, ↓e38_21, ↓e38_22, ↓e38_23, ↓e38_26, ↓e38_27, ↓e38_30, ↓e38_33, ↓e38_34, bc1_a, bd1, bd2, bd3, bd4, bd5, bd6, bd7, bd8, bd9, bd10, bd11, bd12, bd13, bd14, bd15, bd16, bd17, bd18, bd19, bd20, bd21, bd22, bd23, bd24, bd25, bd26, bd27, bd28, bd29, bd30, bd31, bd32, bd33, bd34, bd35, bd36, bd37, bd38, bd39, bc1_i, bc1_r, bc1_n, bc1_U, bisA_r, bisA_n, bisA_a, bct_i, bct_r, bct_n, bct_l, bcs_0, bcs_i, bcs_r, bcs_l, bcs_a, brt_0, brt_1, ↓bz0, ↓bz1, true_and, and_true, false_and, and_false, and_self, Nat.reduceAdd, Nat.reduceLeDiff, Nat.reduceSub, Nat.reduceEqDiff, ite_true, ite_false, if_true, if_false, hc, h1]
      rfl
    rw [if_neg h1]
    by_cases h2 : k = above
    · rw [if_pos h2]
      subst h2
      simp only [↓e38_0, ↓e38_1, ↓e38_2, ↓e38_3, ↓e38_5, ↓e38_7, ↓e38_10, ↓e38_11, ↓e38_12, ↓e38_15, ↓e38_16, ↓e38_17, ↓e38_20, ↓e38_21, ↓e38_22, ↓e38_23, ↓e38_26, ↓e38_27, ↓e38_30, ↓e38_33, ↓e38_34, bc1_a, bd1, bd2, bd3, bd4, bd5, bd6, bd7, bd8, bd9, bd10, bd11, bd12, bd13, bd14, bd15, bd16, bd17, bd18, bd19, bd20, bd21, bd22, bd23, bd24, bd25, bd26, bd27, bd28, bd29, bd30, bd31, bd32, bd33, bd34, bd35, bd36, bd37, bd38, bd39, bc1_i, bc1_r, bc1_n, bc1_U, bisA_r, bisA_n, bisA_a, bct_i, bct_r, bct_n, bct_l, bcs_0, bcs_i, bcs_r, bcs_l, bcs_a, brt_0, brt_1, ↓bz0, ↓bz1, true_and, and_true, false_and, and_false, and_self, Nat.reduceAdd, Nat.reduceLeDiff, Nat.reduceSub, Nat.reduceEqDiff, ite_true, ite_false, if_true, if_false, hc, h1]
      rfl
    · rw [if_neg h2, ← hih]
      simp only [↓e38_0, ↓e38_1, ↓e38_2, ↓e38_3, ↓e38_5, ↓e38_7, ↓e38_10, ↓e38_11, ↓e38_12, ↓e38_15, ↓e38_16, ↓e38_17, ↓e38_20, ↓e38_21, ↓e38_22, ↓e38_23, ↓e38_26, ↓e38_27, ↓e38_30, ↓e38_33, ↓e38_34, bc1_a, bd1, bd2, bd3, bd4, bd5, bd6, bd7, bd8, bd9, bd10, bd11, bd12, bd13, bd14, bd15, bd16, bd17, bd18, bd19, bd20, bd21, bd22, bd23, bd24, bd25, bd26, bd27, bd28, bd29, bd30, bd31, bd32, bd33, bd34, bd35, bd36, bd37, bd38, bd39, bc1_i, bc1_r, bc1_n, bc1_U, bisA_r, bisA_n, bisA_a, bct_i, bct_r, bct_n, bct_l, bcs_0, bcs_i, bcs_r, bcs_l, bcs_a, brt_0, brt_1, ↓bz0, ↓bz1, true_and, and_true, false_and, and_false, and_self, Nat.reduceAdd, Nat.reduceLeDiff, Nat.reduceSub, Nat.reduceEqDiff, ite_true, ite_false, if_true, if_false, hc, h1, h2, c_above, nI_1]
theorem c_under {k above : Int32} : Call L xs (d + 1) 38 [.int k, .int above] M Q = Q (some (.int (s_b2i (s_underR above 6 k)))) M := by
  have h := l_under (L := L) (xs := xs) (d := d) (M := M) (Q := Q) (k0 := k) (above := above) 6 0 k rfl
  rw [en38]
  simp only [↓e38_0, ↓e38_1, ↓e38_2, ↓e38_3, ↓e38_5, ↓e38_7, ↓e38_10, ↓e38_11, ↓e38_12, ↓e38_15, ↓e38_16, ↓e38_17, ↓e38_20, ↓e38_21, ↓e38_22, ↓e38_23, ↓e38_26, ↓e38_27, ↓e38_30, ↓e38_33, ↓e38_34, bc1_a, bd1, bd2, bd3, bd4, bd5, bd6, bd7, bd8, bd9, bd10, bd11, bd12, bd13, bd14, bd15, bd16, bd17, bd18, bd19, bd20, bd21, bd22, bd23, bd24, bd25, bd26, bd27, bd28, bd29, bd30, bd31, bd32, bd33, bd34, bd35, bd36, bd37, bd38, bd39, bc1_i, bc1_r, bc1_n, bc1_U, bisA_r, bisA_n, bisA_a, bct_i, bct_r, bct_n, bct_l, bcs_0, bcs_i, bcs_r, bcs_l, bcs_a, brt_0, brt_1, ↓bz0, ↓bz1, true_and, and_true, false_and, and_false, and_self, Nat.reduceAdd, Nat.reduceLeDiff, Nat.reduceSub, Nat.reduceEqDiff, ite_true, ite_false, if_true, if_false]
  exact h
end
