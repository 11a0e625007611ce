/-! THE VASE: put -/
def Svv (v o : Nat) : Prop := v ≤ o ∧ o < v + 8
def s_put (V : Nat → Nat → Int32) (what of x : Int32) : Nat → Nat → Int32 :=
  if s_has V what of = true then (if what = 0 then s_set V 0 1 x else if what = 1 then s_set V 0 2 x else if what = 2 then s_set V 2 of.toNatClampNeg x else if what = 3 then s_set V 5 of.toNatClampNeg x else if what = 4 then s_set V 6 of.toNatClampNeg x else if what = 5 then s_set V 4 of.toNatClampNeg x else if what = 6 then s_set V 1 of.toNatClampNeg x else if what = 13 then s_set V 0 12 x else V) else V
theorem isI_of {x : Int32} {m : Nat} (hm : m < 2147483648) (h : s_isI x (nI m) = true) : ∃ j : Nat, j < m ∧ x = nI j := by
  unfold s_isI at h
  by_cases h0 : x < 0
  · rw [decide_eq_true h0] at h; cases h
  · by_cases h1 : x < nI m
    · obtain ⟨j, hj, e⟩ := nI_of h0
      exact ⟨j, (nI_ltI hj hm).mp (by rw [← e]; exact h1), e⟩
    · rw [decide_eq_false h0, decide_eq_false h1] at h; cases h
section
variable {L : Nat} {xs : Nat → Int32} {d : Nat} {M : mm_H} {Q : Option Value → mm_H → Prop}
theorem c_put {v n pp : Nat} {what of x : Int32} (hv : SV M v) (hn : gI M v 6 = nI n) (h10 : n ≤ 10) (hpp : gI M v 3 = nI pp) (hp6 : pp ≤ 6)
    (hq : ∀ M', Fr (Svv v) M M' → Vw M' v = s_put (Vw M v) what of x → Q none M') : Call L xs (d + 2) 86 [.ref v, .int what, .int of, .int x] M Q := by
  obtain ⟨⟨v0, v1, v2, v3, v4, v5, v6, v7, v8⟩, ⟨w1, w2, w3, w4, w5, w6, w7⟩, x1, x2, x3, x4, x5, x6, x7⟩ := id hv
  have hf : ∀ j k, j < 8 → Fr (Svv v) M (pI M (v + j) k x) := fun j k hj => Fr.put ⟨by omega, by omega⟩
  rw [en86]
  by_cases hh : s_has (Vw M v) what of = true
  · simp only [↓e86_0, ↓e86_1, ↓e86_2, ↓e86_3, ↓e86_6, ↓e86_9, ↓e86_10, ↓e86_80, ↓e86_81, ↓e86_82, ↓e86_85, ↓e86_88, ↓e86_89, ↓e86_90, ↓e86_93, ↓e86_96, ↓e86_97, ↓e86_100, ↓e86_101, ↓e86_102, ↓e86_103, ↓e86_106, ↓e86_107, ↓e86_110, ↓e86_111, ↓e86_112, ↓e86_113, ↓e86_116, ↓e86_117, ↓e86_120, ↓e86_121, ↓e86_122, ↓e86_123, ↓e86_126, ↓e86_127, ↓e86_130, ↓e86_131, ↓e86_132, ↓e86_133, ↓e86_136, ↓e86_137, ↓e86_140, ↓e86_141, ↓e86_142, ↓e86_143, ↓e86_146, ↓e86_147, ↓e86_148, ↓e86_151, ↓e86_154, bc1_a, bd1, bd2, bd3, bd4, bd5, bd6, bd7, bd8, bd9, bd10, bd11, bd12, bd13, bd14, bd15, bd16, bd17, bd18, bd19, bd20, bd21, bd22, bd23, bd24, bd25, bd26, bd27, bd28, bd29, bd30, bd31, bd32, bd33, bd34, bd35, bd36, bd37, bd38, bd39, bc1_i, bc1_r, bc1_n, bc1_U, bisA_r, bisA_n, bisA_a, bct_i, bct_r, bct_n, bct_l, bcs_0, bcs_i, bcs_r, bcs_l, bcs_a, brt_0, brt_1, ↓bz0, ↓bz1, true_and, and_true, false_and, and_false, and_self, Nat.reduceAdd, Nat.reduceLeDiff, Nat.reduceSub, Nat.reduceEqDiff, ite_true, ite_false, if_true, if_false, v0, c_has hv, b2i_t hh, i1ne]
    rw [e86_11]
    have hput : ∀ W, (if what = 0 then s_set (Vw M v) 0 1 x else if what = 1 then s_set (Vw M v) 0 2 x else if what = 2 then s_set (Vw M v) 2 of.toNatClampNeg x else if what = 3 then s_set (Vw M v) 5 of.toNatClampNeg x else if what = 4 then s_set (Vw M v) 6 of.toNatClampNeg x else if what = 5 then s_set (Vw M v) 4 of.toNatClampNeg x else if what = 6 then s_set (Vw M v) 1 of.toNatClampNeg x else if what = 13 then s_set (Vw M v) 0 12 x else (Vw M v)) = W → s_put (Vw M v) what of x = W := fun W e => by unfold s_put; rw [if_pos hh]; exact e
    unfold s_has at hh
    by_cases h0 : what = 0
    · rw [if_pos h0]
      simp only [↓e86_0, ↓e86_1, ↓e86_2, ↓e86_3, ↓e86_6, ↓e86_9, ↓e86_10, ↓e86_80, ↓e86_81, ↓e86_82, ↓e86_85, ↓e86_88, ↓e86_89, ↓e86_90, ↓e86_93, ↓e86_96, ↓e86_97, ↓e86_100, ↓e86_101, ↓e86_102, ↓e86_103, ↓e86_106, ↓e86_107, ↓e86_110, ↓e86_111, ↓e86_112, ↓e86_113, ↓e86_116, ↓e86_117, ↓e86_120, ↓e86_121, ↓e86_122, ↓e86_123, ↓e86_126, ↓e86_127, ↓e86_130, ↓e86_131, ↓e86_132, ↓e86_133, ↓e86_136, ↓e86_137, ↓e86_140, ↓e86_141, ↓e86_142, ↓e86_143, ↓e86_146, ↓e86_147, ↓e86_148, ↓e86_151, ↓e86_154, bc1_a, bd1, bd2, bd3, bd4, bd5, bd6, bd7, bd8, bd9, bd10, bd11, bd12, bd13, bd14, bd15, bd16, bd17, bd18, bd19, bd20, bd21, bd22, bd23, bd24, bd25, bd26, bd27, bd28, bd29, bd30, bd31, bd32, bd33, bd34, bd35, bd36, bd37, bd38, bd39, bc1_i, bc1_r, bc1_n, bc1_U, bisA_r, bisA_n, bisA_a, bct_i, bct_r, bct_n, bct_l, bcs_0, bcs_i, bcs_r, bcs_l, bcs_a, brt_0, brt_1, ↓bz0, ↓bz1, true_and, and_true, false_and, and_false, and_self, Nat.reduceAdd, Nat.reduceLeDiff, Nat.reduceSub, Nat.reduceEqDiff, ite_true, ite_false, if_true, if_false, v0]
      exact hq _ (hf 0 1 (by decide)) ((Vw_set (j := 0) (by decide)).trans (hput _ (by rw [if_pos h0])).symm)
    rw [if_neg h0]
    by_cases h1 : what = 1
    · rw [if_pos h1]
      simp only [↓e86_0, ↓e86_1, ↓e86_2, ↓e86_3, ↓e86_6, ↓e86_9, ↓e86_10, ↓e86_80, ↓e86_81, ↓e86_82, ↓e86_85, ↓e86_88, ↓e86_89, ↓e86_90, ↓e86_93, ↓e86_96, ↓e86_97, ↓e86_100, ↓e86_101, ↓e86_102, ↓e86_103, ↓e86_106, ↓e86_107, ↓e86_110, ↓e86_111, ↓e86_112, ↓e86_113, ↓e86_116, ↓e86_117, ↓e86_120, ↓e86_121, ↓e86_122, ↓e86_123, ↓e86_126, ↓e86_127, ↓e86_130, ↓e86_131, ↓e86_132, ↓e86_133, ↓e86_136, ↓e86_137, ↓e86_140, ↓e86_141, ↓e86_142, ↓e86_143, ↓e86_146, ↓e86_147, ↓e86_148, ↓e86_151, ↓e86_154, bc1_a, bd1, bd2, bd3, bd4, bd5, bd6, bd7, bd8, bd9, bd10, bd11, bd12, bd13, bd14, bd15, bd16, bd17, bd18, bd19, bd20, bd21, bd22, bd23, bd24, bd25, bd26, bd27, bd28, bd29, bd30, bd31, bd32, bd33, bd34, bd35, bd36, bd37, bd38, bd39, bc1_i, bc1_r, bc1_n, bc1_U, bisA_r, bisA_n, bisA_a, bct_i, bct_r, bct_n, bct_l, bcs_0, bcs_i, bcs_r, bcs_l, bcs_a, brt_0, brt_1, ↓bz0, ↓bz1, true_and, and_true, false_and, and_false, and_self, Nat.reduceAdd, Nat.reduceLeDiff, Nat.reduceSub, Nat.reduceEqDiff, ite_true, ite_false, if_true, if_false, v0]
      exact hq _ (hf 0 2 (by decide)) ((Vw_set (j := 0) (by decide)).trans (hput _ (by rw [if_neg h0, if_pos h1])).symm)
    rw [if_neg h1]
    by_cases h2 : what = 2
    · rw [if_pos h2]
      rw [if_neg h0, if_neg h1, if_pos h2, Vw_at (by decide)] at hh
      have hh2 : s_isI of (gI M v 3) = true := hh
      rw [hpp] at hh2
      obtain ⟨j, hj, e⟩ := isI_of (by omega) hh2
      have g0 : 0 ≤ of := by rw [e]; exact nI_pos' (by omega)
      have g1 : of.toNatClampNeg < 6 := by rw [e, nI_clamp (by omega)]; omega
      simp only [↓e86_0, ↓e86_1, ↓e86_2, ↓e86_3, ↓e86_6, ↓e86_9, ↓e86_10, ↓e86_80, ↓e86_81, ↓e86_82, ↓e86_85, ↓e86_88, ↓e86_89, ↓e86_90, ↓e86_93, ↓e86_96, ↓e86_97, ↓e86_100, ↓e86_101, ↓e86_102, ↓e86_103, ↓e86_106, ↓e86_107, ↓e86_110, ↓e86_111, ↓e86_112, ↓e86_113, ↓e86_116, ↓e86_117, ↓e86_120, ↓e86_121, ↓e86_122, ↓e86_123, ↓e86_126, ↓e86_127, ↓e86_130, ↓e86_131, ↓e86_132, ↓e86_133, ↓e86_136, ↓e86_137, ↓e86_140, ↓e86_141, ↓e86_142, ↓e86_143, ↓e86_146, ↓e86_147, ↓e86_148, ↓e86_151, ↓e86_154, bc1_a, bd1, bd2, bd3, bd4, bd5, bd6, bd7, bd8, bd9, bd10, bd11, bd12, bd13, bd14, bd15, bd16, bd17, bd18, bd19, bd20, bd21, bd22, bd23, bd24, bd25, bd26, bd27, bd28, bd29, bd30, bd31, bd32, bd33, bd34, bd35, bd36, bd37, bd38, bd39, bc1_i, bc1_r, bc1_n, bc1_U, bisA_r, bisA_n, bisA_a, bct_i, bct_r, bct_n, bct_l, bcs_0, bcs_i, bcs_r, bcs_l, bcs_a, brt_0, brt_1, ↓bz0, ↓bz1, true_and, and_true, false_and, and_false, and_self, Nat.reduceAdd, Nat.reduceLeDiff, Nat.reduceSub, Nat.reduceEqDiff, ite_true, ite_false, if_true, if_false, v0, v3, w2, x2, g0, g1]
      exact hq _ (hf 2 _ (by decide)) ((Vw_set (by decide)).trans (hput _ (by rw [if_neg h0, if_neg h1, if_pos h2])).symm)
    rw [if_neg h2]
    by_cases h3 : what = 3
    · rw [if_pos h3]
      rw [if_neg (show ¬ what = 0 by rw [h3]; decide), if_neg (show ¬ what = 1 by rw [h3]; decide), if_neg (show ¬ what = 2 by rw [h3]; decide), if_neg (show ¬ what = 6 by rw [h3]; decide), if_neg (show ¬ what = 13 by rw [h3]; decide), Vw_at (by decide)] at hh
      have hh2 : s_isI of (gI M v 6) = true := hh
      rw [hn] at hh2
      obtain ⟨j, hj, e⟩ := isI_of (by omega) hh2
      have g0 : 0 ≤ of := by rw [e]; exact nI_pos' (by omega)
      have g1 : of.toNatClampNeg < 10 := by rw [e, nI_clamp (by omega)]; omega
      simp only [↓e86_0, ↓e86_1, ↓e86_2, ↓e86_3, ↓e86_6, ↓e86_9, ↓e86_10, ↓e86_80, ↓e86_81, ↓e86_82, ↓e86_85, ↓e86_88, ↓e86_89, ↓e86_90, ↓e86_93, ↓e86_96, ↓e86_97, ↓e86_100, ↓e86_101, ↓e86_102, ↓e86_103, ↓e86_106, ↓e86_107, ↓e86_110, ↓e86_111, ↓e86_112, ↓e86_113, ↓e86_116, ↓e86_117, ↓e86_120, ↓e86_121, ↓e86_122, ↓e86_123, ↓e86_126, ↓e86_127, ↓e86_130, ↓e86_131, ↓e86_132, ↓e86_133, ↓e86_136, ↓e86_137, ↓e86_140, ↓e86_141, ↓e86_142, ↓e86_143, ↓e86_146, ↓e86_147, ↓e86_148, ↓e86_151, ↓e86_154, bc1_a, bd1, bd2, bd3, bd4, bd5, bd6, bd7, bd8, bd9, bd10, bd11, bd12, bd13, bd14, bd15, bd16, bd17, bd18, bd19, bd20, bd21, bd22, bd23, bd24, bd25, bd26, bd27, bd28, bd29, bd30, bd31, bd32, bd33, bd34, bd35, bd36, bd37, bd38, bd39, bc1_i, bc1_r, bc1_n, bc1_U, bisA_r, bisA_n, bisA_a, bct_i, bct_r, bct_n, bct_l, bcs_0, bcs_i, bcs_r, bcs_l, bcs_a, brt_0, brt_1, ↓bz0, ↓bz1, true_and, and_true, false_and, and_false, and_self, Nat.reduceAdd, Nat.reduceLeDiff, Nat.reduceSub, Nat.reduceEqDiff, ite_true, ite_false, if_true, if_false, v0, v6, w5, x5, g0, g1]
      exact hq _ (hf 5 _ (by decide)) ((Vw_set (by decide)).trans (hput _ (by rw [if_neg h0, if_neg h1, if_neg h2, if_pos h3])).symm)
    rw [if_neg h3]
    by_cases h4 : what = 4
    · rw [if_pos h4]
      rw [if_neg (show ¬ what = 0 by rw [h4]; decide), if_neg (show ¬ what = 1 by rw [h4]; decide), if_neg (show ¬ what = 2 by rw [h4]; decide), if_neg (show ¬ what = 6 by rw [h4]; decide), if_neg (show ¬ what = 13 by rw [h4]; decide), Vw_at (by decide)] at hh
      have hh2 : s_isI of (gI M v 6) = true := hh
      rw [hn] at hh2
      obtain ⟨j, hj, e⟩ := isI_of (by omega) hh2
      have g0 : 0 ≤ of := by rw [e]; exact nI_pos' (by omega)
      have g1 : of.toNatClampNeg < 10 := by rw [e, nI_clamp (by omega)]; omega
      simp only [↓e86_0, ↓e86_1, ↓e86_2, ↓e86_3, ↓e86_6, ↓e86_9, ↓e86_10, ↓e86_80, ↓e86_81, ↓e86_82, ↓e86_85, ↓e86_88, ↓e86_89, ↓e86_90, ↓e86_93, ↓e86_96, ↓e86_97, ↓e86_100, ↓e86_101, ↓e86_102, ↓e86_103, ↓e86_106, ↓e86_107, ↓e86_110, ↓e86_111, ↓e86_112, ↓e86_113, ↓e86_116, ↓e86_117, ↓e86_120, ↓e86_121, ↓e86_122, ↓e86_123, ↓e86_126, ↓e86_127, ↓e86_130, ↓e86_131, ↓e86_132, ↓e86_133, ↓e86_136, ↓e86_137, ↓e86_140, ↓e86_141, ↓e86_142, ↓e86_143, ↓e86_146, ↓e86_147, ↓e86_148, ↓e86_151, ↓e86_154, bc1_a, bd1, bd2, bd3, bd4, bd5, bd6, bd7, bd8, bd9, bd10, bd11, bd12, bd13, bd14, bd15, bd16, bd17, bd18, bd19, bd20, bd21, bd22, bd23, bd24, bd25, bd26, bd27, bd28, bd29, bd30, bd31, bd32, bd33, bd34, bd35, bd36, bd37, bd38, bd39, bc1_i, bc1_r, bc1_n, bc1_U, bisA_r, bisA_n, bisA_a, bct_i, bct_r, bct_n, bct_l, bcs_0, bcs_i, bcs_r, bcs_l, bcs_a, brt_0, brt_1, ↓bz0, ↓bz1, true_and, and_true, false_and, and_false, and_self, Nat.reduceAdd, Nat.reduceLeDiff, Nat.reduceSub, Nat.reduceEqDiff, ite_true, ite_false, if_true, if_false, v0, v7, w6, x6, g0, g1]
      exact hq _ (hf 6 _ (by decide)) ((Vw_set (by decide)).trans (hput _ (by rw [if_neg h0, if_neg h1, if_neg h2, if_neg h3, if_pos h4])).symm)
    rw [if_neg h4]
    by_cases h5 : what = 5
    · rw [if_pos h5]
      rw [if_neg (show ¬ what = 0 by rw [h5]; decide), if_neg (show ¬ what = 1 by rw [h5]; decide), if_neg (show ¬ what = 2 by rw [h5]; decide), if_neg (show ¬ what = 6 by rw [h5]; decide), if_neg (show ¬ what = 13 by rw [h5]; decide), Vw_at (by decide)] at hh
      have hh2 : s_isI of (gI M v 6) = true := hh
      rw [hn] at hh2
      obtain ⟨j, hj, e⟩ := isI_of (by omega) hh2
      have g0 : 0 ≤ of := by rw [e]; exact nI_pos' (by omega)
      have g1 : of.toNatClampNeg < 10 := by rw [e, nI_clamp (by omega)]; omega
      simp only [↓e86_0, ↓e86_1, ↓e86_2, ↓e86_3, ↓e86_6, ↓e86_9, ↓e86_10, ↓e86_80, ↓e86_81, ↓e86_82, ↓e86_85, ↓e86_88, ↓e86_89, ↓e86_90, ↓e86_93, ↓e86_96, ↓e86_97, ↓e86_100, ↓e86_101, ↓e86_102, ↓e86_103, ↓e86_106, ↓e86_107, ↓e86_110, ↓e86_111, ↓e86_112, ↓e86_113, ↓e86_116, ↓e86_117, ↓e86_120, ↓e86_121, ↓e86_122, ↓e86_123, ↓e86_126, ↓e86_127, ↓e86_130, ↓e86_131, ↓e86_132, ↓e86_133, ↓e86_136, ↓e86_137, ↓e86_140, ↓e86_141, ↓e86_142, ↓e86_143, ↓e86_146, ↓e86_147, ↓e86_148, ↓e86_151, ↓e86_154, bc1_a, bd1, bd2, bd3, bd4, bd5, bd6, bd7, bd8, bd9, bd10, bd11, bd12, bd13, bd14, bd15, bd16, bd17, bd18, bd19, bd20, bd21, bd22, bd23, bd24, bd25, bd26, bd27, bd28, bd29, bd30, bd31, bd32, bd33, bd34, bd35, bd36, bd37, bd38, bd39, bc1_i, bc1_r, bc1_n, bc1_U, bisA_r, bisA_n, bisA_a, bct_i, bct_r, bct_n, bct_l, bcs_0, bcs_i, bcs_r, bcs_l, bcs_a, brt_0, brt_1, ↓bz0, ↓bz1, true_and, and_true, false_and, and_false, and_self, Nat.reduceAdd, Nat.reduceLeDiff, Nat.reduceSub, Nat.reduceEqDiff, ite_true, ite_false, if_true, if_false, v0, v5, w4, x4, g0, g1]
      exact hq _ (hf 4 _ (by decide)) ((Vw_set (by decide)).trans (hput _ (by rw [if_neg h0, if_neg h1, if_neg h2, if_neg h3, if_neg h4, if_pos h5])).symm)
    rw [if_neg h5]
    by_cases h6 : what = 6
    · rw [if_pos h6]
      rw [if_neg h0, if_neg h1, if_neg h2, if_pos h6, Vw_at (by decide)] at hh
      have hh2 : s_isI of (gI M v 3) = true := hh
      rw [hpp] at hh2
      obtain ⟨j, hj, e⟩ := isI_of (by omega) hh2
      have g0 : 0 ≤ of := by rw [e]; exact nI_pos' (by omega)
      have g1 : of.toNatClampNeg < 6 := by rw [e, nI_clamp (by omega)]; omega
      simp only [↓e86_0, ↓e86_1, ↓e86_2, ↓e86_3, ↓e86_6, ↓e86_9, ↓e86_10, ↓e86_80, ↓e86_81, ↓e86_82, ↓e86_85, ↓e86_88, ↓e86_89, ↓e86_90, ↓e86_93, ↓e86_96, ↓e86_97, ↓e86_100, ↓e86_101, ↓e86_102, ↓e86_103, ↓e86_106, ↓e86_107, ↓e86_110, ↓e86_111, ↓e86_112, ↓e86_113, ↓e86_116, ↓e86_117, ↓e86_120, ↓e86_121, ↓e86_122, ↓e86_123, ↓e86_126, ↓e86_127, ↓e86_130, ↓e86_131, ↓e86_132, ↓e86_133, ↓e86_136, ↓e86_137, ↓e86_140, ↓e86_141, ↓e86_142, ↓e86_143, ↓e86_146, ↓e86_147, ↓e86_148, ↓e86_151, ↓e86_154, bc1_a, bd1, bd2, bd3, bd4, bd5, bd6, bd7, bd8, bd9, bd10, bd11, bd12, bd13, bd14, bd15, bd16, bd17, bd18, bd19, bd20, bd21, bd22, bd23, bd24, bd25, bd26, bd27, bd28, bd29, bd30, bd31, bd32, bd33, bd34, bd35, bd36, bd37, bd38, bd39, bc1_i, bc1_r, bc1_n, bc1_U, bisA_r, bisA_n, bisA_a, bct_i, bct_r, bct_n, bct_l, bcs_0, bcs_i, bcs_r, bcs_l, bcs_a, brt_0, brt_1, ↓bz0, ↓bz1, true_and, and_true, false_and, and_false, and_self, Nat.reduceAdd, Nat.reduceLeDiff, Nat.reduceSub, Nat.reduceEqDiff, ite_true, ite_false, if_true, if_false, v0, v2, w1, x1, g0, g1]
      exact hq _ (hf 1 _ (by decide)) ((Vw_set (by decide)).trans (hput _ (by rw [if_neg h0, if_neg h1, if_neg h2, if_neg h3, if_neg h4, if_neg h5, if_pos h6])).symm)
    rw [if_neg h6]
    by_cases h13 : what = 13
    · rw [if_pos h13]
      simp only [↓e86_0, ↓e86_1, ↓e86_2, ↓e86_3, ↓e86_6, ↓e86_9, ↓e86_10, ↓e86_80, ↓e86_81, ↓e86_82, ↓e86_85, ↓e86_88, ↓e86_89, ↓e86_90, ↓e86_93, ↓e86_96, ↓e86_97, ↓e86_100, ↓e86_101, ↓e86_102, ↓e86_103, ↓e86_106, ↓e86_107, ↓e86_110, ↓e86_111, ↓e86_112, ↓e86_113, ↓e86_116, ↓e86_117, ↓e86_120, ↓e86_121, ↓e86_122, ↓e86_123, ↓e86_126, ↓e86_127, ↓e86_130, ↓e86_131, ↓e86_132, ↓e86_133, ↓e86_136, ↓e86_137, ↓e86_140, ↓e86_141, ↓e86_142, ↓e86_143, ↓e86_146, ↓e86_147, ↓e86_148, ↓e86_151, ↓e86_154, bc1_a, bd1, bd2, bd3, bd4, bd5, bd6, bd7, bd8, bd9, bd10, bd11, bd12, bd13, bd14, bd15, bd16, bd17, bd18, bd19, bd20, bd21, bd22, bd23, bd24, bd25, bd26, bd27, bd28, bd29, bd30, bd31, bd32, bd33, bd34, bd35, bd36, bd37, bd38, bd39, bc1_i, bc1_r, bc1_n, bc1_U, bisA_r, bisA_n, bisA_a, bct_i, bct_r, bct_n, bct_l, bcs_0, bcs_i, bcs_r, bcs_l, bcs_a, brt_0, brt_1, ↓bz0, ↓bz1, true_and, and_true, false_and, and_false, and_self, Nat.reduceAdd, Nat.reduceLeDiff, Nat.reduceSub, Nat.reduceEqDiff, ite_true, ite_false, if_true, if_false, v0]
      exact hq _ (hf 0 12 (by decide)) ((Vw_set (j := 0) (by decide)).trans (hput _ (by rw [if_neg h0, if_neg h1, if_neg h2, if_neg h3, if_neg h4, if_neg h5, if_neg h6, if_pos h13])).symm)
    rw [if_neg h13]
    simp only [↓e86_0, ↓e86_1, ↓e86_2, ↓e86_3, ↓e86_6, ↓e86_9, ↓e86_10, ↓e86_80, ↓e86_81, ↓e86_82, ↓e86_85, ↓e86_88, ↓e86_89, ↓e86_90, ↓e86_93, ↓e86_96, ↓e86_97, ↓e86_100, ↓e86_101, ↓e86_102, ↓e86_103, ↓e86_106, ↓e86_107, ↓e86_110, ↓e86_111, ↓e86_112, ↓e86_113, ↓e86_116, ↓e86_117, ↓e86_120, ↓e86_121, ↓e86_122, ↓e86_123, ↓e86_126, ↓e86_127, ↓e86_130, ↓e86_131, ↓e86_132, ↓e86_133, ↓e86_136, ↓e86_137, ↓e86_140, ↓e86_141, ↓e86_142, ↓e86_143, ↓e86_146, ↓e86_147, ↓e86_148, ↓e86_151, ↓e86_154, bc1_a, bd1, bd2, bd3, bd4, bd5, bd6, bd7, bd8, bd9, bd10, bd11, bd12, bd13, bd14, bd15, bd16, bd17, bd18, bd19, bd20, bd21, bd22, bd23, bd24, bd25, bd26, bd27, bd28, bd29, bd30, bd31, bd32, bd33, bd34, bd35, bd36, bd37, bd38, bd39, bc1_i, bc1_r, bc1_n, bc1_U, bisA_r, bisA_n, bisA_a, bct_i, bct_r, bct_n, bct_l, bcs_0, bcs_i, bcs_r, bcs_l, bcs_a, brt_0, brt_1, ↓bz0, ↓bz1, true_and, and_true, false_and, and_false, and_self, Nat.reduceAdd, Nat.reduceLeDiff, Nat.reduceSub, Nat.reduceEqDiff, ite_true, ite_false, if_true, if_false]
    exact hq M Fr.rf (hput _ (by rw [if_neg h0, if_neg h1, if_neg h2, if_neg h3, if_neg h4, if_neg h5, if_neg h6, if_neg h13])).symm
  · simp only [↓e86_0, ↓e86_1, ↓e86_2, ↓e86_3, ↓e86_6, ↓e86_9, ↓e86_10, ↓e86_80, ↓e86_81, ↓e86_82, ↓e86_85, ↓e86_88, ↓e86_89, ↓e86_90, ↓e86_93, ↓e86_96, ↓e86_97, ↓e86_100, ↓e86_101, ↓e86_102, ↓e86_103, ↓e86_106, ↓e86_107, ↓e86_110, ↓e86_111, ↓e86_112, ↓e86_113, ↓e86_116, ↓e86_117, ↓e86_120, ↓e86_121, ↓e86_122, ↓e86_123, ↓e86_126, ↓e86_127, ↓e86_130, ↓e86_131, ↓e86_132, ↓e86_133, ↓e86_136, ↓e86_137, ↓e86_140, ↓e86_141, ↓e86_142, ↓e86_143, ↓e86_146, ↓e86_147, ↓e86_148, ↓e86_151, ↓e86_154, bc1_a, bd1, bd2, bd3, bd4, bd5, bd6, bd7, bd8, bd9, bd10, bd11, bd12, bd13, bd14, bd15, bd16, bd17, bd18, bd19, bd20, bd21, bd22, bd23, bd24, bd25, bd26, bd27, bd28, bd29, bd30, bd31, bd32, bd33, bd34, bd35, bd36, bd37, bd38, bd39, bc1_i, bc1_r, bc1_n, bc1_U, bisA_r, bisA_n, bisA_a, bct_i, bct_r, bct_n, bct_l, bcs_0, bcs_i, bcs_r, bcs_l, bcs_a, brt_0, brt_1, ↓bz0, ↓bz1, true_and, and_true, false_and, and_false, and_self, Nat.reduceAdd, Nat.reduceLeDiff, Nat.reduceSub, Nat.reduceEqDiff, ite_true, ite_false, if_true, if_false, v0, c_has hv, b2i_f (Bool.eq_false_iff.mpr hh), i0eq]
    exact hq M Fr.rf (by unfold s_put; rw [if_neg hh])
end
