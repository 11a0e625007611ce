/-! THE READER: words, numbers, look -/
theorem pI_pI {M : mm_H} {o k : Nat} {x y : Int32} : pI (pI M o k x) o k y = pI M o k y := by
  unfold pI
  refine Prod.ext (funext fun a => funext fun b => ?_) rfl
  show (if a = o ∧ b = k then y else if a = o ∧ b = k then x else M.1 a b) = (if a = o ∧ b = k then y else M.1 a b)
  by_cases h : a = o ∧ b = k
  · rw [if_pos h, if_pos h]
  · rw [if_neg h, if_neg h, if_neg h]
theorem pI_self {M : mm_H} {o k : Nat} {x : Int32} (h : gI M o k = x) : pI M o k x = M := by
  subst h
  unfold pI
  refine Prod.ext (funext fun a => funext fun b => ?_) rfl
  show (if a = o ∧ b = k then M.1 o k else M.1 a b) = _
  split
  · next q => rw [q.1, q.2]
  · rfl
theorem pI_comm {M : mm_H} {o k o2 k2 : Nat} {x y : Int32} (h : ¬ (o = o2 ∧ k = k2)) : pI (pI M o k x) o2 k2 y = pI (pI M o2 k2 y) o k x := by
  unfold pI
  refine Prod.ext (funext fun a => funext fun b => ?_) rfl
  show (if a = o2 ∧ b = k2 then y else if a = o ∧ b = k then x else M.1 a b) = (if a = o ∧ b = k then x else if a = o2 ∧ b = k2 then y else M.1 a b)
  by_cases h1 : a = o2 ∧ b = k2
  · rw [if_pos h1]
    by_cases h2 : a = o ∧ b = k
    · exact absurd ⟨h2.1.symm.trans h1.1, h2.2.symm.trans h1.2⟩ h
    · rw [if_neg h2, if_pos h1]
  · rw [if_neg h1]
    by_cases h2 : a = o ∧ b = k
    · rw [if_pos h2, if_pos h2]
    · rw [if_neg h2, if_neg h2, if_neg h1]
section
variable {L : Nat} {xs : Nat → Int32} {d : Nat} {M : mm_H} {Q : Option Value → mm_H → Prop}
theorem b2i_t {b : Bool} (h : b = true) : s_b2i b = 1 := by subst h; rfl
theorem b2i_f {b : Bool} (h : b = false) : s_b2i b = 0 := by subst h; rfl
theorem i1ne : ((1 : Int32) = 0) = False := by simp
theorem i0eq : ((0 : Int32) = 0) = True := by simp
theorem l_word {n : Nat} (hr : Rd M) (hn : gI M 5 1 = nI n) (h160 : n ≤ 160) : ∀ k p : Nat, p + k = n → Wp L xs (d + 1) 57 0 [.ref 5] [] (pI M 5 2 (nI p)) Q = Wp L xs (d + 1) 57 39 [.ref 5] [] (pI M 5 2 (nI (t_end t_lt (gI M 6) n p))) Q := by
  obtain ⟨r1, r2, r3, r4, r5, r6, r7, r8, r9, r10⟩ := id hr
  intro k
  induction k with
  | zero =>
    intro p hp
    have e : p = n := by omega
    subst e
    have hc := nI_lt0 (a := p) (b := p) (Nat.le_refl _) (by omega)
    rw [t_end_here (by omega)]
    simp only [↓e57_0, ↓e57_1, ↓e57_4, ↓e57_5, ↓e57_8, ↓e57_11, ↓e57_12, ↓e57_15, ↓e57_16, ↓e57_19, ↓e57_20, ↓e57_23, ↓e57_26, ↓e57_27, ↓e57_28, ↓e57_31, ↓e57_32, ↓e57_33, ↓e57_36, ↓e57_39, ↓e57_40, ↓e57_42, ↓e57_45, ↓e57_48, ↓e57_49, ↓e57_50, ↓e57_53, ↓e57_56, ↓e57_57, ↓e57_59, ↓e57_62, ↓e57_65, ↓e57_66, ↓e57_67, ↓e57_70, ↓e57_73, ↓e57_74, ↓e57_76, ↓e57_79, ↓e57_82, ↓e57_83, ↓e57_84, ↓e57_87, ↓e57_90, ↓e57_91, ↓e57_93, ↓e57_96, ↓e57_99, ↓e57_100, ↓e57_102, ↓e57_105, ↓e57_108, ↓e57_109, ↓e57_111, ↓e57_114, ↓e57_117, ↓e57_118, ↓e57_120, ↓e57_123, ↓e57_126, ↓e57_127, ↓e57_129, ↓e57_132, ↓e57_135, ↓e57_136, ↓e57_138, ↓e57_141, ↓e57_144, ↓e57_145, ↓e57_147, ↓e57_150, ↓e57_153, ↓e57_154, ↓e57_156, ↓e57_159, ↓e57_162, ↓e57_163, ↓e57_165, ↓e57_168, ↓e57_171, ↓e57_172, ↓e57_174, ↓e57_177, ↓e57_180, ↓e57_181, ↓e57_183, ↓e57_186, ↓e57_189, ↓e57_190, ↓e57_192, ↓e57_195, ↓e57_198, ↓e57_199, ↓e57_201, ↓e57_204, ↓e57_207, ↓e57_208, ↓e57_210, ↓e57_213, ↓e57_216, ↓e57_217, ↓e57_219, ↓e57_222, ↓e57_225, ↓e57_226, ↓e57_228, ↓e57_231, ↓e57_234, ↓e57_235, ↓e57_236, ↓e57_238, ↓e57_241, ↓e57_244, ↓e57_246, ↓e57_249, ↓e57_250, ↓e57_253, bc1_a, bd1, bd2, bd3, bd4, bd5, bd6, bd7, bd8, bd9, bd10, bd11, bd12, bd13, bd14, bd15, bd16, bd17, bd18, bd19, bd20, bd21, bd22, bd23, bd24, bd25, bd26, bd27, bd28, bd29, bd30, bd31, bd32, bd33, bd34, bd35, bd36, bd37, bd38, bd39, bc1_i, bc1_r, bc1_n, bc1_U, bisA_r, bisA_n, bisA_a, bct_i, bct_r, bct_n, bct_l, bcs_0, bcs_i, bcs_r, bcs_l, bcs_a, brt_0, brt_1, ↓bz0, ↓bz1, true_and, and_true, false_and, and_false, and_self, Nat.reduceAdd, Nat.reduceLeDiff, Nat.reduceSub, Nat.reduceEqDiff, ite_true, ite_false, if_true, if_false, gS_p, gR_p, gI_p, r1, r2, hn, hc]
  | succ k ih =>
    intro p hp
    have hc := nI_lt1 (a := p) (b := n) (by omega) (by omega)
    have h0 : 0 ≤ nI p := nI_pos' (by omega)
    have h1 : (nI p).toNatClampNeg = p := nI_clamp (by omega)
    have h2 : p < 160 := by omega
    have hih := ih (p + 1) (by omega)
    cases hb : t_lt (gI M 6 p) with
    | true =>
      rw [t_end_step (by omega) hb, ← hih]
      simp only [↓e57_0, ↓e57_1, ↓e57_4, ↓e57_5, ↓e57_8, ↓e57_11, ↓e57_12, ↓e57_15, ↓e57_16, ↓e57_19, ↓e57_20, ↓e57_23, ↓e57_26, ↓e57_27, ↓e57_28, ↓e57_31, ↓e57_32, ↓e57_33, ↓e57_36, ↓e57_39, ↓e57_40, ↓e57_42, ↓e57_45, ↓e57_48, ↓e57_49, ↓e57_50, ↓e57_53, ↓e57_56, ↓e57_57, ↓e57_59, ↓e57_62, ↓e57_65, ↓e57_66, ↓e57_67, ↓e57_70, ↓e57_73, ↓e57_74, ↓e57_76, ↓e57_79, ↓e57_82, ↓e57_83, ↓e57_84, ↓e57_87, ↓e57_90, ↓e57_91, ↓e57_93, ↓e57_96, ↓e57_99, ↓e57_100, ↓e57_102, ↓e57_105, ↓e57_108, ↓e57_109, ↓e57_111, ↓e57_114, ↓e57_117, ↓e57_118, ↓e57_120, ↓e57_123, ↓e57_126, ↓e57_127, ↓e57_129, ↓e57_132, ↓e57_135, ↓e57_136, ↓e57_138, ↓e57_141, ↓e57_144, ↓e57_145, ↓e57_147, ↓e57_150, ↓e57_153, ↓e57_154, ↓e57_156, ↓e57_159, ↓e57_162, ↓e57_163, ↓e57_165, ↓e57_168, ↓e57_171, ↓e57_172, ↓e57_174, ↓e57_177, ↓e57_180, ↓e57_181, ↓e57_183, ↓e57_186, ↓e57_189, ↓e57_190, ↓e57_192, ↓e57_195, ↓e57_198, ↓e57_199, ↓e57_201, ↓e57_204, ↓e57_207, ↓e57_208, ↓e57_210, ↓e57_213, ↓e57_216, ↓e57_217, ↓e57_219, ↓e57_222, ↓e57_225, ↓e57_226, ↓e57_228, ↓e57_231, ↓e57_234, ↓e57_235, ↓e57_236, ↓e57_238, ↓e57_241, ↓e57_244, ↓e57_246, ↓e57_249, ↓e57_250, ↓e57_253, bc1_a, bd1, bd2, bd3, bd4, bd5, bd6, bd7, bd8, bd9, bd10, bd11, bd12, bd13, bd14, bd15, bd16, bd17, bd18, bd19, bd20, bd21, bd22, bd23, bd24, bd25, bd26, bd27, bd28, bd29, bd30, bd31, bd32, bd33, bd34, bd35, bd36, bd37, bd38, bd39, bc1_i, bc1_r, bc1_n, bc1_U, bisA_r, bisA_n, bisA_a, bct_i, bct_r, bct_n, bct_l, bcs_0, bcs_i, bcs_r, bcs_l, bcs_a, brt_0, brt_1, ↓bz0, ↓bz1, true_and, and_true, false_and, and_false, and_self, Nat.reduceAdd, Nat.reduceLeDiff, Nat.reduceSub, Nat.reduceEqDiff, ite_true, ite_false, if_true, if_false, gS_p, gR_p, gI_p, gL_p, r1, r2, r5, r6, hn, hc, h0, h1, h2, c_isLetter, hb, b2i_t, i1ne, nI_1, pI_pI]
    | false =>
      rw [t_end_here (by rw [hb]; simp)]
      simp only [↓e57_0, ↓e57_1, ↓e57_4, ↓e57_5, ↓e57_8, ↓e57_11, ↓e57_12, ↓e57_15, ↓e57_16, ↓e57_19, ↓e57_20, ↓e57_23, ↓e57_26, ↓e57_27, ↓e57_28, ↓e57_31, ↓e57_32, ↓e57_33, ↓e57_36, ↓e57_39, ↓e57_40, ↓e57_42, ↓e57_45, ↓e57_48, ↓e57_49, ↓e57_50, ↓e57_53, ↓e57_56, ↓e57_57, ↓e57_59, ↓e57_62, ↓e57_65, ↓e57_66, ↓e57_67, ↓e57_70, ↓e57_73, ↓e57_74, ↓e57_76, ↓e57_79, ↓e57_82, ↓e57_83, ↓e57_84, ↓e57_87, ↓e57_90, ↓e57_91, ↓e57_93, ↓e57_96, ↓e57_99, ↓e57_100, ↓e57_102, ↓e57_105, ↓e57_108, ↓e57_109, ↓e57_111, ↓e57_114, ↓e57_117, ↓e57_118, ↓e57_120, ↓e57_123, ↓e57_126, ↓e57_127, ↓e57_129, ↓e57_132, ↓e57_135, ↓e57_136, ↓e57_138, ↓e57_141, ↓e57_144, ↓e57_145, ↓e57_147, ↓e57_150, ↓e57_153, ↓e57_154, ↓e57_156, ↓e57_159, ↓e57_162, ↓e57_163, ↓e57_165, ↓e57_168, ↓e57_171, ↓e57_172, ↓e57_174, ↓e57_177, ↓e57_180, ↓e57_181, ↓e57_183, ↓e57_186, ↓e57_189, ↓e57_190, ↓e57_192, ↓e57_195, ↓e57_198, ↓e57_199, ↓e57_201, ↓e57_204, ↓e57_207, ↓e57_208, ↓e57_210, ↓e57_213, ↓e57_216, ↓e57_217, ↓e57_219, ↓e57_222, ↓e57_225, ↓e57_226, ↓e57_228, ↓e57_231, ↓e57_234, ↓e57_235, ↓e57_236, ↓e57_238, ↓e57_241, ↓e57_244, ↓e57_246, ↓e57_249, ↓e57_250, ↓e57_253, bc1_a, bd1, bd2, bd3, bd4, bd5, bd6, bd7, bd8, bd9, bd10, bd11, bd12, bd13, bd14, bd15, bd16, bd17, bd18, bd19, bd20, bd21, bd22, bd23, bd24, bd25, bd26, bd27, bd28, bd29, bd30, bd31, bd32, bd33, bd34, bd35, bd36, bd37, bd38, bd39, bc1_i, bc1_r, bc1_n, bc1_U, bisA_r, bisA_n, bisA_a, bct_i, bct_r, bct_n, bct_l, bcs_0, bcs_i, bcs_r, bcs_l, bcs_a, brt_0, brt_1, ↓bz0, ↓bz1, true_and, and_true, false_and, and_false, and_self, Nat.reduceAdd, Nat.reduceLeDiff, Nat.reduceSub, Nat.reduceEqDiff, ite_true, ite_false, if_true, if_false, gS_p, gR_p, gI_p, gL_p, r1, r2, r5, r6, hn, hc, h0, h1, h2, c_isLetter, hb, b2i_f, i0eq]
end
