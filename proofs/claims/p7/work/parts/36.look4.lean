/-! THE READER: look -/
/-- only the reader's place, token, start and digits -/
def FL (M M' : mm_H) : Prop := M'.2.2 = M.2.2 ∧ (∀ o k, gR M' o k = gR M o k) ∧ ∀ o k, ¬ (o = 5 ∧ 2 ≤ k ∧ k ≤ 5) → gI M' o k = gI M o k
theorem FL.rf {M : mm_H} : FL M M := ⟨rfl, fun _ _ => rfl, fun _ _ _ => rfl⟩
theorem FL.put {M M1 : mm_H} {k : Nat} {x : Int32} (h : FL M M1) (h2 : 2 ≤ k ∧ k ≤ 5) : FL M (pI M1 5 k x) := by
  refine ⟨h.1, h.2.1, fun o j hj => ?_⟩
  rw [gI_p, if_neg (fun z => hj ⟨z.1, by omega, by omega⟩)]
  exact h.2.2 o j hj
theorem FL.fr {S : Nat → Prop} {M M1 : mm_H} (h : FL M M1) (h5 : S 5) : Fr S M M1 := ⟨h.1, fun o k _ => h.2.1 o k, fun o q k => h.2.2 o k (fun z => q (by rw [z.1]; exact h5))⟩
/-- the reader looks at the token behind place q -/
def RT (f : Nat → Int32) (n q : Nat) (M : mm_H) : Prop := gI M 5 2 = nI (t_e f n q) ∧ gI M 5 4 = nI (t_s f n q) ∧ gI M 5 3 = nI (t_k f n q) ∧ (t_k f n q = 2 → gI M 5 5 = t_v f n q)
theorem sg_nI {b : Int32} (h : t_sg b = true) : nI b.toNatClampNeg = b := by
  unfold t_sg at h
  simp only [Bool.or_eq_true, beq_iff_eq] at h
  rcases h with ((((((rfl | rfl) | rfl) | rfl) | rfl) | rfl) | rfl) | rfl <;> rfl
theorem ite_ne2 {c : Prop} [Decidable c] {a b : Nat} (ha : a ≠ 2) (hb : b ≠ 2) : (if c then a else b) ≠ 2 := by
  by_cases h : c
  · rw [if_pos h]; exact ha
  · rw [if_neg h]; exact hb
theorem wk_ne2 {f : Nat → Int32} {s e : Nat} : t_wk f s e ≠ 2 := by
  unfold t_wk
  refine ite_ne2 (by decide) ?_
  refine ite_ne2 (by decide) ?_
  refine ite_ne2 (by decide) ?_
  refine ite_ne2 (by decide) ?_
  refine ite_ne2 (by decide) ?_
  refine ite_ne2 (by decide) ?_
  refine ite_ne2 (by decide) ?_
  refine ite_ne2 (by decide) ?_
  refine ite_ne2 (by decide) ?_
  refine ite_ne2 (by decide) ?_
  refine ite_ne2 (by decide) ?_
  refine ite_ne2 (by decide) ?_
  decide
section
variable {L : Nat} {xs : Nat → Int32} {d : Nat} {M : mm_H} {Q : Option Value → mm_H → Prop}
theorem l_space {n : Nat} (hr : Rd M) (hn : gI M 5 1 = nI n) (h160 : n ≤ 160) : ∀ k p : Nat, p + k = n → Wp L xs (d + 1) 55 0 [.ref 5] [] (pI M 5 2 (nI p)) Q = Wp L xs (d + 1) 55 52 [.ref 5] [] (pI M 5 2 (nI (t_s (gI M 6) n p))) Q := by
  obtain ⟨r1, r2, r3, r4, r5, r6, r7, r8, r9, r10⟩ := id hr
  unfold t_s
  intro k
  induction k with
  | zero =>
    intro p hp
    have e : p = n := by omega
    subst e
    have hc := nI_lt0 (a := p) (b := p) (Nat.le_refl _) (by omega)
    rw [t_end_here (by omega), e55_0 rfl]
    simp only [↓e55_1, ↓e55_4, ↓e55_5, ↓e55_8, ↓e55_11, ↓e55_12, ↓e55_15, ↓e55_16, ↓e55_19, ↓e55_20, ↓e55_22, ↓e55_25, ↓e55_26, ↓e55_29, ↓e55_30, ↓e55_33, ↓e55_34, ↓e55_36, ↓e55_39, ↓e55_40, ↓e55_41, ↓e55_44, ↓e55_45, ↓e55_46, ↓e55_49, ↓e55_53, ↓e55_54, ↓e55_57, ↓e55_60, ↓e55_61, ↓e55_64, ↓e55_65, ↓e55_68, ↓e55_71, ↓e55_72, ↓e55_73, ↓e55_76, ↓e55_79, ↓e55_80, ↓e55_83, ↓e55_84, ↓e55_87, ↓e55_88, ↓e55_91, ↓e55_94, ↓e55_95, ↓e55_98, ↓e55_101, ↓e55_102, ↓e55_105, ↓e55_106, ↓e55_109, ↓e55_110, ↓e55_113, ↓e55_116, ↓e55_117, ↓e55_120, ↓e55_123, ↓e55_124, ↓e55_125, ↓e55_128, ↓e55_129, ↓e55_132, ↓e55_133, ↓e55_136, ↓e55_139, ↓e55_140, ↓e55_143, ↓e55_144, ↓e55_147, ↓e55_148, ↓e55_151, ↓e55_152, ↓e55_155, ↓e55_156, ↓e55_157, ↓e55_160, ↓e55_161, ↓e55_162, ↓e55_165, bc1_a, bd1, bd2, bd3, bd4, bd5, bd6, bd7, bd8, bd9, bd10, bd11, bd12, bd13, bd14, bd15, bd16, bd17, bd18, bd19, bd20, bd21, bd22, bd23, bd24, bd25, bd26, bd27, bd28, bd29, bd30, bd31, bd32, bd33, bd34, bd35, bd36, bd37, bd38, bd39, bc1_i, bc1_r, bc1_n, bc1_U, bisA_r, bisA_n, bisA_a, bct_i, bct_r, bct_n, bct_l, bcs_0, bcs_i, bcs_r, bcs_l, bcs_a, brt_0, brt_1, ↓bz0, ↓bz1, true_and, and_true, false_and, and_false, and_self, Nat.reduceAdd, Nat.reduceLeDiff, Nat.reduceSub, Nat.reduceEqDiff, ite_true, ite_false, if_true, if_false, gS_p, gR_p, gI_p, r1, r2, hn, hc]
  | succ k ih =>
    intro p hp
    have hc := nI_lt1 (a := p) (b := n) (by omega) (by omega)
    have h0 : 0 ≤ nI p := nI_pos' (by omega)
    have h1 : (nI p).toNatClampNeg = p := nI_clamp (by omega)
    have h2 : p < 160 := by omega
    have hih := ih (p + 1) (by omega)
    by_cases h32 : gI M 6 p = 32
    · rw [t_end_step (by omega) (by unfold t_sp; rw [h32]; rfl), ← hih, e55_0 rfl]
      simp only [↓e55_1, ↓e55_4, ↓e55_5, ↓e55_8, ↓e55_11, ↓e55_12, ↓e55_15, ↓e55_16, ↓e55_19, ↓e55_20, ↓e55_22, ↓e55_25, ↓e55_26, ↓e55_29, ↓e55_30, ↓e55_33, ↓e55_34, ↓e55_36, ↓e55_39, ↓e55_40, ↓e55_41, ↓e55_44, ↓e55_45, ↓e55_46, ↓e55_49, ↓e55_53, ↓e55_54, ↓e55_57, ↓e55_60, ↓e55_61, ↓e55_64, ↓e55_65, ↓e55_68, ↓e55_71, ↓e55_72, ↓e55_73, ↓e55_76, ↓e55_79, ↓e55_80, ↓e55_83, ↓e55_84, ↓e55_87, ↓e55_88, ↓e55_91, ↓e55_94, ↓e55_95, ↓e55_98, ↓e55_101, ↓e55_102, ↓e55_105, ↓e55_106, ↓e55_109, ↓e55_110, ↓e55_113, ↓e55_116, ↓e55_117, ↓e55_120, ↓e55_123, ↓e55_124, ↓e55_125, ↓e55_128, ↓e55_129, ↓e55_132, ↓e55_133, ↓e55_136, ↓e55_139, ↓e55_140, ↓e55_143, ↓e55_144, ↓e55_147, ↓e55_148, ↓e55_151, ↓e55_152, ↓e55_155, ↓e55_156, ↓e55_157, ↓e55_160, ↓e55_161, ↓e55_162, ↓e55_165, bc1_a, bd1, bd2, bd3, bd4, bd5, bd6, bd7, bd8, bd9, bd10, bd11, bd12, bd13, bd14, bd15, bd16, bd17, bd18, bd19, bd20, bd21, bd22, bd23, bd24, bd25, bd26, bd27, bd28, bd29, bd30, bd31, bd32, bd33, bd34, bd35, bd36, bd37, bd38, bd39, bc1_i, bc1_r, bc1_n, bc1_U, bisA_r, bisA_n, bisA_a, bct_i, bct_r, bct_n, bct_l, bcs_0, bcs_i, bcs_r, bcs_l, bcs_a, brt_0, brt_1, ↓bz0, ↓bz1, true_and, and_true, false_and, and_false, and_self, Nat.reduceAdd, Nat.reduceLeDiff, Nat.reduceSub, Nat.reduceEqDiff, ite_true, ite_false, if_true, if_false, gS_p, gR_p, gI_p, gL_p, r1, r2, r5, r6, hn, hc, h0, h1, h2, h32, nI_1, pI_pI]
    · by_cases h10 : gI M 6 p = 10
      · have hh : ((10 : Int32) = 32) = False := by simp
        rw [t_end_step (by omega) (by unfold t_sp; rw [h10]; rfl), ← hih, e55_0 rfl]
        simp only [↓e55_1, ↓e55_4, ↓e55_5, ↓e55_8, ↓e55_11, ↓e55_12, ↓e55_15, ↓e55_16, ↓e55_19, ↓e55_20, ↓e55_22, ↓e55_25, ↓e55_26, ↓e55_29, ↓e55_30, ↓e55_33, ↓e55_34, ↓e55_36, ↓e55_39, ↓e55_40, ↓e55_41, ↓e55_44, ↓e55_45, ↓e55_46, ↓e55_49, ↓e55_53, ↓e55_54, ↓e55_57, ↓e55_60, ↓e55_61, ↓e55_64, ↓e55_65, ↓e55_68, ↓e55_71, ↓e55_72, ↓e55_73, ↓e55_76, ↓e55_79, ↓e55_80, ↓e55_83, ↓e55_84, ↓e55_87, ↓e55_88, ↓e55_91, ↓e55_94, ↓e55_95, ↓e55_98, ↓e55_101, ↓e55_102, ↓e55_105, ↓e55_106, ↓e55_109, ↓e55_110, ↓e55_113, ↓e55_116, ↓e55_117, ↓e55_120, ↓e55_123, ↓e55_124, ↓e55_125, ↓e55_128, ↓e55_129, ↓e55_132, ↓e55_133, ↓e55_136, ↓e55_139, ↓e55_140, ↓e55_143, ↓e55_144, ↓e55_147, ↓e55_148, ↓e55_151, ↓e55_152, ↓e55_155, ↓e55_156, ↓e55_157, ↓e55_160, ↓e55_161, ↓e55_162, ↓e55_165, bc1_a, bd1, bd2, bd3, bd4, bd5, bd6, bd7, bd8, bd9, bd10, bd11, bd12, bd13, bd14, bd15, bd16, bd17, bd18, bd19, bd20, bd21, bd22, bd23, bd24, bd25, bd26, bd27, bd28, bd29, bd30, bd31, bd32, bd33, bd34, bd35, bd36, bd37, bd38, bd39, bc1_i, bc1_r, bc1_n, bc1_U, bisA_r, bisA_n, bisA_a, bct_i, bct_r, bct_n, bct_l, bcs_0, bcs_i, bcs_r, bcs_l, bcs_a, brt_0, brt_1, ↓bz0, ↓bz1, true_and, and_true, false_and, and_false, and_self, Nat.reduceAdd, Nat.reduceLeDiff, Nat.reduceSub, Nat.reduceEqDiff, ite_true, ite_false, if_true, if_false, gS_p, gR_p, gI_p, gL_p, r1, r2, r5, r6, hn, hc, h0, h1, h2, h10, hh, nI_1, pI_pI]
      · have hsp : t_sp (gI M 6 p) = false := by unfold t_sp; simp [h32, h10]
        rw [t_end_here (by rw [hsp]; simp), e55_0 rfl]
        simp only [↓e55_1, ↓e55_4, ↓e55_5, ↓e55_8, ↓e55_11, ↓e55_12, ↓e55_15, ↓e55_16, ↓e55_19, ↓e55_20, ↓e55_22, ↓e55_25, ↓e55_26, ↓e55_29, ↓e55_30, ↓e55_33, ↓e55_34, ↓e55_36, ↓e55_39, ↓e55_40, ↓e55_41, ↓e55_44, ↓e55_45, ↓e55_46, ↓e55_49, ↓e55_53, ↓e55_54, ↓e55_57, ↓e55_60, ↓e55_61, ↓e55_64, ↓e55_65, ↓e55_68, ↓e55_71, ↓e55_72, ↓e55_73, ↓e55_76, ↓e55_79, ↓e55_80, ↓e55_83, ↓e55_84, ↓e55_87, ↓e55_88, ↓e55_91, ↓e55_94, ↓e55_95, ↓e55_98, ↓e55_101, ↓e55_102, ↓e55_105, ↓e55_106, ↓e55_109, ↓e55_110, ↓e55_113, ↓e55_116, ↓e55_117, ↓e55_120, ↓e55_123, ↓e55_124, ↓e55_125, ↓e55_128, ↓e55_129, ↓e55_132, ↓e55_133, ↓e55_136, ↓e55_139, ↓e55_140, ↓e55_143, ↓e55_144, ↓e55_147, ↓e55_148, ↓e55_151, ↓e55_152, ↓e55_155, ↓e55_156, ↓e55_157, ↓e55_160, ↓e55_161, ↓e55_162, ↓e55_165, bc1_a, bd1, bd2, bd3, bd4, bd5, bd6, bd7, bd8, bd9, bd10, bd11, bd12, bd13, bd14, bd15, bd16, bd17, bd18, bd19, bd20, bd21, bd22, bd23, bd24, bd25, bd26, bd27, bd28, bd29, bd30, bd31, bd32, bd33, bd34, bd35, bd36, bd37, bd38, bd39, bc1_i, bc1_r, bc1_n, bc1_U, bisA_r, bisA_n, bisA_a, bct_i, bct_r, bct_n, bct_l, bcs_0, bcs_i, bcs_r, bcs_l, bcs_a, brt_0, brt_1, ↓bz0, ↓bz1, true_and, and_true, false_and, and_false, and_self, Nat.reduceAdd, Nat.reduceLeDiff, Nat.reduceSub, Nat.reduceEqDiff, ite_true, ite_false, if_true, if_false, gS_p, gR_p, gI_p, gL_p, r1, r2, r5, r6, hn, hc, h0, h1, h2, h32, h10]
theorem c_look {n p : Nat} (hr : Rd M) (hn : gI M 5 1 = nI n) (h160 : n ≤ 160) (hp : p ≤ n) (h2 : gI M 5 2 = nI p) (hq : ∀ M', FL M M' → RT (gI M 6) n p M' → Q none M') : Call L xs (d + 6) 55 [.ref 5] M Q := by
  have hsp := l_space (L := L) (xs := xs) (d := d + 5) (Q := Q) hr hn h160 (n - p) p (by omega)
  rw [pI_self h2] at hsp
  rw [en55]
  refine Eq.mpr hsp ?_
  have hs := t_s_le (f := gI M 6) hp
  generalize hM1 : pI (pI M 5 2 (nI (t_s (gI M 6) n p))) 5 4 (nI (t_s (gI M 6) n p)) = M1
  have f1 : FL M M1 := by rw [← hM1]; exact (FL.rf.put ⟨by decide, by decide⟩).put ⟨by decide, by decide⟩
  have hr1 : Rd M1 := by rw [← hM1]; exact hr
  have e6 : gI M1 6 = gI M 6 := by rw [← hM1, gI_pf (by decide), gI_pf (by decide)]
  have e1 : gI M1 5 1 = nI n := by rw [f1.2.2 5 1 (by omega)]; exact hn
  have e2 : gI M1 5 2 = nI (t_s (gI M 6) n p) := by rw [← hM1, gI_p, if_neg (by decide), gI_p, if_pos (by decide)]
  have e4 : gI M1 5 4 = nI (t_s (gI M 6) n p) := by rw [← hM1, gI_p, if_pos (by decide)]
  have hstep : Wp L xs (d + 6) 55 52 [.ref 5] [] (pI M 5 2 (nI (t_s (gI M 6) n p))) Q = Wp L xs (d + 6) 55 60 [.ref 5] [] M1 Q := by
    rw [← hM1]
    simp only [↓e55_52, ↓e55_53, ↓e55_54, ↓e55_57, bc1_a, bd1, bd2, bd3, bd4, bd5, bd6, bd7, bd8, bd9, bd10, bd11, bd12, bd13, bd14, bd15, bd16, bd17, bd18, bd19, bd20, bd21, bd22, bd23, bd24, bd25, bd26, bd27, bd28, bd29, bd30, bd31, bd32, bd33, bd34, bd35, bd36, bd37, bd38, bd39, bc1_i, bc1_r, bc1_n, bc1_U, bisA_r, bisA_n, bisA_a, bct_i, bct_r, bct_n, bct_l, bcs_0, bcs_i, bcs_r, bcs_l, bcs_a, brt_0, brt_1, ↓bz0, ↓bz1, true_and, and_true, false_and, and_false, and_self, Nat.reduceAdd, Nat.reduceLeDiff, Nat.reduceSub, Nat.reduceEqDiff, ite_true, ite_false, if_true, if_false, gS_p, gI_p, hr.1]
  refine Eq.mpr hstep ?_
  obtain ⟨r1, r2, r3, r4, r5, r6, r7, r8, r9, r10⟩ := id hr1
  rcases Nat.lt_or_ge (t_s (gI M 6) n p) n with hlt | hge
  · have hc := nI_lt1 (a := t_s (gI M 6) n p) (b := n) hlt (by omega)
    have h0 : 0 ≤ nI (t_s (gI M 6) n p) := nI_pos' (by omega)
    have h1 : (nI (t_s (gI M 6) n p)).toNatClampNeg = t_s (gI M 6) n p := nI_clamp (by omega)
    have h3 : t_s (gI M 6) n p < 160 := by omega
    cases hb : t_lt (gI M 6 (t_s (gI M 6) n p)) with
    | true =>
      have he : t_e (gI M 6) n p = t_end t_lt (gI M 6) n (t_s (gI M 6) n p) := by unfold t_e; rw [if_neg (by omega), if_pos hb]
      have hk : t_k (gI M 6) n p = t_wk (gI M 6) (t_s (gI M 6) n p) (t_e (gI M 6) n p) := by unfold t_k; rw [if_neg (by omega), if_pos hb]
      have hw := fun (R : Option Value → mm_H → Prop) => c_lookWord (L := L) (xs := xs) (d := d) (Q := R) hr1 e1 h160 e2 e4 hs
      rw [e6, ← he, ← hk] at hw
      simp only [↓e55_1, ↓e55_4, ↓e55_5, ↓e55_8, ↓e55_11, ↓e55_12, ↓e55_15, ↓e55_16, ↓e55_19, ↓e55_20, ↓e55_22, ↓e55_25, ↓e55_26, ↓e55_29, ↓e55_30, ↓e55_33, ↓e55_34, ↓e55_36, ↓e55_39, ↓e55_40, ↓e55_41, ↓e55_44, ↓e55_45, ↓e55_46, ↓e55_49, ↓e55_53, ↓e55_54, ↓e55_57, ↓e55_60, ↓e55_61, ↓e55_64, ↓e55_65, ↓e55_68, ↓e55_71, ↓e55_72, ↓e55_73, ↓e55_76, ↓e55_79, ↓e55_80, ↓e55_83, ↓e55_84, ↓e55_87, ↓e55_88, ↓e55_91, ↓e55_94, ↓e55_95, ↓e55_98, ↓e55_101, ↓e55_102, ↓e55_105, ↓e55_106, ↓e55_109, ↓e55_110, ↓e55_113, ↓e55_116, ↓e55_117, ↓e55_120, ↓e55_123, ↓e55_124, ↓e55_125, ↓e55_128, ↓e55_129, ↓e55_132, ↓e55_133, ↓e55_136, ↓e55_139, ↓e55_140, ↓e55_143, ↓e55_144, ↓e55_147, ↓e55_148, ↓e55_151, ↓e55_152, ↓e55_155, ↓e55_156, ↓e55_157, ↓e55_160, ↓e55_161, ↓e55_162, ↓e55_165, bc1_a, bd1, bd2, bd3, bd4, bd5, bd6, bd7, bd8, bd9, bd10, bd11, bd12, bd13, bd14, bd15, bd16, bd17, bd18, bd19, bd20, bd21, bd22, bd23, bd24, bd25, bd26, bd27, bd28, bd29, bd30, bd31, bd32, bd33, bd34, bd35, bd36, bd37, bd38, bd39, bc1_i, bc1_r, bc1_n, bc1_U, bisA_r, bisA_n, bisA_a, bct_i, bct_r, bct_n, bct_l, bcs_0, bcs_i, bcs_r, bcs_l, bcs_a, brt_0, brt_1, ↓bz0, ↓bz1, true_and, and_true, false_and, and_false, and_self, Nat.reduceAdd, Nat.reduceLeDiff, Nat.reduceSub, Nat.reduceEqDiff, ite_true, ite_false, if_true, if_false, r1, r2, e1, e2, hc, h0, h1, h3, r5, r6, e6, c_isLetter, b2i_t hb, i1ne, hw]
      refine hq _ ((f1.put ⟨by decide, by decide⟩).put ⟨by decide, by decide⟩) ⟨?_, ?_, ?_, fun z => absurd (hk.symm.trans z) wk_ne2⟩
      · rw [gI_p, if_neg (by decide), gI_p, if_pos (by decide)]
      · rw [gI_p, if_neg (by decide), gI_p, if_neg (by decide)]; exact e4
      · rw [gI_p, if_pos (by decide)]
    | false =>
      cases hb2 : t_dg (gI M 6 (t_s (gI M 6) n p)) with
      | true =>
        have he : t_e (gI M 6) n p = t_end t_dg (gI M 6) n (t_s (gI M 6) n p) := by unfold t_e; rw [if_neg (by omega), hb, if_neg (by decide), if_pos hb2]
        have hk : t_k (gI M 6) n p = (if 4 < t_e (gI M 6) n p - t_s (gI M 6) n p then 1 else 2) := by unfold t_k; rw [if_neg (by omega), hb, if_neg (by decide), if_pos hb2]
        have hw := fun (R : Option Value → mm_H → Prop) => c_lookDigits (L := L) (xs := xs) (d := d + 4) (Q := R) hr1 e1 h160 e2 e4 hs
        rw [e6, ← he] at hw
        simp only [↓e55_1, ↓e55_4, ↓e55_5, ↓e55_8, ↓e55_11, ↓e55_12, ↓e55_15, ↓e55_16, ↓e55_19, ↓e55_20, ↓e55_22, ↓e55_25, ↓e55_26, ↓e55_29, ↓e55_30, ↓e55_33, ↓e55_34, ↓e55_36, ↓e55_39, ↓e55_40, ↓e55_41, ↓e55_44, ↓e55_45, ↓e55_46, ↓e55_49, ↓e55_53, ↓e55_54, ↓e55_57, ↓e55_60, ↓e55_61, ↓e55_64, ↓e55_65, ↓e55_68, ↓e55_71, ↓e55_72, ↓e55_73, ↓e55_76, ↓e55_79, ↓e55_80, ↓e55_83, ↓e55_84, ↓e55_87, ↓e55_88, ↓e55_91, ↓e55_94, ↓e55_95, ↓e55_98, ↓e55_101, ↓e55_102, ↓e55_105, ↓e55_106, ↓e55_109, ↓e55_110, ↓e55_113, ↓e55_116, ↓e55_117, ↓e55_120, ↓e55_123, ↓e55_124, ↓e55_125, ↓e55_128, ↓e55_129, ↓e55_132, ↓e55_133, ↓e55_136, ↓e55_139, ↓e55_140, ↓e55_143, ↓e55_144, ↓e55_147, ↓e55_148, ↓e55_151, ↓e55_152, ↓e55_155, ↓e55_156, ↓e55_157, ↓e55_160, ↓e55_161, ↓e55_162, ↓e55_165, bc1_a, bd1, bd2, bd3, bd4, bd5, bd6, bd7, bd8, bd9, bd10, bd11, bd12, bd13, bd14, bd15, bd16, bd17, bd18, bd19, bd20, bd21, bd22, bd23, bd24, bd25, bd26, bd27, bd28, bd29, bd30, bd31, bd32, bd33, bd34, bd35, bd36, bd37, bd38, bd39, bc1_i, bc1_r, bc1_n, bc1_U, bisA_r, bisA_n, bisA_a, bct_i, bct_r, bct_n, bct_l, bcs_0, bcs_i, bcs_r, bcs_l, bcs_a, brt_0, brt_1, ↓bz0, ↓bz1, true_and, and_true, false_and, and_false, and_self, Nat.reduceAdd, Nat.reduceLeDiff, Nat.reduceSub, Nat.reduceEqDiff, ite_true, ite_false, if_true, if_false, r1, r2, e1, e2, hc, h0, h1, h3, r5, r6, e6, c_isLetter, b2i_f hb, i0eq, c_isDigit, b2i_t hb2, i1ne, hw]
        refine hq _ (((f1.put ⟨by decide, by decide⟩).put ⟨by decide, by decide⟩).put ⟨by decide, by decide⟩) ⟨?_, ?_, ?_, fun z => ?_⟩
        · rw [gI_p, if_neg (by decide), gI_p, if_pos (by decide)]
        · rw [gI_p, if_neg (by decide), gI_p, if_neg (by decide), gI_p, if_neg (by decide)]; exact e4
        · rw [gI_p, if_pos (by decide), hk]; split <;> rfl
        · rw [gI_p, if_neg (by decide), gI_p, if_neg (by decide), gI_p, if_pos (by decide)]; rfl
      | false =>
        have he : t_e (gI M 6) n p = t_s (gI M 6) n p + 1 := by unfold t_e; rw [if_neg (by omega), hb, if_neg (by decide), hb2, if_neg (by decide)]
        cases hb3 : t_sg (gI M 6 (t_s (gI M 6) n p)) with
        | true =>
          have hk : nI (t_k (gI M 6) n p) = gI M 6 (t_s (gI M 6) n p) := by unfold t_k; rw [if_neg (by omega), hb, if_neg (by decide), hb2, if_neg (by decide), if_pos hb3]; exact sg_nI hb3
          have hk2 : t_k (gI M 6) n p ≠ 2 := fun z => by
            rw [z] at hk
            rw [← hk] at hb3
            exact absurd hb3 (by decide)
          simp only [↓e55_1, ↓e55_4, ↓e55_5, ↓e55_8, ↓e55_11, ↓e55_12, ↓e55_15, ↓e55_16, ↓e55_19, ↓e55_20, ↓e55_22, ↓e55_25, ↓e55_26, ↓e55_29, ↓e55_30, ↓e55_33, ↓e55_34, ↓e55_36, ↓e55_39, ↓e55_40, ↓e55_41, ↓e55_44, ↓e55_45, ↓e55_46, ↓e55_49, ↓e55_53, ↓e55_54, ↓e55_57, ↓e55_60, ↓e55_61, ↓e55_64, ↓e55_65, ↓e55_68, ↓e55_71, ↓e55_72, ↓e55_73, ↓e55_76, ↓e55_79, ↓e55_80, ↓e55_83, ↓e55_84, ↓e55_87, ↓e55_88, ↓e55_91, ↓e55_94, ↓e55_95, ↓e55_98, ↓e55_101, ↓e55_102, ↓e55_105, ↓e55_106, ↓e55_109, ↓e55_110, ↓e55_113, ↓e55_116, ↓e55_117, ↓e55_120, ↓e55_123, ↓e55_124, ↓e55_125, ↓e55_128, ↓e55_129, ↓e55_132, ↓e55_133, ↓e55_136, ↓e55_139, ↓e55_140, ↓e55_143, ↓e55_144, ↓e55_147, ↓e55_148, ↓e55_151, ↓e55_152, ↓e55_155, ↓e55_156, ↓e55_157, ↓e55_160, ↓e55_161, ↓e55_162, ↓e55_165, bc1_a, bd1, bd2, bd3, bd4, bd5, bd6, bd7, bd8, bd9, bd10, bd11, bd12, bd13, bd14, bd15, bd16, bd17, bd18, bd19, bd20, bd21, bd22, bd23, bd24, bd25, bd26, bd27, bd28, bd29, bd30, bd31, bd32, bd33, bd34, bd35, bd36, bd37, bd38, bd39, bc1_i, bc1_r, bc1_n, bc1_U, bisA_r, bisA_n, bisA_a, bct_i, bct_r, bct_n, bct_l, bcs_0, bcs_i, bcs_r, bcs_l, bcs_a, brt_0, brt_1, ↓bz0, ↓bz1, true_and, and_true, false_and, and_false, and_self, Nat.reduceAdd, Nat.reduceLeDiff, Nat.reduceSub, Nat.reduceEqDiff, ite_true, ite_false, if_true, if_false, r1, r2, e1, e2, hc, h0, h1, h3, r5, r6, e6, c_isLetter, b2i_f hb, i0eq, c_isDigit, b2i_f hb2, i1ne, c_isSign, b2i_t hb3, gS_p, gI_p, nI_1]
          refine hq _ ((f1.put ⟨by decide, by decide⟩).put ⟨by decide, by decide⟩) ⟨?_, ?_, ?_, fun z => absurd z hk2⟩
          · rw [gI_p, if_pos (by decide), he]
          · rw [gI_p, if_neg (by decide), gI_p, if_neg (by decide)]; exact e4
          · rw [gI_p, if_neg (by decide), gI_p, if_pos (by decide)]; exact hk.symm
        | false =>
          have hk : t_k (gI M 6) n p = 1 := by unfold t_k; rw [if_neg (by omega), hb, if_neg (by decide), hb2, if_neg (by decide), hb3, if_neg (by decide)]
          simp only [↓e55_1, ↓e55_4, ↓e55_5, ↓e55_8, ↓e55_11, ↓e55_12, ↓e55_15, ↓e55_16, ↓e55_19, ↓e55_20, ↓e55_22, ↓e55_25, ↓e55_26, ↓e55_29, ↓e55_30, ↓e55_33, ↓e55_34, ↓e55_36, ↓e55_39, ↓e55_40, ↓e55_41, ↓e55_44, ↓e55_45, ↓e55_46, ↓e55_49, ↓e55_53, ↓e55_54, ↓e55_57, ↓e55_60, ↓e55_61, ↓e55_64, ↓e55_65, ↓e55_68, ↓e55_71, ↓e55_72, ↓e55_73, ↓e55_76, ↓e55_79, ↓e55_80, ↓e55_83, ↓e55_84, ↓e55_87, ↓e55_88, ↓e55_91, ↓e55_94, ↓e55_95, ↓e55_98, ↓e55_101, ↓e55_102, ↓e55_105, ↓e55_106, ↓e55_109, ↓e55_110, ↓e55_113, ↓e55_116, ↓e55_117, ↓e55_120, ↓e55_123, ↓e55_124, ↓e55_125, ↓e55_128, ↓e55_129, ↓e55_132, ↓e55_133, ↓e55_136, ↓e55_139, ↓e55_140, ↓e55_143, ↓e55_144, ↓e55_147, ↓e55_148, ↓e55_151, ↓e55_152, ↓e55_155, ↓e55_156, ↓e55_157, ↓e55_160, ↓e55_161, ↓e55_162, ↓e55_165, bc1_a, bd1, bd2, bd3, bd4, bd5, bd6, bd7, bd8, bd9, bd10, bd11, bd12, bd13, bd14, bd15, bd16, bd17, bd18, bd19, bd20, bd21, bd22, bd23, bd24, bd25, bd26, bd27, bd28, bd29, bd30, bd31, bd32, bd33, bd34, bd35, bd36, bd37, bd38, bd39, bc1_i, bc1_r, bc1_n, bc1_U, bisA_r, bisA_n, bisA_a, bct_i, bct_r, bct_n, bct_l, bcs_0, bcs_i, bcs_r, bcs_l, bcs_a, brt_0, brt_1, ↓bz0, ↓bz1, true_and, and_true, false_and, and_false, and_self, Nat.reduceAdd, Nat.reduceLeDiff, Nat.reduceSub, Nat.reduceEqDiff, ite_true, ite_false, if_true, if_false, r1, r2, e1, e2, hc, h0, h1, h3, r5, r6, e6, c_isLetter, b2i_f hb, i0eq, c_isDigit, b2i_f hb2, i1ne, c_isSign, b2i_f hb3, gS_p, gI_p, nI_1]
          refine hq _ ((f1.put ⟨by decide, by decide⟩).put ⟨by decide, by decide⟩) ⟨?_, ?_, ?_, fun z => absurd (hk.symm.trans z) (by decide)⟩
          · rw [gI_p, if_pos (by decide), he]
          · rw [gI_p, if_neg (by decide), gI_p, if_neg (by decide)]; exact e4
          · rw [gI_p, if_neg (by decide), gI_p, if_pos (by decide), hk]; rfl
  · have hc := nI_lt0 (a := t_s (gI M 6) n p) (b := n) hge (by omega)
    have he : t_e (gI M 6) n p = t_s (gI M 6) n p := by unfold t_e; rw [if_pos hge]
    have hk : t_k (gI M 6) n p = 0 := by unfold t_k; rw [if_pos hge]
    simp only [↓e55_1, ↓e55_4, ↓e55_5, ↓e55_8, ↓e55_11, ↓e55_12, ↓e55_15, ↓e55_16, ↓e55_19, ↓e55_20, ↓e55_22, ↓e55_25, ↓e55_26, ↓e55_29, ↓e55_30, ↓e55_33, ↓e55_34, ↓e55_36, ↓e55_39, ↓e55_40, ↓e55_41, ↓e55_44, ↓e55_45, ↓e55_46, ↓e55_49, ↓e55_53, ↓e55_54, ↓e55_57, ↓e55_60, ↓e55_61, ↓e55_64, ↓e55_65, ↓e55_68, ↓e55_71, ↓e55_72, ↓e55_73, ↓e55_76, ↓e55_79, ↓e55_80, ↓e55_83, ↓e55_84, ↓e55_87, ↓e55_88, ↓e55_91, ↓e55_94, ↓e55_95, ↓e55_98, ↓e55_101, ↓e55_102, ↓e55_105, ↓e55_106, ↓e55_109, ↓e55_110, ↓e55_113, ↓e55_116, ↓e55_117, ↓e55_120, ↓e55_123, ↓e55_124, ↓e55_125, ↓e55_128, ↓e55_129, ↓e55_132, ↓e55_133, ↓e55_136, ↓e55_139, ↓e55_140, ↓e55_143, ↓e55_144, ↓e55_147, ↓e55_148, ↓e55_151, ↓e55_152, ↓e55_155, ↓e55_156, ↓e55_157, ↓e55_160, ↓e55_161, ↓e55_162, ↓e55_165, bc1_a, bd1, bd2, bd3, bd4, bd5, bd6, bd7, bd8, bd9, bd10, bd11, bd12, bd13, bd14, bd15, bd16, bd17, bd18, bd19, bd20, bd21, bd22, bd23, bd24, bd25, bd26, bd27, bd28, bd29, bd30, bd31, bd32, bd33, bd34, bd35, bd36, bd37, bd38, bd39, bc1_i, bc1_r, bc1_n, bc1_U, bisA_r, bisA_n, bisA_a, bct_i, bct_r, bct_n, bct_l, bcs_0, bcs_i, bcs_r, bcs_l, bcs_a, brt_0, brt_1, ↓bz0, ↓bz1, true_and, and_true, false_and, and_false, and_self, Nat.reduceAdd, Nat.reduceLeDiff, Nat.reduceSub, Nat.reduceEqDiff, ite_true, ite_false, if_true, if_false, r1, e1, e2, hc]
    refine hq _ (f1.put ⟨by decide, by decide⟩) ⟨?_, ?_, ?_, fun z => absurd (hk.symm.trans z) (by decide)⟩
    · rw [gI_p, if_neg (by decide), he]; exact e2
    · rw [gI_p, if_neg (by decide)]; exact e4
    · rw [gI_p, if_pos (by decide), hk]; rfl
end
