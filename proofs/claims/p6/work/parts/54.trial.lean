/-! THE VASE: last seams; trials -/
def s_last1 (V : Nat → Nat → Int32) (n g : Nat) (held ps : Int32) (s : Nat) (x : Int32) : Int32 :=
  if (held >>> (nI s &&& 31)) &&& 1 = 0 then x else if ps < s_parts V (held &&& ((1 <<< (nI s &&& 31)) ^^^ (-1))) n g then x ||| (1 <<< (nI s &&& 31)) else x
def s_lastR (V : Nat → Nat → Int32) (n g : Nat) (held ps : Int32) : Nat → Nat → Int32 → Int32
  | 0, _, x => x
  | k + 1, s, x => s_lastR V n g held ps k (s + 1) (s_last1 V n g held ps s x)
def s_last (V : Nat → Nat → Int32) (n g : Nat) : Int32 := s_lastR V n g (s_bits (s_hd V) n) (s_parts V (s_bits (s_hd V) n) n g) n 0 0
/-- a number of a view set -/
def s_set (V : Nat → Nat → Int32) (j k : Nat) (x : Int32) : Nat → Nat → Int32 := fun a b => if a = j ∧ b = k then x else V a b
theorem Vw_set {M : mm_H} {v j k : Nat} {x : Int32} (h : j < 8) : Vw (pI M (v + j) k x) v = s_set (Vw M v) j k x := by
  funext a b
  unfold s_set Vw
  by_cases ha : a < 8
  · rw [if_pos ha, if_pos ha, gI_p]
    by_cases h : a = j ∧ b = k
    · rw [if_pos h, if_pos ⟨by omega, h.2⟩]
    · rw [if_neg h, if_neg (fun z => h ⟨by omega, z.2⟩)]
  · rw [if_neg ha, if_neg ha, if_neg (by omega)]
theorem VA.set {M : mm_H} {v n j k : Nat} {x : Int32} (h : VA M v n) (h4 : j ≠ 4) (h0 : j ≠ 0 ∨ k ≠ 6) : VA (pI M (v + j) k x) v n := by
  obtain ⟨h1, h2, h3, h4', h5, h6, h7⟩ := h
  refine ⟨h1, h2, h3, h4', ?_, h6, fun a ha => ?_⟩
  · rw [gI_p, if_neg (by omega)]; exact h5
  · rw [gI_pf (by omega)]; exact h7 a ha
section
variable {L : Nat} {xs : Nat → Int32} {d : Nat} {M : mm_H} {Q : Option Value → mm_H → Prop} {E : Int32 → Nat → (Nat → Int32) → Int32}
theorem l_last {v n g : Nat} {held ps : Int32} (hv : SV M v) (hn : gI M v 6 = nI n) (h10 : n ≤ 10) (hg : gI M v 2 = nI g) (hg10 : g ≤ 10) : ∀ (k s : Nat) (x : Int32), s + k = n →
    Q (some (.int (s_lastR (Vw M v) n g held ps k s x))) M → Wp L xs (d + 3) 102 16 [.ref v, .int held, .int ps, .int x, .int (nI s)] [] M Q := by
  have v0 := hv.1.1
  intro k
  induction k with
  | zero =>
    intro s x hs hq
    have e : s = n := by omega
    subst e
    have hc := nI_lt0 (a := s) (b := s) (Nat.le_refl _) (by omega)
    rw [e102_16]
    simp only [↓e102_0, ↓e102_1, ↓e102_4, ↓e102_5, ↓e102_6, ↓e102_7, ↓e102_10, ↓e102_11, ↓e102_12, ↓e102_13, ↓e102_14, ↓e102_18, ↓e102_19, ↓e102_22, ↓e102_25, ↓e102_26, ↓e102_28, ↓e102_29, ↓e102_30, ↓e102_31, ↓e102_34, ↓e102_35, ↓e102_36, ↓e102_37, ↓e102_39, ↓e102_40, ↓e102_41, ↓e102_42, ↓e102_43, ↓e102_46, ↓e102_47, ↓e102_50, ↓e102_51, ↓e102_52, ↓e102_54, ↓e102_55, ↓e102_56, ↓e102_57, ↓e102_60, ↓e102_63, ↓e102_64, bc1_a, bd1, bd2, bd3, bd4, bd5, bd6, bd7, bd8, bd9, bd10, bd11, bd12, bd13, bd14, bd15, bd16, bd17, bd18, bd19, bd20, bd21, bd22, bd23, bd24, bd25, bd26, bd27, bd28, bd29, bd30, bd31, bd32, bd33, bd34, bd35, bd36, bd37, bd38, bd39, bc1_i, bc1_r, bc1_n, bc1_U, bisA_r, bisA_n, bisA_a, bct_i, bct_r, bct_n, bct_l, bcs_0, bcs_i, bcs_r, bcs_l, bcs_a, brt_0, brt_1, ↓bz0, ↓bz1, true_and, and_true, false_and, and_false, and_self, Nat.reduceAdd, Nat.reduceLeDiff, Nat.reduceSub, Nat.reduceEqDiff, ite_true, ite_false, if_true, if_false, v0, hn, hc]
    exact hq
  | succ k ih =>
    intro s x hs hq
    have hc := nI_lt1 (a := s) (b := n) (by omega) (by omega)
    have hih := ih (s + 1) (s_last1 (Vw M v) n g held ps s x) (by omega) hq
    rw [e102_16]
    by_cases hb : (held >>> (nI s &&& 31)) &&& 1 = 0
    · have e1 : s_last1 (Vw M v) n g held ps s x = x := by unfold s_last1; rw [if_pos hb]
      rw [e1] at hih
      simp only [↓e102_0, ↓e102_1, ↓e102_4, ↓e102_5, ↓e102_6, ↓e102_7, ↓e102_10, ↓e102_11, ↓e102_12, ↓e102_13, ↓e102_14, ↓e102_18, ↓e102_19, ↓e102_22, ↓e102_25, ↓e102_26, ↓e102_28, ↓e102_29, ↓e102_30, ↓e102_31, ↓e102_34, ↓e102_35, ↓e102_36, ↓e102_37, ↓e102_39, ↓e102_40, ↓e102_41, ↓e102_42, ↓e102_43, ↓e102_46, ↓e102_47, ↓e102_50, ↓e102_51, ↓e102_52, ↓e102_54, ↓e102_55, ↓e102_56, ↓e102_57, ↓e102_60, ↓e102_63, ↓e102_64, bc1_a, bd1, bd2, bd3, bd4, bd5, bd6, bd7, bd8, bd9, bd10, bd11, bd12, bd13, bd14, bd15, bd16, bd17, bd18, bd19, bd20, bd21, bd22, bd23, bd24, bd25, bd26, bd27, bd28, bd29, bd30, bd31, bd32, bd33, bd34, bd35, bd36, bd37, bd38, bd39, bc1_i, bc1_r, bc1_n, bc1_U, bisA_r, bisA_n, bisA_a, bct_i, bct_r, bct_n, bct_l, bcs_0, bcs_i, bcs_r, bcs_l, bcs_a, brt_0, brt_1, ↓bz0, ↓bz1, true_and, and_true, false_and, and_false, and_self, Nat.reduceAdd, Nat.reduceLeDiff, Nat.reduceSub, Nat.reduceEqDiff, ite_true, ite_false, if_true, if_false, v0, hn, hc, hb, nI_1]
      exact hih
    · simp only [↓e102_0, ↓e102_1, ↓e102_4, ↓e102_5, ↓e102_6, ↓e102_7, ↓e102_10, ↓e102_11, ↓e102_12, ↓e102_13, ↓e102_14, ↓e102_18, ↓e102_19, ↓e102_22, ↓e102_25, ↓e102_26, ↓e102_28, ↓e102_29, ↓e102_30, ↓e102_31, ↓e102_34, ↓e102_35, ↓e102_36, ↓e102_37, ↓e102_39, ↓e102_40, ↓e102_41, ↓e102_42, ↓e102_43, ↓e102_46, ↓e102_47, ↓e102_50, ↓e102_51, ↓e102_52, ↓e102_54, ↓e102_55, ↓e102_56, ↓e102_57, ↓e102_60, ↓e102_63, ↓e102_64, bc1_a, bd1, bd2, bd3, bd4, bd5, bd6, bd7, bd8, bd9, bd10, bd11, bd12, bd13, bd14, bd15, bd16, bd17, bd18, bd19, bd20, bd21, bd22, bd23, bd24, bd25, bd26, bd27, bd28, bd29, bd30, bd31, bd32, bd33, bd34, bd35, bd36, bd37, bd38, bd39, bc1_i, bc1_r, bc1_n, bc1_U, bisA_r, bisA_n, bisA_a, bct_i, bct_r, bct_n, bct_l, bcs_0, bcs_i, bcs_r, bcs_l, bcs_a, brt_0, brt_1, ↓bz0, ↓bz1, true_and, and_true, false_and, and_false, and_self, Nat.reduceAdd, Nat.reduceLeDiff, Nat.reduceSub, Nat.reduceEqDiff, ite_true, ite_false, if_true, if_false, v0, hn, hc, hb]
      refine c_parts (d := d) hv hn h10 hg hg10 ?_
      by_cases hp : ps < s_parts (Vw M v) (held &&& ((1 <<< (nI s &&& 31)) ^^^ (-1))) n g
      · have e1 : s_last1 (Vw M v) n g held ps s x = x ||| (1 <<< (nI s &&& 31)) := by unfold s_last1; rw [if_neg hb, if_pos hp]
        rw [e1] at hih
        simp only [↓e102_0, ↓e102_1, ↓e102_4, ↓e102_5, ↓e102_6, ↓e102_7, ↓e102_10, ↓e102_11, ↓e102_12, ↓e102_13, ↓e102_14, ↓e102_18, ↓e102_19, ↓e102_22, ↓e102_25, ↓e102_26, ↓e102_28, ↓e102_29, ↓e102_30, ↓e102_31, ↓e102_34, ↓e102_35, ↓e102_36, ↓e102_37, ↓e102_39, ↓e102_40, ↓e102_41, ↓e102_42, ↓e102_43, ↓e102_46, ↓e102_47, ↓e102_50, ↓e102_51, ↓e102_52, ↓e102_54, ↓e102_55, ↓e102_56, ↓e102_57, ↓e102_60, ↓e102_63, ↓e102_64, bc1_a, bd1, bd2, bd3, bd4, bd5, bd6, bd7, bd8, bd9, bd10, bd11, bd12, bd13, bd14, bd15, bd16, bd17, bd18, bd19, bd20, bd21, bd22, bd23, bd24, bd25, bd26, bd27, bd28, bd29, bd30, bd31, bd32, bd33, bd34, bd35, bd36, bd37, bd38, bd39, bc1_i, bc1_r, bc1_n, bc1_U, bisA_r, bisA_n, bisA_a, bct_i, bct_r, bct_n, bct_l, bcs_0, bcs_i, bcs_r, bcs_l, bcs_a, brt_0, brt_1, ↓bz0, ↓bz1, true_and, and_true, false_and, and_false, and_self, Nat.reduceAdd, Nat.reduceLeDiff, Nat.reduceSub, Nat.reduceEqDiff, ite_true, ite_false, if_true, if_false, hp, nI_1]
        exact hih
      · have e1 : s_last1 (Vw M v) n g held ps s x = x := by unfold s_last1; rw [if_neg hb, if_neg hp]
        rw [e1] at hih
        simp only [↓e102_0, ↓e102_1, ↓e102_4, ↓e102_5, ↓e102_6, ↓e102_7, ↓e102_10, ↓e102_11, ↓e102_12, ↓e102_13, ↓e102_14, ↓e102_18, ↓e102_19, ↓e102_22, ↓e102_25, ↓e102_26, ↓e102_28, ↓e102_29, ↓e102_30, ↓e102_31, ↓e102_34, ↓e102_35, ↓e102_36, ↓e102_37, ↓e102_39, ↓e102_40, ↓e102_41, ↓e102_42, ↓e102_43, ↓e102_46, ↓e102_47, ↓e102_50, ↓e102_51, ↓e102_52, ↓e102_54, ↓e102_55, ↓e102_56, ↓e102_57, ↓e102_60, ↓e102_63, ↓e102_64, bc1_a, bd1, bd2, bd3, bd4, bd5, bd6, bd7, bd8, bd9, bd10, bd11, bd12, bd13, bd14, bd15, bd16, bd17, bd18, bd19, bd20, bd21, bd22, bd23, bd24, bd25, bd26, bd27, bd28, bd29, bd30, bd31, bd32, bd33, bd34, bd35, bd36, bd37, bd38, bd39, bc1_i, bc1_r, bc1_n, bc1_U, bisA_r, bisA_n, bisA_a, bct_i, bct_r, bct_n, bct_l, bcs_0, bcs_i, bcs_r, bcs_l, bcs_a, brt_0, brt_1, ↓bz0, ↓bz1, true_and, and_true, false_and, and_false, and_self, Nat.reduceAdd, Nat.reduceLeDiff, Nat.reduceSub, Nat.reduceEqDiff, ite_true, ite_false, if_true, if_false, hp, nI_1]
        exact hih
theorem c_last {v n g : Nat} (hv : SV M v) (hn : gI M v 6 = nI n) (h10 : n ≤ 10) (hg : gI M v 2 = nI g) (hg10 : g ≤ 10) (hq : Q (some (.int (s_last (Vw M v) n g))) M) : Call L xs (d + 3) 102 [.ref v] M Q := by
  have v0 := hv.1.1
  rw [en102]
  simp only [↓e102_0, ↓e102_1, ↓e102_4, ↓e102_5, ↓e102_6, ↓e102_7, ↓e102_10, ↓e102_11, ↓e102_12, ↓e102_13, ↓e102_14, ↓e102_18, ↓e102_19, ↓e102_22, ↓e102_25, ↓e102_26, ↓e102_28, ↓e102_29, ↓e102_30, ↓e102_31, ↓e102_34, ↓e102_35, ↓e102_36, ↓e102_37, ↓e102_39, ↓e102_40, ↓e102_41, ↓e102_42, ↓e102_43, ↓e102_46, ↓e102_47, ↓e102_50, ↓e102_51, ↓e102_52, ↓e102_54, ↓e102_55, ↓e102_56, ↓e102_57, ↓e102_60, ↓e102_63, ↓e102_64, bc1_a, bd1, bd2, bd3, bd4, bd5, bd6, bd7, bd8, bd9, bd10, bd11, bd12, bd13, bd14, bd15, bd16, bd17, bd18, bd19, bd20, bd21, bd22, bd23, bd24, bd25, bd26, bd27, bd28, bd29, bd30, bd31, bd32, bd33, bd34, bd35, bd36, bd37, bd38, bd39, bc1_i, bc1_r, bc1_n, bc1_U, bisA_r, bisA_n, bisA_a, bct_i, bct_r, bct_n, bct_l, bcs_0, bcs_i, bcs_r, bcs_l, bcs_a, brt_0, brt_1, ↓bz0, ↓bz1, true_and, and_true, false_and, and_false, and_self, Nat.reduceAdd, Nat.reduceLeDiff, Nat.reduceSub, Nat.reduceEqDiff, ite_true, ite_false, if_true, if_false, v0, c_holding hv hn h10]
  refine c_parts (d := d) hv hn h10 hg hg10 ?_
  simp only [↓e102_0, ↓e102_1, ↓e102_4, ↓e102_5, ↓e102_6, ↓e102_7, ↓e102_10, ↓e102_11, ↓e102_12, ↓e102_13, ↓e102_14, ↓e102_18, ↓e102_19, ↓e102_22, ↓e102_25, ↓e102_26, ↓e102_28, ↓e102_29, ↓e102_30, ↓e102_31, ↓e102_34, ↓e102_35, ↓e102_36, ↓e102_37, ↓e102_39, ↓e102_40, ↓e102_41, ↓e102_42, ↓e102_43, ↓e102_46, ↓e102_47, ↓e102_50, ↓e102_51, ↓e102_52, ↓e102_54, ↓e102_55, ↓e102_56, ↓e102_57, ↓e102_60, ↓e102_63, ↓e102_64, bc1_a, bd1, bd2, bd3, bd4, bd5, bd6, bd7, bd8, bd9, bd10, bd11, bd12, bd13, bd14, bd15, bd16, bd17, bd18, bd19, bd20, bd21, bd22, bd23, bd24, bd25, bd26, bd27, bd28, bd29, bd30, bd31, bd32, bd33, bd34, bd35, bd36, bd37, bd38, bd39, bc1_i, bc1_r, bc1_n, bc1_U, bisA_r, bisA_n, bisA_a, bct_i, bct_r, bct_n, bct_l, bcs_0, bcs_i, bcs_r, bcs_l, bcs_a, brt_0, brt_1, ↓bz0, ↓bz1, true_and, and_true, false_and, and_false, and_self, Nat.reduceAdd, Nat.reduceLeDiff, Nat.reduceSub, Nat.reduceEqDiff, ite_true, ite_false, if_true, if_false]
  exact l_last hv hn h10 hg hg10 n 0 0 (Nat.zero_add n) hq
theorem s_draw_z (z : Int32) : True := True.intro
/-- drawn tones: the seed, and the tones -/
def s_drawR : Nat → Nat → Int32 → (Nat → Nat → Int32) → (Nat → Nat → Int32)
  | 0, _, _, V => V
  | k + 1, s, z, V => s_drawR k (s + 1) (z * 1103515245 + 12345) (s_set V 5 s (irm (((z * 1103515245 + 12345).toUInt32 >>> ((9 : Int32).toUInt32 &&& Int32.toUInt32 31)).toInt32) 100))
theorem i100ne : ((100 : Int32) = 0) = False := by simp
theorem l_draw {M0 : mm_H} {v n : Nat} {z0 : Int32} : ∀ (k s : Nat) (M : mm_H) (z : Int32), Fr (fun o => o = v + 5) M0 M → VA M v n → s + k = n →
    (∀ M', Fr (fun o => o = v + 5) M0 M' → VA M' v n → Vw M' v = s_drawR k s z (Vw M v) → Q none M') → Wp L xs d 107 4 [.ref v, .int z0, .int z, .int (nI s)] [] M Q := by
  intro k
  induction k with
  | zero =>
    intro s M z hf hA hs hq
    have v0 := hA.1.1.1
    have hn := hA.2.2.2.2.1
    have h10 := hA.2.2.2.2.2.1
    have e : s = n := by omega
    subst e
    have hc := nI_lt0 (a := s) (b := s) (Nat.le_refl _) (by omega)
    rw [e107_4]
    simp only [↓e107_0, ↓e107_1, ↓e107_2, ↓e107_3, ↓e107_5, ↓e107_6, ↓e107_9, ↓e107_12, ↓e107_13, ↓e107_15, ↓e107_16, ↓e107_19, ↓e107_20, ↓e107_21, ↓e107_22, ↓e107_25, ↓e107_26, ↓e107_27, ↓e107_29, ↓e107_30, ↓e107_32, ↓e107_33, ↓e107_34, ↓e107_37, ↓e107_40, bc1_a, bd1, bd2, bd3, bd4, bd5, bd6, bd7, bd8, bd9, bd10, bd11, bd12, bd13, bd14, bd15, bd16, bd17, bd18, bd19, bd20, bd21, bd22, bd23, bd24, bd25, bd26, bd27, bd28, bd29, bd30, bd31, bd32, bd33, bd34, bd35, bd36, bd37, bd38, bd39, bc1_i, bc1_r, bc1_n, bc1_U, bisA_r, bisA_n, bisA_a, bct_i, bct_r, bct_n, bct_l, bcs_0, bcs_i, bcs_r, bcs_l, bcs_a, brt_0, brt_1, ↓bz0, ↓bz1, true_and, and_true, false_and, and_false, and_self, Nat.reduceAdd, Nat.reduceLeDiff, Nat.reduceSub, Nat.reduceEqDiff, ite_true, ite_false, if_true, if_false, v0, hn, hc]
    exact hq M hf hA rfl
  | succ k ih =>
    intro s M z hf hA hs hq
    obtain ⟨⟨v0, v1, v2, v3, v4, v5, v6, v7, v8⟩, ⟨w1, w2, w3, w4, w5, w6, w7⟩, x1, x2, x3, x4, x5, x6, x7⟩ := id hA.1
    have hn := hA.2.2.2.2.1
    have h10 := hA.2.2.2.2.2.1
    have hc := nI_lt1 (a := s) (b := n) (by omega) (by omega)
    have g0 : 0 ≤ nI s := nI_pos' (by omega)
    have g1 : (nI s).toNatClampNeg = s := nI_clamp (by omega)
    have h2 : s < 10 := by omega
    have hnext := ih (s + 1) (pI M (v + 5) s (irm (((z * 1103515245 + 12345).toUInt32 >>> ((9 : Int32).toUInt32 &&& Int32.toUInt32 31)).toInt32) 100)) (z * 1103515245 + 12345) (hf.put2 rfl) (hA.set (by decide) (Or.inl (by decide))) (by omega) (fun M' a1 a2 a3 => hq M' a1 a2 (by rw [a3, Vw_set (by decide)]; rfl))
    rw [e107_4]
    simp only [↓e107_0, ↓e107_1, ↓e107_2, ↓e107_3, ↓e107_5, ↓e107_6, ↓e107_9, ↓e107_12, ↓e107_13, ↓e107_15, ↓e107_16, ↓e107_19, ↓e107_20, ↓e107_21, ↓e107_22, ↓e107_25, ↓e107_26, ↓e107_27, ↓e107_29, ↓e107_30, ↓e107_32, ↓e107_33, ↓e107_34, ↓e107_37, ↓e107_40, bc1_a, bd1, bd2, bd3, bd4, bd5, bd6, bd7, bd8, bd9, bd10, bd11, bd12, bd13, bd14, bd15, bd16, bd17, bd18, bd19, bd20, bd21, bd22, bd23, bd24, bd25, bd26, bd27, bd28, bd29, bd30, bd31, bd32, bd33, bd34, bd35, bd36, bd37, bd38, bd39, bc1_i, bc1_r, bc1_n, bc1_U, bisA_r, bisA_n, bisA_a, bct_i, bct_r, bct_n, bct_l, bcs_0, bcs_i, bcs_r, bcs_l, bcs_a, brt_0, brt_1, ↓bz0, ↓bz1, true_and, and_true, false_and, and_false, and_self, Nat.reduceAdd, Nat.reduceLeDiff, Nat.reduceSub, Nat.reduceEqDiff, ite_true, ite_false, if_true, if_false, v0, v6, w5, x5, g0, g1, h2, hn, hc, i100ne, not_false_eq_true, nI_1]
    exact hnext
theorem c_draw {v n : Nat} {z : Int32} (hA : VA M v n) (hq : ∀ M', Fr (fun o => o = v + 5) M M' → VA M' v n → Vw M' v = s_drawR n 0 z (Vw M v) → Q none M') : Call L xs d 107 [.ref v, .int z] M Q := by
  rw [en107]
  simp only [↓e107_0, ↓e107_1, ↓e107_2, ↓e107_3, ↓e107_5, ↓e107_6, ↓e107_9, ↓e107_12, ↓e107_13, ↓e107_15, ↓e107_16, ↓e107_19, ↓e107_20, ↓e107_21, ↓e107_22, ↓e107_25, ↓e107_26, ↓e107_27, ↓e107_29, ↓e107_30, ↓e107_32, ↓e107_33, ↓e107_34, ↓e107_37, ↓e107_40, bc1_a, bd1, bd2, bd3, bd4, bd5, bd6, bd7, bd8, bd9, bd10, bd11, bd12, bd13, bd14, bd15, bd16, bd17, bd18, bd19, bd20, bd21, bd22, bd23, bd24, bd25, bd26, bd27, bd28, bd29, bd30, bd31, bd32, bd33, bd34, bd35, bd36, bd37, bd38, bd39, bc1_i, bc1_r, bc1_n, bc1_U, bisA_r, bisA_n, bisA_a, bct_i, bct_r, bct_n, bct_l, bcs_0, bcs_i, bcs_r, bcs_l, bcs_a, brt_0, brt_1, ↓bz0, ↓bz1, true_and, and_true, false_and, and_false, and_self, Nat.reduceAdd, Nat.reduceLeDiff, Nat.reduceSub, Nat.reduceEqDiff, ite_true, ite_false, if_true, if_false]
  exact l_draw n 0 M z Fr.rf hA (Nat.zero_add n) hq
end
