/-! THE VASE: slack, takes, holds, and what is so of all seams -/
section
variable {L : Nat} {xs : Nat → Int32} {d : Nat} {M : mm_H} {Q : Option Value → mm_H → Prop} {E : Int32 → Nat → (Nat → Int32) → Int32}
theorem c_slack {v n s p : Nat} (h : Vs M v n s p) (hE : E6 E) (hT : TOK L xs E (d + 1) M) (hq : ∀ M', Fr S34 M M' → Q (some (.int (s_sl E (Vw M v) s))) M') : Call L xs (d + 3) 89 [.ref v, .int (nI s)] M Q := by
  obtain ⟨hv, h2, h3, h4, h5, h6, h7, h8, h9⟩ := id h
  obtain ⟨⟨v0, v1, v2, v3, v4, v5, v6, v7, v8⟩, ⟨w1, w2, w3, w4, w5, w6, w7⟩, x1, x2, x3, x4, x5, x6, x7⟩ := id hv
  rw [en89]
  have g0 : 0 ≤ nI s := nI_pos' (by omega)
  have g1 : (nI s).toNatClampNeg = s := nI_clamp (by omega)
  have g2 : 0 ≤ nI p := nI_pos' (by omega)
  have g3 : (nI p).toNatClampNeg = p := nI_clamp (by omega)
  simp only [↓e89_0, ↓e89_1, ↓e89_4, ↓e89_5, ↓e89_8, ↓e89_9, ↓e89_10, ↓e89_11, ↓e89_12, ↓e89_15, ↓e89_16, ↓e89_19, ↓e89_20, ↓e89_21, ↓e89_22, ↓e89_23, ↓e89_26, ↓e89_27, ↓e89_28, ↓e89_29, ↓e89_30, ↓e89_31, ↓e89_34, ↓e89_37, ↓e89_38, ↓e89_41, ↓e89_42, bc1_a, bd1, bd2, bd3, bd4, bd5, bd6, bd7, bd8, bd9, bd10, bd11, bd12, bd13, bd14, bd15, bd16, bd17, bd18, bd19, bd20, bd21, bd22, bd23, bd24, bd25, bd26, bd27, bd28, bd29, bd30, bd31, bd32, bd33, bd34, bd35, bd36, bd37, bd38, bd39, bc1_i, bc1_r, bc1_n, bc1_U, bisA_r, bisA_n, bisA_a, bct_i, bct_r, bct_n, bct_l, bcs_0, bcs_i, bcs_r, bcs_l, bcs_a, brt_0, brt_1, ↓bz0, ↓bz1, true_and, and_true, false_and, and_false, and_self, Nat.reduceAdd, Nat.reduceLeDiff, Nat.reduceSub, Nat.reduceEqDiff, ite_true, ite_false, if_true, if_false, v0, v2, v3, v5, v7, w1, w2, w4, w6, x1, x2, x4, x6, g0, g1, g2, g3, h7, h8, h9]
  refine c_telling' (w := 1) h (by decide) hE hT (fun M1 f1 => ?_)
  have b0 : gS M1 v = 4 := (f1.hS v).trans v0
  have b1 : gI M1 v 13 = gI M v 13 := f1.2.2 v (fun z => by rcases z with z | z <;> omega) 13
  simp only [↓e89_0, ↓e89_1, ↓e89_4, ↓e89_5, ↓e89_8, ↓e89_9, ↓e89_10, ↓e89_11, ↓e89_12, ↓e89_15, ↓e89_16, ↓e89_19, ↓e89_20, ↓e89_21, ↓e89_22, ↓e89_23, ↓e89_26, ↓e89_27, ↓e89_28, ↓e89_29, ↓e89_30, ↓e89_31, ↓e89_34, ↓e89_37, ↓e89_38, ↓e89_41, ↓e89_42, bc1_a, bd1, bd2, bd3, bd4, bd5, bd6, bd7, bd8, bd9, bd10, bd11, bd12, bd13, bd14, bd15, bd16, bd17, bd18, bd19, bd20, bd21, bd22, bd23, bd24, bd25, bd26, bd27, bd28, bd29, bd30, bd31, bd32, bd33, bd34, bd35, bd36, bd37, bd38, bd39, bc1_i, bc1_r, bc1_n, bc1_U, bisA_r, bisA_n, bisA_a, bct_i, bct_r, bct_n, bct_l, bcs_0, bcs_i, bcs_r, bcs_l, bcs_a, brt_0, brt_1, ↓bz0, ↓bz1, true_and, and_true, false_and, and_false, and_self, Nat.reduceAdd, Nat.reduceLeDiff, Nat.reduceSub, Nat.reduceEqDiff, ite_true, ite_false, if_true, if_false, c_kslack, b0, b1]
  have e : s_sl E (Vw M v) s = s_kslack (gI M (v + 1) p) (gI M (v + 2) p) (gI M (v + 6) s) (s_tl E (Vw M v) s 1) + gI M v 13 := by
    unfold s_sl; rw [h.br, Vw_at (by decide), Vw_at (by decide), Vw_at (by decide), Vw_at (by decide)]; rfl
  rw [← e]
  exact hq M1 f1
theorem c_holdsFor {v n s p : Nat} (h : Vs M v n s p) (hE : E6 E) (hT : TOK L xs E (d + 1) M) (hq : ∀ M', Fr S34 M M' → Q (some (.int (s_hf E (Vw M v) s))) M') : Call L xs (d + 3) 92 [.ref v, .int (nI s)] M Q := by
  obtain ⟨hv, h2, h3, h4, h5, h6, h7, h8, h9⟩ := id h
  obtain ⟨⟨v0, v1, v2, v3, v4, v5, v6, v7, v8⟩, ⟨w1, w2, w3, w4, w5, w6, w7⟩, x1, x2, x3, x4, x5, x6, x7⟩ := id hv
  rw [en92]
  have g0 : 0 ≤ nI s := nI_pos' (by omega)
  have g1 : (nI s).toNatClampNeg = s := nI_clamp (by omega)
  have g2 : 0 ≤ nI p := nI_pos' (by omega)
  have g3 : (nI p).toNatClampNeg = p := nI_clamp (by omega)
  simp only [↓e92_0, ↓e92_1, ↓e92_4, ↓e92_5, ↓e92_8, ↓e92_9, ↓e92_10, ↓e92_11, ↓e92_12, ↓e92_13, ↓e92_14, ↓e92_17, ↓e92_20, bc1_a, bd1, bd2, bd3, bd4, bd5, bd6, bd7, bd8, bd9, bd10, bd11, bd12, bd13, bd14, bd15, bd16, bd17, bd18, bd19, bd20, bd21, bd22, bd23, bd24, bd25, bd26, bd27, bd28, bd29, bd30, bd31, bd32, bd33, bd34, bd35, bd36, bd37, bd38, bd39, bc1_i, bc1_r, bc1_n, bc1_U, bisA_r, bisA_n, bisA_a, bct_i, bct_r, bct_n, bct_l, bcs_0, bcs_i, bcs_r, bcs_l, bcs_a, brt_0, brt_1, ↓bz0, ↓bz1, true_and, and_true, false_and, and_false, and_self, Nat.reduceAdd, Nat.reduceLeDiff, Nat.reduceSub, Nat.reduceEqDiff, ite_true, ite_false, if_true, if_false, v0, v2, v3, v5, v7, w1, w2, w4, w6, x1, x2, x4, x6, g0, g1, g2, g3, h7, h8, h9]
  refine c_telling' (w := 2) h (by decide) hE hT (fun M1 f1 => ?_)
  simp only [↓e92_0, ↓e92_1, ↓e92_4, ↓e92_5, ↓e92_8, ↓e92_9, ↓e92_10, ↓e92_11, ↓e92_12, ↓e92_13, ↓e92_14, ↓e92_17, ↓e92_20, bc1_a, bd1, bd2, bd3, bd4, bd5, bd6, bd7, bd8, bd9, bd10, bd11, bd12, bd13, bd14, bd15, bd16, bd17, bd18, bd19, bd20, bd21, bd22, bd23, bd24, bd25, bd26, bd27, bd28, bd29, bd30, bd31, bd32, bd33, bd34, bd35, bd36, bd37, bd38, bd39, bc1_i, bc1_r, bc1_n, bc1_U, bisA_r, bisA_n, bisA_a, bct_i, bct_r, bct_n, bct_l, bcs_0, bcs_i, bcs_r, bcs_l, bcs_a, brt_0, brt_1, ↓bz0, ↓bz1, true_and, and_true, false_and, and_false, and_self, Nat.reduceAdd, Nat.reduceLeDiff, Nat.reduceSub, Nat.reduceEqDiff, ite_true, ite_false, if_true, if_false, c_khold]
  have e : s_hf E (Vw M v) s = s_khold (gI M (v + 1) p) (s_tl E (Vw M v) s 2) := by
    unfold s_hf; rw [h.br, Vw_at (by decide)]
  rw [← e]
  exact hq M1 f1
theorem c_takes {v n s p : Nat} (h : Vs M v n s p) (hE : E6 E) (hT : TOK L xs E (d + 1) M) (hq : ∀ M', Fr S34 M M' → Q (some (.int (s_b2i (s_tk E (Vw M v) s)))) M') : Call L xs (d + 4) 90 [.ref v, .int (nI s)] M Q := by
  obtain ⟨hv, h2, h3, h4, h5, h6, h7, h8, h9⟩ := id h
  obtain ⟨⟨v0, v1, v2, v3, v4, v5, v6, v7, v8⟩, ⟨w1, w2, w3, w4, w5, w6, w7⟩, x1, x2, x3, x4, x5, x6, x7⟩ := id hv
  rw [en90]
  have g0 : 0 ≤ nI s := nI_pos' (by omega)
  have g1 : (nI s).toNatClampNeg = s := nI_clamp (by omega)
  simp only [↓e90_0, ↓e90_1, ↓e90_2, ↓e90_5, ↓e90_6, ↓e90_9, ↓e90_10, ↓e90_11, ↓e90_12, ↓e90_15, ↓e90_16, ↓e90_17, ↓e90_20, ↓e90_23, ↓e90_24, ↓e90_27, ↓e90_28, bc1_a, bd1, bd2, bd3, bd4, bd5, bd6, bd7, bd8, bd9, bd10, bd11, bd12, bd13, bd14, bd15, bd16, bd17, bd18, bd19, bd20, bd21, bd22, bd23, bd24, bd25, bd26, bd27, bd28, bd29, bd30, bd31, bd32, bd33, bd34, bd35, bd36, bd37, bd38, bd39, bc1_i, bc1_r, bc1_n, bc1_U, bisA_r, bisA_n, bisA_a, bct_i, bct_r, bct_n, bct_l, bcs_0, bcs_i, bcs_r, bcs_l, bcs_a, brt_0, brt_1, ↓bz0, ↓bz1, true_and, and_true, false_and, and_false, and_self, Nat.reduceAdd, Nat.reduceLeDiff, Nat.reduceSub, Nat.reduceEqDiff, ite_true, ite_false, if_true, if_false, v0]
  refine c_says h hE hT (fun M1 f1 => ?_)
  have h' := h.fr f1
  obtain ⟨⟨v0', v1', v2', v3', v4', v5', v6', v7', v8'⟩, ⟨w1', w2', w3', w4', w5', w6', w7'⟩, x1', x2', x3', x4', x5', x6', x7'⟩ := h'.1
  have b1 : gI M1 (v + 5) s = gI M (v + 5) s := f1.2.2 (v + 5) (fun z => by rcases z with z | z <;> omega) s
  have hV : Vw M1 v = Vw M v := Vw34 h3 f1
  simp only [↓e90_0, ↓e90_1, ↓e90_2, ↓e90_5, ↓e90_6, ↓e90_9, ↓e90_10, ↓e90_11, ↓e90_12, ↓e90_15, ↓e90_16, ↓e90_17, ↓e90_20, ↓e90_23, ↓e90_24, ↓e90_27, ↓e90_28, bc1_a, bd1, bd2, bd3, bd4, bd5, bd6, bd7, bd8, bd9, bd10, bd11, bd12, bd13, bd14, bd15, bd16, bd17, bd18, bd19, bd20, bd21, bd22, bd23, bd24, bd25, bd26, bd27, bd28, bd29, bd30, bd31, bd32, bd33, bd34, bd35, bd36, bd37, bd38, bd39, bc1_i, bc1_r, bc1_n, bc1_U, bisA_r, bisA_n, bisA_a, bct_i, bct_r, bct_n, bct_l, bcs_0, bcs_i, bcs_r, bcs_l, bcs_a, brt_0, brt_1, ↓bz0, ↓bz1, true_and, and_true, false_and, and_false, and_self, Nat.reduceAdd, Nat.reduceLeDiff, Nat.reduceSub, Nat.reduceEqDiff, ite_true, ite_false, if_true, if_false, v0', v6', w5', x5', g0, g1, h7, b1]
  refine c_slack h' hE (hT.fr (f1.weak Sno34)) (fun M2 f2 => ?_)
  rw [hV]
  have hh := hq M2 (f1.trans f2)
  unfold s_tk s_abs at hh
  rw [Vw_at (by decide)] at hh
  by_cases hc : s_sl E (Vw M v) s < (if 0 ≤ s_sy E (Vw M v) s - gI M (v + 5) s then s_sy E (Vw M v) s - gI M (v + 5) s else 0 - (s_sy E (Vw M v) s - gI M (v + 5) s))
  · rw [decide_eq_true hc] at hh
    simp only [↓e90_0, ↓e90_1, ↓e90_2, ↓e90_5, ↓e90_6, ↓e90_9, ↓e90_10, ↓e90_11, ↓e90_12, ↓e90_15, ↓e90_16, ↓e90_17, ↓e90_20, ↓e90_23, ↓e90_24, ↓e90_27, ↓e90_28, bc1_a, bd1, bd2, bd3, bd4, bd5, bd6, bd7, bd8, bd9, bd10, bd11, bd12, bd13, bd14, bd15, bd16, bd17, bd18, bd19, bd20, bd21, bd22, bd23, bd24, bd25, bd26, bd27, bd28, bd29, bd30, bd31, bd32, bd33, bd34, bd35, bd36, bd37, bd38, bd39, bc1_i, bc1_r, bc1_n, bc1_U, bisA_r, bisA_n, bisA_a, bct_i, bct_r, bct_n, bct_l, bcs_0, bcs_i, bcs_r, bcs_l, bcs_a, brt_0, brt_1, ↓bz0, ↓bz1, true_and, and_true, false_and, and_false, and_self, Nat.reduceAdd, Nat.reduceLeDiff, Nat.reduceSub, Nat.reduceEqDiff, ite_true, ite_false, if_true, if_false, hc]
    exact hh
  · rw [decide_eq_false hc] at hh
    simp only [↓e90_0, ↓e90_1, ↓e90_2, ↓e90_5, ↓e90_6, ↓e90_9, ↓e90_10, ↓e90_11, ↓e90_12, ↓e90_15, ↓e90_16, ↓e90_17, ↓e90_20, ↓e90_23, ↓e90_24, ↓e90_27, ↓e90_28, bc1_a, bd1, bd2, bd3, bd4, bd5, bd6, bd7, bd8, bd9, bd10, bd11, bd12, bd13, bd14, bd15, bd16, bd17, bd18, bd19, bd20, bd21, bd22, bd23, bd24, bd25, bd26, bd27, bd28, bd29, bd30, bd31, bd32, bd33, bd34, bd35, bd36, bd37, bd38, bd39, bc1_i, bc1_r, bc1_n, bc1_U, bisA_r, bisA_n, bisA_a, bct_i, bct_r, bct_n, bct_l, bcs_0, bcs_i, bcs_r, bcs_l, bcs_a, brt_0, brt_1, ↓bz0, ↓bz1, true_and, and_true, false_and, and_false, and_self, Nat.reduceAdd, Nat.reduceLeDiff, Nat.reduceSub, Nat.reduceEqDiff, ite_true, ite_false, if_true, if_false, hc]
    exact hh
theorem c_holds {v s : Nat} (hv : SV M v) (h7 : s < 10) : Call L xs d 91 [.ref v, .int (nI s)] M Q = Q (some (.int (s_b2i (s_hd (Vw M v) s)))) M := by
  obtain ⟨⟨v0, v1, v2, v3, v4, v5, v6, v7, v8⟩, ⟨w1, w2, w3, w4, w5, w6, w7⟩, x1, x2, x3, x4, x5, x6, x7⟩ := id hv
  rw [en91]
  have g0 : 0 ≤ nI s := nI_pos' (by omega)
  have g1 : (nI s).toNatClampNeg = s := nI_clamp (by omega)
  unfold s_hd
  rw [Vw_at (by decide), Vw_at (by decide)]
  by_cases c1 : gI M (v + 7) s = -1
  · rw [decide_eq_true c1]
    simp only [↓e91_0, ↓e91_1, ↓e91_4, ↓e91_5, ↓e91_6, ↓e91_7, ↓e91_10, ↓e91_11, ↓e91_14, ↓e91_15, ↓e91_18, ↓e91_19, ↓e91_20, ↓e91_23, ↓e91_24, ↓e91_27, ↓e91_28, bc1_a, bd1, bd2, bd3, bd4, bd5, bd6, bd7, bd8, bd9, bd10, bd11, bd12, bd13, bd14, bd15, bd16, bd17, bd18, bd19, bd20, bd21, bd22, bd23, bd24, bd25, bd26, bd27, bd28, bd29, bd30, bd31, bd32, bd33, bd34, bd35, bd36, bd37, bd38, bd39, bc1_i, bc1_r, bc1_n, bc1_U, bisA_r, bisA_n, bisA_a, bct_i, bct_r, bct_n, bct_l, bcs_0, bcs_i, bcs_r, bcs_l, bcs_a, brt_0, brt_1, ↓bz0, ↓bz1, true_and, and_true, false_and, and_false, and_self, Nat.reduceAdd, Nat.reduceLeDiff, Nat.reduceSub, Nat.reduceEqDiff, ite_true, ite_false, if_true, if_false, v0, v8, w7, x7, g0, g1, h7, c1]
    rfl
  · rw [decide_eq_false c1]
    by_cases c2 : gI M (v + 7) s < gI M v 1
    · rw [decide_eq_true (show gI M (v + 7) s < gI M (v + 0) 1 from c2)]
      simp only [↓e91_0, ↓e91_1, ↓e91_4, ↓e91_5, ↓e91_6, ↓e91_7, ↓e91_10, ↓e91_11, ↓e91_14, ↓e91_15, ↓e91_18, ↓e91_19, ↓e91_20, ↓e91_23, ↓e91_24, ↓e91_27, ↓e91_28, bc1_a, bd1, bd2, bd3, bd4, bd5, bd6, bd7, bd8, bd9, bd10, bd11, bd12, bd13, bd14, bd15, bd16, bd17, bd18, bd19, bd20, bd21, bd22, bd23, bd24, bd25, bd26, bd27, bd28, bd29, bd30, bd31, bd32, bd33, bd34, bd35, bd36, bd37, bd38, bd39, bc1_i, bc1_r, bc1_n, bc1_U, bisA_r, bisA_n, bisA_a, bct_i, bct_r, bct_n, bct_l, bcs_0, bcs_i, bcs_r, bcs_l, bcs_a, brt_0, brt_1, ↓bz0, ↓bz1, true_and, and_true, false_and, and_false, and_self, Nat.reduceAdd, Nat.reduceLeDiff, Nat.reduceSub, Nat.reduceEqDiff, ite_true, ite_false, if_true, if_false, v0, v8, w7, x7, g0, g1, h7, c1, c2]
      rfl
    · rw [decide_eq_false (show ¬ gI M (v + 7) s < gI M (v + 0) 1 from c2)]
      simp only [↓e91_0, ↓e91_1, ↓e91_4, ↓e91_5, ↓e91_6, ↓e91_7, ↓e91_10, ↓e91_11, ↓e91_14, ↓e91_15, ↓e91_18, ↓e91_19, ↓e91_20, ↓e91_23, ↓e91_24, ↓e91_27, ↓e91_28, bc1_a, bd1, bd2, bd3, bd4, bd5, bd6, bd7, bd8, bd9, bd10, bd11, bd12, bd13, bd14, bd15, bd16, bd17, bd18, bd19, bd20, bd21, bd22, bd23, bd24, bd25, bd26, bd27, bd28, bd29, bd30, bd31, bd32, bd33, bd34, bd35, bd36, bd37, bd38, bd39, bc1_i, bc1_r, bc1_n, bc1_U, bisA_r, bisA_n, bisA_a, bct_i, bct_r, bct_n, bct_l, bcs_0, bcs_i, bcs_r, bcs_l, bcs_a, brt_0, brt_1, ↓bz0, ↓bz1, true_and, and_true, false_and, and_false, and_self, Nat.reduceAdd, Nat.reduceLeDiff, Nat.reduceSub, Nat.reduceEqDiff, ite_true, ite_false, if_true, if_false, v0, v8, w7, x7, g0, g1, h7, c1, c2]
      rfl
/-- what is known of a vase with all its seams -/
def VA (M : mm_H) (v n : Nat) : Prop := SV M v ∧ SU M ∧ 9 ≤ v ∧ v ≤ 25 ∧ gI M v 6 = nI n ∧ n ≤ 10 ∧ ∀ s, s < n → ∃ p : Nat, p < 6 ∧ gI M (v + 4) s = nI p
theorem VA.vs {v n s : Nat} (h : VA M v n) (hs : s < n) : ∃ p, Vs M v n s p := by
  obtain ⟨h1, h2, h3, h4, h5, h6, h7⟩ := h
  obtain ⟨p, hp, e⟩ := h7 s hs
  exact ⟨p, h1, h2, h3, h4, h5, h6, by omega, e, hp⟩
theorem VA.fr {M M1 : mm_H} {v n : Nat} (h : VA M v n) (hf : Fr S34 M M1) : VA M1 v n := by
  obtain ⟨h1, h2, h3, h4, h5, h6, h7⟩ := h
  have e : ∀ j k, j < 8 → gI M1 (v + j) k = gI M (v + j) k := fun j k _ => hf.2.2 (v + j) (fun z => by rcases z with z | z <;> omega) k
  exact ⟨h1.fr hf (by omega), h2.fr hf, h3, h4, (e 0 6 (by decide)).trans h5, h6, fun s hs => by rw [e 4 s (by decide)]; exact h7 s hs⟩
theorem l_holding {v n : Nat} (hv : SV M v) (hn : gI M v 6 = nI n) (h10 : n ≤ 10) : ∀ k i : Nat, i + k = n → Wp L xs (d + 1) 94 4 [.ref v, .int (s_bits (s_hd (Vw M v)) i), .int (nI i)] [] M Q = Q (some (.int (s_bits (s_hd (Vw M v)) n))) M := by
  have v0 := hv.1.1
  intro k
  induction k with
  | zero =>
    intro i hi
    have e : i = n := by omega
    subst e
    have hc := nI_lt0 (a := i) (b := i) (Nat.le_refl _) (by omega)
    simp only [↓e94_0, ↓e94_1, ↓e94_2, ↓e94_3, ↓e94_4, ↓e94_5, ↓e94_6, ↓e94_9, ↓e94_12, ↓e94_13, ↓e94_14, ↓e94_15, ↓e94_18, ↓e94_21, ↓e94_22, ↓e94_23, ↓e94_24, ↓e94_27, ↓e94_28, ↓e94_29, ↓e94_30, ↓e94_33, ↓e94_36, ↓e94_37, bc1_a, bd1, bd2, bd3, bd4, bd5, bd6, bd7, bd8, bd9, bd10, bd11, bd12, bd13, bd14, bd15, bd16, bd17, bd18, bd19, bd20, bd21, bd22, bd23, bd24, bd25, bd26, bd27, bd28, bd29, bd30, bd31, bd32, bd33, bd34, bd35, bd36, bd37, bd38, bd39, bc1_i, bc1_r, bc1_n, bc1_U, bisA_r, bisA_n, bisA_a, bct_i, bct_r, bct_n, bct_l, bcs_0, bcs_i, bcs_r, bcs_l, bcs_a, brt_0, brt_1, ↓bz0, ↓bz1, true_and, and_true, false_and, and_false, and_self, Nat.reduceAdd, Nat.reduceLeDiff, Nat.reduceSub, Nat.reduceEqDiff, ite_true, ite_false, if_true, if_false, v0, hn, hc]
  | succ k ih =>
    intro i hi
    have hc := nI_lt1 (a := i) (b := n) (by omega) (by omega)
    have h2 : i < 10 := by omega
    have hih := ih (i + 1) (by omega)
    rw [e94_4]
    rw [s_bits] at hih
    by_cases hz : s_hd (Vw M v) i = true
    · rw [if_pos hz] at hih
      simp only [↓e94_0, ↓e94_1, ↓e94_2, ↓e94_3, ↓e94_5, ↓e94_6, ↓e94_9, ↓e94_12, ↓e94_13, ↓e94_14, ↓e94_15, ↓e94_18, ↓e94_21, ↓e94_22, ↓e94_23, ↓e94_24, ↓e94_27, ↓e94_28, ↓e94_29, ↓e94_30, ↓e94_33, ↓e94_36, ↓e94_37, bc1_a, bd1, bd2, bd3, bd4, bd5, bd6, bd7, bd8, bd9, bd10, bd11, bd12, bd13, bd14, bd15, bd16, bd17, bd18, bd19, bd20, bd21, bd22, bd23, bd24, bd25, bd26, bd27, bd28, bd29, bd30, bd31, bd32, bd33, bd34, bd35, bd36, bd37, bd38, bd39, bc1_i, bc1_r, bc1_n, bc1_U, bisA_r, bisA_n, bisA_a, bct_i, bct_r, bct_n, bct_l, bcs_0, bcs_i, bcs_r, bcs_l, bcs_a, brt_0, brt_1, ↓bz0, ↓bz1, true_and, and_true, false_and, and_false, and_self, Nat.reduceAdd, Nat.reduceLeDiff, Nat.reduceSub, Nat.reduceEqDiff, ite_true, ite_false, if_true, if_false, v0, hn, hc, c_holds hv h2, b2i_t hz, i1ne, nI_1]
      exact hih
    · rw [if_neg hz] at hih
      simp only [↓e94_0, ↓e94_1, ↓e94_2, ↓e94_3, ↓e94_5, ↓e94_6, ↓e94_9, ↓e94_12, ↓e94_13, ↓e94_14, ↓e94_15, ↓e94_18, ↓e94_21, ↓e94_22, ↓e94_23, ↓e94_24, ↓e94_27, ↓e94_28, ↓e94_29, ↓e94_30, ↓e94_33, ↓e94_36, ↓e94_37, bc1_a, bd1, bd2, bd3, bd4, bd5, bd6, bd7, bd8, bd9, bd10, bd11, bd12, bd13, bd14, bd15, bd16, bd17, bd18, bd19, bd20, bd21, bd22, bd23, bd24, bd25, bd26, bd27, bd28, bd29, bd30, bd31, bd32, bd33, bd34, bd35, bd36, bd37, bd38, bd39, bc1_i, bc1_r, bc1_n, bc1_U, bisA_r, bisA_n, bisA_a, bct_i, bct_r, bct_n, bct_l, bcs_0, bcs_i, bcs_r, bcs_l, bcs_a, brt_0, brt_1, ↓bz0, ↓bz1, true_and, and_true, false_and, and_false, and_self, Nat.reduceAdd, Nat.reduceLeDiff, Nat.reduceSub, Nat.reduceEqDiff, ite_true, ite_false, if_true, if_false, v0, hn, hc, c_holds hv h2, b2i_f (Bool.eq_false_iff.mpr hz), i0eq, nI_1]
      exact hih
theorem c_holding {v n : Nat} (hv : SV M v) (hn : gI M v 6 = nI n) (h10 : n ≤ 10) : Call L xs (d + 1) 94 [.ref v] M Q = Q (some (.int (s_bits (s_hd (Vw M v)) n))) M := by
  rw [en94]
  simp only [↓e94_0, ↓e94_1, ↓e94_2, ↓e94_3, ↓e94_5, ↓e94_6, ↓e94_9, ↓e94_12, ↓e94_13, ↓e94_14, ↓e94_15, ↓e94_18, ↓e94_21, ↓e94_22, ↓e94_23, ↓e94_24, ↓e94_27, ↓e94_28, ↓e94_29, ↓e94_30, ↓e94_33, ↓e94_36, ↓e94_37, bc1_a, bd1, bd2, bd3, bd4, bd5, bd6, bd7, bd8, bd9, bd10, bd11, bd12, bd13, bd14, bd15, bd16, bd17, bd18, bd19, bd20, bd21, bd22, bd23, bd24, bd25, bd26, bd27, bd28, bd29, bd30, bd31, bd32, bd33, bd34, bd35, bd36, bd37, bd38, bd39, bc1_i, bc1_r, bc1_n, bc1_U, bisA_r, bisA_n, bisA_a, bct_i, bct_r, bct_n, bct_l, bcs_0, bcs_i, bcs_r, bcs_l, bcs_a, brt_0, brt_1, ↓bz0, ↓bz1, true_and, and_true, false_and, and_false, and_self, Nat.reduceAdd, Nat.reduceLeDiff, Nat.reduceSub, Nat.reduceEqDiff, ite_true, ite_false, if_true, if_false]
  exact l_holding hv hn h10 n 0 (Nat.zero_add n)
theorem l_brokenBy {v n : Nat} {one : Int32} (hv : SV M v) (hn : gI M v 6 = nI n) (h10 : n ≤ 10) : ∀ k i : Nat, i + k = n → Wp L xs (d + 1) 96 4 [.ref v, .int one, .int (s_bits (fun s => decide (Vw M v 4 s = one)) i), .int (nI i)] [] M Q = Q (some (.int (s_bits (fun s => decide (Vw M v 4 s = one)) n))) M := by
  obtain ⟨⟨v0, v1, v2, v3, v4, v5, v6, v7, v8⟩, ⟨w1, w2, w3, w4, w5, w6, w7⟩, x1, x2, x3, x4, x5, x6, x7⟩ := id hv
  intro k
  induction k with
  | zero =>
    intro i hi
    have e : i = n := by omega
    subst e
    have hc := nI_lt0 (a := i) (b := i) (Nat.le_refl _) (by omega)
    simp only [↓e96_0, ↓e96_1, ↓e96_2, ↓e96_3, ↓e96_4, ↓e96_5, ↓e96_6, ↓e96_9, ↓e96_12, ↓e96_13, ↓e96_14, ↓e96_17, ↓e96_18, ↓e96_19, ↓e96_20, ↓e96_23, ↓e96_24, ↓e96_25, ↓e96_26, ↓e96_29, ↓e96_30, ↓e96_31, ↓e96_32, ↓e96_35, ↓e96_38, ↓e96_39, bc1_a, bd1, bd2, bd3, bd4, bd5, bd6, bd7, bd8, bd9, bd10, bd11, bd12, bd13, bd14, bd15, bd16, bd17, bd18, bd19, bd20, bd21, bd22, bd23, bd24, bd25, bd26, bd27, bd28, bd29, bd30, bd31, bd32, bd33, bd34, bd35, bd36, bd37, bd38, bd39, bc1_i, bc1_r, bc1_n, bc1_U, bisA_r, bisA_n, bisA_a, bct_i, bct_r, bct_n, bct_l, bcs_0, bcs_i, bcs_r, bcs_l, bcs_a, brt_0, brt_1, ↓bz0, ↓bz1, true_and, and_true, false_and, and_false, and_self, Nat.reduceAdd, Nat.reduceLeDiff, Nat.reduceSub, Nat.reduceEqDiff, ite_true, ite_false, if_true, if_false, v0, hn, hc]
  | succ k ih =>
    intro i hi
    have hc := nI_lt1 (a := i) (b := n) (by omega) (by omega)
    have h2 : i < 10 := by omega
    have g0 : 0 ≤ nI i := nI_pos' (by omega)
    have g1 : (nI i).toNatClampNeg = i := nI_clamp (by omega)
    have hih := ih (i + 1) (by omega)
    rw [e96_4]
    rw [s_bits] at hih
    by_cases hz : gI M (v + 4) i = one
    · rw [if_pos (show decide (Vw M v 4 i = one) = true from decide_eq_true hz)] at hih
      simp only [↓e96_0, ↓e96_1, ↓e96_2, ↓e96_3, ↓e96_5, ↓e96_6, ↓e96_9, ↓e96_12, ↓e96_13, ↓e96_14, ↓e96_17, ↓e96_18, ↓e96_19, ↓e96_20, ↓e96_23, ↓e96_24, ↓e96_25, ↓e96_26, ↓e96_29, ↓e96_30, ↓e96_31, ↓e96_32, ↓e96_35, ↓e96_38, ↓e96_39, bc1_a, bd1, bd2, bd3, bd4, bd5, bd6, bd7, bd8, bd9, bd10, bd11, bd12, bd13, bd14, bd15, bd16, bd17, bd18, bd19, bd20, bd21, bd22, bd23, bd24, bd25, bd26, bd27, bd28, bd29, bd30, bd31, bd32, bd33, bd34, bd35, bd36, bd37, bd38, bd39, bc1_i, bc1_r, bc1_n, bc1_U, bisA_r, bisA_n, bisA_a, bct_i, bct_r, bct_n, bct_l, bcs_0, bcs_i, bcs_r, bcs_l, bcs_a, brt_0, brt_1, ↓bz0, ↓bz1, true_and, and_true, false_and, and_false, and_self, Nat.reduceAdd, Nat.reduceLeDiff, Nat.reduceSub, Nat.reduceEqDiff, ite_true, ite_false, if_true, if_false, v0, v5, w4, x4, g0, g1, h2, hn, hc, hz, nI_1]
      exact hih
    · rw [if_neg (show ¬ decide (Vw M v 4 i = one) = true from fun z => hz (of_decide_eq_true z))] at hih
      simp only [↓e96_0, ↓e96_1, ↓e96_2, ↓e96_3, ↓e96_5, ↓e96_6, ↓e96_9, ↓e96_12, ↓e96_13, ↓e96_14, ↓e96_17, ↓e96_18, ↓e96_19, ↓e96_20, ↓e96_23, ↓e96_24, ↓e96_25, ↓e96_26, ↓e96_29, ↓e96_30, ↓e96_31, ↓e96_32, ↓e96_35, ↓e96_38, ↓e96_39, bc1_a, bd1, bd2, bd3, bd4, bd5, bd6, bd7, bd8, bd9, bd10, bd11, bd12, bd13, bd14, bd15, bd16, bd17, bd18, bd19, bd20, bd21, bd22, bd23, bd24, bd25, bd26, bd27, bd28, bd29, bd30, bd31, bd32, bd33, bd34, bd35, bd36, bd37, bd38, bd39, bc1_i, bc1_r, bc1_n, bc1_U, bisA_r, bisA_n, bisA_a, bct_i, bct_r, bct_n, bct_l, bcs_0, bcs_i, bcs_r, bcs_l, bcs_a, brt_0, brt_1, ↓bz0, ↓bz1, true_and, and_true, false_and, and_false, and_self, Nat.reduceAdd, Nat.reduceLeDiff, Nat.reduceSub, Nat.reduceEqDiff, ite_true, ite_false, if_true, if_false, v0, v5, w4, x4, g0, g1, h2, hn, hc, hz, nI_1]
      exact hih
theorem c_brokenBy {v n : Nat} {one : Int32} (hv : SV M v) (hn : gI M v 6 = nI n) (h10 : n ≤ 10) : Call L xs (d + 1) 96 [.ref v, .int one] M Q = Q (some (.int (s_bits (fun s => decide (Vw M v 4 s = one)) n))) M := by
  rw [en96]
  simp only [↓e96_0, ↓e96_1, ↓e96_2, ↓e96_3, ↓e96_5, ↓e96_6, ↓e96_9, ↓e96_12, ↓e96_13, ↓e96_14, ↓e96_17, ↓e96_18, ↓e96_19, ↓e96_20, ↓e96_23, ↓e96_24, ↓e96_25, ↓e96_26, ↓e96_29, ↓e96_30, ↓e96_31, ↓e96_32, ↓e96_35, ↓e96_38, ↓e96_39, bc1_a, bd1, bd2, bd3, bd4, bd5, bd6, bd7, bd8, bd9, bd10, bd11, bd12, bd13, bd14, bd15, bd16, bd17, bd18, bd19, bd20, bd21, bd22, bd23, bd24, bd25, bd26, bd27, bd28, bd29, bd30, bd31, bd32, bd33, bd34, bd35, bd36, bd37, bd38, bd39, bc1_i, bc1_r, bc1_n, bc1_U, bisA_r, bisA_n, bisA_a, bct_i, bct_r, bct_n, bct_l, bcs_0, bcs_i, bcs_r, bcs_l, bcs_a, brt_0, brt_1, ↓bz0, ↓bz1, true_and, and_true, false_and, and_false, and_self, Nat.reduceAdd, Nat.reduceLeDiff, Nat.reduceSub, Nat.reduceEqDiff, ite_true, ite_false, if_true, if_false]
  exact l_brokenBy hv hn h10 n 0 (Nat.zero_add n)
theorem l_taking {M0 : mm_H} {v n : Nat} (hE : E6 E) (h0 : VA M0 v n) (hT : TOK L xs E (d + 1) M0) (hq : ∀ M', Fr S34 M0 M' → Q (some (.int (s_bits (s_tk E (Vw M0 v)) n))) M') : ∀ (k i : Nat) (M : mm_H), Fr S34 M0 M → i + k = n → Wp L xs (d + 5) 95 4 [.ref v, .int (s_bits (s_tk E (Vw M0 v)) i), .int (nI i)] [] M Q := by
  have h10 := h0.2.2.2.2.2.1
  intro k
  induction k with
  | zero =>
    intro i M hf hi
    have hA := h0.fr hf
    have v0 := hA.1.1.1
    have hn := hA.2.2.2.2.1
    have e : i = n := by omega
    subst e
    have hc := nI_lt0 (a := i) (b := i) (Nat.le_refl _) (by omega)
    rw [e95_4]
    simp only [↓e95_0, ↓e95_1, ↓e95_2, ↓e95_3, ↓e95_5, ↓e95_6, ↓e95_9, ↓e95_12, ↓e95_13, ↓e95_14, ↓e95_15, ↓e95_18, ↓e95_21, ↓e95_22, ↓e95_23, ↓e95_24, ↓e95_27, ↓e95_28, ↓e95_29, ↓e95_30, ↓e95_33, ↓e95_36, ↓e95_37, bc1_a, bd1, bd2, bd3, bd4, bd5, bd6, bd7, bd8, bd9, bd10, bd11, bd12, bd13, bd14, bd15, bd16, bd17, bd18, bd19, bd20, bd21, bd22, bd23, bd24, bd25, bd26, bd27, bd28, bd29, bd30, bd31, bd32, bd33, bd34, bd35, bd36, bd37, bd38, bd39, bc1_i, bc1_r, bc1_n, bc1_U, bisA_r, bisA_n, bisA_a, bct_i, bct_r, bct_n, bct_l, bcs_0, bcs_i, bcs_r, bcs_l, bcs_a, brt_0, brt_1, ↓bz0, ↓bz1, true_and, and_true, false_and, and_false, and_self, Nat.reduceAdd, Nat.reduceLeDiff, Nat.reduceSub, Nat.reduceEqDiff, ite_true, ite_false, if_true, if_false, v0, hn, hc]
    exact hq M hf
  | succ k ih =>
    intro i M hf hi
    have hA := h0.fr hf
    have v0 := hA.1.1.1
    have hn := hA.2.2.2.2.1
    have hV : Vw M v = Vw M0 v := Vw34 h0.2.2.1 hf
    have hc := nI_lt1 (a := i) (b := n) (by omega) (by omega)
    obtain ⟨p, hp⟩ := hA.vs (s := i) (by omega)
    rw [e95_4]
    simp only [↓e95_0, ↓e95_1, ↓e95_2, ↓e95_3, ↓e95_5, ↓e95_6, ↓e95_9, ↓e95_12, ↓e95_13, ↓e95_14, ↓e95_15, ↓e95_18, ↓e95_21, ↓e95_22, ↓e95_23, ↓e95_24, ↓e95_27, ↓e95_28, ↓e95_29, ↓e95_30, ↓e95_33, ↓e95_36, ↓e95_37, bc1_a, bd1, bd2, bd3, bd4, bd5, bd6, bd7, bd8, bd9, bd10, bd11, bd12, bd13, bd14, bd15, bd16, bd17, bd18, bd19, bd20, bd21, bd22, bd23, bd24, bd25, bd26, bd27, bd28, bd29, bd30, bd31, bd32, bd33, bd34, bd35, bd36, bd37, bd38, bd39, bc1_i, bc1_r, bc1_n, bc1_U, bisA_r, bisA_n, bisA_a, bct_i, bct_r, bct_n, bct_l, bcs_0, bcs_i, bcs_r, bcs_l, bcs_a, brt_0, brt_1, ↓bz0, ↓bz1, true_and, and_true, false_and, and_false, and_self, Nat.reduceAdd, Nat.reduceLeDiff, Nat.reduceSub, Nat.reduceEqDiff, ite_true, ite_false, if_true, if_false, v0, hn, hc]
    refine c_takes hp hE (hT.fr (hf.weak Sno34)) (fun M1 f1 => ?_)
    have hih := ih (i + 1) M1 (hf.trans f1) (by omega)
    rw [s_bits] at hih
    rw [hV]
    by_cases hz : s_tk E (Vw M0 v) i = true
    · rw [if_pos hz] at hih
      simp only [↓e95_0, ↓e95_1, ↓e95_2, ↓e95_3, ↓e95_5, ↓e95_6, ↓e95_9, ↓e95_12, ↓e95_13, ↓e95_14, ↓e95_15, ↓e95_18, ↓e95_21, ↓e95_22, ↓e95_23, ↓e95_24, ↓e95_27, ↓e95_28, ↓e95_29, ↓e95_30, ↓e95_33, ↓e95_36, ↓e95_37, bc1_a, bd1, bd2, bd3, bd4, bd5, bd6, bd7, bd8, bd9, bd10, bd11, bd12, bd13, bd14, bd15, bd16, bd17, bd18, bd19, bd20, bd21, bd22, bd23, bd24, bd25, bd26, bd27, bd28, bd29, bd30, bd31, bd32, bd33, bd34, bd35, bd36, bd37, bd38, bd39, bc1_i, bc1_r, bc1_n, bc1_U, bisA_r, bisA_n, bisA_a, bct_i, bct_r, bct_n, bct_l, bcs_0, bcs_i, bcs_r, bcs_l, bcs_a, brt_0, brt_1, ↓bz0, ↓bz1, true_and, and_true, false_and, and_false, and_self, Nat.reduceAdd, Nat.reduceLeDiff, Nat.reduceSub, Nat.reduceEqDiff, ite_true, ite_false, if_true, if_false, b2i_t hz, i1ne, nI_1]
      exact hih
    · rw [if_neg hz] at hih
      simp only [↓e95_0, ↓e95_1, ↓e95_2, ↓e95_3, ↓e95_5, ↓e95_6, ↓e95_9, ↓e95_12, ↓e95_13, ↓e95_14, ↓e95_15, ↓e95_18, ↓e95_21, ↓e95_22, ↓e95_23, ↓e95_24, ↓e95_27, ↓e95_28, ↓e95_29, ↓e95_30, ↓e95_33, ↓e95_36, ↓e95_37, bc1_a, bd1, bd2, bd3, bd4, bd5, bd6, bd7, bd8, bd9, bd10, bd11, bd12, bd13, bd14, bd15, bd16, bd17, bd18, bd19, bd20, bd21, bd22, bd23, bd24, bd25, bd26, bd27, bd28, bd29, bd30, bd31, bd32, bd33, bd34, bd35, bd36, bd37, bd38, bd39, bc1_i, bc1_r, bc1_n, bc1_U, bisA_r, bisA_n, bisA_a, bct_i, bct_r, bct_n, bct_l, bcs_0, bcs_i, bcs_r, bcs_l, bcs_a, brt_0, brt_1, ↓bz0, ↓bz1, true_and, and_true, false_and, and_false, and_self, Nat.reduceAdd, Nat.reduceLeDiff, Nat.reduceSub, Nat.reduceEqDiff, ite_true, ite_false, if_true, if_false, b2i_f (Bool.eq_false_iff.mpr hz), i0eq, nI_1]
      exact hih
theorem c_taking {v n : Nat} (hE : E6 E) (h0 : VA M v n) (hT : TOK L xs E (d + 1) M) (hq : ∀ M', Fr S34 M M' → Q (some (.int (s_bits (s_tk E (Vw M v)) n))) M') : Call L xs (d + 5) 95 [.ref v] M Q := by
  rw [en95]
  simp only [↓e95_0, ↓e95_1, ↓e95_2, ↓e95_3, ↓e95_5, ↓e95_6, ↓e95_9, ↓e95_12, ↓e95_13, ↓e95_14, ↓e95_15, ↓e95_18, ↓e95_21, ↓e95_22, ↓e95_23, ↓e95_24, ↓e95_27, ↓e95_28, ↓e95_29, ↓e95_30, ↓e95_33, ↓e95_36, ↓e95_37, bc1_a, bd1, bd2, bd3, bd4, bd5, bd6, bd7, bd8, bd9, bd10, bd11, bd12, bd13, bd14, bd15, bd16, bd17, bd18, bd19, bd20, bd21, bd22, bd23, bd24, bd25, bd26, bd27, bd28, bd29, bd30, bd31, bd32, bd33, bd34, bd35, bd36, bd37, bd38, bd39, bc1_i, bc1_r, bc1_n, bc1_U, bisA_r, bisA_n, bisA_a, bct_i, bct_r, bct_n, bct_l, bcs_0, bcs_i, bcs_r, bcs_l, bcs_a, brt_0, brt_1, ↓bz0, ↓bz1, true_and, and_true, false_and, and_false, and_self, Nat.reduceAdd, Nat.reduceLeDiff, Nat.reduceSub, Nat.reduceEqDiff, ite_true, ite_false, if_true, if_false]
  exact l_taking hE h0 hT hq n 0 M Fr.rf (Nat.zero_add n)
end
