/-! THE READER: its tape; THE VASE: somebody more -/
section
variable {L : Nat} {xs : Nat → Int32} {d : Nat} {M : mm_H} {Q : Option Value → mm_H → Prop}
theorem c_radd {k : Nat} {x : Int32} (hr : Rd M) (hk : gI M 5 1 = nI k) (h : k < 160) : Call L xs d 42 [.ref 5, .int x] M Q = Q (some (.int (nI (k + 1)))) (pI (pI M 6 k x) 5 1 (nI (k + 1))) := by
  obtain ⟨r1, r2, r3, r4, r5, r6, r7, r8, r9, r10⟩ := id hr
  have hc : (nI k < 160) = True := nI_lt1 (a := k) (b := 160) h (by decide)
  have h0 : 0 ≤ nI k := nI_pos' (by omega)
  have h1 : (nI k).toNatClampNeg = k := nI_clamp (by omega)
  have h56 : ((5 : Nat) = 6) = False := by simp
  rw [en42]
  simp only [↓e42_0, ↓e42_1, ↓e42_4, ↓e42_7, ↓e42_10, ↓e42_12, ↓e42_13, ↓e42_14, ↓e42_17, ↓e42_18, ↓e42_21, ↓e42_22, ↓e42_23, ↓e42_24, ↓e42_25, ↓e42_28, ↓e42_29, ↓e42_30, ↓e42_33, ↓e42_34, ↓e42_37, bc1_a, bd1, bd2, bd3, bd4, bd5, bd6, bd7, bd8, bd9, bd10, bd11, bd12, bd13, bd14, bd15, bd16, bd17, bd18, bd19, bd20, bd21, bd22, bd23, bd24, bd25, bd26, bd27, bd28, bd29, bd30, bd31, bd32, bd33, bd34, bd35, bd36, bd37, bd38, bd39, bc1_i, bc1_r, bc1_n, bc1_U, bisA_r, bisA_n, bisA_a, bct_i, bct_r, bct_n, bct_l, bcs_0, bcs_i, bcs_r, bcs_l, bcs_a, brt_0, brt_1, ↓bz0, ↓bz1, true_and, and_true, false_and, and_false, and_self, Nat.reduceAdd, Nat.reduceLeDiff, Nat.reduceSub, Nat.reduceEqDiff, ite_true, ite_false, if_true, if_false, r1, r2, r5, r6, hk, hc, h0, h1, h, gS_p, gR_p, gI_p, h56, nI_1]
theorem c_raddF {k : Nat} {x : Int32} (hr : Rd M) (hk : gI M 5 1 = nI k) (h : 160 ≤ k) (h2 : k < 1000) : Call L xs d 42 [.ref 5, .int x] M Q = Q (some (.int (-4))) M := by
  have r1 := hr.1
  have hc : (nI k < 160) = False := nI_lt0 (a := k) (b := 160) h (by omega)
  rw [en42]
  simp only [↓e42_0, ↓e42_1, ↓e42_4, ↓e42_7, ↓e42_10, ↓e42_12, ↓e42_13, ↓e42_14, ↓e42_17, ↓e42_18, ↓e42_21, ↓e42_22, ↓e42_23, ↓e42_24, ↓e42_25, ↓e42_28, ↓e42_29, ↓e42_30, ↓e42_33, ↓e42_34, ↓e42_37, bc1_a, bd1, bd2, bd3, bd4, bd5, bd6, bd7, bd8, bd9, bd10, bd11, bd12, bd13, bd14, bd15, bd16, bd17, bd18, bd19, bd20, bd21, bd22, bd23, bd24, bd25, bd26, bd27, bd28, bd29, bd30, bd31, bd32, bd33, bd34, bd35, bd36, bd37, bd38, bd39, bc1_i, bc1_r, bc1_n, bc1_U, bisA_r, bisA_n, bisA_a, bct_i, bct_r, bct_n, bct_l, bcs_0, bcs_i, bcs_r, bcs_l, bcs_a, brt_0, brt_1, ↓bz0, ↓bz1, true_and, and_true, false_and, and_false, and_self, Nat.reduceAdd, Nat.reduceLeDiff, Nat.reduceSub, Nat.reduceEqDiff, ite_true, ite_false, if_true, if_false, r1, hk, hc]
theorem c_rempty (hr : Rd M) : Call L xs d 43 [.ref 5] M Q = Q none (pI M 5 1 0) := by
  have r1 := hr.1
  rw [en43]
  simp only [↓e43_0, ↓e43_1, ↓e43_2, ↓e43_5, bc1_a, bd1, bd2, bd3, bd4, bd5, bd6, bd7, bd8, bd9, bd10, bd11, bd12, bd13, bd14, bd15, bd16, bd17, bd18, bd19, bd20, bd21, bd22, bd23, bd24, bd25, bd26, bd27, bd28, bd29, bd30, bd31, bd32, bd33, bd34, bd35, bd36, bd37, bd38, bd39, bc1_i, bc1_r, bc1_n, bc1_U, bisA_r, bisA_n, bisA_a, bct_i, bct_r, bct_n, bct_l, bcs_0, bcs_i, bcs_r, bcs_l, bcs_a, brt_0, brt_1, ↓bz0, ↓bz1, true_and, and_true, false_and, and_false, and_self, Nat.reduceAdd, Nat.reduceLeDiff, Nat.reduceSub, Nat.reduceEqDiff, ite_true, ite_false, if_true, if_false, r1]
theorem c_rfault (hr : Rd M) : Call L xs d 44 [.ref 5] M Q = Q (some (.int (gI M 5 4))) M := by
  have r1 := hr.1
  rw [en44]
  simp only [↓e44_0, ↓e44_1, ↓e44_4, bc1_a, bd1, bd2, bd3, bd4, bd5, bd6, bd7, bd8, bd9, bd10, bd11, bd12, bd13, bd14, bd15, bd16, bd17, bd18, bd19, bd20, bd21, bd22, bd23, bd24, bd25, bd26, bd27, bd28, bd29, bd30, bd31, bd32, bd33, bd34, bd35, bd36, bd37, bd38, bd39, bc1_i, bc1_r, bc1_n, bc1_U, bisA_r, bisA_n, bisA_a, bct_i, bct_r, bct_n, bct_l, bcs_0, bcs_i, bcs_r, bcs_l, bcs_a, brt_0, brt_1, ↓bz0, ↓bz1, true_and, and_true, false_and, and_false, and_self, Nat.reduceAdd, Nat.reduceLeDiff, Nat.reduceSub, Nat.reduceEqDiff, ite_true, ite_false, if_true, if_false, r1]
theorem c_addPerson {v pp : Nat} {x y : Int32} (hv : SV M v) (hp : gI M v 3 = nI pp) (h : pp < 6) : Call L xs d 82 [.ref v, .int x, .int y] M Q = Q (some (.int (nI pp))) (pI (pI (pI M (v + 1) pp x) (v + 2) pp y) v 3 (nI (pp + 1))) := by
  obtain ⟨⟨v0, v1, v2, v3, v4, v5, v6, v7, v8⟩, ⟨w1, w2, w3, w4, w5, w6, w7⟩, x1, x2, x3, x4, x5, x6, x7⟩ := id hv
  have hc : (nI pp < 6) = True := nI_lt1 (a := pp) (b := 6) h (by decide)
  have h0 : 0 ≤ nI pp := nI_pos' (by omega)
  have h1 : (nI pp).toNatClampNeg = pp := nI_clamp (by omega)
  have n1 : (v = v + 1) = False := by simp
  have n2 : (v = v + 2) = False := by simp
  rw [en82]
  simp only [↓e82_0, ↓e82_1, ↓e82_4, ↓e82_6, ↓e82_9, ↓e82_11, ↓e82_12, ↓e82_13, ↓e82_16, ↓e82_17, ↓e82_20, ↓e82_21, ↓e82_22, ↓e82_23, ↓e82_26, ↓e82_27, ↓e82_30, ↓e82_31, ↓e82_32, ↓e82_33, ↓e82_34, ↓e82_37, ↓e82_38, ↓e82_39, ↓e82_40, ↓e82_43, bc1_a, bd1, bd2, bd3, bd4, bd5, bd6, bd7, bd8, bd9, bd10, bd11, bd12, bd13, bd14, bd15, bd16, bd17, bd18, bd19, bd20, bd21, bd22, bd23, bd24, bd25, bd26, bd27, bd28, bd29, bd30, bd31, bd32, bd33, bd34, bd35, bd36, bd37, bd38, bd39, bc1_i, bc1_r, bc1_n, bc1_U, bisA_r, bisA_n, bisA_a, bct_i, bct_r, bct_n, bct_l, bcs_0, bcs_i, bcs_r, bcs_l, bcs_a, brt_0, brt_1, ↓bz0, ↓bz1, true_and, and_true, false_and, and_false, and_self, Nat.reduceAdd, Nat.reduceLeDiff, Nat.reduceSub, Nat.reduceEqDiff, ite_true, ite_false, if_true, if_false, v0, v2, v3, w1, w2, x1, x2, hp, hc, h0, h1, h, gS_p, gR_p, gL_p, gI_p, n1, n2, nI_1]
theorem c_addPersonF {v pp : Nat} {x y : Int32} (hv : SV M v) (hp : gI M v 3 = nI pp) (h : 6 ≤ pp) (h2 : pp < 1000) : Call L xs d 82 [.ref v, .int x, .int y] M Q = Q (some (.int (-4))) M := by
  have v0 := hv.1.1
  have hc : (nI pp < 6) = False := nI_lt0 (a := pp) (b := 6) h (by omega)
  rw [en82]
  simp only [↓e82_0, ↓e82_1, ↓e82_4, ↓e82_6, ↓e82_9, ↓e82_11, ↓e82_12, ↓e82_13, ↓e82_16, ↓e82_17, ↓e82_20, ↓e82_21, ↓e82_22, ↓e82_23, ↓e82_26, ↓e82_27, ↓e82_30, ↓e82_31, ↓e82_32, ↓e82_33, ↓e82_34, ↓e82_37, ↓e82_38, ↓e82_39, ↓e82_40, ↓e82_43, bc1_a, bd1, bd2, bd3, bd4, bd5, bd6, bd7, bd8, bd9, bd10, bd11, bd12, bd13, bd14, bd15, bd16, bd17, bd18, bd19, bd20, bd21, bd22, bd23, bd24, bd25, bd26, bd27, bd28, bd29, bd30, bd31, bd32, bd33, bd34, bd35, bd36, bd37, bd38, bd39, bc1_i, bc1_r, bc1_n, bc1_U, bisA_r, bisA_n, bisA_a, bct_i, bct_r, bct_n, bct_l, bcs_0, bcs_i, bcs_r, bcs_l, bcs_a, brt_0, brt_1, ↓bz0, ↓bz1, true_and, and_true, false_and, and_false, and_self, Nat.reduceAdd, Nat.reduceLeDiff, Nat.reduceSub, Nat.reduceEqDiff, ite_true, ite_false, if_true, if_false, v0, hp, hc]
end
