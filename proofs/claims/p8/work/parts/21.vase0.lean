/-! THE VASE: reads -/
/-- the shape of a vase's cells -/
def SV (M : mm_H) (v : Nat) : Prop := (gS M v = 4 ∧ gR M v 0 = .ref 1 ∧ gR M v 4 = .ref (v + 1) ∧ gR M v 5 = .ref (v + 2) ∧ gR M v 7 = .ref (v + 3) ∧ gR M v 8 = .ref (v + 4) ∧ gR M v 9 = .ref (v + 5) ∧ gR M v 10 = .ref (v + 6) ∧ gR M v 11 = .ref (v + 7)) ∧
  (gS M (v + 1) = 10 ∧ gS M (v + 2) = 10 ∧ gS M (v + 3) = 10 ∧ gS M (v + 4) = 10 ∧ gS M (v + 5) = 10 ∧ gS M (v + 6) = 10 ∧ gS M (v + 7) = 10) ∧
  (gL M (v + 1) = 6 ∧ gL M (v + 2) = 6 ∧ gL M (v + 3) = 10 ∧ gL M (v + 4) = 10 ∧ gL M (v + 5) = 10 ∧ gL M (v + 6) = 10 ∧ gL M (v + 7) = 10)
section
variable {L : Nat} {xs : Nat → Int32} {d : Nat} {M : mm_H} {Q : Option Value → mm_H → Prop}
theorem nI_lt1 {a b : Nat} (h : a < b) (hb : b < 2 ^ 31) : (nI a < nI b) = True := eq_true (nI_lt h hb)
theorem nI_lt0 {a b : Nat} (h : b ≤ a) (ha : a < 2 ^ 31) : (nI a < nI b) = False := eq_false (nI_nlt h ha)
def s_mend (till : Nat → Int32) : Nat → Int32
  | 0 => 0
  | n + 1 => s_mend till n + (if till n = -1 then 0 else 1)
theorem l_mended {v n : Nat} (hv : SV M v) (hn : gI M v 6 = nI n) (h10 : n ≤ 10) : ∀ k i : Nat, i + k = n → Wp L xs d 87 4 [.ref v, .int (s_mend (gI M (v + 7)) i), .int (nI i)] [] M Q = Q (some (.int (s_mend (gI M (v + 7)) n))) M := by
  obtain ⟨⟨v0, v1, v2, v3, v4, v5, v6, v7, v8⟩, ⟨w1, w2, w3, w4, w5, w6, w7⟩, x1, x2, x3, x4, x5, x6, x7⟩ := hv
  intro k
  induction k with
  | zero =>
    intro i hi
    have e : i = n := by omega
    subst e
    have hc := nI_lt0 (a := i) (b := i) (Nat.le_refl _) (by omega)
    simp only [↓e87_0, ↓e87_1, ↓e87_2, ↓e87_3, ↓e87_4, ↓e87_5, ↓e87_6, ↓e87_9, ↓e87_12, ↓e87_13, ↓e87_14, ↓e87_17, ↓e87_18, ↓e87_19, ↓e87_20, ↓e87_23, ↓e87_24, ↓e87_27, ↓e87_28, ↓e87_29, ↓e87_30, ↓e87_33, ↓e87_36, ↓e87_37, bc1_a, bd1, bd2, bd3, bd4, bd5, bd6, bd7, bd8, bd9, bd10, bd11, bd12, bd13, bd14, bd15, bd16, bd17, bd18, bd19, bd20, bd21, bd22, bd23, bd24, bd25, bd26, bd27, bd28, bd29, bd30, bd31, bd32, bd33, bd34, bd35, bd36, bd37, bd38, bd39, bc1_i, bc1_r, bc1_n, bc1_U, bisA_r, bisA_n, bisA_a, bct_i, bct_r, bct_n, bct_l, bcs_0, bcs_i, bcs_r, bcs_l, bcs_a, brt_0, brt_1, ↓bz0, ↓bz1, true_and, and_true, false_and, and_false, and_self, Nat.reduceAdd, Nat.reduceLeDiff, Nat.reduceSub, Nat.reduceEqDiff, ite_true, ite_false, if_true, if_false, v0, v8, hn, hc]
  | succ k ih =>
    intro i hi
    have hc := nI_lt1 (a := i) (b := n) (by omega) (by omega)
    have h0 : 0 ≤ nI i := nI_pos' (by omega)
    have h1 : (nI i).toNatClampNeg = i := nI_clamp (by omega)
    have h2 : i < 10 := by omega
    have hih := ih (i + 1) (by omega)
    rw [e87_4]
    simp only [↓e87_0, ↓e87_1, ↓e87_2, ↓e87_3, ↓e87_5, ↓e87_6, ↓e87_9, ↓e87_12, ↓e87_13, ↓e87_14, ↓e87_17, ↓e87_18, ↓e87_19, ↓e87_20, ↓e87_23, ↓e87_24, ↓e87_27, ↓e87_28, ↓e87_29, ↓e87_30, ↓e87_33, ↓e87_36, ↓e87_37, bc1_a, bd1, bd2, bd3, bd4, bd5, bd6, bd7, bd8, bd9, bd10, bd11, bd12, bd13, bd14, bd15, bd16, bd17, bd18, bd19, bd20, bd21, bd22, bd23, bd24, bd25, bd26, bd27, bd28, bd29, bd30, bd31, bd32, bd33, bd34, bd35, bd36, bd37, bd38, bd39, bc1_i, bc1_r, bc1_n, bc1_U, bisA_r, bisA_n, bisA_a, bct_i, bct_r, bct_n, bct_l, bcs_0, bcs_i, bcs_r, bcs_l, bcs_a, brt_0, brt_1, ↓bz0, ↓bz1, true_and, and_true, false_and, and_false, and_self, Nat.reduceAdd, Nat.reduceLeDiff, Nat.reduceSub, Nat.reduceEqDiff, ite_true, ite_false, if_true, if_false, v0, v8, hn, hc, w7, x7, h0, h1, h2, nI_1]
    rw [s_mend] at hih
    by_cases hz : gI M (v + 7) i = -1
    · rw [if_pos hz] at hih
      simp only [hz, if_true]
      exact hih
    · rw [if_neg hz] at hih
      simp only [hz, if_false]
      exact hih
theorem c_mended {v n : Nat} (hv : SV M v) (hn : gI M v 6 = nI n) (h10 : n ≤ 10) : Call L xs d 87 [.ref v] M Q = Q (some (.int (s_mend (gI M (v + 7)) n))) M := by
  rw [en87]
  simp only [↓e87_0, ↓e87_1, ↓e87_2, ↓e87_3, ↓e87_5, ↓e87_6, ↓e87_9, ↓e87_12, ↓e87_13, ↓e87_14, ↓e87_17, ↓e87_18, ↓e87_19, ↓e87_20, ↓e87_23, ↓e87_24, ↓e87_27, ↓e87_28, ↓e87_29, ↓e87_30, ↓e87_33, ↓e87_36, ↓e87_37, bc1_a, bd1, bd2, bd3, bd4, bd5, bd6, bd7, bd8, bd9, bd10, bd11, bd12, bd13, bd14, bd15, bd16, bd17, bd18, bd19, bd20, bd21, bd22, bd23, bd24, bd25, bd26, bd27, bd28, bd29, bd30, bd31, bd32, bd33, bd34, bd35, bd36, bd37, bd38, bd39, bc1_i, bc1_r, bc1_n, bc1_U, bisA_r, bisA_n, bisA_a, bct_i, bct_r, bct_n, bct_l, bcs_0, bcs_i, bcs_r, bcs_l, bcs_a, brt_0, brt_1, ↓bz0, ↓bz1, true_and, and_true, false_and, and_false, and_self, Nat.reduceAdd, Nat.reduceLeDiff, Nat.reduceSub, Nat.reduceEqDiff, ite_true, ite_false, if_true, if_false]
  exact l_mended hv hn h10 n 0 (Nat.zero_add n)
end
