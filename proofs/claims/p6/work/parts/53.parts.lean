/-! THE VASE: pieces that hang together -/
def s_hp (V : Nat → Nat → Int32) (s : Nat) : Bool := decide (irm (V 3 s) 10 < V 0 2)
def s_both (V : Nat → Nat → Int32) (s : Nat) : Int32 := (1 <<< ((V 3 s / 10) &&& 31)) ||| (1 <<< (irm (V 3 s) 10 &&& 31))
def s_hang1 (V : Nat → Nat → Int32) (by_ : Int32) (s : Nat) (h : Int32) : Int32 :=
  if (by_ >>> (nI s &&& 31)) &&& 1 = 0 then h else if s_hp V s = true then (if s_both V s &&& h = 0 then h else h ||| s_both V s) else h
def s_hangS (V : Nat → Nat → Int32) (by_ : Int32) : Nat → Nat → Int32 → Int32
  | 0, _, h => h
  | k + 1, s, h => s_hangS V by_ k (s + 1) (s_hang1 V by_ s h)
def s_hangR (V : Nat → Nat → Int32) (by_ : Int32) (n : Nat) : Nat → Int32 → Int32
  | 0, h => h
  | k + 1, h => s_hangR V by_ n k (s_hangS V by_ n 0 h)
def s_hang (V : Nat → Nat → Int32) (by_ : Int32) (n g : Nat) (piece : Int32) : Int32 := s_hangR V by_ n g (1 <<< (piece &&& 31))
def s_parts1 (V : Nat → Nat → Int32) (by_ : Int32) (n g : Nat) (piece : Nat) (x : Int32 × Int32) : Int32 × Int32 :=
  if (x.2 >>> (nI piece &&& 31)) &&& 1 = 0 then (x.1 + 1, x.2 ||| s_hang V by_ n g (nI piece)) else x
def s_partsR (V : Nat → Nat → Int32) (by_ : Int32) (n g : Nat) : Nat → Nat → Int32 × Int32 → Int32 × Int32
  | 0, _, x => x
  | k + 1, piece, x => s_partsR V by_ n g k (piece + 1) (s_parts1 V by_ n g piece x)
def s_parts (V : Nat → Nat → Int32) (by_ : Int32) (n g : Nat) : Int32 := (s_partsR V by_ n g g 0 (0, 0)).1
theorem i10ne : ((10 : Int32) = 0) = False := by simp
section
variable {L : Nat} {xs : Nat → Int32} {d : Nat} {M : mm_H} {Q : Option Value → mm_H → Prop}
theorem c_hp {v s : Nat} (hv : SV M v) (hs : s < 10) : Call L xs d 98 [.ref v, .int (nI s)] M Q = Q (some (.int (s_b2i (s_hp (Vw M v) s)))) M := by
  obtain ⟨⟨v0, v1, v2, v3, v4, v5, v6, v7, v8⟩, ⟨w1, w2, w3, w4, w5, w6, w7⟩, x1, x2, x3, x4, x5, x6, x7⟩ := id hv
  have g0 : 0 ≤ nI s := nI_pos' (by omega)
  have g1 : (nI s).toNatClampNeg = s := nI_clamp (by omega)
  rw [en98]
  unfold s_hp
  rw [Vw_at (by decide), Vw_at (by decide)]
  by_cases c : irm (gI M (v + 3) s) 10 < gI M v 2
  · rw [decide_eq_true (show irm (gI M (v + 3) s) 10 < gI M (v + 0) 2 from c)]
    simp only [↓e98_0, ↓e98_1, ↓e98_4, ↓e98_5, ↓e98_6, ↓e98_8, ↓e98_9, ↓e98_10, ↓e98_13, ↓e98_16, ↓e98_17, ↓e98_20, ↓e98_21, bc1_a, bd1, bd2, bd3, bd4, bd5, bd6, bd7, bd8, bd9, bd10, bd11, bd12, bd13, bd14, bd15, bd16, bd17, bd18, bd19, bd20, bd21, bd22, bd23, bd24, bd25, bd26, bd27, bd28, bd29, bd30, bd31, bd32, bd33, bd34, bd35, bd36, bd37, bd38, bd39, bc1_i, bc1_r, bc1_n, bc1_U, bisA_r, bisA_n, bisA_a, bct_i, bct_r, bct_n, bct_l, bcs_0, bcs_i, bcs_r, bcs_l, bcs_a, brt_0, brt_1, ↓bz0, ↓bz1, true_and, and_true, false_and, and_false, and_self, Nat.reduceAdd, Nat.reduceLeDiff, Nat.reduceSub, Nat.reduceEqDiff, ite_true, ite_false, if_true, if_false, v0, v4, w3, x3, g0, g1, hs, i10ne, not_false_eq_true, c]
    rfl
  · rw [decide_eq_false (show ¬ irm (gI M (v + 3) s) 10 < gI M (v + 0) 2 from c)]
    simp only [↓e98_0, ↓e98_1, ↓e98_4, ↓e98_5, ↓e98_6, ↓e98_8, ↓e98_9, ↓e98_10, ↓e98_13, ↓e98_16, ↓e98_17, ↓e98_20, ↓e98_21, bc1_a, bd1, bd2, bd3, bd4, bd5, bd6, bd7, bd8, bd9, bd10, bd11, bd12, bd13, bd14, bd15, bd16, bd17, bd18, bd19, bd20, bd21, bd22, bd23, bd24, bd25, bd26, bd27, bd28, bd29, bd30, bd31, bd32, bd33, bd34, bd35, bd36, bd37, bd38, bd39, bc1_i, bc1_r, bc1_n, bc1_U, bisA_r, bisA_n, bisA_a, bct_i, bct_r, bct_n, bct_l, bcs_0, bcs_i, bcs_r, bcs_l, bcs_a, brt_0, brt_1, ↓bz0, ↓bz1, true_and, and_true, false_and, and_false, and_self, Nat.reduceAdd, Nat.reduceLeDiff, Nat.reduceSub, Nat.reduceEqDiff, ite_true, ite_false, if_true, if_false, v0, v4, w3, x3, g0, g1, hs, i10ne, not_false_eq_true, c]
    rfl
theorem l_hangS {v n : Nat} {by_ a : Int32} {r : Int32} (hv : SV M v) (hn : gI M v 6 = nI n) (h10 : n ≤ 10) : ∀ (k s : Nat) (h : Int32) (v6 : Value), s + k = n →
    (∀ v6, Wp L xs (d + 1) 99 91 [.ref v, .int a, .int by_, .int (s_hangS (Vw M v) by_ k s h), .int r, .int (nI n), v6] [] M Q) → Wp L xs (d + 1) 99 19 [.ref v, .int a, .int by_, .int h, .int r, .int (nI s), v6] [] M Q := by
  obtain ⟨⟨v0, v1, v2, v3, v4, v5, v6', v7, v8⟩, ⟨w1, w2, w3, w4, w5, w6, w7⟩, x1, x2, x3, x4, x5, x6, x7⟩ := id hv
  intro k
  induction k with
  | zero =>
    intro s h v6 hs hq
    have e : s = n := by omega
    subst e
    have hc := nI_lt0 (a := s) (b := s) (Nat.le_refl _) (by omega)
    have hh := hq v6
    rw [e99_19]
    simp only [↓e99_0, ↓e99_1, ↓e99_2, ↓e99_3, ↓e99_4, ↓e99_5, ↓e99_7, ↓e99_9, ↓e99_10, ↓e99_13, ↓e99_16, ↓e99_17, ↓e99_21, ↓e99_22, ↓e99_25, ↓e99_28, ↓e99_29, ↓e99_30, ↓e99_33, ↓e99_35, ↓e99_36, ↓e99_38, ↓e99_39, ↓e99_40, ↓e99_41, ↓e99_42, ↓e99_45, ↓e99_47, ↓e99_48, ↓e99_50, ↓e99_51, ↓e99_52, ↓e99_53, ↓e99_55, ↓e99_56, ↓e99_58, ↓e99_59, ↓e99_60, ↓e99_61, ↓e99_64, ↓e99_65, ↓e99_67, ↓e99_70, ↓e99_73, ↓e99_75, ↓e99_76, ↓e99_77, ↓e99_80, ↓e99_81, ↓e99_83, ↓e99_84, ↓e99_85, ↓e99_88, ↓e99_94, ↓e99_97, ↓e99_98, bc1_a, bd1, bd2, bd3, bd4, bd5, bd6, bd7, bd8, bd9, bd10, bd11, bd12, bd13, bd14, bd15, bd16, bd17, bd18, bd19, bd20, bd21, bd22, bd23, bd24, bd25, bd26, bd27, bd28, bd29, bd30, bd31, bd32, bd33, bd34, bd35, bd36, bd37, bd38, bd39, bc1_i, bc1_r, bc1_n, bc1_U, bisA_r, bisA_n, bisA_a, bct_i, bct_r, bct_n, bct_l, bcs_0, bcs_i, bcs_r, bcs_l, bcs_a, brt_0, brt_1, ↓bz0, ↓bz1, true_and, and_true, false_and, and_false, and_self, Nat.reduceAdd, Nat.reduceLeDiff, Nat.reduceSub, Nat.reduceEqDiff, ite_true, ite_false, if_true, if_false, v0, hn, hc]
    exact hh
  | succ k ih =>
    intro s h v6 hs hq
    have hc := nI_lt1 (a := s) (b := n) (by omega) (by omega)
    have g0 : 0 ≤ nI s := nI_pos' (by omega)
    have g1 : (nI s).toNatClampNeg = s := nI_clamp (by omega)
    have h2 : s < 10 := by omega
    have e3 : s_both (Vw M v) s = (1 <<< ((gI M (v + 3) s / 10) &&& 31)) ||| (1 <<< (irm (gI M (v + 3) s) 10 &&& 31)) := rfl
    have hih := ih (s + 1) (s_hang1 (Vw M v) by_ s h) (.int (s_both (Vw M v) s)) (by omega) hq
    rw [e3] at hih
    rw [e99_19]
    by_cases hb : (by_ >>> (nI s &&& 31)) &&& 1 = 0
    · have e1 : s_hang1 (Vw M v) by_ s h = h := by unfold s_hang1; rw [if_pos hb]
      rw [e1] at hih
      simp only [↓e99_0, ↓e99_1, ↓e99_2, ↓e99_3, ↓e99_4, ↓e99_5, ↓e99_7, ↓e99_9, ↓e99_10, ↓e99_13, ↓e99_16, ↓e99_17, ↓e99_21, ↓e99_22, ↓e99_25, ↓e99_28, ↓e99_29, ↓e99_30, ↓e99_33, ↓e99_35, ↓e99_36, ↓e99_38, ↓e99_39, ↓e99_40, ↓e99_41, ↓e99_42, ↓e99_45, ↓e99_47, ↓e99_48, ↓e99_50, ↓e99_51, ↓e99_52, ↓e99_53, ↓e99_55, ↓e99_56, ↓e99_58, ↓e99_59, ↓e99_60, ↓e99_61, ↓e99_64, ↓e99_65, ↓e99_67, ↓e99_70, ↓e99_73, ↓e99_75, ↓e99_76, ↓e99_77, ↓e99_80, ↓e99_81, ↓e99_83, ↓e99_84, ↓e99_85, ↓e99_88, ↓e99_94, ↓e99_97, ↓e99_98, bc1_a, bd1, bd2, bd3, bd4, bd5, bd6, bd7, bd8, bd9, bd10, bd11, bd12, bd13, bd14, bd15, bd16, bd17, bd18, bd19, bd20, bd21, bd22, bd23, bd24, bd25, bd26, bd27, bd28, bd29, bd30, bd31, bd32, bd33, bd34, bd35, bd36, bd37, bd38, bd39, bc1_i, bc1_r, bc1_n, bc1_U, bisA_r, bisA_n, bisA_a, bct_i, bct_r, bct_n, bct_l, bcs_0, bcs_i, bcs_r, bcs_l, bcs_a, brt_0, brt_1, ↓bz0, ↓bz1, true_and, and_true, false_and, and_false, and_self, Nat.reduceAdd, Nat.reduceLeDiff, Nat.reduceSub, Nat.reduceEqDiff, ite_true, ite_false, if_true, if_false, v0, v4, w3, x3, g0, g1, h2, hn, hc, i10ne, not_false_eq_true, hb, nI_1]
      exact hih
    · by_cases hp : s_hp (Vw M v) s = true
      · by_cases hz : ((1 <<< ((gI M (v + 3) s / 10) &&& 31)) ||| (1 <<< (irm (gI M (v + 3) s) 10 &&& 31))) &&& h = 0
        · have e1 : s_hang1 (Vw M v) by_ s h = h := by unfold s_hang1; rw [if_neg hb, if_pos hp, if_pos (by rw [e3]; exact hz)]
          rw [e1] at hih
          simp only [↓e99_0, ↓e99_1, ↓e99_2, ↓e99_3, ↓e99_4, ↓e99_5, ↓e99_7, ↓e99_9, ↓e99_10, ↓e99_13, ↓e99_16, ↓e99_17, ↓e99_21, ↓e99_22, ↓e99_25, ↓e99_28, ↓e99_29, ↓e99_30, ↓e99_33, ↓e99_35, ↓e99_36, ↓e99_38, ↓e99_39, ↓e99_40, ↓e99_41, ↓e99_42, ↓e99_45, ↓e99_47, ↓e99_48, ↓e99_50, ↓e99_51, ↓e99_52, ↓e99_53, ↓e99_55, ↓e99_56, ↓e99_58, ↓e99_59, ↓e99_60, ↓e99_61, ↓e99_64, ↓e99_65, ↓e99_67, ↓e99_70, ↓e99_73, ↓e99_75, ↓e99_76, ↓e99_77, ↓e99_80, ↓e99_81, ↓e99_83, ↓e99_84, ↓e99_85, ↓e99_88, ↓e99_94, ↓e99_97, ↓e99_98, bc1_a, bd1, bd2, bd3, bd4, bd5, bd6, bd7, bd8, bd9, bd10, bd11, bd12, bd13, bd14, bd15, bd16, bd17, bd18, bd19, bd20, bd21, bd22, bd23, bd24, bd25, bd26, bd27, bd28, bd29, bd30, bd31, bd32, bd33, bd34, bd35, bd36, bd37, bd38, bd39, bc1_i, bc1_r, bc1_n, bc1_U, bisA_r, bisA_n, bisA_a, bct_i, bct_r, bct_n, bct_l, bcs_0, bcs_i, bcs_r, bcs_l, bcs_a, brt_0, brt_1, ↓bz0, ↓bz1, true_and, and_true, false_and, and_false, and_self, Nat.reduceAdd, Nat.reduceLeDiff, Nat.reduceSub, Nat.reduceEqDiff, ite_true, ite_false, if_true, if_false, v0, v4, w3, x3, g0, g1, h2, hn, hc, i10ne, not_false_eq_true, hb, c_hp hv h2, b2i_t hp, i1ne, hz, nI_1]
          exact hih
        · have e1 : s_hang1 (Vw M v) by_ s h = h ||| ((1 <<< ((gI M (v + 3) s / 10) &&& 31)) ||| (1 <<< (irm (gI M (v + 3) s) 10 &&& 31))) := by unfold s_hang1; rw [if_neg hb, if_pos hp, if_neg (by rw [e3]; exact hz)]; rfl
          rw [e1] at hih
          simp only [↓e99_0, ↓e99_1, ↓e99_2, ↓e99_3, ↓e99_4, ↓e99_5, ↓e99_7, ↓e99_9, ↓e99_10, ↓e99_13, ↓e99_16, ↓e99_17, ↓e99_21, ↓e99_22, ↓e99_25, ↓e99_28, ↓e99_29, ↓e99_30, ↓e99_33, ↓e99_35, ↓e99_36, ↓e99_38, ↓e99_39, ↓e99_40, ↓e99_41, ↓e99_42, ↓e99_45, ↓e99_47, ↓e99_48, ↓e99_50, ↓e99_51, ↓e99_52, ↓e99_53, ↓e99_55, ↓e99_56, ↓e99_58, ↓e99_59, ↓e99_60, ↓e99_61, ↓e99_64, ↓e99_65, ↓e99_67, ↓e99_70, ↓e99_73, ↓e99_75, ↓e99_76, ↓e99_77, ↓e99_80, ↓e99_81, ↓e99_83, ↓e99_84, ↓e99_85, ↓e99_88, ↓e99_94, ↓e99_97, ↓e99_98, bc1_a, bd1, bd2, bd3, bd4, bd5, bd6, bd7, bd8, bd9, bd10, bd11, bd12, bd13, bd14, bd15, bd16, bd17, bd18, bd19, bd20, bd21, bd22, bd23, bd24, bd25, bd26, bd27, bd28, bd29, bd30, bd31, bd32, bd33, bd34, bd35, bd36, bd37, bd38, bd39, bc1_i, bc1_r, bc1_n, bc1_U, bisA_r, bisA_n, bisA_a, bct_i, bct_r, bct_n, bct_l, bcs_0, bcs_i, bcs_r, bcs_l, bcs_a, brt_0, brt_1, ↓bz0, ↓bz1, true_and, and_true, false_and, and_false, and_self, Nat.reduceAdd, Nat.reduceLeDiff, Nat.reduceSub, Nat.reduceEqDiff, ite_true, ite_false, if_true, if_false, v0, v4, w3, x3, g0, g1, h2, hn, hc, i10ne, not_false_eq_true, hb, c_hp hv h2, b2i_t hp, i1ne, hz, nI_1]
          exact hih
      · have e1 : s_hang1 (Vw M v) by_ s h = h := by unfold s_hang1; rw [if_neg hb, if_neg hp]
        rw [e1] at hih
        simp only [↓e99_0, ↓e99_1, ↓e99_2, ↓e99_3, ↓e99_4, ↓e99_5, ↓e99_7, ↓e99_9, ↓e99_10, ↓e99_13, ↓e99_16, ↓e99_17, ↓e99_21, ↓e99_22, ↓e99_25, ↓e99_28, ↓e99_29, ↓e99_30, ↓e99_33, ↓e99_35, ↓e99_36, ↓e99_38, ↓e99_39, ↓e99_40, ↓e99_41, ↓e99_42, ↓e99_45, ↓e99_47, ↓e99_48, ↓e99_50, ↓e99_51, ↓e99_52, ↓e99_53, ↓e99_55, ↓e99_56, ↓e99_58, ↓e99_59, ↓e99_60, ↓e99_61, ↓e99_64, ↓e99_65, ↓e99_67, ↓e99_70, ↓e99_73, ↓e99_75, ↓e99_76, ↓e99_77, ↓e99_80, ↓e99_81, ↓e99_83, ↓e99_84, ↓e99_85, ↓e99_88, ↓e99_94, ↓e99_97, ↓e99_98, bc1_a, bd1, bd2, bd3, bd4, bd5, bd6, bd7, bd8, bd9, bd10, bd11, bd12, bd13, bd14, bd15, bd16, bd17, bd18, bd19, bd20, bd21, bd22, bd23, bd24, bd25, bd26, bd27, bd28, bd29, bd30, bd31, bd32, bd33, bd34, bd35, bd36, bd37, bd38, bd39, bc1_i, bc1_r, bc1_n, bc1_U, bisA_r, bisA_n, bisA_a, bct_i, bct_r, bct_n, bct_l, bcs_0, bcs_i, bcs_r, bcs_l, bcs_a, brt_0, brt_1, ↓bz0, ↓bz1, true_and, and_true, false_and, and_false, and_self, Nat.reduceAdd, Nat.reduceLeDiff, Nat.reduceSub, Nat.reduceEqDiff, ite_true, ite_false, if_true, if_false, v0, v4, w3, x3, g0, g1, h2, hn, hc, i10ne, not_false_eq_true, hb, c_hp hv h2, b2i_f (Bool.eq_false_iff.mpr hp), i0eq, nI_1]
        exact hih
theorem l_hangR {v n g : Nat} {by_ a : Int32} (hv : SV M v) (hn : gI M v 6 = nI n) (h10 : n ≤ 10) (hg : gI M v 2 = nI g) (hg10 : g ≤ 10) : ∀ (k r : Nat) (h : Int32) (v5 v6 : Value), r + k = g →
    Q (some (.int (s_hangR (Vw M v) by_ n k h))) M → Wp L xs (d + 1) 99 7 [.ref v, .int a, .int by_, .int h, .int (nI r), v5, v6] [] M Q := by
  have v0 := hv.1.1
  intro k
  induction k with
  | zero =>
    intro r h v5 v6 hr hq
    have e : r = g := by omega
    subst e
    have hc := nI_lt0 (a := r) (b := r) (Nat.le_refl _) (by omega)
    rw [e99_7]
    simp only [↓e99_0, ↓e99_1, ↓e99_2, ↓e99_3, ↓e99_4, ↓e99_5, ↓e99_9, ↓e99_10, ↓e99_13, ↓e99_16, ↓e99_17, ↓e99_21, ↓e99_22, ↓e99_25, ↓e99_28, ↓e99_29, ↓e99_30, ↓e99_33, ↓e99_35, ↓e99_36, ↓e99_38, ↓e99_39, ↓e99_40, ↓e99_41, ↓e99_42, ↓e99_45, ↓e99_47, ↓e99_48, ↓e99_50, ↓e99_51, ↓e99_52, ↓e99_53, ↓e99_55, ↓e99_56, ↓e99_58, ↓e99_59, ↓e99_60, ↓e99_61, ↓e99_64, ↓e99_65, ↓e99_67, ↓e99_70, ↓e99_73, ↓e99_75, ↓e99_76, ↓e99_77, ↓e99_80, ↓e99_81, ↓e99_83, ↓e99_84, ↓e99_85, ↓e99_88, ↓e99_94, ↓e99_97, ↓e99_98, bc1_a, bd1, bd2, bd3, bd4, bd5, bd6, bd7, bd8, bd9, bd10, bd11, bd12, bd13, bd14, bd15, bd16, bd17, bd18, bd19, bd20, bd21, bd22, bd23, bd24, bd25, bd26, bd27, bd28, bd29, bd30, bd31, bd32, bd33, bd34, bd35, bd36, bd37, bd38, bd39, bc1_i, bc1_r, bc1_n, bc1_U, bisA_r, bisA_n, bisA_a, bct_i, bct_r, bct_n, bct_l, bcs_0, bcs_i, bcs_r, bcs_l, bcs_a, brt_0, brt_1, ↓bz0, ↓bz1, true_and, and_true, false_and, and_false, and_self, Nat.reduceAdd, Nat.reduceLeDiff, Nat.reduceSub, Nat.reduceEqDiff, ite_true, ite_false, if_true, if_false, v0, hg, hc]
    exact hq
  | succ k ih =>
    intro r h v5 v6 hr hq
    have hc := nI_lt1 (a := r) (b := g) (by omega) (by omega)
    rw [e99_7]
    simp only [↓e99_0, ↓e99_1, ↓e99_2, ↓e99_3, ↓e99_4, ↓e99_5, ↓e99_9, ↓e99_10, ↓e99_13, ↓e99_16, ↓e99_17, ↓e99_21, ↓e99_22, ↓e99_25, ↓e99_28, ↓e99_29, ↓e99_30, ↓e99_33, ↓e99_35, ↓e99_36, ↓e99_38, ↓e99_39, ↓e99_40, ↓e99_41, ↓e99_42, ↓e99_45, ↓e99_47, ↓e99_48, ↓e99_50, ↓e99_51, ↓e99_52, ↓e99_53, ↓e99_55, ↓e99_56, ↓e99_58, ↓e99_59, ↓e99_60, ↓e99_61, ↓e99_64, ↓e99_65, ↓e99_67, ↓e99_70, ↓e99_73, ↓e99_75, ↓e99_76, ↓e99_77, ↓e99_80, ↓e99_81, ↓e99_83, ↓e99_84, ↓e99_85, ↓e99_88, ↓e99_94, ↓e99_97, ↓e99_98, bc1_a, bd1, bd2, bd3, bd4, bd5, bd6, bd7, bd8, bd9, bd10, bd11, bd12, bd13, bd14, bd15, bd16, bd17, bd18, bd19, bd20, bd21, bd22, bd23, bd24, bd25, bd26, bd27, bd28, bd29, bd30, bd31, bd32, bd33, bd34, bd35, bd36, bd37, bd38, bd39, bc1_i, bc1_r, bc1_n, bc1_U, bisA_r, bisA_n, bisA_a, bct_i, bct_r, bct_n, bct_l, bcs_0, bcs_i, bcs_r, bcs_l, bcs_a, brt_0, brt_1, ↓bz0, ↓bz1, true_and, and_true, false_and, and_false, and_self, Nat.reduceAdd, Nat.reduceLeDiff, Nat.reduceSub, Nat.reduceEqDiff, ite_true, ite_false, if_true, if_false, v0, hg, hc]
    refine l_hangS hv hn h10 n 0 h v6 (Nat.zero_add n) (fun v6' => ?_)
    rw [e99_91 rfl]
    simp only [↓e99_0, ↓e99_1, ↓e99_2, ↓e99_3, ↓e99_4, ↓e99_5, ↓e99_9, ↓e99_10, ↓e99_13, ↓e99_16, ↓e99_17, ↓e99_21, ↓e99_22, ↓e99_25, ↓e99_28, ↓e99_29, ↓e99_30, ↓e99_33, ↓e99_35, ↓e99_36, ↓e99_38, ↓e99_39, ↓e99_40, ↓e99_41, ↓e99_42, ↓e99_45, ↓e99_47, ↓e99_48, ↓e99_50, ↓e99_51, ↓e99_52, ↓e99_53, ↓e99_55, ↓e99_56, ↓e99_58, ↓e99_59, ↓e99_60, ↓e99_61, ↓e99_64, ↓e99_65, ↓e99_67, ↓e99_70, ↓e99_73, ↓e99_75, ↓e99_76, ↓e99_77, ↓e99_80, ↓e99_81, ↓e99_83, ↓e99_84, ↓e99_85, ↓e99_88, ↓e99_94, ↓e99_97, ↓e99_98, bc1_a, bd1, bd2, bd3, bd4, bd5, bd6, bd7, bd8, bd9, bd10, bd11, bd12, bd13, bd14, bd15, bd16, bd17, bd18, bd19, bd20, bd21, bd22, bd23, bd24, bd25, bd26, bd27, bd28, bd29, bd30, bd31, bd32, bd33, bd34, bd35, bd36, bd37, bd38, bd39, bc1_i, bc1_r, bc1_n, bc1_U, bisA_r, bisA_n, bisA_a, bct_i, bct_r, bct_n, bct_l, bcs_0, bcs_i, bcs_r, bcs_l, bcs_a, brt_0, brt_1, ↓bz0, ↓bz1, true_and, and_true, false_and, and_false, and_self, Nat.reduceAdd, Nat.reduceLeDiff, Nat.reduceSub, Nat.reduceEqDiff, ite_true, ite_false, if_true, if_false, nI_1]
    exact ih (r + 1) _ _ _ (by omega) hq
theorem c_hanging {v n g : Nat} {by_ a : Int32} (hv : SV M v) (hn : gI M v 6 = nI n) (h10 : n ≤ 10) (hg : gI M v 2 = nI g) (hg10 : g ≤ 10) (hq : Q (some (.int (s_hang (Vw M v) by_ n g a))) M) : Call L xs (d + 1) 99 [.ref v, .int a, .int by_] M Q := by
  rw [en99]
  simp only [↓e99_0, ↓e99_1, ↓e99_2, ↓e99_3, ↓e99_4, ↓e99_5, ↓e99_9, ↓e99_10, ↓e99_13, ↓e99_16, ↓e99_17, ↓e99_21, ↓e99_22, ↓e99_25, ↓e99_28, ↓e99_29, ↓e99_30, ↓e99_33, ↓e99_35, ↓e99_36, ↓e99_38, ↓e99_39, ↓e99_40, ↓e99_41, ↓e99_42, ↓e99_45, ↓e99_47, ↓e99_48, ↓e99_50, ↓e99_51, ↓e99_52, ↓e99_53, ↓e99_55, ↓e99_56, ↓e99_58, ↓e99_59, ↓e99_60, ↓e99_61, ↓e99_64, ↓e99_65, ↓e99_67, ↓e99_70, ↓e99_73, ↓e99_75, ↓e99_76, ↓e99_77, ↓e99_80, ↓e99_81, ↓e99_83, ↓e99_84, ↓e99_85, ↓e99_88, ↓e99_94, ↓e99_97, ↓e99_98, bc1_a, bd1, bd2, bd3, bd4, bd5, bd6, bd7, bd8, bd9, bd10, bd11, bd12, bd13, bd14, bd15, bd16, bd17, bd18, bd19, bd20, bd21, bd22, bd23, bd24, bd25, bd26, bd27, bd28, bd29, bd30, bd31, bd32, bd33, bd34, bd35, bd36, bd37, bd38, bd39, bc1_i, bc1_r, bc1_n, bc1_U, bisA_r, bisA_n, bisA_a, bct_i, bct_r, bct_n, bct_l, bcs_0, bcs_i, bcs_r, bcs_l, bcs_a, brt_0, brt_1, ↓bz0, ↓bz1, true_and, and_true, false_and, and_false, and_self, Nat.reduceAdd, Nat.reduceLeDiff, Nat.reduceSub, Nat.reduceEqDiff, ite_true, ite_false, if_true, if_false]
  exact l_hangR hv hn h10 hg hg10 g 0 _ _ _ (Nat.zero_add g) hq
theorem l_parts {v n g : Nat} {by_ : Int32} (hv : SV M v) (hn : gI M v 6 = nI n) (h10 : n ≤ 10) (hg : gI M v 2 = nI g) (hg10 : g ≤ 10) : ∀ (k p : Nat) (x : Int32 × Int32), p + k = g →
    Q (some (.int (s_partsR (Vw M v) by_ n g k p x).1)) M → Wp L xs (d + 2) 100 7 [.ref v, .int by_, .int x.1, .int x.2, .int (nI p)] [] M Q := by
  have v0 := hv.1.1
  intro k
  induction k with
  | zero =>
    intro p x hr hq
    have e : p = g := by omega
    subst e
    have hc := nI_lt0 (a := p) (b := p) (Nat.le_refl _) (by omega)
    rw [e100_7]
    simp only [↓e100_0, ↓e100_1, ↓e100_2, ↓e100_3, ↓e100_4, ↓e100_5, ↓e100_9, ↓e100_10, ↓e100_13, ↓e100_16, ↓e100_17, ↓e100_19, ↓e100_20, ↓e100_21, ↓e100_22, ↓e100_25, ↓e100_28, ↓e100_29, ↓e100_30, ↓e100_32, ↓e100_33, ↓e100_36, ↓e100_37, ↓e100_38, ↓e100_41, ↓e100_44, ↓e100_45, bc1_a, bd1, bd2, bd3, bd4, bd5, bd6, bd7, bd8, bd9, bd10, bd11, bd12, bd13, bd14, bd15, bd16, bd17, bd18, bd19, bd20, bd21, bd22, bd23, bd24, bd25, bd26, bd27, bd28, bd29, bd30, bd31, bd32, bd33, bd34, bd35, bd36, bd37, bd38, bd39, bc1_i, bc1_r, bc1_n, bc1_U, bisA_r, bisA_n, bisA_a, bct_i, bct_r, bct_n, bct_l, bcs_0, bcs_i, bcs_r, bcs_l, bcs_a, brt_0, brt_1, ↓bz0, ↓bz1, true_and, and_true, false_and, and_false, and_self, Nat.reduceAdd, Nat.reduceLeDiff, Nat.reduceSub, Nat.reduceEqDiff, ite_true, ite_false, if_true, if_false, v0, hg, hc]
    exact hq
  | succ k ih =>
    intro p x hr hq
    have hc := nI_lt1 (a := p) (b := g) (by omega) (by omega)
    have hih := ih (p + 1) (s_parts1 (Vw M v) by_ n g p x) (by omega) hq
    rw [e100_7]
    by_cases hb : (x.2 >>> (nI p &&& 31)) &&& 1 = 0
    · have e1 : s_parts1 (Vw M v) by_ n g p x = (x.1 + 1, x.2 ||| s_hang (Vw M v) by_ n g (nI p)) := by unfold s_parts1; rw [if_pos hb]
      rw [e1] at hih
      simp only [↓e100_0, ↓e100_1, ↓e100_2, ↓e100_3, ↓e100_4, ↓e100_5, ↓e100_9, ↓e100_10, ↓e100_13, ↓e100_16, ↓e100_17, ↓e100_19, ↓e100_20, ↓e100_21, ↓e100_22, ↓e100_25, ↓e100_28, ↓e100_29, ↓e100_30, ↓e100_32, ↓e100_33, ↓e100_36, ↓e100_37, ↓e100_38, ↓e100_41, ↓e100_44, ↓e100_45, bc1_a, bd1, bd2, bd3, bd4, bd5, bd6, bd7, bd8, bd9, bd10, bd11, bd12, bd13, bd14, bd15, bd16, bd17, bd18, bd19, bd20, bd21, bd22, bd23, bd24, bd25, bd26, bd27, bd28, bd29, bd30, bd31, bd32, bd33, bd34, bd35, bd36, bd37, bd38, bd39, bc1_i, bc1_r, bc1_n, bc1_U, bisA_r, bisA_n, bisA_a, bct_i, bct_r, bct_n, bct_l, bcs_0, bcs_i, bcs_r, bcs_l, bcs_a, brt_0, brt_1, ↓bz0, ↓bz1, true_and, and_true, false_and, and_false, and_self, Nat.reduceAdd, Nat.reduceLeDiff, Nat.reduceSub, Nat.reduceEqDiff, ite_true, ite_false, if_true, if_false, v0, hg, hc, hb]
      refine c_hanging hv hn h10 hg hg10 ?_
      simp only [↓e100_0, ↓e100_1, ↓e100_2, ↓e100_3, ↓e100_4, ↓e100_5, ↓e100_9, ↓e100_10, ↓e100_13, ↓e100_16, ↓e100_17, ↓e100_19, ↓e100_20, ↓e100_21, ↓e100_22, ↓e100_25, ↓e100_28, ↓e100_29, ↓e100_30, ↓e100_32, ↓e100_33, ↓e100_36, ↓e100_37, ↓e100_38, ↓e100_41, ↓e100_44, ↓e100_45, bc1_a, bd1, bd2, bd3, bd4, bd5, bd6, bd7, bd8, bd9, bd10, bd11, bd12, bd13, bd14, bd15, bd16, bd17, bd18, bd19, bd20, bd21, bd22, bd23, bd24, bd25, bd26, bd27, bd28, bd29, bd30, bd31, bd32, bd33, bd34, bd35, bd36, bd37, bd38, bd39, bc1_i, bc1_r, bc1_n, bc1_U, bisA_r, bisA_n, bisA_a, bct_i, bct_r, bct_n, bct_l, bcs_0, bcs_i, bcs_r, bcs_l, bcs_a, brt_0, brt_1, ↓bz0, ↓bz1, true_and, and_true, false_and, and_false, and_self, Nat.reduceAdd, Nat.reduceLeDiff, Nat.reduceSub, Nat.reduceEqDiff, ite_true, ite_false, if_true, if_false, nI_1]
      exact hih
    · have e1 : s_parts1 (Vw M v) by_ n g p x = x := by unfold s_parts1; rw [if_neg hb]
      rw [e1] at hih
      simp only [↓e100_0, ↓e100_1, ↓e100_2, ↓e100_3, ↓e100_4, ↓e100_5, ↓e100_9, ↓e100_10, ↓e100_13, ↓e100_16, ↓e100_17, ↓e100_19, ↓e100_20, ↓e100_21, ↓e100_22, ↓e100_25, ↓e100_28, ↓e100_29, ↓e100_30, ↓e100_32, ↓e100_33, ↓e100_36, ↓e100_37, ↓e100_38, ↓e100_41, ↓e100_44, ↓e100_45, bc1_a, bd1, bd2, bd3, bd4, bd5, bd6, bd7, bd8, bd9, bd10, bd11, bd12, bd13, bd14, bd15, bd16, bd17, bd18, bd19, bd20, bd21, bd22, bd23, bd24, bd25, bd26, bd27, bd28, bd29, bd30, bd31, bd32, bd33, bd34, bd35, bd36, bd37, bd38, bd39, bc1_i, bc1_r, bc1_n, bc1_U, bisA_r, bisA_n, bisA_a, bct_i, bct_r, bct_n, bct_l, bcs_0, bcs_i, bcs_r, bcs_l, bcs_a, brt_0, brt_1, ↓bz0, ↓bz1, true_and, and_true, false_and, and_false, and_self, Nat.reduceAdd, Nat.reduceLeDiff, Nat.reduceSub, Nat.reduceEqDiff, ite_true, ite_false, if_true, if_false, v0, hg, hc, hb, nI_1]
      exact hih
theorem c_parts {v n g : Nat} {by_ : Int32} (hv : SV M v) (hn : gI M v 6 = nI n) (h10 : n ≤ 10) (hg : gI M v 2 = nI g) (hg10 : g ≤ 10) (hq : Q (some (.int (s_parts (Vw M v) by_ n g))) M) : Call L xs (d + 2) 100 [.ref v, .int by_] M Q := by
  rw [en100]
  simp only [↓e100_0, ↓e100_1, ↓e100_2, ↓e100_3, ↓e100_4, ↓e100_5, ↓e100_9, ↓e100_10, ↓e100_13, ↓e100_16, ↓e100_17, ↓e100_19, ↓e100_20, ↓e100_21, ↓e100_22, ↓e100_25, ↓e100_28, ↓e100_29, ↓e100_30, ↓e100_32, ↓e100_33, ↓e100_36, ↓e100_37, ↓e100_38, ↓e100_41, ↓e100_44, ↓e100_45, bc1_a, bd1, bd2, bd3, bd4, bd5, bd6, bd7, bd8, bd9, bd10, bd11, bd12, bd13, bd14, bd15, bd16, bd17, bd18, bd19, bd20, bd21, bd22, bd23, bd24, bd25, bd26, bd27, bd28, bd29, bd30, bd31, bd32, bd33, bd34, bd35, bd36, bd37, bd38, bd39, bc1_i, bc1_r, bc1_n, bc1_U, bisA_r, bisA_n, bisA_a, bct_i, bct_r, bct_n, bct_l, bcs_0, bcs_i, bcs_r, bcs_l, bcs_a, brt_0, brt_1, ↓bz0, ↓bz1, true_and, and_true, false_and, and_false, and_self, Nat.reduceAdd, Nat.reduceLeDiff, Nat.reduceSub, Nat.reduceEqDiff, ite_true, ite_false, if_true, if_false]
  exact l_parts (x := (0, 0)) hv hn h10 hg hg10 g 0 (Nat.zero_add g) hq
def s_isWhole (V : Nat → Nat → Int32) (n g : Nat) : Bool := decide (s_parts V (s_bits (s_hd V) n) n g = 1)
theorem c_isWhole {v n g : Nat} (hv : SV M v) (hn : gI M v 6 = nI n) (h10 : n ≤ 10) (hg : gI M v 2 = nI g) (hg10 : g ≤ 10) (hq : Q (some (.int (s_b2i (s_isWhole (Vw M v) n g)))) M) : Call L xs (d + 3) 101 [.ref v] M Q := by
  have v0 := hv.1.1
  rw [en101]
  simp only [↓e101_0, ↓e101_1, ↓e101_2, ↓e101_5, ↓e101_8, ↓e101_9, ↓e101_12, ↓e101_13, ↓e101_16, ↓e101_17, bc1_a, bd1, bd2, bd3, bd4, bd5, bd6, bd7, bd8, bd9, bd10, bd11, bd12, bd13, bd14, bd15, bd16, bd17, bd18, bd19, bd20, bd21, bd22, bd23, bd24, bd25, bd26, bd27, bd28, bd29, bd30, bd31, bd32, bd33, bd34, bd35, bd36, bd37, bd38, bd39, bc1_i, bc1_r, bc1_n, bc1_U, bisA_r, bisA_n, bisA_a, bct_i, bct_r, bct_n, bct_l, bcs_0, bcs_i, bcs_r, bcs_l, bcs_a, brt_0, brt_1, ↓bz0, ↓bz1, true_and, and_true, false_and, and_false, and_self, Nat.reduceAdd, Nat.reduceLeDiff, Nat.reduceSub, Nat.reduceEqDiff, ite_true, ite_false, if_true, if_false, v0, c_holding hv hn h10]
  refine c_parts hv hn h10 hg hg10 ?_
  unfold s_isWhole at hq
  by_cases hc : s_parts (Vw M v) (s_bits (s_hd (Vw M v)) n) n g = 1
  · rw [decide_eq_true hc] at hq
    simp only [↓e101_0, ↓e101_1, ↓e101_2, ↓e101_5, ↓e101_8, ↓e101_9, ↓e101_12, ↓e101_13, ↓e101_16, ↓e101_17, bc1_a, bd1, bd2, bd3, bd4, bd5, bd6, bd7, bd8, bd9, bd10, bd11, bd12, bd13, bd14, bd15, bd16, bd17, bd18, bd19, bd20, bd21, bd22, bd23, bd24, bd25, bd26, bd27, bd28, bd29, bd30, bd31, bd32, bd33, bd34, bd35, bd36, bd37, bd38, bd39, bc1_i, bc1_r, bc1_n, bc1_U, bisA_r, bisA_n, bisA_a, bct_i, bct_r, bct_n, bct_l, bcs_0, bcs_i, bcs_r, bcs_l, bcs_a, brt_0, brt_1, ↓bz0, ↓bz1, true_and, and_true, false_and, and_false, and_self, Nat.reduceAdd, Nat.reduceLeDiff, Nat.reduceSub, Nat.reduceEqDiff, ite_true, ite_false, if_true, if_false, hc]
    exact hq
  · rw [decide_eq_false hc] at hq
    simp only [↓e101_0, ↓e101_1, ↓e101_2, ↓e101_5, ↓e101_8, ↓e101_9, ↓e101_12, ↓e101_13, ↓e101_16, ↓e101_17, bc1_a, bd1, bd2, bd3, bd4, bd5, bd6, bd7, bd8, bd9, bd10, bd11, bd12, bd13, bd14, bd15, bd16, bd17, bd18, bd19, bd20, bd21, bd22, bd23, bd24, bd25, bd26, bd27, bd28, bd29, bd30, bd31, bd32, bd33, bd34, bd35, bd36, bd37, bd38, bd39, bc1_i, bc1_r, bc1_n, bc1_U, bisA_r, bisA_n, bisA_a, bct_i, bct_r, bct_n, bct_l, bcs_0, bcs_i, bcs_r, bcs_l, bcs_a, brt_0, brt_1, ↓bz0, ↓bz1, true_and, and_true, false_and, and_false, and_self, Nat.reduceAdd, Nat.reduceLeDiff, Nat.reduceSub, Nat.reduceEqDiff, ite_true, ite_false, if_true, if_false, hc]
    exact hq
end
