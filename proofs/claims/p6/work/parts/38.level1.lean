/-! THE READER: levels -/
section
variable {f : Nat → Int32} {n : Nat} {sep : Nat → Option Int32} {item : Nat → PR}
theorem p_loop_none {k q : Nat} {b : List Int32} (hs : sep (t_k f n q) = none) : p_loop f n sep item (k + 1) b q = .inl (b, q) := by
  rw [p_loop, hs]
theorem p_loop_bad {k q s : Nat} {b : List Int32} {op : Int32} (hs : sep (t_k f n q) = some op) (he : item (t_e f n q) = .inr s) : p_loop f n sep item (k + 1) b q = .inr s := by
  rw [p_loop, hs]
  dsimp only
  rw [he]
theorem p_loop_good {k q q2 : Nat} {b b2 : List Int32} {op : Int32} (hs : sep (t_k f n q) = some op) (he : item (t_e f n q) = .inl (b2, q2)) : p_loop f n sep item (k + 1) b q = p_loop f n sep item k (b ++ b2 ++ [op]) q2 := by
  rw [p_loop, hs]
  dsimp only
  rw [he]
theorem p_ch_bad {q s : Nat} (he : item q = .inr s) : p_ch f n sep item q = .inr s := by
  rw [p_ch, he]
theorem p_ch_good {q q2 : Nat} {b : List Int32} (he : item q = .inl (b, q2)) : p_ch f n sep item q = p_loop f n sep item 160 b q2 := by
  rw [p_ch, he]
theorem ite_lt2 {c : Prop} [Decidable c] {a b : Nat} (ha : a < 2147483648) (hb : b < 2147483648) : (if c then a else b) < 2147483648 := by
  by_cases h : c
  · rw [if_pos h]; exact ha
  · rw [if_neg h]; exact hb
theorem sg_lt {b : Int32} (h : t_sg b = true) : b.toNatClampNeg < 2147483648 := by
  unfold t_sg at h
  simp only [Bool.or_eq_true, beq_iff_eq] at h
  rcases h with ((((((rfl | rfl) | rfl) | rfl) | rfl) | rfl) | rfl) | rfl <;> decide
theorem t_k_lt (q : Nat) : t_k f n q < 2147483648 := by
  unfold t_k
  refine ite_lt2 (by decide) ?_
  refine ite_lt2 ?_ (ite_lt2 (ite_lt2 (by decide) (by decide)) ?_)
  · unfold t_wk
    refine ite_lt2 (by decide) ?_
    refine ite_lt2 (by decide) ?_
    refine ite_lt2 (by decide) ?_
    refine ite_lt2 (by decide) ?_
    refine ite_lt2 (by decide) ?_
    refine ite_lt2 (by decide) ?_
    refine ite_lt2 (by decide) ?_
    refine ite_lt2 (by decide) ?_
    refine ite_lt2 (by decide) ?_
    refine ite_lt2 (by decide) ?_
    refine ite_lt2 (by decide) ?_
    refine ite_lt2 (by decide) ?_
    decide
  · by_cases h : t_sg (f (t_s f n q)) = true
    · rw [if_pos h]; exact sg_lt h
    · rw [if_neg h]; decide
theorem t_k_is {q m : Nat} (hm : m < 2147483648) (h : t_k f n q = m) : (nI (t_k f n q) = nI m) = True := eq_true (by rw [h])
theorem t_k_not {q m : Nat} (hm : m < 2147483648) (h : t_k f n q ≠ m) : (nI (t_k f n q) = nI m) = False := eq_false (fun z => h ((nI_eq (t_k_lt q) hm).mp z))
end
section
variable {L : Nat} {xs : Nat → Int32} {d : Nat} {f : Nat → Int32} {n o : Nat} {item : Nat → PR}
theorem RS.op {q q2 : Nat} {c b b2 : List Int32} {M : mm_H} {p : Nat} (h : RS f n q2 o (c ++ b ++ b2) M) (hp : t_e f n q = p) (hk : t_k f n q ≠ 0) (hc : (c ++ b).length ≤ q) (hl : b2.length + t_s f n p ≤ q2) : (c ++ b ++ b2).length + 1 ≤ q2 := by
  have h1 := t_k_gt hk
  have h2 := t_s_ge (f := f) (n := n) q
  have h3 := t_s_ge (f := f) (n := n) p
  rw [List.length_append]
  omega
theorem l_51 (h160 : n ≤ 160) (hi : RC L xs f n o (d + 6) 52 item) (hok : p_ok f n item) : ∀ (k i : Nat), i + k = 160 → ∀ (M0 M : mm_H) (Q : Option Value → mm_H → Prop) (q : Nat) (c b : List Int32), Fr S57 M0 M → RS f n q o (c ++ b) M → (∀ M' b' q', p_loop f n q_mul item k b q = .inl (b', q') → Fr S57 M0 M' → RS f n q' o (c ++ b') M' → Q (some (.int 1)) M') → (∀ M' s, p_loop f n q_mul item k b q = .inr s → Fr S57 M0 M' → RF f n s M' → Q (some (.int 0)) M') → Wp L xs (d + 7) 51 7 [.ref 5, .int 1, .int (nI i)] [] M Q := by
  intro k
  induction k with
  | zero =>
    intro i hi0 M0 M Q q c b hf h hq hq2
    have hc := nI_lt0 (a := i) (b := 160) (by omega) (by omega)
    have hc' : (nI i < 160) = False := hc
    rw [e51_7]
    simp only [↓e51_0, ↓e51_1, ↓e51_4, ↓e51_5, ↓e51_6, ↓e51_8, ↓e51_11, ↓e51_14, ↓e51_15, ↓e51_18, ↓e51_19, ↓e51_22, ↓e51_24, ↓e51_27, ↓e51_28, ↓e51_31, ↓e51_32, ↓e51_35, ↓e51_36, ↓e51_37, ↓e51_39, ↓e51_42, ↓e51_45, ↓e51_48, ↓e51_49, bc1_a, bd1, bd2, bd3, bd4, bd5, bd6, bd7, bd8, bd9, bd10, bd11, bd12, bd13, bd14, bd15, bd16, bd17, bd18, bd19, bd20, bd21, bd22, bd23, bd24, bd25, bd26, bd27, bd28, bd29, bd30, bd31, bd32, bd33, bd34, bd35, bd36, bd37, bd38, bd39, bc1_i, bc1_r, bc1_n, bc1_U, bisA_r, bisA_n, bisA_a, bct_i, bct_r, bct_n, bct_l, bcs_0, bcs_i, bcs_r, bcs_l, bcs_a, brt_0, brt_1, ↓bz0, ↓bz1, true_and, and_true, false_and, and_false, and_self, Nat.reduceAdd, Nat.reduceLeDiff, Nat.reduceSub, Nat.reduceEqDiff, ite_true, ite_false, if_true, if_false, hc']
    exact hq M b q rfl hf h
  | succ k ih =>
    intro i hi0 M0 M Q q c b hf h hq hq2
    have hc : (nI i < 160) = True := nI_lt1 (a := i) (b := 160) (by omega) (by omega)
    obtain ⟨r1, -⟩ := id h.1
    have e3 := h.2.2.2.1.2.2.1
    rw [e51_7]
    by_cases ht : t_k f n q = 42
    · have hs : q_mul (t_k f n q) = some (-42) := by rw [ht]; rfl
      have htt : (nI (t_k f n q) = 42) = True := t_k_is (by decide) ht
      simp only [↓e51_0, ↓e51_1, ↓e51_4, ↓e51_5, ↓e51_6, ↓e51_8, ↓e51_11, ↓e51_14, ↓e51_15, ↓e51_18, ↓e51_19, ↓e51_22, ↓e51_24, ↓e51_27, ↓e51_28, ↓e51_31, ↓e51_32, ↓e51_35, ↓e51_36, ↓e51_37, ↓e51_39, ↓e51_42, ↓e51_45, ↓e51_48, ↓e51_49, bc1_a, bd1, bd2, bd3, bd4, bd5, bd6, bd7, bd8, bd9, bd10, bd11, bd12, bd13, bd14, bd15, bd16, bd17, bd18, bd19, bd20, bd21, bd22, bd23, bd24, bd25, bd26, bd27, bd28, bd29, bd30, bd31, bd32, bd33, bd34, bd35, bd36, bd37, bd38, bd39, bc1_i, bc1_r, bc1_n, bc1_U, bisA_r, bisA_n, bisA_a, bct_i, bct_r, bct_n, bct_l, bcs_0, bcs_i, bcs_r, bcs_l, bcs_a, brt_0, brt_1, ↓bz0, ↓bz1, true_and, and_true, false_and, and_false, and_self, Nat.reduceAdd, Nat.reduceLeDiff, Nat.reduceSub, Nat.reduceEqDiff, ite_true, ite_false, if_true, if_false, hc, i1ne, r1, e3, htt]
      refine RS.look h160 h rfl (fun M1 f1 h1 => ?_)
      simp only [↓e51_0, ↓e51_1, ↓e51_4, ↓e51_5, ↓e51_6, ↓e51_8, ↓e51_11, ↓e51_14, ↓e51_15, ↓e51_18, ↓e51_19, ↓e51_22, ↓e51_24, ↓e51_27, ↓e51_28, ↓e51_31, ↓e51_32, ↓e51_35, ↓e51_36, ↓e51_37, ↓e51_39, ↓e51_42, ↓e51_45, ↓e51_48, ↓e51_49, bc1_a, bd1, bd2, bd3, bd4, bd5, bd6, bd7, bd8, bd9, bd10, bd11, bd12, bd13, bd14, bd15, bd16, bd17, bd18, bd19, bd20, bd21, bd22, bd23, bd24, bd25, bd26, bd27, bd28, bd29, bd30, bd31, bd32, bd33, bd34, bd35, bd36, bd37, bd38, bd39, bc1_i, bc1_r, bc1_n, bc1_U, bisA_r, bisA_n, bisA_a, bct_i, bct_r, bct_n, bct_l, bcs_0, bcs_i, bcs_r, bcs_l, bcs_a, brt_0, brt_1, ↓bz0, ↓bz1, true_and, and_true, false_and, and_false, and_self, Nat.reduceAdd, Nat.reduceLeDiff, Nat.reduceSub, Nat.reduceEqDiff, ite_true, ite_false, if_true, if_false, h1.1.1]
      refine hi M1 _ _ _ h1 (fun M2 b2 q2 e2 f2 h2 => ?_) (fun M2 s e2 f2 h2 => ?_)
      · have hl := (hok _ h1.2.2.2.2.2.2.2 _ e2).1
        have hlen : (c ++ b ++ b2).length + 1 ≤ q2 := RS.op h2 rfl (by rw [ht]; decide) h.2.2.2.2.2.2.1 hl
        have hq2n : q2 ≤ n := h2.2.2.2.2.2.2.2
        have hw := fun (R : Option Value → mm_H → Prop) => c_write (L := L) (xs := xs) (d := d + 6) (M := M2) (Q := R) (x := -42) h2.1 h2.2.2.2.2.2.1.1 (by omega)
        have h3 := RS.write (x := -42) h2 hlen
        have f3 : Fr S57 M0 (pI (pI M2 7 (c ++ b ++ b2).length (-42)) 5 8 (nI ((c ++ b ++ b2).length + 1))) := ((hf.trans (f1.trans f2)).put2 (Or.inr rfl)).put2 (Or.inl rfl)
        simp only [↓e51_0, ↓e51_1, ↓e51_4, ↓e51_5, ↓e51_6, ↓e51_8, ↓e51_11, ↓e51_14, ↓e51_15, ↓e51_18, ↓e51_19, ↓e51_22, ↓e51_24, ↓e51_27, ↓e51_28, ↓e51_31, ↓e51_32, ↓e51_35, ↓e51_36, ↓e51_37, ↓e51_39, ↓e51_42, ↓e51_45, ↓e51_48, ↓e51_49, bc1_a, bd1, bd2, bd3, bd4, bd5, bd6, bd7, bd8, bd9, bd10, bd11, bd12, bd13, bd14, bd15, bd16, bd17, bd18, bd19, bd20, bd21, bd22, bd23, bd24, bd25, bd26, bd27, bd28, bd29, bd30, bd31, bd32, bd33, bd34, bd35, bd36, bd37, bd38, bd39, bc1_i, bc1_r, bc1_n, bc1_U, bisA_r, bisA_n, bisA_a, bct_i, bct_r, bct_n, bct_l, bcs_0, bcs_i, bcs_r, bcs_l, bcs_a, brt_0, brt_1, ↓bz0, ↓bz1, true_and, and_true, false_and, and_false, and_self, Nat.reduceAdd, Nat.reduceLeDiff, Nat.reduceSub, Nat.reduceEqDiff, ite_true, ite_false, if_true, if_false, h2.1.1, hw, nI_1]
        refine ih (i + 1) (by omega) M0 _ Q q2 c (b ++ b2 ++ [-42]) f3 ?_ ?_ ?_
        · rw [← List.append_assoc, ← List.append_assoc]; exact h3
        · intro M' b' q' e'; exact hq M' b' q' ((p_loop_good hs e2).trans e')
        · intro M' s e'; exact hq2 M' s ((p_loop_good hs e2).trans e')
      · simp only [↓e51_0, ↓e51_1, ↓e51_4, ↓e51_5, ↓e51_6, ↓e51_8, ↓e51_11, ↓e51_14, ↓e51_15, ↓e51_18, ↓e51_19, ↓e51_22, ↓e51_24, ↓e51_27, ↓e51_28, ↓e51_31, ↓e51_32, ↓e51_35, ↓e51_36, ↓e51_37, ↓e51_39, ↓e51_42, ↓e51_45, ↓e51_48, ↓e51_49, bc1_a, bd1, bd2, bd3, bd4, bd5, bd6, bd7, bd8, bd9, bd10, bd11, bd12, bd13, bd14, bd15, bd16, bd17, bd18, bd19, bd20, bd21, bd22, bd23, bd24, bd25, bd26, bd27, bd28, bd29, bd30, bd31, bd32, bd33, bd34, bd35, bd36, bd37, bd38, bd39, bc1_i, bc1_r, bc1_n, bc1_U, bisA_r, bisA_n, bisA_a, bct_i, bct_r, bct_n, bct_l, bcs_0, bcs_i, bcs_r, bcs_l, bcs_a, brt_0, brt_1, ↓bz0, ↓bz1, true_and, and_true, false_and, and_false, and_self, Nat.reduceAdd, Nat.reduceLeDiff, Nat.reduceSub, Nat.reduceEqDiff, ite_true, ite_false, if_true, if_false, h2.1.1]
        obtain ⟨l, hl, hl2⟩ := h2.2.2.2.1
        refine c_writeF h2.1 hl2 hl (fun M3 f3 g6 g5 gl => ?_)
        have h3 := h2.write f3 g6 g5 gl
        have hfin := hq2 M3 s (p_loop_bad hs e2) (hf.trans (f1.trans (f2.trans f3))) h3
        by_cases hc3 : nI (i + 1) < 160
        · simp only [↓e51_0, ↓e51_1, ↓e51_4, ↓e51_5, ↓e51_6, ↓e51_7, ↓e51_8, ↓e51_11, ↓e51_14, ↓e51_15, ↓e51_18, ↓e51_19, ↓e51_22, ↓e51_24, ↓e51_27, ↓e51_28, ↓e51_31, ↓e51_32, ↓e51_35, ↓e51_36, ↓e51_37, ↓e51_39, ↓e51_42, ↓e51_45, ↓e51_48, ↓e51_49, bc1_a, bd1, bd2, bd3, bd4, bd5, bd6, bd7, bd8, bd9, bd10, bd11, bd12, bd13, bd14, bd15, bd16, bd17, bd18, bd19, bd20, bd21, bd22, bd23, bd24, bd25, bd26, bd27, bd28, bd29, bd30, bd31, bd32, bd33, bd34, bd35, bd36, bd37, bd38, bd39, bc1_i, bc1_r, bc1_n, bc1_U, bisA_r, bisA_n, bisA_a, bct_i, bct_r, bct_n, bct_l, bcs_0, bcs_i, bcs_r, bcs_l, bcs_a, brt_0, brt_1, ↓bz0, ↓bz1, true_and, and_true, false_and, and_false, and_self, Nat.reduceAdd, Nat.reduceLeDiff, Nat.reduceSub, Nat.reduceEqDiff, ite_true, ite_false, if_true, if_false, nI_1, hc3, i0eq]; exact hfin
        · simp only [↓e51_0, ↓e51_1, ↓e51_4, ↓e51_5, ↓e51_6, ↓e51_7, ↓e51_8, ↓e51_11, ↓e51_14, ↓e51_15, ↓e51_18, ↓e51_19, ↓e51_22, ↓e51_24, ↓e51_27, ↓e51_28, ↓e51_31, ↓e51_32, ↓e51_35, ↓e51_36, ↓e51_37, ↓e51_39, ↓e51_42, ↓e51_45, ↓e51_48, ↓e51_49, bc1_a, bd1, bd2, bd3, bd4, bd5, bd6, bd7, bd8, bd9, bd10, bd11, bd12, bd13, bd14, bd15, bd16, bd17, bd18, bd19, bd20, bd21, bd22, bd23, bd24, bd25, bd26, bd27, bd28, bd29, bd30, bd31, bd32, bd33, bd34, bd35, bd36, bd37, bd38, bd39, bc1_i, bc1_r, bc1_n, bc1_U, bisA_r, bisA_n, bisA_a, bct_i, bct_r, bct_n, bct_l, bcs_0, bcs_i, bcs_r, bcs_l, bcs_a, brt_0, brt_1, ↓bz0, ↓bz1, true_and, and_true, false_and, and_false, and_self, Nat.reduceAdd, Nat.reduceLeDiff, Nat.reduceSub, Nat.reduceEqDiff, ite_true, ite_false, if_true, if_false, nI_1, hc3, i0eq]; exact hfin
    · have hs : q_mul (t_k f n q) = none := if_neg ht
      have htt : (nI (t_k f n q) = 42) = False := t_k_not (by decide) ht
      simp only [↓e51_0, ↓e51_1, ↓e51_4, ↓e51_5, ↓e51_6, ↓e51_8, ↓e51_11, ↓e51_14, ↓e51_15, ↓e51_18, ↓e51_19, ↓e51_22, ↓e51_24, ↓e51_27, ↓e51_28, ↓e51_31, ↓e51_32, ↓e51_35, ↓e51_36, ↓e51_37, ↓e51_39, ↓e51_42, ↓e51_45, ↓e51_48, ↓e51_49, bc1_a, bd1, bd2, bd3, bd4, bd5, bd6, bd7, bd8, bd9, bd10, bd11, bd12, bd13, bd14, bd15, bd16, bd17, bd18, bd19, bd20, bd21, bd22, bd23, bd24, bd25, bd26, bd27, bd28, bd29, bd30, bd31, bd32, bd33, bd34, bd35, bd36, bd37, bd38, bd39, bc1_i, bc1_r, bc1_n, bc1_U, bisA_r, bisA_n, bisA_a, bct_i, bct_r, bct_n, bct_l, bcs_0, bcs_i, bcs_r, bcs_l, bcs_a, brt_0, brt_1, ↓bz0, ↓bz1, true_and, and_true, false_and, and_false, and_self, Nat.reduceAdd, Nat.reduceLeDiff, Nat.reduceSub, Nat.reduceEqDiff, ite_true, ite_false, if_true, if_false, hc, i1ne, r1, e3, htt]
      exact hq M b q (p_loop_none hs) hf h
theorem c_51 (h160 : n ≤ 160) (hi : RC L xs f n o (d + 6) 52 item) (hok : p_ok f n item) : RC L xs f n o (d + 7) 51 (p_ch f n q_mul item) := by
  intro M Q q c h hq hq2
  rw [en51]
  simp only [↓e51_0, ↓e51_1, ↓e51_4, ↓e51_5, ↓e51_6, ↓e51_8, ↓e51_11, ↓e51_14, ↓e51_15, ↓e51_18, ↓e51_19, ↓e51_22, ↓e51_24, ↓e51_27, ↓e51_28, ↓e51_31, ↓e51_32, ↓e51_35, ↓e51_36, ↓e51_37, ↓e51_39, ↓e51_42, ↓e51_45, ↓e51_48, ↓e51_49, bc1_a, bd1, bd2, bd3, bd4, bd5, bd6, bd7, bd8, bd9, bd10, bd11, bd12, bd13, bd14, bd15, bd16, bd17, bd18, bd19, bd20, bd21, bd22, bd23, bd24, bd25, bd26, bd27, bd28, bd29, bd30, bd31, bd32, bd33, bd34, bd35, bd36, bd37, bd38, bd39, bc1_i, bc1_r, bc1_n, bc1_U, bisA_r, bisA_n, bisA_a, bct_i, bct_r, bct_n, bct_l, bcs_0, bcs_i, bcs_r, bcs_l, bcs_a, brt_0, brt_1, ↓bz0, ↓bz1, true_and, and_true, false_and, and_false, and_self, Nat.reduceAdd, Nat.reduceLeDiff, Nat.reduceSub, Nat.reduceEqDiff, ite_true, ite_false, if_true, if_false, h.1.1]
  refine hi M _ _ _ h (fun M2 b2 q2 e2 f2 h2 => ?_) (fun M2 s e2 f2 h2 => ?_)
  · simp only [↓e51_0, ↓e51_1, ↓e51_4, ↓e51_5, ↓e51_6, ↓e51_8, ↓e51_11, ↓e51_14, ↓e51_15, ↓e51_18, ↓e51_19, ↓e51_22, ↓e51_24, ↓e51_27, ↓e51_28, ↓e51_31, ↓e51_32, ↓e51_35, ↓e51_36, ↓e51_37, ↓e51_39, ↓e51_42, ↓e51_45, ↓e51_48, ↓e51_49, bc1_a, bd1, bd2, bd3, bd4, bd5, bd6, bd7, bd8, bd9, bd10, bd11, bd12, bd13, bd14, bd15, bd16, bd17, bd18, bd19, bd20, bd21, bd22, bd23, bd24, bd25, bd26, bd27, bd28, bd29, bd30, bd31, bd32, bd33, bd34, bd35, bd36, bd37, bd38, bd39, bc1_i, bc1_r, bc1_n, bc1_U, bisA_r, bisA_n, bisA_a, bct_i, bct_r, bct_n, bct_l, bcs_0, bcs_i, bcs_r, bcs_l, bcs_a, brt_0, brt_1, ↓bz0, ↓bz1, true_and, and_true, false_and, and_false, and_self, Nat.reduceAdd, Nat.reduceLeDiff, Nat.reduceSub, Nat.reduceEqDiff, ite_true, ite_false, if_true, if_false]
    refine l_51 h160 hi hok 160 0 (by decide) M M2 Q q2 c b2 f2 h2 ?_ ?_
    · intro M' b' q' e'; exact hq M' b' q' ((p_ch_good e2).trans e')
    · intro M' s e'; exact hq2 M' s ((p_ch_good e2).trans e')
  · have hc : ((0 : Int32) < 160) = True := by simp
    simp only [↓e51_0, ↓e51_1, ↓e51_4, ↓e51_5, ↓e51_6, ↓e51_7, ↓e51_8, ↓e51_11, ↓e51_14, ↓e51_15, ↓e51_18, ↓e51_19, ↓e51_22, ↓e51_24, ↓e51_27, ↓e51_28, ↓e51_31, ↓e51_32, ↓e51_35, ↓e51_36, ↓e51_37, ↓e51_39, ↓e51_42, ↓e51_45, ↓e51_48, ↓e51_49, bc1_a, bd1, bd2, bd3, bd4, bd5, bd6, bd7, bd8, bd9, bd10, bd11, bd12, bd13, bd14, bd15, bd16, bd17, bd18, bd19, bd20, bd21, bd22, bd23, bd24, bd25, bd26, bd27, bd28, bd29, bd30, bd31, bd32, bd33, bd34, bd35, bd36, bd37, bd38, bd39, bc1_i, bc1_r, bc1_n, bc1_U, bisA_r, bisA_n, bisA_a, bct_i, bct_r, bct_n, bct_l, bcs_0, bcs_i, bcs_r, bcs_l, bcs_a, brt_0, brt_1, ↓bz0, ↓bz1, true_and, and_true, false_and, and_false, and_self, Nat.reduceAdd, Nat.reduceLeDiff, Nat.reduceSub, Nat.reduceEqDiff, ite_true, ite_false, if_true, if_false, hc, i0eq]
    exact hq2 M2 s (p_ch_bad e2) f2 h2
theorem l_47 (h160 : n ≤ 160) (hi : RC L xs f n o (d + 6) 48 item) (hok : p_ok f n item) : ∀ (k i : Nat), i + k = 160 → ∀ (M0 M : mm_H) (Q : Option Value → mm_H → Prop) (q : Nat) (c b : List Int32), Fr S57 M0 M → RS f n q o (c ++ b) M → (∀ M' b' q', p_loop f n q_and item k b q = .inl (b', q') → Fr S57 M0 M' → RS f n q' o (c ++ b') M' → Q (some (.int 1)) M') → (∀ M' s, p_loop f n q_and item k b q = .inr s → Fr S57 M0 M' → RF f n s M' → Q (some (.int 0)) M') → Wp L xs (d + 7) 47 7 [.ref 5, .int 1, .int (nI i)] [] M Q := by
  intro k
  induction k with
  | zero =>
    intro i hi0 M0 M Q q c b hf h hq hq2
    have hc := nI_lt0 (a := i) (b := 160) (by omega) (by omega)
    have hc' : (nI i < 160) = False := hc
    rw [e47_7]
    simp only [↓e47_0, ↓e47_1, ↓e47_4, ↓e47_5, ↓e47_6, ↓e47_8, ↓e47_11, ↓e47_14, ↓e47_15, ↓e47_18, ↓e47_19, ↓e47_22, ↓e47_24, ↓e47_27, ↓e47_28, ↓e47_31, ↓e47_32, ↓e47_35, ↓e47_36, ↓e47_37, ↓e47_39, ↓e47_42, ↓e47_45, ↓e47_48, ↓e47_49, bc1_a, bd1, bd2, bd3, bd4, bd5, bd6, bd7, bd8, bd9, bd10, bd11, bd12, bd13, bd14, bd15, bd16, bd17, bd18, bd19, bd20, bd21, bd22, bd23, bd24, bd25, bd26, bd27, bd28, bd29, bd30, bd31, bd32, bd33, bd34, bd35, bd36, bd37, bd38, bd39, bc1_i, bc1_r, bc1_n, bc1_U, bisA_r, bisA_n, bisA_a, bct_i, bct_r, bct_n, bct_l, bcs_0, bcs_i, bcs_r, bcs_l, bcs_a, brt_0, brt_1, ↓bz0, ↓bz1, true_and, and_true, false_and, and_false, and_self, Nat.reduceAdd, Nat.reduceLeDiff, Nat.reduceSub, Nat.reduceEqDiff, ite_true, ite_false, if_true, if_false, hc']
    exact hq M b q rfl hf h
  | succ k ih =>
    intro i hi0 M0 M Q q c b hf h hq hq2
    have hc : (nI i < 160) = True := nI_lt1 (a := i) (b := 160) (by omega) (by omega)
    obtain ⟨r1, -⟩ := id h.1
    have e3 := h.2.2.2.1.2.2.1
    rw [e47_7]
    by_cases ht : t_k f n q = 13
    · have hs : q_and (t_k f n q) = some (-13) := by rw [ht]; rfl
      have htt : (nI (t_k f n q) = 13) = True := t_k_is (by decide) ht
      simp only [↓e47_0, ↓e47_1, ↓e47_4, ↓e47_5, ↓e47_6, ↓e47_8, ↓e47_11, ↓e47_14, ↓e47_15, ↓e47_18, ↓e47_19, ↓e47_22, ↓e47_24, ↓e47_27, ↓e47_28, ↓e47_31, ↓e47_32, ↓e47_35, ↓e47_36, ↓e47_37, ↓e47_39, ↓e47_42, ↓e47_45, ↓e47_48, ↓e47_49, bc1_a, bd1, bd2, bd3, bd4, bd5, bd6, bd7, bd8, bd9, bd10, bd11, bd12, bd13, bd14, bd15, bd16, bd17, bd18, bd19, bd20, bd21, bd22, bd23, bd24, bd25, bd26, bd27, bd28, bd29, bd30, bd31, bd32, bd33, bd34, bd35, bd36, bd37, bd38, bd39, bc1_i, bc1_r, bc1_n, bc1_U, bisA_r, bisA_n, bisA_a, bct_i, bct_r, bct_n, bct_l, bcs_0, bcs_i, bcs_r, bcs_l, bcs_a, brt_0, brt_1, ↓bz0, ↓bz1, true_and, and_true, false_and, and_false, and_self, Nat.reduceAdd, Nat.reduceLeDiff, Nat.reduceSub, Nat.reduceEqDiff, ite_true, ite_false, if_true, if_false, hc, i1ne, r1, e3, htt]
      refine RS.look h160 h rfl (fun M1 f1 h1 => ?_)
      simp only [↓e47_0, ↓e47_1, ↓e47_4, ↓e47_5, ↓e47_6, ↓e47_8, ↓e47_11, ↓e47_14, ↓e47_15, ↓e47_18, ↓e47_19, ↓e47_22, ↓e47_24, ↓e47_27, ↓e47_28, ↓e47_31, ↓e47_32, ↓e47_35, ↓e47_36, ↓e47_37, ↓e47_39, ↓e47_42, ↓e47_45, ↓e47_48, ↓e47_49, bc1_a, bd1, bd2, bd3, bd4, bd5, bd6, bd7, bd8, bd9, bd10, bd11, bd12, bd13, bd14, bd15, bd16, bd17, bd18, bd19, bd20, bd21, bd22, bd23, bd24, bd25, bd26, bd27, bd28, bd29, bd30, bd31, bd32, bd33, bd34, bd35, bd36, bd37, bd38, bd39, bc1_i, bc1_r, bc1_n, bc1_U, bisA_r, bisA_n, bisA_a, bct_i, bct_r, bct_n, bct_l, bcs_0, bcs_i, bcs_r, bcs_l, bcs_a, brt_0, brt_1, ↓bz0, ↓bz1, true_and, and_true, false_and, and_false, and_self, Nat.reduceAdd, Nat.reduceLeDiff, Nat.reduceSub, Nat.reduceEqDiff, ite_true, ite_false, if_true, if_false, h1.1.1]
      refine hi M1 _ _ _ h1 (fun M2 b2 q2 e2 f2 h2 => ?_) (fun M2 s e2 f2 h2 => ?_)
      · have hl := (hok _ h1.2.2.2.2.2.2.2 _ e2).1
        have hlen : (c ++ b ++ b2).length + 1 ≤ q2 := RS.op h2 rfl (by rw [ht]; decide) h.2.2.2.2.2.2.1 hl
        have hq2n : q2 ≤ n := h2.2.2.2.2.2.2.2
        have hw := fun (R : Option Value → mm_H → Prop) => c_write (L := L) (xs := xs) (d := d + 6) (M := M2) (Q := R) (x := -13) h2.1 h2.2.2.2.2.2.1.1 (by omega)
        have h3 := RS.write (x := -13) h2 hlen
        have f3 : Fr S57 M0 (pI (pI M2 7 (c ++ b ++ b2).length (-13)) 5 8 (nI ((c ++ b ++ b2).length + 1))) := ((hf.trans (f1.trans f2)).put2 (Or.inr rfl)).put2 (Or.inl rfl)
        simp only [↓e47_0, ↓e47_1, ↓e47_4, ↓e47_5, ↓e47_6, ↓e47_8, ↓e47_11, ↓e47_14, ↓e47_15, ↓e47_18, ↓e47_19, ↓e47_22, ↓e47_24, ↓e47_27, ↓e47_28, ↓e47_31, ↓e47_32, ↓e47_35, ↓e47_36, ↓e47_37, ↓e47_39, ↓e47_42, ↓e47_45, ↓e47_48, ↓e47_49, bc1_a, bd1, bd2, bd3, bd4, bd5, bd6, bd7, bd8, bd9, bd10, bd11, bd12, bd13, bd14, bd15, bd16, bd17, bd18, bd19, bd20, bd21, bd22, bd23, bd24, bd25, bd26, bd27, bd28, bd29, bd30, bd31, bd32, bd33, bd34, bd35, bd36, bd37, bd38, bd39, bc1_i, bc1_r, bc1_n, bc1_U, bisA_r, bisA_n, bisA_a, bct_i, bct_r, bct_n, bct_l, bcs_0, bcs_i, bcs_r, bcs_l, bcs_a, brt_0, brt_1, ↓bz0, ↓bz1, true_and, and_true, false_and, and_false, and_self, Nat.reduceAdd, Nat.reduceLeDiff, Nat.reduceSub, Nat.reduceEqDiff, ite_true, ite_false, if_true, if_false, h2.1.1, hw, nI_1]
        refine ih (i + 1) (by omega) M0 _ Q q2 c (b ++ b2 ++ [-13]) f3 ?_ ?_ ?_
        · rw [← List.append_assoc, ← List.append_assoc]; exact h3
        · intro M' b' q' e'; exact hq M' b' q' ((p_loop_good hs e2).trans e')
        · intro M' s e'; exact hq2 M' s ((p_loop_good hs e2).trans e')
      · simp only [↓e47_0, ↓e47_1, ↓e47_4, ↓e47_5, ↓e47_6, ↓e47_8, ↓e47_11, ↓e47_14, ↓e47_15, ↓e47_18, ↓e47_19, ↓e47_22, ↓e47_24, ↓e47_27, ↓e47_28, ↓e47_31, ↓e47_32, ↓e47_35, ↓e47_36, ↓e47_37, ↓e47_39, ↓e47_42, ↓e47_45, ↓e47_48, ↓e47_49, bc1_a, bd1, bd2, bd3, bd4, bd5, bd6, bd7, bd8, bd9, bd10, bd11, bd12, bd13, bd14, bd15, bd16, bd17, bd18, bd19, bd20, bd21, bd22, bd23, bd24, bd25, bd26, bd27, bd28, bd29, bd30, bd31, bd32, bd33, bd34, bd35, bd36, bd37, bd38, bd39, bc1_i, bc1_r, bc1_n, bc1_U, bisA_r, bisA_n, bisA_a, bct_i, bct_r, bct_n, bct_l, bcs_0, bcs_i, bcs_r, bcs_l, bcs_a, brt_0, brt_1, ↓bz0, ↓bz1, true_and, and_true, false_and, and_false, and_self, Nat.reduceAdd, Nat.reduceLeDiff, Nat.reduceSub, Nat.reduceEqDiff, ite_true, ite_false, if_true, if_false, h2.1.1]
        obtain ⟨l, hl, hl2⟩ := h2.2.2.2.1
        refine c_writeF h2.1 hl2 hl (fun M3 f3 g6 g5 gl => ?_)
        have h3 := h2.write f3 g6 g5 gl
        have hfin := hq2 M3 s (p_loop_bad hs e2) (hf.trans (f1.trans (f2.trans f3))) h3
        by_cases hc3 : nI (i + 1) < 160
        · simp only [↓e47_0, ↓e47_1, ↓e47_4, ↓e47_5, ↓e47_6, ↓e47_7, ↓e47_8, ↓e47_11, ↓e47_14, ↓e47_15, ↓e47_18, ↓e47_19, ↓e47_22, ↓e47_24, ↓e47_27, ↓e47_28, ↓e47_31, ↓e47_32, ↓e47_35, ↓e47_36, ↓e47_37, ↓e47_39, ↓e47_42, ↓e47_45, ↓e47_48, ↓e47_49, bc1_a, bd1, bd2, bd3, bd4, bd5, bd6, bd7, bd8, bd9, bd10, bd11, bd12, bd13, bd14, bd15, bd16, bd17, bd18, bd19, bd20, bd21, bd22, bd23, bd24, bd25, bd26, bd27, bd28, bd29, bd30, bd31, bd32, bd33, bd34, bd35, bd36, bd37, bd38, bd39, bc1_i, bc1_r, bc1_n, bc1_U, bisA_r, bisA_n, bisA_a, bct_i, bct_r, bct_n, bct_l, bcs_0, bcs_i, bcs_r, bcs_l, bcs_a, brt_0, brt_1, ↓bz0, ↓bz1, true_and, and_true, false_and, and_false, and_self, Nat.reduceAdd, Nat.reduceLeDiff, Nat.reduceSub, Nat.reduceEqDiff, ite_true, ite_false, if_true, if_false, nI_1, hc3, i0eq]; exact hfin
        · simp only [↓e47_0, ↓e47_1, ↓e47_4, ↓e47_5, ↓e47_6, ↓e47_7, ↓e47_8, ↓e47_11, ↓e47_14, ↓e47_15, ↓e47_18, ↓e47_19, ↓e47_22, ↓e47_24, ↓e47_27, ↓e47_28, ↓e47_31, ↓e47_32, ↓e47_35, ↓e47_36, ↓e47_37, ↓e47_39, ↓e47_42, ↓e47_45, ↓e47_48, ↓e47_49, bc1_a, bd1, bd2, bd3, bd4, bd5, bd6, bd7, bd8, bd9, bd10, bd11, bd12, bd13, bd14, bd15, bd16, bd17, bd18, bd19, bd20, bd21, bd22, bd23, bd24, bd25, bd26, bd27, bd28, bd29, bd30, bd31, bd32, bd33, bd34, bd35, bd36, bd37, bd38, bd39, bc1_i, bc1_r, bc1_n, bc1_U, bisA_r, bisA_n, bisA_a, bct_i, bct_r, bct_n, bct_l, bcs_0, bcs_i, bcs_r, bcs_l, bcs_a, brt_0, brt_1, ↓bz0, ↓bz1, true_and, and_true, false_and, and_false, and_self, Nat.reduceAdd, Nat.reduceLeDiff, Nat.reduceSub, Nat.reduceEqDiff, ite_true, ite_false, if_true, if_false, nI_1, hc3, i0eq]; exact hfin
    · have hs : q_and (t_k f n q) = none := if_neg ht
      have htt : (nI (t_k f n q) = 13) = False := t_k_not (by decide) ht
      simp only [↓e47_0, ↓e47_1, ↓e47_4, ↓e47_5, ↓e47_6, ↓e47_8, ↓e47_11, ↓e47_14, ↓e47_15, ↓e47_18, ↓e47_19, ↓e47_22, ↓e47_24, ↓e47_27, ↓e47_28, ↓e47_31, ↓e47_32, ↓e47_35, ↓e47_36, ↓e47_37, ↓e47_39, ↓e47_42, ↓e47_45, ↓e47_48, ↓e47_49, bc1_a, bd1, bd2, bd3, bd4, bd5, bd6, bd7, bd8, bd9, bd10, bd11, bd12, bd13, bd14, bd15, bd16, bd17, bd18, bd19, bd20, bd21, bd22, bd23, bd24, bd25, bd26, bd27, bd28, bd29, bd30, bd31, bd32, bd33, bd34, bd35, bd36, bd37, bd38, bd39, bc1_i, bc1_r, bc1_n, bc1_U, bisA_r, bisA_n, bisA_a, bct_i, bct_r, bct_n, bct_l, bcs_0, bcs_i, bcs_r, bcs_l, bcs_a, brt_0, brt_1, ↓bz0, ↓bz1, true_and, and_true, false_and, and_false, and_self, Nat.reduceAdd, Nat.reduceLeDiff, Nat.reduceSub, Nat.reduceEqDiff, ite_true, ite_false, if_true, if_false, hc, i1ne, r1, e3, htt]
      exact hq M b q (p_loop_none hs) hf h
theorem c_47 (h160 : n ≤ 160) (hi : RC L xs f n o (d + 6) 48 item) (hok : p_ok f n item) : RC L xs f n o (d + 7) 47 (p_ch f n q_and item) := by
  intro M Q q c h hq hq2
  rw [en47]
  simp only [↓e47_0, ↓e47_1, ↓e47_4, ↓e47_5, ↓e47_6, ↓e47_8, ↓e47_11, ↓e47_14, ↓e47_15, ↓e47_18, ↓e47_19, ↓e47_22, ↓e47_24, ↓e47_27, ↓e47_28, ↓e47_31, ↓e47_32, ↓e47_35, ↓e47_36, ↓e47_37, ↓e47_39, ↓e47_42, ↓e47_45, ↓e47_48, ↓e47_49, bc1_a, bd1, bd2, bd3, bd4, bd5, bd6, bd7, bd8, bd9, bd10, bd11, bd12, bd13, bd14, bd15, bd16, bd17, bd18, bd19, bd20, bd21, bd22, bd23, bd24, bd25, bd26, bd27, bd28, bd29, bd30, bd31, bd32, bd33, bd34, bd35, bd36, bd37, bd38, bd39, bc1_i, bc1_r, bc1_n, bc1_U, bisA_r, bisA_n, bisA_a, bct_i, bct_r, bct_n, bct_l, bcs_0, bcs_i, bcs_r, bcs_l, bcs_a, brt_0, brt_1, ↓bz0, ↓bz1, true_and, and_true, false_and, and_false, and_self, Nat.reduceAdd, Nat.reduceLeDiff, Nat.reduceSub, Nat.reduceEqDiff, ite_true, ite_false, if_true, if_false, h.1.1]
  refine hi M _ _ _ h (fun M2 b2 q2 e2 f2 h2 => ?_) (fun M2 s e2 f2 h2 => ?_)
  · simp only [↓e47_0, ↓e47_1, ↓e47_4, ↓e47_5, ↓e47_6, ↓e47_8, ↓e47_11, ↓e47_14, ↓e47_15, ↓e47_18, ↓e47_19, ↓e47_22, ↓e47_24, ↓e47_27, ↓e47_28, ↓e47_31, ↓e47_32, ↓e47_35, ↓e47_36, ↓e47_37, ↓e47_39, ↓e47_42, ↓e47_45, ↓e47_48, ↓e47_49, bc1_a, bd1, bd2, bd3, bd4, bd5, bd6, bd7, bd8, bd9, bd10, bd11, bd12, bd13, bd14, bd15, bd16, bd17, bd18, bd19, bd20, bd21, bd22, bd23, bd24, bd25, bd26, bd27, bd28, bd29, bd30, bd31, bd32, bd33, bd34, bd35, bd36, bd37, bd38, bd39, bc1_i, bc1_r, bc1_n, bc1_U, bisA_r, bisA_n, bisA_a, bct_i, bct_r, bct_n, bct_l, bcs_0, bcs_i, bcs_r, bcs_l, bcs_a, brt_0, brt_1, ↓bz0, ↓bz1, true_and, and_true, false_and, and_false, and_self, Nat.reduceAdd, Nat.reduceLeDiff, Nat.reduceSub, Nat.reduceEqDiff, ite_true, ite_false, if_true, if_false]
    refine l_47 h160 hi hok 160 0 (by decide) M M2 Q q2 c b2 f2 h2 ?_ ?_
    · intro M' b' q' e'; exact hq M' b' q' ((p_ch_good e2).trans e')
    · intro M' s e'; exact hq2 M' s ((p_ch_good e2).trans e')
  · have hc : ((0 : Int32) < 160) = True := by simp
    simp only [↓e47_0, ↓e47_1, ↓e47_4, ↓e47_5, ↓e47_6, ↓e47_7, ↓e47_8, ↓e47_11, ↓e47_14, ↓e47_15, ↓e47_18, ↓e47_19, ↓e47_22, ↓e47_24, ↓e47_27, ↓e47_28, ↓e47_31, ↓e47_32, ↓e47_35, ↓e47_36, ↓e47_37, ↓e47_39, ↓e47_42, ↓e47_45, ↓e47_48, ↓e47_49, bc1_a, bd1, bd2, bd3, bd4, bd5, bd6, bd7, bd8, bd9, bd10, bd11, bd12, bd13, bd14, bd15, bd16, bd17, bd18, bd19, bd20, bd21, bd22, bd23, bd24, bd25, bd26, bd27, bd28, bd29, bd30, bd31, bd32, bd33, bd34, bd35, bd36, bd37, bd38, bd39, bc1_i, bc1_r, bc1_n, bc1_U, bisA_r, bisA_n, bisA_a, bct_i, bct_r, bct_n, bct_l, bcs_0, bcs_i, bcs_r, bcs_l, bcs_a, brt_0, brt_1, ↓bz0, ↓bz1, true_and, and_true, false_and, and_false, and_self, Nat.reduceAdd, Nat.reduceLeDiff, Nat.reduceSub, Nat.reduceEqDiff, ite_true, ite_false, if_true, if_false, hc, i0eq]
    exact hq2 M2 s (p_ch_bad e2) f2 h2
theorem l_46 (h160 : n ≤ 160) (hi : RC L xs f n o (d + 6) 47 item) (hok : p_ok f n item) : ∀ (k i : Nat), i + k = 160 → ∀ (M0 M : mm_H) (Q : Option Value → mm_H → Prop) (q : Nat) (c b : List Int32), Fr S57 M0 M → RS f n q o (c ++ b) M → (∀ M' b' q', p_loop f n q_or item k b q = .inl (b', q') → Fr S57 M0 M' → RS f n q' o (c ++ b') M' → Q (some (.int 1)) M') → (∀ M' s, p_loop f n q_or item k b q = .inr s → Fr S57 M0 M' → RF f n s M' → Q (some (.int 0)) M') → Wp L xs (d + 7) 46 7 [.ref 5, .int 1, .int (nI i)] [] M Q := by
  intro k
  induction k with
  | zero =>
    intro i hi0 M0 M Q q c b hf h hq hq2
    have hc := nI_lt0 (a := i) (b := 160) (by omega) (by omega)
    have hc' : (nI i < 160) = False := hc
    rw [e46_7]
    simp only [↓e46_0, ↓e46_1, ↓e46_4, ↓e46_5, ↓e46_6, ↓e46_8, ↓e46_11, ↓e46_14, ↓e46_15, ↓e46_18, ↓e46_19, ↓e46_22, ↓e46_24, ↓e46_27, ↓e46_28, ↓e46_31, ↓e46_32, ↓e46_35, ↓e46_36, ↓e46_37, ↓e46_39, ↓e46_42, ↓e46_45, ↓e46_48, ↓e46_49, bc1_a, bd1, bd2, bd3, bd4, bd5, bd6, bd7, bd8, bd9, bd10, bd11, bd12, bd13, bd14, bd15, bd16, bd17, bd18, bd19, bd20, bd21, bd22, bd23, bd24, bd25, bd26, bd27, bd28, bd29, bd30, bd31, bd32, bd33, bd34, bd35, bd36, bd37, bd38, bd39, bc1_i, bc1_r, bc1_n, bc1_U, bisA_r, bisA_n, bisA_a, bct_i, bct_r, bct_n, bct_l, bcs_0, bcs_i, bcs_r, bcs_l, bcs_a, brt_0, brt_1, ↓bz0, ↓bz1, true_and, and_true, false_and, and_false, and_self, Nat.reduceAdd, Nat.reduceLeDiff, Nat.reduceSub, Nat.reduceEqDiff, ite_true, ite_false, if_true, if_false, hc']
    exact hq M b q rfl hf h
  | succ k ih =>
    intro i hi0 M0 M Q q c b hf h hq hq2
    have hc : (nI i < 160) = True := nI_lt1 (a := i) (b := 160) (by omega) (by omega)
    obtain ⟨r1, -⟩ := id h.1
    have e3 := h.2.2.2.1.2.2.1
    rw [e46_7]
    by_cases ht : t_k f n q = 12
    · have hs : q_or (t_k f n q) = some (-12) := by rw [ht]; rfl
      have htt : (nI (t_k f n q) = 12) = True := t_k_is (by decide) ht
      simp only [↓e46_0, ↓e46_1, ↓e46_4, ↓e46_5, ↓e46_6, ↓e46_8, ↓e46_11, ↓e46_14, ↓e46_15, ↓e46_18, ↓e46_19, ↓e46_22, ↓e46_24, ↓e46_27, ↓e46_28, ↓e46_31, ↓e46_32, ↓e46_35, ↓e46_36, ↓e46_37, ↓e46_39, ↓e46_42, ↓e46_45, ↓e46_48, ↓e46_49, bc1_a, bd1, bd2, bd3, bd4, bd5, bd6, bd7, bd8, bd9, bd10, bd11, bd12, bd13, bd14, bd15, bd16, bd17, bd18, bd19, bd20, bd21, bd22, bd23, bd24, bd25, bd26, bd27, bd28, bd29, bd30, bd31, bd32, bd33, bd34, bd35, bd36, bd37, bd38, bd39, bc1_i, bc1_r, bc1_n, bc1_U, bisA_r, bisA_n, bisA_a, bct_i, bct_r, bct_n, bct_l, bcs_0, bcs_i, bcs_r, bcs_l, bcs_a, brt_0, brt_1, ↓bz0, ↓bz1, true_and, and_true, false_and, and_false, and_self, Nat.reduceAdd, Nat.reduceLeDiff, Nat.reduceSub, Nat.reduceEqDiff, ite_true, ite_false, if_true, if_false, hc, i1ne, r1, e3, htt]
      refine RS.look h160 h rfl (fun M1 f1 h1 => ?_)
      simp only [↓e46_0, ↓e46_1, ↓e46_4, ↓e46_5, ↓e46_6, ↓e46_8, ↓e46_11, ↓e46_14, ↓e46_15, ↓e46_18, ↓e46_19, ↓e46_22, ↓e46_24, ↓e46_27, ↓e46_28, ↓e46_31, ↓e46_32, ↓e46_35, ↓e46_36, ↓e46_37, ↓e46_39, ↓e46_42, ↓e46_45, ↓e46_48, ↓e46_49, bc1_a, bd1, bd2, bd3, bd4, bd5, bd6, bd7, bd8, bd9, bd10, bd11, bd12, bd13, bd14, bd15, bd16, bd17, bd18, bd19, bd20, bd21, bd22, bd23, bd24, bd25, bd26, bd27, bd28, bd29, bd30, bd31, bd32, bd33, bd34, bd35, bd36, bd37, bd38, bd39, bc1_i, bc1_r, bc1_n, bc1_U, bisA_r, bisA_n, bisA_a, bct_i, bct_r, bct_n, bct_l, bcs_0, bcs_i, bcs_r, bcs_l, bcs_a, brt_0, brt_1, ↓bz0, ↓bz1, true_and, and_true, false_and, and_false, and_self, Nat.reduceAdd, Nat.reduceLeDiff, Nat.reduceSub, Nat.reduceEqDiff, ite_true, ite_false, if_true, if_false, h1.1.1]
      refine hi M1 _ _ _ h1 (fun M2 b2 q2 e2 f2 h2 => ?_) (fun M2 s e2 f2 h2 => ?_)
      · have hl := (hok _ h1.2.2.2.2.2.2.2 _ e2).1
        have hlen : (c ++ b ++ b2).length + 1 ≤ q2 := RS.op h2 rfl (by rw [ht]; decide) h.2.2.2.2.2.2.1 hl
        have hq2n : q2 ≤ n := h2.2.2.2.2.2.2.2
        have hw := fun (R : Option Value → mm_H → Prop) => c_write (L := L) (xs := xs) (d := d + 6) (M := M2) (Q := R) (x := -12) h2.1 h2.2.2.2.2.2.1.1 (by omega)
        have h3 := RS.write (x := -12) h2 hlen
        have f3 : Fr S57 M0 (pI (pI M2 7 (c ++ b ++ b2).length (-12)) 5 8 (nI ((c ++ b ++ b2).length + 1))) := ((hf.trans (f1.trans f2)).put2 (Or.inr rfl)).put2 (Or.inl rfl)
        simp only [↓e46_0, ↓e46_1, ↓e46_4, ↓e46_5, ↓e46_6, ↓e46_8, ↓e46_11, ↓e46_14, ↓e46_15, ↓e46_18, ↓e46_19, ↓e46_22, ↓e46_24, ↓e46_27, ↓e46_28, ↓e46_31, ↓e46_32, ↓e46_35, ↓e46_36, ↓e46_37, ↓e46_39, ↓e46_42, ↓e46_45, ↓e46_48, ↓e46_49, bc1_a, bd1, bd2, bd3, bd4, bd5, bd6, bd7, bd8, bd9, bd10, bd11, bd12, bd13, bd14, bd15, bd16, bd17, bd18, bd19, bd20, bd21, bd22, bd23, bd24, bd25, bd26, bd27, bd28, bd29, bd30, bd31, bd32, bd33, bd34, bd35, bd36, bd37, bd38, bd39, bc1_i, bc1_r, bc1_n, bc1_U, bisA_r, bisA_n, bisA_a, bct_i, bct_r, bct_n, bct_l, bcs_0, bcs_i, bcs_r, bcs_l, bcs_a, brt_0, brt_1, ↓bz0, ↓bz1, true_and, and_true, false_and, and_false, and_self, Nat.reduceAdd, Nat.reduceLeDiff, Nat.reduceSub, Nat.reduceEqDiff, ite_true, ite_false, if_true, if_false, h2.1.1, hw, nI_1]
        refine ih (i + 1) (by omega) M0 _ Q q2 c (b ++ b2 ++ [-12]) f3 ?_ ?_ ?_
        · rw [← List.append_assoc, ← List.append_assoc]; exact h3
        · intro M' b' q' e'; exact hq M' b' q' ((p_loop_good hs e2).trans e')
        · intro M' s e'; exact hq2 M' s ((p_loop_good hs e2).trans e')
      · simp only [↓e46_0, ↓e46_1, ↓e46_4, ↓e46_5, ↓e46_6, ↓e46_8, ↓e46_11, ↓e46_14, ↓e46_15, ↓e46_18, ↓e46_19, ↓e46_22, ↓e46_24, ↓e46_27, ↓e46_28, ↓e46_31, ↓e46_32, ↓e46_35, ↓e46_36, ↓e46_37, ↓e46_39, ↓e46_42, ↓e46_45, ↓e46_48, ↓e46_49, bc1_a, bd1, bd2, bd3, bd4, bd5, bd6, bd7, bd8, bd9, bd10, bd11, bd12, bd13, bd14, bd15, bd16, bd17, bd18, bd19, bd20, bd21, bd22, bd23, bd24, bd25, bd26, bd27, bd28, bd29, bd30, bd31, bd32, bd33, bd34, bd35, bd36, bd37, bd38, bd39, bc1_i, bc1_r, bc1_n, bc1_U, bisA_r, bisA_n, bisA_a, bct_i, bct_r, bct_n, bct_l, bcs_0, bcs_i, bcs_r, bcs_l, bcs_a, brt_0, brt_1, ↓bz0, ↓bz1, true_and, and_true, false_and, and_false, and_self, Nat.reduceAdd, Nat.reduceLeDiff, Nat.reduceSub, Nat.reduceEqDiff, ite_true, ite_false, if_true, if_false, h2.1.1]
        obtain ⟨l, hl, hl2⟩ := h2.2.2.2.1
        refine c_writeF h2.1 hl2 hl (fun M3 f3 g6 g5 gl => ?_)
        have h3 := h2.write f3 g6 g5 gl
        have hfin := hq2 M3 s (p_loop_bad hs e2) (hf.trans (f1.trans (f2.trans f3))) h3
        by_cases hc3 : nI (i + 1) < 160
        · simp only [↓e46_0, ↓e46_1, ↓e46_4, ↓e46_5, ↓e46_6, ↓e46_7, ↓e46_8, ↓e46_11, ↓e46_14, ↓e46_15, ↓e46_18, ↓e46_19, ↓e46_22, ↓e46_24, ↓e46_27, ↓e46_28, ↓e46_31, ↓e46_32, ↓e46_35, ↓e46_36, ↓e46_37, ↓e46_39, ↓e46_42, ↓e46_45, ↓e46_48, ↓e46_49, bc1_a, bd1, bd2, bd3, bd4, bd5, bd6, bd7, bd8, bd9, bd10, bd11, bd12, bd13, bd14, bd15, bd16, bd17, bd18, bd19, bd20, bd21, bd22, bd23, bd24, bd25, bd26, bd27, bd28, bd29, bd30, bd31, bd32, bd33, bd34, bd35, bd36, bd37, bd38, bd39, bc1_i, bc1_r, bc1_n, bc1_U, bisA_r, bisA_n, bisA_a, bct_i, bct_r, bct_n, bct_l, bcs_0, bcs_i, bcs_r, bcs_l, bcs_a, brt_0, brt_1, ↓bz0, ↓bz1, true_and, and_true, false_and, and_false, and_self, Nat.reduceAdd, Nat.reduceLeDiff, Nat.reduceSub, Nat.reduceEqDiff, ite_true, ite_false, if_true, if_false, nI_1, hc3, i0eq]; exact hfin
        · simp only [↓e46_0, ↓e46_1, ↓e46_4, ↓e46_5, ↓e46_6, ↓e46_7, ↓e46_8, ↓e46_11, ↓e46_14, ↓e46_15, ↓e46_18, ↓e46_19, ↓e46_22, ↓e46_24, ↓e46_27, ↓e46_28, ↓e46_31, ↓e46_32, ↓e46_35, ↓e46_36, ↓e46_37, ↓e46_39, ↓e46_42, ↓e46_45, ↓e46_48, ↓e46_49, bc1_a, bd1, bd2, bd3, bd4, bd5, bd6, bd7, bd8, bd9, bd10, bd11, bd12, bd13, bd14, bd15, bd16, bd17, bd18, bd19, bd20, bd21, bd22, bd23, bd24, bd25, bd26, bd27, bd28, bd29, bd30, bd31, bd32, bd33, bd34, bd35, bd36, bd37, bd38, bd39, bc1_i, bc1_r, bc1_n, bc1_U, bisA_r, bisA_n, bisA_a, bct_i, bct_r, bct_n, bct_l, bcs_0, bcs_i, bcs_r, bcs_l, bcs_a, brt_0, brt_1, ↓bz0, ↓bz1, true_and, and_true, false_and, and_false, and_self, Nat.reduceAdd, Nat.reduceLeDiff, Nat.reduceSub, Nat.reduceEqDiff, ite_true, ite_false, if_true, if_false, nI_1, hc3, i0eq]; exact hfin
    · have hs : q_or (t_k f n q) = none := if_neg ht
      have htt : (nI (t_k f n q) = 12) = False := t_k_not (by decide) ht
      simp only [↓e46_0, ↓e46_1, ↓e46_4, ↓e46_5, ↓e46_6, ↓e46_8, ↓e46_11, ↓e46_14, ↓e46_15, ↓e46_18, ↓e46_19, ↓e46_22, ↓e46_24, ↓e46_27, ↓e46_28, ↓e46_31, ↓e46_32, ↓e46_35, ↓e46_36, ↓e46_37, ↓e46_39, ↓e46_42, ↓e46_45, ↓e46_48, ↓e46_49, bc1_a, bd1, bd2, bd3, bd4, bd5, bd6, bd7, bd8, bd9, bd10, bd11, bd12, bd13, bd14, bd15, bd16, bd17, bd18, bd19, bd20, bd21, bd22, bd23, bd24, bd25, bd26, bd27, bd28, bd29, bd30, bd31, bd32, bd33, bd34, bd35, bd36, bd37, bd38, bd39, bc1_i, bc1_r, bc1_n, bc1_U, bisA_r, bisA_n, bisA_a, bct_i, bct_r, bct_n, bct_l, bcs_0, bcs_i, bcs_r, bcs_l, bcs_a, brt_0, brt_1, ↓bz0, ↓bz1, true_and, and_true, false_and, and_false, and_self, Nat.reduceAdd, Nat.reduceLeDiff, Nat.reduceSub, Nat.reduceEqDiff, ite_true, ite_false, if_true, if_false, hc, i1ne, r1, e3, htt]
      exact hq M b q (p_loop_none hs) hf h
theorem c_46 (h160 : n ≤ 160) (hi : RC L xs f n o (d + 6) 47 item) (hok : p_ok f n item) : RC L xs f n o (d + 7) 46 (p_ch f n q_or item) := by
  intro M Q q c h hq hq2
  rw [en46]
  simp only [↓e46_0, ↓e46_1, ↓e46_4, ↓e46_5, ↓e46_6, ↓e46_8, ↓e46_11, ↓e46_14, ↓e46_15, ↓e46_18, ↓e46_19, ↓e46_22, ↓e46_24, ↓e46_27, ↓e46_28, ↓e46_31, ↓e46_32, ↓e46_35, ↓e46_36, ↓e46_37, ↓e46_39, ↓e46_42, ↓e46_45, ↓e46_48, ↓e46_49, bc1_a, bd1, bd2, bd3, bd4, bd5, bd6, bd7, bd8, bd9, bd10, bd11, bd12, bd13, bd14, bd15, bd16, bd17, bd18, bd19, bd20, bd21, bd22, bd23, bd24, bd25, bd26, bd27, bd28, bd29, bd30, bd31, bd32, bd33, bd34, bd35, bd36, bd37, bd38, bd39, bc1_i, bc1_r, bc1_n, bc1_U, bisA_r, bisA_n, bisA_a, bct_i, bct_r, bct_n, bct_l, bcs_0, bcs_i, bcs_r, bcs_l, bcs_a, brt_0, brt_1, ↓bz0, ↓bz1, true_and, and_true, false_and, and_false, and_self, Nat.reduceAdd, Nat.reduceLeDiff, Nat.reduceSub, Nat.reduceEqDiff, ite_true, ite_false, if_true, if_false, h.1.1]
  refine hi M _ _ _ h (fun M2 b2 q2 e2 f2 h2 => ?_) (fun M2 s e2 f2 h2 => ?_)
  · simp only [↓e46_0, ↓e46_1, ↓e46_4, ↓e46_5, ↓e46_6, ↓e46_8, ↓e46_11, ↓e46_14, ↓e46_15, ↓e46_18, ↓e46_19, ↓e46_22, ↓e46_24, ↓e46_27, ↓e46_28, ↓e46_31, ↓e46_32, ↓e46_35, ↓e46_36, ↓e46_37, ↓e46_39, ↓e46_42, ↓e46_45, ↓e46_48, ↓e46_49, bc1_a, bd1, bd2, bd3, bd4, bd5, bd6, bd7, bd8, bd9, bd10, bd11, bd12, bd13, bd14, bd15, bd16, bd17, bd18, bd19, bd20, bd21, bd22, bd23, bd24, bd25, bd26, bd27, bd28, bd29, bd30, bd31, bd32, bd33, bd34, bd35, bd36, bd37, bd38, bd39, bc1_i, bc1_r, bc1_n, bc1_U, bisA_r, bisA_n, bisA_a, bct_i, bct_r, bct_n, bct_l, bcs_0, bcs_i, bcs_r, bcs_l, bcs_a, brt_0, brt_1, ↓bz0, ↓bz1, true_and, and_true, false_and, and_false, and_self, Nat.reduceAdd, Nat.reduceLeDiff, Nat.reduceSub, Nat.reduceEqDiff, ite_true, ite_false, if_true, if_false]
    refine l_46 h160 hi hok 160 0 (by decide) M M2 Q q2 c b2 f2 h2 ?_ ?_
    · intro M' b' q' e'; exact hq M' b' q' ((p_ch_good e2).trans e')
    · intro M' s e'; exact hq2 M' s ((p_ch_good e2).trans e')
  · have hc : ((0 : Int32) < 160) = True := by simp
    simp only [↓e46_0, ↓e46_1, ↓e46_4, ↓e46_5, ↓e46_6, ↓e46_7, ↓e46_8, ↓e46_11, ↓e46_14, ↓e46_15, ↓e46_18, ↓e46_19, ↓e46_22, ↓e46_24, ↓e46_27, ↓e46_28, ↓e46_31, ↓e46_32, ↓e46_35, ↓e46_36, ↓e46_37, ↓e46_39, ↓e46_42, ↓e46_45, ↓e46_48, ↓e46_49, bc1_a, bd1, bd2, bd3, bd4, bd5, bd6, bd7, bd8, bd9, bd10, bd11, bd12, bd13, bd14, bd15, bd16, bd17, bd18, bd19, bd20, bd21, bd22, bd23, bd24, bd25, bd26, bd27, bd28, bd29, bd30, bd31, bd32, bd33, bd34, bd35, bd36, bd37, bd38, bd39, bc1_i, bc1_r, bc1_n, bc1_U, bisA_r, bisA_n, bisA_a, bct_i, bct_r, bct_n, bct_l, bcs_0, bcs_i, bcs_r, bcs_l, bcs_a, brt_0, brt_1, ↓bz0, ↓bz1, true_and, and_true, false_and, and_false, and_self, Nat.reduceAdd, Nat.reduceLeDiff, Nat.reduceSub, Nat.reduceEqDiff, ite_true, ite_false, if_true, if_false, hc, i0eq]
    exact hq2 M2 s (p_ch_bad e2) f2 h2
end
