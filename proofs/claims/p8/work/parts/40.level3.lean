/-! THE READER: levels (3) -/
section
variable {L : Nat} {xs : Nat → Int32} {d : Nat} {M : mm_H} {Q : Option Value → mm_H → Prop} {f : Nat → Int32} {n o : Nat} {item : Nat → PR}
def s_nm (x : Int32) : Int32 := if x < 3 then 0 else if 8 < x then 0 else 1
theorem c_isName {x : Int32} : Call L xs d 74 [.int x] M Q = Q (some (.int (s_nm x))) M := by
  rw [en74]
  unfold s_nm
  by_cases h : x < 3
  · simp only [↓e74_0, ↓e74_1, ↓e74_2, ↓e74_5, ↓e74_6, ↓e74_8, ↓e74_11, ↓e74_12, ↓e74_15, ↓e74_16, bc1_a, bd1, bd2, bd3, bd4, bd5, bd6, bd7, bd8, bd9, bd10, bd11, bd12, bd13, bd14, bd15, bd16, bd17, bd18, bd19, bd20, bd21, bd22, bd23, bd24, bd25, bd26, bd27, bd28, bd29, bd30, bd31, bd32, bd33, bd34, bd35, bd36, bd37, bd38, bd39, bc1_i, bc1_r, bc1_n, bc1_U, bisA_r, bisA_n, bisA_a, bct_i, bct_r, bct_n, bct_l, bcs_0, bcs_i, bcs_r, bcs_l, bcs_a, brt_0, brt_1, ↓bz0, ↓bz1, true_and, and_true, false_and, and_false, and_self, Nat.reduceAdd, Nat.reduceLeDiff, Nat.reduceSub, Nat.reduceEqDiff, ite_true, ite_false, if_true, if_false, h]
  · by_cases h2 : 8 < x
    · simp only [↓e74_0, ↓e74_1, ↓e74_2, ↓e74_5, ↓e74_6, ↓e74_8, ↓e74_11, ↓e74_12, ↓e74_15, ↓e74_16, bc1_a, bd1, bd2, bd3, bd4, bd5, bd6, bd7, bd8, bd9, bd10, bd11, bd12, bd13, bd14, bd15, bd16, bd17, bd18, bd19, bd20, bd21, bd22, bd23, bd24, bd25, bd26, bd27, bd28, bd29, bd30, bd31, bd32, bd33, bd34, bd35, bd36, bd37, bd38, bd39, bc1_i, bc1_r, bc1_n, bc1_U, bisA_r, bisA_n, bisA_a, bct_i, bct_r, bct_n, bct_l, bcs_0, bcs_i, bcs_r, bcs_l, bcs_a, brt_0, brt_1, ↓bz0, ↓bz1, true_and, and_true, false_and, and_false, and_self, Nat.reduceAdd, Nat.reduceLeDiff, Nat.reduceSub, Nat.reduceEqDiff, ite_true, ite_false, if_true, if_false, h, h2]
    · simp only [↓e74_0, ↓e74_1, ↓e74_2, ↓e74_5, ↓e74_6, ↓e74_8, ↓e74_11, ↓e74_12, ↓e74_15, ↓e74_16, bc1_a, bd1, bd2, bd3, bd4, bd5, bd6, bd7, bd8, bd9, bd10, bd11, bd12, bd13, bd14, bd15, bd16, bd17, bd18, bd19, bd20, bd21, bd22, bd23, bd24, bd25, bd26, bd27, bd28, bd29, bd30, bd31, bd32, bd33, bd34, bd35, bd36, bd37, bd38, bd39, bc1_i, bc1_r, bc1_n, bc1_U, bisA_r, bisA_n, bisA_a, bct_i, bct_r, bct_n, bct_l, bcs_0, bcs_i, bcs_r, bcs_l, bcs_a, brt_0, brt_1, ↓bz0, ↓bz1, true_and, and_true, false_and, and_false, and_self, Nat.reduceAdd, Nat.reduceLeDiff, Nat.reduceSub, Nat.reduceEqDiff, ite_true, ite_false, if_true, if_false, h, h2]
theorem nm_yes {t : Nat} (h : 3 ≤ t ∧ t ≤ 8) : s_nm (nI t) = 1 := by
  unfold s_nm
  rw [if_neg (show ¬ nI t < 3 from nI_nlt (b := 3) h.1 (by omega)), if_neg (show ¬ 8 < nI t from nI_nlt (a := 8) h.2 (by decide))]
theorem nm_no {t : Nat} (h : ¬ (3 ≤ t ∧ t ≤ 8)) (ht : t < 2147483648) : s_nm (nI t) = 0 := by
  unfold s_nm
  rcases Nat.lt_or_ge t 3 with q | q
  · rw [if_pos (show nI t < 3 from nI_lt (b := 3) q (by decide))]
  · rw [if_neg (show ¬ nI t < 3 from nI_nlt (b := 3) q (by omega)), if_pos (show 8 < nI t from nI_lt (a := 8) (by omega) (by omega))]
theorem RS.opn {q o2 : Nat} {c : List Int32} {M : mm_H} (h : RS f n q o c M) : RS f n q o2 c (pI M 5 6 (nI o2)) := by
  obtain ⟨a1, a2, a3, a4, a5, a6, a7, a8⟩ := h
  have g : ∀ k, k ≠ 6 → gI (pI M 5 6 (nI o2)) 5 k = gI M 5 k := fun k hk => by
    rw [gI_p, if_neg (fun z => hk z.2)]
  refine ⟨a1, ?_, ?_, ⟨?_, ?_, ?_, ?_⟩, ?_, ⟨?_, ?_⟩, a7, a8⟩
  · rw [gI_pf (by decide)]; exact a2
  · rw [g 1 (by decide)]; exact a3
  · rw [g 2 (by decide)]; exact a4.1
  · rw [g 4 (by decide)]; exact a4.2.1
  · rw [g 3 (by decide)]; exact a4.2.2.1
  · rw [g 5 (by decide)]; exact a4.2.2.2
  · rw [gI_p, if_pos ⟨rfl, rfl⟩]
  · rw [g 8 (by decide)]; exact a6.1
  · intro i hi; rw [gI_pf (by decide)]; exact a6.2 i hi
theorem RF.opn {s : Nat} {x : Int32} {M : mm_H} (h : RF f n s M) : RF f n s (pI M 5 6 x) := by
  obtain ⟨a1, a2, a3, a4, a5⟩ := h
  have g : ∀ k, k ≠ 6 → gI (pI M 5 6 x) 5 k = gI M 5 k := fun k hk => by
    rw [gI_p, if_neg (fun z => hk z.2)]
  refine ⟨a1, ?_, ?_, ?_, ?_⟩
  · rw [gI_pf (by decide)]; exact a2
  · rw [g 1 (by decide)]; exact a3
  · rw [g 8 (by decide)]; exact a4
  · rw [g 4 (by decide)]; exact a5
/-- writing, then looking -/
theorem RS.wlook {q : Nat} {c : List Int32} {x : Int32} {M : mm_H} (h160 : n ≤ 160) (h : RS f n q o c M) (hk : t_k f n q ≠ 0) {Q : Option Value → mm_H → Prop} (hq : ∀ M', Fr S57 M M' → RS f n (t_e f n q) o (c ++ [x]) M' → Q none M') : Call L xs (d + 6) 55 [.ref 5] (pI (pI M 7 c.length x) 5 8 (nI (c.length + 1))) Q := by
  obtain ⟨a1, a2, a3, a4, a5, a6, a7, a8⟩ := h
  have hle := t_e_le (f := f) a8
  have hge := Nat.lt_of_le_of_lt (t_s_ge (f := f) (n := n) q) (t_k_gt hk)
  have g : ∀ k, k ≠ 8 → gI (pI (pI M 7 c.length x) 5 8 (nI (c.length + 1))) 5 k = gI M 5 k := fun k hk => by
    rw [gI_p, if_neg (fun z => hk z.2), gI_pf (by decide)]
  have g6 : gI (pI (pI M 7 c.length x) 5 8 (nI (c.length + 1))) 6 = f := by
    rw [gI_pf (by decide), gI_pf (by decide)]; exact a2
  refine c_look (M := pI (pI M 7 c.length x) 5 8 (nI (c.length + 1))) a1 ((g 1 (by decide)).trans a3) h160 hle ((g 2 (by decide)).trans a4.1) (fun M' g1 g2 => ?_)
  rw [g6] at g2
  have hf : Fr S57 M M' := ((Fr.put (Or.inr rfl)).put2 (Or.inl rfl)).trans (g1.fr (Or.inl rfl))
  refine hq M' hf ⟨a1.fr hf, ?_, ?_, g2, ?_, ⟨?_, ?_⟩, ?_, hle⟩
  · rw [← g6]; funext k; exact g1.2.2 6 k (by omega)
  · rw [g1.2.2 5 1 (by omega), g 1 (by decide)]; exact a3
  · rw [g1.2.2 5 6 (by omega), g 6 (by decide)]; exact a5
  · rw [g1.2.2 5 8 (by omega), gI_p, if_pos ⟨rfl, rfl⟩, List.length_append]; rfl
  · intro i hi
    rw [List.length_append] at hi
    have hi2 : i < c.length + 1 := hi
    rw [g1.2.2 7 i (by omega), gI_pf (by decide), gI_p]
    by_cases e : i = c.length
    · rw [if_pos ⟨rfl, e⟩, e]; simp
    · rw [if_neg (fun z => e z.2), a6.2 i (by omega)]
      simp [List.getD_eq_getElem?_getD, List.getElem?_append_left (show i < c.length by omega)]
  · rw [List.length_append]; show c.length + 1 ≤ _; omega
theorem RS.op1 {q q2 o2 : Nat} {c b2 : List Int32} {M : mm_H} (h : RS f n q2 o2 (c ++ b2) M) (hk : t_k f n q ≠ 0) (hc : c.length ≤ q) (hl : b2.length + t_s f n (t_e f n q) ≤ q2) : (c ++ b2).length + 1 ≤ q2 := by
  have h1 := t_k_gt hk
  have h2 := t_s_ge (f := f) (n := n) q
  have h3 := t_s_ge (f := f) (n := n) (t_e f n q)
  rw [List.length_append]
  omega
theorem c_48 {r : Nat} {inn one : Nat → PR} (h160 : n ≤ 160) (hr : r + o = 5) (hn : 0 < r → RC L xs f n (o + 1) (d + 6) 48 inn) (hok : 0 < r → p_ok f n inn) (hone : RC L xs f n o (d + 6) 49 (p_cmp f n one)) : RC L xs f n o (d + 7) 48 (p_not f n r inn one) := by
  intro M Q q c h hq hq2
  rw [en48]
  have e3 := h.2.2.2.1.2.2.1
  have e6 := h.2.2.2.2.1
  by_cases ht : t_k f n q = 14
  · have htt : (nI (t_k f n q) = 14) = True := t_k_is (by decide) ht
    by_cases h0 : 0 < r
    · have ho : (nI o < 5) = True := nI_lt1 (a := o) (b := 5) (by omega) (by decide)
      have hO := RS.opn (o2 := o + 1) h
      have f0 : Fr S57 M (pI M 5 6 (nI (o + 1))) := Fr.put (Or.inl rfl)
      simp only [↓e48_0, ↓e48_1, ↓e48_4, ↓e48_6, ↓e48_9, ↓e48_10, ↓e48_13, ↓e48_14, ↓e48_15, ↓e48_18, ↓e48_19, ↓e48_22, ↓e48_23, ↓e48_24, ↓e48_25, ↓e48_26, ↓e48_29, ↓e48_30, ↓e48_31, ↓e48_34, ↓e48_35, ↓e48_38, ↓e48_39, ↓e48_42, ↓e48_43, ↓e48_44, ↓e48_46, ↓e48_49, ↓e48_50, ↓e48_51, ↓e48_54, ↓e48_55, ↓e48_56, ↓e48_59, ↓e48_60, bc1_a, bd1, bd2, bd3, bd4, bd5, bd6, bd7, bd8, bd9, bd10, bd11, bd12, bd13, bd14, bd15, bd16, bd17, bd18, bd19, bd20, bd21, bd22, bd23, bd24, bd25, bd26, bd27, bd28, bd29, bd30, bd31, bd32, bd33, bd34, bd35, bd36, bd37, bd38, bd39, bc1_i, bc1_r, bc1_n, bc1_U, bisA_r, bisA_n, bisA_a, bct_i, bct_r, bct_n, bct_l, bcs_0, bcs_i, bcs_r, bcs_l, bcs_a, brt_0, brt_1, ↓bz0, ↓bz1, true_and, and_true, false_and, and_false, and_self, Nat.reduceAdd, Nat.reduceLeDiff, Nat.reduceSub, Nat.reduceEqDiff, ite_true, ite_false, if_true, if_false, gS_p, h.1.1, e3, htt, e6, ho, nI_1]
      refine RS.look h160 hO rfl (fun M1 f1 h1 => ?_)
      simp only [↓e48_0, ↓e48_1, ↓e48_4, ↓e48_6, ↓e48_9, ↓e48_10, ↓e48_13, ↓e48_14, ↓e48_15, ↓e48_18, ↓e48_19, ↓e48_22, ↓e48_23, ↓e48_24, ↓e48_25, ↓e48_26, ↓e48_29, ↓e48_30, ↓e48_31, ↓e48_34, ↓e48_35, ↓e48_38, ↓e48_39, ↓e48_42, ↓e48_43, ↓e48_44, ↓e48_46, ↓e48_49, ↓e48_50, ↓e48_51, ↓e48_54, ↓e48_55, ↓e48_56, ↓e48_59, ↓e48_60, bc1_a, bd1, bd2, bd3, bd4, bd5, bd6, bd7, bd8, bd9, bd10, bd11, bd12, bd13, bd14, bd15, bd16, bd17, bd18, bd19, bd20, bd21, bd22, bd23, bd24, bd25, bd26, bd27, bd28, bd29, bd30, bd31, bd32, bd33, bd34, bd35, bd36, bd37, bd38, bd39, bc1_i, bc1_r, bc1_n, bc1_U, bisA_r, bisA_n, bisA_a, bct_i, bct_r, bct_n, bct_l, bcs_0, bcs_i, bcs_r, bcs_l, bcs_a, brt_0, brt_1, ↓bz0, ↓bz1, true_and, and_true, false_and, and_false, and_self, Nat.reduceAdd, Nat.reduceLeDiff, Nat.reduceSub, Nat.reduceEqDiff, ite_true, ite_false, if_true, if_false, h1.1.1]
      refine hn h0 M1 _ _ _ h1 (fun M2 b2 q2 e2 f2 h2 => ?_) (fun M2 s e2 f2 h2 => ?_)
      · have hl := (hok h0 _ h1.2.2.2.2.2.2.2 _ e2).1
        have hlen : (c ++ b2).length + 1 ≤ q2 := RS.op1 h2 (by rw [ht]; decide) h.2.2.2.2.2.2.1 hl
        have hq2n : q2 ≤ n := h2.2.2.2.2.2.2.2
        have hw := fun (R : Option Value → mm_H → Prop) => c_write (L := L) (xs := xs) (d := d + 6) (M := M2) (Q := R) (x := -14) h2.1 h2.2.2.2.2.2.1.1 (by omega)
        have h3 := RS.write (x := -14) h2 hlen
        have e63 := h3.2.2.2.2.1
        have h4 := RS.opn (o2 := o) h3
        have f4 := ((((f0.trans (f1.trans f2)).put2 (o := 7) (k := (c ++ b2).length) (x := -14) (Or.inr rfl)).put2 (o := 5) (k := 8) (x := nI ((c ++ b2).length + 1)) (Or.inl rfl)).put2 (o := 5) (k := 6) (x := nI o) (Or.inl rfl))
        simp only [↓e48_0, ↓e48_1, ↓e48_4, ↓e48_6, ↓e48_9, ↓e48_10, ↓e48_13, ↓e48_14, ↓e48_15, ↓e48_18, ↓e48_19, ↓e48_22, ↓e48_23, ↓e48_24, ↓e48_25, ↓e48_26, ↓e48_29, ↓e48_30, ↓e48_31, ↓e48_34, ↓e48_35, ↓e48_38, ↓e48_39, ↓e48_42, ↓e48_43, ↓e48_44, ↓e48_46, ↓e48_49, ↓e48_50, ↓e48_51, ↓e48_54, ↓e48_55, ↓e48_56, ↓e48_59, ↓e48_60, bc1_a, bd1, bd2, bd3, bd4, bd5, bd6, bd7, bd8, bd9, bd10, bd11, bd12, bd13, bd14, bd15, bd16, bd17, bd18, bd19, bd20, bd21, bd22, bd23, bd24, bd25, bd26, bd27, bd28, bd29, bd30, bd31, bd32, bd33, bd34, bd35, bd36, bd37, bd38, bd39, bc1_i, bc1_r, bc1_n, bc1_U, bisA_r, bisA_n, bisA_a, bct_i, bct_r, bct_n, bct_l, bcs_0, bcs_i, bcs_r, bcs_l, bcs_a, brt_0, brt_1, ↓bz0, ↓bz1, true_and, and_true, false_and, and_false, and_self, Nat.reduceAdd, Nat.reduceLeDiff, Nat.reduceSub, Nat.reduceEqDiff, ite_true, ite_false, if_true, if_false, h2.1.1, hw, gS_p, e63, nI_pred]
        refine hq _ (b2 ++ [-14]) q2 ?_ f4 ?_
        · unfold p_not; rw [if_pos ht, if_pos h0, e2]
        · rw [← List.append_assoc]; exact h4
      · simp only [↓e48_0, ↓e48_1, ↓e48_4, ↓e48_6, ↓e48_9, ↓e48_10, ↓e48_13, ↓e48_14, ↓e48_15, ↓e48_18, ↓e48_19, ↓e48_22, ↓e48_23, ↓e48_24, ↓e48_25, ↓e48_26, ↓e48_29, ↓e48_30, ↓e48_31, ↓e48_34, ↓e48_35, ↓e48_38, ↓e48_39, ↓e48_42, ↓e48_43, ↓e48_44, ↓e48_46, ↓e48_49, ↓e48_50, ↓e48_51, ↓e48_54, ↓e48_55, ↓e48_56, ↓e48_59, ↓e48_60, bc1_a, bd1, bd2, bd3, bd4, bd5, bd6, bd7, bd8, bd9, bd10, bd11, bd12, bd13, bd14, bd15, bd16, bd17, bd18, bd19, bd20, bd21, bd22, bd23, bd24, bd25, bd26, bd27, bd28, bd29, bd30, bd31, bd32, bd33, bd34, bd35, bd36, bd37, bd38, bd39, bc1_i, bc1_r, bc1_n, bc1_U, bisA_r, bisA_n, bisA_a, bct_i, bct_r, bct_n, bct_l, bcs_0, bcs_i, bcs_r, bcs_l, bcs_a, brt_0, brt_1, ↓bz0, ↓bz1, true_and, and_true, false_and, and_false, and_self, Nat.reduceAdd, Nat.reduceLeDiff, Nat.reduceSub, Nat.reduceEqDiff, ite_true, ite_false, if_true, if_false, h2.1.1]
        obtain ⟨l, hl, hl2⟩ := h2.2.2.2.1
        refine c_writeF h2.1 hl2 hl (fun M3 f3 g6 g5 gl => ?_)
        have h3 := h2.write f3 g6 g5 gl
        simp only [↓e48_0, ↓e48_1, ↓e48_4, ↓e48_6, ↓e48_9, ↓e48_10, ↓e48_13, ↓e48_14, ↓e48_15, ↓e48_18, ↓e48_19, ↓e48_22, ↓e48_23, ↓e48_24, ↓e48_25, ↓e48_26, ↓e48_29, ↓e48_30, ↓e48_31, ↓e48_34, ↓e48_35, ↓e48_38, ↓e48_39, ↓e48_42, ↓e48_43, ↓e48_44, ↓e48_46, ↓e48_49, ↓e48_50, ↓e48_51, ↓e48_54, ↓e48_55, ↓e48_56, ↓e48_59, ↓e48_60, bc1_a, bd1, bd2, bd3, bd4, bd5, bd6, bd7, bd8, bd9, bd10, bd11, bd12, bd13, bd14, bd15, bd16, bd17, bd18, bd19, bd20, bd21, bd22, bd23, bd24, bd25, bd26, bd27, bd28, bd29, bd30, bd31, bd32, bd33, bd34, bd35, bd36, bd37, bd38, bd39, bc1_i, bc1_r, bc1_n, bc1_U, bisA_r, bisA_n, bisA_a, bct_i, bct_r, bct_n, bct_l, bcs_0, bcs_i, bcs_r, bcs_l, bcs_a, brt_0, brt_1, ↓bz0, ↓bz1, true_and, and_true, false_and, and_false, and_self, Nat.reduceAdd, Nat.reduceLeDiff, Nat.reduceSub, Nat.reduceEqDiff, ite_true, ite_false, if_true, if_false, h3.1.1]
        refine hq2 _ s ?_ ((f0.trans (f1.trans (f2.trans f3))).put2 (Or.inl rfl)) h3.opn
        unfold p_not; rw [if_pos ht, if_pos h0, e2]
    · have ho : (nI o < 5) = False := nI_lt0 (a := o) (b := 5) (by omega) (by omega)
      simp only [↓e48_0, ↓e48_1, ↓e48_4, ↓e48_6, ↓e48_9, ↓e48_10, ↓e48_13, ↓e48_14, ↓e48_15, ↓e48_18, ↓e48_19, ↓e48_22, ↓e48_23, ↓e48_24, ↓e48_25, ↓e48_26, ↓e48_29, ↓e48_30, ↓e48_31, ↓e48_34, ↓e48_35, ↓e48_38, ↓e48_39, ↓e48_42, ↓e48_43, ↓e48_44, ↓e48_46, ↓e48_49, ↓e48_50, ↓e48_51, ↓e48_54, ↓e48_55, ↓e48_56, ↓e48_59, ↓e48_60, bc1_a, bd1, bd2, bd3, bd4, bd5, bd6, bd7, bd8, bd9, bd10, bd11, bd12, bd13, bd14, bd15, bd16, bd17, bd18, bd19, bd20, bd21, bd22, bd23, bd24, bd25, bd26, bd27, bd28, bd29, bd30, bd31, bd32, bd33, bd34, bd35, bd36, bd37, bd38, bd39, bc1_i, bc1_r, bc1_n, bc1_U, bisA_r, bisA_n, bisA_a, bct_i, bct_r, bct_n, bct_l, bcs_0, bcs_i, bcs_r, bcs_l, bcs_a, brt_0, brt_1, ↓bz0, ↓bz1, true_and, and_true, false_and, and_false, and_self, Nat.reduceAdd, Nat.reduceLeDiff, Nat.reduceSub, Nat.reduceEqDiff, ite_true, ite_false, if_true, if_false, h.1.1, e3, htt, e6, ho]
      refine hq2 M _ ?_ Fr.rf (h.nf h160)
      unfold p_not; rw [if_pos ht, if_neg h0]
  · have htt : (nI (t_k f n q) = 14) = False := t_k_not (by decide) ht
    have hp : p_not f n r inn one q = p_cmp f n one q := by unfold p_not; rw [if_neg ht]
    simp only [↓e48_0, ↓e48_1, ↓e48_4, ↓e48_6, ↓e48_9, ↓e48_10, ↓e48_13, ↓e48_14, ↓e48_15, ↓e48_18, ↓e48_19, ↓e48_22, ↓e48_23, ↓e48_24, ↓e48_25, ↓e48_26, ↓e48_29, ↓e48_30, ↓e48_31, ↓e48_34, ↓e48_35, ↓e48_38, ↓e48_39, ↓e48_42, ↓e48_43, ↓e48_44, ↓e48_46, ↓e48_49, ↓e48_50, ↓e48_51, ↓e48_54, ↓e48_55, ↓e48_56, ↓e48_59, ↓e48_60, bc1_a, bd1, bd2, bd3, bd4, bd5, bd6, bd7, bd8, bd9, bd10, bd11, bd12, bd13, bd14, bd15, bd16, bd17, bd18, bd19, bd20, bd21, bd22, bd23, bd24, bd25, bd26, bd27, bd28, bd29, bd30, bd31, bd32, bd33, bd34, bd35, bd36, bd37, bd38, bd39, bc1_i, bc1_r, bc1_n, bc1_U, bisA_r, bisA_n, bisA_a, bct_i, bct_r, bct_n, bct_l, bcs_0, bcs_i, bcs_r, bcs_l, bcs_a, brt_0, brt_1, ↓bz0, ↓bz1, true_and, and_true, false_and, and_false, and_self, Nat.reduceAdd, Nat.reduceLeDiff, Nat.reduceSub, Nat.reduceEqDiff, ite_true, ite_false, if_true, if_false, h.1.1, e3, htt]
    refine hone M _ _ _ h (fun M2 b2 q2 e2 f2 h2 => ?_) (fun M2 s e2 f2 h2 => ?_)
    · simp only [↓e48_0, ↓e48_1, ↓e48_4, ↓e48_6, ↓e48_9, ↓e48_10, ↓e48_13, ↓e48_14, ↓e48_15, ↓e48_18, ↓e48_19, ↓e48_22, ↓e48_23, ↓e48_24, ↓e48_25, ↓e48_26, ↓e48_29, ↓e48_30, ↓e48_31, ↓e48_34, ↓e48_35, ↓e48_38, ↓e48_39, ↓e48_42, ↓e48_43, ↓e48_44, ↓e48_46, ↓e48_49, ↓e48_50, ↓e48_51, ↓e48_54, ↓e48_55, ↓e48_56, ↓e48_59, ↓e48_60, bc1_a, bd1, bd2, bd3, bd4, bd5, bd6, bd7, bd8, bd9, bd10, bd11, bd12, bd13, bd14, bd15, bd16, bd17, bd18, bd19, bd20, bd21, bd22, bd23, bd24, bd25, bd26, bd27, bd28, bd29, bd30, bd31, bd32, bd33, bd34, bd35, bd36, bd37, bd38, bd39, bc1_i, bc1_r, bc1_n, bc1_U, bisA_r, bisA_n, bisA_a, bct_i, bct_r, bct_n, bct_l, bcs_0, bcs_i, bcs_r, bcs_l, bcs_a, brt_0, brt_1, ↓bz0, ↓bz1, true_and, and_true, false_and, and_false, and_self, Nat.reduceAdd, Nat.reduceLeDiff, Nat.reduceSub, Nat.reduceEqDiff, ite_true, ite_false, if_true, if_false]; exact hq M2 b2 q2 (hp.trans e2) f2 h2
    · simp only [↓e48_0, ↓e48_1, ↓e48_4, ↓e48_6, ↓e48_9, ↓e48_10, ↓e48_13, ↓e48_14, ↓e48_15, ↓e48_18, ↓e48_19, ↓e48_22, ↓e48_23, ↓e48_24, ↓e48_25, ↓e48_26, ↓e48_29, ↓e48_30, ↓e48_31, ↓e48_34, ↓e48_35, ↓e48_38, ↓e48_39, ↓e48_42, ↓e48_43, ↓e48_44, ↓e48_46, ↓e48_49, ↓e48_50, ↓e48_51, ↓e48_54, ↓e48_55, ↓e48_56, ↓e48_59, ↓e48_60, bc1_a, bd1, bd2, bd3, bd4, bd5, bd6, bd7, bd8, bd9, bd10, bd11, bd12, bd13, bd14, bd15, bd16, bd17, bd18, bd19, bd20, bd21, bd22, bd23, bd24, bd25, bd26, bd27, bd28, bd29, bd30, bd31, bd32, bd33, bd34, bd35, bd36, bd37, bd38, bd39, bc1_i, bc1_r, bc1_n, bc1_U, bisA_r, bisA_n, bisA_a, bct_i, bct_r, bct_n, bct_l, bcs_0, bcs_i, bcs_r, bcs_l, bcs_a, brt_0, brt_1, ↓bz0, ↓bz1, true_and, and_true, false_and, and_false, and_self, Nat.reduceAdd, Nat.reduceLeDiff, Nat.reduceSub, Nat.reduceEqDiff, ite_true, ite_false, if_true, if_false]; exact hq2 M2 s (hp.trans e2) f2 h2
theorem c_52 {r : Nat} {neg par : Nat → PR} (h160 : n ≤ 160) (hr : r + o = 5) (hneg : 0 < r → RC L xs f n (o + 1) (d + 6) 52 neg) (hok : 0 < r → p_ok f n neg) (hpar : 0 < r → RC L xs f n (o + 1) (d + 6) 53 (p_par f n par)) : RC L xs f n o (d + 7) 52 (p_one f n r neg par) := by
  intro M Q q c h hq hq2
  rw [en52]
  have e3 := h.2.2.2.1.2.2.1
  have e5 := h.2.2.2.1.2.2.2
  have e6 := h.2.2.2.2.1
  have hqn : q ≤ n := h.2.2.2.2.2.2.2
  have hcq : c.length ≤ q := h.2.2.2.2.2.2.1
  by_cases ht2 : t_k f n q = 2
  · have htt : (nI (t_k f n q) = 2) = True := t_k_is (by decide) ht2
    have hlt := t_k_in (f := f) (n := n) (p := q) (by rw [ht2]; decide)
    have hge := t_s_ge (f := f) (n := n) q
    have hw := fun (x : Int32) (R : Option Value → mm_H → Prop) => c_write (L := L) (xs := xs) (d := d + 6) (M := M) (Q := R) (x := x) h.1 h.2.2.2.2.2.1.1 (by omega)
    simp only [↓e52_0, ↓e52_1, ↓e52_4, ↓e52_5, ↓e52_8, ↓e52_9, ↓e52_12, ↓e52_15, ↓e52_18, ↓e52_19, ↓e52_20, ↓e52_23, ↓e52_24, ↓e52_27, ↓e52_28, ↓e52_31, ↓e52_34, ↓e52_35, ↓e52_38, ↓e52_39, ↓e52_42, ↓e52_43, ↓e52_46, ↓e52_47, ↓e52_48, ↓e52_49, ↓e52_52, ↓e52_54, ↓e52_57, ↓e52_58, ↓e52_61, ↓e52_63, ↓e52_66, ↓e52_67, ↓e52_70, ↓e52_71, ↓e52_74, ↓e52_75, ↓e52_76, ↓e52_77, ↓e52_80, ↓e52_82, ↓e52_85, ↓e52_86, ↓e52_89, ↓e52_90, ↓e52_91, ↓e52_92, ↓e52_93, ↓e52_96, ↓e52_97, ↓e52_98, ↓e52_101, ↓e52_102, ↓e52_105, ↓e52_106, ↓e52_109, ↓e52_110, ↓e52_113, ↓e52_116, ↓e52_117, ↓e52_120, ↓e52_121, ↓e52_122, ↓e52_125, ↓e52_126, ↓e52_128, ↓e52_131, ↓e52_132, ↓e52_133, ↓e52_136, ↓e52_137, ↓e52_138, ↓e52_141, ↓e52_142, bc1_a, bd1, bd2, bd3, bd4, bd5, bd6, bd7, bd8, bd9, bd10, bd11, bd12, bd13, bd14, bd15, bd16, bd17, bd18, bd19, bd20, bd21, bd22, bd23, bd24, bd25, bd26, bd27, bd28, bd29, bd30, bd31, bd32, bd33, bd34, bd35, bd36, bd37, bd38, bd39, bc1_i, bc1_r, bc1_n, bc1_U, bisA_r, bisA_n, bisA_a, bct_i, bct_r, bct_n, bct_l, bcs_0, bcs_i, bcs_r, bcs_l, bcs_a, brt_0, brt_1, ↓bz0, ↓bz1, true_and, and_true, false_and, and_false, and_self, Nat.reduceAdd, Nat.reduceLeDiff, Nat.reduceSub, Nat.reduceEqDiff, ite_true, ite_false, if_true, if_false, h.1.1, e3, htt, e5 ht2, hw, gS_p]
    refine RS.wlook h160 h (by rw [ht2]; decide) (fun M1 f1 h1 => ?_)
    simp only [↓e52_0, ↓e52_1, ↓e52_4, ↓e52_5, ↓e52_8, ↓e52_9, ↓e52_12, ↓e52_15, ↓e52_18, ↓e52_19, ↓e52_20, ↓e52_23, ↓e52_24, ↓e52_27, ↓e52_28, ↓e52_31, ↓e52_34, ↓e52_35, ↓e52_38, ↓e52_39, ↓e52_42, ↓e52_43, ↓e52_46, ↓e52_47, ↓e52_48, ↓e52_49, ↓e52_52, ↓e52_54, ↓e52_57, ↓e52_58, ↓e52_61, ↓e52_63, ↓e52_66, ↓e52_67, ↓e52_70, ↓e52_71, ↓e52_74, ↓e52_75, ↓e52_76, ↓e52_77, ↓e52_80, ↓e52_82, ↓e52_85, ↓e52_86, ↓e52_89, ↓e52_90, ↓e52_91, ↓e52_92, ↓e52_93, ↓e52_96, ↓e52_97, ↓e52_98, ↓e52_101, ↓e52_102, ↓e52_105, ↓e52_106, ↓e52_109, ↓e52_110, ↓e52_113, ↓e52_116, ↓e52_117, ↓e52_120, ↓e52_121, ↓e52_122, ↓e52_125, ↓e52_126, ↓e52_128, ↓e52_131, ↓e52_132, ↓e52_133, ↓e52_136, ↓e52_137, ↓e52_138, ↓e52_141, ↓e52_142, bc1_a, bd1, bd2, bd3, bd4, bd5, bd6, bd7, bd8, bd9, bd10, bd11, bd12, bd13, bd14, bd15, bd16, bd17, bd18, bd19, bd20, bd21, bd22, bd23, bd24, bd25, bd26, bd27, bd28, bd29, bd30, bd31, bd32, bd33, bd34, bd35, bd36, bd37, bd38, bd39, bc1_i, bc1_r, bc1_n, bc1_U, bisA_r, bisA_n, bisA_a, bct_i, bct_r, bct_n, bct_l, bcs_0, bcs_i, bcs_r, bcs_l, bcs_a, brt_0, brt_1, ↓bz0, ↓bz1, true_and, and_true, false_and, and_false, and_self, Nat.reduceAdd, Nat.reduceLeDiff, Nat.reduceSub, Nat.reduceEqDiff, ite_true, ite_false, if_true, if_false]
    refine hq M1 _ _ ?_ f1 h1
    unfold p_one; rw [if_pos ht2]
  have htt2 : (nI (t_k f n q) = 2) = False := t_k_not (by decide) ht2
  by_cases htn : 3 ≤ t_k f n q ∧ t_k f n q ≤ 8
  · have hlt := t_k_in (f := f) (n := n) (p := q) (by omega)
    have hge := t_s_ge (f := f) (n := n) q
    have hw := fun (x : Int32) (R : Option Value → mm_H → Prop) => c_write (L := L) (xs := xs) (d := d + 6) (M := M) (Q := R) (x := x) h.1 h.2.2.2.2.2.1.1 (by omega)
    simp only [↓e52_0, ↓e52_1, ↓e52_4, ↓e52_5, ↓e52_8, ↓e52_9, ↓e52_12, ↓e52_15, ↓e52_18, ↓e52_19, ↓e52_20, ↓e52_23, ↓e52_24, ↓e52_27, ↓e52_28, ↓e52_31, ↓e52_34, ↓e52_35, ↓e52_38, ↓e52_39, ↓e52_42, ↓e52_43, ↓e52_46, ↓e52_47, ↓e52_48, ↓e52_49, ↓e52_52, ↓e52_54, ↓e52_57, ↓e52_58, ↓e52_61, ↓e52_63, ↓e52_66, ↓e52_67, ↓e52_70, ↓e52_71, ↓e52_74, ↓e52_75, ↓e52_76, ↓e52_77, ↓e52_80, ↓e52_82, ↓e52_85, ↓e52_86, ↓e52_89, ↓e52_90, ↓e52_91, ↓e52_92, ↓e52_93, ↓e52_96, ↓e52_97, ↓e52_98, ↓e52_101, ↓e52_102, ↓e52_105, ↓e52_106, ↓e52_109, ↓e52_110, ↓e52_113, ↓e52_116, ↓e52_117, ↓e52_120, ↓e52_121, ↓e52_122, ↓e52_125, ↓e52_126, ↓e52_128, ↓e52_131, ↓e52_132, ↓e52_133, ↓e52_136, ↓e52_137, ↓e52_138, ↓e52_141, ↓e52_142, bc1_a, bd1, bd2, bd3, bd4, bd5, bd6, bd7, bd8, bd9, bd10, bd11, bd12, bd13, bd14, bd15, bd16, bd17, bd18, bd19, bd20, bd21, bd22, bd23, bd24, bd25, bd26, bd27, bd28, bd29, bd30, bd31, bd32, bd33, bd34, bd35, bd36, bd37, bd38, bd39, bc1_i, bc1_r, bc1_n, bc1_U, bisA_r, bisA_n, bisA_a, bct_i, bct_r, bct_n, bct_l, bcs_0, bcs_i, bcs_r, bcs_l, bcs_a, brt_0, brt_1, ↓bz0, ↓bz1, true_and, and_true, false_and, and_false, and_self, Nat.reduceAdd, Nat.reduceLeDiff, Nat.reduceSub, Nat.reduceEqDiff, ite_true, ite_false, if_true, if_false, h.1.1, e3, htt2, c_isName, nm_yes htn, i1ne, hw, gS_p]
    refine RS.wlook h160 h (by omega) (fun M1 f1 h1 => ?_)
    simp only [↓e52_0, ↓e52_1, ↓e52_4, ↓e52_5, ↓e52_8, ↓e52_9, ↓e52_12, ↓e52_15, ↓e52_18, ↓e52_19, ↓e52_20, ↓e52_23, ↓e52_24, ↓e52_27, ↓e52_28, ↓e52_31, ↓e52_34, ↓e52_35, ↓e52_38, ↓e52_39, ↓e52_42, ↓e52_43, ↓e52_46, ↓e52_47, ↓e52_48, ↓e52_49, ↓e52_52, ↓e52_54, ↓e52_57, ↓e52_58, ↓e52_61, ↓e52_63, ↓e52_66, ↓e52_67, ↓e52_70, ↓e52_71, ↓e52_74, ↓e52_75, ↓e52_76, ↓e52_77, ↓e52_80, ↓e52_82, ↓e52_85, ↓e52_86, ↓e52_89, ↓e52_90, ↓e52_91, ↓e52_92, ↓e52_93, ↓e52_96, ↓e52_97, ↓e52_98, ↓e52_101, ↓e52_102, ↓e52_105, ↓e52_106, ↓e52_109, ↓e52_110, ↓e52_113, ↓e52_116, ↓e52_117, ↓e52_120, ↓e52_121, ↓e52_122, ↓e52_125, ↓e52_126, ↓e52_128, ↓e52_131, ↓e52_132, ↓e52_133, ↓e52_136, ↓e52_137, ↓e52_138, ↓e52_141, ↓e52_142, bc1_a, bd1, bd2, bd3, bd4, bd5, bd6, bd7, bd8, bd9, bd10, bd11, bd12, bd13, bd14, bd15, bd16, bd17, bd18, bd19, bd20, bd21, bd22, bd23, bd24, bd25, bd26, bd27, bd28, bd29, bd30, bd31, bd32, bd33, bd34, bd35, bd36, bd37, bd38, bd39, bc1_i, bc1_r, bc1_n, bc1_U, bisA_r, bisA_n, bisA_a, bct_i, bct_r, bct_n, bct_l, bcs_0, bcs_i, bcs_r, bcs_l, bcs_a, brt_0, brt_1, ↓bz0, ↓bz1, true_and, and_true, false_and, and_false, and_self, Nat.reduceAdd, Nat.reduceLeDiff, Nat.reduceSub, Nat.reduceEqDiff, ite_true, ite_false, if_true, if_false]
    refine hq M1 _ _ ?_ f1 h1
    unfold p_one; rw [if_neg ht2, if_pos htn]
  have hnm := nm_no htn (t_k_lt q)
  by_cases h4 : t_k f n q = 45 ∨ t_k f n q = 40
  · by_cases h0 : 0 < r
    · have ho : (nI o < 5) = True := nI_lt1 (a := o) (b := 5) (by omega) (by decide)
      have hO := RS.opn (o2 := o + 1) h
      have f0 : Fr S57 M (pI M 5 6 (nI (o + 1))) := Fr.put (Or.inl rfl)
      have hk0 : t_k f n q ≠ 0 := by omega
      by_cases h45 : t_k f n q = 45
      · have htt45 : (nI (t_k f n q) = 45) = True := t_k_is (by decide) h45
        have hp : p_one f n r neg par q = (match neg (t_e f n q) with | .inr x => .inr x | .inl z => .inl (z.1 ++ [-15], z.2)) := by
          unfold p_one; rw [if_neg ht2, if_neg htn, if_pos ⟨h4, h0⟩, if_pos h45]; rfl
        simp only [↓e52_0, ↓e52_1, ↓e52_4, ↓e52_5, ↓e52_8, ↓e52_9, ↓e52_12, ↓e52_15, ↓e52_18, ↓e52_19, ↓e52_20, ↓e52_23, ↓e52_24, ↓e52_27, ↓e52_28, ↓e52_31, ↓e52_34, ↓e52_35, ↓e52_38, ↓e52_39, ↓e52_42, ↓e52_43, ↓e52_46, ↓e52_47, ↓e52_48, ↓e52_49, ↓e52_52, ↓e52_54, ↓e52_57, ↓e52_58, ↓e52_61, ↓e52_63, ↓e52_66, ↓e52_67, ↓e52_70, ↓e52_71, ↓e52_74, ↓e52_75, ↓e52_76, ↓e52_77, ↓e52_80, ↓e52_82, ↓e52_85, ↓e52_86, ↓e52_89, ↓e52_90, ↓e52_91, ↓e52_92, ↓e52_93, ↓e52_96, ↓e52_97, ↓e52_98, ↓e52_101, ↓e52_102, ↓e52_105, ↓e52_106, ↓e52_109, ↓e52_110, ↓e52_113, ↓e52_116, ↓e52_117, ↓e52_120, ↓e52_121, ↓e52_122, ↓e52_125, ↓e52_126, ↓e52_128, ↓e52_131, ↓e52_132, ↓e52_133, ↓e52_136, ↓e52_137, ↓e52_138, ↓e52_141, ↓e52_142, bc1_a, bd1, bd2, bd3, bd4, bd5, bd6, bd7, bd8, bd9, bd10, bd11, bd12, bd13, bd14, bd15, bd16, bd17, bd18, bd19, bd20, bd21, bd22, bd23, bd24, bd25, bd26, bd27, bd28, bd29, bd30, bd31, bd32, bd33, bd34, bd35, bd36, bd37, bd38, bd39, bc1_i, bc1_r, bc1_n, bc1_U, bisA_r, bisA_n, bisA_a, bct_i, bct_r, bct_n, bct_l, bcs_0, bcs_i, bcs_r, bcs_l, bcs_a, brt_0, brt_1, ↓bz0, ↓bz1, true_and, and_true, false_and, and_false, and_self, Nat.reduceAdd, Nat.reduceLeDiff, Nat.reduceSub, Nat.reduceEqDiff, ite_true, ite_false, if_true, if_false, h.1.1, e3, htt2, c_isName, hnm, i0eq, htt45, e6, ho, nI_1, gS_p]
        refine RS.look h160 hO rfl (fun M1 f1 h1 => ?_)
        simp only [↓e52_0, ↓e52_1, ↓e52_4, ↓e52_5, ↓e52_8, ↓e52_9, ↓e52_12, ↓e52_15, ↓e52_18, ↓e52_19, ↓e52_20, ↓e52_23, ↓e52_24, ↓e52_27, ↓e52_28, ↓e52_31, ↓e52_34, ↓e52_35, ↓e52_38, ↓e52_39, ↓e52_42, ↓e52_43, ↓e52_46, ↓e52_47, ↓e52_48, ↓e52_49, ↓e52_52, ↓e52_54, ↓e52_57, ↓e52_58, ↓e52_61, ↓e52_63, ↓e52_66, ↓e52_67, ↓e52_70, ↓e52_71, ↓e52_74, ↓e52_75, ↓e52_76, ↓e52_77, ↓e52_80, ↓e52_82, ↓e52_85, ↓e52_86, ↓e52_89, ↓e52_90, ↓e52_91, ↓e52_92, ↓e52_93, ↓e52_96, ↓e52_97, ↓e52_98, ↓e52_101, ↓e52_102, ↓e52_105, ↓e52_106, ↓e52_109, ↓e52_110, ↓e52_113, ↓e52_116, ↓e52_117, ↓e52_120, ↓e52_121, ↓e52_122, ↓e52_125, ↓e52_126, ↓e52_128, ↓e52_131, ↓e52_132, ↓e52_133, ↓e52_136, ↓e52_137, ↓e52_138, ↓e52_141, ↓e52_142, bc1_a, bd1, bd2, bd3, bd4, bd5, bd6, bd7, bd8, bd9, bd10, bd11, bd12, bd13, bd14, bd15, bd16, bd17, bd18, bd19, bd20, bd21, bd22, bd23, bd24, bd25, bd26, bd27, bd28, bd29, bd30, bd31, bd32, bd33, bd34, bd35, bd36, bd37, bd38, bd39, bc1_i, bc1_r, bc1_n, bc1_U, bisA_r, bisA_n, bisA_a, bct_i, bct_r, bct_n, bct_l, bcs_0, bcs_i, bcs_r, bcs_l, bcs_a, brt_0, brt_1, ↓bz0, ↓bz1, true_and, and_true, false_and, and_false, and_self, Nat.reduceAdd, Nat.reduceLeDiff, Nat.reduceSub, Nat.reduceEqDiff, ite_true, ite_false, if_true, if_false, h1.1.1, i1ne]
        refine hneg h0 M1 _ _ _ h1 (fun M2 b2 q2 e2 f2 h2 => ?_) (fun M2 s e2 f2 h2 => ?_)
        · have hl := (hok h0 _ h1.2.2.2.2.2.2.2 _ e2).1
          have hlen : (c ++ b2).length + 1 ≤ q2 := RS.op1 h2 hk0 h.2.2.2.2.2.2.1 hl
          have hq2n : q2 ≤ n := h2.2.2.2.2.2.2.2
          have hw := fun (R : Option Value → mm_H → Prop) => c_write (L := L) (xs := xs) (d := d + 6) (M := M2) (Q := R) (x := -15) h2.1 h2.2.2.2.2.2.1.1 (by omega)
          have h3 := RS.write (x := -15) h2 hlen
          have e63 := h3.2.2.2.2.1
          have h4' := RS.opn (o2 := o) h3
          have f4 := ((((f0.trans (f1.trans f2)).put2 (o := 7) (k := (c ++ b2).length) (x := -15) (Or.inr rfl)).put2 (o := 5) (k := 8) (x := nI ((c ++ b2).length + 1)) (Or.inl rfl)).put2 (o := 5) (k := 6) (x := nI o) (Or.inl rfl))
          simp only [↓e52_0, ↓e52_1, ↓e52_4, ↓e52_5, ↓e52_8, ↓e52_9, ↓e52_12, ↓e52_15, ↓e52_18, ↓e52_19, ↓e52_20, ↓e52_23, ↓e52_24, ↓e52_27, ↓e52_28, ↓e52_31, ↓e52_34, ↓e52_35, ↓e52_38, ↓e52_39, ↓e52_42, ↓e52_43, ↓e52_46, ↓e52_47, ↓e52_48, ↓e52_49, ↓e52_52, ↓e52_54, ↓e52_57, ↓e52_58, ↓e52_61, ↓e52_63, ↓e52_66, ↓e52_67, ↓e52_70, ↓e52_71, ↓e52_74, ↓e52_75, ↓e52_76, ↓e52_77, ↓e52_80, ↓e52_82, ↓e52_85, ↓e52_86, ↓e52_89, ↓e52_90, ↓e52_91, ↓e52_92, ↓e52_93, ↓e52_96, ↓e52_97, ↓e52_98, ↓e52_101, ↓e52_102, ↓e52_105, ↓e52_106, ↓e52_109, ↓e52_110, ↓e52_113, ↓e52_116, ↓e52_117, ↓e52_120, ↓e52_121, ↓e52_122, ↓e52_125, ↓e52_126, ↓e52_128, ↓e52_131, ↓e52_132, ↓e52_133, ↓e52_136, ↓e52_137, ↓e52_138, ↓e52_141, ↓e52_142, bc1_a, bd1, bd2, bd3, bd4, bd5, bd6, bd7, bd8, bd9, bd10, bd11, bd12, bd13, bd14, bd15, bd16, bd17, bd18, bd19, bd20, bd21, bd22, bd23, bd24, bd25, bd26, bd27, bd28, bd29, bd30, bd31, bd32, bd33, bd34, bd35, bd36, bd37, bd38, bd39, bc1_i, bc1_r, bc1_n, bc1_U, bisA_r, bisA_n, bisA_a, bct_i, bct_r, bct_n, bct_l, bcs_0, bcs_i, bcs_r, bcs_l, bcs_a, brt_0, brt_1, ↓bz0, ↓bz1, true_and, and_true, false_and, and_false, and_self, Nat.reduceAdd, Nat.reduceLeDiff, Nat.reduceSub, Nat.reduceEqDiff, ite_true, ite_false, if_true, if_false, h2.1.1, hw, gS_p, e63, nI_pred, i1ne]
          refine hq _ (b2 ++ [-15]) q2 ?_ f4 ?_
          · rw [hp, e2]
          · rw [← List.append_assoc]; exact h4'
        · simp only [↓e52_0, ↓e52_1, ↓e52_4, ↓e52_5, ↓e52_8, ↓e52_9, ↓e52_12, ↓e52_15, ↓e52_18, ↓e52_19, ↓e52_20, ↓e52_23, ↓e52_24, ↓e52_27, ↓e52_28, ↓e52_31, ↓e52_34, ↓e52_35, ↓e52_38, ↓e52_39, ↓e52_42, ↓e52_43, ↓e52_46, ↓e52_47, ↓e52_48, ↓e52_49, ↓e52_52, ↓e52_54, ↓e52_57, ↓e52_58, ↓e52_61, ↓e52_63, ↓e52_66, ↓e52_67, ↓e52_70, ↓e52_71, ↓e52_74, ↓e52_75, ↓e52_76, ↓e52_77, ↓e52_80, ↓e52_82, ↓e52_85, ↓e52_86, ↓e52_89, ↓e52_90, ↓e52_91, ↓e52_92, ↓e52_93, ↓e52_96, ↓e52_97, ↓e52_98, ↓e52_101, ↓e52_102, ↓e52_105, ↓e52_106, ↓e52_109, ↓e52_110, ↓e52_113, ↓e52_116, ↓e52_117, ↓e52_120, ↓e52_121, ↓e52_122, ↓e52_125, ↓e52_126, ↓e52_128, ↓e52_131, ↓e52_132, ↓e52_133, ↓e52_136, ↓e52_137, ↓e52_138, ↓e52_141, ↓e52_142, bc1_a, bd1, bd2, bd3, bd4, bd5, bd6, bd7, bd8, bd9, bd10, bd11, bd12, bd13, bd14, bd15, bd16, bd17, bd18, bd19, bd20, bd21, bd22, bd23, bd24, bd25, bd26, bd27, bd28, bd29, bd30, bd31, bd32, bd33, bd34, bd35, bd36, bd37, bd38, bd39, bc1_i, bc1_r, bc1_n, bc1_U, bisA_r, bisA_n, bisA_a, bct_i, bct_r, bct_n, bct_l, bcs_0, bcs_i, bcs_r, bcs_l, bcs_a, brt_0, brt_1, ↓bz0, ↓bz1, true_and, and_true, false_and, and_false, and_self, Nat.reduceAdd, Nat.reduceLeDiff, Nat.reduceSub, Nat.reduceEqDiff, ite_true, ite_false, if_true, if_false, h2.1.1, i1ne]
          obtain ⟨l, hl, hl2⟩ := h2.2.2.2.1
          refine c_writeF h2.1 hl2 hl (fun M3 f3 g6 g5 gl => ?_)
          have h3 := h2.write f3 g6 g5 gl
          simp only [↓e52_0, ↓e52_1, ↓e52_4, ↓e52_5, ↓e52_8, ↓e52_9, ↓e52_12, ↓e52_15, ↓e52_18, ↓e52_19, ↓e52_20, ↓e52_23, ↓e52_24, ↓e52_27, ↓e52_28, ↓e52_31, ↓e52_34, ↓e52_35, ↓e52_38, ↓e52_39, ↓e52_42, ↓e52_43, ↓e52_46, ↓e52_47, ↓e52_48, ↓e52_49, ↓e52_52, ↓e52_54, ↓e52_57, ↓e52_58, ↓e52_61, ↓e52_63, ↓e52_66, ↓e52_67, ↓e52_70, ↓e52_71, ↓e52_74, ↓e52_75, ↓e52_76, ↓e52_77, ↓e52_80, ↓e52_82, ↓e52_85, ↓e52_86, ↓e52_89, ↓e52_90, ↓e52_91, ↓e52_92, ↓e52_93, ↓e52_96, ↓e52_97, ↓e52_98, ↓e52_101, ↓e52_102, ↓e52_105, ↓e52_106, ↓e52_109, ↓e52_110, ↓e52_113, ↓e52_116, ↓e52_117, ↓e52_120, ↓e52_121, ↓e52_122, ↓e52_125, ↓e52_126, ↓e52_128, ↓e52_131, ↓e52_132, ↓e52_133, ↓e52_136, ↓e52_137, ↓e52_138, ↓e52_141, ↓e52_142, bc1_a, bd1, bd2, bd3, bd4, bd5, bd6, bd7, bd8, bd9, bd10, bd11, bd12, bd13, bd14, bd15, bd16, bd17, bd18, bd19, bd20, bd21, bd22, bd23, bd24, bd25, bd26, bd27, bd28, bd29, bd30, bd31, bd32, bd33, bd34, bd35, bd36, bd37, bd38, bd39, bc1_i, bc1_r, bc1_n, bc1_U, bisA_r, bisA_n, bisA_a, bct_i, bct_r, bct_n, bct_l, bcs_0, bcs_i, bcs_r, bcs_l, bcs_a, brt_0, brt_1, ↓bz0, ↓bz1, true_and, and_true, false_and, and_false, and_self, Nat.reduceAdd, Nat.reduceLeDiff, Nat.reduceSub, Nat.reduceEqDiff, ite_true, ite_false, if_true, if_false, h3.1.1]
          refine hq2 _ s ?_ ((f0.trans (f1.trans (f2.trans f3))).put2 (Or.inl rfl)) h3.opn
          rw [hp, e2]
      · have htt45 : (nI (t_k f n q) = 45) = False := t_k_not (by decide) h45
        have h40 : t_k f n q = 40 := by omega
        have htt40 : (nI (t_k f n q) = 40) = True := t_k_is (by decide) h40
        have hp : p_one f n r neg par q = p_par f n par (t_e f n q) := by
          unfold p_one; rw [if_neg ht2, if_neg htn, if_pos ⟨h4, h0⟩, if_neg h45]; rfl
        simp only [↓e52_0, ↓e52_1, ↓e52_4, ↓e52_5, ↓e52_8, ↓e52_9, ↓e52_12, ↓e52_15, ↓e52_18, ↓e52_19, ↓e52_20, ↓e52_23, ↓e52_24, ↓e52_27, ↓e52_28, ↓e52_31, ↓e52_34, ↓e52_35, ↓e52_38, ↓e52_39, ↓e52_42, ↓e52_43, ↓e52_46, ↓e52_47, ↓e52_48, ↓e52_49, ↓e52_52, ↓e52_54, ↓e52_57, ↓e52_58, ↓e52_61, ↓e52_63, ↓e52_66, ↓e52_67, ↓e52_70, ↓e52_71, ↓e52_74, ↓e52_75, ↓e52_76, ↓e52_77, ↓e52_80, ↓e52_82, ↓e52_85, ↓e52_86, ↓e52_89, ↓e52_90, ↓e52_91, ↓e52_92, ↓e52_93, ↓e52_96, ↓e52_97, ↓e52_98, ↓e52_101, ↓e52_102, ↓e52_105, ↓e52_106, ↓e52_109, ↓e52_110, ↓e52_113, ↓e52_116, ↓e52_117, ↓e52_120, ↓e52_121, ↓e52_122, ↓e52_125, ↓e52_126, ↓e52_128, ↓e52_131, ↓e52_132, ↓e52_133, ↓e52_136, ↓e52_137, ↓e52_138, ↓e52_141, ↓e52_142, bc1_a, bd1, bd2, bd3, bd4, bd5, bd6, bd7, bd8, bd9, bd10, bd11, bd12, bd13, bd14, bd15, bd16, bd17, bd18, bd19, bd20, bd21, bd22, bd23, bd24, bd25, bd26, bd27, bd28, bd29, bd30, bd31, bd32, bd33, bd34, bd35, bd36, bd37, bd38, bd39, bc1_i, bc1_r, bc1_n, bc1_U, bisA_r, bisA_n, bisA_a, bct_i, bct_r, bct_n, bct_l, bcs_0, bcs_i, bcs_r, bcs_l, bcs_a, brt_0, brt_1, ↓bz0, ↓bz1, true_and, and_true, false_and, and_false, and_self, Nat.reduceAdd, Nat.reduceLeDiff, Nat.reduceSub, Nat.reduceEqDiff, ite_true, ite_false, if_true, if_false, h.1.1, e3, htt2, c_isName, hnm, i0eq, htt45, htt40, e6, ho, nI_1, gS_p]
        refine RS.look h160 hO rfl (fun M1 f1 h1 => ?_)
        simp only [↓e52_0, ↓e52_1, ↓e52_4, ↓e52_5, ↓e52_8, ↓e52_9, ↓e52_12, ↓e52_15, ↓e52_18, ↓e52_19, ↓e52_20, ↓e52_23, ↓e52_24, ↓e52_27, ↓e52_28, ↓e52_31, ↓e52_34, ↓e52_35, ↓e52_38, ↓e52_39, ↓e52_42, ↓e52_43, ↓e52_46, ↓e52_47, ↓e52_48, ↓e52_49, ↓e52_52, ↓e52_54, ↓e52_57, ↓e52_58, ↓e52_61, ↓e52_63, ↓e52_66, ↓e52_67, ↓e52_70, ↓e52_71, ↓e52_74, ↓e52_75, ↓e52_76, ↓e52_77, ↓e52_80, ↓e52_82, ↓e52_85, ↓e52_86, ↓e52_89, ↓e52_90, ↓e52_91, ↓e52_92, ↓e52_93, ↓e52_96, ↓e52_97, ↓e52_98, ↓e52_101, ↓e52_102, ↓e52_105, ↓e52_106, ↓e52_109, ↓e52_110, ↓e52_113, ↓e52_116, ↓e52_117, ↓e52_120, ↓e52_121, ↓e52_122, ↓e52_125, ↓e52_126, ↓e52_128, ↓e52_131, ↓e52_132, ↓e52_133, ↓e52_136, ↓e52_137, ↓e52_138, ↓e52_141, ↓e52_142, bc1_a, bd1, bd2, bd3, bd4, bd5, bd6, bd7, bd8, bd9, bd10, bd11, bd12, bd13, bd14, bd15, bd16, bd17, bd18, bd19, bd20, bd21, bd22, bd23, bd24, bd25, bd26, bd27, bd28, bd29, bd30, bd31, bd32, bd33, bd34, bd35, bd36, bd37, bd38, bd39, bc1_i, bc1_r, bc1_n, bc1_U, bisA_r, bisA_n, bisA_a, bct_i, bct_r, bct_n, bct_l, bcs_0, bcs_i, bcs_r, bcs_l, bcs_a, brt_0, brt_1, ↓bz0, ↓bz1, true_and, and_true, false_and, and_false, and_self, Nat.reduceAdd, Nat.reduceLeDiff, Nat.reduceSub, Nat.reduceEqDiff, ite_true, ite_false, if_true, if_false, h1.1.1, i0eq]
        refine hpar h0 M1 _ _ _ h1 (fun M2 b2 q2 e2 f2 h2 => ?_) (fun M2 s e2 f2 h2 => ?_)
        · have e62 := h2.2.2.2.2.1
          have h4' := RS.opn (o2 := o) h2
          simp only [↓e52_0, ↓e52_1, ↓e52_4, ↓e52_5, ↓e52_8, ↓e52_9, ↓e52_12, ↓e52_15, ↓e52_18, ↓e52_19, ↓e52_20, ↓e52_23, ↓e52_24, ↓e52_27, ↓e52_28, ↓e52_31, ↓e52_34, ↓e52_35, ↓e52_38, ↓e52_39, ↓e52_42, ↓e52_43, ↓e52_46, ↓e52_47, ↓e52_48, ↓e52_49, ↓e52_52, ↓e52_54, ↓e52_57, ↓e52_58, ↓e52_61, ↓e52_63, ↓e52_66, ↓e52_67, ↓e52_70, ↓e52_71, ↓e52_74, ↓e52_75, ↓e52_76, ↓e52_77, ↓e52_80, ↓e52_82, ↓e52_85, ↓e52_86, ↓e52_89, ↓e52_90, ↓e52_91, ↓e52_92, ↓e52_93, ↓e52_96, ↓e52_97, ↓e52_98, ↓e52_101, ↓e52_102, ↓e52_105, ↓e52_106, ↓e52_109, ↓e52_110, ↓e52_113, ↓e52_116, ↓e52_117, ↓e52_120, ↓e52_121, ↓e52_122, ↓e52_125, ↓e52_126, ↓e52_128, ↓e52_131, ↓e52_132, ↓e52_133, ↓e52_136, ↓e52_137, ↓e52_138, ↓e52_141, ↓e52_142, bc1_a, bd1, bd2, bd3, bd4, bd5, bd6, bd7, bd8, bd9, bd10, bd11, bd12, bd13, bd14, bd15, bd16, bd17, bd18, bd19, bd20, bd21, bd22, bd23, bd24, bd25, bd26, bd27, bd28, bd29, bd30, bd31, bd32, bd33, bd34, bd35, bd36, bd37, bd38, bd39, bc1_i, bc1_r, bc1_n, bc1_U, bisA_r, bisA_n, bisA_a, bct_i, bct_r, bct_n, bct_l, bcs_0, bcs_i, bcs_r, bcs_l, bcs_a, brt_0, brt_1, ↓bz0, ↓bz1, true_and, and_true, false_and, and_false, and_self, Nat.reduceAdd, Nat.reduceLeDiff, Nat.reduceSub, Nat.reduceEqDiff, ite_true, ite_false, if_true, if_false, h2.1.1, e62, nI_pred, i0eq]
          exact hq _ b2 q2 (hp.trans e2) ((f0.trans (f1.trans f2)).put2 (Or.inl rfl)) h4'
        · simp only [↓e52_0, ↓e52_1, ↓e52_4, ↓e52_5, ↓e52_8, ↓e52_9, ↓e52_12, ↓e52_15, ↓e52_18, ↓e52_19, ↓e52_20, ↓e52_23, ↓e52_24, ↓e52_27, ↓e52_28, ↓e52_31, ↓e52_34, ↓e52_35, ↓e52_38, ↓e52_39, ↓e52_42, ↓e52_43, ↓e52_46, ↓e52_47, ↓e52_48, ↓e52_49, ↓e52_52, ↓e52_54, ↓e52_57, ↓e52_58, ↓e52_61, ↓e52_63, ↓e52_66, ↓e52_67, ↓e52_70, ↓e52_71, ↓e52_74, ↓e52_75, ↓e52_76, ↓e52_77, ↓e52_80, ↓e52_82, ↓e52_85, ↓e52_86, ↓e52_89, ↓e52_90, ↓e52_91, ↓e52_92, ↓e52_93, ↓e52_96, ↓e52_97, ↓e52_98, ↓e52_101, ↓e52_102, ↓e52_105, ↓e52_106, ↓e52_109, ↓e52_110, ↓e52_113, ↓e52_116, ↓e52_117, ↓e52_120, ↓e52_121, ↓e52_122, ↓e52_125, ↓e52_126, ↓e52_128, ↓e52_131, ↓e52_132, ↓e52_133, ↓e52_136, ↓e52_137, ↓e52_138, ↓e52_141, ↓e52_142, bc1_a, bd1, bd2, bd3, bd4, bd5, bd6, bd7, bd8, bd9, bd10, bd11, bd12, bd13, bd14, bd15, bd16, bd17, bd18, bd19, bd20, bd21, bd22, bd23, bd24, bd25, bd26, bd27, bd28, bd29, bd30, bd31, bd32, bd33, bd34, bd35, bd36, bd37, bd38, bd39, bc1_i, bc1_r, bc1_n, bc1_U, bisA_r, bisA_n, bisA_a, bct_i, bct_r, bct_n, bct_l, bcs_0, bcs_i, bcs_r, bcs_l, bcs_a, brt_0, brt_1, ↓bz0, ↓bz1, true_and, and_true, false_and, and_false, and_self, Nat.reduceAdd, Nat.reduceLeDiff, Nat.reduceSub, Nat.reduceEqDiff, ite_true, ite_false, if_true, if_false, h2.1.1, i0eq]
          exact hq2 _ s (hp.trans e2) ((f0.trans (f1.trans f2)).put2 (Or.inl rfl)) h2.opn
    · have ho : (nI o < 5) = False := nI_lt0 (a := o) (b := 5) (by omega) (by omega)
      have hp : p_one f n r neg par q = .inr (t_s f n q) := by
        unfold p_one; rw [if_neg ht2, if_neg htn, if_neg (fun z => h0 z.2)]
      by_cases h45 : t_k f n q = 45
      · have htt45 : (nI (t_k f n q) = 45) = True := t_k_is (by decide) h45
        simp only [↓e52_0, ↓e52_1, ↓e52_4, ↓e52_5, ↓e52_8, ↓e52_9, ↓e52_12, ↓e52_15, ↓e52_18, ↓e52_19, ↓e52_20, ↓e52_23, ↓e52_24, ↓e52_27, ↓e52_28, ↓e52_31, ↓e52_34, ↓e52_35, ↓e52_38, ↓e52_39, ↓e52_42, ↓e52_43, ↓e52_46, ↓e52_47, ↓e52_48, ↓e52_49, ↓e52_52, ↓e52_54, ↓e52_57, ↓e52_58, ↓e52_61, ↓e52_63, ↓e52_66, ↓e52_67, ↓e52_70, ↓e52_71, ↓e52_74, ↓e52_75, ↓e52_76, ↓e52_77, ↓e52_80, ↓e52_82, ↓e52_85, ↓e52_86, ↓e52_89, ↓e52_90, ↓e52_91, ↓e52_92, ↓e52_93, ↓e52_96, ↓e52_97, ↓e52_98, ↓e52_101, ↓e52_102, ↓e52_105, ↓e52_106, ↓e52_109, ↓e52_110, ↓e52_113, ↓e52_116, ↓e52_117, ↓e52_120, ↓e52_121, ↓e52_122, ↓e52_125, ↓e52_126, ↓e52_128, ↓e52_131, ↓e52_132, ↓e52_133, ↓e52_136, ↓e52_137, ↓e52_138, ↓e52_141, ↓e52_142, bc1_a, bd1, bd2, bd3, bd4, bd5, bd6, bd7, bd8, bd9, bd10, bd11, bd12, bd13, bd14, bd15, bd16, bd17, bd18, bd19, bd20, bd21, bd22, bd23, bd24, bd25, bd26, bd27, bd28, bd29, bd30, bd31, bd32, bd33, bd34, bd35, bd36, bd37, bd38, bd39, bc1_i, bc1_r, bc1_n, bc1_U, bisA_r, bisA_n, bisA_a, bct_i, bct_r, bct_n, bct_l, bcs_0, bcs_i, bcs_r, bcs_l, bcs_a, brt_0, brt_1, ↓bz0, ↓bz1, true_and, and_true, false_and, and_false, and_self, Nat.reduceAdd, Nat.reduceLeDiff, Nat.reduceSub, Nat.reduceEqDiff, ite_true, ite_false, if_true, if_false, h.1.1, e3, htt2, c_isName, hnm, i0eq, htt45, e6, ho]
        exact hq2 M _ hp Fr.rf (h.nf h160)
      · have htt45 : (nI (t_k f n q) = 45) = False := t_k_not (by decide) h45
        have h40 : t_k f n q = 40 := by omega
        have htt40 : (nI (t_k f n q) = 40) = True := t_k_is (by decide) h40
        simp only [↓e52_0, ↓e52_1, ↓e52_4, ↓e52_5, ↓e52_8, ↓e52_9, ↓e52_12, ↓e52_15, ↓e52_18, ↓e52_19, ↓e52_20, ↓e52_23, ↓e52_24, ↓e52_27, ↓e52_28, ↓e52_31, ↓e52_34, ↓e52_35, ↓e52_38, ↓e52_39, ↓e52_42, ↓e52_43, ↓e52_46, ↓e52_47, ↓e52_48, ↓e52_49, ↓e52_52, ↓e52_54, ↓e52_57, ↓e52_58, ↓e52_61, ↓e52_63, ↓e52_66, ↓e52_67, ↓e52_70, ↓e52_71, ↓e52_74, ↓e52_75, ↓e52_76, ↓e52_77, ↓e52_80, ↓e52_82, ↓e52_85, ↓e52_86, ↓e52_89, ↓e52_90, ↓e52_91, ↓e52_92, ↓e52_93, ↓e52_96, ↓e52_97, ↓e52_98, ↓e52_101, ↓e52_102, ↓e52_105, ↓e52_106, ↓e52_109, ↓e52_110, ↓e52_113, ↓e52_116, ↓e52_117, ↓e52_120, ↓e52_121, ↓e52_122, ↓e52_125, ↓e52_126, ↓e52_128, ↓e52_131, ↓e52_132, ↓e52_133, ↓e52_136, ↓e52_137, ↓e52_138, ↓e52_141, ↓e52_142, bc1_a, bd1, bd2, bd3, bd4, bd5, bd6, bd7, bd8, bd9, bd10, bd11, bd12, bd13, bd14, bd15, bd16, bd17, bd18, bd19, bd20, bd21, bd22, bd23, bd24, bd25, bd26, bd27, bd28, bd29, bd30, bd31, bd32, bd33, bd34, bd35, bd36, bd37, bd38, bd39, bc1_i, bc1_r, bc1_n, bc1_U, bisA_r, bisA_n, bisA_a, bct_i, bct_r, bct_n, bct_l, bcs_0, bcs_i, bcs_r, bcs_l, bcs_a, brt_0, brt_1, ↓bz0, ↓bz1, true_and, and_true, false_and, and_false, and_self, Nat.reduceAdd, Nat.reduceLeDiff, Nat.reduceSub, Nat.reduceEqDiff, ite_true, ite_false, if_true, if_false, h.1.1, e3, htt2, c_isName, hnm, i0eq, htt45, htt40, e6, ho]
        exact hq2 M _ hp Fr.rf (h.nf h160)
  · have hp : p_one f n r neg par q = .inr (t_s f n q) := by
      unfold p_one; rw [if_neg ht2, if_neg htn, if_neg (fun z => h4 z.1)]
    have htt45 : (nI (t_k f n q) = 45) = False := t_k_not (by decide) (fun z => h4 (Or.inl z))
    have htt40 : (nI (t_k f n q) = 40) = False := t_k_not (by decide) (fun z => h4 (Or.inr z))
    simp only [↓e52_0, ↓e52_1, ↓e52_4, ↓e52_5, ↓e52_8, ↓e52_9, ↓e52_12, ↓e52_15, ↓e52_18, ↓e52_19, ↓e52_20, ↓e52_23, ↓e52_24, ↓e52_27, ↓e52_28, ↓e52_31, ↓e52_34, ↓e52_35, ↓e52_38, ↓e52_39, ↓e52_42, ↓e52_43, ↓e52_46, ↓e52_47, ↓e52_48, ↓e52_49, ↓e52_52, ↓e52_54, ↓e52_57, ↓e52_58, ↓e52_61, ↓e52_63, ↓e52_66, ↓e52_67, ↓e52_70, ↓e52_71, ↓e52_74, ↓e52_75, ↓e52_76, ↓e52_77, ↓e52_80, ↓e52_82, ↓e52_85, ↓e52_86, ↓e52_89, ↓e52_90, ↓e52_91, ↓e52_92, ↓e52_93, ↓e52_96, ↓e52_97, ↓e52_98, ↓e52_101, ↓e52_102, ↓e52_105, ↓e52_106, ↓e52_109, ↓e52_110, ↓e52_113, ↓e52_116, ↓e52_117, ↓e52_120, ↓e52_121, ↓e52_122, ↓e52_125, ↓e52_126, ↓e52_128, ↓e52_131, ↓e52_132, ↓e52_133, ↓e52_136, ↓e52_137, ↓e52_138, ↓e52_141, ↓e52_142, bc1_a, bd1, bd2, bd3, bd4, bd5, bd6, bd7, bd8, bd9, bd10, bd11, bd12, bd13, bd14, bd15, bd16, bd17, bd18, bd19, bd20, bd21, bd22, bd23, bd24, bd25, bd26, bd27, bd28, bd29, bd30, bd31, bd32, bd33, bd34, bd35, bd36, bd37, bd38, bd39, bc1_i, bc1_r, bc1_n, bc1_U, bisA_r, bisA_n, bisA_a, bct_i, bct_r, bct_n, bct_l, bcs_0, bcs_i, bcs_r, bcs_l, bcs_a, brt_0, brt_1, ↓bz0, ↓bz1, true_and, and_true, false_and, and_false, and_self, Nat.reduceAdd, Nat.reduceLeDiff, Nat.reduceSub, Nat.reduceEqDiff, ite_true, ite_false, if_true, if_false, h.1.1, e3, htt2, c_isName, hnm, i0eq, htt45, htt40]
    exact hq2 M _ hp Fr.rf (h.nf h160)
end
