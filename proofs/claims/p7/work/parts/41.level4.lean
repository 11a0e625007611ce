/-! THE READER: all levels, sentences -/
section
variable {L : Nat} {xs : Nat → Int32} {f : Nat → Int32} {n o : Nat}
theorem c_chain1 {e : Nat} {one : Nat → PR} (h160 : n ≤ 160) (h52 : RC L xs f n o (e + 6) 52 one) (ho : p_ok f n one) : RC L xs f n o (e + 9) 49 (p_cmp f n one) := by
  have h1 : RC L xs f n o (e + 7) 51 (p_ch f n q_mul one) := c_51 (d := e) h160 h52 ho
  have h2 : RC L xs f n o (e + 8) 50 (p_ch f n q_add (p_ch f n q_mul one)) := c_50 (d := e + 1) h160 h1 (p_ch_ok rfl ho)
  exact c_49 (d := e + 2) h160 h2 ho
theorem c_chain2 {e : Nat} {nt : Nat → PR} (h160 : n ≤ 160) (h48 : RC L xs f n o (e + 6) 48 nt) (ho : p_ok f n nt) : RC L xs f n o (e + 8) 46 (p_or f n nt) := by
  have h1 : RC L xs f n o (e + 7) 47 (p_ch f n q_and nt) := c_47 (d := e) h160 h48 ho
  exact c_46 (d := e + 1) h160 h1 (p_ch_ok rfl ho)
theorem c_lv (h160 : n ≤ 160) : ∀ (r o : Nat), r + o = 5 → ∃ a, a = 8 * r ∧ ∀ d, RC L xs f n o (d + a + 7) 52 (p_lv f n r).1 ∧ RC L xs f n o (d + a + 11) 48 (p_lv f n r).2.1 ∧ RC L xs f n o (d + a + 13) 46 (p_lv f n r).2.2
  | 0, o, hr => by
    refine ⟨0, rfl, fun d => ?_⟩
    have z1 : ∀ {P : Prop}, 0 < 0 → P := fun h => absurd h (Nat.lt_irrefl 0)
    obtain ⟨k1, k2, k3⟩ := p_lv_ok (f := f) (n := n) 0
    have h1 : RC L xs f n o (d + 7) 52 (p_lv f n 0).1 := c_52 (L := L) (xs := xs) (f := f) (neg := p_no) (par := p_no) (d := d) h160 hr (fun h => z1 h) (fun h => z1 h) (fun h => z1 h)
    have h2 : RC L xs f n o (d + 10) 49 (p_cmp f n (p_lv f n 0).1) := c_chain1 (e := d + 1) h160 h1 k1
    have h3 : RC L xs f n o (d + 11) 48 (p_lv f n 0).2.1 := c_48 (L := L) (xs := xs) (f := f) (inn := p_no) (d := d + 4) h160 hr (fun h => z1 h) (fun h => z1 h) h2
    have h4 : RC L xs f n o (d + 13) 46 (p_lv f n 0).2.2 := c_chain2 (e := d + 5) h160 h3 k2
    exact ⟨h1, h3, h4⟩
  | r + 1, o, hr => by
    obtain ⟨a, ha, ih⟩ := c_lv h160 r (o + 1) (by omega)
    refine ⟨a + 8, by omega, fun d => ?_⟩
    obtain ⟨k1, k2, k3⟩ := p_lv_ok (f := f) (n := n) (r + 1)
    obtain ⟨j1, j2, j3⟩ := p_lv_ok (f := f) (n := n) r
    have g1 : RC L xs f n (o + 1) (d + a + 14) 52 (p_lv f n r).1 := by
      have := (ih (d + 7)).1
      rwa [show d + 7 + a + 7 = d + a + 14 by omega] at this
    have g2 : RC L xs f n (o + 1) (d + a + 18) 48 (p_lv f n r).2.1 := by
      have := (ih (d + 7)).2.1
      rwa [show d + 7 + a + 11 = d + a + 18 by omega] at this
    have g3 : RC L xs f n (o + 1) (d + a + 13) 46 (p_lv f n r).2.2 := (ih d).2.2
    have g4 : RC L xs f n (o + 1) (d + a + 14) 53 (p_par f n (p_lv f n r).2.2) := c_53 (d := d + a + 7) h160 g3
    have h1 : RC L xs f n o (d + a + 15) 52 (p_lv f n (r + 1)).1 := c_52 (d := d + a + 8) h160 hr (fun _ => g1) (fun _ => j1) (fun _ => g4)
    have h2 : RC L xs f n o (d + a + 18) 49 (p_cmp f n (p_lv f n (r + 1)).1) := c_chain1 (e := d + a + 9) h160 h1 k1
    have h3 : RC L xs f n o (d + a + 19) 48 (p_lv f n (r + 1)).2.1 := c_48 (d := d + a + 12) h160 hr (fun _ => g2) (fun _ => j2) h2
    have h4 : RC L xs f n o (d + a + 21) 46 (p_lv f n (r + 1)).2.2 := c_chain2 (e := d + a + 13) h160 h3 k2
    exact ⟨h1, h3, h4⟩
/-- an E with nothing opened -/
theorem c_E (h160 : n ≤ 160) (d : Nat) : RC L xs f n 0 (d + 53) 46 (p_lv f n 5).2.2 := by
  obtain ⟨a, ha, h⟩ := c_lv (L := L) (xs := xs) (f := f) h160 5 0 rfl
  subst ha
  exact (h d).2.2
def S578 (o : Nat) : Prop := o = 5 ∨ o = 7 ∨ o = 8
theorem S57_8 (o : Nat) (h : S57 o) : S578 o := by
  rcases h with h | h
  · exact Or.inl h
  · exact Or.inr (Or.inl h)
theorem RS.put8 {q k : Nat} {c : List Int32} {x : Int32} {M : mm_H} (h : RS f n q o c M) : RS f n q o c (pI M 8 k x) := by
  unfold RS RT
  rw [gI_pf (show (6 : Nat) ≠ 8 by decide), gI_pf (show (5 : Nat) ≠ 8 by decide), gI_pf (show (7 : Nat) ≠ 8 by decide)]
  exact h
variable {d : Nat} {M : mm_H} {Q : Option Value → mm_H → Prop}
theorem RC.no8 {D m : Nat} {item : Nat → PR} (h : RC L xs f n o D m item) {q : Nat} {c : List Int32} (hs : RS f n q o c M)
    (hq : ∀ M' b q', item q = .inl (b, q') → Fr S57 M M' → RS f n q' o (c ++ b) M' → Q (some (.int 1)) M')
    (hq2 : ∀ M' s, item q = .inr s → Fr S57 M M' → RF f n s M' → Q (some (.int 0)) M') : Call L xs D m [.ref 5] M Q := h M Q q c hs hq hq2
/-- one sentence -/
theorem l_45 {i q : Nat} {c : List Int32} (h160 : n ≤ 160) (hi : i < 3) (h : RS f n q 0 c M)
    (hq : ∀ M' b q', p_sent f n (9 + i) q = .inl (b, q') → Fr S578 M M' → RS f n q' 0 (c ++ b) M' → (∀ k, gI M' 8 k = if k = i then nI c.length else gI M 8 k) → (c ++ b).length < q' → Wp L xs (d + 54) 45 21 [.ref 5, .int (nI (i + 1))] [] M' Q)
    (hq2 : ∀ M' s, p_sent f n (9 + i) q = .inr s → Fr S578 M M' → RF f n s M' → Q (some .null) M') : Wp L xs (d + 54) 45 21 [.ref 5, .int (nI i)] [] M Q := by
  obtain ⟨r1, r2, r3, r4, r5, r6, r7, r8, r9, r10⟩ := id h.1
  have hc : (2 < nI i) = False := nI_lt0 (a := 2) (b := i) (by omega) (by decide)
  have h0 : 0 ≤ nI i := nI_pos' (by omega)
  have h1 : (nI i).toNatClampNeg = i := nI_clamp (by omega)
  have e8 := h.2.2.2.2.2.1.1
  have e3 := h.2.2.2.1.2.2.1
  have h9 : (9 : Int32) + nI i = nI (9 + i) := nI_add 9 i
  have hS := RS.put8 (k := i) (x := nI c.length) h
  have f0 : Fr S578 M (pI M 8 i (nI c.length)) := Fr.put (Or.inr (Or.inr rfl))
  have h58 : ((5 : Nat) = 8) = False := by simp
  rw [e45_21]
  by_cases ht : t_k f n q = 9 + i
  · have htt : (nI (t_k f n q) = nI (9 + i)) = True := t_k_is (by omega) ht
    have hk0 : t_k f n q ≠ 0 := by omega
    simp only [↓e45_0, ↓e45_1, ↓e45_2, ↓e45_5, ↓e45_6, ↓e45_7, ↓e45_10, ↓e45_11, ↓e45_12, ↓e45_15, ↓e45_16, ↓e45_19, ↓e45_20, ↓e45_22, ↓e45_23, ↓e45_26, ↓e45_27, ↓e45_30, ↓e45_31, ↓e45_32, ↓e45_35, ↓e45_36, ↓e45_37, ↓e45_40, ↓e45_42, ↓e45_43, ↓e45_44, ↓e45_47, ↓e45_48n, ↓e45_48, ↓e45_49, ↓e45_50, ↓e45_53, ↓e45_54, ↓e45_57, ↓e45_60, ↓e45_61, ↓e45_64, ↓e45_66, ↓e45_69, ↓e45_70n, ↓e45_70, ↓e45_71, ↓e45_72, ↓e45_75, ↓e45_78, ↓e45_81, ↓e45_82, ↓e45_85, ↓e45_88, ↓e45_91, ↓e45_92, ↓e45_93, ↓e45_96, ↓e45_97, ↓e45_100, ↓e45_103, ↓e45_104, ↓e45_107, ↓e45_108, ↓e45_109, ↓e45_110, ↓e45_113, ↓e45_114, ↓e45_115, ↓e45_118, ↓e45_121, ↓e45_122n, ↓e45_122, bc1_a, bd1, bd2, bd3, bd4, bd5, bd6, bd7, bd8, bd9, bd10, bd11, bd12, bd13, bd14, bd15, bd16, bd17, bd18, bd19, bd20, bd21, bd22, bd23, bd24, bd25, bd26, bd27, bd28, bd29, bd30, bd31, bd32, bd33, bd34, bd35, bd36, bd37, bd38, bd39, bc1_i, bc1_r, bc1_n, bc1_U, bisA_r, bisA_n, bisA_a, bct_i, bct_r, bct_n, bct_l, bcs_0, bcs_i, bcs_r, bcs_l, bcs_a, brt_0, brt_1, ↓bz0, ↓bz1, true_and, and_true, false_and, and_false, and_self, Nat.reduceAdd, Nat.reduceLeDiff, Nat.reduceSub, Nat.reduceEqDiff, ite_true, ite_false, if_true, if_false, hc, r1, r4, r9, r10, e8, e3, h0, h1, hi, gS_p, gR_p, gI_p, h58, h9, htt]
    refine RS.look h160 hS rfl (fun M1 f1 h1' => ?_)
    simp only [↓e45_0, ↓e45_1, ↓e45_2, ↓e45_5, ↓e45_6, ↓e45_7, ↓e45_10, ↓e45_11, ↓e45_12, ↓e45_15, ↓e45_16, ↓e45_19, ↓e45_20, ↓e45_22, ↓e45_23, ↓e45_26, ↓e45_27, ↓e45_30, ↓e45_31, ↓e45_32, ↓e45_35, ↓e45_36, ↓e45_37, ↓e45_40, ↓e45_42, ↓e45_43, ↓e45_44, ↓e45_47, ↓e45_48n, ↓e45_48, ↓e45_49, ↓e45_50, ↓e45_53, ↓e45_54, ↓e45_57, ↓e45_60, ↓e45_61, ↓e45_64, ↓e45_66, ↓e45_69, ↓e45_70n, ↓e45_70, ↓e45_71, ↓e45_72, ↓e45_75, ↓e45_78, ↓e45_81, ↓e45_82, ↓e45_85, ↓e45_88, ↓e45_91, ↓e45_92, ↓e45_93, ↓e45_96, ↓e45_97, ↓e45_100, ↓e45_103, ↓e45_104, ↓e45_107, ↓e45_108, ↓e45_109, ↓e45_110, ↓e45_113, ↓e45_114, ↓e45_115, ↓e45_118, ↓e45_121, ↓e45_122n, ↓e45_122, bc1_a, bd1, bd2, bd3, bd4, bd5, bd6, bd7, bd8, bd9, bd10, bd11, bd12, bd13, bd14, bd15, bd16, bd17, bd18, bd19, bd20, bd21, bd22, bd23, bd24, bd25, bd26, bd27, bd28, bd29, bd30, bd31, bd32, bd33, bd34, bd35, bd36, bd37, bd38, bd39, bc1_i, bc1_r, bc1_n, bc1_U, bisA_r, bisA_n, bisA_a, bct_i, bct_r, bct_n, bct_l, bcs_0, bcs_i, bcs_r, bcs_l, bcs_a, brt_0, brt_1, ↓bz0, ↓bz1, true_and, and_true, false_and, and_false, and_self, Nat.reduceAdd, Nat.reduceLeDiff, Nat.reduceSub, Nat.reduceEqDiff, ite_true, ite_false, if_true, if_false, h1'.1.1]
    refine (c_E h160 d).no8 h1' (fun M2 b2 q2 e2 f2 h2 => ?_) (fun M2 s e2 f2 h2 => ?_)
    · have hl := ((p_lv_ok (f := f) (n := n) 5).2.2 _ h1'.2.2.2.2.2.2.2 _ e2).1
      have hlen := RS.op1 h2 hk0 h.2.2.2.2.2.2.1 hl
      have e32 := h2.2.2.2.1.2.2.1
      by_cases ht2 : t_k f n q2 = 59
      · have htt2 : (nI (t_k f n q2) = 59) = True := t_k_is (by decide) ht2
        simp only [↓e45_0, ↓e45_1, ↓e45_2, ↓e45_5, ↓e45_6, ↓e45_7, ↓e45_10, ↓e45_11, ↓e45_12, ↓e45_15, ↓e45_16, ↓e45_19, ↓e45_20, ↓e45_22, ↓e45_23, ↓e45_26, ↓e45_27, ↓e45_30, ↓e45_31, ↓e45_32, ↓e45_35, ↓e45_36, ↓e45_37, ↓e45_40, ↓e45_42, ↓e45_43, ↓e45_44, ↓e45_47, ↓e45_48n, ↓e45_48, ↓e45_49, ↓e45_50, ↓e45_53, ↓e45_54, ↓e45_57, ↓e45_60, ↓e45_61, ↓e45_64, ↓e45_66, ↓e45_69, ↓e45_70n, ↓e45_70, ↓e45_71, ↓e45_72, ↓e45_75, ↓e45_78, ↓e45_81, ↓e45_82, ↓e45_85, ↓e45_88, ↓e45_91, ↓e45_92, ↓e45_93, ↓e45_96, ↓e45_97, ↓e45_100, ↓e45_103, ↓e45_104, ↓e45_107, ↓e45_108, ↓e45_109, ↓e45_110, ↓e45_113, ↓e45_114, ↓e45_115, ↓e45_118, ↓e45_121, ↓e45_122n, ↓e45_122, bc1_a, bd1, bd2, bd3, bd4, bd5, bd6, bd7, bd8, bd9, bd10, bd11, bd12, bd13, bd14, bd15, bd16, bd17, bd18, bd19, bd20, bd21, bd22, bd23, bd24, bd25, bd26, bd27, bd28, bd29, bd30, bd31, bd32, bd33, bd34, bd35, bd36, bd37, bd38, bd39, bc1_i, bc1_r, bc1_n, bc1_U, bisA_r, bisA_n, bisA_a, bct_i, bct_r, bct_n, bct_l, bcs_0, bcs_i, bcs_r, bcs_l, bcs_a, brt_0, brt_1, ↓bz0, ↓bz1, true_and, and_true, false_and, and_false, and_self, Nat.reduceAdd, Nat.reduceLeDiff, Nat.reduceSub, Nat.reduceEqDiff, ite_true, ite_false, if_true, if_false, h2.1.1, i1ne, e32, htt2]
        refine RS.look h160 h2 rfl (fun M3 f3 h3 => ?_)
        have hgt := t_k_gt (f := f) (n := n) (p := q2) (by rw [ht2]; decide)
        have hge := t_s_ge (f := f) (n := n) q2
        have f57 : Fr S57 (pI M 8 i (nI c.length)) M3 := f1.trans (f2.trans f3)
        have hfin := hq M3 b2 _ (by unfold p_sent; rw [if_pos ht, e2]; exact if_pos ht2) (f0.trans (f57.weak S57_8)) h3 (fun k => by rw [f57.2.2 8 (by unfold S57; omega) k, gI_p]; by_cases e : k = i <;> simp [e]) (by omega)
        simp only [↓e45_0, ↓e45_1, ↓e45_2, ↓e45_5, ↓e45_6, ↓e45_7, ↓e45_10, ↓e45_11, ↓e45_12, ↓e45_15, ↓e45_16, ↓e45_19, ↓e45_20, ↓e45_22, ↓e45_23, ↓e45_26, ↓e45_27, ↓e45_30, ↓e45_31, ↓e45_32, ↓e45_35, ↓e45_36, ↓e45_37, ↓e45_40, ↓e45_42, ↓e45_43, ↓e45_44, ↓e45_47, ↓e45_48n, ↓e45_48, ↓e45_49, ↓e45_50, ↓e45_53, ↓e45_54, ↓e45_57, ↓e45_60, ↓e45_61, ↓e45_64, ↓e45_66, ↓e45_69, ↓e45_70n, ↓e45_70, ↓e45_71, ↓e45_72, ↓e45_75, ↓e45_78, ↓e45_81, ↓e45_82, ↓e45_85, ↓e45_88, ↓e45_91, ↓e45_92, ↓e45_93, ↓e45_96, ↓e45_97, ↓e45_100, ↓e45_103, ↓e45_104, ↓e45_107, ↓e45_108, ↓e45_109, ↓e45_110, ↓e45_113, ↓e45_114, ↓e45_115, ↓e45_118, ↓e45_121, ↓e45_122n, ↓e45_122, bc1_a, bd1, bd2, bd3, bd4, bd5, bd6, bd7, bd8, bd9, bd10, bd11, bd12, bd13, bd14, bd15, bd16, bd17, bd18, bd19, bd20, bd21, bd22, bd23, bd24, bd25, bd26, bd27, bd28, bd29, bd30, bd31, bd32, bd33, bd34, bd35, bd36, bd37, bd38, bd39, bc1_i, bc1_r, bc1_n, bc1_U, bisA_r, bisA_n, bisA_a, bct_i, bct_r, bct_n, bct_l, bcs_0, bcs_i, bcs_r, bcs_l, bcs_a, brt_0, brt_1, ↓bz0, ↓bz1, true_and, and_true, false_and, and_false, and_self, Nat.reduceAdd, Nat.reduceLeDiff, Nat.reduceSub, Nat.reduceEqDiff, ite_true, ite_false, if_true, if_false, nI_1]
        exact hfin
      · have htt2 : (nI (t_k f n q2) = 59) = False := t_k_not (by decide) ht2
        simp only [↓e45_0, ↓e45_1, ↓e45_2, ↓e45_5, ↓e45_6, ↓e45_7, ↓e45_10, ↓e45_11, ↓e45_12, ↓e45_15, ↓e45_16, ↓e45_19, ↓e45_20, ↓e45_22, ↓e45_23, ↓e45_26, ↓e45_27, ↓e45_30, ↓e45_31, ↓e45_32, ↓e45_35, ↓e45_36, ↓e45_37, ↓e45_40, ↓e45_42, ↓e45_43, ↓e45_44, ↓e45_47, ↓e45_48n, ↓e45_48, ↓e45_49, ↓e45_50, ↓e45_53, ↓e45_54, ↓e45_57, ↓e45_60, ↓e45_61, ↓e45_64, ↓e45_66, ↓e45_69, ↓e45_70n, ↓e45_70, ↓e45_71, ↓e45_72, ↓e45_75, ↓e45_78, ↓e45_81, ↓e45_82, ↓e45_85, ↓e45_88, ↓e45_91, ↓e45_92, ↓e45_93, ↓e45_96, ↓e45_97, ↓e45_100, ↓e45_103, ↓e45_104, ↓e45_107, ↓e45_108, ↓e45_109, ↓e45_110, ↓e45_113, ↓e45_114, ↓e45_115, ↓e45_118, ↓e45_121, ↓e45_122n, ↓e45_122, bc1_a, bd1, bd2, bd3, bd4, bd5, bd6, bd7, bd8, bd9, bd10, bd11, bd12, bd13, bd14, bd15, bd16, bd17, bd18, bd19, bd20, bd21, bd22, bd23, bd24, bd25, bd26, bd27, bd28, bd29, bd30, bd31, bd32, bd33, bd34, bd35, bd36, bd37, bd38, bd39, bc1_i, bc1_r, bc1_n, bc1_U, bisA_r, bisA_n, bisA_a, bct_i, bct_r, bct_n, bct_l, bcs_0, bcs_i, bcs_r, bcs_l, bcs_a, brt_0, brt_1, ↓bz0, ↓bz1, true_and, and_true, false_and, and_false, and_self, Nat.reduceAdd, Nat.reduceLeDiff, Nat.reduceSub, Nat.reduceEqDiff, ite_true, ite_false, if_true, if_false, h2.1.1, i1ne, e32, htt2]
        exact hq2 M2 _ (by unfold p_sent; rw [if_pos ht, e2]; exact if_neg ht2) (f0.trans ((f1.trans f2).weak S57_8)) (h2.nf h160)
    · simp only [↓e45_0, ↓e45_1, ↓e45_2, ↓e45_5, ↓e45_6, ↓e45_7, ↓e45_10, ↓e45_11, ↓e45_12, ↓e45_15, ↓e45_16, ↓e45_19, ↓e45_20, ↓e45_22, ↓e45_23, ↓e45_26, ↓e45_27, ↓e45_30, ↓e45_31, ↓e45_32, ↓e45_35, ↓e45_36, ↓e45_37, ↓e45_40, ↓e45_42, ↓e45_43, ↓e45_44, ↓e45_47, ↓e45_48n, ↓e45_48, ↓e45_49, ↓e45_50, ↓e45_53, ↓e45_54, ↓e45_57, ↓e45_60, ↓e45_61, ↓e45_64, ↓e45_66, ↓e45_69, ↓e45_70n, ↓e45_70, ↓e45_71, ↓e45_72, ↓e45_75, ↓e45_78, ↓e45_81, ↓e45_82, ↓e45_85, ↓e45_88, ↓e45_91, ↓e45_92, ↓e45_93, ↓e45_96, ↓e45_97, ↓e45_100, ↓e45_103, ↓e45_104, ↓e45_107, ↓e45_108, ↓e45_109, ↓e45_110, ↓e45_113, ↓e45_114, ↓e45_115, ↓e45_118, ↓e45_121, ↓e45_122n, ↓e45_122, bc1_a, bd1, bd2, bd3, bd4, bd5, bd6, bd7, bd8, bd9, bd10, bd11, bd12, bd13, bd14, bd15, bd16, bd17, bd18, bd19, bd20, bd21, bd22, bd23, bd24, bd25, bd26, bd27, bd28, bd29, bd30, bd31, bd32, bd33, bd34, bd35, bd36, bd37, bd38, bd39, bc1_i, bc1_r, bc1_n, bc1_U, bisA_r, bisA_n, bisA_a, bct_i, bct_r, bct_n, bct_l, bcs_0, bcs_i, bcs_r, bcs_l, bcs_a, brt_0, brt_1, ↓bz0, ↓bz1, true_and, and_true, false_and, and_false, and_self, Nat.reduceAdd, Nat.reduceLeDiff, Nat.reduceSub, Nat.reduceEqDiff, ite_true, ite_false, if_true, if_false, i0eq]
      exact hq2 M2 s (by unfold p_sent; rw [if_pos ht, e2]) (f0.trans ((f1.trans f2).weak S57_8)) h2
  · have htt : (nI (t_k f n q) = nI (9 + i)) = False := t_k_not (by omega) ht
    simp only [↓e45_0, ↓e45_1, ↓e45_2, ↓e45_5, ↓e45_6, ↓e45_7, ↓e45_10, ↓e45_11, ↓e45_12, ↓e45_15, ↓e45_16, ↓e45_19, ↓e45_20, ↓e45_22, ↓e45_23, ↓e45_26, ↓e45_27, ↓e45_30, ↓e45_31, ↓e45_32, ↓e45_35, ↓e45_36, ↓e45_37, ↓e45_40, ↓e45_42, ↓e45_43, ↓e45_44, ↓e45_47, ↓e45_48n, ↓e45_48, ↓e45_49, ↓e45_50, ↓e45_53, ↓e45_54, ↓e45_57, ↓e45_60, ↓e45_61, ↓e45_64, ↓e45_66, ↓e45_69, ↓e45_70n, ↓e45_70, ↓e45_71, ↓e45_72, ↓e45_75, ↓e45_78, ↓e45_81, ↓e45_82, ↓e45_85, ↓e45_88, ↓e45_91, ↓e45_92, ↓e45_93, ↓e45_96, ↓e45_97, ↓e45_100, ↓e45_103, ↓e45_104, ↓e45_107, ↓e45_108, ↓e45_109, ↓e45_110, ↓e45_113, ↓e45_114, ↓e45_115, ↓e45_118, ↓e45_121, ↓e45_122n, ↓e45_122, bc1_a, bd1, bd2, bd3, bd4, bd5, bd6, bd7, bd8, bd9, bd10, bd11, bd12, bd13, bd14, bd15, bd16, bd17, bd18, bd19, bd20, bd21, bd22, bd23, bd24, bd25, bd26, bd27, bd28, bd29, bd30, bd31, bd32, bd33, bd34, bd35, bd36, bd37, bd38, bd39, bc1_i, bc1_r, bc1_n, bc1_U, bisA_r, bisA_n, bisA_a, bct_i, bct_r, bct_n, bct_l, bcs_0, bcs_i, bcs_r, bcs_l, bcs_a, brt_0, brt_1, ↓bz0, ↓bz1, true_and, and_true, false_and, and_false, and_self, Nat.reduceAdd, Nat.reduceLeDiff, Nat.reduceSub, Nat.reduceEqDiff, ite_true, ite_false, if_true, if_false, hc, r1, r4, r9, r10, e8, e3, h0, h1, hi, gS_p, gR_p, gI_p, h58, h9, htt]
    exact hq2 _ _ (by unfold p_sent; rw [if_neg ht]) f0 (hS.nf h160)
end
