/-! THE READER: read (2) -/
section
variable {L : Nat} {xs : Nat → Int32} {d : Nat} {M : mm_H} {Q : Option Value → mm_H → Prop} {f : Nat → Int32} {n : Nat}
theorem Fr.gN2 {S : Nat → Prop} {M M' : mm_H} (h : Fr S M M') : gN M' = gN M := h.hNZ.1
theorem Fr.gZ2 {S : Nat → Prop} {M M' : mm_H} (h : Fr S M M') : gZ M' = gZ M := h.hNZ.2
theorem Fr.fn {S : Nat → Prop} {M M' : mm_H} (h : Fr S M M') : FN S M M' := ⟨Nat.le_of_eq h.gN2.symm, fun o _ => ⟨h.hS o, h.hL o⟩, fun o k _ q => h.2.1 o k q, fun o _ q => h.2.2 o q⟩
theorem FN.trans {S : Nat → Prop} {M M1 M2 : mm_H} (h : FN S M M1) (h2 : FN S M1 M2) : FN S M M2 :=
  ⟨Nat.le_trans h.1 h2.1, fun o ho => ⟨((h2.2.1 o (Nat.lt_of_lt_of_le ho h.1)).1).trans (h.2.1 o ho).1, ((h2.2.1 o (Nat.lt_of_lt_of_le ho h.1)).2).trans (h.2.1 o ho).2⟩, fun o k ho q => (h2.2.2.1 o k (Nat.lt_of_lt_of_le ho h.1) q).trans (h.2.2.1 o k ho q), fun o ho q k => (h2.2.2.2 o (Nat.lt_of_lt_of_le ho h.1) q k).trans (h.2.2.2 o ho q k)⟩
/-- the end of a text: its cells -/
theorem l_45e {l s1 s2 : Nat} {code : List Int32} (hr : Rd M) (h8 : gI M 5 8 = nI l) (hl : l < 160) (hN : 9 ≤ gN M) (h3 : gI M 5 3 = 0) (g1 : gI M 8 1 = nI s1) (g2 : gI M 8 2 = nI s2) (hlc : code.length = l) (hcode : ∀ i, i < code.length → gI M 7 i = code.getD i 0)
    (hq : ∀ M', FN S578 M M' → gN M' = gN M + 2 → gZ M' = gZ M + 3 + l → TX M' (gN M) code s1 s2 → (∀ o, o < gN M → gI M' o = gI M o) → Q (some (.ref (gN M))) M') : Wp L xs (d + 2) 45 81 [.ref 5, .int 3] [] M Q := by
  obtain ⟨r1, r2, r3, r4, r5, r6, r7, r8, r9, r10⟩ := id hr
  generalize hA : pN M 3 3 3 = A
  have a1 : gS A 5 = 0 := by rw [← hA, gS_n, if_neg (by omega)]; exact r1
  have a2 : gR A 5 7 = .ref 7 := by rw [← hA, gR_n (by omega)]; exact r3
  have a3 : gI A 5 8 = nI l := by rw [← hA, gI_n, if_neg (by omega)]; exact h8
  have a4 : gS A 7 = 10 := by rw [← hA, gS_n, if_neg (by omega)]; exact r7
  have a5 : gL A 7 = 160 := by rw [← hA, gL_n, if_neg (by omega)]; exact r8
  have a6 : gN A = gN M + 1 := by rw [← hA, gN_n]
  have a7 : gZ A = gZ M + 3 := by rw [← hA, gZ_n]
  generalize hB : pC (pN A 10 l l) 7 0 (gN A) 0 l = B
  have hcp : ∀ R : Option Value → mm_H → Prop, Call L xs (d + 1) 222 [.ref 7, .int (nI l)] A R = R (some (.ref (gN M + 1))) B := by
    intro R
    rw [← hB, ← a6]
    exact c_copyOf a4 (by omega) (by omega) (by omega)
  have bI : ∀ o, o < gN M → gI B o = gI M o := by
    intro o ho
    funext k
    rw [← hB, gI_c, if_neg (by omega), gI_n, if_neg (by omega), ← hA, gI_n, if_neg (by omega)]
  have bS : ∀ o, o < gN M → gS B o = gS M o := by
    intro o ho
    rw [← hB, gS_c, gS_n, if_neg (by omega), ← hA, gS_n, if_neg (by omega)]
  have bL : ∀ o, o < gN M → gL B o = gL M o := by
    intro o ho
    rw [← hB, gL_c, gL_n, if_neg (by omega), ← hA, gL_n, if_neg (by omega)]
  have bR : ∀ o k, o < gN M → gR B o k = gR M o k := by
    intro o k ho
    rw [← hB, gR_c, gR_n (by omega), ← hA, gR_n (by omega)]
  have bt : gS B (gN M) = 3 := by rw [← hB, gS_c, gS_n, if_neg (by omega), ← hA, gS_n, if_pos rfl]
  have b1 : gS B 5 = 0 := (bS 5 (by omega)).trans r1
  have b2 : gR B 5 9 = .ref 8 := (bR 5 9 (by omega)).trans r4
  have b3 : gS B 8 = 10 := (bS 8 (by omega)).trans r9
  have b4 : gL B 8 = 3 := (bL 8 (by omega)).trans r10
  have b5 : gI B 8 1 = nI s1 := by rw [bI 8 (by omega)]; exact g1
  have b6 : gI B 8 2 = nI s2 := by rw [bI 8 (by omega)]; exact g2
  have hnt : ∀ R : Option Value → mm_H → Prop, Call L xs (d + 1) 71 [.ref (gN M), .ref (gN M + 1), .int (nI s1), .int (nI s2)] B R = R none (pI (pI (pR B (gN M) 0 (.ref (gN M + 1))) (gN M) 1 (nI s1)) (gN M) 2 (nI s2)) := fun R => c_newText bt
  have k1 : (0 : Int32) ≤ 1 ∧ (1 : Int32).toNatClampNeg = 1 := ⟨by decide, by decide⟩
  have k2 : (0 : Int32) ≤ 2 ∧ (2 : Int32).toNatClampNeg = 2 := ⟨by decide, by decide⟩
  simp only [↓e45_0, ↓e45_1, ↓e45_2, ↓e45_5, ↓e45_6, ↓e45_7, ↓e45_10, ↓e45_11, ↓e45_12, ↓e45_15, ↓e45_16, ↓e45_19, ↓e45_20, ↓e45_22, ↓e45_23, ↓e45_26, ↓e45_27, ↓e45_30, ↓e45_31, ↓e45_32, ↓e45_35, ↓e45_36, ↓e45_37, ↓e45_40, ↓e45_42, ↓e45_43, ↓e45_44, ↓e45_47, ↓e45_48n, ↓e45_48, ↓e45_49, ↓e45_50, ↓e45_53, ↓e45_54, ↓e45_57, ↓e45_60, ↓e45_61, ↓e45_64, ↓e45_66, ↓e45_69, ↓e45_70n, ↓e45_70, ↓e45_71, ↓e45_72, ↓e45_75, ↓e45_78, ↓e45_81, ↓e45_82, ↓e45_85, ↓e45_88, ↓e45_91, ↓e45_92, ↓e45_93, ↓e45_96, ↓e45_97, ↓e45_100, ↓e45_103, ↓e45_104, ↓e45_107, ↓e45_108, ↓e45_109, ↓e45_110, ↓e45_113, ↓e45_114, ↓e45_115, ↓e45_118, ↓e45_121, ↓e45_122n, ↓e45_122, bc1_a, bd1, bd2, bd3, bd4, bd5, bd6, bd7, bd8, bd9, bd10, bd11, bd12, bd13, bd14, bd15, bd16, bd17, bd18, bd19, bd20, bd21, bd22, bd23, bd24, bd25, bd26, bd27, bd28, bd29, bd30, bd31, bd32, bd33, bd34, bd35, bd36, bd37, bd38, bd39, bc1_i, bc1_r, bc1_n, bc1_U, bisA_r, bisA_n, bisA_a, bct_i, bct_r, bct_n, bct_l, bcs_0, bcs_i, bcs_r, bcs_l, bcs_a, brt_0, brt_1, ↓bz0, ↓bz1, true_and, and_true, false_and, and_false, and_self, Nat.reduceAdd, Nat.reduceLeDiff, Nat.reduceSub, Nat.reduceEqDiff, ite_true, ite_false, if_true, if_false, r1, h3, i0eq, hA, a1, a2, a3, hcp, b1, b2, b3, b4, b5, b6, k1.1, k1.2, k2.1, k2.2, hnt, Nat.reduceLT]
  refine hq _ ⟨?_, ?_, ?_, ?_⟩ ?_ ?_ ⟨?_, ?_, ?_, ?_, ?_, ?_, ?_⟩ ?_
  · rw [gN_p, gN_p, gN_r, ← hB, gN_c, gN_n, a6]; omega
  · intro o ho
    exact ⟨bS o ho, bL o ho⟩
  · intro o k ho _
    rw [gR_p, gR_p, gR_r, if_neg (by omega)]; exact bR o k ho
  · intro o ho _ k
    rw [gI_p, if_neg (by omega), gI_p, if_neg (by omega), gI_r, bI o ho]
  · rw [gN_p, gN_p, gN_r, ← hB, gN_c, gN_n, a6]
  · rw [gZ_p, gZ_p, gZ_r, ← hB, gZ_c, gZ_n, a7]
  · exact bt
  · rw [gR_p, gR_p, gR_r, if_pos ⟨rfl, rfl⟩]
  · rw [gI_p, if_neg (by omega), gI_p, if_pos ⟨rfl, rfl⟩]
  · rw [gI_p, if_pos ⟨rfl, rfl⟩]
  · show gS B (gN M + 1) = 10
    rw [← hB, gS_c, gS_n, if_pos a6.symm]
  · show gL B (gN M + 1) = _
    rw [← hB, gL_c, gL_n, if_pos a6.symm, hlc]
  · intro i hi
    rw [gI_p, if_neg (by omega), gI_p, if_neg (by omega), gI_r, ← hB, gI_c, if_pos (by omega), gI_n, if_neg (by omega), ← hA, gI_n, if_neg (by omega)]
    rw [← hcode i hi]
    congr 1
    omega
  · intro o ho
    funext k
    rw [gI_p, if_neg (by omega), gI_p, if_neg (by omega), gI_r, bI o ho]
theorem c_read (h160 : n ≤ 160) (hr : Rd M) (hN : 9 ≤ gN M) (h6 : gI M 6 = f) (h1 : gI M 5 1 = nI n)
    (hq : ∀ M' a b c, p_text f n = .inl (a, b, c) → FN S578 M M' → gN M' = gN M + 2 → gZ M' ≤ gZ M + 163 → TX M' (gN M) (a ++ b ++ c) a.length (a.length + b.length) → gI M' 6 = f → gI M' 5 1 = nI n → Q (some (.ref (gN M))) M')
    (hq2 : ∀ M' s, p_text f n = .inr s → Fr S578 M M' → RF f n s M' → Q (some .null) M') : Call L xs (d + 54) 45 [.ref 5] M Q := by
  obtain ⟨r1, r2, r3, r4, r5, r6, r7, r8, r9, r10⟩ := id hr
  have f0 : Fr S57 M (pI (pI (pI M 5 2 0) 5 6 0) 5 8 0) := ((Fr.put (Or.inl rfl)).put2 (Or.inl rfl)).put2 (Or.inl rfl)
  generalize hM0 : pI (pI (pI M 5 2 0) 5 6 0) 5 8 0 = M0 at f0
  have hr0 : Rd M0 := hr.fr f0
  have z1 : gI M0 5 1 = nI n := by rw [← hM0, gI_p, if_neg (by decide), gI_p, if_neg (by decide), gI_p, if_neg (by decide)]; exact h1
  have z2 : gI M0 5 2 = nI 0 := by rw [← hM0, gI_p, if_neg (by decide), gI_p, if_neg (by decide), gI_p, if_pos (by decide)]; rfl
  have z6 : gI M0 5 6 = nI 0 := by rw [← hM0, gI_p, if_neg (by decide), gI_p, if_pos (by decide)]; rfl
  have z8 : gI M0 5 8 = nI 0 := by rw [← hM0, gI_p, if_pos (by decide)]; rfl
  have zt : gI M0 6 = f := by rw [← hM0, gI_pf (by decide), gI_pf (by decide), gI_pf (by decide)]; exact h6
  rw [en45]
  simp only [↓e45_0, ↓e45_1, ↓e45_2, ↓e45_5, ↓e45_6, ↓e45_7, ↓e45_10, ↓e45_11, ↓e45_12, ↓e45_15, ↓e45_16, ↓e45_19, ↓e45_20, ↓e45_22, ↓e45_23, ↓e45_26, ↓e45_27, ↓e45_30, ↓e45_31, ↓e45_32, ↓e45_35, ↓e45_36, ↓e45_37, ↓e45_40, ↓e45_42, ↓e45_43, ↓e45_44, ↓e45_47, ↓e45_48n, ↓e45_48, ↓e45_49, ↓e45_50, ↓e45_53, ↓e45_54, ↓e45_57, ↓e45_60, ↓e45_61, ↓e45_64, ↓e45_66, ↓e45_69, ↓e45_70n, ↓e45_70, ↓e45_71, ↓e45_72, ↓e45_75, ↓e45_78, ↓e45_81, ↓e45_82, ↓e45_85, ↓e45_88, ↓e45_91, ↓e45_92, ↓e45_93, ↓e45_96, ↓e45_97, ↓e45_100, ↓e45_103, ↓e45_104, ↓e45_107, ↓e45_108, ↓e45_109, ↓e45_110, ↓e45_113, ↓e45_114, ↓e45_115, ↓e45_118, ↓e45_121, ↓e45_122n, ↓e45_122, bc1_a, bd1, bd2, bd3, bd4, bd5, bd6, bd7, bd8, bd9, bd10, bd11, bd12, bd13, bd14, bd15, bd16, bd17, bd18, bd19, bd20, bd21, bd22, bd23, bd24, bd25, bd26, bd27, bd28, bd29, bd30, bd31, bd32, bd33, bd34, bd35, bd36, bd37, bd38, bd39, bc1_i, bc1_r, bc1_n, bc1_U, bisA_r, bisA_n, bisA_a, bct_i, bct_r, bct_n, bct_l, bcs_0, bcs_i, bcs_r, bcs_l, bcs_a, brt_0, brt_1, ↓bz0, ↓bz1, true_and, and_true, false_and, and_false, and_self, Nat.reduceAdd, Nat.reduceLeDiff, Nat.reduceSub, Nat.reduceEqDiff, ite_true, ite_false, if_true, if_false, gS_p, r1, hM0, hr0.1]
  refine c_look (d := d + 47) hr0 z1 h160 (Nat.zero_le n) z2 (fun M1 g1 g2 => ?_)
  rw [zt] at g2
  have f1 : Fr S57 M M1 := f0.trans (g1.fr (Or.inl rfl))
  have hS : RS f n 0 0 [] M1 := by
    refine ⟨hr.fr f1, ?_, ?_, g2, ?_, ⟨?_, fun i hi => absurd hi (Nat.not_lt_zero i)⟩, Nat.le_refl _, Nat.zero_le n⟩
    · rw [← zt]; funext k; exact g1.2.2 6 k (by omega)
    · rw [g1.2.2 5 1 (by omega)]; exact z1
    · rw [g1.2.2 5 6 (by omega)]; exact z6
    · rw [g1.2.2 5 8 (by omega)]; exact z8
  have F1 : Fr S578 M M1 := f1.weak S57_8
  simp only [↓e45_0, ↓e45_1, ↓e45_2, ↓e45_5, ↓e45_6, ↓e45_7, ↓e45_10, ↓e45_11, ↓e45_12, ↓e45_15, ↓e45_16, ↓e45_19, ↓e45_20, ↓e45_22, ↓e45_23, ↓e45_26, ↓e45_27, ↓e45_30, ↓e45_31, ↓e45_32, ↓e45_35, ↓e45_36, ↓e45_37, ↓e45_40, ↓e45_42, ↓e45_43, ↓e45_44, ↓e45_47, ↓e45_48n, ↓e45_48, ↓e45_49, ↓e45_50, ↓e45_53, ↓e45_54, ↓e45_57, ↓e45_60, ↓e45_61, ↓e45_64, ↓e45_66, ↓e45_69, ↓e45_70n, ↓e45_70, ↓e45_71, ↓e45_72, ↓e45_75, ↓e45_78, ↓e45_81, ↓e45_82, ↓e45_85, ↓e45_88, ↓e45_91, ↓e45_92, ↓e45_93, ↓e45_96, ↓e45_97, ↓e45_100, ↓e45_103, ↓e45_104, ↓e45_107, ↓e45_108, ↓e45_109, ↓e45_110, ↓e45_113, ↓e45_114, ↓e45_115, ↓e45_118, ↓e45_121, ↓e45_122n, ↓e45_122, bc1_a, bd1, bd2, bd3, bd4, bd5, bd6, bd7, bd8, bd9, bd10, bd11, bd12, bd13, bd14, bd15, bd16, bd17, bd18, bd19, bd20, bd21, bd22, bd23, bd24, bd25, bd26, bd27, bd28, bd29, bd30, bd31, bd32, bd33, bd34, bd35, bd36, bd37, bd38, bd39, bc1_i, bc1_r, bc1_n, bc1_U, bisA_r, bisA_n, bisA_a, bct_i, bct_r, bct_n, bct_l, bcs_0, bcs_i, bcs_r, bcs_l, bcs_a, brt_0, brt_1, ↓bz0, ↓bz1, true_and, and_true, false_and, and_false, and_self, Nat.reduceAdd, Nat.reduceLeDiff, Nat.reduceSub, Nat.reduceEqDiff, ite_true, ite_false, if_true, if_false]
  refine l_45 (i := 0) (d := d) h160 (by decide) hS (fun M2 a q2 e2 f2 h2 g2' hl2 => ?_) (fun M2 s e2 f2 h2 => ?_)
  · refine l_45 (i := 1) (d := d) h160 (by decide) h2 (fun M3 b q3 e3 f3 h3 g3 hl3 => ?_) (fun M3 s e3 f3 h3 => ?_)
    · refine l_45 (i := 2) (d := d) h160 (by decide) h3 (fun M4 c q4 e4 f4 h4 g4 hl4 => ?_) (fun M4 s e4 f4 h4 => ?_)
      · have F4 : Fr S578 M M4 := F1.trans (f2.trans (f3.trans f4))
        have hc : (2 < nI (2 + 1)) = True := nI_lt1 (a := 2) (b := 2 + 1) (by decide) (by decide)
        have e3t := h4.2.2.2.1.2.2.1
        have hqn : q4 ≤ n := h4.2.2.2.2.2.2.2
        rw [e45_21]
        by_cases ht : t_k f n q4 = 0
        · have hlen : ([] ++ a ++ b ++ c).length = a.length + b.length + c.length := by simp only [List.nil_append, List.length_append]
          have hw := l_45e (L := L) (xs := xs) (d := d + 52) (Q := Q) (M := M4) (l := ([] ++ a ++ b ++ c).length) (s1 := a.length) (s2 := a.length + b.length) (code := a ++ b ++ c) h4.1 h4.2.2.2.2.2.1.1 (by omega) (by rw [F4.gN2]; exact hN) (by rw [e3t, ht]; rfl)
            (by rw [g4 1, if_neg (by decide), g3 1, if_pos rfl]; rfl) (by rw [g4 2, if_pos rfl]; simp only [List.nil_append, List.length_append]) rfl h4.2.2.2.2.2.1.2
            (fun M' n1 n2 n3 n4 n5 => by
              rw [F4.gN2] at n2 n4 n5 ⊢
              refine hq M' a b c ?_ (F4.fn.trans n1) n2 ?_ n4 ?_ ?_
              · unfold p_text; rw [e2]; dsimp only; rw [e3]; dsimp only; rw [e4]; exact if_pos ht
              · rw [n3, F4.gZ2]; omega
              · rw [n5 6 (by omega)]; exact h4.2.1
              · rw [n5 5 (by omega)]; exact h4.2.2.1)
          simp only [↓e45_0, ↓e45_1, ↓e45_2, ↓e45_5, ↓e45_6, ↓e45_7, ↓e45_10, ↓e45_11, ↓e45_12, ↓e45_15, ↓e45_16, ↓e45_19, ↓e45_20, ↓e45_22, ↓e45_23, ↓e45_26, ↓e45_27, ↓e45_30, ↓e45_31, ↓e45_32, ↓e45_35, ↓e45_36, ↓e45_37, ↓e45_40, ↓e45_42, ↓e45_43, ↓e45_44, ↓e45_47, ↓e45_48n, ↓e45_48, ↓e45_49, ↓e45_50, ↓e45_53, ↓e45_54, ↓e45_57, ↓e45_60, ↓e45_61, ↓e45_64, ↓e45_66, ↓e45_69, ↓e45_70n, ↓e45_70, ↓e45_71, ↓e45_72, ↓e45_75, ↓e45_78, ↓e45_82, ↓e45_85, ↓e45_88, ↓e45_91, ↓e45_92, ↓e45_93, ↓e45_96, ↓e45_97, ↓e45_100, ↓e45_103, ↓e45_104, ↓e45_107, ↓e45_108, ↓e45_109, ↓e45_110, ↓e45_113, ↓e45_114, ↓e45_115, ↓e45_118, ↓e45_121, ↓e45_122n, ↓e45_122, bc1_a, bd1, bd2, bd3, bd4, bd5, bd6, bd7, bd8, bd9, bd10, bd11, bd12, bd13, bd14, bd15, bd16, bd17, bd18, bd19, bd20, bd21, bd22, bd23, bd24, bd25, bd26, bd27, bd28, bd29, bd30, bd31, bd32, bd33, bd34, bd35, bd36, bd37, bd38, bd39, bc1_i, bc1_r, bc1_n, bc1_U, bisA_r, bisA_n, bisA_a, bct_i, bct_r, bct_n, bct_l, bcs_0, bcs_i, bcs_r, bcs_l, bcs_a, brt_0, brt_1, ↓bz0, ↓bz1, true_and, and_true, false_and, and_false, and_self, Nat.reduceAdd, Nat.reduceLeDiff, Nat.reduceSub, Nat.reduceEqDiff, ite_true, ite_false, if_true, if_false, hc]
          exact hw
        · have htt : (nI (t_k f n q4) = 0) = False := t_k_not (m := 0) (by decide) ht
          simp only [↓e45_0, ↓e45_1, ↓e45_2, ↓e45_5, ↓e45_6, ↓e45_7, ↓e45_10, ↓e45_11, ↓e45_12, ↓e45_15, ↓e45_16, ↓e45_19, ↓e45_20, ↓e45_22, ↓e45_23, ↓e45_26, ↓e45_27, ↓e45_30, ↓e45_31, ↓e45_32, ↓e45_35, ↓e45_36, ↓e45_37, ↓e45_40, ↓e45_42, ↓e45_43, ↓e45_44, ↓e45_47, ↓e45_48n, ↓e45_48, ↓e45_49, ↓e45_50, ↓e45_53, ↓e45_54, ↓e45_57, ↓e45_60, ↓e45_61, ↓e45_64, ↓e45_66, ↓e45_69, ↓e45_70n, ↓e45_70, ↓e45_71, ↓e45_72, ↓e45_75, ↓e45_78, ↓e45_81, ↓e45_82, ↓e45_85, ↓e45_88, ↓e45_91, ↓e45_92, ↓e45_93, ↓e45_96, ↓e45_97, ↓e45_100, ↓e45_103, ↓e45_104, ↓e45_107, ↓e45_108, ↓e45_109, ↓e45_110, ↓e45_113, ↓e45_114, ↓e45_115, ↓e45_118, ↓e45_121, ↓e45_122n, ↓e45_122, bc1_a, bd1, bd2, bd3, bd4, bd5, bd6, bd7, bd8, bd9, bd10, bd11, bd12, bd13, bd14, bd15, bd16, bd17, bd18, bd19, bd20, bd21, bd22, bd23, bd24, bd25, bd26, bd27, bd28, bd29, bd30, bd31, bd32, bd33, bd34, bd35, bd36, bd37, bd38, bd39, bc1_i, bc1_r, bc1_n, bc1_U, bisA_r, bisA_n, bisA_a, bct_i, bct_r, bct_n, bct_l, bcs_0, bcs_i, bcs_r, bcs_l, bcs_a, brt_0, brt_1, ↓bz0, ↓bz1, true_and, and_true, false_and, and_false, and_self, Nat.reduceAdd, Nat.reduceLeDiff, Nat.reduceSub, Nat.reduceEqDiff, ite_true, ite_false, if_true, if_false, hc, h4.1.1, e3t, htt]
          exact hq2 M4 _ (by unfold p_text; rw [e2]; dsimp only; rw [e3]; dsimp only; rw [e4]; exact if_neg ht) F4 (h4.nf h160)
      · exact hq2 M4 s (by unfold p_text; rw [e2]; dsimp only; rw [e3]; dsimp only; rw [e4]) (F1.trans (f2.trans (f3.trans f4))) h4
    · exact hq2 M3 s (by unfold p_text; rw [e2]; dsimp only; rw [e3]) (F1.trans (f2.trans f3)) h3
  · exact hq2 M2 s (by unfold p_text; rw [e2]) (F1.trans f2) h2
end
