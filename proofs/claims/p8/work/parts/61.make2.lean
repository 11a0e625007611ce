/-! THE MAKING (2): the object of the class -/
def f_rule : Nat → Int32 := fun i => (mm_sb.getD 0 []).getD i 0
theorem p_rule : (match p_text f_rule 44 with | .inl _ => true | .inr _ => false) = true := by decide +kernel
/-- the shape of the class's object -/
def CS (M : mm_H) : Prop := (gS M 0 = 5 ∧ gR M 0 0 = .ref 1 ∧ gR M 0 1 = .ref 5 ∧ gR M 0 2 = .ref 9 ∧ gR M 0 3 = .ref 17 ∧ gR M 0 4 = .ref 25 ∧ gR M 0 5 = .ref 33) ∧ SU M ∧ Rd M ∧ SV M 9 ∧ SV M 17 ∧ SV M 25 ∧ (gS M 33 = 13 ∧ gL M 33 = 4 ∧ gR M 33 0 = .ref 34 ∧ gR M 33 1 = .ref 36 ∧ gR M 33 2 = .ref 38 ∧ gR M 33 3 = .ref 40) ∧ ST M 34 ∧ ST M 36 ∧ ST M 38 ∧ ST M 40
/-- cells below n are as they were, but 0 -/
def Oz (n : Nat) (M M' : mm_H) : Prop := ∀ o, o ≠ 0 → o < n → gS M' o = gS M o ∧ gL M' o = gL M o ∧ gI M' o = gI M o ∧ gR M' o = gR M o
theorem Oz.trans {n : Nat} {M M1 M2 : mm_H} (h : Oz n M M1) (h2 : Oz n M1 M2) : Oz n M M2 := fun o h0 ho => ⟨(h2 o h0 ho).1.trans (h o h0 ho).1, (h2 o h0 ho).2.1.trans (h o h0 ho).2.1, (h2 o h0 ho).2.2.1.trans (h o h0 ho).2.2.1, (h2 o h0 ho).2.2.2.trans (h o h0 ho).2.2.2⟩
theorem Oz.le {n m : Nat} {M M1 : mm_H} (h : Oz n M M1) (hm : m ≤ n) : Oz m M M1 := fun o h0 ho => h o h0 (Nat.lt_of_lt_of_le ho hm)
theorem Old.z {n : Nat} {M M1 : mm_H} (h : Old n M M1) : Oz n M M1 := fun o _ ho => h o ho
theorem Oz.r0 {n k : Nat} {M : mm_H} {v : Value} : Oz n M (pR M 0 k v) := fun o h0 _ => ⟨rfl, rfl, rfl, funext fun j => by rw [gR_r, if_neg (fun z => h0 z.1)]⟩
theorem SV.oz {n v : Nat} {M M1 : mm_H} (h : SV M v) (ho : Oz n M M1) (h0 : 0 < v) (hn : v + 8 ≤ n) : SV M1 v := by
  have a := fun j (hj : j < 8) => ho (v + j) (by omega) (by omega)
  have e0 : gR M1 v = gR M v := (a 0 (by decide)).2.2.2
  have s0 : gS M1 v = gS M v := (a 0 (by decide)).1
  unfold SV
  rw [e0, s0, (a 1 (by decide)).1, (a 2 (by decide)).1, (a 3 (by decide)).1, (a 4 (by decide)).1, (a 5 (by decide)).1, (a 6 (by decide)).1, (a 7 (by decide)).1, (a 1 (by decide)).2.1, (a 2 (by decide)).2.1, (a 3 (by decide)).2.1, (a 4 (by decide)).2.1, (a 5 (by decide)).2.1, (a 6 (by decide)).2.1, (a 7 (by decide)).2.1]
  exact h
theorem ST.oz {n t : Nat} {M M1 : mm_H} (h : ST M t) (ho : Oz n M M1) (h0 : 0 < t) (hn : t + 2 ≤ n) : ST M1 t := by
  obtain ⟨h1, h2, h3, h4⟩ := h
  refine ⟨(ho t (by omega) (by omega)).1.trans h1, ?_, (ho (t + 1) (by omega) (by omega)).1.trans h3, (ho (t + 1) (by omega) (by omega)).2.1.trans h4⟩
  rw [(ho t (by omega) (by omega)).2.2.2]; exact h2
theorem Rd.oz {n : Nat} {M M1 : mm_H} (h : Rd M) (ho : Oz n M M1) (hn : 9 ≤ n) : Rd M1 := by
  have a := fun o (h0 : o ≠ 0) (hj : o < 9) => ho o h0 (by omega)
  unfold Rd
  rw [(a 5 (by decide) (by decide)).2.2.2, (a 5 (by decide) (by decide)).1, (a 6 (by decide) (by decide)).1, (a 6 (by decide) (by decide)).2.1, (a 7 (by decide) (by decide)).1, (a 7 (by decide) (by decide)).2.1, (a 8 (by decide) (by decide)).1, (a 8 (by decide) (by decide)).2.1]
  exact h
theorem SU.oz {n : Nat} {M M1 : mm_H} (h : SU M) (ho : Oz n M M1) (hn : 5 ≤ n) : SU M1 := by
  have a := fun o (h0 : o ≠ 0) (hj : o < 5) => ho o h0 (by omega)
  unfold SU
  rw [(a 1 (by decide) (by decide)).2.2.2, (a 1 (by decide) (by decide)).1, (a 2 (by decide) (by decide)).1, (a 2 (by decide) (by decide)).2.1, (a 3 (by decide) (by decide)).1, (a 3 (by decide) (by decide)).2.1, (a 4 (by decide) (by decide)).1, (a 4 (by decide) (by decide)).2.1]
  exact h
theorem el12 : mm_el 12 = 3 := nrfl rfl
theorem el13 : mm_el 13 = 2 := nrfl rfl
section
variable {L : Nat} {xs : Nat → Int32} {d : Nat} {M : mm_H} {Q : Option Value → mm_H → Prop}
theorem c_rulesAdd {k t : Nat} (hu : SU M) (hk : gI M 1 1 = nI k) (h : k < 6) (ht : gS M t = 3) : Call L xs d 62 [.ref 1, .ref t] M Q = Q (some (.int (nI k))) (pI (pR M 2 k (.ref t)) 1 1 (nI (k + 1))) := by
  obtain ⟨u1, u2, u3, u4, u5, u6, u7, u8, u9, u10⟩ := id hu
  have hc : (nI k < 6) = True := nI_lt1 (a := k) (b := 6) h (by decide)
  have h0 : 0 ≤ nI k := nI_pos' (by omega)
  have h1 : (nI k).toNatClampNeg = k := nI_clamp (by omega)
  rw [en62]
  simp only [↓e62_0, ↓e62_1, ↓e62_4, ↓e62_6, ↓e62_9, ↓e62_11, ↓e62_12, ↓e62_13, ↓e62_16, ↓e62_17, ↓e62_20, ↓e62_21, ↓e62_22, ↓e62_23, ↓e62_24, ↓e62_27, ↓e62_28, ↓e62_29, ↓e62_30, ↓e62_33, bc1_a, bd1, bd2, bd3, bd4, bd5, bd6, bd7, bd8, bd9, bd10, bd11, bd12, bd13, bd14, bd15, bd16, bd17, bd18, bd19, bd20, bd21, bd22, bd23, bd24, bd25, bd26, bd27, bd28, bd29, bd30, bd31, bd32, bd33, bd34, bd35, bd36, bd37, bd38, bd39, bc1_i, bc1_r, bc1_n, bc1_U, bisA_r, bisA_n, bisA_a, bct_i, bct_r, bct_n, bct_l, bcs_0, bcs_i, bcs_r, bcs_l, bcs_a, brt_0, brt_1, ↓bz0, ↓bz1, true_and, and_true, false_and, and_false, and_self, Nat.reduceAdd, Nat.reduceLeDiff, Nat.reduceSub, Nat.reduceEqDiff, ite_true, ite_false, if_true, if_false, gS_n, gS_r, gS_p, gS_c, gL_n, gL_r, gL_p, gL_c, gN_n, gN_r, gN_p, gN_c, gZ_n, gZ_r, gZ_p, gZ_c, gI_p, gI_r, gI_n, gI_c, gR_p, gR_r, gR_c, gR_n2, ne_eq, not_false_eq_true, not_true_eq_false, or_true, or_false, true_or, u1, u2, u5, u6, hk, hc, h0, h1, h, ht, el12, nI_1]
/-- the tape's first bytes, one by one -/
theorem l_0f {M0 : mm_H} (h00 : gS M0 0 = 5) (h01 : gR M0 0 1 = .ref 5) : ∀ (k i : Nat) (M : mm_H), i + k = 44 → Fr (fun o => o = 5 ∨ o = 6) M0 M → Rd M → gI M 5 1 = nI i → (∀ j, gI M 6 j = if j < i then f_rule j else 0) →
    (∀ M', Fr (fun o => o = 5 ∨ o = 6) M0 M' → Rd M' → gI M' 5 1 = nI 44 → (∀ j, gI M' 6 j = if j < 44 then f_rule j else 0) → Wp L xs (d + 4) 0 136 [.ref 0, .int 44] [] M' Q) →
    Wp L xs (d + 4) 0 107 [.ref 0, .int (nI i)] [] M Q := by
  intro k
  induction k with
  | zero =>
    intro i M hi hf hr h1 h6 hq
    have e : i = 44 := by omega
    subst e
    have hh := hq M hf hr h1 h6
    have hc : (nI 44 < nI (sb_len 0)) = False := nI_lt0 (a := 44) (b := sb_len 0) (by decide) (by decide)
    rw [e0_107]
    simp only [↓e0_0, ↓e0_1, ↓e0_4, ↓e0_5, ↓e0_8, ↓e0_9, ↓e0_12, ↓e0_15, ↓e0_16, ↓e0_19, ↓e0_20, ↓e0_23, ↓e0_26, ↓e0_27, ↓e0_30, ↓e0_31, ↓e0_32, ↓e0_35, ↓e0_38, ↓e0_41, ↓e0_42, ↓e0_45, ↓e0_46, ↓e0_47, ↓e0_50, ↓e0_53, ↓e0_56, ↓e0_57, ↓e0_60, ↓e0_61, ↓e0_62, ↓e0_65, ↓e0_68, ↓e0_71, ↓e0_72, ↓e0_73, ↓e0_76, ↓e0_79, ↓e0_80, ↓e0_81, ↓e0_82, ↓e0_83, ↓e0_86, ↓e0_87, ↓e0_90, ↓e0_91, ↓e0_94, ↓e0_95, ↓e0_98, ↓e0_99, ↓e0_102, ↓e0_105, ↓e0_106, ↓e0_108, ↓e0_110, ↓e0_113, ↓e0_116, ↓e0_117, ↓e0_120, ↓e0_122, ↓e0_123, ↓e0_126, ↓e0_129, ↓e0_130, ↓e0_133, ↓e0_137, ↓e0_140, ↓e0_141, ↓e0_144, ↓e0_147, ↓e0_150, ↓e0_151, ↓e0_152, ↓e0_155, ↓e0_158, bc1_a, bd1, bd2, bd3, bd4, bd5, bd6, bd7, bd8, bd9, bd10, bd11, bd12, bd13, bd14, bd15, bd16, bd17, bd18, bd19, bd20, bd21, bd22, bd23, bd24, bd25, bd26, bd27, bd28, bd29, bd30, bd31, bd32, bd33, bd34, bd35, bd36, bd37, bd38, bd39, bc1_i, bc1_r, bc1_n, bc1_U, bisA_r, bisA_n, bisA_a, bct_i, bct_r, bct_n, bct_l, bcs_0, bcs_i, bcs_r, bcs_l, bcs_a, brt_0, brt_1, ↓bz0, ↓bz1, true_and, and_true, false_and, and_false, and_self, Nat.reduceAdd, Nat.reduceLeDiff, Nat.reduceSub, Nat.reduceEqDiff, ite_true, ite_false, if_true, if_false, Nat.reduceLT, Nat.zero_lt_succ, c_slen (show 0 < 13 by decide), hc]
    exact hh
  | succ k ih =>
    intro i M hi hf hr h1 h6 hq
    have hc : (nI i < nI (sb_len 0)) = True := nI_lt1 (a := i) (b := sb_len 0) (show i < 44 by omega) (by decide)
    have hl : i < sb_len 0 := show i < 44 by omega
    have m0 : gS M 0 = 5 := (hf.hS 0).trans h00
    have m1 : gR M 0 1 = .ref 5 := (hf.2.1 0 1 (by omega)).trans h01
    have f2 : Fr (fun o => o = 5 ∨ o = 6) M (pI (pI M 6 i (f_rule i)) 5 1 (nI (i + 1))) := (Fr.put (Or.inr rfl)).put2 (Or.inl rfl)
    have hih := ih (i + 1) (pI (pI M 6 i (f_rule i)) 5 1 (nI (i + 1))) (by omega) (hf.trans f2) (hr.fr f2) (by rw [gI_p, if_pos ⟨rfl, rfl⟩]) (fun j => by
      rw [gI_p, if_neg (by omega), gI_p, h6]
      by_cases e : j = i
      · rw [if_pos ⟨rfl, e⟩, if_pos (by omega), e]
      · rw [if_neg (fun z => e z.2)]
        by_cases g : j < i
        · rw [if_pos g, if_pos (by omega)]
        · rw [if_neg g, if_neg (by omega)]) hq
    have hadd : ∀ R : Option Value → mm_H → Prop, Call L xs (d + 3) 42 [.ref 5, .int ((mm_sb.getD 0 []).getD i 0)] M R = R (some (.int (nI (i + 1)))) (pI (pI M 6 i (f_rule i)) 5 1 (nI (i + 1))) := fun R => c_radd hr h1 (by omega)
    rw [e0_107]
    simp only [↓e0_0, ↓e0_1, ↓e0_4, ↓e0_5, ↓e0_8, ↓e0_9, ↓e0_12, ↓e0_15, ↓e0_16, ↓e0_19, ↓e0_20, ↓e0_23, ↓e0_26, ↓e0_27, ↓e0_30, ↓e0_31, ↓e0_32, ↓e0_35, ↓e0_38, ↓e0_41, ↓e0_42, ↓e0_45, ↓e0_46, ↓e0_47, ↓e0_50, ↓e0_53, ↓e0_56, ↓e0_57, ↓e0_60, ↓e0_61, ↓e0_62, ↓e0_65, ↓e0_68, ↓e0_71, ↓e0_72, ↓e0_73, ↓e0_76, ↓e0_79, ↓e0_80, ↓e0_81, ↓e0_82, ↓e0_83, ↓e0_86, ↓e0_87, ↓e0_90, ↓e0_91, ↓e0_94, ↓e0_95, ↓e0_98, ↓e0_99, ↓e0_102, ↓e0_105, ↓e0_106, ↓e0_108, ↓e0_110, ↓e0_113, ↓e0_116, ↓e0_117, ↓e0_120, ↓e0_122, ↓e0_123, ↓e0_126, ↓e0_129, ↓e0_130, ↓e0_133, ↓e0_137, ↓e0_140, ↓e0_141, ↓e0_144, ↓e0_147, ↓e0_150, ↓e0_151, ↓e0_152, ↓e0_155, ↓e0_158, bc1_a, bd1, bd2, bd3, bd4, bd5, bd6, bd7, bd8, bd9, bd10, bd11, bd12, bd13, bd14, bd15, bd16, bd17, bd18, bd19, bd20, bd21, bd22, bd23, bd24, bd25, bd26, bd27, bd28, bd29, bd30, bd31, bd32, bd33, bd34, bd35, bd36, bd37, bd38, bd39, bc1_i, bc1_r, bc1_n, bc1_U, bisA_r, bisA_n, bisA_a, bct_i, bct_r, bct_n, bct_l, bcs_0, bcs_i, bcs_r, bcs_l, bcs_a, brt_0, brt_1, ↓bz0, ↓bz1, true_and, and_true, false_and, and_false, and_self, Nat.reduceAdd, Nat.reduceLeDiff, Nat.reduceSub, Nat.reduceEqDiff, ite_true, ite_false, if_true, if_false, Nat.reduceLT, Nat.zero_lt_succ, c_slen (show 0 < 13 by decide), hc, m0, m1, c_chr (show 0 < 13 by decide) hl, hr.1, hadd, nI_1]
    exact hih
end
