/-! THE VASE: what takes, what holds -/
def s_kslack (k n f v : Int32) : Int32 := if k = 1 then s_bd (v + f) else if k = 2 then s_bd (v + n) else if k = 3 then (if 5 < f then s_bd (v + f) / 2 else s_bd (v + f)) else if k = 4 then 99 else if k = 5 then s_bd f else s_bd v
def s_khold (k v : Int32) : Int32 := if k = 1 then s_bd (2 * v) else if k = 2 then s_bd (v - 1) else if k = 3 then s_bd (2 * v) else if k = 4 then 0 else s_bd v
def s_sy (E : Int32 → Nat → (Nat → Int32) → Int32) (V : Nat → Nat → Int32) (s : Nat) : Int32 := s_say (V 1 (s_br V s)) (V 2 (s_br V s)) (V 0 1) (s_tl E V s 0)
def s_sl (E : Int32 → Nat → (Nat → Int32) → Int32) (V : Nat → Nat → Int32) (s : Nat) : Int32 := s_kslack (V 1 (s_br V s)) (V 2 (s_br V s)) (V 6 s) (s_tl E V s 1) + V 0 13
def s_hf (E : Int32 → Nat → (Nat → Int32) → Int32) (V : Nat → Nat → Int32) (s : Nat) : Int32 := s_khold (V 1 (s_br V s)) (s_tl E V s 2)
def s_abs (x : Int32) : Int32 := if 0 ≤ x then x else 0 - x
def s_tk (E : Int32 → Nat → (Nat → Int32) → Int32) (V : Nat → Nat → Int32) (s : Nat) : Bool := !decide (s_sl E V s < s_abs (s_sy E V s - V 5 s))
def s_hd (V : Nat → Nat → Int32) (s : Nat) : Bool := !decide (V 7 s = -1) && !decide (V 7 s < V 0 1)
def s_bits (P : Nat → Bool) : Nat → Int32
  | 0 => 0
  | n + 1 => s_bits P n ||| (if P n = true then 1 <<< (nI n &&& 31) else 0)
section
variable {L : Nat} {xs : Nat → Int32} {d : Nat} {M : mm_H} {Q : Option Value → mm_H → Prop} {E : Int32 → Nat → (Nat → Int32) → Int32}
theorem c_kslack {k n f v : Int32} : Call L xs (d + 1) 36 [.int k, .int n, .int f, .int v] M Q = Q (some (.int (s_kslack k n f v))) M := by
  rw [en36]
  unfold s_kslack
  simp only [↓e36_0, ↓e36_1, ↓e36_36, ↓e36_37, ↓e36_38, ↓e36_39, ↓e36_42, ↓e36_43, ↓e36_44, ↓e36_45, ↓e36_46, ↓e36_49, ↓e36_50, ↓e36_51, ↓e36_52, ↓e36_55, ↓e36_56, ↓e36_57, ↓e36_58, ↓e36_61, ↓e36_62, ↓e36_63, ↓e36_66, ↓e36_67, ↓e36_68, ↓e36_69, ↓e36_72, ↓e36_73, ↓e36_75, ↓e36_76, ↓e36_77, ↓e36_80, ↓e36_81, ↓e36_82, ↓e36_85, bc1_a, bd1, bd2, bd3, bd4, bd5, bd6, bd7, bd8, bd9, bd10, bd11, bd12, bd13, bd14, bd15, bd16, bd17, bd18, bd19, bd20, bd21, bd22, bd23, bd24, bd25, bd26, bd27, bd28, bd29, bd30, bd31, bd32, bd33, bd34, bd35, bd36, bd37, bd38, bd39, bc1_i, bc1_r, bc1_n, bc1_U, bisA_r, bisA_n, bisA_a, bct_i, bct_r, bct_n, bct_l, bcs_0, bcs_i, bcs_r, bcs_l, bcs_a, brt_0, brt_1, ↓bz0, ↓bz1, true_and, and_true, false_and, and_false, and_self, Nat.reduceAdd, Nat.reduceLeDiff, Nat.reduceSub, Nat.reduceEqDiff, ite_true, ite_false, if_true, if_false]
  by_cases h1 : k = 1
  · rw [if_pos h1, if_pos h1]; simp only [↓e36_0, ↓e36_1, ↓e36_36, ↓e36_37, ↓e36_38, ↓e36_39, ↓e36_42, ↓e36_43, ↓e36_44, ↓e36_45, ↓e36_46, ↓e36_49, ↓e36_50, ↓e36_51, ↓e36_52, ↓e36_55, ↓e36_56, ↓e36_57, ↓e36_58, ↓e36_61, ↓e36_62, ↓e36_63, ↓e36_66, ↓e36_67, ↓e36_68, ↓e36_69, ↓e36_72, ↓e36_73, ↓e36_75, ↓e36_76, ↓e36_77, ↓e36_80, ↓e36_81, ↓e36_82, ↓e36_85, bc1_a, bd1, bd2, bd3, bd4, bd5, bd6, bd7, bd8, bd9, bd10, bd11, bd12, bd13, bd14, bd15, bd16, bd17, bd18, bd19, bd20, bd21, bd22, bd23, bd24, bd25, bd26, bd27, bd28, bd29, bd30, bd31, bd32, bd33, bd34, bd35, bd36, bd37, bd38, bd39, bc1_i, bc1_r, bc1_n, bc1_U, bisA_r, bisA_n, bisA_a, bct_i, bct_r, bct_n, bct_l, bcs_0, bcs_i, bcs_r, bcs_l, bcs_a, brt_0, brt_1, ↓bz0, ↓bz1, true_and, and_true, false_and, and_false, and_self, Nat.reduceAdd, Nat.reduceLeDiff, Nat.reduceSub, Nat.reduceEqDiff, ite_true, ite_false, if_true, if_false, c_bound]
  rw [if_neg h1, if_neg h1]
  by_cases h2 : k = 2
  · rw [if_pos h2, if_pos h2]; simp only [↓e36_0, ↓e36_1, ↓e36_36, ↓e36_37, ↓e36_38, ↓e36_39, ↓e36_42, ↓e36_43, ↓e36_44, ↓e36_45, ↓e36_46, ↓e36_49, ↓e36_50, ↓e36_51, ↓e36_52, ↓e36_55, ↓e36_56, ↓e36_57, ↓e36_58, ↓e36_61, ↓e36_62, ↓e36_63, ↓e36_66, ↓e36_67, ↓e36_68, ↓e36_69, ↓e36_72, ↓e36_73, ↓e36_75, ↓e36_76, ↓e36_77, ↓e36_80, ↓e36_81, ↓e36_82, ↓e36_85, bc1_a, bd1, bd2, bd3, bd4, bd5, bd6, bd7, bd8, bd9, bd10, bd11, bd12, bd13, bd14, bd15, bd16, bd17, bd18, bd19, bd20, bd21, bd22, bd23, bd24, bd25, bd26, bd27, bd28, bd29, bd30, bd31, bd32, bd33, bd34, bd35, bd36, bd37, bd38, bd39, bc1_i, bc1_r, bc1_n, bc1_U, bisA_r, bisA_n, bisA_a, bct_i, bct_r, bct_n, bct_l, bcs_0, bcs_i, bcs_r, bcs_l, bcs_a, brt_0, brt_1, ↓bz0, ↓bz1, true_and, and_true, false_and, and_false, and_self, Nat.reduceAdd, Nat.reduceLeDiff, Nat.reduceSub, Nat.reduceEqDiff, ite_true, ite_false, if_true, if_false, c_bound]
  rw [if_neg h2, if_neg h2]
  by_cases h3 : k = 3
  · rw [if_pos h3, if_pos h3]
    by_cases h5 : 5 < f
    · simp only [↓e36_0, ↓e36_1, ↓e36_36, ↓e36_37, ↓e36_38, ↓e36_39, ↓e36_42, ↓e36_43, ↓e36_44, ↓e36_45, ↓e36_46, ↓e36_49, ↓e36_50, ↓e36_51, ↓e36_52, ↓e36_55, ↓e36_56, ↓e36_57, ↓e36_58, ↓e36_61, ↓e36_62, ↓e36_63, ↓e36_66, ↓e36_67, ↓e36_68, ↓e36_69, ↓e36_72, ↓e36_73, ↓e36_75, ↓e36_76, ↓e36_77, ↓e36_80, ↓e36_81, ↓e36_82, ↓e36_85, bc1_a, bd1, bd2, bd3, bd4, bd5, bd6, bd7, bd8, bd9, bd10, bd11, bd12, bd13, bd14, bd15, bd16, bd17, bd18, bd19, bd20, bd21, bd22, bd23, bd24, bd25, bd26, bd27, bd28, bd29, bd30, bd31, bd32, bd33, bd34, bd35, bd36, bd37, bd38, bd39, bc1_i, bc1_r, bc1_n, bc1_U, bisA_r, bisA_n, bisA_a, bct_i, bct_r, bct_n, bct_l, bcs_0, bcs_i, bcs_r, bcs_l, bcs_a, brt_0, brt_1, ↓bz0, ↓bz1, true_and, and_true, false_and, and_false, and_self, Nat.reduceAdd, Nat.reduceLeDiff, Nat.reduceSub, Nat.reduceEqDiff, ite_true, ite_false, if_true, if_false, c_bound, h5, i2ne, not_false_eq_true]
    · simp only [↓e36_0, ↓e36_1, ↓e36_36, ↓e36_37, ↓e36_38, ↓e36_39, ↓e36_42, ↓e36_43, ↓e36_44, ↓e36_45, ↓e36_46, ↓e36_49, ↓e36_50, ↓e36_51, ↓e36_52, ↓e36_55, ↓e36_56, ↓e36_57, ↓e36_58, ↓e36_61, ↓e36_62, ↓e36_63, ↓e36_66, ↓e36_67, ↓e36_68, ↓e36_69, ↓e36_72, ↓e36_73, ↓e36_75, ↓e36_76, ↓e36_77, ↓e36_80, ↓e36_81, ↓e36_82, ↓e36_85, bc1_a, bd1, bd2, bd3, bd4, bd5, bd6, bd7, bd8, bd9, bd10, bd11, bd12, bd13, bd14, bd15, bd16, bd17, bd18, bd19, bd20, bd21, bd22, bd23, bd24, bd25, bd26, bd27, bd28, bd29, bd30, bd31, bd32, bd33, bd34, bd35, bd36, bd37, bd38, bd39, bc1_i, bc1_r, bc1_n, bc1_U, bisA_r, bisA_n, bisA_a, bct_i, bct_r, bct_n, bct_l, bcs_0, bcs_i, bcs_r, bcs_l, bcs_a, brt_0, brt_1, ↓bz0, ↓bz1, true_and, and_true, false_and, and_false, and_self, Nat.reduceAdd, Nat.reduceLeDiff, Nat.reduceSub, Nat.reduceEqDiff, ite_true, ite_false, if_true, if_false, c_bound, h5]
  rw [if_neg h3, if_neg h3]
  by_cases h4 : k = 4
  · rw [if_pos h4, if_pos h4]
  rw [if_neg h4, if_neg h4]
  by_cases h5 : k = 5
  · rw [if_pos h5, if_pos h5]; simp only [↓e36_0, ↓e36_1, ↓e36_36, ↓e36_37, ↓e36_38, ↓e36_39, ↓e36_42, ↓e36_43, ↓e36_44, ↓e36_45, ↓e36_46, ↓e36_49, ↓e36_50, ↓e36_51, ↓e36_52, ↓e36_55, ↓e36_56, ↓e36_57, ↓e36_58, ↓e36_61, ↓e36_62, ↓e36_63, ↓e36_66, ↓e36_67, ↓e36_68, ↓e36_69, ↓e36_72, ↓e36_73, ↓e36_75, ↓e36_76, ↓e36_77, ↓e36_80, ↓e36_81, ↓e36_82, ↓e36_85, bc1_a, bd1, bd2, bd3, bd4, bd5, bd6, bd7, bd8, bd9, bd10, bd11, bd12, bd13, bd14, bd15, bd16, bd17, bd18, bd19, bd20, bd21, bd22, bd23, bd24, bd25, bd26, bd27, bd28, bd29, bd30, bd31, bd32, bd33, bd34, bd35, bd36, bd37, bd38, bd39, bc1_i, bc1_r, bc1_n, bc1_U, bisA_r, bisA_n, bisA_a, bct_i, bct_r, bct_n, bct_l, bcs_0, bcs_i, bcs_r, bcs_l, bcs_a, brt_0, brt_1, ↓bz0, ↓bz1, true_and, and_true, false_and, and_false, and_self, Nat.reduceAdd, Nat.reduceLeDiff, Nat.reduceSub, Nat.reduceEqDiff, ite_true, ite_false, if_true, if_false, c_bound]
  rw [if_neg h5, if_neg h5]
  simp only [↓e36_0, ↓e36_1, ↓e36_36, ↓e36_37, ↓e36_38, ↓e36_39, ↓e36_42, ↓e36_43, ↓e36_44, ↓e36_45, ↓e36_46, ↓e36_49, ↓e36_50, ↓e36_51, ↓e36_52, ↓e36_55, ↓e36_56, ↓e36_57, ↓e36_58, ↓e36_61, ↓e36_62, ↓e36_63, ↓e36_66, ↓e36_67, ↓e36_68, ↓e36_69, ↓e36_72, ↓e36_73, ↓e36_75, ↓e36_76, ↓e36_77, ↓e36_80, ↓e36_81, ↓e36_82, ↓e36_85, bc1_a, bd1, bd2, bd3, bd4, bd5, bd6, bd7, bd8, bd9, bd10, bd11, bd12, bd13, bd14, bd15, bd16, bd17, bd18, bd19, bd20, bd21, bd22, bd23, bd24, bd25, bd26, bd27, bd28, bd29, bd30, bd31, bd32, bd33, bd34, bd35, bd36, bd37, bd38, bd39, bc1_i, bc1_r, bc1_n, bc1_U, bisA_r, bisA_n, bisA_a, bct_i, bct_r, bct_n, bct_l, bcs_0, bcs_i, bcs_r, bcs_l, bcs_a, brt_0, brt_1, ↓bz0, ↓bz1, true_and, and_true, false_and, and_false, and_self, Nat.reduceAdd, Nat.reduceLeDiff, Nat.reduceSub, Nat.reduceEqDiff, ite_true, ite_false, if_true, if_false, c_bound]
theorem c_khold {k v : Int32} : Call L xs (d + 1) 37 [.int k, .int v] M Q = Q (some (.int (s_khold k v))) M := by
  rw [en37]
  unfold s_khold
  simp only [↓e37_0, ↓e37_1, ↓e37_32, ↓e37_33, ↓e37_34, ↓e37_35, ↓e37_38, ↓e37_39, ↓e37_40, ↓e37_41, ↓e37_42, ↓e37_45, ↓e37_46, ↓e37_47, ↓e37_48, ↓e37_49, ↓e37_52, bc1_a, bd1, bd2, bd3, bd4, bd5, bd6, bd7, bd8, bd9, bd10, bd11, bd12, bd13, bd14, bd15, bd16, bd17, bd18, bd19, bd20, bd21, bd22, bd23, bd24, bd25, bd26, bd27, bd28, bd29, bd30, bd31, bd32, bd33, bd34, bd35, bd36, bd37, bd38, bd39, bc1_i, bc1_r, bc1_n, bc1_U, bisA_r, bisA_n, bisA_a, bct_i, bct_r, bct_n, bct_l, bcs_0, bcs_i, bcs_r, bcs_l, bcs_a, brt_0, brt_1, ↓bz0, ↓bz1, true_and, and_true, false_and, and_false, and_self, Nat.reduceAdd, Nat.reduceLeDiff, Nat.reduceSub, Nat.reduceEqDiff, ite_true, ite_false, if_true, if_false]
  by_cases h1 : k = 1
  · rw [if_pos h1, if_pos h1]; simp only [↓e37_0, ↓e37_1, ↓e37_32, ↓e37_33, ↓e37_34, ↓e37_35, ↓e37_38, ↓e37_39, ↓e37_40, ↓e37_41, ↓e37_42, ↓e37_45, ↓e37_46, ↓e37_47, ↓e37_48, ↓e37_49, ↓e37_52, bc1_a, bd1, bd2, bd3, bd4, bd5, bd6, bd7, bd8, bd9, bd10, bd11, bd12, bd13, bd14, bd15, bd16, bd17, bd18, bd19, bd20, bd21, bd22, bd23, bd24, bd25, bd26, bd27, bd28, bd29, bd30, bd31, bd32, bd33, bd34, bd35, bd36, bd37, bd38, bd39, bc1_i, bc1_r, bc1_n, bc1_U, bisA_r, bisA_n, bisA_a, bct_i, bct_r, bct_n, bct_l, bcs_0, bcs_i, bcs_r, bcs_l, bcs_a, brt_0, brt_1, ↓bz0, ↓bz1, true_and, and_true, false_and, and_false, and_self, Nat.reduceAdd, Nat.reduceLeDiff, Nat.reduceSub, Nat.reduceEqDiff, ite_true, ite_false, if_true, if_false, c_bound]
  rw [if_neg h1, if_neg h1]
  by_cases h2 : k = 2
  · rw [if_pos h2, if_pos h2]; simp only [↓e37_0, ↓e37_1, ↓e37_32, ↓e37_33, ↓e37_34, ↓e37_35, ↓e37_38, ↓e37_39, ↓e37_40, ↓e37_41, ↓e37_42, ↓e37_45, ↓e37_46, ↓e37_47, ↓e37_48, ↓e37_49, ↓e37_52, bc1_a, bd1, bd2, bd3, bd4, bd5, bd6, bd7, bd8, bd9, bd10, bd11, bd12, bd13, bd14, bd15, bd16, bd17, bd18, bd19, bd20, bd21, bd22, bd23, bd24, bd25, bd26, bd27, bd28, bd29, bd30, bd31, bd32, bd33, bd34, bd35, bd36, bd37, bd38, bd39, bc1_i, bc1_r, bc1_n, bc1_U, bisA_r, bisA_n, bisA_a, bct_i, bct_r, bct_n, bct_l, bcs_0, bcs_i, bcs_r, bcs_l, bcs_a, brt_0, brt_1, ↓bz0, ↓bz1, true_and, and_true, false_and, and_false, and_self, Nat.reduceAdd, Nat.reduceLeDiff, Nat.reduceSub, Nat.reduceEqDiff, ite_true, ite_false, if_true, if_false, c_bound]
  rw [if_neg h2, if_neg h2]
  by_cases h3 : k = 3
  · rw [if_pos h3, if_pos h3]; simp only [↓e37_0, ↓e37_1, ↓e37_32, ↓e37_33, ↓e37_34, ↓e37_35, ↓e37_38, ↓e37_39, ↓e37_40, ↓e37_41, ↓e37_42, ↓e37_45, ↓e37_46, ↓e37_47, ↓e37_48, ↓e37_49, ↓e37_52, bc1_a, bd1, bd2, bd3, bd4, bd5, bd6, bd7, bd8, bd9, bd10, bd11, bd12, bd13, bd14, bd15, bd16, bd17, bd18, bd19, bd20, bd21, bd22, bd23, bd24, bd25, bd26, bd27, bd28, bd29, bd30, bd31, bd32, bd33, bd34, bd35, bd36, bd37, bd38, bd39, bc1_i, bc1_r, bc1_n, bc1_U, bisA_r, bisA_n, bisA_a, bct_i, bct_r, bct_n, bct_l, bcs_0, bcs_i, bcs_r, bcs_l, bcs_a, brt_0, brt_1, ↓bz0, ↓bz1, true_and, and_true, false_and, and_false, and_self, Nat.reduceAdd, Nat.reduceLeDiff, Nat.reduceSub, Nat.reduceEqDiff, ite_true, ite_false, if_true, if_false, c_bound]
  rw [if_neg h3, if_neg h3]
  by_cases h4 : k = 4
  · rw [if_pos h4, if_pos h4]
  rw [if_neg h4, if_neg h4]
  simp only [↓e37_0, ↓e37_1, ↓e37_32, ↓e37_33, ↓e37_34, ↓e37_35, ↓e37_38, ↓e37_39, ↓e37_40, ↓e37_41, ↓e37_42, ↓e37_45, ↓e37_46, ↓e37_47, ↓e37_48, ↓e37_49, ↓e37_52, bc1_a, bd1, bd2, bd3, bd4, bd5, bd6, bd7, bd8, bd9, bd10, bd11, bd12, bd13, bd14, bd15, bd16, bd17, bd18, bd19, bd20, bd21, bd22, bd23, bd24, bd25, bd26, bd27, bd28, bd29, bd30, bd31, bd32, bd33, bd34, bd35, bd36, bd37, bd38, bd39, bc1_i, bc1_r, bc1_n, bc1_U, bisA_r, bisA_n, bisA_a, bct_i, bct_r, bct_n, bct_l, bcs_0, bcs_i, bcs_r, bcs_l, bcs_a, brt_0, brt_1, ↓bz0, ↓bz1, true_and, and_true, false_and, and_false, and_self, Nat.reduceAdd, Nat.reduceLeDiff, Nat.reduceSub, Nat.reduceEqDiff, ite_true, ite_false, if_true, if_false, c_bound]
/-- what is known of a vase and of one of its seams -/
def Vs (M : mm_H) (v n s p : Nat) : Prop := SV M v ∧ SU M ∧ 9 ≤ v ∧ v ≤ 25 ∧ gI M v 6 = nI n ∧ n ≤ 10 ∧ s < 10 ∧ gI M (v + 4) s = nI p ∧ p < 6
theorem Vs.fr {M M1 : mm_H} {v n s p : Nat} (h : Vs M v n s p) (hf : Fr S34 M M1) : Vs M1 v n s p := by
  obtain ⟨h1, h2, h3, h4, h5, h6, h7, h8, h9⟩ := h
  exact ⟨h1.fr hf (by omega), h2.fr hf, h3, h4, by rw [hf.2.2 v (fun z => by rcases z with z | z <;> omega)]; exact h5, h6, h7, by rw [hf.2.2 (v + 4) (fun z => by rcases z with z | z <;> omega)]; exact h8, h9⟩
theorem Vw34 {M M1 : mm_H} {v : Nat} (h9 : 9 ≤ v) (hf : Fr S34 M M1) : Vw M1 v = Vw M v := Vw_fr hf (fun j hj z => by rcases z with z | z <;> omega)
theorem Sno34 : ∀ o, S34 o → Sno o := fun o h => by rcases h with rfl | rfl <;> exact ⟨by decide, by decide, by decide, by decide, by decide⟩
theorem c_telling' {v n p s w : Nat} (h : Vs M v n s p) (hw : w < 3) (hE : E6 E) (hT : TOK L xs E d M) (hq : ∀ M', Fr S34 M M' → Q (some (.int (s_tl E (Vw M v) s w))) M') : Call L xs (d + 1) 93 [.ref v, .int (nI s), .int (nI w)] M Q := by
  obtain ⟨h1, h2, h3, h4, h5, h6, h7, h8, h9⟩ := h
  exact c_telling h1 h2 ⟨h3, h4⟩ h5 h6 h7 h8 h9 hw hE hT hq
theorem Vs.br {v n s p : Nat} (h : Vs M v n s p) : s_br (Vw M v) s = p := by
  unfold s_br; rw [Vw_at (by decide), h.2.2.2.2.2.2.2.1, nI_clamp (by have := h.2.2.2.2.2.2.2.2; omega)]
theorem c_says {v n s p : Nat} (h : Vs M v n s p) (hE : E6 E) (hT : TOK L xs E (d + 1) M) (hq : ∀ M', Fr S34 M M' → Q (some (.int (s_sy E (Vw M v) s))) M') : Call L xs (d + 3) 88 [.ref v, .int (nI s)] M Q := by
  obtain ⟨hv, h2, h3, h4, h5, h6, h7, h8, h9⟩ := id h
  obtain ⟨⟨v0, v1, v2, v3, v4, v5, v6, v7, v8⟩, ⟨w1, w2, w3, w4, w5, w6, w7⟩, x1, x2, x3, x4, x5, x6, x7⟩ := id hv
  rw [en88]
  have g0 : 0 ≤ nI s := nI_pos' (by omega)
  have g1 : (nI s).toNatClampNeg = s := nI_clamp (by omega)
  have g2 : 0 ≤ nI p := nI_pos' (by omega)
  have g3 : (nI p).toNatClampNeg = p := nI_clamp (by omega)
  simp only [↓e88_0, ↓e88_1, ↓e88_4, ↓e88_5, ↓e88_8, ↓e88_9, ↓e88_10, ↓e88_11, ↓e88_12, ↓e88_15, ↓e88_16, ↓e88_19, ↓e88_20, ↓e88_21, ↓e88_22, ↓e88_23, ↓e88_26, ↓e88_27, ↓e88_28, ↓e88_29, ↓e88_32, ↓e88_35, bc1_a, bd1, bd2, bd3, bd4, bd5, bd6, bd7, bd8, bd9, bd10, bd11, bd12, bd13, bd14, bd15, bd16, bd17, bd18, bd19, bd20, bd21, bd22, bd23, bd24, bd25, bd26, bd27, bd28, bd29, bd30, bd31, bd32, bd33, bd34, bd35, bd36, bd37, bd38, bd39, bc1_i, bc1_r, bc1_n, bc1_U, bisA_r, bisA_n, bisA_a, bct_i, bct_r, bct_n, bct_l, bcs_0, bcs_i, bcs_r, bcs_l, bcs_a, brt_0, brt_1, ↓bz0, ↓bz1, true_and, and_true, false_and, and_false, and_self, Nat.reduceAdd, Nat.reduceLeDiff, Nat.reduceSub, Nat.reduceEqDiff, ite_true, ite_false, if_true, if_false, v0, v2, v3, v5, w1, w2, w4, x1, x2, x4, g0, g1, g2, g3, h7, h8, h9]
  refine c_telling' (w := 0) h (by decide) hE hT (fun M1 f1 => ?_)
  simp only [↓e88_0, ↓e88_1, ↓e88_4, ↓e88_5, ↓e88_8, ↓e88_9, ↓e88_10, ↓e88_11, ↓e88_12, ↓e88_15, ↓e88_16, ↓e88_19, ↓e88_20, ↓e88_21, ↓e88_22, ↓e88_23, ↓e88_26, ↓e88_27, ↓e88_28, ↓e88_29, ↓e88_32, ↓e88_35, bc1_a, bd1, bd2, bd3, bd4, bd5, bd6, bd7, bd8, bd9, bd10, bd11, bd12, bd13, bd14, bd15, bd16, bd17, bd18, bd19, bd20, bd21, bd22, bd23, bd24, bd25, bd26, bd27, bd28, bd29, bd30, bd31, bd32, bd33, bd34, bd35, bd36, bd37, bd38, bd39, bc1_i, bc1_r, bc1_n, bc1_U, bisA_r, bisA_n, bisA_a, bct_i, bct_r, bct_n, bct_l, bcs_0, bcs_i, bcs_r, bcs_l, bcs_a, brt_0, brt_1, ↓bz0, ↓bz1, true_and, and_true, false_and, and_false, and_self, Nat.reduceAdd, Nat.reduceLeDiff, Nat.reduceSub, Nat.reduceEqDiff, ite_true, ite_false, if_true, if_false, c_say]
  have e : s_sy E (Vw M v) s = s_say (gI M (v + 1) p) (gI M (v + 2) p) (gI M v 1) (s_tl E (Vw M v) s 0) := by
    unfold s_sy; rw [h.br, Vw_at (by decide), Vw_at (by decide), Vw_at (by decide)]; rfl
  rw [← e]
  exact hq M1 f1
end
