/-! THE VASE: people are called -/
/-- at any depth -/
def TOKs (L : Nat) (xs : Nat → Int32) (E : Int32 → Nat → (Nat → Int32) → Int32) (M : mm_H) : Prop := ∀ d, TOK L xs E (d + 2) M
def Sv (v o : Nat) : Prop := o = 3 ∨ o = 4 ∨ o = v + 7
def s_up (V : Nat → Nat → Int32) (s : Nat) (x : Int32) : Nat → Nat → Int32 := fun j k => if j = 7 ∧ k = s then x else V j k
abbrev VM : Type := (Nat → Nat → Int32) × Int32
def s_call1 (E : Int32 → Nat → (Nat → Int32) → Int32) (called one : Int32) (s : Nat) (x : VM) : VM :=
  if (called >>> (one &&& 31)) &&& 1 = 0 then x else if x.1 4 s = one then (if s_hd x.1 s = true then x else if s_tk E x.1 s = true then (s_up x.1 s (x.1 0 1 + s_hf E x.1 s), x.2 + 1) else x) else x
def s_callS (E : Int32 → Nat → (Nat → Int32) → Int32) (called one : Int32) : Nat → Nat → VM → VM
  | 0, _, x => x
  | k + 1, s, x => s_callS E called one k (s + 1) (s_call1 E called one s x)
def s_callP (E : Int32 → Nat → (Nat → Int32) → Int32) (called : Int32) (n : Nat) : Nat → Nat → VM → VM
  | 0, _, x => x
  | k + 1, one, x => s_callP E called n k (one + 1) (s_callS E called (nI one) n 0 x)
theorem Sv_no {v : Nat} (h9 : 9 ≤ v) (h25 : v ≤ 25) : ∀ o, Sv v o → Sno o := fun o h => by
  unfold Sv at h
  exact ⟨by omega, by omega, by omega, by omega, by omega⟩
theorem Sv_34 {v : Nat} : ∀ o, S34 o → Sv v o := fun o h => by
  rcases h with h | h
  · exact Or.inl h
  · exact Or.inr (Or.inl h)
theorem VA.till {M : mm_H} {v n s : Nat} {x : Int32} (h : VA M v n) : VA (pI M (v + 7) s x) v n := by
  obtain ⟨h1, h2, h3, h4, h5, h6, h7⟩ := h
  refine ⟨h1, h2, h3, h4, ?_, h6, fun a ha => ?_⟩
  · rw [gI_pf (by omega)]; exact h5
  · rw [gI_pf (by omega)]; exact h7 a ha
theorem Vw_till {M : mm_H} {v s : Nat} {x : Int32} : Vw (pI M (v + 7) s x) v = s_up (Vw M v) s x := by
  funext j k
  unfold s_up Vw
  by_cases hj : j < 8
  · rw [if_pos hj, if_pos hj, gI_p]
    by_cases h : j = 7 ∧ k = s
    · rw [if_pos h, if_pos ⟨by omega, h.2⟩]
    · rw [if_neg h, if_neg (fun z => h ⟨by omega, z.2⟩)]
  · rw [if_neg hj, if_neg hj, if_neg (by omega)]
section
variable {L : Nat} {xs : Nat → Int32} {d : Nat} {Q : Option Value → mm_H → Prop} {E : Int32 → Nat → (Nat → Int32) → Int32}
theorem l_callS {M0 : mm_H} {v n one : Nat} {called : Int32} (hE : E6 E) (hT : TOKs L xs E M0) : ∀ (k s : Nat) (M : mm_H) (m : Int32), Fr (Sv v) M0 M → VA M v n → s + k = n →
    (∀ M', Fr (Sv v) M0 M' → VA M' v n → Vw M' v = (s_callS E called (nI one) k s (Vw M v, m)).1 → Wp L xs (d + 6) 97 88 [.ref v, .int called, .int (s_callS E called (nI one) k s (Vw M v, m)).2, .int (nI one), .int (nI n)] [] M' Q) →
    Wp L xs (d + 6) 97 15 [.ref v, .int called, .int m, .int (nI one), .int (nI s)] [] M Q := by
  intro k
  induction k with
  | zero =>
    intro s M m hf hA hs hq
    have v0 := hA.1.1.1
    have hn := hA.2.2.2.2.1
    have h10 := hA.2.2.2.2.2.1
    have e : s = n := by omega
    subst e
    have hc := nI_lt0 (a := s) (b := s) (Nat.le_refl _) (by omega)
    have hh := hq M hf hA rfl
    rw [e97_15]
    simp only [↓e97_0, ↓e97_1, ↓e97_2, ↓e97_3, ↓e97_4, ↓e97_5, ↓e97_6, ↓e97_9, ↓e97_12, ↓e97_13, ↓e97_17, ↓e97_18, ↓e97_21, ↓e97_24, ↓e97_25, ↓e97_26, ↓e97_27, ↓e97_28, ↓e97_29, ↓e97_32, ↓e97_33, ↓e97_36, ↓e97_38, ↓e97_39, ↓e97_40, ↓e97_43, ↓e97_44, ↓e97_46, ↓e97_49, ↓e97_52, ↓e97_53, ↓e97_55, ↓e97_58, ↓e97_61, ↓e97_62, ↓e97_65, ↓e97_67, ↓e97_68, ↓e97_71, ↓e97_72, ↓e97_74, ↓e97_77, ↓e97_78, ↓e97_79, ↓e97_82, ↓e97_85, ↓e97_91, ↓e97_94, ↓e97_95, bc1_a, bd1, bd2, bd3, bd4, bd5, bd6, bd7, bd8, bd9, bd10, bd11, bd12, bd13, bd14, bd15, bd16, bd17, bd18, bd19, bd20, bd21, bd22, bd23, bd24, bd25, bd26, bd27, bd28, bd29, bd30, bd31, bd32, bd33, bd34, bd35, bd36, bd37, bd38, bd39, bc1_i, bc1_r, bc1_n, bc1_U, bisA_r, bisA_n, bisA_a, bct_i, bct_r, bct_n, bct_l, bcs_0, bcs_i, bcs_r, bcs_l, bcs_a, brt_0, brt_1, ↓bz0, ↓bz1, true_and, and_true, false_and, and_false, and_self, Nat.reduceAdd, Nat.reduceLeDiff, Nat.reduceSub, Nat.reduceEqDiff, ite_true, ite_false, if_true, if_false, v0, hn, hc]
    exact hh
  | succ k ih =>
    intro s M m hf hA hs hq
    obtain ⟨⟨v0, v1, v2, v3, v4, v5, v6, v7, v8⟩, ⟨w1, w2, w3, w4, w5, w6, w7⟩, x1, x2, x3, x4, x5, x6, x7⟩ := id hA.1
    have hn := hA.2.2.2.2.1
    have h10 := hA.2.2.2.2.2.1
    have h9 := hA.2.2.1
    have h25 := hA.2.2.2.1
    have hc := nI_lt1 (a := s) (b := n) (by omega) (by omega)
    have g0 : 0 ≤ nI s := nI_pos' (by omega)
    have g1 : (nI s).toNatClampNeg = s := nI_clamp (by omega)
    have h2 : s < 10 := by omega
    have hTM : TOKs L xs E M := fun d => (hT d).fr (hf.weak (Sv_no h9 h25))
    -- going on with nothing changed
    have same : ∀ M1, Fr S34 M M1 → s_call1 E called (nI one) s (Vw M v, m) = (Vw M v, m) → Wp L xs (d + 6) 97 15 [.ref v, .int called, .int m, .int (nI one), .int (nI (s + 1))] [] M1 Q := by
      intro M1 f1 e1
      have hV : Vw M1 v = Vw M v := Vw34 h9 f1
      refine ih (s + 1) M1 m (hf.trans (f1.weak Sv_34)) (hA.fr f1) (by omega) (fun M' a1 a2 a3 => ?_)
      rw [hV] at a3 ⊢
      have := hq M' a1 a2 (by rw [s_callS, e1]; exact a3)
      rw [s_callS, e1] at this
      exact this
    rw [e97_15]
    by_cases hb : (called >>> (nI one &&& 31)) &&& 1 = 0
    · have hh := same M Fr.rf (by unfold s_call1; rw [if_pos hb])
      simp only [↓e97_0, ↓e97_1, ↓e97_2, ↓e97_3, ↓e97_4, ↓e97_5, ↓e97_6, ↓e97_9, ↓e97_12, ↓e97_13, ↓e97_17, ↓e97_18, ↓e97_21, ↓e97_24, ↓e97_25, ↓e97_26, ↓e97_27, ↓e97_28, ↓e97_29, ↓e97_32, ↓e97_33, ↓e97_36, ↓e97_38, ↓e97_39, ↓e97_40, ↓e97_43, ↓e97_44, ↓e97_46, ↓e97_49, ↓e97_52, ↓e97_53, ↓e97_55, ↓e97_58, ↓e97_61, ↓e97_62, ↓e97_65, ↓e97_67, ↓e97_68, ↓e97_71, ↓e97_72, ↓e97_74, ↓e97_77, ↓e97_78, ↓e97_79, ↓e97_82, ↓e97_85, ↓e97_91, ↓e97_94, ↓e97_95, bc1_a, bd1, bd2, bd3, bd4, bd5, bd6, bd7, bd8, bd9, bd10, bd11, bd12, bd13, bd14, bd15, bd16, bd17, bd18, bd19, bd20, bd21, bd22, bd23, bd24, bd25, bd26, bd27, bd28, bd29, bd30, bd31, bd32, bd33, bd34, bd35, bd36, bd37, bd38, bd39, bc1_i, bc1_r, bc1_n, bc1_U, bisA_r, bisA_n, bisA_a, bct_i, bct_r, bct_n, bct_l, bcs_0, bcs_i, bcs_r, bcs_l, bcs_a, brt_0, brt_1, ↓bz0, ↓bz1, true_and, and_true, false_and, and_false, and_self, Nat.reduceAdd, Nat.reduceLeDiff, Nat.reduceSub, Nat.reduceEqDiff, ite_true, ite_false, if_true, if_false, v0, hn, hc, hb, nI_1]
      exact hh
    by_cases ho : gI M (v + 4) s = nI one
    · have ho2 : (Vw M v) 4 s = nI one := ho
      by_cases hh2 : s_hd (Vw M v) s = true
      · have hh := same M Fr.rf (by unfold s_call1; rw [if_neg hb, if_pos ho2, if_pos hh2])
        simp only [↓e97_0, ↓e97_1, ↓e97_2, ↓e97_3, ↓e97_4, ↓e97_5, ↓e97_6, ↓e97_9, ↓e97_12, ↓e97_13, ↓e97_17, ↓e97_18, ↓e97_21, ↓e97_24, ↓e97_25, ↓e97_26, ↓e97_27, ↓e97_28, ↓e97_29, ↓e97_32, ↓e97_33, ↓e97_36, ↓e97_38, ↓e97_39, ↓e97_40, ↓e97_43, ↓e97_44, ↓e97_46, ↓e97_49, ↓e97_52, ↓e97_53, ↓e97_55, ↓e97_58, ↓e97_61, ↓e97_62, ↓e97_65, ↓e97_67, ↓e97_68, ↓e97_71, ↓e97_72, ↓e97_74, ↓e97_77, ↓e97_78, ↓e97_79, ↓e97_82, ↓e97_85, ↓e97_91, ↓e97_94, ↓e97_95, bc1_a, bd1, bd2, bd3, bd4, bd5, bd6, bd7, bd8, bd9, bd10, bd11, bd12, bd13, bd14, bd15, bd16, bd17, bd18, bd19, bd20, bd21, bd22, bd23, bd24, bd25, bd26, bd27, bd28, bd29, bd30, bd31, bd32, bd33, bd34, bd35, bd36, bd37, bd38, bd39, bc1_i, bc1_r, bc1_n, bc1_U, bisA_r, bisA_n, bisA_a, bct_i, bct_r, bct_n, bct_l, bcs_0, bcs_i, bcs_r, bcs_l, bcs_a, brt_0, brt_1, ↓bz0, ↓bz1, true_and, and_true, false_and, and_false, and_self, Nat.reduceAdd, Nat.reduceLeDiff, Nat.reduceSub, Nat.reduceEqDiff, ite_true, ite_false, if_true, if_false, v0, v5, w4, x4, g0, g1, h2, hn, hc, hb, ho, c_holds hA.1 h2, b2i_t hh2, i1ne, nI_1]
        exact hh
      · obtain ⟨p, hp⟩ := hA.vs (s := s) (by omega)
        simp only [↓e97_0, ↓e97_1, ↓e97_2, ↓e97_3, ↓e97_4, ↓e97_5, ↓e97_6, ↓e97_9, ↓e97_12, ↓e97_13, ↓e97_17, ↓e97_18, ↓e97_21, ↓e97_24, ↓e97_25, ↓e97_26, ↓e97_27, ↓e97_28, ↓e97_29, ↓e97_32, ↓e97_33, ↓e97_36, ↓e97_38, ↓e97_39, ↓e97_40, ↓e97_43, ↓e97_44, ↓e97_46, ↓e97_49, ↓e97_52, ↓e97_53, ↓e97_55, ↓e97_58, ↓e97_61, ↓e97_62, ↓e97_65, ↓e97_67, ↓e97_68, ↓e97_71, ↓e97_72, ↓e97_74, ↓e97_77, ↓e97_78, ↓e97_79, ↓e97_82, ↓e97_85, ↓e97_91, ↓e97_94, ↓e97_95, bc1_a, bd1, bd2, bd3, bd4, bd5, bd6, bd7, bd8, bd9, bd10, bd11, bd12, bd13, bd14, bd15, bd16, bd17, bd18, bd19, bd20, bd21, bd22, bd23, bd24, bd25, bd26, bd27, bd28, bd29, bd30, bd31, bd32, bd33, bd34, bd35, bd36, bd37, bd38, bd39, bc1_i, bc1_r, bc1_n, bc1_U, bisA_r, bisA_n, bisA_a, bct_i, bct_r, bct_n, bct_l, bcs_0, bcs_i, bcs_r, bcs_l, bcs_a, brt_0, brt_1, ↓bz0, ↓bz1, true_and, and_true, false_and, and_false, and_self, Nat.reduceAdd, Nat.reduceLeDiff, Nat.reduceSub, Nat.reduceEqDiff, ite_true, ite_false, if_true, if_false, v0, v5, w4, x4, g0, g1, h2, hn, hc, hb, ho, c_holds hA.1 h2, b2i_f (Bool.eq_false_iff.mpr hh2), i0eq]
        refine c_takes (d := d + 1) hp hE (hTM d) (fun M1 f1 => ?_)
        by_cases ht : s_tk E (Vw M v) s = true
        · have hp1 := hp.fr f1
          have hV1 : Vw M1 v = Vw M v := Vw34 h9 f1
          obtain ⟨⟨y0, y1, y2, y3, y4, y5, y6, y7, y8⟩, -, -⟩ := id hp1.1
          have b1 : gI M1 v 1 = gI M v 1 := f1.2.2 v (fun z => by rcases z with z | z <;> omega) 1
          simp only [↓e97_0, ↓e97_1, ↓e97_2, ↓e97_3, ↓e97_4, ↓e97_5, ↓e97_6, ↓e97_9, ↓e97_12, ↓e97_13, ↓e97_17, ↓e97_18, ↓e97_21, ↓e97_24, ↓e97_25, ↓e97_26, ↓e97_27, ↓e97_28, ↓e97_29, ↓e97_32, ↓e97_33, ↓e97_36, ↓e97_38, ↓e97_39, ↓e97_40, ↓e97_43, ↓e97_44, ↓e97_46, ↓e97_49, ↓e97_52, ↓e97_53, ↓e97_55, ↓e97_58, ↓e97_61, ↓e97_62, ↓e97_65, ↓e97_67, ↓e97_68, ↓e97_71, ↓e97_72, ↓e97_74, ↓e97_77, ↓e97_78, ↓e97_79, ↓e97_82, ↓e97_85, ↓e97_91, ↓e97_94, ↓e97_95, bc1_a, bd1, bd2, bd3, bd4, bd5, bd6, bd7, bd8, bd9, bd10, bd11, bd12, bd13, bd14, bd15, bd16, bd17, bd18, bd19, bd20, bd21, bd22, bd23, bd24, bd25, bd26, bd27, bd28, bd29, bd30, bd31, bd32, bd33, bd34, bd35, bd36, bd37, bd38, bd39, bc1_i, bc1_r, bc1_n, bc1_U, bisA_r, bisA_n, bisA_a, bct_i, bct_r, bct_n, bct_l, bcs_0, bcs_i, bcs_r, bcs_l, bcs_a, brt_0, brt_1, ↓bz0, ↓bz1, true_and, and_true, false_and, and_false, and_self, Nat.reduceAdd, Nat.reduceLeDiff, Nat.reduceSub, Nat.reduceEqDiff, ite_true, ite_false, if_true, if_false, b2i_t ht, i1ne, y0, y8, b1]
          refine c_holdsFor (d := d + 2) hp1 hE ((hTM (d + 1)).fr (f1.weak Sno34)) (fun M2 f2 => ?_)
          rw [hV1]
          have f12 := f1.trans f2
          have hA2 := hA.fr f12
          obtain ⟨-, ⟨z1, z2, z3, z4, z5, z6, z7⟩, k1, k2, k3, k4, k5, k6, k7⟩ := id hA2.1
          have e1 : s_call1 E called (nI one) s (Vw M v, m) = (s_up (Vw M v) s ((Vw M v) 0 1 + s_hf E (Vw M v) s), m + 1) := by
            unfold s_call1; rw [if_neg hb, if_pos ho2, if_neg hh2, if_pos ht]
          have hV3 : Vw (pI M2 (v + 7) s (gI M v 1 + s_hf E (Vw M v) s)) v = s_up (Vw M v) s ((Vw M v) 0 1 + s_hf E (Vw M v) s) := by
            rw [Vw_till, Vw34 h9 f12]; rfl
          have hnext := ih (s + 1) (pI M2 (v + 7) s (gI M v 1 + s_hf E (Vw M v) s)) (m + 1) ((hf.trans (f12.weak Sv_34)).put2 (Or.inr (Or.inr rfl))) hA2.till (by omega) (fun M' a1 a2 a3 => by
            rw [hV3] at a3 ⊢
            have := hq M' a1 a2 (by rw [s_callS, e1]; exact a3)
            rw [s_callS, e1] at this
            exact this)
          simp only [↓e97_0, ↓e97_1, ↓e97_2, ↓e97_3, ↓e97_4, ↓e97_5, ↓e97_6, ↓e97_9, ↓e97_12, ↓e97_13, ↓e97_17, ↓e97_18, ↓e97_21, ↓e97_24, ↓e97_25, ↓e97_26, ↓e97_27, ↓e97_28, ↓e97_29, ↓e97_32, ↓e97_33, ↓e97_36, ↓e97_38, ↓e97_39, ↓e97_40, ↓e97_43, ↓e97_44, ↓e97_46, ↓e97_49, ↓e97_52, ↓e97_53, ↓e97_55, ↓e97_58, ↓e97_61, ↓e97_62, ↓e97_65, ↓e97_67, ↓e97_68, ↓e97_71, ↓e97_72, ↓e97_74, ↓e97_77, ↓e97_78, ↓e97_79, ↓e97_82, ↓e97_85, ↓e97_91, ↓e97_94, ↓e97_95, bc1_a, bd1, bd2, bd3, bd4, bd5, bd6, bd7, bd8, bd9, bd10, bd11, bd12, bd13, bd14, bd15, bd16, bd17, bd18, bd19, bd20, bd21, bd22, bd23, bd24, bd25, bd26, bd27, bd28, bd29, bd30, bd31, bd32, bd33, bd34, bd35, bd36, bd37, bd38, bd39, bc1_i, bc1_r, bc1_n, bc1_U, bisA_r, bisA_n, bisA_a, bct_i, bct_r, bct_n, bct_l, bcs_0, bcs_i, bcs_r, bcs_l, bcs_a, brt_0, brt_1, ↓bz0, ↓bz1, true_and, and_true, false_and, and_false, and_self, Nat.reduceAdd, Nat.reduceLeDiff, Nat.reduceSub, Nat.reduceEqDiff, ite_true, ite_false, if_true, if_false, z7, k7, g0, g1, h2, nI_1]
          exact hnext
        · have hh := same M1 f1 (by unfold s_call1; rw [if_neg hb, if_pos ho2, if_neg hh2, if_neg ht])
          simp only [↓e97_0, ↓e97_1, ↓e97_2, ↓e97_3, ↓e97_4, ↓e97_5, ↓e97_6, ↓e97_9, ↓e97_12, ↓e97_13, ↓e97_17, ↓e97_18, ↓e97_21, ↓e97_24, ↓e97_25, ↓e97_26, ↓e97_27, ↓e97_28, ↓e97_29, ↓e97_32, ↓e97_33, ↓e97_36, ↓e97_38, ↓e97_39, ↓e97_40, ↓e97_43, ↓e97_44, ↓e97_46, ↓e97_49, ↓e97_52, ↓e97_53, ↓e97_55, ↓e97_58, ↓e97_61, ↓e97_62, ↓e97_65, ↓e97_67, ↓e97_68, ↓e97_71, ↓e97_72, ↓e97_74, ↓e97_77, ↓e97_78, ↓e97_79, ↓e97_82, ↓e97_85, ↓e97_91, ↓e97_94, ↓e97_95, bc1_a, bd1, bd2, bd3, bd4, bd5, bd6, bd7, bd8, bd9, bd10, bd11, bd12, bd13, bd14, bd15, bd16, bd17, bd18, bd19, bd20, bd21, bd22, bd23, bd24, bd25, bd26, bd27, bd28, bd29, bd30, bd31, bd32, bd33, bd34, bd35, bd36, bd37, bd38, bd39, bc1_i, bc1_r, bc1_n, bc1_U, bisA_r, bisA_n, bisA_a, bct_i, bct_r, bct_n, bct_l, bcs_0, bcs_i, bcs_r, bcs_l, bcs_a, brt_0, brt_1, ↓bz0, ↓bz1, true_and, and_true, false_and, and_false, and_self, Nat.reduceAdd, Nat.reduceLeDiff, Nat.reduceSub, Nat.reduceEqDiff, ite_true, ite_false, if_true, if_false, b2i_f (Bool.eq_false_iff.mpr ht), i0eq, nI_1]
          exact hh
    · have ho2 : ¬ (Vw M v) 4 s = nI one := ho
      have hh := same M Fr.rf (by unfold s_call1; rw [if_neg hb, if_neg ho2])
      simp only [↓e97_0, ↓e97_1, ↓e97_2, ↓e97_3, ↓e97_4, ↓e97_5, ↓e97_6, ↓e97_9, ↓e97_12, ↓e97_13, ↓e97_17, ↓e97_18, ↓e97_21, ↓e97_24, ↓e97_25, ↓e97_26, ↓e97_27, ↓e97_28, ↓e97_29, ↓e97_32, ↓e97_33, ↓e97_36, ↓e97_38, ↓e97_39, ↓e97_40, ↓e97_43, ↓e97_44, ↓e97_46, ↓e97_49, ↓e97_52, ↓e97_53, ↓e97_55, ↓e97_58, ↓e97_61, ↓e97_62, ↓e97_65, ↓e97_67, ↓e97_68, ↓e97_71, ↓e97_72, ↓e97_74, ↓e97_77, ↓e97_78, ↓e97_79, ↓e97_82, ↓e97_85, ↓e97_91, ↓e97_94, ↓e97_95, bc1_a, bd1, bd2, bd3, bd4, bd5, bd6, bd7, bd8, bd9, bd10, bd11, bd12, bd13, bd14, bd15, bd16, bd17, bd18, bd19, bd20, bd21, bd22, bd23, bd24, bd25, bd26, bd27, bd28, bd29, bd30, bd31, bd32, bd33, bd34, bd35, bd36, bd37, bd38, bd39, bc1_i, bc1_r, bc1_n, bc1_U, bisA_r, bisA_n, bisA_a, bct_i, bct_r, bct_n, bct_l, bcs_0, bcs_i, bcs_r, bcs_l, bcs_a, brt_0, brt_1, ↓bz0, ↓bz1, true_and, and_true, false_and, and_false, and_self, Nat.reduceAdd, Nat.reduceLeDiff, Nat.reduceSub, Nat.reduceEqDiff, ite_true, ite_false, if_true, if_false, v0, v5, w4, x4, g0, g1, h2, hn, hc, hb, ho, nI_1]
      exact hh
theorem l_callP {M0 : mm_H} {v n pp : Nat} {called : Int32} (hE : E6 E) (hT : TOKs L xs E M0) (h9 : 9 ≤ v) (h25 : v ≤ 25) (hpp : gI M0 v 3 = nI pp) (hp6 : pp ≤ 6) : ∀ (k one : Nat) (M : mm_H) (m : Int32) (v4 : Value), Fr (Sv v) M0 M → VA M v n → one + k = pp →
    (∀ M', Fr (Sv v) M0 M' → VA M' v n → Vw M' v = (s_callP E called n k one (Vw M v, m)).1 → Q (some (.int (s_callP E called n k one (Vw M v, m)).2)) M') →
    Wp L xs (d + 6) 97 4 [.ref v, .int called, .int m, .int (nI one), v4] [] M Q := by
  intro k
  induction k with
  | zero =>
    intro one M m v4 hf hA hs hq
    have v0 := hA.1.1.1
    have hn : gI M v 3 = nI pp := by rw [hf.2.2 v (by unfold Sv; omega) 3]; exact hpp
    have e : one = pp := by omega
    subst e
    have hc := nI_lt0 (a := one) (b := one) (Nat.le_refl _) (by omega)
    have hh := hq M hf hA rfl
    rw [e97_4]
    simp only [↓e97_0, ↓e97_1, ↓e97_2, ↓e97_3, ↓e97_5, ↓e97_6, ↓e97_9, ↓e97_12, ↓e97_13, ↓e97_17, ↓e97_18, ↓e97_21, ↓e97_24, ↓e97_25, ↓e97_26, ↓e97_27, ↓e97_28, ↓e97_29, ↓e97_32, ↓e97_33, ↓e97_36, ↓e97_38, ↓e97_39, ↓e97_40, ↓e97_43, ↓e97_44, ↓e97_46, ↓e97_49, ↓e97_52, ↓e97_53, ↓e97_55, ↓e97_58, ↓e97_61, ↓e97_62, ↓e97_65, ↓e97_67, ↓e97_68, ↓e97_71, ↓e97_72, ↓e97_74, ↓e97_77, ↓e97_78, ↓e97_79, ↓e97_82, ↓e97_85, ↓e97_91, ↓e97_94, ↓e97_95, bc1_a, bd1, bd2, bd3, bd4, bd5, bd6, bd7, bd8, bd9, bd10, bd11, bd12, bd13, bd14, bd15, bd16, bd17, bd18, bd19, bd20, bd21, bd22, bd23, bd24, bd25, bd26, bd27, bd28, bd29, bd30, bd31, bd32, bd33, bd34, bd35, bd36, bd37, bd38, bd39, bc1_i, bc1_r, bc1_n, bc1_U, bisA_r, bisA_n, bisA_a, bct_i, bct_r, bct_n, bct_l, bcs_0, bcs_i, bcs_r, bcs_l, bcs_a, brt_0, brt_1, ↓bz0, ↓bz1, true_and, and_true, false_and, and_false, and_self, Nat.reduceAdd, Nat.reduceLeDiff, Nat.reduceSub, Nat.reduceEqDiff, ite_true, ite_false, if_true, if_false, v0, hn, hc]
    exact hh
  | succ k ih =>
    intro one M m v4 hf hA hs hq
    have v0 := hA.1.1.1
    have hn : gI M v 3 = nI pp := by rw [hf.2.2 v (by unfold Sv; omega) 3]; exact hpp
    have hc := nI_lt1 (a := one) (b := pp) (by omega) (by omega)
    rw [e97_4]
    simp only [↓e97_0, ↓e97_1, ↓e97_2, ↓e97_3, ↓e97_5, ↓e97_6, ↓e97_9, ↓e97_12, ↓e97_13, ↓e97_17, ↓e97_18, ↓e97_21, ↓e97_24, ↓e97_25, ↓e97_26, ↓e97_27, ↓e97_28, ↓e97_29, ↓e97_32, ↓e97_33, ↓e97_36, ↓e97_38, ↓e97_39, ↓e97_40, ↓e97_43, ↓e97_44, ↓e97_46, ↓e97_49, ↓e97_52, ↓e97_53, ↓e97_55, ↓e97_58, ↓e97_61, ↓e97_62, ↓e97_65, ↓e97_67, ↓e97_68, ↓e97_71, ↓e97_72, ↓e97_74, ↓e97_77, ↓e97_78, ↓e97_79, ↓e97_82, ↓e97_85, ↓e97_91, ↓e97_94, ↓e97_95, bc1_a, bd1, bd2, bd3, bd4, bd5, bd6, bd7, bd8, bd9, bd10, bd11, bd12, bd13, bd14, bd15, bd16, bd17, bd18, bd19, bd20, bd21, bd22, bd23, bd24, bd25, bd26, bd27, bd28, bd29, bd30, bd31, bd32, bd33, bd34, bd35, bd36, bd37, bd38, bd39, bc1_i, bc1_r, bc1_n, bc1_U, bisA_r, bisA_n, bisA_a, bct_i, bct_r, bct_n, bct_l, bcs_0, bcs_i, bcs_r, bcs_l, bcs_a, brt_0, brt_1, ↓bz0, ↓bz1, true_and, and_true, false_and, and_false, and_self, Nat.reduceAdd, Nat.reduceLeDiff, Nat.reduceSub, Nat.reduceEqDiff, ite_true, ite_false, if_true, if_false, v0, hn, hc]
    refine l_callS (d := d) (one := one) hE hT n 0 M m hf hA (Nat.zero_add n) (fun M1 a1 a2 a3 => ?_)
    rw [e97_88 rfl]
    simp only [↓e97_0, ↓e97_1, ↓e97_2, ↓e97_3, ↓e97_5, ↓e97_6, ↓e97_9, ↓e97_12, ↓e97_13, ↓e97_17, ↓e97_18, ↓e97_21, ↓e97_24, ↓e97_25, ↓e97_26, ↓e97_27, ↓e97_28, ↓e97_29, ↓e97_32, ↓e97_33, ↓e97_36, ↓e97_38, ↓e97_39, ↓e97_40, ↓e97_43, ↓e97_44, ↓e97_46, ↓e97_49, ↓e97_52, ↓e97_53, ↓e97_55, ↓e97_58, ↓e97_61, ↓e97_62, ↓e97_65, ↓e97_67, ↓e97_68, ↓e97_71, ↓e97_72, ↓e97_74, ↓e97_77, ↓e97_78, ↓e97_79, ↓e97_82, ↓e97_85, ↓e97_91, ↓e97_94, ↓e97_95, bc1_a, bd1, bd2, bd3, bd4, bd5, bd6, bd7, bd8, bd9, bd10, bd11, bd12, bd13, bd14, bd15, bd16, bd17, bd18, bd19, bd20, bd21, bd22, bd23, bd24, bd25, bd26, bd27, bd28, bd29, bd30, bd31, bd32, bd33, bd34, bd35, bd36, bd37, bd38, bd39, bc1_i, bc1_r, bc1_n, bc1_U, bisA_r, bisA_n, bisA_a, bct_i, bct_r, bct_n, bct_l, bcs_0, bcs_i, bcs_r, bcs_l, bcs_a, brt_0, brt_1, ↓bz0, ↓bz1, true_and, and_true, false_and, and_false, and_self, Nat.reduceAdd, Nat.reduceLeDiff, Nat.reduceSub, Nat.reduceEqDiff, ite_true, ite_false, if_true, if_false, nI_1]
    refine ih (one + 1) M1 _ _ a1 a2 (by omega) (fun M' b1 b2 b3 => ?_)
    rw [a3] at b3 ⊢
    exact hq M' b1 b2 b3
theorem c_callPeople {M : mm_H} {v n pp : Nat} {called : Int32} (hE : E6 E) (hT : TOKs L xs E M) (hA : VA M v n) (hpp : gI M v 3 = nI pp) (hp6 : pp ≤ 6)
    (hq : ∀ M', Fr (Sv v) M M' → VA M' v n → Vw M' v = (s_callP E called n pp 0 (Vw M v, 0)).1 → Q (some (.int (s_callP E called n pp 0 (Vw M v, 0)).2)) M') : Call L xs (d + 6) 97 [.ref v, .int called] M Q := by
  rw [en97]
  simp only [↓e97_0, ↓e97_1, ↓e97_2, ↓e97_3, ↓e97_5, ↓e97_6, ↓e97_9, ↓e97_12, ↓e97_13, ↓e97_17, ↓e97_18, ↓e97_21, ↓e97_24, ↓e97_25, ↓e97_26, ↓e97_27, ↓e97_28, ↓e97_29, ↓e97_32, ↓e97_33, ↓e97_36, ↓e97_38, ↓e97_39, ↓e97_40, ↓e97_43, ↓e97_44, ↓e97_46, ↓e97_49, ↓e97_52, ↓e97_53, ↓e97_55, ↓e97_58, ↓e97_61, ↓e97_62, ↓e97_65, ↓e97_67, ↓e97_68, ↓e97_71, ↓e97_72, ↓e97_74, ↓e97_77, ↓e97_78, ↓e97_79, ↓e97_82, ↓e97_85, ↓e97_91, ↓e97_94, ↓e97_95, bc1_a, bd1, bd2, bd3, bd4, bd5, bd6, bd7, bd8, bd9, bd10, bd11, bd12, bd13, bd14, bd15, bd16, bd17, bd18, bd19, bd20, bd21, bd22, bd23, bd24, bd25, bd26, bd27, bd28, bd29, bd30, bd31, bd32, bd33, bd34, bd35, bd36, bd37, bd38, bd39, bc1_i, bc1_r, bc1_n, bc1_U, bisA_r, bisA_n, bisA_a, bct_i, bct_r, bct_n, bct_l, bcs_0, bcs_i, bcs_r, bcs_l, bcs_a, brt_0, brt_1, ↓bz0, ↓bz1, true_and, and_true, false_and, and_false, and_self, Nat.reduceAdd, Nat.reduceLeDiff, Nat.reduceSub, Nat.reduceEqDiff, ite_true, ite_false, if_true, if_false]
  exact l_callP (d := d) hE hT hA.2.2.1 hA.2.2.2.1 hpp hp6 pp 0 M 0 mm_U Fr.rf hA (Nat.zero_add pp) hq
end
