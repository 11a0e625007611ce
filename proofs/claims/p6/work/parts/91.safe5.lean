/-! THE MODEL, ALWAYS (5): tape, texts, rule, image -/
def s_feed (T : TS) (x : Int32) : Int32 × TS := if x < 0 then (-2, T) else if 255 < x then (-2, T) else if T.1 = 160 then (-4, T) else (nI (T.1 + 1), (T.1 + 1, fun k => if k = T.1 then x else T.2.1 k, T.2.2))
def s_text (T : TS) : Int32 × TS := if T.2.2.1 = 6 then (-4, T) else match p_text T.2.1 T.1 with
  | .inl _ => (nI T.2.2.1, (0, T.2.1, T.2.2.1 + 1, T.2.2.2))
  | .inr s => (-100 - nI s, (0, T.2))
def s_force (T : TS) (t : Int32) : Int32 × TS := if t < 0 then (-2, T) else if t < nI T.2.2.1 then (nI T.2.2.2.1, (T.1, T.2.1, T.2.2.1, t.toNatClampNeg, T.2.2.2.2)) else (-2, T)
def s_image (T : TS) : TS := (T.1, T.2.1, T.2.2.1, T.2.2.2.1, some T.2.2.2.1)
def s_back (T : TS) : TS := match T.2.2.2.2 with | none => T | some r => (T.1, T.2.1, T.2.2.1, r, some r)
section
variable {L : Nat} {xs : Nat → Int32} {d : Nat} {M : mm_H} {Q : Option Value → mm_H → Prop} {T : TS}
theorem g_feed {x : Int32} (h : MI T M) (hq : ∀ M', SM (s_feed T x).2 M M' → Q (some (.int (s_feed T x).1)) M') : Call L xs (d + 60) 121 [.ref 44, .int x] M Q := by
  obtain ⟨hm, ⟨x3, xc1, xc6, x4, xr, x6, xn, x47, xf⟩, ⟨dy, hdy, x7⟩, ⟨gg, hg1, hg8, x8⟩, ⟨pp, hpp, x11⟩, ⟨sm, hsm, x15⟩, x46, x45, x50, xsh, ximg⟩ := id h
  obtain ⟨⟨m44, mr1, mr2, mr5, mr9, mr10, mr12, mr13, mr14, mr32, mr33, mr34, mr35, mr36, mr37, mr43, mr44, mr45, mr46⟩, ⟨ms45, ms46, ms47, ms48, ms49, ms50, ms51, ms52, ms53, ms54, ms55, ms56, ms57, ms58, ms59, ms60, ms61, ms62⟩, ml45, ml46, ml47, ml48, ml49, ml50, ml51, ml52, ml53, ml54, ml55, ml56, ml57, ml58, ml59, ml60, ml61, ml62⟩ := id hm
  have q0 := hq
  rw [en121]
  unfold s_feed at hq
  by_cases a : x < 0
  · rw [if_pos a] at hq
    simp only [↓e121_0, ↓e121_1, ↓e121_2, ↓e121_3, ↓e121_6, ↓e121_9, ↓e121_12, ↓e121_14, ↓e121_15, ↓e121_16, ↓e121_19, ↓e121_22, ↓e121_25, ↓e121_27, ↓e121_28, ↓e121_29, ↓e121_32, ↓e121_33, ↓e121_36, ↓e121_37, ↓e121_38, ↓e121_39, ↓e121_40, ↓e121_43, ↓e121_44, ↓e121_45, ↓e121_48, ↓e121_49, ↓e121_52, bc1_a, bd1, bd2, bd3, bd4, bd5, bd6, bd7, bd8, bd9, bd10, bd11, bd12, bd13, bd14, bd15, bd16, bd17, bd18, bd19, bd20, bd21, bd22, bd23, bd24, bd25, bd26, bd27, bd28, bd29, bd30, bd31, bd32, bd33, bd34, bd35, bd36, bd37, bd38, bd39, bc1_i, bc1_r, bc1_n, bc1_U, bisA_r, bisA_n, bisA_a, bct_i, bct_r, bct_n, bct_l, bcs_0, bcs_i, bcs_r, bcs_l, bcs_a, brt_0, brt_1, ↓bz0, ↓bz1, true_and, and_true, false_and, and_false, and_self, Nat.reduceAdd, Nat.reduceLeDiff, Nat.reduceSub, Nat.reduceEqDiff, ite_true, ite_false, if_true, if_false, ↓reduceIte, Int32.reduceLT, Int32.reduceLE, Int32.reduceAdd, Int32.reduceSub, Int32.reduceMul, Int32.reduceDiv, Int32.reduceToNatClampNeg, Int64.reduceLT, or_true, or_false, true_or, false_or, Nat.reduceLT, eq_self, iq_m1_0, iq_m1_1, iq_m1_2, iq_m1_3, iq_m1_4, iq_m1_5, iq_m1_6, iq_m1_13, iq_0_m1, iq_0_1, iq_0_2, iq_0_3, iq_0_4, iq_0_5, iq_0_6, iq_0_13, iq_1_m1, iq_1_0, iq_1_2, iq_1_3, iq_1_4, iq_1_5, iq_1_6, iq_1_13, iq_2_m1, iq_2_0, iq_2_1, iq_2_3, iq_2_4, iq_2_5, iq_2_6, iq_2_13, iq_3_m1, iq_3_0, iq_3_1, iq_3_2, iq_3_4, iq_3_5, iq_3_6, iq_3_13, iq_4_m1, iq_4_0, iq_4_1, iq_4_2, iq_4_3, iq_4_5, iq_4_6, iq_4_13, iq_5_m1, iq_5_0, iq_5_1, iq_5_2, iq_5_3, iq_5_4, iq_5_6, iq_5_13, iq_6_m1, iq_6_0, iq_6_1, iq_6_2, iq_6_3, iq_6_4, iq_6_5, iq_6_13, iq_13_m1, iq_13_0, iq_13_1, iq_13_2, iq_13_3, iq_13_4, iq_13_5, iq_13_6, ↓ci_gen, ↓ci_0v, ↓ci_0_99, ↓ci_1_8, ↓ci_0_5, ↓ci_0_9, ↓ci_0_77, ↓ci_0_999, ↓ci_0_255, ↓ci_0_12, ↓ci_97_122, ↓ci_48_57, ↓ci_0_1, ↓ci_1_20, ↓ci_0_40, ↓ci_0_6, ↓ci_0_3, ↓ci_m1_2, ↓ci_0_2, a]
    exact hq _ (SM.fk h Fk.rf)
  rw [if_neg a] at hq
  by_cases b : 255 < x
  · rw [if_pos b] at hq
    simp only [↓e121_0, ↓e121_1, ↓e121_2, ↓e121_3, ↓e121_6, ↓e121_9, ↓e121_12, ↓e121_14, ↓e121_15, ↓e121_16, ↓e121_19, ↓e121_22, ↓e121_25, ↓e121_27, ↓e121_28, ↓e121_29, ↓e121_32, ↓e121_33, ↓e121_36, ↓e121_37, ↓e121_38, ↓e121_39, ↓e121_40, ↓e121_43, ↓e121_44, ↓e121_45, ↓e121_48, ↓e121_49, ↓e121_52, bc1_a, bd1, bd2, bd3, bd4, bd5, bd6, bd7, bd8, bd9, bd10, bd11, bd12, bd13, bd14, bd15, bd16, bd17, bd18, bd19, bd20, bd21, bd22, bd23, bd24, bd25, bd26, bd27, bd28, bd29, bd30, bd31, bd32, bd33, bd34, bd35, bd36, bd37, bd38, bd39, bc1_i, bc1_r, bc1_n, bc1_U, bisA_r, bisA_n, bisA_a, bct_i, bct_r, bct_n, bct_l, bcs_0, bcs_i, bcs_r, bcs_l, bcs_a, brt_0, brt_1, ↓bz0, ↓bz1, true_and, and_true, false_and, and_false, and_self, Nat.reduceAdd, Nat.reduceLeDiff, Nat.reduceSub, Nat.reduceEqDiff, ite_true, ite_false, if_true, if_false, ↓reduceIte, Int32.reduceLT, Int32.reduceLE, Int32.reduceAdd, Int32.reduceSub, Int32.reduceMul, Int32.reduceDiv, Int32.reduceToNatClampNeg, Int64.reduceLT, or_true, or_false, true_or, false_or, Nat.reduceLT, eq_self, iq_m1_0, iq_m1_1, iq_m1_2, iq_m1_3, iq_m1_4, iq_m1_5, iq_m1_6, iq_m1_13, iq_0_m1, iq_0_1, iq_0_2, iq_0_3, iq_0_4, iq_0_5, iq_0_6, iq_0_13, iq_1_m1, iq_1_0, iq_1_2, iq_1_3, iq_1_4, iq_1_5, iq_1_6, iq_1_13, iq_2_m1, iq_2_0, iq_2_1, iq_2_3, iq_2_4, iq_2_5, iq_2_6, iq_2_13, iq_3_m1, iq_3_0, iq_3_1, iq_3_2, iq_3_4, iq_3_5, iq_3_6, iq_3_13, iq_4_m1, iq_4_0, iq_4_1, iq_4_2, iq_4_3, iq_4_5, iq_4_6, iq_4_13, iq_5_m1, iq_5_0, iq_5_1, iq_5_2, iq_5_3, iq_5_4, iq_5_6, iq_5_13, iq_6_m1, iq_6_0, iq_6_1, iq_6_2, iq_6_3, iq_6_4, iq_6_5, iq_6_13, iq_13_m1, iq_13_0, iq_13_1, iq_13_2, iq_13_3, iq_13_4, iq_13_5, iq_13_6, ↓ci_gen, ↓ci_0v, ↓ci_0_99, ↓ci_1_8, ↓ci_0_5, ↓ci_0_9, ↓ci_0_77, ↓ci_0_999, ↓ci_0_255, ↓ci_0_12, ↓ci_97_122, ↓ci_48_57, ↓ci_0_1, ↓ci_1_20, ↓ci_0_40, ↓ci_0_6, ↓ci_0_3, ↓ci_m1_2, ↓ci_0_2, a, b]
    exact hq _ (SM.fk h Fk.rf)
  rw [if_neg b] at hq
  by_cases c : T.1 = 160
  · rw [if_pos c] at hq
    have hc : (nI T.1 = 160) = True := eq_true (by rw [c]; rfl)
    simp only [↓e121_0, ↓e121_1, ↓e121_2, ↓e121_3, ↓e121_6, ↓e121_9, ↓e121_12, ↓e121_14, ↓e121_15, ↓e121_16, ↓e121_19, ↓e121_22, ↓e121_25, ↓e121_27, ↓e121_28, ↓e121_29, ↓e121_32, ↓e121_33, ↓e121_36, ↓e121_37, ↓e121_38, ↓e121_39, ↓e121_40, ↓e121_43, ↓e121_44, ↓e121_45, ↓e121_48, ↓e121_49, ↓e121_52, bc1_a, bd1, bd2, bd3, bd4, bd5, bd6, bd7, bd8, bd9, bd10, bd11, bd12, bd13, bd14, bd15, bd16, bd17, bd18, bd19, bd20, bd21, bd22, bd23, bd24, bd25, bd26, bd27, bd28, bd29, bd30, bd31, bd32, bd33, bd34, bd35, bd36, bd37, bd38, bd39, bc1_i, bc1_r, bc1_n, bc1_U, bisA_r, bisA_n, bisA_a, bct_i, bct_r, bct_n, bct_l, bcs_0, bcs_i, bcs_r, bcs_l, bcs_a, brt_0, brt_1, ↓bz0, ↓bz1, true_and, and_true, false_and, and_false, and_self, Nat.reduceAdd, Nat.reduceLeDiff, Nat.reduceSub, Nat.reduceEqDiff, ite_true, ite_false, if_true, if_false, ↓reduceIte, Int32.reduceLT, Int32.reduceLE, Int32.reduceAdd, Int32.reduceSub, Int32.reduceMul, Int32.reduceDiv, Int32.reduceToNatClampNeg, Int64.reduceLT, or_true, or_false, true_or, false_or, Nat.reduceLT, eq_self, iq_m1_0, iq_m1_1, iq_m1_2, iq_m1_3, iq_m1_4, iq_m1_5, iq_m1_6, iq_m1_13, iq_0_m1, iq_0_1, iq_0_2, iq_0_3, iq_0_4, iq_0_5, iq_0_6, iq_0_13, iq_1_m1, iq_1_0, iq_1_2, iq_1_3, iq_1_4, iq_1_5, iq_1_6, iq_1_13, iq_2_m1, iq_2_0, iq_2_1, iq_2_3, iq_2_4, iq_2_5, iq_2_6, iq_2_13, iq_3_m1, iq_3_0, iq_3_1, iq_3_2, iq_3_4, iq_3_5, iq_3_6, iq_3_13, iq_4_m1, iq_4_0, iq_4_1, iq_4_2, iq_4_3, iq_4_5, iq_4_6, iq_4_13, iq_5_m1, iq_5_0, iq_5_1, iq_5_2, iq_5_3, iq_5_4, iq_5_6, iq_5_13, iq_6_m1, iq_6_0, iq_6_1, iq_6_2, iq_6_3, iq_6_4, iq_6_5, iq_6_13, iq_13_m1, iq_13_0, iq_13_1, iq_13_2, iq_13_3, iq_13_4, iq_13_5, iq_13_6, ↓ci_gen, ↓ci_0v, ↓ci_0_99, ↓ci_1_8, ↓ci_0_5, ↓ci_0_9, ↓ci_0_77, ↓ci_0_999, ↓ci_0_255, ↓ci_0_12, ↓ci_97_122, ↓ci_48_57, ↓ci_0_1, ↓ci_1_20, ↓ci_0_40, ↓ci_0_6, ↓ci_0_3, ↓ci_m1_2, ↓ci_0_2, m44, a, b, x6, hc]
    exact hq _ (SM.fk h Fk.rf)
  · rw [if_neg c] at hq
    have hc : (nI T.1 = 160) = False := eq_false (fun z => c ((nI_eq (a := T.1) (b := 160) (by omega) (by decide)).mp z))
    have p0 : 0 ≤ nI T.1 := nI_pos' (by omega)
    have p1 : (nI T.1).toNatClampNeg = T.1 := nI_clamp (by omega)
    have hlt : T.1 < 160 := by omega
    simp only [↓e121_0, ↓e121_1, ↓e121_2, ↓e121_3, ↓e121_6, ↓e121_9, ↓e121_12, ↓e121_14, ↓e121_15, ↓e121_16, ↓e121_19, ↓e121_22, ↓e121_25, ↓e121_27, ↓e121_28, ↓e121_29, ↓e121_32, ↓e121_33, ↓e121_36, ↓e121_37, ↓e121_38, ↓e121_39, ↓e121_40, ↓e121_43, ↓e121_44, ↓e121_45, ↓e121_48, ↓e121_49, ↓e121_52, bc1_a, bd1, bd2, bd3, bd4, bd5, bd6, bd7, bd8, bd9, bd10, bd11, bd12, bd13, bd14, bd15, bd16, bd17, bd18, bd19, bd20, bd21, bd22, bd23, bd24, bd25, bd26, bd27, bd28, bd29, bd30, bd31, bd32, bd33, bd34, bd35, bd36, bd37, bd38, bd39, bc1_i, bc1_r, bc1_n, bc1_U, bisA_r, bisA_n, bisA_a, bct_i, bct_r, bct_n, bct_l, bcs_0, bcs_i, bcs_r, bcs_l, bcs_a, brt_0, brt_1, ↓bz0, ↓bz1, true_and, and_true, false_and, and_false, and_self, Nat.reduceAdd, Nat.reduceLeDiff, Nat.reduceSub, Nat.reduceEqDiff, ite_true, ite_false, if_true, if_false, ↓reduceIte, Int32.reduceLT, Int32.reduceLE, Int32.reduceAdd, Int32.reduceSub, Int32.reduceMul, Int32.reduceDiv, Int32.reduceToNatClampNeg, Int64.reduceLT, or_true, or_false, true_or, false_or, Nat.reduceLT, eq_self, iq_m1_0, iq_m1_1, iq_m1_2, iq_m1_3, iq_m1_4, iq_m1_5, iq_m1_6, iq_m1_13, iq_0_m1, iq_0_1, iq_0_2, iq_0_3, iq_0_4, iq_0_5, iq_0_6, iq_0_13, iq_1_m1, iq_1_0, iq_1_2, iq_1_3, iq_1_4, iq_1_5, iq_1_6, iq_1_13, iq_2_m1, iq_2_0, iq_2_1, iq_2_3, iq_2_4, iq_2_5, iq_2_6, iq_2_13, iq_3_m1, iq_3_0, iq_3_1, iq_3_2, iq_3_4, iq_3_5, iq_3_6, iq_3_13, iq_4_m1, iq_4_0, iq_4_1, iq_4_2, iq_4_3, iq_4_5, iq_4_6, iq_4_13, iq_5_m1, iq_5_0, iq_5_1, iq_5_2, iq_5_3, iq_5_4, iq_5_6, iq_5_13, iq_6_m1, iq_6_0, iq_6_1, iq_6_2, iq_6_3, iq_6_4, iq_6_5, iq_6_13, iq_13_m1, iq_13_0, iq_13_1, iq_13_2, iq_13_3, iq_13_4, iq_13_5, iq_13_6, ↓ci_gen, ↓ci_0v, ↓ci_0_99, ↓ci_1_8, ↓ci_0_5, ↓ci_0_9, ↓ci_0_77, ↓ci_0_999, ↓ci_0_255, ↓ci_0_12, ↓ci_97_122, ↓ci_48_57, ↓ci_0_1, ↓ci_1_20, ↓ci_0_40, ↓ci_0_6, ↓ci_0_3, ↓ci_m1_2, ↓ci_0_2, gS_n, gS_r, gS_p, gS_c, gL_n, gL_r, gL_p, gL_c, gN_n, gN_r, gN_p, gN_c, gZ_n, gZ_r, gZ_p, gZ_c, gI_p, gI_r, gI_n, gI_c, gR_p, gR_r, gR_c, gR_n2, ne_eq, not_false_eq_true, not_true_eq_false, m44, mr1, mr2, mr5, mr9, mr10, mr12, mr13, mr14, mr32, mr33, mr34, mr35, mr36, mr37, mr43, mr44, mr45, mr46, ms45, ms46, ms47, ms48, ms49, ms50, ms51, ms52, ms53, ms54, ms55, ms56, ms57, ms58, ms59, ms60, ms61, ms62, ml45, ml46, ml47, ml48, ml49, ml50, ml51, ml52, ml53, ml54, ml55, ml56, ml57, ml58, ml59, ml60, ml61, ml62, a, b, x6, hc, p0, p1, hlt, nI_1]
    refine hq _ ⟨?_, by repeat first | exact Fk.rf | refine Fk.put2 ?_ ⟨by decide, by decide⟩⟩
    have e : ∀ k, k ≠ 6 → gI (pI (pI M 47 T.1 x) 44 6 (nI (T.1 + 1))) 44 k = gI M 44 k := fun k hk => by rw [gI_p, if_neg (fun z => hk z.2), gI_p, if_neg (by omega)]
    refine ⟨hm.fr (S := fun o => o = 44 ∨ o = 47) ((Fr.put (Or.inr rfl)).put2 (Or.inl rfl)), ⟨(e 3 (by decide)).trans x3, xc1, xc6, (e 4 (by decide)).trans x4, xr, by rw [gI_p, if_pos ⟨rfl, rfl⟩], hlt, ?_, ?_⟩, ⟨dy, hdy, (e 7 (by decide)).trans x7⟩, ⟨gg, hg1, hg8, (e 8 (by decide)).trans x8⟩, ⟨pp, hpp, (e 11 (by decide)).trans x11⟩, ⟨sm, hsm, (e 15 (by decide)).trans x15⟩, ?_, ?_, ?_, ?_, ?_⟩
    · funext k
      rw [gI_p, if_neg (by omega), gI_p, ← x47]
      by_cases z : k = T.1
      · rw [if_pos ⟨rfl, z⟩]; exact (if_pos z).symm
      · rw [if_neg (fun y => z y.2)]; exact (if_neg z).symm
    · intro k
      show ¬ (if k = T.1 then x else T.2.1 k) < 0
      by_cases z : k = T.1
      · rw [if_pos z]; exact a
      · rw [if_neg z]; exact xf k
    · intro j hj; rw [gI_p, if_neg (by omega), gI_p, if_neg (by omega)]; exact x46 j hj
    · intro k; rw [gI_p, if_neg (by omega), gI_p, if_neg (by omega)]; exact x45 k
    · intro s hs; rw [gI_p, if_neg (by omega), gI_p, if_neg (by omega)]; exact x50 s hs
    · intro j hj; rw [gI_p, if_neg (by omega), gI_p, if_neg (by omega), gI_p, if_neg (by omega), gI_p, if_neg (by omega)]; exact xsh j hj
    · rw [e 38 (by decide), e 39 (by decide), e 40 (by decide), e 41 (by decide), e 42 (by decide)]
      have e57 : ∀ k, gI (pI (pI M 47 T.1 x) 44 6 (nI (T.1 + 1))) 57 k = gI M 57 k := fun k => by rw [gI_p, if_neg (by omega), gI_p, if_neg (by omega)]
      simp only [e57]
      exact ximg
theorem l_textM {M0 : mm_H} {n cnt : Nat} (hm : MS M0) (h3 : gI M0 44 3 = nI cnt) (hc : cnt < 6) (h6 : gI M0 44 6 = nI n) (hn : n ≤ 160)
    (hq : ∀ M', Fr (fun o => o = 45) M0 M' → (∀ j, gI M' 45 j = if 160 * cnt ≤ j ∧ j < 160 * cnt + n then gI M0 47 (j - 160 * cnt) else gI M0 45 j) → Wp L xs (d + 60) 168 49 [.ref 44, .int (nI n)] [] M' Q) : ∀ (k i : Nat) (M : mm_H), i + k = n → Fr (fun o => o = 45) M0 M → (∀ j, gI M 45 j = if 160 * cnt ≤ j ∧ j < 160 * cnt + i then gI M0 47 (j - 160 * cnt) else gI M0 45 j) → Wp L xs (d + 60) 168 14 [.ref 44, .int (nI i)] [] M Q := by
  intro k
  induction k with
  | zero =>
    intro i M hi f g
    have e : i = n := by omega
    subst e
    have m44 := (hm.fr f).1.1
    have h6' : gI M 44 6 = nI i := (f.2.2 44 (by decide) 6).trans h6
    have hcc : (nI i < nI i) = False := nI_lt0 (Nat.le_refl _) (by omega)
    have hh := hq M f g
    rw [e168_14]
    simp only [↓e168_0, ↓e168_1, ↓e168_4, ↓e168_6, ↓e168_9, ↓e168_11, ↓e168_12, ↓e168_13, ↓e168_15, ↓e168_16, ↓e168_19, ↓e168_22, ↓e168_23, ↓e168_26, ↓e168_29, ↓e168_30, ↓e168_33, ↓e168_34, ↓e168_35, ↓e168_36, ↓e168_37, ↓e168_40, ↓e168_41, ↓e168_42, ↓e168_43, ↓e168_46, ↓e168_50, ↓e168_53, ↓e168_54, ↓e168_57, ↓e168_58, ↓e168_61, ↓e168_62, ↓e168_63, ↓e168_64, ↓e168_67, ↓e168_68, ↓e168_69, ↓e168_72, ↓e168_73, ↓e168_76, ↓e168_77, ↓e168_78, ↓e168_81, ↓e168_84, ↓e168_86, ↓e168_87, ↓e168_90, ↓e168_91, ↓e168_92, ↓e168_93, ↓e168_94, ↓e168_97, ↓e168_98, ↓e168_99, ↓e168_102, ↓e168_103, ↓e168_106, ↓e168_107, ↓e168_108, bc1_a, bd1, bd2, bd3, bd4, bd5, bd6, bd7, bd8, bd9, bd10, bd11, bd12, bd13, bd14, bd15, bd16, bd17, bd18, bd19, bd20, bd21, bd22, bd23, bd24, bd25, bd26, bd27, bd28, bd29, bd30, bd31, bd32, bd33, bd34, bd35, bd36, bd37, bd38, bd39, bc1_i, bc1_r, bc1_n, bc1_U, bisA_r, bisA_n, bisA_a, bct_i, bct_r, bct_n, bct_l, bcs_0, bcs_i, bcs_r, bcs_l, bcs_a, brt_0, brt_1, ↓bz0, ↓bz1, true_and, and_true, false_and, and_false, and_self, Nat.reduceAdd, Nat.reduceLeDiff, Nat.reduceSub, Nat.reduceEqDiff, ite_true, ite_false, if_true, if_false, ↓reduceIte, Int32.reduceLT, Int32.reduceLE, Int32.reduceAdd, Int32.reduceSub, Int32.reduceMul, Int32.reduceDiv, Int32.reduceToNatClampNeg, Int64.reduceLT, or_true, or_false, true_or, false_or, Nat.reduceLT, m44, h6', hcc]
    exact hh
  | succ k ih =>
    intro i M hi f g
    obtain ⟨⟨m44, mr1, mr2, mr5, mr9, mr10, mr12, mr13, mr14, mr32, mr33, mr34, mr35, mr36, mr37, mr43, mr44, mr45, mr46⟩, ⟨ms45, ms46, ms47, ms48, ms49, ms50, ms51, ms52, ms53, ms54, ms55, ms56, ms57, ms58, ms59, ms60, ms61, ms62⟩, ml45, ml46, ml47, ml48, ml49, ml50, ml51, ml52, ml53, ml54, ml55, ml56, ml57, ml58, ml59, ml60, ml61, ml62⟩ := hm.fr f
    have h6' : gI M 44 6 = nI n := (f.2.2 44 (by decide) 6).trans h6
    have h3' : gI M 44 3 = nI cnt := (f.2.2 44 (by decide) 3).trans h3
    have hcc : (nI i < nI n) = True := nI_lt1 (by omega) (by omega)
    have p0 : 0 ≤ nI i := nI_pos' (by omega)
    have p1 : (nI i).toNatClampNeg = i := nI_clamp (by omega)
    have p2 : i < 160 := by omega
    have e1 : (160 : Int32) * nI cnt = nI (160 * cnt) := nI_mul 160 cnt
    have e2 : nI (160 * cnt) + nI i = nI (160 * cnt + i) := nI_add _ _
    have r0 : 0 ≤ nI (160 * cnt + i) := nI_pos' (by omega)
    have r1 : (nI (160 * cnt + i)).toNatClampNeg = 160 * cnt + i := nI_clamp (by omega)
    have r2 : 160 * cnt + i < 960 := by omega
    have hih := ih (i + 1) (pI M 45 (160 * cnt + i) (gI M 47 i)) (by omega) (f.put2 rfl) (fun j => by
      have e47 : gI M 47 i = gI M0 47 i := f.2.2 47 (by decide) i
      rw [gI_p, e47]
      by_cases z : j = 160 * cnt + i
      · rw [if_pos ⟨rfl, z⟩, if_pos (by omega), z]
        congr 1
        omega
      · rw [if_neg (fun y => z y.2), g]
        by_cases w : 160 * cnt ≤ j ∧ j < 160 * cnt + i
        · rw [if_pos w, if_pos (by omega)]
        · rw [if_neg w, if_neg (by omega)])
    rw [e168_14]
    simp only [↓e168_0, ↓e168_1, ↓e168_4, ↓e168_6, ↓e168_9, ↓e168_11, ↓e168_12, ↓e168_13, ↓e168_15, ↓e168_16, ↓e168_19, ↓e168_22, ↓e168_23, ↓e168_26, ↓e168_29, ↓e168_30, ↓e168_33, ↓e168_34, ↓e168_35, ↓e168_36, ↓e168_37, ↓e168_40, ↓e168_41, ↓e168_42, ↓e168_43, ↓e168_46, ↓e168_50, ↓e168_53, ↓e168_54, ↓e168_57, ↓e168_58, ↓e168_61, ↓e168_62, ↓e168_63, ↓e168_64, ↓e168_67, ↓e168_68, ↓e168_69, ↓e168_72, ↓e168_73, ↓e168_76, ↓e168_77, ↓e168_78, ↓e168_81, ↓e168_84, ↓e168_86, ↓e168_87, ↓e168_90, ↓e168_91, ↓e168_92, ↓e168_93, ↓e168_94, ↓e168_97, ↓e168_98, ↓e168_99, ↓e168_102, ↓e168_103, ↓e168_106, ↓e168_107, ↓e168_108, bc1_a, bd1, bd2, bd3, bd4, bd5, bd6, bd7, bd8, bd9, bd10, bd11, bd12, bd13, bd14, bd15, bd16, bd17, bd18, bd19, bd20, bd21, bd22, bd23, bd24, bd25, bd26, bd27, bd28, bd29, bd30, bd31, bd32, bd33, bd34, bd35, bd36, bd37, bd38, bd39, bc1_i, bc1_r, bc1_n, bc1_U, bisA_r, bisA_n, bisA_a, bct_i, bct_r, bct_n, bct_l, bcs_0, bcs_i, bcs_r, bcs_l, bcs_a, brt_0, brt_1, ↓bz0, ↓bz1, true_and, and_true, false_and, and_false, and_self, Nat.reduceAdd, Nat.reduceLeDiff, Nat.reduceSub, Nat.reduceEqDiff, ite_true, ite_false, if_true, if_false, ↓reduceIte, Int32.reduceLT, Int32.reduceLE, Int32.reduceAdd, Int32.reduceSub, Int32.reduceMul, Int32.reduceDiv, Int32.reduceToNatClampNeg, Int64.reduceLT, or_true, or_false, true_or, false_or, Nat.reduceLT, m44, mr1, mr2, mr5, mr9, mr10, mr12, mr13, mr14, mr32, mr33, mr34, mr35, mr36, mr37, mr43, mr44, mr45, mr46, ms45, ms46, ms47, ms48, ms49, ms50, ms51, ms52, ms53, ms54, ms55, ms56, ms57, ms58, ms59, ms60, ms61, ms62, ml45, ml46, ml47, ml48, ml49, ml50, ml51, ml52, ml53, ml54, ml55, ml56, ml57, ml58, ml59, ml60, ml61, ml62, h6', h3', hcc, p0, p1, p2, e1, e2, r0, r1, r2, nI_1]
    exact hih
theorem g_text (h : MI T M) (hq : ∀ M', SM (s_text T).2 M M' → Q (some (.int (s_text T).1)) M') : Call L xs (d + 60) 168 [.ref 44] M Q := by
  obtain ⟨hm, ⟨x3, xc1, xc6, x4, xr, x6, xn, x47, xf⟩, ⟨dy, hdy, x7⟩, ⟨gg, hg1, hg8, x8⟩, ⟨pp, hpp, x11⟩, ⟨sm, hsm, x15⟩, x46, x45, x50, xsh, ximg⟩ := id h
  obtain ⟨⟨m44, mr1, mr2, mr5, mr9, mr10, mr12, mr13, mr14, mr32, mr33, mr34, mr35, mr36, mr37, mr43, mr44, mr45, mr46⟩, ⟨ms45, ms46, ms47, ms48, ms49, ms50, ms51, ms52, ms53, ms54, ms55, ms56, ms57, ms58, ms59, ms60, ms61, ms62⟩, ml45, ml46, ml47, ml48, ml49, ml50, ml51, ml52, ml53, ml54, ml55, ml56, ml57, ml58, ml59, ml60, ml61, ml62⟩ := id hm
  rw [en168]
  unfold s_text at hq
  by_cases c : T.2.2.1 = 6
  · rw [if_pos c] at hq
    have hc : (nI T.2.2.1 = 6) = True := eq_true (by rw [c]; rfl)
    simp only [↓e168_0, ↓e168_1, ↓e168_4, ↓e168_6, ↓e168_9, ↓e168_11, ↓e168_12, ↓e168_13, ↓e168_15, ↓e168_16, ↓e168_19, ↓e168_22, ↓e168_23, ↓e168_26, ↓e168_29, ↓e168_30, ↓e168_33, ↓e168_34, ↓e168_35, ↓e168_36, ↓e168_37, ↓e168_40, ↓e168_41, ↓e168_42, ↓e168_43, ↓e168_46, ↓e168_49, ↓e168_50, ↓e168_53, ↓e168_54, ↓e168_57, ↓e168_58, ↓e168_61, ↓e168_62, ↓e168_63, ↓e168_64, ↓e168_67, ↓e168_68, ↓e168_69, ↓e168_72, ↓e168_73, ↓e168_76, ↓e168_77, ↓e168_78, ↓e168_81, ↓e168_84, ↓e168_86, ↓e168_87, ↓e168_90, ↓e168_91, ↓e168_92, ↓e168_93, ↓e168_94, ↓e168_97, ↓e168_98, ↓e168_99, ↓e168_102, ↓e168_103, ↓e168_106, ↓e168_107, ↓e168_108, bc1_a, bd1, bd2, bd3, bd4, bd5, bd6, bd7, bd8, bd9, bd10, bd11, bd12, bd13, bd14, bd15, bd16, bd17, bd18, bd19, bd20, bd21, bd22, bd23, bd24, bd25, bd26, bd27, bd28, bd29, bd30, bd31, bd32, bd33, bd34, bd35, bd36, bd37, bd38, bd39, bc1_i, bc1_r, bc1_n, bc1_U, bisA_r, bisA_n, bisA_a, bct_i, bct_r, bct_n, bct_l, bcs_0, bcs_i, bcs_r, bcs_l, bcs_a, brt_0, brt_1, ↓bz0, ↓bz1, true_and, and_true, false_and, and_false, and_self, Nat.reduceAdd, Nat.reduceLeDiff, Nat.reduceSub, Nat.reduceEqDiff, ite_true, ite_false, if_true, if_false, ↓reduceIte, Int32.reduceLT, Int32.reduceLE, Int32.reduceAdd, Int32.reduceSub, Int32.reduceMul, Int32.reduceDiv, Int32.reduceToNatClampNeg, Int64.reduceLT, or_true, or_false, true_or, false_or, Nat.reduceLT, m44, x3, hc]
    exact hq _ (SM.fk h Fk.rf)
  rw [if_neg c] at hq
  have hc : (nI T.2.2.1 = 6) = False := eq_false (fun z => c ((nI_eq (a := T.2.2.1) (b := 6) (by omega) (by decide)).mp z))
  have hl := l_textM (L := L) (xs := xs) (d := d) (Q := Q) (M0 := M) (n := T.1) (cnt := T.2.2.1) hm x3 (by omega) x6 xn (fun M1 f1 g1 => by
    have S1 := hm.fr f1
    obtain ⟨⟨m44, mr1, mr2, mr5, mr9, mr10, mr12, mr13, mr14, mr32, mr33, mr34, mr35, mr36, mr37, mr43, mr44, mr45, mr46⟩, ⟨ms45, ms46, ms47, ms48, ms49, ms50, ms51, ms52, ms53, ms54, ms55, ms56, ms57, ms58, ms59, ms60, ms61, ms62⟩, ml45, ml46, ml47, ml48, ml49, ml50, ml51, ml52, ml53, ml54, ml55, ml56, ml57, ml58, ml59, ml60, ml61, ml62⟩ := id S1
    have e44 : ∀ k, gI M1 44 k = gI M 44 k := fun k => f1.2.2 44 (by decide) k
    have c0 : 0 ≤ nI T.2.2.1 := nI_pos' (by omega)
    have c1 : (nI T.2.2.1).toNatClampNeg = T.2.2.1 := nI_clamp (by omega)
    have c2 : T.2.2.1 < 6 := by omega
    have k3 : gI M1 44 3 = nI T.2.2.1 := (e44 3).trans x3
    have k6 : gI M1 44 6 = nI T.1 := (e44 6).trans x6
    generalize hA : pI (pI M1 46 T.2.2.1 (nI T.1)) 44 6 0 = A
    have fA : Fr (fun o => o = 44 ∨ o = 46) M1 A := by rw [← hA]; exact (Fr.put (Or.inr rfl)).put2 (Or.inl rfl)
    have SA := S1.fr fA
    have a44 := SA.1.1
    have a3 : gI A 44 3 = nI T.2.2.1 := by rw [← hA, gI_p, if_neg (by omega), gI_p, if_neg (by omega)]; exact k3
    have a46 : gI A 46 T.2.2.1 = nI T.1 := by rw [← hA, gI_p, if_neg (by omega), gI_p, if_pos ⟨rfl, rfl⟩]
    have a45 : ∀ i, i < T.1 → gI A 45 (160 * T.2.2.1 + i) = T.2.1 i := fun i hi => by
      rw [fA.2.2 45 (by decide), g1, if_pos (by omega), ← x47]
      congr 1
      omega
    -- what holds of A whatever cnt will be
    have IA : ∀ (cn : Nat) (B : mm_H), T.2.2.1 ≤ cn → cn ≤ 6 → Fk (fun o k => (o = 44 ∧ k = 3) ∨ KF o k) A B → gI B 44 3 = nI cn → MI (0, T.2.1, cn, T.2.2.2) B := fun cn B h1 h2 fB hB => by
      have e : ∀ k, k ≠ 3 → k ≠ 6 → k < 16 ∨ 31 < k → gI B 44 k = gI M 44 k := fun k hk hk6 hk2 => by
        rw [fB.2.2 44 k (by unfold KF; omega), ← hA, gI_p, if_neg (fun z => hk6 z.2), gI_p, if_neg (by omega), e44]
      have o : ∀ o k, o ≠ 44 → o ≠ 46 → o ≠ 45 → ¬ KF o k → gI B o k = gI M o k := fun o k o1 o2 o3 hk => by
        rw [fB.2.2 o k (fun z => z.elim (fun y => o1 y.1) hk), fA.2.2 o (by omega), f1.2.2 o (by omega)]
      refine ⟨SA.fr fB.any, ⟨hB, by show 1 ≤ cn; omega, h2, (e 4 (by decide) (by decide) (by decide)).trans x4, by show T.2.2.2.1 < cn; omega, ?_, by show 0 ≤ 160; omega, ?_, xf⟩, ⟨dy, hdy, (e 7 (by decide) (by decide) (by decide)).trans x7⟩, ⟨gg, hg1, hg8, (e 8 (by decide) (by decide) (by decide)).trans x8⟩, ⟨pp, hpp, (e 11 (by decide) (by decide) (by decide)).trans x11⟩, ⟨sm, hsm, (e 15 (by decide) (by decide) (by decide)).trans x15⟩, ?_, ?_, ?_, ?_, ?_⟩
      · rw [fB.2.2 44 6 (by unfold KF; omega), ← hA, gI_p, if_pos ⟨rfl, rfl⟩]; rfl
      · funext k
        rw [o 47 k (by decide) (by decide) (by decide) (by unfold KF; omega)]
        exact congrFun x47 k
      · intro j hj
        rw [fB.2.2 46 j (by unfold KF; omega), ← hA, gI_p, if_neg (by omega), gI_p]
        by_cases z : j = T.2.2.1
        · rw [if_pos ⟨rfl, z⟩]; exact ⟨T.1, xn, rfl⟩
        · rw [if_neg (fun y => z y.2), f1.2.2 46 (by decide)]; exact x46 j hj
      · intro k
        rw [fB.2.2 45 k (by unfold KF; omega), fA.2.2 45 (by decide), g1]
        by_cases z : 160 * T.2.2.1 ≤ k ∧ k < 160 * T.2.2.1 + T.1
        · rw [if_pos z, x47]; exact xf _
        · rw [if_neg z]; exact x45 k
      · intro s hs
        rw [o 50 _ (by decide) (by decide) (by decide) (by unfold KF; omega)]; exact x50 s hs
      · intro j hj
        rw [o 59 j (by decide) (by decide) (by decide) (by unfold KF; omega), o 61 j (by decide) (by decide) (by decide) (by unfold KF; omega)]; exact xsh j hj
      · rw [e 38 (by decide) (by decide) (by decide), e 39 (by decide) (by decide) (by decide), e 40 (by decide) (by decide) (by decide), e 41 (by decide) (by decide) (by decide), e 42 (by decide) (by decide) (by decide)]
        have e57 : ∀ k, gI B 57 k = gI M 57 k := fun k => o 57 k (by decide) (by decide) (by decide) (by unfold KF; omega)
        simp only [e57]
        rcases ximg with xi | ⟨kr, pk, sk, dk, gk, y1, y2, y3⟩
        · exact Or.inl xi
        · exact Or.inr ⟨kr, pk, sk, dk, gk, y1, by show kr < cn; omega, y3⟩
    have zA : Fk KM M A := by
      rw [← hA]
      exact ((Fk.of f1 (fun o k z => by rw [z]; exact ⟨by decide, by decide⟩)).put2 ⟨by decide, by decide⟩).put2 ⟨by decide, by decide⟩
    rw [e168_49 rfl]
    simp only [↓e168_0, ↓e168_1, ↓e168_4, ↓e168_6, ↓e168_9, ↓e168_11, ↓e168_12, ↓e168_13, ↓e168_15, ↓e168_16, ↓e168_19, ↓e168_22, ↓e168_23, ↓e168_26, ↓e168_29, ↓e168_30, ↓e168_33, ↓e168_34, ↓e168_35, ↓e168_36, ↓e168_37, ↓e168_40, ↓e168_41, ↓e168_42, ↓e168_43, ↓e168_46, ↓e168_50, ↓e168_53, ↓e168_54, ↓e168_57, ↓e168_58, ↓e168_61, ↓e168_62, ↓e168_63, ↓e168_64, ↓e168_67, ↓e168_68, ↓e168_69, ↓e168_72, ↓e168_73, ↓e168_76, ↓e168_77, ↓e168_78, ↓e168_81, ↓e168_84, ↓e168_86, ↓e168_87, ↓e168_90, ↓e168_91, ↓e168_92, ↓e168_93, ↓e168_94, ↓e168_97, ↓e168_98, ↓e168_99, ↓e168_102, ↓e168_103, ↓e168_106, ↓e168_107, ↓e168_108, bc1_a, bd1, bd2, bd3, bd4, bd5, bd6, bd7, bd8, bd9, bd10, bd11, bd12, bd13, bd14, bd15, bd16, bd17, bd18, bd19, bd20, bd21, bd22, bd23, bd24, bd25, bd26, bd27, bd28, bd29, bd30, bd31, bd32, bd33, bd34, bd35, bd36, bd37, bd38, bd39, bc1_i, bc1_r, bc1_n, bc1_U, bisA_r, bisA_n, bisA_a, bct_i, bct_r, bct_n, bct_l, bcs_0, bcs_i, bcs_r, bcs_l, bcs_a, brt_0, brt_1, ↓bz0, ↓bz1, true_and, and_true, false_and, and_false, and_self, Nat.reduceAdd, Nat.reduceLeDiff, Nat.reduceSub, Nat.reduceEqDiff, ite_true, ite_false, if_true, if_false, ↓reduceIte, Int32.reduceLT, Int32.reduceLE, Int32.reduceAdd, Int32.reduceSub, Int32.reduceMul, Int32.reduceDiv, Int32.reduceToNatClampNeg, Int64.reduceLT, or_true, or_false, true_or, false_or, Nat.reduceLT, gS_n, gS_r, gS_p, gS_c, gL_n, gL_r, gL_p, gL_c, gN_n, gN_r, gN_p, gN_c, gZ_n, gZ_r, gZ_p, gZ_c, gI_p, gI_r, gI_n, gI_c, gR_p, gR_r, gR_c, gR_n2, ne_eq, not_false_eq_true, not_true_eq_false, m44, mr1, mr2, mr5, mr9, mr10, mr12, mr13, mr14, mr32, mr33, mr34, mr35, mr36, mr37, mr43, mr44, mr45, mr46, ms45, ms46, ms47, ms48, ms49, ms50, ms51, ms52, ms53, ms54, ms55, ms56, ms57, ms58, ms59, ms60, ms61, ms62, ml45, ml46, ml47, ml48, ml49, ml50, ml51, ml52, ml53, ml54, ml55, ml56, ml57, ml58, ml59, ml60, ml61, ml62, k3, k6, c0, c1, c2, hA, a44, a3]
    refine r_read (d := d + 17) (f := T.2.1) SA c2 a46 xn a45 (fun i _ => xf i) (fun B v a b e hp fB hb => ?_) (fun B v s hp fB hb hs => ?_)
    · have b44 := (SA.fr fB.k.any).1.1
      have b3 : gI B 44 3 = nI T.2.2.1 := (fB.2.2.2 3 (by decide)).trans a3
      rw [hp] at hq
      have hh := hq (pI B 44 3 (nI (T.2.2.1 + 1))) ⟨IA (T.2.2.1 + 1) _ (by omega) (by omega) ((fB.k.weak (fun o k z => Or.inr z)).put2 (Or.inl ⟨rfl, rfl⟩)) (by rw [gI_p, if_pos ⟨rfl, rfl⟩]), (zA.trans fB.k.km).put2 ⟨by decide, by decide⟩⟩
      have e1 : nI (T.2.2.1 + 1) - 1 = nI T.2.2.1 := by rw [← nI_1, Int32.add_sub_cancel]
      simp only [↓e168_0, ↓e168_1, ↓e168_4, ↓e168_6, ↓e168_9, ↓e168_11, ↓e168_12, ↓e168_13, ↓e168_15, ↓e168_16, ↓e168_19, ↓e168_22, ↓e168_23, ↓e168_26, ↓e168_29, ↓e168_30, ↓e168_33, ↓e168_34, ↓e168_35, ↓e168_36, ↓e168_37, ↓e168_40, ↓e168_41, ↓e168_42, ↓e168_43, ↓e168_46, ↓e168_50, ↓e168_53, ↓e168_54, ↓e168_57, ↓e168_58, ↓e168_61, ↓e168_62, ↓e168_63, ↓e168_64, ↓e168_67, ↓e168_68, ↓e168_69, ↓e168_72, ↓e168_73, ↓e168_76, ↓e168_77, ↓e168_78, ↓e168_81, ↓e168_84, ↓e168_86, ↓e168_87, ↓e168_90, ↓e168_91, ↓e168_92, ↓e168_93, ↓e168_94, ↓e168_97, ↓e168_98, ↓e168_99, ↓e168_102, ↓e168_103, ↓e168_106, ↓e168_107, ↓e168_108, bc1_a, bd1, bd2, bd3, bd4, bd5, bd6, bd7, bd8, bd9, bd10, bd11, bd12, bd13, bd14, bd15, bd16, bd17, bd18, bd19, bd20, bd21, bd22, bd23, bd24, bd25, bd26, bd27, bd28, bd29, bd30, bd31, bd32, bd33, bd34, bd35, bd36, bd37, bd38, bd39, bc1_i, bc1_r, bc1_n, bc1_U, bisA_r, bisA_n, bisA_a, bct_i, bct_r, bct_n, bct_l, bcs_0, bcs_i, bcs_r, bcs_l, bcs_a, brt_0, brt_1, ↓bz0, ↓bz1, true_and, and_true, false_and, and_false, and_self, Nat.reduceAdd, Nat.reduceLeDiff, Nat.reduceSub, Nat.reduceEqDiff, ite_true, ite_false, if_true, if_false, ↓reduceIte, Int32.reduceLT, Int32.reduceLE, Int32.reduceAdd, Int32.reduceSub, Int32.reduceMul, Int32.reduceDiv, Int32.reduceToNatClampNeg, Int64.reduceLT, or_true, or_false, true_or, false_or, Nat.reduceLT, gS_n, gS_r, gS_p, gS_c, gL_n, gL_r, gL_p, gL_c, gN_n, gN_r, gN_p, gN_c, gZ_n, gZ_r, gZ_p, gZ_c, gI_p, gI_r, gI_n, gI_c, gR_p, gR_r, gR_c, gR_n2, ne_eq, not_false_eq_true, not_true_eq_false, b44, hb, b3, nI_1, e1]
      exact hh
    · have b44 := (SA.fr fB.k.any).1.1
      have b3 : gI B 44 3 = nI T.2.2.1 := (fB.2.2.2 3 (by decide)).trans a3
      rw [hp] at hq
      have hh := hq B ⟨IA T.2.2.1 _ (by omega) (by omega) (fB.k.weak (fun o k z => Or.inr z)) b3, zA.trans fB.k.km⟩
      simp only [↓e168_0, ↓e168_1, ↓e168_4, ↓e168_6, ↓e168_9, ↓e168_11, ↓e168_12, ↓e168_13, ↓e168_15, ↓e168_16, ↓e168_19, ↓e168_22, ↓e168_23, ↓e168_26, ↓e168_29, ↓e168_30, ↓e168_33, ↓e168_34, ↓e168_35, ↓e168_36, ↓e168_37, ↓e168_40, ↓e168_41, ↓e168_42, ↓e168_43, ↓e168_46, ↓e168_50, ↓e168_53, ↓e168_54, ↓e168_57, ↓e168_58, ↓e168_61, ↓e168_62, ↓e168_63, ↓e168_64, ↓e168_67, ↓e168_68, ↓e168_69, ↓e168_72, ↓e168_73, ↓e168_76, ↓e168_77, ↓e168_78, ↓e168_81, ↓e168_84, ↓e168_86, ↓e168_87, ↓e168_90, ↓e168_91, ↓e168_92, ↓e168_93, ↓e168_94, ↓e168_97, ↓e168_98, ↓e168_99, ↓e168_102, ↓e168_103, ↓e168_106, ↓e168_107, ↓e168_108, bc1_a, bd1, bd2, bd3, bd4, bd5, bd6, bd7, bd8, bd9, bd10, bd11, bd12, bd13, bd14, bd15, bd16, bd17, bd18, bd19, bd20, bd21, bd22, bd23, bd24, bd25, bd26, bd27, bd28, bd29, bd30, bd31, bd32, bd33, bd34, bd35, bd36, bd37, bd38, bd39, bc1_i, bc1_r, bc1_n, bc1_U, bisA_r, bisA_n, bisA_a, bct_i, bct_r, bct_n, bct_l, bcs_0, bcs_i, bcs_r, bcs_l, bcs_a, brt_0, brt_1, ↓bz0, ↓bz1, true_and, and_true, false_and, and_false, and_self, Nat.reduceAdd, Nat.reduceLeDiff, Nat.reduceSub, Nat.reduceEqDiff, ite_true, ite_false, if_true, if_false, ↓reduceIte, Int32.reduceLT, Int32.reduceLE, Int32.reduceAdd, Int32.reduceSub, Int32.reduceMul, Int32.reduceDiv, Int32.reduceToNatClampNeg, Int64.reduceLT, or_true, or_false, true_or, false_or, Nat.reduceLT, eq_self, iq_m1_0, iq_m1_1, iq_m1_2, iq_m1_3, iq_m1_4, iq_m1_5, iq_m1_6, iq_m1_13, iq_0_m1, iq_0_1, iq_0_2, iq_0_3, iq_0_4, iq_0_5, iq_0_6, iq_0_13, iq_1_m1, iq_1_0, iq_1_2, iq_1_3, iq_1_4, iq_1_5, iq_1_6, iq_1_13, iq_2_m1, iq_2_0, iq_2_1, iq_2_3, iq_2_4, iq_2_5, iq_2_6, iq_2_13, iq_3_m1, iq_3_0, iq_3_1, iq_3_2, iq_3_4, iq_3_5, iq_3_6, iq_3_13, iq_4_m1, iq_4_0, iq_4_1, iq_4_2, iq_4_3, iq_4_5, iq_4_6, iq_4_13, iq_5_m1, iq_5_0, iq_5_1, iq_5_2, iq_5_3, iq_5_4, iq_5_6, iq_5_13, iq_6_m1, iq_6_0, iq_6_1, iq_6_2, iq_6_3, iq_6_4, iq_6_5, iq_6_13, iq_13_m1, iq_13_0, iq_13_1, iq_13_2, iq_13_3, iq_13_4, iq_13_5, iq_13_6, b44, hb, hs]
      exact hh) T.1 0 M (Nat.zero_add _) Fr.rf (fun j => by rw [if_neg (by omega)])
  simp only [↓e168_0, ↓e168_1, ↓e168_4, ↓e168_6, ↓e168_9, ↓e168_11, ↓e168_12, ↓e168_13, ↓e168_15, ↓e168_16, ↓e168_19, ↓e168_22, ↓e168_23, ↓e168_26, ↓e168_29, ↓e168_30, ↓e168_33, ↓e168_34, ↓e168_35, ↓e168_36, ↓e168_37, ↓e168_40, ↓e168_41, ↓e168_42, ↓e168_43, ↓e168_46, ↓e168_49, ↓e168_50, ↓e168_53, ↓e168_54, ↓e168_57, ↓e168_58, ↓e168_61, ↓e168_62, ↓e168_63, ↓e168_64, ↓e168_67, ↓e168_68, ↓e168_69, ↓e168_72, ↓e168_73, ↓e168_76, ↓e168_77, ↓e168_78, ↓e168_81, ↓e168_84, ↓e168_86, ↓e168_87, ↓e168_90, ↓e168_91, ↓e168_92, ↓e168_93, ↓e168_94, ↓e168_97, ↓e168_98, ↓e168_99, ↓e168_102, ↓e168_103, ↓e168_106, ↓e168_107, ↓e168_108, bc1_a, bd1, bd2, bd3, bd4, bd5, bd6, bd7, bd8, bd9, bd10, bd11, bd12, bd13, bd14, bd15, bd16, bd17, bd18, bd19, bd20, bd21, bd22, bd23, bd24, bd25, bd26, bd27, bd28, bd29, bd30, bd31, bd32, bd33, bd34, bd35, bd36, bd37, bd38, bd39, bc1_i, bc1_r, bc1_n, bc1_U, bisA_r, bisA_n, bisA_a, bct_i, bct_r, bct_n, bct_l, bcs_0, bcs_i, bcs_r, bcs_l, bcs_a, brt_0, brt_1, ↓bz0, ↓bz1, true_and, and_true, false_and, and_false, and_self, Nat.reduceAdd, Nat.reduceLeDiff, Nat.reduceSub, Nat.reduceEqDiff, ite_true, ite_false, if_true, if_false, ↓reduceIte, Int32.reduceLT, Int32.reduceLE, Int32.reduceAdd, Int32.reduceSub, Int32.reduceMul, Int32.reduceDiv, Int32.reduceToNatClampNeg, Int64.reduceLT, or_true, or_false, true_or, false_or, Nat.reduceLT, m44, x3, hc]
  exact hl
theorem g_force {t : Int32} (h : MI T M) (hq : ∀ M', SM (s_force T t).2 M M' → Q (some (.int (s_force T t).1)) M') : Call L xs (d + 60) 169 [.ref 44, .int t] M Q := by
  obtain ⟨hm, ⟨x3, xc1, xc6, x4, xr, x6, xn, x47, xf⟩, ⟨dy, hdy, x7⟩, ⟨gg, hg1, hg8, x8⟩, ⟨pp, hpp, x11⟩, ⟨sm, hsm, x15⟩, x46, x45, x50, xsh, ximg⟩ := id h
  have m44 := hm.1.1
  rw [en169]
  unfold s_force at hq
  by_cases a : t < 0
  · rw [if_pos a] at hq
    simp only [↓e169_0, ↓e169_1, ↓e169_2, ↓e169_3, ↓e169_4, ↓e169_7, ↓e169_8, ↓e169_9, ↓e169_10, ↓e169_13, ↓e169_16, ↓e169_18, ↓e169_19, ↓e169_20, ↓e169_23, ↓e169_24, ↓e169_25, ↓e169_26, ↓e169_29, ↓e169_30, bc1_a, bd1, bd2, bd3, bd4, bd5, bd6, bd7, bd8, bd9, bd10, bd11, bd12, bd13, bd14, bd15, bd16, bd17, bd18, bd19, bd20, bd21, bd22, bd23, bd24, bd25, bd26, bd27, bd28, bd29, bd30, bd31, bd32, bd33, bd34, bd35, bd36, bd37, bd38, bd39, bc1_i, bc1_r, bc1_n, bc1_U, bisA_r, bisA_n, bisA_a, bct_i, bct_r, bct_n, bct_l, bcs_0, bcs_i, bcs_r, bcs_l, bcs_a, brt_0, brt_1, ↓bz0, ↓bz1, true_and, and_true, false_and, and_false, and_self, Nat.reduceAdd, Nat.reduceLeDiff, Nat.reduceSub, Nat.reduceEqDiff, ite_true, ite_false, if_true, if_false, ↓reduceIte, Int32.reduceLT, Int32.reduceLE, Int32.reduceAdd, Int32.reduceSub, Int32.reduceMul, Int32.reduceDiv, Int32.reduceToNatClampNeg, Int64.reduceLT, or_true, or_false, true_or, false_or, Nat.reduceLT, eq_self, iq_m1_0, iq_m1_1, iq_m1_2, iq_m1_3, iq_m1_4, iq_m1_5, iq_m1_6, iq_m1_13, iq_0_m1, iq_0_1, iq_0_2, iq_0_3, iq_0_4, iq_0_5, iq_0_6, iq_0_13, iq_1_m1, iq_1_0, iq_1_2, iq_1_3, iq_1_4, iq_1_5, iq_1_6, iq_1_13, iq_2_m1, iq_2_0, iq_2_1, iq_2_3, iq_2_4, iq_2_5, iq_2_6, iq_2_13, iq_3_m1, iq_3_0, iq_3_1, iq_3_2, iq_3_4, iq_3_5, iq_3_6, iq_3_13, iq_4_m1, iq_4_0, iq_4_1, iq_4_2, iq_4_3, iq_4_5, iq_4_6, iq_4_13, iq_5_m1, iq_5_0, iq_5_1, iq_5_2, iq_5_3, iq_5_4, iq_5_6, iq_5_13, iq_6_m1, iq_6_0, iq_6_1, iq_6_2, iq_6_3, iq_6_4, iq_6_5, iq_6_13, iq_13_m1, iq_13_0, iq_13_1, iq_13_2, iq_13_3, iq_13_4, iq_13_5, iq_13_6, ↓ci_gen, ↓ci_0v, ↓ci_0_99, ↓ci_1_8, ↓ci_0_5, ↓ci_0_9, ↓ci_0_77, ↓ci_0_999, ↓ci_0_255, ↓ci_0_12, ↓ci_97_122, ↓ci_48_57, ↓ci_0_1, ↓ci_1_20, ↓ci_0_40, ↓ci_0_6, ↓ci_0_3, ↓ci_m1_2, ↓ci_0_2, m44, x3, a]
    exact hq M (SM.fk h Fk.rf)
  rw [if_neg a] at hq
  obtain ⟨j, hj, rfl⟩ := nI_of a
  by_cases b : nI j < nI T.2.2.1
  · have b' : (nI T.2.2.1 - 1 < nI j) = False := by rw [nI_lt32 _ (by omega) j hj]; exact eq_false (fun z => z b)
    have hjc : j < T.2.2.1 := (nI_ltI hj (by omega)).mp b
    rw [if_pos b, nI_clamp hj] at hq
    simp only [↓e169_0, ↓e169_1, ↓e169_2, ↓e169_3, ↓e169_4, ↓e169_7, ↓e169_8, ↓e169_9, ↓e169_10, ↓e169_13, ↓e169_16, ↓e169_18, ↓e169_19, ↓e169_20, ↓e169_23, ↓e169_24, ↓e169_25, ↓e169_26, ↓e169_29, ↓e169_30, bc1_a, bd1, bd2, bd3, bd4, bd5, bd6, bd7, bd8, bd9, bd10, bd11, bd12, bd13, bd14, bd15, bd16, bd17, bd18, bd19, bd20, bd21, bd22, bd23, bd24, bd25, bd26, bd27, bd28, bd29, bd30, bd31, bd32, bd33, bd34, bd35, bd36, bd37, bd38, bd39, bc1_i, bc1_r, bc1_n, bc1_U, bisA_r, bisA_n, bisA_a, bct_i, bct_r, bct_n, bct_l, bcs_0, bcs_i, bcs_r, bcs_l, bcs_a, brt_0, brt_1, ↓bz0, ↓bz1, true_and, and_true, false_and, and_false, and_self, Nat.reduceAdd, Nat.reduceLeDiff, Nat.reduceSub, Nat.reduceEqDiff, ite_true, ite_false, if_true, if_false, ↓reduceIte, Int32.reduceLT, Int32.reduceLE, Int32.reduceAdd, Int32.reduceSub, Int32.reduceMul, Int32.reduceDiv, Int32.reduceToNatClampNeg, Int64.reduceLT, or_true, or_false, true_or, false_or, Nat.reduceLT, eq_self, iq_m1_0, iq_m1_1, iq_m1_2, iq_m1_3, iq_m1_4, iq_m1_5, iq_m1_6, iq_m1_13, iq_0_m1, iq_0_1, iq_0_2, iq_0_3, iq_0_4, iq_0_5, iq_0_6, iq_0_13, iq_1_m1, iq_1_0, iq_1_2, iq_1_3, iq_1_4, iq_1_5, iq_1_6, iq_1_13, iq_2_m1, iq_2_0, iq_2_1, iq_2_3, iq_2_4, iq_2_5, iq_2_6, iq_2_13, iq_3_m1, iq_3_0, iq_3_1, iq_3_2, iq_3_4, iq_3_5, iq_3_6, iq_3_13, iq_4_m1, iq_4_0, iq_4_1, iq_4_2, iq_4_3, iq_4_5, iq_4_6, iq_4_13, iq_5_m1, iq_5_0, iq_5_1, iq_5_2, iq_5_3, iq_5_4, iq_5_6, iq_5_13, iq_6_m1, iq_6_0, iq_6_1, iq_6_2, iq_6_3, iq_6_4, iq_6_5, iq_6_13, iq_13_m1, iq_13_0, iq_13_1, iq_13_2, iq_13_3, iq_13_4, iq_13_5, iq_13_6, ↓ci_gen, ↓ci_0v, ↓ci_0_99, ↓ci_1_8, ↓ci_0_5, ↓ci_0_9, ↓ci_0_77, ↓ci_0_999, ↓ci_0_255, ↓ci_0_12, ↓ci_97_122, ↓ci_48_57, ↓ci_0_1, ↓ci_1_20, ↓ci_0_40, ↓ci_0_6, ↓ci_0_3, ↓ci_m1_2, ↓ci_0_2, m44, x3, x4, a, b']
    exact hq _ ⟨h.rule hjc, Fk.put ⟨by decide, by decide⟩⟩
  · have b' : (nI T.2.2.1 - 1 < nI j) = True := by rw [nI_lt32 _ (by omega) j hj]; exact eq_true b
    rw [if_neg b] at hq
    simp only [↓e169_0, ↓e169_1, ↓e169_2, ↓e169_3, ↓e169_4, ↓e169_7, ↓e169_8, ↓e169_9, ↓e169_10, ↓e169_13, ↓e169_16, ↓e169_18, ↓e169_19, ↓e169_20, ↓e169_23, ↓e169_24, ↓e169_25, ↓e169_26, ↓e169_29, ↓e169_30, bc1_a, bd1, bd2, bd3, bd4, bd5, bd6, bd7, bd8, bd9, bd10, bd11, bd12, bd13, bd14, bd15, bd16, bd17, bd18, bd19, bd20, bd21, bd22, bd23, bd24, bd25, bd26, bd27, bd28, bd29, bd30, bd31, bd32, bd33, bd34, bd35, bd36, bd37, bd38, bd39, bc1_i, bc1_r, bc1_n, bc1_U, bisA_r, bisA_n, bisA_a, bct_i, bct_r, bct_n, bct_l, bcs_0, bcs_i, bcs_r, bcs_l, bcs_a, brt_0, brt_1, ↓bz0, ↓bz1, true_and, and_true, false_and, and_false, and_self, Nat.reduceAdd, Nat.reduceLeDiff, Nat.reduceSub, Nat.reduceEqDiff, ite_true, ite_false, if_true, if_false, ↓reduceIte, Int32.reduceLT, Int32.reduceLE, Int32.reduceAdd, Int32.reduceSub, Int32.reduceMul, Int32.reduceDiv, Int32.reduceToNatClampNeg, Int64.reduceLT, or_true, or_false, true_or, false_or, Nat.reduceLT, eq_self, iq_m1_0, iq_m1_1, iq_m1_2, iq_m1_3, iq_m1_4, iq_m1_5, iq_m1_6, iq_m1_13, iq_0_m1, iq_0_1, iq_0_2, iq_0_3, iq_0_4, iq_0_5, iq_0_6, iq_0_13, iq_1_m1, iq_1_0, iq_1_2, iq_1_3, iq_1_4, iq_1_5, iq_1_6, iq_1_13, iq_2_m1, iq_2_0, iq_2_1, iq_2_3, iq_2_4, iq_2_5, iq_2_6, iq_2_13, iq_3_m1, iq_3_0, iq_3_1, iq_3_2, iq_3_4, iq_3_5, iq_3_6, iq_3_13, iq_4_m1, iq_4_0, iq_4_1, iq_4_2, iq_4_3, iq_4_5, iq_4_6, iq_4_13, iq_5_m1, iq_5_0, iq_5_1, iq_5_2, iq_5_3, iq_5_4, iq_5_6, iq_5_13, iq_6_m1, iq_6_0, iq_6_1, iq_6_2, iq_6_3, iq_6_4, iq_6_5, iq_6_13, iq_13_m1, iq_13_0, iq_13_1, iq_13_2, iq_13_3, iq_13_4, iq_13_5, iq_13_6, ↓ci_gen, ↓ci_0v, ↓ci_0_99, ↓ci_1_8, ↓ci_0_5, ↓ci_0_9, ↓ci_0_77, ↓ci_0_999, ↓ci_0_255, ↓ci_0_12, ↓ci_97_122, ↓ci_48_57, ↓ci_0_1, ↓ci_1_20, ↓ci_0_40, ↓ci_0_6, ↓ci_0_3, ↓ci_m1_2, ↓ci_0_2, m44, x3, a, b']
    exact hq M (SM.fk h Fk.rf)
theorem l_cp204_2 {M0 : mm_H} {D : Nat} (hm : MS M0) (hq : ∀ M', Fr (fun o => o = 56) M0 M' → (∀ j, j < 6 → gI M' 56 j = gI M0 49 j) → Wp L xs D 204 26 [.ref 44, .int (nI 6)] [] M' Q) : ∀ (k i : Nat) (M : mm_H), i + k = 6 → Fr (fun o => o = 56) M0 M → (∀ j, j < i → gI M 56 j = gI M0 49 j) → Wp L xs D 204 2 [.ref 44, .int (nI i)] [] M Q := by
  intro k
  induction k with
  | zero =>
    intro i M hi hr hv
    have e : i = 6 := by omega
    subst e
    have hc : (nI 6 < 6) = False := nI_lt0 (a := 6) (b := 6) (Nat.le_refl _) (by decide)
    have hh := hq M hr hv
    rw [e204_2]
    simp only [↓e204_0, ↓e204_1, ↓e204_3, ↓e204_5, ↓e204_8, ↓e204_9, ↓e204_12, ↓e204_13, ↓e204_14, ↓e204_17, ↓e204_18, ↓e204_19, ↓e204_20, ↓e204_23, ↓e204_27, ↓e204_29, ↓e204_31, ↓e204_34, ↓e204_35, ↓e204_38, ↓e204_39, ↓e204_40, ↓e204_43, ↓e204_44, ↓e204_45, ↓e204_46, ↓e204_49, ↓e204_53, ↓e204_55, ↓e204_57, ↓e204_60, ↓e204_61, ↓e204_64, ↓e204_65, ↓e204_66, ↓e204_69, ↓e204_70, ↓e204_71, ↓e204_72, ↓e204_75, ↓e204_79, ↓e204_80, ↓e204_83, ↓e204_86, ↓e204_87, ↓e204_88, ↓e204_91, ↓e204_94, ↓e204_95, ↓e204_96, ↓e204_99, ↓e204_102, ↓e204_103, ↓e204_104, ↓e204_107, ↓e204_110, ↓e204_111, ↓e204_112, ↓e204_115, ↓e204_118, ↓e204_119, ↓e204_122, bc1_a, bd1, bd2, bd3, bd4, bd5, bd6, bd7, bd8, bd9, bd10, bd11, bd12, bd13, bd14, bd15, bd16, bd17, bd18, bd19, bd20, bd21, bd22, bd23, bd24, bd25, bd26, bd27, bd28, bd29, bd30, bd31, bd32, bd33, bd34, bd35, bd36, bd37, bd38, bd39, bc1_i, bc1_r, bc1_n, bc1_U, bisA_r, bisA_n, bisA_a, bct_i, bct_r, bct_n, bct_l, bcs_0, bcs_i, bcs_r, bcs_l, bcs_a, brt_0, brt_1, ↓bz0, ↓bz1, true_and, and_true, false_and, and_false, and_self, Nat.reduceAdd, Nat.reduceLeDiff, Nat.reduceSub, Nat.reduceEqDiff, ite_true, ite_false, if_true, if_false, ↓reduceIte, Int32.reduceLT, Int32.reduceLE, Int32.reduceAdd, Int32.reduceSub, Int32.reduceMul, Int32.reduceDiv, Int32.reduceToNatClampNeg, Int64.reduceLT, or_true, or_false, true_or, false_or, Nat.reduceLT, hc]
    exact hh
  | succ k ih =>
    intro i M hi hr hv
    obtain ⟨⟨m44, mr1, mr2, mr5, mr9, mr10, mr12, mr13, mr14, mr32, mr33, mr34, mr35, mr36, mr37, mr43, mr44, mr45, mr46⟩, ⟨ms45, ms46, ms47, ms48, ms49, ms50, ms51, ms52, ms53, ms54, ms55, ms56, ms57, ms58, ms59, ms60, ms61, ms62⟩, ml45, ml46, ml47, ml48, ml49, ml50, ml51, ml52, ml53, ml54, ml55, ml56, ml57, ml58, ml59, ml60, ml61, ml62⟩ := hm.fr hr
    have hc : (nI i < 6) = True := nI_lt1 (a := i) (b := 6) (by omega) (by decide)
    have g0 : 0 ≤ nI i := nI_pos' (by omega)
    have g1 : (nI i).toNatClampNeg = i := nI_clamp (by omega)
    have h2 : i < 6 := by omega
    have hih := ih (i + 1) (pI M 56 i (gI M 49 i)) (by omega) (hr.put2 rfl) (fun j hj => by
      have es : gI M 49 i = gI M0 49 i := hr.2.2 49 (by decide) i
      rw [gI_p, es]
      by_cases z : j = i
      · rw [if_pos ⟨rfl, z⟩, z]
      · rw [if_neg (fun y => z y.2)]; exact hv j (by omega))
    rw [e204_2]
    simp only [↓e204_0, ↓e204_1, ↓e204_3, ↓e204_5, ↓e204_8, ↓e204_9, ↓e204_12, ↓e204_13, ↓e204_14, ↓e204_17, ↓e204_18, ↓e204_19, ↓e204_20, ↓e204_23, ↓e204_27, ↓e204_29, ↓e204_31, ↓e204_34, ↓e204_35, ↓e204_38, ↓e204_39, ↓e204_40, ↓e204_43, ↓e204_44, ↓e204_45, ↓e204_46, ↓e204_49, ↓e204_53, ↓e204_55, ↓e204_57, ↓e204_60, ↓e204_61, ↓e204_64, ↓e204_65, ↓e204_66, ↓e204_69, ↓e204_70, ↓e204_71, ↓e204_72, ↓e204_75, ↓e204_79, ↓e204_80, ↓e204_83, ↓e204_86, ↓e204_87, ↓e204_88, ↓e204_91, ↓e204_94, ↓e204_95, ↓e204_96, ↓e204_99, ↓e204_102, ↓e204_103, ↓e204_104, ↓e204_107, ↓e204_110, ↓e204_111, ↓e204_112, ↓e204_115, ↓e204_118, ↓e204_119, ↓e204_122, bc1_a, bd1, bd2, bd3, bd4, bd5, bd6, bd7, bd8, bd9, bd10, bd11, bd12, bd13, bd14, bd15, bd16, bd17, bd18, bd19, bd20, bd21, bd22, bd23, bd24, bd25, bd26, bd27, bd28, bd29, bd30, bd31, bd32, bd33, bd34, bd35, bd36, bd37, bd38, bd39, bc1_i, bc1_r, bc1_n, bc1_U, bisA_r, bisA_n, bisA_a, bct_i, bct_r, bct_n, bct_l, bcs_0, bcs_i, bcs_r, bcs_l, bcs_a, brt_0, brt_1, ↓bz0, ↓bz1, true_and, and_true, false_and, and_false, and_self, Nat.reduceAdd, Nat.reduceLeDiff, Nat.reduceSub, Nat.reduceEqDiff, ite_true, ite_false, if_true, if_false, ↓reduceIte, Int32.reduceLT, Int32.reduceLE, Int32.reduceAdd, Int32.reduceSub, Int32.reduceMul, Int32.reduceDiv, Int32.reduceToNatClampNeg, Int64.reduceLT, or_true, or_false, true_or, false_or, Nat.reduceLT, m44, mr1, mr2, mr5, mr9, mr10, mr12, mr13, mr14, mr32, mr33, mr34, mr35, mr36, mr37, mr43, mr44, mr45, mr46, ms45, ms46, ms47, ms48, ms49, ms50, ms51, ms52, ms53, ms54, ms55, ms56, ms57, ms58, ms59, ms60, ms61, ms62, ml45, ml46, ml47, ml48, ml49, ml50, ml51, ml52, ml53, ml54, ml55, ml56, ml57, ml58, ml59, ml60, ml61, ml62, hc, g0, g1, h2, nI_1]
    exact hih
theorem l_cp204_28 {M0 : mm_H} {D : Nat} (hm : MS M0) (hq : ∀ M', Fr (fun o => o = 57) M0 M' → (∀ j, j < 30 → gI M' 57 j = gI M0 50 j) → Wp L xs D 204 52 [.ref 44, .int (nI 30)] [] M' Q) : ∀ (k i : Nat) (M : mm_H), i + k = 30 → Fr (fun o => o = 57) M0 M → (∀ j, j < i → gI M 57 j = gI M0 50 j) → Wp L xs D 204 28 [.ref 44, .int (nI i)] [] M Q := by
  intro k
  induction k with
  | zero =>
    intro i M hi hr hv
    have e : i = 30 := by omega
    subst e
    have hc : (nI 30 < 30) = False := nI_lt0 (a := 30) (b := 30) (Nat.le_refl _) (by decide)
    have hh := hq M hr hv
    rw [e204_28]
    simp only [↓e204_0, ↓e204_1, ↓e204_3, ↓e204_5, ↓e204_8, ↓e204_9, ↓e204_12, ↓e204_13, ↓e204_14, ↓e204_17, ↓e204_18, ↓e204_19, ↓e204_20, ↓e204_23, ↓e204_27, ↓e204_29, ↓e204_31, ↓e204_34, ↓e204_35, ↓e204_38, ↓e204_39, ↓e204_40, ↓e204_43, ↓e204_44, ↓e204_45, ↓e204_46, ↓e204_49, ↓e204_53, ↓e204_55, ↓e204_57, ↓e204_60, ↓e204_61, ↓e204_64, ↓e204_65, ↓e204_66, ↓e204_69, ↓e204_70, ↓e204_71, ↓e204_72, ↓e204_75, ↓e204_79, ↓e204_80, ↓e204_83, ↓e204_86, ↓e204_87, ↓e204_88, ↓e204_91, ↓e204_94, ↓e204_95, ↓e204_96, ↓e204_99, ↓e204_102, ↓e204_103, ↓e204_104, ↓e204_107, ↓e204_110, ↓e204_111, ↓e204_112, ↓e204_115, ↓e204_118, ↓e204_119, ↓e204_122, bc1_a, bd1, bd2, bd3, bd4, bd5, bd6, bd7, bd8, bd9, bd10, bd11, bd12, bd13, bd14, bd15, bd16, bd17, bd18, bd19, bd20, bd21, bd22, bd23, bd24, bd25, bd26, bd27, bd28, bd29, bd30, bd31, bd32, bd33, bd34, bd35, bd36, bd37, bd38, bd39, bc1_i, bc1_r, bc1_n, bc1_U, bisA_r, bisA_n, bisA_a, bct_i, bct_r, bct_n, bct_l, bcs_0, bcs_i, bcs_r, bcs_l, bcs_a, brt_0, brt_1, ↓bz0, ↓bz1, true_and, and_true, false_and, and_false, and_self, Nat.reduceAdd, Nat.reduceLeDiff, Nat.reduceSub, Nat.reduceEqDiff, ite_true, ite_false, if_true, if_false, ↓reduceIte, Int32.reduceLT, Int32.reduceLE, Int32.reduceAdd, Int32.reduceSub, Int32.reduceMul, Int32.reduceDiv, Int32.reduceToNatClampNeg, Int64.reduceLT, or_true, or_false, true_or, false_or, Nat.reduceLT, hc]
    exact hh
  | succ k ih =>
    intro i M hi hr hv
    obtain ⟨⟨m44, mr1, mr2, mr5, mr9, mr10, mr12, mr13, mr14, mr32, mr33, mr34, mr35, mr36, mr37, mr43, mr44, mr45, mr46⟩, ⟨ms45, ms46, ms47, ms48, ms49, ms50, ms51, ms52, ms53, ms54, ms55, ms56, ms57, ms58, ms59, ms60, ms61, ms62⟩, ml45, ml46, ml47, ml48, ml49, ml50, ml51, ml52, ml53, ml54, ml55, ml56, ml57, ml58, ml59, ml60, ml61, ml62⟩ := hm.fr hr
    have hc : (nI i < 30) = True := nI_lt1 (a := i) (b := 30) (by omega) (by decide)
    have g0 : 0 ≤ nI i := nI_pos' (by omega)
    have g1 : (nI i).toNatClampNeg = i := nI_clamp (by omega)
    have h2 : i < 30 := by omega
    have hih := ih (i + 1) (pI M 57 i (gI M 50 i)) (by omega) (hr.put2 rfl) (fun j hj => by
      have es : gI M 50 i = gI M0 50 i := hr.2.2 50 (by decide) i
      rw [gI_p, es]
      by_cases z : j = i
      · rw [if_pos ⟨rfl, z⟩, z]
      · rw [if_neg (fun y => z y.2)]; exact hv j (by omega))
    rw [e204_28]
    simp only [↓e204_0, ↓e204_1, ↓e204_3, ↓e204_5, ↓e204_8, ↓e204_9, ↓e204_12, ↓e204_13, ↓e204_14, ↓e204_17, ↓e204_18, ↓e204_19, ↓e204_20, ↓e204_23, ↓e204_27, ↓e204_29, ↓e204_31, ↓e204_34, ↓e204_35, ↓e204_38, ↓e204_39, ↓e204_40, ↓e204_43, ↓e204_44, ↓e204_45, ↓e204_46, ↓e204_49, ↓e204_53, ↓e204_55, ↓e204_57, ↓e204_60, ↓e204_61, ↓e204_64, ↓e204_65, ↓e204_66, ↓e204_69, ↓e204_70, ↓e204_71, ↓e204_72, ↓e204_75, ↓e204_79, ↓e204_80, ↓e204_83, ↓e204_86, ↓e204_87, ↓e204_88, ↓e204_91, ↓e204_94, ↓e204_95, ↓e204_96, ↓e204_99, ↓e204_102, ↓e204_103, ↓e204_104, ↓e204_107, ↓e204_110, ↓e204_111, ↓e204_112, ↓e204_115, ↓e204_118, ↓e204_119, ↓e204_122, bc1_a, bd1, bd2, bd3, bd4, bd5, bd6, bd7, bd8, bd9, bd10, bd11, bd12, bd13, bd14, bd15, bd16, bd17, bd18, bd19, bd20, bd21, bd22, bd23, bd24, bd25, bd26, bd27, bd28, bd29, bd30, bd31, bd32, bd33, bd34, bd35, bd36, bd37, bd38, bd39, bc1_i, bc1_r, bc1_n, bc1_U, bisA_r, bisA_n, bisA_a, bct_i, bct_r, bct_n, bct_l, bcs_0, bcs_i, bcs_r, bcs_l, bcs_a, brt_0, brt_1, ↓bz0, ↓bz1, true_and, and_true, false_and, and_false, and_self, Nat.reduceAdd, Nat.reduceLeDiff, Nat.reduceSub, Nat.reduceEqDiff, ite_true, ite_false, if_true, if_false, ↓reduceIte, Int32.reduceLT, Int32.reduceLE, Int32.reduceAdd, Int32.reduceSub, Int32.reduceMul, Int32.reduceDiv, Int32.reduceToNatClampNeg, Int64.reduceLT, or_true, or_false, true_or, false_or, Nat.reduceLT, m44, mr1, mr2, mr5, mr9, mr10, mr12, mr13, mr14, mr32, mr33, mr34, mr35, mr36, mr37, mr43, mr44, mr45, mr46, ms45, ms46, ms47, ms48, ms49, ms50, ms51, ms52, ms53, ms54, ms55, ms56, ms57, ms58, ms59, ms60, ms61, ms62, ml45, ml46, ml47, ml48, ml49, ml50, ml51, ml52, ml53, ml54, ml55, ml56, ml57, ml58, ml59, ml60, ml61, ml62, hc, g0, g1, h2, nI_1]
    exact hih
theorem l_cp204_54 {M0 : mm_H} {D : Nat} (hm : MS M0) (hq : ∀ M', Fr (fun o => o = 58) M0 M' → (∀ j, j < 10 → gI M' 58 j = gI M0 52 j) → Wp L xs D 204 78 [.ref 44, .int (nI 10)] [] M' Q) : ∀ (k i : Nat) (M : mm_H), i + k = 10 → Fr (fun o => o = 58) M0 M → (∀ j, j < i → gI M 58 j = gI M0 52 j) → Wp L xs D 204 54 [.ref 44, .int (nI i)] [] M Q := by
  intro k
  induction k with
  | zero =>
    intro i M hi hr hv
    have e : i = 10 := by omega
    subst e
    have hc : (nI 10 < 10) = False := nI_lt0 (a := 10) (b := 10) (Nat.le_refl _) (by decide)
    have hh := hq M hr hv
    rw [e204_54]
    simp only [↓e204_0, ↓e204_1, ↓e204_3, ↓e204_5, ↓e204_8, ↓e204_9, ↓e204_12, ↓e204_13, ↓e204_14, ↓e204_17, ↓e204_18, ↓e204_19, ↓e204_20, ↓e204_23, ↓e204_27, ↓e204_29, ↓e204_31, ↓e204_34, ↓e204_35, ↓e204_38, ↓e204_39, ↓e204_40, ↓e204_43, ↓e204_44, ↓e204_45, ↓e204_46, ↓e204_49, ↓e204_53, ↓e204_55, ↓e204_57, ↓e204_60, ↓e204_61, ↓e204_64, ↓e204_65, ↓e204_66, ↓e204_69, ↓e204_70, ↓e204_71, ↓e204_72, ↓e204_75, ↓e204_79, ↓e204_80, ↓e204_83, ↓e204_86, ↓e204_87, ↓e204_88, ↓e204_91, ↓e204_94, ↓e204_95, ↓e204_96, ↓e204_99, ↓e204_102, ↓e204_103, ↓e204_104, ↓e204_107, ↓e204_110, ↓e204_111, ↓e204_112, ↓e204_115, ↓e204_118, ↓e204_119, ↓e204_122, bc1_a, bd1, bd2, bd3, bd4, bd5, bd6, bd7, bd8, bd9, bd10, bd11, bd12, bd13, bd14, bd15, bd16, bd17, bd18, bd19, bd20, bd21, bd22, bd23, bd24, bd25, bd26, bd27, bd28, bd29, bd30, bd31, bd32, bd33, bd34, bd35, bd36, bd37, bd38, bd39, bc1_i, bc1_r, bc1_n, bc1_U, bisA_r, bisA_n, bisA_a, bct_i, bct_r, bct_n, bct_l, bcs_0, bcs_i, bcs_r, bcs_l, bcs_a, brt_0, brt_1, ↓bz0, ↓bz1, true_and, and_true, false_and, and_false, and_self, Nat.reduceAdd, Nat.reduceLeDiff, Nat.reduceSub, Nat.reduceEqDiff, ite_true, ite_false, if_true, if_false, ↓reduceIte, Int32.reduceLT, Int32.reduceLE, Int32.reduceAdd, Int32.reduceSub, Int32.reduceMul, Int32.reduceDiv, Int32.reduceToNatClampNeg, Int64.reduceLT, or_true, or_false, true_or, false_or, Nat.reduceLT, hc]
    exact hh
  | succ k ih =>
    intro i M hi hr hv
    obtain ⟨⟨m44, mr1, mr2, mr5, mr9, mr10, mr12, mr13, mr14, mr32, mr33, mr34, mr35, mr36, mr37, mr43, mr44, mr45, mr46⟩, ⟨ms45, ms46, ms47, ms48, ms49, ms50, ms51, ms52, ms53, ms54, ms55, ms56, ms57, ms58, ms59, ms60, ms61, ms62⟩, ml45, ml46, ml47, ml48, ml49, ml50, ml51, ml52, ml53, ml54, ml55, ml56, ml57, ml58, ml59, ml60, ml61, ml62⟩ := hm.fr hr
    have hc : (nI i < 10) = True := nI_lt1 (a := i) (b := 10) (by omega) (by decide)
    have g0 : 0 ≤ nI i := nI_pos' (by omega)
    have g1 : (nI i).toNatClampNeg = i := nI_clamp (by omega)
    have h2 : i < 10 := by omega
    have hih := ih (i + 1) (pI M 58 i (gI M 52 i)) (by omega) (hr.put2 rfl) (fun j hj => by
      have es : gI M 52 i = gI M0 52 i := hr.2.2 52 (by decide) i
      rw [gI_p, es]
      by_cases z : j = i
      · rw [if_pos ⟨rfl, z⟩, z]
      · rw [if_neg (fun y => z y.2)]; exact hv j (by omega))
    rw [e204_54]
    simp only [↓e204_0, ↓e204_1, ↓e204_3, ↓e204_5, ↓e204_8, ↓e204_9, ↓e204_12, ↓e204_13, ↓e204_14, ↓e204_17, ↓e204_18, ↓e204_19, ↓e204_20, ↓e204_23, ↓e204_27, ↓e204_29, ↓e204_31, ↓e204_34, ↓e204_35, ↓e204_38, ↓e204_39, ↓e204_40, ↓e204_43, ↓e204_44, ↓e204_45, ↓e204_46, ↓e204_49, ↓e204_53, ↓e204_55, ↓e204_57, ↓e204_60, ↓e204_61, ↓e204_64, ↓e204_65, ↓e204_66, ↓e204_69, ↓e204_70, ↓e204_71, ↓e204_72, ↓e204_75, ↓e204_79, ↓e204_80, ↓e204_83, ↓e204_86, ↓e204_87, ↓e204_88, ↓e204_91, ↓e204_94, ↓e204_95, ↓e204_96, ↓e204_99, ↓e204_102, ↓e204_103, ↓e204_104, ↓e204_107, ↓e204_110, ↓e204_111, ↓e204_112, ↓e204_115, ↓e204_118, ↓e204_119, ↓e204_122, bc1_a, bd1, bd2, bd3, bd4, bd5, bd6, bd7, bd8, bd9, bd10, bd11, bd12, bd13, bd14, bd15, bd16, bd17, bd18, bd19, bd20, bd21, bd22, bd23, bd24, bd25, bd26, bd27, bd28, bd29, bd30, bd31, bd32, bd33, bd34, bd35, bd36, bd37, bd38, bd39, bc1_i, bc1_r, bc1_n, bc1_U, bisA_r, bisA_n, bisA_a, bct_i, bct_r, bct_n, bct_l, bcs_0, bcs_i, bcs_r, bcs_l, bcs_a, brt_0, brt_1, ↓bz0, ↓bz1, true_and, and_true, false_and, and_false, and_self, Nat.reduceAdd, Nat.reduceLeDiff, Nat.reduceSub, Nat.reduceEqDiff, ite_true, ite_false, if_true, if_false, ↓reduceIte, Int32.reduceLT, Int32.reduceLE, Int32.reduceAdd, Int32.reduceSub, Int32.reduceMul, Int32.reduceDiv, Int32.reduceToNatClampNeg, Int64.reduceLT, or_true, or_false, true_or, false_or, Nat.reduceLT, m44, mr1, mr2, mr5, mr9, mr10, mr12, mr13, mr14, mr32, mr33, mr34, mr35, mr36, mr37, mr43, mr44, mr45, mr46, ms45, ms46, ms47, ms48, ms49, ms50, ms51, ms52, ms53, ms54, ms55, ms56, ms57, ms58, ms59, ms60, ms61, ms62, ml45, ml46, ml47, ml48, ml49, ml50, ml51, ml52, ml53, ml54, ml55, ml56, ml57, ml58, ml59, ml60, ml61, ml62, hc, g0, g1, h2, nI_1]
    exact hih
theorem l_cp205_13 {M0 : mm_H} {D : Nat} (hm : MS M0) (hq : ∀ M', Fr (fun o => o = 49) M0 M' → (∀ j, j < 6 → gI M' 49 j = gI M0 56 j) → Wp L xs D 205 37 [.ref 44, .int (nI 6)] [] M' Q) : ∀ (k i : Nat) (M : mm_H), i + k = 6 → Fr (fun o => o = 49) M0 M → (∀ j, j < i → gI M 49 j = gI M0 56 j) → Wp L xs D 205 13 [.ref 44, .int (nI i)] [] M Q := by
  intro k
  induction k with
  | zero =>
    intro i M hi hr hv
    have e : i = 6 := by omega
    subst e
    have hc : (nI 6 < 6) = False := nI_lt0 (a := 6) (b := 6) (Nat.le_refl _) (by decide)
    have hh := hq M hr hv
    rw [e205_13]
    simp only [↓e205_0, ↓e205_1, ↓e205_4, ↓e205_5, ↓e205_8, ↓e205_10, ↓e205_11, ↓e205_12, ↓e205_14, ↓e205_16, ↓e205_19, ↓e205_20, ↓e205_23, ↓e205_24, ↓e205_25, ↓e205_28, ↓e205_29, ↓e205_30, ↓e205_31, ↓e205_34, ↓e205_38, ↓e205_40, ↓e205_42, ↓e205_45, ↓e205_46, ↓e205_49, ↓e205_50, ↓e205_51, ↓e205_54, ↓e205_55, ↓e205_56, ↓e205_57, ↓e205_60, ↓e205_64, ↓e205_66, ↓e205_68, ↓e205_71, ↓e205_72, ↓e205_75, ↓e205_76, ↓e205_77, ↓e205_80, ↓e205_81, ↓e205_82, ↓e205_83, ↓e205_86, ↓e205_90, ↓e205_91, ↓e205_94, ↓e205_97, ↓e205_98, ↓e205_99, ↓e205_102, ↓e205_105, ↓e205_106, ↓e205_107, ↓e205_110, ↓e205_113, ↓e205_114, ↓e205_115, ↓e205_118, ↓e205_121, ↓e205_122, ↓e205_123, ↓e205_126, ↓e205_129, ↓e205_130, ↓e205_133, bc1_a, bd1, bd2, bd3, bd4, bd5, bd6, bd7, bd8, bd9, bd10, bd11, bd12, bd13, bd14, bd15, bd16, bd17, bd18, bd19, bd20, bd21, bd22, bd23, bd24, bd25, bd26, bd27, bd28, bd29, bd30, bd31, bd32, bd33, bd34, bd35, bd36, bd37, bd38, bd39, bc1_i, bc1_r, bc1_n, bc1_U, bisA_r, bisA_n, bisA_a, bct_i, bct_r, bct_n, bct_l, bcs_0, bcs_i, bcs_r, bcs_l, bcs_a, brt_0, brt_1, ↓bz0, ↓bz1, true_and, and_true, false_and, and_false, and_self, Nat.reduceAdd, Nat.reduceLeDiff, Nat.reduceSub, Nat.reduceEqDiff, ite_true, ite_false, if_true, if_false, ↓reduceIte, Int32.reduceLT, Int32.reduceLE, Int32.reduceAdd, Int32.reduceSub, Int32.reduceMul, Int32.reduceDiv, Int32.reduceToNatClampNeg, Int64.reduceLT, or_true, or_false, true_or, false_or, Nat.reduceLT, hc]
    exact hh
  | succ k ih =>
    intro i M hi hr hv
    obtain ⟨⟨m44, mr1, mr2, mr5, mr9, mr10, mr12, mr13, mr14, mr32, mr33, mr34, mr35, mr36, mr37, mr43, mr44, mr45, mr46⟩, ⟨ms45, ms46, ms47, ms48, ms49, ms50, ms51, ms52, ms53, ms54, ms55, ms56, ms57, ms58, ms59, ms60, ms61, ms62⟩, ml45, ml46, ml47, ml48, ml49, ml50, ml51, ml52, ml53, ml54, ml55, ml56, ml57, ml58, ml59, ml60, ml61, ml62⟩ := hm.fr hr
    have hc : (nI i < 6) = True := nI_lt1 (a := i) (b := 6) (by omega) (by decide)
    have g0 : 0 ≤ nI i := nI_pos' (by omega)
    have g1 : (nI i).toNatClampNeg = i := nI_clamp (by omega)
    have h2 : i < 6 := by omega
    have hih := ih (i + 1) (pI M 49 i (gI M 56 i)) (by omega) (hr.put2 rfl) (fun j hj => by
      have es : gI M 56 i = gI M0 56 i := hr.2.2 56 (by decide) i
      rw [gI_p, es]
      by_cases z : j = i
      · rw [if_pos ⟨rfl, z⟩, z]
      · rw [if_neg (fun y => z y.2)]; exact hv j (by omega))
    rw [e205_13]
    simp only [↓e205_0, ↓e205_1, ↓e205_4, ↓e205_5, ↓e205_8, ↓e205_10, ↓e205_11, ↓e205_12, ↓e205_14, ↓e205_16, ↓e205_19, ↓e205_20, ↓e205_23, ↓e205_24, ↓e205_25, ↓e205_28, ↓e205_29, ↓e205_30, ↓e205_31, ↓e205_34, ↓e205_38, ↓e205_40, ↓e205_42, ↓e205_45, ↓e205_46, ↓e205_49, ↓e205_50, ↓e205_51, ↓e205_54, ↓e205_55, ↓e205_56, ↓e205_57, ↓e205_60, ↓e205_64, ↓e205_66, ↓e205_68, ↓e205_71, ↓e205_72, ↓e205_75, ↓e205_76, ↓e205_77, ↓e205_80, ↓e205_81, ↓e205_82, ↓e205_83, ↓e205_86, ↓e205_90, ↓e205_91, ↓e205_94, ↓e205_97, ↓e205_98, ↓e205_99, ↓e205_102, ↓e205_105, ↓e205_106, ↓e205_107, ↓e205_110, ↓e205_113, ↓e205_114, ↓e205_115, ↓e205_118, ↓e205_121, ↓e205_122, ↓e205_123, ↓e205_126, ↓e205_129, ↓e205_130, ↓e205_133, bc1_a, bd1, bd2, bd3, bd4, bd5, bd6, bd7, bd8, bd9, bd10, bd11, bd12, bd13, bd14, bd15, bd16, bd17, bd18, bd19, bd20, bd21, bd22, bd23, bd24, bd25, bd26, bd27, bd28, bd29, bd30, bd31, bd32, bd33, bd34, bd35, bd36, bd37, bd38, bd39, bc1_i, bc1_r, bc1_n, bc1_U, bisA_r, bisA_n, bisA_a, bct_i, bct_r, bct_n, bct_l, bcs_0, bcs_i, bcs_r, bcs_l, bcs_a, brt_0, brt_1, ↓bz0, ↓bz1, true_and, and_true, false_and, and_false, and_self, Nat.reduceAdd, Nat.reduceLeDiff, Nat.reduceSub, Nat.reduceEqDiff, ite_true, ite_false, if_true, if_false, ↓reduceIte, Int32.reduceLT, Int32.reduceLE, Int32.reduceAdd, Int32.reduceSub, Int32.reduceMul, Int32.reduceDiv, Int32.reduceToNatClampNeg, Int64.reduceLT, or_true, or_false, true_or, false_or, Nat.reduceLT, m44, mr1, mr2, mr5, mr9, mr10, mr12, mr13, mr14, mr32, mr33, mr34, mr35, mr36, mr37, mr43, mr44, mr45, mr46, ms45, ms46, ms47, ms48, ms49, ms50, ms51, ms52, ms53, ms54, ms55, ms56, ms57, ms58, ms59, ms60, ms61, ms62, ml45, ml46, ml47, ml48, ml49, ml50, ml51, ml52, ml53, ml54, ml55, ml56, ml57, ml58, ml59, ml60, ml61, ml62, hc, g0, g1, h2, nI_1]
    exact hih
theorem l_cp205_39 {M0 : mm_H} {D : Nat} (hm : MS M0) (hq : ∀ M', Fr (fun o => o = 50) M0 M' → (∀ j, j < 30 → gI M' 50 j = gI M0 57 j) → Wp L xs D 205 63 [.ref 44, .int (nI 30)] [] M' Q) : ∀ (k i : Nat) (M : mm_H), i + k = 30 → Fr (fun o => o = 50) M0 M → (∀ j, j < i → gI M 50 j = gI M0 57 j) → Wp L xs D 205 39 [.ref 44, .int (nI i)] [] M Q := by
  intro k
  induction k with
  | zero =>
    intro i M hi hr hv
    have e : i = 30 := by omega
    subst e
    have hc : (nI 30 < 30) = False := nI_lt0 (a := 30) (b := 30) (Nat.le_refl _) (by decide)
    have hh := hq M hr hv
    rw [e205_39]
    simp only [↓e205_0, ↓e205_1, ↓e205_4, ↓e205_5, ↓e205_8, ↓e205_10, ↓e205_11, ↓e205_12, ↓e205_14, ↓e205_16, ↓e205_19, ↓e205_20, ↓e205_23, ↓e205_24, ↓e205_25, ↓e205_28, ↓e205_29, ↓e205_30, ↓e205_31, ↓e205_34, ↓e205_38, ↓e205_40, ↓e205_42, ↓e205_45, ↓e205_46, ↓e205_49, ↓e205_50, ↓e205_51, ↓e205_54, ↓e205_55, ↓e205_56, ↓e205_57, ↓e205_60, ↓e205_64, ↓e205_66, ↓e205_68, ↓e205_71, ↓e205_72, ↓e205_75, ↓e205_76, ↓e205_77, ↓e205_80, ↓e205_81, ↓e205_82, ↓e205_83, ↓e205_86, ↓e205_90, ↓e205_91, ↓e205_94, ↓e205_97, ↓e205_98, ↓e205_99, ↓e205_102, ↓e205_105, ↓e205_106, ↓e205_107, ↓e205_110, ↓e205_113, ↓e205_114, ↓e205_115, ↓e205_118, ↓e205_121, ↓e205_122, ↓e205_123, ↓e205_126, ↓e205_129, ↓e205_130, ↓e205_133, bc1_a, bd1, bd2, bd3, bd4, bd5, bd6, bd7, bd8, bd9, bd10, bd11, bd12, bd13, bd14, bd15, bd16, bd17, bd18, bd19, bd20, bd21, bd22, bd23, bd24, bd25, bd26, bd27, bd28, bd29, bd30, bd31, bd32, bd33, bd34, bd35, bd36, bd37, bd38, bd39, bc1_i, bc1_r, bc1_n, bc1_U, bisA_r, bisA_n, bisA_a, bct_i, bct_r, bct_n, bct_l, bcs_0, bcs_i, bcs_r, bcs_l, bcs_a, brt_0, brt_1, ↓bz0, ↓bz1, true_and, and_true, false_and, and_false, and_self, Nat.reduceAdd, Nat.reduceLeDiff, Nat.reduceSub, Nat.reduceEqDiff, ite_true, ite_false, if_true, if_false, ↓reduceIte, Int32.reduceLT, Int32.reduceLE, Int32.reduceAdd, Int32.reduceSub, Int32.reduceMul, Int32.reduceDiv, Int32.reduceToNatClampNeg, Int64.reduceLT, or_true, or_false, true_or, false_or, Nat.reduceLT, hc]
    exact hh
  | succ k ih =>
    intro i M hi hr hv
    obtain ⟨⟨m44, mr1, mr2, mr5, mr9, mr10, mr12, mr13, mr14, mr32, mr33, mr34, mr35, mr36, mr37, mr43, mr44, mr45, mr46⟩, ⟨ms45, ms46, ms47, ms48, ms49, ms50, ms51, ms52, ms53, ms54, ms55, ms56, ms57, ms58, ms59, ms60, ms61, ms62⟩, ml45, ml46, ml47, ml48, ml49, ml50, ml51, ml52, ml53, ml54, ml55, ml56, ml57, ml58, ml59, ml60, ml61, ml62⟩ := hm.fr hr
    have hc : (nI i < 30) = True := nI_lt1 (a := i) (b := 30) (by omega) (by decide)
    have g0 : 0 ≤ nI i := nI_pos' (by omega)
    have g1 : (nI i).toNatClampNeg = i := nI_clamp (by omega)
    have h2 : i < 30 := by omega
    have hih := ih (i + 1) (pI M 50 i (gI M 57 i)) (by omega) (hr.put2 rfl) (fun j hj => by
      have es : gI M 57 i = gI M0 57 i := hr.2.2 57 (by decide) i
      rw [gI_p, es]
      by_cases z : j = i
      · rw [if_pos ⟨rfl, z⟩, z]
      · rw [if_neg (fun y => z y.2)]; exact hv j (by omega))
    rw [e205_39]
    simp only [↓e205_0, ↓e205_1, ↓e205_4, ↓e205_5, ↓e205_8, ↓e205_10, ↓e205_11, ↓e205_12, ↓e205_14, ↓e205_16, ↓e205_19, ↓e205_20, ↓e205_23, ↓e205_24, ↓e205_25, ↓e205_28, ↓e205_29, ↓e205_30, ↓e205_31, ↓e205_34, ↓e205_38, ↓e205_40, ↓e205_42, ↓e205_45, ↓e205_46, ↓e205_49, ↓e205_50, ↓e205_51, ↓e205_54, ↓e205_55, ↓e205_56, ↓e205_57, ↓e205_60, ↓e205_64, ↓e205_66, ↓e205_68, ↓e205_71, ↓e205_72, ↓e205_75, ↓e205_76, ↓e205_77, ↓e205_80, ↓e205_81, ↓e205_82, ↓e205_83, ↓e205_86, ↓e205_90, ↓e205_91, ↓e205_94, ↓e205_97, ↓e205_98, ↓e205_99, ↓e205_102, ↓e205_105, ↓e205_106, ↓e205_107, ↓e205_110, ↓e205_113, ↓e205_114, ↓e205_115, ↓e205_118, ↓e205_121, ↓e205_122, ↓e205_123, ↓e205_126, ↓e205_129, ↓e205_130, ↓e205_133, bc1_a, bd1, bd2, bd3, bd4, bd5, bd6, bd7, bd8, bd9, bd10, bd11, bd12, bd13, bd14, bd15, bd16, bd17, bd18, bd19, bd20, bd21, bd22, bd23, bd24, bd25, bd26, bd27, bd28, bd29, bd30, bd31, bd32, bd33, bd34, bd35, bd36, bd37, bd38, bd39, bc1_i, bc1_r, bc1_n, bc1_U, bisA_r, bisA_n, bisA_a, bct_i, bct_r, bct_n, bct_l, bcs_0, bcs_i, bcs_r, bcs_l, bcs_a, brt_0, brt_1, ↓bz0, ↓bz1, true_and, and_true, false_and, and_false, and_self, Nat.reduceAdd, Nat.reduceLeDiff, Nat.reduceSub, Nat.reduceEqDiff, ite_true, ite_false, if_true, if_false, ↓reduceIte, Int32.reduceLT, Int32.reduceLE, Int32.reduceAdd, Int32.reduceSub, Int32.reduceMul, Int32.reduceDiv, Int32.reduceToNatClampNeg, Int64.reduceLT, or_true, or_false, true_or, false_or, Nat.reduceLT, m44, mr1, mr2, mr5, mr9, mr10, mr12, mr13, mr14, mr32, mr33, mr34, mr35, mr36, mr37, mr43, mr44, mr45, mr46, ms45, ms46, ms47, ms48, ms49, ms50, ms51, ms52, ms53, ms54, ms55, ms56, ms57, ms58, ms59, ms60, ms61, ms62, ml45, ml46, ml47, ml48, ml49, ml50, ml51, ml52, ml53, ml54, ml55, ml56, ml57, ml58, ml59, ml60, ml61, ml62, hc, g0, g1, h2, nI_1]
    exact hih
theorem l_cp205_65 {M0 : mm_H} {D : Nat} (hm : MS M0) (hq : ∀ M', Fr (fun o => o = 52) M0 M' → (∀ j, j < 10 → gI M' 52 j = gI M0 58 j) → Wp L xs D 205 89 [.ref 44, .int (nI 10)] [] M' Q) : ∀ (k i : Nat) (M : mm_H), i + k = 10 → Fr (fun o => o = 52) M0 M → (∀ j, j < i → gI M 52 j = gI M0 58 j) → Wp L xs D 205 65 [.ref 44, .int (nI i)] [] M Q := by
  intro k
  induction k with
  | zero =>
    intro i M hi hr hv
    have e : i = 10 := by omega
    subst e
    have hc : (nI 10 < 10) = False := nI_lt0 (a := 10) (b := 10) (Nat.le_refl _) (by decide)
    have hh := hq M hr hv
    rw [e205_65]
    simp only [↓e205_0, ↓e205_1, ↓e205_4, ↓e205_5, ↓e205_8, ↓e205_10, ↓e205_11, ↓e205_12, ↓e205_14, ↓e205_16, ↓e205_19, ↓e205_20, ↓e205_23, ↓e205_24, ↓e205_25, ↓e205_28, ↓e205_29, ↓e205_30, ↓e205_31, ↓e205_34, ↓e205_38, ↓e205_40, ↓e205_42, ↓e205_45, ↓e205_46, ↓e205_49, ↓e205_50, ↓e205_51, ↓e205_54, ↓e205_55, ↓e205_56, ↓e205_57, ↓e205_60, ↓e205_64, ↓e205_66, ↓e205_68, ↓e205_71, ↓e205_72, ↓e205_75, ↓e205_76, ↓e205_77, ↓e205_80, ↓e205_81, ↓e205_82, ↓e205_83, ↓e205_86, ↓e205_90, ↓e205_91, ↓e205_94, ↓e205_97, ↓e205_98, ↓e205_99, ↓e205_102, ↓e205_105, ↓e205_106, ↓e205_107, ↓e205_110, ↓e205_113, ↓e205_114, ↓e205_115, ↓e205_118, ↓e205_121, ↓e205_122, ↓e205_123, ↓e205_126, ↓e205_129, ↓e205_130, ↓e205_133, bc1_a, bd1, bd2, bd3, bd4, bd5, bd6, bd7, bd8, bd9, bd10, bd11, bd12, bd13, bd14, bd15, bd16, bd17, bd18, bd19, bd20, bd21, bd22, bd23, bd24, bd25, bd26, bd27, bd28, bd29, bd30, bd31, bd32, bd33, bd34, bd35, bd36, bd37, bd38, bd39, bc1_i, bc1_r, bc1_n, bc1_U, bisA_r, bisA_n, bisA_a, bct_i, bct_r, bct_n, bct_l, bcs_0, bcs_i, bcs_r, bcs_l, bcs_a, brt_0, brt_1, ↓bz0, ↓bz1, true_and, and_true, false_and, and_false, and_self, Nat.reduceAdd, Nat.reduceLeDiff, Nat.reduceSub, Nat.reduceEqDiff, ite_true, ite_false, if_true, if_false, ↓reduceIte, Int32.reduceLT, Int32.reduceLE, Int32.reduceAdd, Int32.reduceSub, Int32.reduceMul, Int32.reduceDiv, Int32.reduceToNatClampNeg, Int64.reduceLT, or_true, or_false, true_or, false_or, Nat.reduceLT, hc]
    exact hh
  | succ k ih =>
    intro i M hi hr hv
    obtain ⟨⟨m44, mr1, mr2, mr5, mr9, mr10, mr12, mr13, mr14, mr32, mr33, mr34, mr35, mr36, mr37, mr43, mr44, mr45, mr46⟩, ⟨ms45, ms46, ms47, ms48, ms49, ms50, ms51, ms52, ms53, ms54, ms55, ms56, ms57, ms58, ms59, ms60, ms61, ms62⟩, ml45, ml46, ml47, ml48, ml49, ml50, ml51, ml52, ml53, ml54, ml55, ml56, ml57, ml58, ml59, ml60, ml61, ml62⟩ := hm.fr hr
    have hc : (nI i < 10) = True := nI_lt1 (a := i) (b := 10) (by omega) (by decide)
    have g0 : 0 ≤ nI i := nI_pos' (by omega)
    have g1 : (nI i).toNatClampNeg = i := nI_clamp (by omega)
    have h2 : i < 10 := by omega
    have hih := ih (i + 1) (pI M 52 i (gI M 58 i)) (by omega) (hr.put2 rfl) (fun j hj => by
      have es : gI M 58 i = gI M0 58 i := hr.2.2 58 (by decide) i
      rw [gI_p, es]
      by_cases z : j = i
      · rw [if_pos ⟨rfl, z⟩, z]
      · rw [if_neg (fun y => z y.2)]; exact hv j (by omega))
    rw [e205_65]
    simp only [↓e205_0, ↓e205_1, ↓e205_4, ↓e205_5, ↓e205_8, ↓e205_10, ↓e205_11, ↓e205_12, ↓e205_14, ↓e205_16, ↓e205_19, ↓e205_20, ↓e205_23, ↓e205_24, ↓e205_25, ↓e205_28, ↓e205_29, ↓e205_30, ↓e205_31, ↓e205_34, ↓e205_38, ↓e205_40, ↓e205_42, ↓e205_45, ↓e205_46, ↓e205_49, ↓e205_50, ↓e205_51, ↓e205_54, ↓e205_55, ↓e205_56, ↓e205_57, ↓e205_60, ↓e205_64, ↓e205_66, ↓e205_68, ↓e205_71, ↓e205_72, ↓e205_75, ↓e205_76, ↓e205_77, ↓e205_80, ↓e205_81, ↓e205_82, ↓e205_83, ↓e205_86, ↓e205_90, ↓e205_91, ↓e205_94, ↓e205_97, ↓e205_98, ↓e205_99, ↓e205_102, ↓e205_105, ↓e205_106, ↓e205_107, ↓e205_110, ↓e205_113, ↓e205_114, ↓e205_115, ↓e205_118, ↓e205_121, ↓e205_122, ↓e205_123, ↓e205_126, ↓e205_129, ↓e205_130, ↓e205_133, bc1_a, bd1, bd2, bd3, bd4, bd5, bd6, bd7, bd8, bd9, bd10, bd11, bd12, bd13, bd14, bd15, bd16, bd17, bd18, bd19, bd20, bd21, bd22, bd23, bd24, bd25, bd26, bd27, bd28, bd29, bd30, bd31, bd32, bd33, bd34, bd35, bd36, bd37, bd38, bd39, bc1_i, bc1_r, bc1_n, bc1_U, bisA_r, bisA_n, bisA_a, bct_i, bct_r, bct_n, bct_l, bcs_0, bcs_i, bcs_r, bcs_l, bcs_a, brt_0, brt_1, ↓bz0, ↓bz1, true_and, and_true, false_and, and_false, and_self, Nat.reduceAdd, Nat.reduceLeDiff, Nat.reduceSub, Nat.reduceEqDiff, ite_true, ite_false, if_true, if_false, ↓reduceIte, Int32.reduceLT, Int32.reduceLE, Int32.reduceAdd, Int32.reduceSub, Int32.reduceMul, Int32.reduceDiv, Int32.reduceToNatClampNeg, Int64.reduceLT, or_true, or_false, true_or, false_or, Nat.reduceLT, m44, mr1, mr2, mr5, mr9, mr10, mr12, mr13, mr14, mr32, mr33, mr34, mr35, mr36, mr37, mr43, mr44, mr45, mr46, ms45, ms46, ms47, ms48, ms49, ms50, ms51, ms52, ms53, ms54, ms55, ms56, ms57, ms58, ms59, ms60, ms61, ms62, ml45, ml46, ml47, ml48, ml49, ml50, ml51, ml52, ml53, ml54, ml55, ml56, ml57, ml58, ml59, ml60, ml61, ml62, hc, g0, g1, h2, nI_1]
    exact hih
theorem g_image (h : MI T M) (hq : ∀ M' (v : Int32), SM (s_image T) M M' → Q (some (.int v)) M') : Call L xs (d + 60) 204 [.ref 44] M Q := by
  obtain ⟨hm, ⟨x3, xc1, xc6, x4, xr, x6, xn, x47, xf⟩, ⟨dy, hdy, x7⟩, ⟨gg, hg1, hg8, x8⟩, ⟨pp, hpp, x11⟩, ⟨sm, hsm, x15⟩, x46, x45, x50, xsh, ximg⟩ := id h
  rw [en204]
  have l1 := l_cp204_2 (L := L) (xs := xs) (Q := Q) (M0 := M) (D := d + 60) hm (fun M1 f1 _ => by
    rw [e204_26]
    simp only [↓e204_0, ↓e204_1, ↓e204_3, ↓e204_5, ↓e204_8, ↓e204_9, ↓e204_12, ↓e204_13, ↓e204_14, ↓e204_17, ↓e204_18, ↓e204_19, ↓e204_20, ↓e204_23, ↓e204_27, ↓e204_29, ↓e204_31, ↓e204_34, ↓e204_35, ↓e204_38, ↓e204_39, ↓e204_40, ↓e204_43, ↓e204_44, ↓e204_45, ↓e204_46, ↓e204_49, ↓e204_53, ↓e204_55, ↓e204_57, ↓e204_60, ↓e204_61, ↓e204_64, ↓e204_65, ↓e204_66, ↓e204_69, ↓e204_70, ↓e204_71, ↓e204_72, ↓e204_75, ↓e204_79, ↓e204_80, ↓e204_83, ↓e204_86, ↓e204_87, ↓e204_88, ↓e204_91, ↓e204_94, ↓e204_95, ↓e204_96, ↓e204_99, ↓e204_102, ↓e204_103, ↓e204_104, ↓e204_107, ↓e204_110, ↓e204_111, ↓e204_112, ↓e204_115, ↓e204_118, ↓e204_119, ↓e204_122, bc1_a, bd1, bd2, bd3, bd4, bd5, bd6, bd7, bd8, bd9, bd10, bd11, bd12, bd13, bd14, bd15, bd16, bd17, bd18, bd19, bd20, bd21, bd22, bd23, bd24, bd25, bd26, bd27, bd28, bd29, bd30, bd31, bd32, bd33, bd34, bd35, bd36, bd37, bd38, bd39, bc1_i, bc1_r, bc1_n, bc1_U, bisA_r, bisA_n, bisA_a, bct_i, bct_r, bct_n, bct_l, bcs_0, bcs_i, bcs_r, bcs_l, bcs_a, brt_0, brt_1, ↓bz0, ↓bz1, true_and, and_true, false_and, and_false, and_self, Nat.reduceAdd, Nat.reduceLeDiff, Nat.reduceSub, Nat.reduceEqDiff, ite_true, ite_false, if_true, if_false, ↓reduceIte, Int32.reduceLT, Int32.reduceLE, Int32.reduceAdd, Int32.reduceSub, Int32.reduceMul, Int32.reduceDiv, Int32.reduceToNatClampNeg, Int64.reduceLT, or_true, or_false, true_or, false_or, Nat.reduceLT]
    refine l_cp204_28 (M0 := M1) (hm.fr f1) (fun M2 f2 g2 => ?_) 30 0 M1 rfl Fr.rf (fun j hj => absurd hj (Nat.not_lt_zero j))
    rw [e204_52]
    simp only [↓e204_0, ↓e204_1, ↓e204_3, ↓e204_5, ↓e204_8, ↓e204_9, ↓e204_12, ↓e204_13, ↓e204_14, ↓e204_17, ↓e204_18, ↓e204_19, ↓e204_20, ↓e204_23, ↓e204_27, ↓e204_29, ↓e204_31, ↓e204_34, ↓e204_35, ↓e204_38, ↓e204_39, ↓e204_40, ↓e204_43, ↓e204_44, ↓e204_45, ↓e204_46, ↓e204_49, ↓e204_53, ↓e204_55, ↓e204_57, ↓e204_60, ↓e204_61, ↓e204_64, ↓e204_65, ↓e204_66, ↓e204_69, ↓e204_70, ↓e204_71, ↓e204_72, ↓e204_75, ↓e204_79, ↓e204_80, ↓e204_83, ↓e204_86, ↓e204_87, ↓e204_88, ↓e204_91, ↓e204_94, ↓e204_95, ↓e204_96, ↓e204_99, ↓e204_102, ↓e204_103, ↓e204_104, ↓e204_107, ↓e204_110, ↓e204_111, ↓e204_112, ↓e204_115, ↓e204_118, ↓e204_119, ↓e204_122, bc1_a, bd1, bd2, bd3, bd4, bd5, bd6, bd7, bd8, bd9, bd10, bd11, bd12, bd13, bd14, bd15, bd16, bd17, bd18, bd19, bd20, bd21, bd22, bd23, bd24, bd25, bd26, bd27, bd28, bd29, bd30, bd31, bd32, bd33, bd34, bd35, bd36, bd37, bd38, bd39, bc1_i, bc1_r, bc1_n, bc1_U, bisA_r, bisA_n, bisA_a, bct_i, bct_r, bct_n, bct_l, bcs_0, bcs_i, bcs_r, bcs_l, bcs_a, brt_0, brt_1, ↓bz0, ↓bz1, true_and, and_true, false_and, and_false, and_self, Nat.reduceAdd, Nat.reduceLeDiff, Nat.reduceSub, Nat.reduceEqDiff, ite_true, ite_false, if_true, if_false, ↓reduceIte, Int32.reduceLT, Int32.reduceLE, Int32.reduceAdd, Int32.reduceSub, Int32.reduceMul, Int32.reduceDiv, Int32.reduceToNatClampNeg, Int64.reduceLT, or_true, or_false, true_or, false_or, Nat.reduceLT]
    refine l_cp204_54 (M0 := M2) ((hm.fr f1).fr f2) (fun M3 f3 _ => ?_) 10 0 M2 rfl Fr.rf (fun j hj => absurd hj (Nat.not_lt_zero j))
    have S3 := ((hm.fr f1).fr f2).fr f3
    have F3 : Fk (fun o k => KF o k ∨ o = 57) M M3 := ((Fk.of f1 (fun o k z => Or.inl (by unfold KF; omega))).trans (Fk.of f2 (fun o k z => Or.inr z))).trans (Fk.of f3 (fun o k z => Or.inl (by unfold KF; omega)))
    obtain ⟨⟨m44, mr1, mr2, mr5, mr9, mr10, mr12, mr13, mr14, mr32, mr33, mr34, mr35, mr36, mr37, mr43, mr44, mr45, mr46⟩, ⟨ms45, ms46, ms47, ms48, ms49, ms50, ms51, ms52, ms53, ms54, ms55, ms56, ms57, ms58, ms59, ms60, ms61, ms62⟩, ml45, ml46, ml47, ml48, ml49, ml50, ml51, ml52, ml53, ml54, ml55, ml56, ml57, ml58, ml59, ml60, ml61, ml62⟩ := id S3
    have e : ∀ k, k < 16 ∨ 31 < k → gI M3 44 k = gI M 44 k := fun k hk => F3.2.2 44 k (by unfold KF; omega)
    have e57 : ∀ j, j < 30 → gI M3 57 j = gI M 50 j := fun j hj => by
      rw [f3.2.2 57 (by decide), g2 j hj, f1.2.2 50 (by decide)]
    have n4 : gI M3 44 4 = nI T.2.2.2.1 := (e 4 (by decide)).trans x4
    have n7 : gI M3 44 7 = nI dy := (e 7 (by decide)).trans x7
    have n8 : gI M3 44 8 = nI gg := (e 8 (by decide)).trans x8
    have n11 : gI M3 44 11 = nI pp := (e 11 (by decide)).trans x11
    have n15 : gI M3 44 15 = nI sm := (e 15 (by decide)).trans x15
    rw [e204_78 rfl]
    simp only [↓e204_0, ↓e204_1, ↓e204_3, ↓e204_5, ↓e204_8, ↓e204_9, ↓e204_12, ↓e204_13, ↓e204_14, ↓e204_17, ↓e204_18, ↓e204_19, ↓e204_20, ↓e204_23, ↓e204_27, ↓e204_29, ↓e204_31, ↓e204_34, ↓e204_35, ↓e204_38, ↓e204_39, ↓e204_40, ↓e204_43, ↓e204_44, ↓e204_45, ↓e204_46, ↓e204_49, ↓e204_53, ↓e204_55, ↓e204_57, ↓e204_60, ↓e204_61, ↓e204_64, ↓e204_65, ↓e204_66, ↓e204_69, ↓e204_70, ↓e204_71, ↓e204_72, ↓e204_75, ↓e204_79, ↓e204_80, ↓e204_83, ↓e204_86, ↓e204_87, ↓e204_88, ↓e204_91, ↓e204_94, ↓e204_95, ↓e204_96, ↓e204_99, ↓e204_102, ↓e204_103, ↓e204_104, ↓e204_107, ↓e204_110, ↓e204_111, ↓e204_112, ↓e204_115, ↓e204_118, ↓e204_119, ↓e204_122, bc1_a, bd1, bd2, bd3, bd4, bd5, bd6, bd7, bd8, bd9, bd10, bd11, bd12, bd13, bd14, bd15, bd16, bd17, bd18, bd19, bd20, bd21, bd22, bd23, bd24, bd25, bd26, bd27, bd28, bd29, bd30, bd31, bd32, bd33, bd34, bd35, bd36, bd37, bd38, bd39, bc1_i, bc1_r, bc1_n, bc1_U, bisA_r, bisA_n, bisA_a, bct_i, bct_r, bct_n, bct_l, bcs_0, bcs_i, bcs_r, bcs_l, bcs_a, brt_0, brt_1, ↓bz0, ↓bz1, true_and, and_true, false_and, and_false, and_self, Nat.reduceAdd, Nat.reduceLeDiff, Nat.reduceSub, Nat.reduceEqDiff, ite_true, ite_false, if_true, if_false, ↓reduceIte, Int32.reduceLT, Int32.reduceLE, Int32.reduceAdd, Int32.reduceSub, Int32.reduceMul, Int32.reduceDiv, Int32.reduceToNatClampNeg, Int64.reduceLT, or_true, or_false, true_or, false_or, Nat.reduceLT, gS_n, gS_r, gS_p, gS_c, gL_n, gL_r, gL_p, gL_c, gN_n, gN_r, gN_p, gN_c, gZ_n, gZ_r, gZ_p, gZ_c, gI_p, gI_r, gI_n, gI_c, gR_p, gR_r, gR_c, gR_n2, ne_eq, not_false_eq_true, not_true_eq_false, m44, n4, n7, n8, n11, n15]
    have F4 : Fk KM M M3 := F3.weak (fun o k z => by unfold KM; rcases z with z | z <;> (try unfold KF at z) <;> omega)
    refine hq _ _ ⟨?_, ((((F4.put2 ⟨by decide, by decide⟩).put2 ⟨by decide, by decide⟩).put2 ⟨by decide, by decide⟩).put2 ⟨by decide, by decide⟩).put2 ⟨by decide, by decide⟩⟩
    generalize hB : pI (pI (pI (pI (pI M3 44 38 (nI pp)) 44 39 (nI sm)) 44 40 (nI dy)) 44 41 (nI gg)) 44 42 (nI T.2.2.2.1) = B
    have b : ∀ k, gI B 44 k = if k = 42 then nI T.2.2.2.1 else if k = 41 then nI gg else if k = 40 then nI dy else if k = 39 then nI sm else if k = 38 then nI pp else gI M3 44 k := fun k => by
      rw [← hB, gI_p, gI_p, gI_p, gI_p, gI_p]; simp only [true_and]
    have bo : ∀ o k, o ≠ 44 → gI B o k = gI M3 o k := fun o k ho => by
      rw [← hB, gI_pf ho, gI_pf ho, gI_pf ho, gI_pf ho, gI_pf ho]
    have bk : ∀ k, k < 16 → gI B 44 k = gI M 44 k := fun k hk => by
      rw [b, if_neg (by omega), if_neg (by omega), if_neg (by omega), if_neg (by omega), if_neg (by omega)]; exact e k (Or.inl hk)
    have bm : ∀ o k, o ≠ 44 → o ≠ 57 → ¬ KF o k → gI B o k = gI M o k := fun o k h1 h2 h3 => by rw [bo o k h1]; exact F3.2.2 o k (fun z => z.elim h3 h2)
    have SB : MS B := by
      rw [← hB]
      refine S3.fr (S := fun o => o = 44) ?_
      repeat first | exact Fr.rf | refine Fr.put2 ?_ rfl
    refine ⟨SB, ⟨(bk 3 (by decide)).trans x3, xc1, xc6, (bk 4 (by decide)).trans x4, xr, (bk 6 (by decide)).trans x6, xn, ?_, xf⟩, ⟨dy, hdy, (bk 7 (by decide)).trans x7⟩, ⟨gg, hg1, hg8, (bk 8 (by decide)).trans x8⟩, ⟨pp, hpp, (bk 11 (by decide)).trans x11⟩, ⟨sm, hsm, (bk 15 (by decide)).trans x15⟩, ?_, ?_, ?_, ?_, Or.inr ⟨T.2.2.2.1, pp, sm, dy, gg, rfl, xr, ?_, hpp, ?_, hsm, ?_, hdy, ?_, hg1, hg8, ?_, ?_⟩⟩
    · funext k; rw [bm 47 k (by decide) (by decide) (by unfold KF; omega)]; exact congrFun x47 k
    · intro j hj; rw [bm 46 j (by decide) (by decide) (by unfold KF; omega)]; exact x46 j hj
    · intro k; rw [bm 45 k (by decide) (by decide) (by unfold KF; omega)]; exact x45 k
    · intro s hs; rw [bm 50 _ (by decide) (by decide) (by unfold KF; omega)]; exact x50 s hs
    · intro j hj; rw [bm 59 j (by decide) (by decide) (by unfold KF; omega), bm 61 j (by decide) (by decide) (by unfold KF; omega)]; exact xsh j hj
    · rw [b]; rfl
    · rw [b]; rfl
    · rw [b]; rfl
    · rw [b]; rfl
    · rw [b]; rfl
    · intro s hs
      rw [bo 57 _ (by decide), e57 _ (by omega)]
      exact x50 s hs) 6 0 M rfl Fr.rf (fun j hj => absurd hj (Nat.not_lt_zero j))
  simp only [↓e204_0, ↓e204_1, ↓e204_3, ↓e204_5, ↓e204_8, ↓e204_9, ↓e204_12, ↓e204_13, ↓e204_14, ↓e204_17, ↓e204_18, ↓e204_19, ↓e204_20, ↓e204_23, ↓e204_27, ↓e204_29, ↓e204_31, ↓e204_34, ↓e204_35, ↓e204_38, ↓e204_39, ↓e204_40, ↓e204_43, ↓e204_44, ↓e204_45, ↓e204_46, ↓e204_49, ↓e204_53, ↓e204_55, ↓e204_57, ↓e204_60, ↓e204_61, ↓e204_64, ↓e204_65, ↓e204_66, ↓e204_69, ↓e204_70, ↓e204_71, ↓e204_72, ↓e204_75, ↓e204_79, ↓e204_80, ↓e204_83, ↓e204_86, ↓e204_87, ↓e204_88, ↓e204_91, ↓e204_94, ↓e204_95, ↓e204_96, ↓e204_99, ↓e204_102, ↓e204_103, ↓e204_104, ↓e204_107, ↓e204_110, ↓e204_111, ↓e204_112, ↓e204_115, ↓e204_118, ↓e204_119, ↓e204_122, bc1_a, bd1, bd2, bd3, bd4, bd5, bd6, bd7, bd8, bd9, bd10, bd11, bd12, bd13, bd14, bd15, bd16, bd17, bd18, bd19, bd20, bd21, bd22, bd23, bd24, bd25, bd26, bd27, bd28, bd29, bd30, bd31, bd32, bd33, bd34, bd35, bd36, bd37, bd38, bd39, bc1_i, bc1_r, bc1_n, bc1_U, bisA_r, bisA_n, bisA_a, bct_i, bct_r, bct_n, bct_l, bcs_0, bcs_i, bcs_r, bcs_l, bcs_a, brt_0, brt_1, ↓bz0, ↓bz1, true_and, and_true, false_and, and_false, and_self, Nat.reduceAdd, Nat.reduceLeDiff, Nat.reduceSub, Nat.reduceEqDiff, ite_true, ite_false, if_true, if_false, ↓reduceIte, Int32.reduceLT, Int32.reduceLE, Int32.reduceAdd, Int32.reduceSub, Int32.reduceMul, Int32.reduceDiv, Int32.reduceToNatClampNeg, Int64.reduceLT, or_true, or_false, true_or, false_or, Nat.reduceLT]
  exact l1
theorem g_back (h : MI T M) (hq : ∀ M' (v : Int32), SM (s_back T) M M' → Q (some (.int v)) M') : Call L xs (d + 60) 205 [.ref 44] M Q := by
  obtain ⟨hm, ⟨x3, xc1, xc6, x4, xr, x6, xn, x47, xf⟩, ⟨dy, hdy, x7⟩, ⟨gg, hg1, hg8, x8⟩, ⟨pp, hpp, x11⟩, ⟨sm, hsm, x15⟩, x46, x45, x50, xsh, ximg⟩ := id h
  have m44 := hm.1.1
  unfold s_back at hq
  rw [en205]
  rcases ximg with ⟨t1, t2⟩ | ⟨kr, pk, sk, dk, gk, t1, y2, y3, y4, y5, y6, y7, y8, y9, y10, y11, y12, y13⟩
  · rw [t1] at hq
    simp only [↓e205_0, ↓e205_1, ↓e205_4, ↓e205_5, ↓e205_8, ↓e205_10, ↓e205_11, ↓e205_12, ↓e205_14, ↓e205_16, ↓e205_19, ↓e205_20, ↓e205_23, ↓e205_24, ↓e205_25, ↓e205_28, ↓e205_29, ↓e205_30, ↓e205_31, ↓e205_34, ↓e205_37, ↓e205_38, ↓e205_39, ↓e205_40, ↓e205_42, ↓e205_45, ↓e205_46, ↓e205_49, ↓e205_50, ↓e205_51, ↓e205_54, ↓e205_55, ↓e205_56, ↓e205_57, ↓e205_60, ↓e205_63, ↓e205_64, ↓e205_65, ↓e205_66, ↓e205_68, ↓e205_71, ↓e205_72, ↓e205_75, ↓e205_76, ↓e205_77, ↓e205_80, ↓e205_81, ↓e205_82, ↓e205_83, ↓e205_86, ↓e205_89, ↓e205_90, ↓e205_91, ↓e205_94, ↓e205_97, ↓e205_98, ↓e205_99, ↓e205_102, ↓e205_105, ↓e205_106, ↓e205_107, ↓e205_110, ↓e205_113, ↓e205_114, ↓e205_115, ↓e205_118, ↓e205_121, ↓e205_122, ↓e205_123, ↓e205_126, ↓e205_129, ↓e205_130, ↓e205_133, bc1_a, bd1, bd2, bd3, bd4, bd5, bd6, bd7, bd8, bd9, bd10, bd11, bd12, bd13, bd14, bd15, bd16, bd17, bd18, bd19, bd20, bd21, bd22, bd23, bd24, bd25, bd26, bd27, bd28, bd29, bd30, bd31, bd32, bd33, bd34, bd35, bd36, bd37, bd38, bd39, bc1_i, bc1_r, bc1_n, bc1_U, bisA_r, bisA_n, bisA_a, bct_i, bct_r, bct_n, bct_l, bcs_0, bcs_i, bcs_r, bcs_l, bcs_a, brt_0, brt_1, ↓bz0, ↓bz1, true_and, and_true, false_and, and_false, and_self, Nat.reduceAdd, Nat.reduceLeDiff, Nat.reduceSub, Nat.reduceEqDiff, ite_true, ite_false, if_true, if_false, ↓reduceIte, Int32.reduceLT, Int32.reduceLE, Int32.reduceAdd, Int32.reduceSub, Int32.reduceMul, Int32.reduceDiv, Int32.reduceToNatClampNeg, Int64.reduceLT, or_true, or_false, true_or, false_or, Nat.reduceLT, eq_self, iq_m1_0, iq_m1_1, iq_m1_2, iq_m1_3, iq_m1_4, iq_m1_5, iq_m1_6, iq_m1_13, iq_0_m1, iq_0_1, iq_0_2, iq_0_3, iq_0_4, iq_0_5, iq_0_6, iq_0_13, iq_1_m1, iq_1_0, iq_1_2, iq_1_3, iq_1_4, iq_1_5, iq_1_6, iq_1_13, iq_2_m1, iq_2_0, iq_2_1, iq_2_3, iq_2_4, iq_2_5, iq_2_6, iq_2_13, iq_3_m1, iq_3_0, iq_3_1, iq_3_2, iq_3_4, iq_3_5, iq_3_6, iq_3_13, iq_4_m1, iq_4_0, iq_4_1, iq_4_2, iq_4_3, iq_4_5, iq_4_6, iq_4_13, iq_5_m1, iq_5_0, iq_5_1, iq_5_2, iq_5_3, iq_5_4, iq_5_6, iq_5_13, iq_6_m1, iq_6_0, iq_6_1, iq_6_2, iq_6_3, iq_6_4, iq_6_5, iq_6_13, iq_13_m1, iq_13_0, iq_13_1, iq_13_2, iq_13_3, iq_13_4, iq_13_5, iq_13_6, m44, t2]
    exact hq _ _ (SM.fk h Fk.rf)
  rw [t1] at hq
  have hne : (nI pk = -1) = False := eq_false (fun z => by
    have := nI_pos' (n := pk) (by omega)
    rw [z] at this
    exact absurd this (by decide))
  have l1 := l_cp205_13 (L := L) (xs := xs) (Q := Q) (M0 := M) (D := d + 60) hm (fun M1 f1 _ => by
    rw [e205_37]
    simp only [↓e205_0, ↓e205_1, ↓e205_4, ↓e205_5, ↓e205_8, ↓e205_10, ↓e205_11, ↓e205_12, ↓e205_14, ↓e205_16, ↓e205_19, ↓e205_20, ↓e205_23, ↓e205_24, ↓e205_25, ↓e205_28, ↓e205_29, ↓e205_30, ↓e205_31, ↓e205_34, ↓e205_38, ↓e205_40, ↓e205_42, ↓e205_45, ↓e205_46, ↓e205_49, ↓e205_50, ↓e205_51, ↓e205_54, ↓e205_55, ↓e205_56, ↓e205_57, ↓e205_60, ↓e205_64, ↓e205_66, ↓e205_68, ↓e205_71, ↓e205_72, ↓e205_75, ↓e205_76, ↓e205_77, ↓e205_80, ↓e205_81, ↓e205_82, ↓e205_83, ↓e205_86, ↓e205_90, ↓e205_91, ↓e205_94, ↓e205_97, ↓e205_98, ↓e205_99, ↓e205_102, ↓e205_105, ↓e205_106, ↓e205_107, ↓e205_110, ↓e205_113, ↓e205_114, ↓e205_115, ↓e205_118, ↓e205_121, ↓e205_122, ↓e205_123, ↓e205_126, ↓e205_129, ↓e205_130, ↓e205_133, bc1_a, bd1, bd2, bd3, bd4, bd5, bd6, bd7, bd8, bd9, bd10, bd11, bd12, bd13, bd14, bd15, bd16, bd17, bd18, bd19, bd20, bd21, bd22, bd23, bd24, bd25, bd26, bd27, bd28, bd29, bd30, bd31, bd32, bd33, bd34, bd35, bd36, bd37, bd38, bd39, bc1_i, bc1_r, bc1_n, bc1_U, bisA_r, bisA_n, bisA_a, bct_i, bct_r, bct_n, bct_l, bcs_0, bcs_i, bcs_r, bcs_l, bcs_a, brt_0, brt_1, ↓bz0, ↓bz1, true_and, and_true, false_and, and_false, and_self, Nat.reduceAdd, Nat.reduceLeDiff, Nat.reduceSub, Nat.reduceEqDiff, ite_true, ite_false, if_true, if_false, ↓reduceIte, Int32.reduceLT, Int32.reduceLE, Int32.reduceAdd, Int32.reduceSub, Int32.reduceMul, Int32.reduceDiv, Int32.reduceToNatClampNeg, Int64.reduceLT, or_true, or_false, true_or, false_or, Nat.reduceLT]
    refine l_cp205_39 (M0 := M1) (hm.fr f1) (fun M2 f2 g2 => ?_) 30 0 M1 rfl Fr.rf (fun j hj => absurd hj (Nat.not_lt_zero j))
    rw [e205_63]
    simp only [↓e205_0, ↓e205_1, ↓e205_4, ↓e205_5, ↓e205_8, ↓e205_10, ↓e205_11, ↓e205_12, ↓e205_14, ↓e205_16, ↓e205_19, ↓e205_20, ↓e205_23, ↓e205_24, ↓e205_25, ↓e205_28, ↓e205_29, ↓e205_30, ↓e205_31, ↓e205_34, ↓e205_38, ↓e205_40, ↓e205_42, ↓e205_45, ↓e205_46, ↓e205_49, ↓e205_50, ↓e205_51, ↓e205_54, ↓e205_55, ↓e205_56, ↓e205_57, ↓e205_60, ↓e205_64, ↓e205_66, ↓e205_68, ↓e205_71, ↓e205_72, ↓e205_75, ↓e205_76, ↓e205_77, ↓e205_80, ↓e205_81, ↓e205_82, ↓e205_83, ↓e205_86, ↓e205_90, ↓e205_91, ↓e205_94, ↓e205_97, ↓e205_98, ↓e205_99, ↓e205_102, ↓e205_105, ↓e205_106, ↓e205_107, ↓e205_110, ↓e205_113, ↓e205_114, ↓e205_115, ↓e205_118, ↓e205_121, ↓e205_122, ↓e205_123, ↓e205_126, ↓e205_129, ↓e205_130, ↓e205_133, bc1_a, bd1, bd2, bd3, bd4, bd5, bd6, bd7, bd8, bd9, bd10, bd11, bd12, bd13, bd14, bd15, bd16, bd17, bd18, bd19, bd20, bd21, bd22, bd23, bd24, bd25, bd26, bd27, bd28, bd29, bd30, bd31, bd32, bd33, bd34, bd35, bd36, bd37, bd38, bd39, bc1_i, bc1_r, bc1_n, bc1_U, bisA_r, bisA_n, bisA_a, bct_i, bct_r, bct_n, bct_l, bcs_0, bcs_i, bcs_r, bcs_l, bcs_a, brt_0, brt_1, ↓bz0, ↓bz1, true_and, and_true, false_and, and_false, and_self, Nat.reduceAdd, Nat.reduceLeDiff, Nat.reduceSub, Nat.reduceEqDiff, ite_true, ite_false, if_true, if_false, ↓reduceIte, Int32.reduceLT, Int32.reduceLE, Int32.reduceAdd, Int32.reduceSub, Int32.reduceMul, Int32.reduceDiv, Int32.reduceToNatClampNeg, Int64.reduceLT, or_true, or_false, true_or, false_or, Nat.reduceLT]
    refine l_cp205_65 (M0 := M2) ((hm.fr f1).fr f2) (fun M3 f3 _ => ?_) 10 0 M2 rfl Fr.rf (fun j hj => absurd hj (Nat.not_lt_zero j))
    have S3 := ((hm.fr f1).fr f2).fr f3
    have F3 : Fk (fun o k => KF o k ∨ o = 50) M M3 := ((Fk.of f1 (fun o k z => Or.inl (by unfold KF; omega))).trans (Fk.of f2 (fun o k z => Or.inr z))).trans (Fk.of f3 (fun o k z => Or.inl (by unfold KF; omega)))
    have k44 := S3.1.1
    have e : ∀ k, k < 16 ∨ 31 < k → gI M3 44 k = gI M 44 k := fun k hk => F3.2.2 44 k (by unfold KF; omega)
    have e50 : ∀ j, j < 30 → gI M3 50 j = gI M 57 j := fun j hj => by
      rw [f3.2.2 50 (by decide), g2 j hj, f1.2.2 57 (by decide)]
    have n38 : gI M3 44 38 = nI pk := (e 38 (by decide)).trans y5
    have n39 : gI M3 44 39 = nI sk := (e 39 (by decide)).trans y7
    have n40 : gI M3 44 40 = nI dk := (e 40 (by decide)).trans y9
    have n41 : gI M3 44 41 = nI gk := (e 41 (by decide)).trans y12
    have n42 : gI M3 44 42 = nI kr := (e 42 (by decide)).trans y3
    rw [e205_89 rfl]
    simp only [↓e205_0, ↓e205_1, ↓e205_4, ↓e205_5, ↓e205_8, ↓e205_10, ↓e205_11, ↓e205_12, ↓e205_14, ↓e205_16, ↓e205_19, ↓e205_20, ↓e205_23, ↓e205_24, ↓e205_25, ↓e205_28, ↓e205_29, ↓e205_30, ↓e205_31, ↓e205_34, ↓e205_38, ↓e205_40, ↓e205_42, ↓e205_45, ↓e205_46, ↓e205_49, ↓e205_50, ↓e205_51, ↓e205_54, ↓e205_55, ↓e205_56, ↓e205_57, ↓e205_60, ↓e205_64, ↓e205_66, ↓e205_68, ↓e205_71, ↓e205_72, ↓e205_75, ↓e205_76, ↓e205_77, ↓e205_80, ↓e205_81, ↓e205_82, ↓e205_83, ↓e205_86, ↓e205_90, ↓e205_91, ↓e205_94, ↓e205_97, ↓e205_98, ↓e205_99, ↓e205_102, ↓e205_105, ↓e205_106, ↓e205_107, ↓e205_110, ↓e205_113, ↓e205_114, ↓e205_115, ↓e205_118, ↓e205_121, ↓e205_122, ↓e205_123, ↓e205_126, ↓e205_129, ↓e205_130, ↓e205_133, bc1_a, bd1, bd2, bd3, bd4, bd5, bd6, bd7, bd8, bd9, bd10, bd11, bd12, bd13, bd14, bd15, bd16, bd17, bd18, bd19, bd20, bd21, bd22, bd23, bd24, bd25, bd26, bd27, bd28, bd29, bd30, bd31, bd32, bd33, bd34, bd35, bd36, bd37, bd38, bd39, bc1_i, bc1_r, bc1_n, bc1_U, bisA_r, bisA_n, bisA_a, bct_i, bct_r, bct_n, bct_l, bcs_0, bcs_i, bcs_r, bcs_l, bcs_a, brt_0, brt_1, ↓bz0, ↓bz1, true_and, and_true, false_and, and_false, and_self, Nat.reduceAdd, Nat.reduceLeDiff, Nat.reduceSub, Nat.reduceEqDiff, ite_true, ite_false, if_true, if_false, ↓reduceIte, Int32.reduceLT, Int32.reduceLE, Int32.reduceAdd, Int32.reduceSub, Int32.reduceMul, Int32.reduceDiv, Int32.reduceToNatClampNeg, Int64.reduceLT, or_true, or_false, true_or, false_or, Nat.reduceLT, gS_n, gS_r, gS_p, gS_c, gL_n, gL_r, gL_p, gL_c, gN_n, gN_r, gN_p, gN_c, gZ_n, gZ_r, gZ_p, gZ_c, gI_p, gI_r, gI_n, gI_c, gR_p, gR_r, gR_c, gR_n2, ne_eq, not_false_eq_true, not_true_eq_false, k44, n38, n39, n40, n41, n42]
    have F4 : Fk KM M M3 := F3.weak (fun o k z => by unfold KM; rcases z with z | z <;> (try unfold KF at z) <;> omega)
    refine hq _ _ ⟨?_, ((((F4.put2 ⟨by decide, by decide⟩).put2 ⟨by decide, by decide⟩).put2 ⟨by decide, by decide⟩).put2 ⟨by decide, by decide⟩).put2 ⟨by decide, by decide⟩⟩
    generalize hB : pI (pI (pI (pI (pI M3 44 11 (nI pk)) 44 15 (nI sk)) 44 7 (nI dk)) 44 8 (nI gk)) 44 4 (nI kr) = B
    have b : ∀ k, gI B 44 k = if k = 4 then nI kr else if k = 8 then nI gk else if k = 7 then nI dk else if k = 15 then nI sk else if k = 11 then nI pk else gI M3 44 k := fun k => by
      rw [← hB, gI_p, gI_p, gI_p, gI_p, gI_p]; simp only [true_and]
    have bo : ∀ o k, o ≠ 44 → gI B o k = gI M3 o k := fun o k ho => by
      rw [← hB, gI_pf ho, gI_pf ho, gI_pf ho, gI_pf ho, gI_pf ho]
    have bk : ∀ k, k ≠ 4 → k ≠ 8 → k ≠ 7 → k ≠ 15 → k ≠ 11 → k < 16 ∨ 31 < k → gI B 44 k = gI M 44 k := fun k h1 h2 h3 h4 h5 hk => by
      rw [b, if_neg h1, if_neg h2, if_neg h3, if_neg h4, if_neg h5]; exact e k hk
    have bm : ∀ o k, o ≠ 44 → o ≠ 50 → ¬ KF o k → gI B o k = gI M o k := fun o k h1 h2 h3 => by rw [bo o k h1]; exact F3.2.2 o k (fun z => z.elim h3 h2)
    have SB : MS B := by
      rw [← hB]
      refine S3.fr (S := fun o => o = 44) ?_
      repeat first | exact Fr.rf | refine Fr.put2 ?_ rfl
    have bi : ∀ k, 38 ≤ k → gI B 44 k = gI M 44 k := fun k hk => bk k (by omega) (by omega) (by omega) (by omega) (by omega) (by omega)
    refine ⟨SB, ⟨(bk 3 (by decide) (by decide) (by decide) (by decide) (by decide) (by decide)).trans x3, xc1, xc6, by rw [b]; rfl, y2, (bk 6 (by decide) (by decide) (by decide) (by decide) (by decide) (by decide)).trans x6, xn, ?_, xf⟩, ⟨dk, y8, by rw [b]; rfl⟩, ⟨gk, y10, y11, by rw [b]; rfl⟩, ⟨pk, y4, by rw [b]; rfl⟩, ⟨sk, y6, by rw [b]; rfl⟩, ?_, ?_, ?_, ?_, Or.inr ⟨kr, pk, sk, dk, gk, rfl, y2, (bi 42 (by decide)).trans y3, y4, (bi 38 (by decide)).trans y5, y6, (bi 39 (by decide)).trans y7, y8, (bi 40 (by decide)).trans y9, y10, y11, (bi 41 (by decide)).trans y12, ?_⟩⟩
    · funext k; rw [bm 47 k (by decide) (by decide) (by unfold KF; omega)]; exact congrFun x47 k
    · intro j hj; rw [bm 46 j (by decide) (by decide) (by unfold KF; omega)]; exact x46 j hj
    · intro k; rw [bm 45 k (by decide) (by decide) (by unfold KF; omega)]; exact x45 k
    · intro s hs; rw [bo 50 _ (by decide), e50 _ (by omega)]; exact y13 s hs
    · intro j hj; rw [bm 59 j (by decide) (by decide) (by unfold KF; omega), bm 61 j (by decide) (by decide) (by unfold KF; omega)]; exact xsh j hj
    · intro s hs; rw [bm 57 _ (by decide) (by decide) (by unfold KF; omega)]; exact y13 s hs) 6 0 M rfl Fr.rf (fun j hj => absurd hj (Nat.not_lt_zero j))
  simp only [↓e205_0, ↓e205_1, ↓e205_4, ↓e205_5, ↓e205_8, ↓e205_10, ↓e205_11, ↓e205_12, ↓e205_14, ↓e205_16, ↓e205_19, ↓e205_20, ↓e205_23, ↓e205_24, ↓e205_25, ↓e205_28, ↓e205_29, ↓e205_30, ↓e205_31, ↓e205_34, ↓e205_37, ↓e205_38, ↓e205_39, ↓e205_40, ↓e205_42, ↓e205_45, ↓e205_46, ↓e205_49, ↓e205_50, ↓e205_51, ↓e205_54, ↓e205_55, ↓e205_56, ↓e205_57, ↓e205_60, ↓e205_63, ↓e205_64, ↓e205_65, ↓e205_66, ↓e205_68, ↓e205_71, ↓e205_72, ↓e205_75, ↓e205_76, ↓e205_77, ↓e205_80, ↓e205_81, ↓e205_82, ↓e205_83, ↓e205_86, ↓e205_89, ↓e205_90, ↓e205_91, ↓e205_94, ↓e205_97, ↓e205_98, ↓e205_99, ↓e205_102, ↓e205_105, ↓e205_106, ↓e205_107, ↓e205_110, ↓e205_113, ↓e205_114, ↓e205_115, ↓e205_118, ↓e205_121, ↓e205_122, ↓e205_123, ↓e205_126, ↓e205_129, ↓e205_130, ↓e205_133, bc1_a, bd1, bd2, bd3, bd4, bd5, bd6, bd7, bd8, bd9, bd10, bd11, bd12, bd13, bd14, bd15, bd16, bd17, bd18, bd19, bd20, bd21, bd22, bd23, bd24, bd25, bd26, bd27, bd28, bd29, bd30, bd31, bd32, bd33, bd34, bd35, bd36, bd37, bd38, bd39, bc1_i, bc1_r, bc1_n, bc1_U, bisA_r, bisA_n, bisA_a, bct_i, bct_r, bct_n, bct_l, bcs_0, bcs_i, bcs_r, bcs_l, bcs_a, brt_0, brt_1, ↓bz0, ↓bz1, true_and, and_true, false_and, and_false, and_self, Nat.reduceAdd, Nat.reduceLeDiff, Nat.reduceSub, Nat.reduceEqDiff, ite_true, ite_false, if_true, if_false, ↓reduceIte, Int32.reduceLT, Int32.reduceLE, Int32.reduceAdd, Int32.reduceSub, Int32.reduceMul, Int32.reduceDiv, Int32.reduceToNatClampNeg, Int64.reduceLT, or_true, or_false, true_or, false_or, Nat.reduceLT, eq_self, iq_m1_0, iq_m1_1, iq_m1_2, iq_m1_3, iq_m1_4, iq_m1_5, iq_m1_6, iq_m1_13, iq_0_m1, iq_0_1, iq_0_2, iq_0_3, iq_0_4, iq_0_5, iq_0_6, iq_0_13, iq_1_m1, iq_1_0, iq_1_2, iq_1_3, iq_1_4, iq_1_5, iq_1_6, iq_1_13, iq_2_m1, iq_2_0, iq_2_1, iq_2_3, iq_2_4, iq_2_5, iq_2_6, iq_2_13, iq_3_m1, iq_3_0, iq_3_1, iq_3_2, iq_3_4, iq_3_5, iq_3_6, iq_3_13, iq_4_m1, iq_4_0, iq_4_1, iq_4_2, iq_4_3, iq_4_5, iq_4_6, iq_4_13, iq_5_m1, iq_5_0, iq_5_1, iq_5_2, iq_5_3, iq_5_4, iq_5_6, iq_5_13, iq_6_m1, iq_6_0, iq_6_1, iq_6_2, iq_6_3, iq_6_4, iq_6_5, iq_6_13, iq_13_m1, iq_13_0, iq_13_1, iq_13_2, iq_13_3, iq_13_4, iq_13_5, iq_13_6, m44, y5, hne]
  exact l1
end
