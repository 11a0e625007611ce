/-! THE VASE: what was heard -/
def Sw (v o : Nat) : Prop := o = 3 ∨ o = 4 ∨ (v ≤ o ∧ o < v + 8)
theorem Sw_no {v : Nat} (h9 : 9 ≤ v) (h25 : v ≤ 25) : ∀ o, Sw v o → Sno o := fun o h => by
  unfold Sw at h
  exact ⟨by omega, by omega, by omega, by omega, by omega⟩
theorem Sw_34 {v : Nat} : ∀ o, S34 o → Sw v o := fun o h => by
  rcases h with h | h
  · exact Or.inl h
  · exact Or.inr (Or.inl h)
/-- a sheet of the class at cell t: m bytes h -/
def SH (M : mm_H) (t m : Nat) (h : Nat → Int32) : Prop := gS M t = 2 ∧ gR M t 2 = .ref (t + 1) ∧ gS M (t + 1) = 10 ∧ (∃ c, gL M (t + 1) = c ∧ m ≤ c ∧ c < 1000) ∧ gI M t 1 = nI m ∧ gI M (t + 1) = h
theorem SH.fr {S : Nat → Prop} {M M1 : mm_H} {t m : Nat} {h : Nat → Int32} (hs : SH M t m h) (hf : Fr S M M1) (h1 : ¬ S t) (h2 : ¬ S (t + 1)) (h3 : t ≠ 44) : SH M1 t m h := by
  obtain ⟨a1, a2, a3, ⟨c, a4⟩, a5⟩ := hs
  exact ⟨(hf.hS t).trans a1, (hf.2.1 t 2 (fun z => h3 z.1)).trans a2, (hf.hS _).trans a3, ⟨c, (hf.hL _).trans a4.1, a4.2⟩, (hf.2.2 t h1 1).trans a5.1, (funext (hf.2.2 _ h2)).trans a5.2⟩
def s_first (E : Int32 → Nat → (Nat → Int32) → Int32) (h : Nat → Int32) (s : Nat) : Nat → Nat → (Nat → Nat → Int32) → VM
  | 0, _, V => (V, -1)
  | k + 1, i, V => if s_sy E (s_set V 0 1 (nI i)) s = h i then s_first E h s k (i + 1) (s_set V 0 1 (nI i)) else (s_set V 0 1 (nI i), nI i)
section
variable {L : Nat} {xs : Nat → Int32} {d : Nat} {M : mm_H} {Q : Option Value → mm_H → Prop} {E : Int32 → Nat → (Nat → Int32) → Int32}
theorem l_first {M0 : mm_H} {v n t m s : Nat} {h : Nat → Int32} (hE : E6 E) (hT : TOKs L xs E M0) (hs : s < n) (ht : 34 ≤ t) (ht2 : t < 44) : ∀ (k i : Nat) (M : mm_H), Fr (Sw v) M0 M → VA M v n → SH M t m h → i + k = m →
    (∀ M', Fr (Sw v) M0 M' → VA M' v n → SH M' t m h → Vw M' v = (s_first E h s k i (Vw M v)).1 → Q (some (.int (s_first E h s k i (Vw M v)).2)) M') →
    Wp L xs (d + 5) 103 2 [.ref v, .int (nI s), .ref t, .int (nI i)] [] M Q := by
  intro k
  induction k with
  | zero =>
    intro i M hf hA hh hi hq
    obtain ⟨a1, a2, a3, ⟨c, a4, a5, a6⟩, a7, a8⟩ := id hh
    have e : i = m := by omega
    subst e
    have hc := nI_lt0 (a := i) (b := i) (Nat.le_refl _) (by omega)
    rw [e103_2]
    simp only [↓e103_0, ↓e103_1, ↓e103_3, ↓e103_4, ↓e103_7, ↓e103_10, ↓e103_11, ↓e103_12, ↓e103_15, ↓e103_16, ↓e103_17, ↓e103_20, ↓e103_21, ↓e103_24, ↓e103_25, ↓e103_26, ↓e103_29, ↓e103_30, ↓e103_31, ↓e103_34, ↓e103_37, ↓e103_38, bc1_a, bd1, bd2, bd3, bd4, bd5, bd6, bd7, bd8, bd9, bd10, bd11, bd12, bd13, bd14, bd15, bd16, bd17, bd18, bd19, bd20, bd21, bd22, bd23, bd24, bd25, bd26, bd27, bd28, bd29, bd30, bd31, bd32, bd33, bd34, bd35, bd36, bd37, bd38, bd39, bc1_i, bc1_r, bc1_n, bc1_U, bisA_r, bisA_n, bisA_a, bct_i, bct_r, bct_n, bct_l, bcs_0, bcs_i, bcs_r, bcs_l, bcs_a, brt_0, brt_1, ↓bz0, ↓bz1, true_and, and_true, false_and, and_false, and_self, Nat.reduceAdd, Nat.reduceLeDiff, Nat.reduceSub, Nat.reduceEqDiff, ite_true, ite_false, if_true, if_false, a1, a7, hc]
    exact hq M hf hA hh rfl
  | succ k ih =>
    intro i M hf hA hh hi hq
    obtain ⟨a1, a2, a3, ⟨c, a4, a5, a6⟩, a7, a8⟩ := id hh
    have v0 := hA.1.1.1
    have h9 := hA.2.2.1
    have h25 := hA.2.2.2.1
    have hc := nI_lt1 (a := i) (b := m) (by omega) (by omega)
    have g0 : 0 ≤ nI i := nI_pos' (by omega)
    have g1 : (nI i).toNatClampNeg = i := nI_clamp (by omega)
    have g2 : i < c := by omega
    have hA1 : VA (pI M v 1 (nI i)) v n := VA.set (j := 0) hA (by decide) (Or.inr (by decide))
    have hV1 : Vw (pI M v 1 (nI i)) v = s_set (Vw M v) 0 1 (nI i) := Vw_set (j := 0) (by decide)
    have f0 : Fr (Sw v) M (pI M v 1 (nI i)) := Fr.put (Or.inr (Or.inr ⟨Nat.le_refl _, by omega⟩))
    have n1 : ¬ Sw v t := by unfold Sw; omega
    have n2 : ¬ Sw v (t + 1) := by unfold Sw; omega
    have hh1 := hh.fr f0 n1 n2 (by omega)
    obtain ⟨p, hp⟩ := hA1.vs hs
    rw [e103_2]
    simp only [↓e103_0, ↓e103_1, ↓e103_3, ↓e103_4, ↓e103_7, ↓e103_10, ↓e103_11, ↓e103_12, ↓e103_15, ↓e103_16, ↓e103_17, ↓e103_20, ↓e103_21, ↓e103_24, ↓e103_25, ↓e103_26, ↓e103_29, ↓e103_30, ↓e103_31, ↓e103_34, ↓e103_37, ↓e103_38, bc1_a, bd1, bd2, bd3, bd4, bd5, bd6, bd7, bd8, bd9, bd10, bd11, bd12, bd13, bd14, bd15, bd16, bd17, bd18, bd19, bd20, bd21, bd22, bd23, bd24, bd25, bd26, bd27, bd28, bd29, bd30, bd31, bd32, bd33, bd34, bd35, bd36, bd37, bd38, bd39, bc1_i, bc1_r, bc1_n, bc1_U, bisA_r, bisA_n, bisA_a, bct_i, bct_r, bct_n, bct_l, bcs_0, bcs_i, bcs_r, bcs_l, bcs_a, brt_0, brt_1, ↓bz0, ↓bz1, true_and, and_true, false_and, and_false, and_self, Nat.reduceAdd, Nat.reduceLeDiff, Nat.reduceSub, Nat.reduceEqDiff, ite_true, ite_false, if_true, if_false, a1, a7, hc, v0, gS_p]
    refine c_says (d := d + 1) hp hE ((hT d).fr ((hf.trans f0).weak (Sw_no h9 h25))) (fun M2 f2 => ?_)
    rw [hV1]
    have f2w : Fr (Sw v) M0 M2 := hf.trans (f0.trans (f2.weak Sw_34))
    have hA2 := hA1.fr f2
    have hh2 := hh1.fr (f2.weak Sw_34) n1 n2 (by omega)
    have hV2 : Vw M2 v = s_set (Vw M v) 0 1 (nI i) := (Vw34 h9 f2).trans hV1
    obtain ⟨b1, b2, b3, ⟨c', b4, b5, b6⟩, b7, b8⟩ := id hh2
    have g2' : i < c' := by omega
    have b8' : gI M2 (t + 1) i = h i := by rw [b8]
    by_cases hz : s_sy E (s_set (Vw M v) 0 1 (nI i)) s = h i
    · have e1 : s_first E h s (k + 1) i (Vw M v) = s_first E h s k (i + 1) (s_set (Vw M v) 0 1 (nI i)) := by rw [s_first, if_pos hz]
      have hnext := ih (i + 1) M2 f2w hA2 hh2 (by omega) (fun M' c1 c2 c3 c4 => by
        rw [hV2] at c4 ⊢
        have := hq M' c1 c2 c3 (by rw [e1]; exact c4)
        rw [e1] at this
        exact this)
      simp only [↓e103_0, ↓e103_1, ↓e103_3, ↓e103_4, ↓e103_7, ↓e103_10, ↓e103_11, ↓e103_12, ↓e103_15, ↓e103_16, ↓e103_17, ↓e103_20, ↓e103_21, ↓e103_24, ↓e103_25, ↓e103_26, ↓e103_29, ↓e103_30, ↓e103_31, ↓e103_34, ↓e103_37, ↓e103_38, bc1_a, bd1, bd2, bd3, bd4, bd5, bd6, bd7, bd8, bd9, bd10, bd11, bd12, bd13, bd14, bd15, bd16, bd17, bd18, bd19, bd20, bd21, bd22, bd23, bd24, bd25, bd26, bd27, bd28, bd29, bd30, bd31, bd32, bd33, bd34, bd35, bd36, bd37, bd38, bd39, bc1_i, bc1_r, bc1_n, bc1_U, bisA_r, bisA_n, bisA_a, bct_i, bct_r, bct_n, bct_l, bcs_0, bcs_i, bcs_r, bcs_l, bcs_a, brt_0, brt_1, ↓bz0, ↓bz1, true_and, and_true, false_and, and_false, and_self, Nat.reduceAdd, Nat.reduceLeDiff, Nat.reduceSub, Nat.reduceEqDiff, ite_true, ite_false, if_true, if_false, b1, b2, b3, b4, g0, g1, g2', b8', hz, nI_1]
      exact hnext
    · have e1 : s_first E h s (k + 1) i (Vw M v) = (s_set (Vw M v) 0 1 (nI i), nI i) := by rw [s_first, if_neg hz]
      have hfin := hq M2 f2w hA2 hh2 (by rw [e1]; exact hV2)
      rw [e1] at hfin
      simp only [↓e103_0, ↓e103_1, ↓e103_3, ↓e103_4, ↓e103_7, ↓e103_10, ↓e103_11, ↓e103_12, ↓e103_15, ↓e103_16, ↓e103_17, ↓e103_20, ↓e103_21, ↓e103_24, ↓e103_25, ↓e103_26, ↓e103_29, ↓e103_30, ↓e103_31, ↓e103_34, ↓e103_37, ↓e103_38, bc1_a, bd1, bd2, bd3, bd4, bd5, bd6, bd7, bd8, bd9, bd10, bd11, bd12, bd13, bd14, bd15, bd16, bd17, bd18, bd19, bd20, bd21, bd22, bd23, bd24, bd25, bd26, bd27, bd28, bd29, bd30, bd31, bd32, bd33, bd34, bd35, bd36, bd37, bd38, bd39, bc1_i, bc1_r, bc1_n, bc1_U, bisA_r, bisA_n, bisA_a, bct_i, bct_r, bct_n, bct_l, bcs_0, bcs_i, bcs_r, bcs_l, bcs_a, brt_0, brt_1, ↓bz0, ↓bz1, true_and, and_true, false_and, and_false, and_self, Nat.reduceAdd, Nat.reduceLeDiff, Nat.reduceSub, Nat.reduceEqDiff, ite_true, ite_false, if_true, if_false, b1, b2, b3, b4, g0, g1, g2', b8', hz]
      exact hfin
theorem c_first {v n t m s : Nat} {h : Nat → Int32} (hE : E6 E) (hT : TOKs L xs E M) (hs : s < n) (ht : 34 ≤ t) (ht2 : t < 44) (hA : VA M v n) (hh : SH M t m h)
    (hq : ∀ M', Fr (Sw v) M M' → VA M' v n → SH M' t m h → Vw M' v = (s_first E h s m 0 (Vw M v)).1 → Q (some (.int (s_first E h s m 0 (Vw M v)).2)) M') : Call L xs (d + 5) 103 [.ref v, .int (nI s), .ref t] M Q := by
  rw [en103]
  simp only [↓e103_0, ↓e103_1, ↓e103_3, ↓e103_4, ↓e103_7, ↓e103_10, ↓e103_11, ↓e103_12, ↓e103_15, ↓e103_16, ↓e103_17, ↓e103_20, ↓e103_21, ↓e103_24, ↓e103_25, ↓e103_26, ↓e103_29, ↓e103_30, ↓e103_31, ↓e103_34, ↓e103_37, ↓e103_38, bc1_a, bd1, bd2, bd3, bd4, bd5, bd6, bd7, bd8, bd9, bd10, bd11, bd12, bd13, bd14, bd15, bd16, bd17, bd18, bd19, bd20, bd21, bd22, bd23, bd24, bd25, bd26, bd27, bd28, bd29, bd30, bd31, bd32, bd33, bd34, bd35, bd36, bd37, bd38, bd39, bc1_i, bc1_r, bc1_n, bc1_U, bisA_r, bisA_n, bisA_a, bct_i, bct_r, bct_n, bct_l, bcs_0, bcs_i, bcs_r, bcs_l, bcs_a, brt_0, brt_1, ↓bz0, ↓bz1, true_and, and_true, false_and, and_false, and_self, Nat.reduceAdd, Nat.reduceLeDiff, Nat.reduceSub, Nat.reduceEqDiff, ite_true, ite_false, if_true, if_false]
  exact l_first (d := d) hE hT hs ht ht2 m 0 M Fr.rf hA hh (Nat.zero_add m) hq
/-- tones that fit: the trial's view behind, how many -/
def s_fitT (E : Int32 → Nat → (Nat → Int32) → Int32) (h : Nat → Int32) (s m : Nat) : Nat → Nat → VM → VM
  | 0, _, x => x
  | k + 1, i, x => s_fitT E h s m k (i + 1) ((s_first E h s m 0 (s_set x.1 5 s (nI i))).1, x.2 + (if (s_first E h s m 0 (s_set x.1 5 s (nI i))).2 = -1 then 1 else 0))
def s_leastT (E : Int32 → Nat → (Nat → Int32) → Int32) (h : Nat → Int32) (s m : Nat) : Nat → Nat → (Nat → Nat → Int32) → VM
  | 0, _, V => (V, -1)
  | k + 1, i, V => if (s_first E h s m 0 (s_set V 5 s (nI i))).2 = -1 then ((s_first E h s m 0 (s_set V 5 s (nI i))).1, nI i) else s_leastT E h s m k (i + 1) (s_first E h s m 0 (s_set V 5 s (nI i))).1
theorem TOKs.fr {M M1 : mm_H} (h : TOKs L xs E M) (hf : Fr Sno M M1) : TOKs L xs E M1 := fun d => (h d).fr hf
theorem l_fitT {M0 : mm_H} {v n t m s : Nat} {h : Nat → Int32} (hE : E6 E) (hT : TOKs L xs E M0) (hs : s < n) (ht : 34 ≤ t) (ht2 : t < 44) : ∀ (k i : Nat) (M : mm_H) (c : Int32), Fr (Sw v) M0 M → VA M v n → SH M t m h → i + k = 100 →
    (∀ M', Fr (Sw v) M0 M' → VA M' v n → SH M' t m h → Vw M' v = (s_fitT E h s m k i (Vw M v, c)).1 → Q (some (.int (s_fitT E h s m k i (Vw M v, c)).2)) M') →
    Wp L xs (d + 6) 105 5 [.ref v, .int (nI s), .ref t, .int c, .int (nI i)] [] M Q := by
  intro k
  induction k with
  | zero =>
    intro i M c hf hA hh hi hq
    have hc : (nI i < 100) = False := nI_lt0 (a := i) (b := 100) (by omega) (by omega)
    rw [e105_5]
    simp only [↓e105_0, ↓e105_1, ↓e105_2, ↓e105_3, ↓e105_7, ↓e105_9, ↓e105_12, ↓e105_13, ↓e105_16, ↓e105_17, ↓e105_19, ↓e105_20, ↓e105_21, ↓e105_22, ↓e105_23, ↓e105_24, ↓e105_27, ↓e105_28, ↓e105_31, ↓e105_32, ↓e105_35, ↓e105_36, ↓e105_37, ↓e105_38, ↓e105_41, ↓e105_44, ↓e105_45, bc1_a, bd1, bd2, bd3, bd4, bd5, bd6, bd7, bd8, bd9, bd10, bd11, bd12, bd13, bd14, bd15, bd16, bd17, bd18, bd19, bd20, bd21, bd22, bd23, bd24, bd25, bd26, bd27, bd28, bd29, bd30, bd31, bd32, bd33, bd34, bd35, bd36, bd37, bd38, bd39, bc1_i, bc1_r, bc1_n, bc1_U, bisA_r, bisA_n, bisA_a, bct_i, bct_r, bct_n, bct_l, bcs_0, bcs_i, bcs_r, bcs_l, bcs_a, brt_0, brt_1, ↓bz0, ↓bz1, true_and, and_true, false_and, and_false, and_self, Nat.reduceAdd, Nat.reduceLeDiff, Nat.reduceSub, Nat.reduceEqDiff, ite_true, ite_false, if_true, if_false, hc]
    exact hq M hf hA hh rfl
  | succ k ih =>
    intro i M c hf hA hh hi hq
    obtain ⟨⟨v0, v1, v2, v3, v4, v5, v6, v7, v8⟩, ⟨w1, w2, w3, w4, w5, w6, w7⟩, x1, x2, x3, x4, x5, x6, x7⟩ := id hA.1
    have h9 := hA.2.2.1
    have h25 := hA.2.2.2.1
    have h10 := hA.2.2.2.2.2.1
    have hc : (nI i < 100) = True := nI_lt1 (a := i) (b := 100) (by omega) (by omega)
    have g0 : 0 ≤ nI s := nI_pos' (by omega)
    have g1 : (nI s).toNatClampNeg = s := nI_clamp (by omega)
    have g2 : s < 10 := by omega
    have hA1 : VA (pI M (v + 5) s (nI i)) v n := hA.set (by decide) (Or.inl (by decide))
    have hV1 : Vw (pI M (v + 5) s (nI i)) v = s_set (Vw M v) 5 s (nI i) := Vw_set (by decide)
    have f0 : Fr (Sw v) M (pI M (v + 5) s (nI i)) := Fr.put (Or.inr (Or.inr ⟨by omega, by omega⟩))
    have n1 : ¬ Sw v t := by unfold Sw; omega
    have n2 : ¬ Sw v (t + 1) := by unfold Sw; omega
    have hh1 := hh.fr f0 n1 n2 (by omega)
    rw [e105_5]
    simp only [↓e105_0, ↓e105_1, ↓e105_2, ↓e105_3, ↓e105_7, ↓e105_9, ↓e105_12, ↓e105_13, ↓e105_16, ↓e105_17, ↓e105_19, ↓e105_20, ↓e105_21, ↓e105_22, ↓e105_23, ↓e105_24, ↓e105_27, ↓e105_28, ↓e105_31, ↓e105_32, ↓e105_35, ↓e105_36, ↓e105_37, ↓e105_38, ↓e105_41, ↓e105_44, ↓e105_45, bc1_a, bd1, bd2, bd3, bd4, bd5, bd6, bd7, bd8, bd9, bd10, bd11, bd12, bd13, bd14, bd15, bd16, bd17, bd18, bd19, bd20, bd21, bd22, bd23, bd24, bd25, bd26, bd27, bd28, bd29, bd30, bd31, bd32, bd33, bd34, bd35, bd36, bd37, bd38, bd39, bc1_i, bc1_r, bc1_n, bc1_U, bisA_r, bisA_n, bisA_a, bct_i, bct_r, bct_n, bct_l, bcs_0, bcs_i, bcs_r, bcs_l, bcs_a, brt_0, brt_1, ↓bz0, ↓bz1, true_and, and_true, false_and, and_false, and_self, Nat.reduceAdd, Nat.reduceLeDiff, Nat.reduceSub, Nat.reduceEqDiff, ite_true, ite_false, if_true, if_false, hc, v0, v6, w5, x5, g0, g1, g2, gS_p]
    refine c_first (d := d) hE (hT.fr ((hf.trans f0).weak (Sw_no h9 h25))) hs ht ht2 hA1 hh1 (fun M2 f2 hA2 hh2 hV2 => ?_)
    rw [hV1] at hV2 ⊢
    have hnext := fun (c2 : Int32) (e1 : (if (s_first E h s m 0 (s_set (Vw M v) 5 s (nI i))).2 = -1 then (1 : Int32) else 0) = c2) => ih (i + 1) M2 (c + c2) (hf.trans (f0.trans f2)) hA2 hh2 (by omega) (fun M' c1 c2' c3 c4 => by
        rw [hV2] at c4 ⊢
        rw [← e1] at c4 ⊢
        exact hq M' c1 c2' c3 c4)
    by_cases hz : (s_first E h s m 0 (s_set (Vw M v) 5 s (nI i))).2 = -1
    · have hn := hnext 1 (if_pos hz)
      simp only [↓e105_0, ↓e105_1, ↓e105_2, ↓e105_3, ↓e105_7, ↓e105_9, ↓e105_12, ↓e105_13, ↓e105_16, ↓e105_17, ↓e105_19, ↓e105_20, ↓e105_21, ↓e105_22, ↓e105_23, ↓e105_24, ↓e105_27, ↓e105_28, ↓e105_31, ↓e105_32, ↓e105_35, ↓e105_36, ↓e105_37, ↓e105_38, ↓e105_41, ↓e105_44, ↓e105_45, bc1_a, bd1, bd2, bd3, bd4, bd5, bd6, bd7, bd8, bd9, bd10, bd11, bd12, bd13, bd14, bd15, bd16, bd17, bd18, bd19, bd20, bd21, bd22, bd23, bd24, bd25, bd26, bd27, bd28, bd29, bd30, bd31, bd32, bd33, bd34, bd35, bd36, bd37, bd38, bd39, bc1_i, bc1_r, bc1_n, bc1_U, bisA_r, bisA_n, bisA_a, bct_i, bct_r, bct_n, bct_l, bcs_0, bcs_i, bcs_r, bcs_l, bcs_a, brt_0, brt_1, ↓bz0, ↓bz1, true_and, and_true, false_and, and_false, and_self, Nat.reduceAdd, Nat.reduceLeDiff, Nat.reduceSub, Nat.reduceEqDiff, ite_true, ite_false, if_true, if_false, hz, nI_1]
      exact hn
    · have hn := hnext 0 (if_neg hz)
      simp only [↓e105_0, ↓e105_1, ↓e105_2, ↓e105_3, ↓e105_7, ↓e105_9, ↓e105_12, ↓e105_13, ↓e105_16, ↓e105_17, ↓e105_19, ↓e105_20, ↓e105_21, ↓e105_22, ↓e105_23, ↓e105_24, ↓e105_27, ↓e105_28, ↓e105_31, ↓e105_32, ↓e105_35, ↓e105_36, ↓e105_37, ↓e105_38, ↓e105_41, ↓e105_44, ↓e105_45, bc1_a, bd1, bd2, bd3, bd4, bd5, bd6, bd7, bd8, bd9, bd10, bd11, bd12, bd13, bd14, bd15, bd16, bd17, bd18, bd19, bd20, bd21, bd22, bd23, bd24, bd25, bd26, bd27, bd28, bd29, bd30, bd31, bd32, bd33, bd34, bd35, bd36, bd37, bd38, bd39, bc1_i, bc1_r, bc1_n, bc1_U, bisA_r, bisA_n, bisA_a, bct_i, bct_r, bct_n, bct_l, bcs_0, bcs_i, bcs_r, bcs_l, bcs_a, brt_0, brt_1, ↓bz0, ↓bz1, true_and, and_true, false_and, and_false, and_self, Nat.reduceAdd, Nat.reduceLeDiff, Nat.reduceSub, Nat.reduceEqDiff, ite_true, ite_false, if_true, if_false, hz, nI_1]
      exact hn
theorem c_fitT {v n t m s : Nat} {h : Nat → Int32} (hE : E6 E) (hT : TOKs L xs E M) (hs : s < n) (ht : 34 ≤ t) (ht2 : t < 44) (hA : VA M v n) (hh : SH M t m h)
    (hq : ∀ M', Fr (Sw v) M M' → VA M' v n → SH M' t m h → Q (some (.int (s_fitT E h s m 100 0 (Vw M v, 0)).2)) M') : Call L xs (d + 6) 105 [.ref v, .int (nI s), .ref t] M Q := by
  rw [en105]
  simp only [↓e105_0, ↓e105_1, ↓e105_2, ↓e105_3, ↓e105_7, ↓e105_9, ↓e105_12, ↓e105_13, ↓e105_16, ↓e105_17, ↓e105_19, ↓e105_20, ↓e105_21, ↓e105_22, ↓e105_23, ↓e105_24, ↓e105_27, ↓e105_28, ↓e105_31, ↓e105_32, ↓e105_35, ↓e105_36, ↓e105_37, ↓e105_38, ↓e105_41, ↓e105_44, ↓e105_45, bc1_a, bd1, bd2, bd3, bd4, bd5, bd6, bd7, bd8, bd9, bd10, bd11, bd12, bd13, bd14, bd15, bd16, bd17, bd18, bd19, bd20, bd21, bd22, bd23, bd24, bd25, bd26, bd27, bd28, bd29, bd30, bd31, bd32, bd33, bd34, bd35, bd36, bd37, bd38, bd39, bc1_i, bc1_r, bc1_n, bc1_U, bisA_r, bisA_n, bisA_a, bct_i, bct_r, bct_n, bct_l, bcs_0, bcs_i, bcs_r, bcs_l, bcs_a, brt_0, brt_1, ↓bz0, ↓bz1, true_and, and_true, false_and, and_false, and_self, Nat.reduceAdd, Nat.reduceLeDiff, Nat.reduceSub, Nat.reduceEqDiff, ite_true, ite_false, if_true, if_false]
  exact l_fitT (d := d) hE hT hs ht ht2 100 0 M 0 Fr.rf hA hh (Nat.zero_add 100) (fun M' a b c _ => hq M' a b c)
theorem l_leastT {M0 : mm_H} {v n t m s : Nat} {h : Nat → Int32} (hE : E6 E) (hT : TOKs L xs E M0) (hs : s < n) (ht : 34 ≤ t) (ht2 : t < 44) : ∀ (k i : Nat) (M : mm_H), Fr (Sw v) M0 M → VA M v n → SH M t m h → i + k = 100 →
    (∀ M', Fr (Sw v) M0 M' → VA M' v n → SH M' t m h → Q (some (.int (s_leastT E h s m k i (Vw M v)).2)) M') →
    Wp L xs (d + 6) 106 2 [.ref v, .int (nI s), .ref t, .int (nI i)] [] M Q := by
  intro k
  induction k with
  | zero =>
    intro i M hf hA hh hi hq
    have hc : (nI i < 100) = False := nI_lt0 (a := i) (b := 100) (by omega) (by omega)
    rw [e106_2]
    simp only [↓e106_0, ↓e106_1, ↓e106_3, ↓e106_5, ↓e106_8, ↓e106_9, ↓e106_12, ↓e106_13, ↓e106_14, ↓e106_15, ↓e106_16, ↓e106_17, ↓e106_18, ↓e106_21, ↓e106_22, ↓e106_25, ↓e106_26, ↓e106_27, ↓e106_30, ↓e106_33, ↓e106_34, bc1_a, bd1, bd2, bd3, bd4, bd5, bd6, bd7, bd8, bd9, bd10, bd11, bd12, bd13, bd14, bd15, bd16, bd17, bd18, bd19, bd20, bd21, bd22, bd23, bd24, bd25, bd26, bd27, bd28, bd29, bd30, bd31, bd32, bd33, bd34, bd35, bd36, bd37, bd38, bd39, bc1_i, bc1_r, bc1_n, bc1_U, bisA_r, bisA_n, bisA_a, bct_i, bct_r, bct_n, bct_l, bcs_0, bcs_i, bcs_r, bcs_l, bcs_a, brt_0, brt_1, ↓bz0, ↓bz1, true_and, and_true, false_and, and_false, and_self, Nat.reduceAdd, Nat.reduceLeDiff, Nat.reduceSub, Nat.reduceEqDiff, ite_true, ite_false, if_true, if_false, hc]
    exact hq M hf hA hh
  | succ k ih =>
    intro i M hf hA hh hi hq
    obtain ⟨⟨v0, v1, v2, v3, v4, v5, v6, v7, v8⟩, ⟨w1, w2, w3, w4, w5, w6, w7⟩, x1, x2, x3, x4, x5, x6, x7⟩ := id hA.1
    have h9 := hA.2.2.1
    have h25 := hA.2.2.2.1
    have h10 := hA.2.2.2.2.2.1
    have hc : (nI i < 100) = True := nI_lt1 (a := i) (b := 100) (by omega) (by omega)
    have g0 : 0 ≤ nI s := nI_pos' (by omega)
    have g1 : (nI s).toNatClampNeg = s := nI_clamp (by omega)
    have g2 : s < 10 := by omega
    have hA1 : VA (pI M (v + 5) s (nI i)) v n := hA.set (by decide) (Or.inl (by decide))
    have hV1 : Vw (pI M (v + 5) s (nI i)) v = s_set (Vw M v) 5 s (nI i) := Vw_set (by decide)
    have f0 : Fr (Sw v) M (pI M (v + 5) s (nI i)) := Fr.put (Or.inr (Or.inr ⟨by omega, by omega⟩))
    have n1 : ¬ Sw v t := by unfold Sw; omega
    have n2 : ¬ Sw v (t + 1) := by unfold Sw; omega
    have hh1 := hh.fr f0 n1 n2 (by omega)
    rw [e106_2]
    simp only [↓e106_0, ↓e106_1, ↓e106_3, ↓e106_5, ↓e106_8, ↓e106_9, ↓e106_12, ↓e106_13, ↓e106_14, ↓e106_15, ↓e106_16, ↓e106_17, ↓e106_18, ↓e106_21, ↓e106_22, ↓e106_25, ↓e106_26, ↓e106_27, ↓e106_30, ↓e106_33, ↓e106_34, bc1_a, bd1, bd2, bd3, bd4, bd5, bd6, bd7, bd8, bd9, bd10, bd11, bd12, bd13, bd14, bd15, bd16, bd17, bd18, bd19, bd20, bd21, bd22, bd23, bd24, bd25, bd26, bd27, bd28, bd29, bd30, bd31, bd32, bd33, bd34, bd35, bd36, bd37, bd38, bd39, bc1_i, bc1_r, bc1_n, bc1_U, bisA_r, bisA_n, bisA_a, bct_i, bct_r, bct_n, bct_l, bcs_0, bcs_i, bcs_r, bcs_l, bcs_a, brt_0, brt_1, ↓bz0, ↓bz1, true_and, and_true, false_and, and_false, and_self, Nat.reduceAdd, Nat.reduceLeDiff, Nat.reduceSub, Nat.reduceEqDiff, ite_true, ite_false, if_true, if_false, hc, v0, v6, w5, x5, g0, g1, g2, gS_p]
    refine c_first (d := d) hE (hT.fr ((hf.trans f0).weak (Sw_no h9 h25))) hs ht ht2 hA1 hh1 (fun M2 f2 hA2 hh2 hV2 => ?_)
    rw [hV1] at hV2 ⊢
    by_cases hz : (s_first E h s m 0 (s_set (Vw M v) 5 s (nI i))).2 = -1
    · have hfin := hq M2 (hf.trans (f0.trans f2)) hA2 hh2
      rw [s_leastT, if_pos hz] at hfin
      simp only [↓e106_0, ↓e106_1, ↓e106_3, ↓e106_5, ↓e106_8, ↓e106_9, ↓e106_12, ↓e106_13, ↓e106_14, ↓e106_15, ↓e106_16, ↓e106_17, ↓e106_18, ↓e106_21, ↓e106_22, ↓e106_25, ↓e106_26, ↓e106_27, ↓e106_30, ↓e106_33, ↓e106_34, bc1_a, bd1, bd2, bd3, bd4, bd5, bd6, bd7, bd8, bd9, bd10, bd11, bd12, bd13, bd14, bd15, bd16, bd17, bd18, bd19, bd20, bd21, bd22, bd23, bd24, bd25, bd26, bd27, bd28, bd29, bd30, bd31, bd32, bd33, bd34, bd35, bd36, bd37, bd38, bd39, bc1_i, bc1_r, bc1_n, bc1_U, bisA_r, bisA_n, bisA_a, bct_i, bct_r, bct_n, bct_l, bcs_0, bcs_i, bcs_r, bcs_l, bcs_a, brt_0, brt_1, ↓bz0, ↓bz1, true_and, and_true, false_and, and_false, and_self, Nat.reduceAdd, Nat.reduceLeDiff, Nat.reduceSub, Nat.reduceEqDiff, ite_true, ite_false, if_true, if_false, hz]
      exact hfin
    · have hnext := ih (i + 1) M2 (hf.trans (f0.trans f2)) hA2 hh2 (by omega) (fun M' c1 c2 c3 => by
        have := hq M' c1 c2 c3
        rw [s_leastT, if_neg hz] at this
        rw [hV2]
        exact this)
      simp only [↓e106_0, ↓e106_1, ↓e106_3, ↓e106_5, ↓e106_8, ↓e106_9, ↓e106_12, ↓e106_13, ↓e106_14, ↓e106_15, ↓e106_16, ↓e106_17, ↓e106_18, ↓e106_21, ↓e106_22, ↓e106_25, ↓e106_26, ↓e106_27, ↓e106_30, ↓e106_33, ↓e106_34, bc1_a, bd1, bd2, bd3, bd4, bd5, bd6, bd7, bd8, bd9, bd10, bd11, bd12, bd13, bd14, bd15, bd16, bd17, bd18, bd19, bd20, bd21, bd22, bd23, bd24, bd25, bd26, bd27, bd28, bd29, bd30, bd31, bd32, bd33, bd34, bd35, bd36, bd37, bd38, bd39, bc1_i, bc1_r, bc1_n, bc1_U, bisA_r, bisA_n, bisA_a, bct_i, bct_r, bct_n, bct_l, bcs_0, bcs_i, bcs_r, bcs_l, bcs_a, brt_0, brt_1, ↓bz0, ↓bz1, true_and, and_true, false_and, and_false, and_self, Nat.reduceAdd, Nat.reduceLeDiff, Nat.reduceSub, Nat.reduceEqDiff, ite_true, ite_false, if_true, if_false, hz, nI_1]
      exact hnext
theorem c_leastT {v n t m s : Nat} {h : Nat → Int32} (hE : E6 E) (hT : TOKs L xs E M) (hs : s < n) (ht : 34 ≤ t) (ht2 : t < 44) (hA : VA M v n) (hh : SH M t m h)
    (hq : ∀ M', Fr (Sw v) M M' → VA M' v n → SH M' t m h → Q (some (.int (s_leastT E h s m 100 0 (Vw M v)).2)) M') : Call L xs (d + 6) 106 [.ref v, .int (nI s), .ref t] M Q := by
  rw [en106]
  simp only [↓e106_0, ↓e106_1, ↓e106_3, ↓e106_5, ↓e106_8, ↓e106_9, ↓e106_12, ↓e106_13, ↓e106_14, ↓e106_15, ↓e106_16, ↓e106_17, ↓e106_18, ↓e106_21, ↓e106_22, ↓e106_25, ↓e106_26, ↓e106_27, ↓e106_30, ↓e106_33, ↓e106_34, bc1_a, bd1, bd2, bd3, bd4, bd5, bd6, bd7, bd8, bd9, bd10, bd11, bd12, bd13, bd14, bd15, bd16, bd17, bd18, bd19, bd20, bd21, bd22, bd23, bd24, bd25, bd26, bd27, bd28, bd29, bd30, bd31, bd32, bd33, bd34, bd35, bd36, bd37, bd38, bd39, bc1_i, bc1_r, bc1_n, bc1_U, bisA_r, bisA_n, bisA_a, bct_i, bct_r, bct_n, bct_l, bcs_0, bcs_i, bcs_r, bcs_l, bcs_a, brt_0, brt_1, ↓bz0, ↓bz1, true_and, and_true, false_and, and_false, and_self, Nat.reduceAdd, Nat.reduceLeDiff, Nat.reduceSub, Nat.reduceEqDiff, ite_true, ite_false, if_true, if_false]
  exact l_leastT (d := d) hE hT hs ht ht2 100 0 M Fr.rf hA hh (Nat.zero_add 100) hq
end
