/-! THE LAW, OVER ANY SCRIPT: what goes on keeps what holds of both, and the call that is compared is answered alike -/
theorem Kc.z {M M' : mm_H} (h : Kc M M') : gN M' ≤ gN M + 2 ∧ gZ M' ≤ gZ M + 200 := ⟨h.2.2.1, h.2.2.2⟩
theorem MI.kc {T : TS} {M M' : mm_H} (h : MI T M) (k : Kc M M') : MI T M' := by
  have s := fun o h1 h2 => (k.1 o h1 h2).1
  have l := fun o h1 h2 => (k.1 o h1 h2).2.1
  have i := fun o h1 h2 => (k.1 o h1 h2).2.2
  have r : ∀ j, j ≠ 27 → gR M' 44 j = gR M 44 j := fun j hj => k.2.1 44 j (by decide) (by decide) (fun z => hj z.2)
  obtain ⟨hm, hr⟩ := h
  refine ⟨?_, ?_⟩
  · unfold MS at hm ⊢
    simp only [s 44 (by decide) (by decide), s 45 (by decide) (by decide), l 45 (by decide) (by decide), s 46 (by decide) (by decide), l 46 (by decide) (by decide), s 47 (by decide) (by decide), l 47 (by decide) (by decide), s 48 (by decide) (by decide), l 48 (by decide) (by decide), s 49 (by decide) (by decide), l 49 (by decide) (by decide), s 50 (by decide) (by decide), l 50 (by decide) (by decide), s 51 (by decide) (by decide), l 51 (by decide) (by decide), s 52 (by decide) (by decide), l 52 (by decide) (by decide), s 53 (by decide) (by decide), l 53 (by decide) (by decide), s 54 (by decide) (by decide), l 54 (by decide) (by decide), s 55 (by decide) (by decide), l 55 (by decide) (by decide), s 56 (by decide) (by decide), l 56 (by decide) (by decide), s 57 (by decide) (by decide), l 57 (by decide) (by decide), s 58 (by decide) (by decide), l 58 (by decide) (by decide), s 59 (by decide) (by decide), l 59 (by decide) (by decide), s 60 (by decide) (by decide), l 60 (by decide) (by decide), s 61 (by decide) (by decide), l 61 (by decide) (by decide), s 62 (by decide) (by decide), l 62 (by decide) (by decide), r, ne_eq, Nat.reduceEqDiff, not_false_eq_true]
    exact hm
  · simp only [i 44 (by decide) (by decide), i 45 (by decide) (by decide), i 46 (by decide) (by decide), i 47 (by decide) (by decide), i 50 (by decide) (by decide), i 57 (by decide) (by decide), i 59 (by decide) (by decide), i 61 (by decide) (by decide)]
    exact hr
theorem CI.km {T : TS} {M M1 : mm_H} (h : CI T M) (k : Fk KM M M1) : CI T M1 := by
  have f : Fr (fun o => 44 ≤ o ∧ o < 63) M M1 := ⟨k.1, k.2.1, fun o ho j => k.2.2 o j (fun z => ho z)⟩
  obtain ⟨hC, ⟨tx, hTT⟩, hc1, ⟨y51, yn, y6, yf⟩, hV, ⟨y912, yr⟩, ySh, yImg, ⟨yN, yZ⟩, yT⟩ := h
  have no : ∀ o, (44 ≤ o ∧ o < 63) → Sno o := fun o h => ⟨by omega, by omega, by omega, by omega, by omega⟩
  have g : ∀ o j, o < 44 → gI M1 o j = gI M o j := fun o j ho => f.2.2 o (by omega) j
  refine ⟨hC.fr f, ⟨tx, hTT.fr (f.weak no)⟩, hc1, ⟨(g 5 1 (by decide)).trans y51, yn, (funext fun j => g 6 j (by decide)).trans y6, yf⟩, hV.fr f (by decide) (by decide), ⟨(g 9 12 (by decide)).trans y912, yr⟩, fun t ht => ?_, ?_, ⟨by rw [f.gN2]; exact yN, by rw [f.gZ2]; exact yZ⟩, fun j hj t ht => ?_⟩
  · rw [g t 1 (by omega)]; exact ySh t ht
  · rcases yImg with ⟨a, b⟩ | ⟨kr, a, b, c, e, w⟩
    · exact Or.inl ⟨a, (g 0 6 (by decide)).trans b⟩
    · exact Or.inr ⟨kr, a, b, by rw [g 0 6 (by decide)]; exact c, (g 17 12 (by decide)).trans e, w.fr f (by decide) (by decide)⟩
  · rw [f.gN2]
    exact yT j hj t (by rw [← f.2.1 2 j (by omega)]; exact ht)
theorem CS.old {M M' : mm_H} (h : CS M) (f : Old 44 M M') : CS M' := h.sh (fun o ho => ⟨(f o ho).1, (f o ho).2.1⟩) (fun o k ho _ => by rw [(f o ho).2.2.2])
theorem CI.of {M M' : mm_H} (h : CN0 M) (f : Old 44 M M') (hN : gN M' = 63) (hZ : gZ M' ≤ 10000) : CI (0, gI M 6, 1, 0, none) M' := by
  obtain ⟨hC, i06, i11, i51, hv, hs, h20, a, b, c, hp, hx⟩ := h
  have e : ∀ o j, o < 44 → gI M' o j = gI M o j := fun o j ho => by rw [(f o ho).2.2.1]
  obtain ⟨v, w⟩ := hv 9 (Or.inl rfl)
  have hx' : TX M' 42 (a ++ b ++ c) a.length (a.length + b.length) := by
    obtain ⟨a1, a2, a3, a4, a5, a6, a7⟩ := hx
    exact ⟨(f 42 (by decide)).1.trans a1, (by rw [(f 42 (by decide)).2.2.2]; exact a2), (e 42 1 (by decide)).trans a3, (e 42 2 (by decide)).trans a4, (f 43 (by decide)).1.trans a5, (f 43 (by decide)).2.1.trans a6, fun i hi => (e 43 i (by decide)).trans (a7 i hi)⟩
  have r2 : gR M' 2 0 = .ref 42 := by rw [(f 2 (by decide)).2.2.2]; exact h20
  have hTT : TT M' 1 (fun _ => (a, b, c)) := ⟨(e 1 1 (by decide)).trans i11, by decide, fun j hj => by
    have : j = 0 := by omega
    subst this
    exact ⟨42, r2, Or.inl rfl, text_good (n := 44) (by decide) hp, hx'⟩⟩
  have hV : VW M' 9 := ⟨0, 0, 4, 0, by decide, by decide, by decide, by decide, by decide, (e 9 6 (by decide)).trans (v 6), (e 9 3 (by decide)).trans (v 3), (e 9 2 (by decide)).trans (v 2), (e 9 1 (by decide)).trans (v 1), fun s _ => ⟨0, by decide, (e 13 s (by decide)).trans (w 13 s (by decide) (by decide))⟩⟩
  exact ⟨hC.old f, ⟨_, hTT⟩, Nat.le_refl 1, ⟨(e 5 1 (by decide)).trans i51, Nat.zero_le _, funext fun k => e 6 k (by decide), True.intro⟩, hV, ⟨(e 9 12 (by decide)).trans (v 12), Nat.zero_lt_one⟩, fun t ht => ⟨0, by decide, (e t 1 (by omega)).trans (hs t ht).2⟩, Or.inl ⟨rfl, (e 0 6 (by decide)).trans i06⟩, ⟨hN, by show gZ M' ≤ 10000 + 163 * 1; omega⟩, fun j hj t ht => by
    have : j = 0 := by
      have : j < 1 := hj
      omega
    subst this
    rw [r2] at ht
    cases ht
    rw [hN]
    decide⟩
theorem MI.of {M : mm_H} (h : MN0 M) (h45 : ∀ k, ¬ gI M 45 k < 0) : MI (0, fun _ => 0, 1, 0, none) M := by
  obtain ⟨hm, h0, h3, h8, h38, h46, hz⟩ := h
  have z0 : ∀ k, k ≠ 3 → k ≠ 8 → k ≠ 38 → gI M 44 k = nI 0 := h0
  exact ⟨hm, ⟨h3, by decide, by decide, z0 4 (by decide) (by decide) (by decide), by decide, z0 6 (by decide) (by decide) (by decide), by decide, funext fun k => hz 47 k (by decide) (by decide), fun _ => by show ¬ (0 : Int32) < 0; decide⟩, ⟨0, by decide, z0 7 (by decide) (by decide) (by decide)⟩, ⟨4, by decide, by decide, h8⟩, ⟨0, by decide, z0 11 (by decide) (by decide) (by decide)⟩, ⟨0, by decide, z0 15 (by decide) (by decide) (by decide)⟩, fun j _ => by
    rw [h46]
    by_cases e : j = 0
    · rw [if_pos e]; exact ⟨48, by decide, rfl⟩
    · rw [if_neg e]; exact ⟨0, by decide, rfl⟩, h45, fun s _ => ⟨0, by decide, hz 50 _ (by decide) (by decide)⟩, fun j _ => Or.inl (hz 59 j (by decide) (by decide)), Or.inl ⟨rfl, h38⟩⟩
def Q1 (r : Option Value) (M : mm_H) : Prop := r = some (.int 1) ∧ gN M ≤ 600000 ∧ gZ M ≤ 7302250
section
variable {L : Nat} {xs : Nat → Int32} {d : Nat} {M : mm_H} {Q : Option Value → mm_H → Prop}
theorem nz8 {M : mm_H} {k0 : Nat} {x : Int32} (h : ∀ k, ¬ gI M 45 k < 0) (hx : ¬ x < 0) : ∀ k, ¬ gI (pI M 45 k0 x) 45 k < 0 := fun k => by
  rw [gI_p]
  by_cases z : 45 = 45 ∧ k = k0
  · rw [if_pos z]; exact hx
  · rw [if_neg z]; exact h k
theorem c_spellP0 {x1 x2 x3 x4 x5 x6 x7 x8 : Int32} (h1 : gS M 44 = 6) (h2 : gR M 44 1 = .ref 45) (h3 : gS M 45 = 10) (h4 : gL M 45 = 960) (b1 : ¬ x1 < 0) (b2 : ¬ x2 < 0) (b3 : ¬ x3 < 0) (b4 : ¬ x4 < 0) (b5 : ¬ x5 < 0) (b6 : ¬ x6 < 0) (b7 : ¬ x7 < 0) (b8 : ¬ x8 < 0) (hb : ∀ k, ¬ gI M 45 k < 0) (hq : ∀ M', Fr (fun o => o = 45) M M' → (∀ k, ¬ gI M' 45 k < 0) → Q none M') : Call L xs d 111 [.ref 44, .int 0, .int x1, .int x2, .int x3, .int x4, .int x5, .int x6, .int x7, .int x8] M Q := by
  rw [en111]
  simp only [↓e111_0, ↓e111_1, ↓e111_4, ↓e111_5, ↓e111_6, ↓e111_7, ↓e111_8, ↓e111_11, ↓e111_12, ↓e111_13, ↓e111_14, ↓e111_15, ↓e111_16, ↓e111_17, ↓e111_20, ↓e111_21, ↓e111_22, ↓e111_23, ↓e111_25, ↓e111_26, ↓e111_27, ↓e111_30, ↓e111_31, ↓e111_32, ↓e111_33, ↓e111_35, ↓e111_36, ↓e111_37, ↓e111_40, ↓e111_41, ↓e111_42, ↓e111_43, ↓e111_45, ↓e111_46, ↓e111_47, ↓e111_50, ↓e111_51, ↓e111_52, ↓e111_53, ↓e111_55, ↓e111_56, ↓e111_57, ↓e111_60, ↓e111_61, ↓e111_63, ↓e111_64, ↓e111_66, ↓e111_67, ↓e111_68, ↓e111_71, ↓e111_72, ↓e111_74, ↓e111_75, ↓e111_77, ↓e111_78, bc1_a, bd1, bd2, bd3, bd4, bd5, bd6, bd7, bd8, bd9, bd10, bd11, bd12, bd13, bd14, bd15, bd16, bd17, bd18, bd19, bd20, bd21, bd22, bd23, bd24, bd25, bd26, bd27, bd28, bd29, bd30, bd31, bd32, bd33, bd34, bd35, bd36, bd37, bd38, bd39, bc1_i, bc1_r, bc1_n, bc1_U, bisA_r, bisA_n, bisA_a, bct_i, bct_r, bct_n, bct_l, bcs_0, bcs_i, bcs_r, bcs_l, bcs_a, brt_0, brt_1, ↓bz0, ↓bz1, true_and, and_true, false_and, and_false, and_self, Nat.reduceAdd, Nat.reduceLeDiff, Nat.reduceSub, Nat.reduceEqDiff, ite_true, ite_false, if_true, if_false, gS_n, gS_r, gS_p, gS_c, gL_n, gL_r, gL_p, gL_c, gN_n, gN_r, gN_p, gN_c, gZ_n, gZ_r, gZ_p, gZ_c, gI_p, gI_r, gI_n, gI_c, gR_p, gR_r, gR_c, gR_n2, ne_eq, not_false_eq_true, not_true_eq_false, ↓reduceIte, Int32.reduceLT, Int32.reduceLE, Int32.reduceAdd, Int32.reduceSub, Int32.reduceMul, Int32.reduceDiv, Int32.reduceToNatClampNeg, Int64.reduceLT, or_true, or_false, true_or, false_or, Nat.reduceLT, h1, h2, h3, h4]
  refine hq _ ?_ ?_
  · repeat first | exact Fr.rf | refine Fr.put2 ?_ rfl
  · exact nz8 (nz8 (nz8 (nz8 (nz8 (nz8 (nz8 (nz8 hb b1) b2) b3) b4) b5) b6) b7) b8
theorem c_spellP8 {x1 x2 x3 x4 x5 x6 x7 x8 : Int32} (h1 : gS M 44 = 6) (h2 : gR M 44 1 = .ref 45) (h3 : gS M 45 = 10) (h4 : gL M 45 = 960) (b1 : ¬ x1 < 0) (b2 : ¬ x2 < 0) (b3 : ¬ x3 < 0) (b4 : ¬ x4 < 0) (b5 : ¬ x5 < 0) (b6 : ¬ x6 < 0) (b7 : ¬ x7 < 0) (b8 : ¬ x8 < 0) (hb : ∀ k, ¬ gI M 45 k < 0) (hq : ∀ M', Fr (fun o => o = 45) M M' → (∀ k, ¬ gI M' 45 k < 0) → Q none M') : Call L xs d 111 [.ref 44, .int 8, .int x1, .int x2, .int x3, .int x4, .int x5, .int x6, .int x7, .int x8] M Q := by
  rw [en111]
  simp only [↓e111_0, ↓e111_1, ↓e111_4, ↓e111_5, ↓e111_6, ↓e111_7, ↓e111_8, ↓e111_11, ↓e111_12, ↓e111_13, ↓e111_14, ↓e111_15, ↓e111_16, ↓e111_17, ↓e111_20, ↓e111_21, ↓e111_22, ↓e111_23, ↓e111_25, ↓e111_26, ↓e111_27, ↓e111_30, ↓e111_31, ↓e111_32, ↓e111_33, ↓e111_35, ↓e111_36, ↓e111_37, ↓e111_40, ↓e111_41, ↓e111_42, ↓e111_43, ↓e111_45, ↓e111_46, ↓e111_47, ↓e111_50, ↓e111_51, ↓e111_52, ↓e111_53, ↓e111_55, ↓e111_56, ↓e111_57, ↓e111_60, ↓e111_61, ↓e111_63, ↓e111_64, ↓e111_66, ↓e111_67, ↓e111_68, ↓e111_71, ↓e111_72, ↓e111_74, ↓e111_75, ↓e111_77, ↓e111_78, bc1_a, bd1, bd2, bd3, bd4, bd5, bd6, bd7, bd8, bd9, bd10, bd11, bd12, bd13, bd14, bd15, bd16, bd17, bd18, bd19, bd20, bd21, bd22, bd23, bd24, bd25, bd26, bd27, bd28, bd29, bd30, bd31, bd32, bd33, bd34, bd35, bd36, bd37, bd38, bd39, bc1_i, bc1_r, bc1_n, bc1_U, bisA_r, bisA_n, bisA_a, bct_i, bct_r, bct_n, bct_l, bcs_0, bcs_i, bcs_r, bcs_l, bcs_a, brt_0, brt_1, ↓bz0, ↓bz1, true_and, and_true, false_and, and_false, and_self, Nat.reduceAdd, Nat.reduceLeDiff, Nat.reduceSub, Nat.reduceEqDiff, ite_true, ite_false, if_true, if_false, gS_n, gS_r, gS_p, gS_c, gL_n, gL_r, gL_p, gL_c, gN_n, gN_r, gN_p, gN_c, gZ_n, gZ_r, gZ_p, gZ_c, gI_p, gI_r, gI_n, gI_c, gR_p, gR_r, gR_c, gR_n2, ne_eq, not_false_eq_true, not_true_eq_false, ↓reduceIte, Int32.reduceLT, Int32.reduceLE, Int32.reduceAdd, Int32.reduceSub, Int32.reduceMul, Int32.reduceDiv, Int32.reduceToNatClampNeg, Int64.reduceLT, or_true, or_false, true_or, false_or, Nat.reduceLT, h1, h2, h3, h4]
  refine hq _ ?_ ?_
  · repeat first | exact Fr.rf | refine Fr.put2 ?_ rfl
  · exact nz8 (nz8 (nz8 (nz8 (nz8 (nz8 (nz8 (nz8 hb b1) b2) b3) b4) b5) b6) b7) b8
theorem c_spellP16 {x1 x2 x3 x4 x5 x6 x7 x8 : Int32} (h1 : gS M 44 = 6) (h2 : gR M 44 1 = .ref 45) (h3 : gS M 45 = 10) (h4 : gL M 45 = 960) (b1 : ¬ x1 < 0) (b2 : ¬ x2 < 0) (b3 : ¬ x3 < 0) (b4 : ¬ x4 < 0) (b5 : ¬ x5 < 0) (b6 : ¬ x6 < 0) (b7 : ¬ x7 < 0) (b8 : ¬ x8 < 0) (hb : ∀ k, ¬ gI M 45 k < 0) (hq : ∀ M', Fr (fun o => o = 45) M M' → (∀ k, ¬ gI M' 45 k < 0) → Q none M') : Call L xs d 111 [.ref 44, .int 16, .int x1, .int x2, .int x3, .int x4, .int x5, .int x6, .int x7, .int x8] M Q := by
  rw [en111]
  simp only [↓e111_0, ↓e111_1, ↓e111_4, ↓e111_5, ↓e111_6, ↓e111_7, ↓e111_8, ↓e111_11, ↓e111_12, ↓e111_13, ↓e111_14, ↓e111_15, ↓e111_16, ↓e111_17, ↓e111_20, ↓e111_21, ↓e111_22, ↓e111_23, ↓e111_25, ↓e111_26, ↓e111_27, ↓e111_30, ↓e111_31, ↓e111_32, ↓e111_33, ↓e111_35, ↓e111_36, ↓e111_37, ↓e111_40, ↓e111_41, ↓e111_42, ↓e111_43, ↓e111_45, ↓e111_46, ↓e111_47, ↓e111_50, ↓e111_51, ↓e111_52, ↓e111_53, ↓e111_55, ↓e111_56, ↓e111_57, ↓e111_60, ↓e111_61, ↓e111_63, ↓e111_64, ↓e111_66, ↓e111_67, ↓e111_68, ↓e111_71, ↓e111_72, ↓e111_74, ↓e111_75, ↓e111_77, ↓e111_78, bc1_a, bd1, bd2, bd3, bd4, bd5, bd6, bd7, bd8, bd9, bd10, bd11, bd12, bd13, bd14, bd15, bd16, bd17, bd18, bd19, bd20, bd21, bd22, bd23, bd24, bd25, bd26, bd27, bd28, bd29, bd30, bd31, bd32, bd33, bd34, bd35, bd36, bd37, bd38, bd39, bc1_i, bc1_r, bc1_n, bc1_U, bisA_r, bisA_n, bisA_a, bct_i, bct_r, bct_n, bct_l, bcs_0, bcs_i, bcs_r, bcs_l, bcs_a, brt_0, brt_1, ↓bz0, ↓bz1, true_and, and_true, false_and, and_false, and_self, Nat.reduceAdd, Nat.reduceLeDiff, Nat.reduceSub, Nat.reduceEqDiff, ite_true, ite_false, if_true, if_false, gS_n, gS_r, gS_p, gS_c, gL_n, gL_r, gL_p, gL_c, gN_n, gN_r, gN_p, gN_c, gZ_n, gZ_r, gZ_p, gZ_c, gI_p, gI_r, gI_n, gI_c, gR_p, gR_r, gR_c, gR_n2, ne_eq, not_false_eq_true, not_true_eq_false, ↓reduceIte, Int32.reduceLT, Int32.reduceLE, Int32.reduceAdd, Int32.reduceSub, Int32.reduceMul, Int32.reduceDiv, Int32.reduceToNatClampNeg, Int64.reduceLT, or_true, or_false, true_or, false_or, Nat.reduceLT, h1, h2, h3, h4]
  refine hq _ ?_ ?_
  · repeat first | exact Fr.rf | refine Fr.put2 ?_ rfl
  · exact nz8 (nz8 (nz8 (nz8 (nz8 (nz8 (nz8 (nz8 hb b1) b2) b3) b4) b5) b6) b7) b8
theorem c_spellP24 {x1 x2 x3 x4 x5 x6 x7 x8 : Int32} (h1 : gS M 44 = 6) (h2 : gR M 44 1 = .ref 45) (h3 : gS M 45 = 10) (h4 : gL M 45 = 960) (b1 : ¬ x1 < 0) (b2 : ¬ x2 < 0) (b3 : ¬ x3 < 0) (b4 : ¬ x4 < 0) (b5 : ¬ x5 < 0) (b6 : ¬ x6 < 0) (b7 : ¬ x7 < 0) (b8 : ¬ x8 < 0) (hb : ∀ k, ¬ gI M 45 k < 0) (hq : ∀ M', Fr (fun o => o = 45) M M' → (∀ k, ¬ gI M' 45 k < 0) → Q none M') : Call L xs d 111 [.ref 44, .int 24, .int x1, .int x2, .int x3, .int x4, .int x5, .int x6, .int x7, .int x8] M Q := by
  rw [en111]
  simp only [↓e111_0, ↓e111_1, ↓e111_4, ↓e111_5, ↓e111_6, ↓e111_7, ↓e111_8, ↓e111_11, ↓e111_12, ↓e111_13, ↓e111_14, ↓e111_15, ↓e111_16, ↓e111_17, ↓e111_20, ↓e111_21, ↓e111_22, ↓e111_23, ↓e111_25, ↓e111_26, ↓e111_27, ↓e111_30, ↓e111_31, ↓e111_32, ↓e111_33, ↓e111_35, ↓e111_36, ↓e111_37, ↓e111_40, ↓e111_41, ↓e111_42, ↓e111_43, ↓e111_45, ↓e111_46, ↓e111_47, ↓e111_50, ↓e111_51, ↓e111_52, ↓e111_53, ↓e111_55, ↓e111_56, ↓e111_57, ↓e111_60, ↓e111_61, ↓e111_63, ↓e111_64, ↓e111_66, ↓e111_67, ↓e111_68, ↓e111_71, ↓e111_72, ↓e111_74, ↓e111_75, ↓e111_77, ↓e111_78, bc1_a, bd1, bd2, bd3, bd4, bd5, bd6, bd7, bd8, bd9, bd10, bd11, bd12, bd13, bd14, bd15, bd16, bd17, bd18, bd19, bd20, bd21, bd22, bd23, bd24, bd25, bd26, bd27, bd28, bd29, bd30, bd31, bd32, bd33, bd34, bd35, bd36, bd37, bd38, bd39, bc1_i, bc1_r, bc1_n, bc1_U, bisA_r, bisA_n, bisA_a, bct_i, bct_r, bct_n, bct_l, bcs_0, bcs_i, bcs_r, bcs_l, bcs_a, brt_0, brt_1, ↓bz0, ↓bz1, true_and, and_true, false_and, and_false, and_self, Nat.reduceAdd, Nat.reduceLeDiff, Nat.reduceSub, Nat.reduceEqDiff, ite_true, ite_false, if_true, if_false, gS_n, gS_r, gS_p, gS_c, gL_n, gL_r, gL_p, gL_c, gN_n, gN_r, gN_p, gN_c, gZ_n, gZ_r, gZ_p, gZ_c, gI_p, gI_r, gI_n, gI_c, gR_p, gR_r, gR_c, gR_n2, ne_eq, not_false_eq_true, not_true_eq_false, ↓reduceIte, Int32.reduceLT, Int32.reduceLE, Int32.reduceAdd, Int32.reduceSub, Int32.reduceMul, Int32.reduceDiv, Int32.reduceToNatClampNeg, Int64.reduceLT, or_true, or_false, true_or, false_or, Nat.reduceLT, h1, h2, h3, h4]
  refine hq _ ?_ ?_
  · repeat first | exact Fr.rf | refine Fr.put2 ?_ rfl
  · exact nz8 (nz8 (nz8 (nz8 (nz8 (nz8 (nz8 (nz8 hb b1) b2) b3) b4) b5) b6) b7) b8
theorem c_spellP32 {x1 x2 x3 x4 x5 x6 x7 x8 : Int32} (h1 : gS M 44 = 6) (h2 : gR M 44 1 = .ref 45) (h3 : gS M 45 = 10) (h4 : gL M 45 = 960) (b1 : ¬ x1 < 0) (b2 : ¬ x2 < 0) (b3 : ¬ x3 < 0) (b4 : ¬ x4 < 0) (b5 : ¬ x5 < 0) (b6 : ¬ x6 < 0) (b7 : ¬ x7 < 0) (b8 : ¬ x8 < 0) (hb : ∀ k, ¬ gI M 45 k < 0) (hq : ∀ M', Fr (fun o => o = 45) M M' → (∀ k, ¬ gI M' 45 k < 0) → Q none M') : Call L xs d 111 [.ref 44, .int 32, .int x1, .int x2, .int x3, .int x4, .int x5, .int x6, .int x7, .int x8] M Q := by
  rw [en111]
  simp only [↓e111_0, ↓e111_1, ↓e111_4, ↓e111_5, ↓e111_6, ↓e111_7, ↓e111_8, ↓e111_11, ↓e111_12, ↓e111_13, ↓e111_14, ↓e111_15, ↓e111_16, ↓e111_17, ↓e111_20, ↓e111_21, ↓e111_22, ↓e111_23, ↓e111_25, ↓e111_26, ↓e111_27, ↓e111_30, ↓e111_31, ↓e111_32, ↓e111_33, ↓e111_35, ↓e111_36, ↓e111_37, ↓e111_40, ↓e111_41, ↓e111_42, ↓e111_43, ↓e111_45, ↓e111_46, ↓e111_47, ↓e111_50, ↓e111_51, ↓e111_52, ↓e111_53, ↓e111_55, ↓e111_56, ↓e111_57, ↓e111_60, ↓e111_61, ↓e111_63, ↓e111_64, ↓e111_66, ↓e111_67, ↓e111_68, ↓e111_71, ↓e111_72, ↓e111_74, ↓e111_75, ↓e111_77, ↓e111_78, bc1_a, bd1, bd2, bd3, bd4, bd5, bd6, bd7, bd8, bd9, bd10, bd11, bd12, bd13, bd14, bd15, bd16, bd17, bd18, bd19, bd20, bd21, bd22, bd23, bd24, bd25, bd26, bd27, bd28, bd29, bd30, bd31, bd32, bd33, bd34, bd35, bd36, bd37, bd38, bd39, bc1_i, bc1_r, bc1_n, bc1_U, bisA_r, bisA_n, bisA_a, bct_i, bct_r, bct_n, bct_l, bcs_0, bcs_i, bcs_r, bcs_l, bcs_a, brt_0, brt_1, ↓bz0, ↓bz1, true_and, and_true, false_and, and_false, and_self, Nat.reduceAdd, Nat.reduceLeDiff, Nat.reduceSub, Nat.reduceEqDiff, ite_true, ite_false, if_true, if_false, gS_n, gS_r, gS_p, gS_c, gL_n, gL_r, gL_p, gL_c, gN_n, gN_r, gN_p, gN_c, gZ_n, gZ_r, gZ_p, gZ_c, gI_p, gI_r, gI_n, gI_c, gR_p, gR_r, gR_c, gR_n2, ne_eq, not_false_eq_true, not_true_eq_false, ↓reduceIte, Int32.reduceLT, Int32.reduceLE, Int32.reduceAdd, Int32.reduceSub, Int32.reduceMul, Int32.reduceDiv, Int32.reduceToNatClampNeg, Int64.reduceLT, or_true, or_false, true_or, false_or, Nat.reduceLT, h1, h2, h3, h4]
  refine hq _ ?_ ?_
  · repeat first | exact Fr.rf | refine Fr.put2 ?_ rfl
  · exact nz8 (nz8 (nz8 (nz8 (nz8 (nz8 (nz8 (nz8 hb b1) b2) b3) b4) b5) b6) b7) b8
theorem c_spellP40 {x1 x2 x3 x4 x5 x6 x7 x8 : Int32} (h1 : gS M 44 = 6) (h2 : gR M 44 1 = .ref 45) (h3 : gS M 45 = 10) (h4 : gL M 45 = 960) (b1 : ¬ x1 < 0) (b2 : ¬ x2 < 0) (b3 : ¬ x3 < 0) (b4 : ¬ x4 < 0) (b5 : ¬ x5 < 0) (b6 : ¬ x6 < 0) (b7 : ¬ x7 < 0) (b8 : ¬ x8 < 0) (hb : ∀ k, ¬ gI M 45 k < 0) (hq : ∀ M', Fr (fun o => o = 45) M M' → (∀ k, ¬ gI M' 45 k < 0) → Q none M') : Call L xs d 111 [.ref 44, .int 40, .int x1, .int x2, .int x3, .int x4, .int x5, .int x6, .int x7, .int x8] M Q := by
  rw [en111]
  simp only [↓e111_0, ↓e111_1, ↓e111_4, ↓e111_5, ↓e111_6, ↓e111_7, ↓e111_8, ↓e111_11, ↓e111_12, ↓e111_13, ↓e111_14, ↓e111_15, ↓e111_16, ↓e111_17, ↓e111_20, ↓e111_21, ↓e111_22, ↓e111_23, ↓e111_25, ↓e111_26, ↓e111_27, ↓e111_30, ↓e111_31, ↓e111_32, ↓e111_33, ↓e111_35, ↓e111_36, ↓e111_37, ↓e111_40, ↓e111_41, ↓e111_42, ↓e111_43, ↓e111_45, ↓e111_46, ↓e111_47, ↓e111_50, ↓e111_51, ↓e111_52, ↓e111_53, ↓e111_55, ↓e111_56, ↓e111_57, ↓e111_60, ↓e111_61, ↓e111_63, ↓e111_64, ↓e111_66, ↓e111_67, ↓e111_68, ↓e111_71, ↓e111_72, ↓e111_74, ↓e111_75, ↓e111_77, ↓e111_78, bc1_a, bd1, bd2, bd3, bd4, bd5, bd6, bd7, bd8, bd9, bd10, bd11, bd12, bd13, bd14, bd15, bd16, bd17, bd18, bd19, bd20, bd21, bd22, bd23, bd24, bd25, bd26, bd27, bd28, bd29, bd30, bd31, bd32, bd33, bd34, bd35, bd36, bd37, bd38, bd39, bc1_i, bc1_r, bc1_n, bc1_U, bisA_r, bisA_n, bisA_a, bct_i, bct_r, bct_n, bct_l, bcs_0, bcs_i, bcs_r, bcs_l, bcs_a, brt_0, brt_1, ↓bz0, ↓bz1, true_and, and_true, false_and, and_false, and_self, Nat.reduceAdd, Nat.reduceLeDiff, Nat.reduceSub, Nat.reduceEqDiff, ite_true, ite_false, if_true, if_false, gS_n, gS_r, gS_p, gS_c, gL_n, gL_r, gL_p, gL_c, gN_n, gN_r, gN_p, gN_c, gZ_n, gZ_r, gZ_p, gZ_c, gI_p, gI_r, gI_n, gI_c, gR_p, gR_r, gR_c, gR_n2, ne_eq, not_false_eq_true, not_true_eq_false, ↓reduceIte, Int32.reduceLT, Int32.reduceLE, Int32.reduceAdd, Int32.reduceSub, Int32.reduceMul, Int32.reduceDiv, Int32.reduceToNatClampNeg, Int64.reduceLT, or_true, or_false, true_or, false_or, Nat.reduceLT, h1, h2, h3, h4]
  refine hq _ ?_ ?_
  · repeat first | exact Fr.rf | refine Fr.put2 ?_ rfl
  · exact nz8 (nz8 (nz8 (nz8 (nz8 (nz8 (nz8 (nz8 hb b1) b2) b3) b4) b5) b6) b7) b8
theorem c_minit2 (m0 : gS M 44 = 6) (mN : gN M = 45) (mI : ∀ k, gI M 44 k = 0) (hq : ∀ M', MN0 M' → Old 44 M M' → gN M' = 63 → gZ M' ≤ gZ M + 2000 → (∀ k, ¬ gI M' 45 k < 0) → Q none M') : Call L xs (d + 2) 110 [.ref 44] M Q := by
  rw [en110]
  simp only [↓e110_0, ↓e110_1, ↓e110_4, ↓e110_5, ↓e110_8, ↓e110_10, ↓e110_13, ↓e110_14, ↓e110_16, ↓e110_18, ↓e110_21, ↓e110_22, ↓e110_25, ↓e110_27, ↓e110_30, ↓e110_31, ↓e110_32, ↓e110_35, ↓e110_36, ↓e110_38, ↓e110_40, ↓e110_43, ↓e110_44, ↓e110_46, ↓e110_48, ↓e110_51, ↓e110_52, ↓e110_54, ↓e110_56, ↓e110_59, ↓e110_60, ↓e110_62, ↓e110_64, ↓e110_67, ↓e110_68, ↓e110_70, ↓e110_72, ↓e110_75, ↓e110_76, ↓e110_78, ↓e110_80, ↓e110_83, ↓e110_84, ↓e110_86, ↓e110_88, ↓e110_91, ↓e110_92, ↓e110_94, ↓e110_96, ↓e110_99, ↓e110_100, ↓e110_102, ↓e110_104, ↓e110_107, ↓e110_108, ↓e110_110, ↓e110_112, ↓e110_115, ↓e110_116, ↓e110_118, ↓e110_120, ↓e110_123, ↓e110_124, ↓e110_125, ↓e110_128, ↓e110_129, ↓e110_130, ↓e110_132, ↓e110_135, ↓e110_136, ↓e110_137, ↓e110_139, ↓e110_142, ↓e110_143, ↓e110_144, ↓e110_146, ↓e110_149, ↓e110_150, ↓e110_153, ↓e110_155, ↓e110_159, ↓e110_160, ↓e110_162, ↓e110_164, ↓e110_166, ↓e110_168, ↓e110_170, ↓e110_172, ↓e110_174, ↓e110_176, ↓e110_179, ↓e110_180, ↓e110_182, ↓e110_184, ↓e110_186, ↓e110_188, ↓e110_190, ↓e110_192, ↓e110_194, ↓e110_196, ↓e110_198, ↓e110_201, ↓e110_202, ↓e110_204, ↓e110_206, ↓e110_208, ↓e110_210, ↓e110_212, ↓e110_214, ↓e110_216, ↓e110_218, ↓e110_220, ↓e110_223, ↓e110_224, ↓e110_226, ↓e110_228, ↓e110_230, ↓e110_232, ↓e110_234, ↓e110_236, ↓e110_238, ↓e110_240, ↓e110_242, ↓e110_245, ↓e110_246, ↓e110_248, ↓e110_250, ↓e110_252, ↓e110_254, ↓e110_256, ↓e110_258, ↓e110_260, ↓e110_262, ↓e110_264, ↓e110_267, ↓e110_268, ↓e110_270, ↓e110_272, ↓e110_274, ↓e110_276, ↓e110_278, ↓e110_280, ↓e110_282, ↓e110_284, ↓e110_286, ↓e110_289, ↓e110_290, ↓e110_293, ↓e110_294, ↓e110_296, ↓e110_297, ↓e110_298, ↓e110_299, ↓e110_302, bc1_a, bd1, bd2, bd3, bd4, bd5, bd6, bd7, bd8, bd9, bd10, bd11, bd12, bd13, bd14, bd15, bd16, bd17, bd18, bd19, bd20, bd21, bd22, bd23, bd24, bd25, bd26, bd27, bd28, bd29, bd30, bd31, bd32, bd33, bd34, bd35, bd36, bd37, bd38, bd39, bc1_i, bc1_r, bc1_n, bc1_U, bisA_r, bisA_n, bisA_a, bct_i, bct_r, bct_n, bct_l, bcs_0, bcs_i, bcs_r, bcs_l, bcs_a, brt_0, brt_1, ↓bz0, ↓bz1, true_and, and_true, false_and, and_false, and_self, Nat.reduceAdd, Nat.reduceLeDiff, Nat.reduceSub, Nat.reduceEqDiff, ite_true, ite_false, if_true, if_false, gS_n, gS_r, gS_p, gS_c, gL_n, gL_r, gL_p, gL_c, gN_n, gN_r, gN_p, gN_c, gZ_n, gZ_r, gZ_p, gZ_c, gI_p, gI_r, gI_n, gI_c, gR_p, gR_r, gR_c, gR_n2, ne_eq, not_false_eq_true, not_true_eq_false, ↓reduceIte, Int32.reduceLT, Int32.reduceLE, Int32.reduceAdd, Int32.reduceSub, Int32.reduceMul, Int32.reduceDiv, Int32.reduceToNatClampNeg, Int64.reduceLT, or_true, or_false, true_or, false_or, Nat.reduceLT, ↓or_rr, m0, mN]
  generalize hA : pR (pN _ 10 160 160) 44 46 _ = A
  have hS : MS A := by
    rw [← hA]
    unfold MS
    simp only [gS_n, gS_r, gS_p, gS_c, gL_n, gL_r, gL_p, gL_c, gN_n, gN_r, gN_p, gN_c, gZ_n, gZ_r, gZ_p, gZ_c, gI_p, gI_r, gI_n, gI_c, gR_p, gR_r, gR_c, gR_n2, ne_eq, not_false_eq_true, not_true_eq_false, ↓reduceIte, Int32.reduceLT, Int32.reduceLE, Int32.reduceAdd, Int32.reduceSub, Int32.reduceMul, Int32.reduceDiv, Int32.reduceToNatClampNeg, Int64.reduceLT, or_true, or_false, true_or, false_or, Nat.reduceLT, m0, mN, bc1_a, bd1, bd2, bd3, bd4, bd5, bd6, bd7, bd8, bd9, bd10, bd11, bd12, bd13, bd14, bd15, bd16, bd17, bd18, bd19, bd20, bd21, bd22, bd23, bd24, bd25, bd26, bd27, bd28, bd29, bd30, bd31, bd32, bd33, bd34, bd35, bd36, bd37, bd38, bd39, bc1_i, bc1_r, bc1_n, bc1_U, bisA_r, bisA_n, bisA_a, bct_i, bct_r, bct_n, bct_l, bcs_0, bcs_i, bcs_r, bcs_l, bcs_a, brt_0, brt_1, ↓bz0, ↓bz1, true_and, and_true, false_and, and_false, and_self, Nat.reduceAdd, Nat.reduceLeDiff, Nat.reduceSub, Nat.reduceEqDiff, ite_true, ite_false, if_true, if_false]
  have hI : ∀ k, gI A 44 k = if k = 38 then -1 else if k = 8 then 4 else 0 := fun k => by
    rw [← hA]
    simp only [gS_n, gS_r, gS_p, gS_c, gL_n, gL_r, gL_p, gL_c, gN_n, gN_r, gN_p, gN_c, gZ_n, gZ_r, gZ_p, gZ_c, gI_p, gI_r, gI_n, gI_c, gR_p, gR_r, gR_c, gR_n2, ne_eq, not_false_eq_true, not_true_eq_false, ↓reduceIte, Int32.reduceLT, Int32.reduceLE, Int32.reduceAdd, Int32.reduceSub, Int32.reduceMul, Int32.reduceDiv, Int32.reduceToNatClampNeg, Int64.reduceLT, or_true, or_false, true_or, false_or, Nat.reduceLT, m0, mN, mI, bc1_a, bd1, bd2, bd3, bd4, bd5, bd6, bd7, bd8, bd9, bd10, bd11, bd12, bd13, bd14, bd15, bd16, bd17, bd18, bd19, bd20, bd21, bd22, bd23, bd24, bd25, bd26, bd27, bd28, bd29, bd30, bd31, bd32, bd33, bd34, bd35, bd36, bd37, bd38, bd39, bc1_i, bc1_r, bc1_n, bc1_U, bisA_r, bisA_n, bisA_a, bct_i, bct_r, bct_n, bct_l, bcs_0, bcs_i, bcs_r, bcs_l, bcs_a, brt_0, brt_1, ↓bz0, ↓bz1, true_and, and_true, false_and, and_false, and_self, Nat.reduceAdd, Nat.reduceLeDiff, Nat.reduceSub, Nat.reduceEqDiff, ite_true, ite_false, if_true, if_false]
  have hO : ∀ o k, 46 ≤ o → o < 63 → gI A o k = 0 := fun o k h1 h2 => by
    have : o = 46 ∨ o = 47 ∨ o = 48 ∨ o = 49 ∨ o = 50 ∨ o = 51 ∨ o = 52 ∨ o = 53 ∨ o = 54 ∨ o = 55 ∨ o = 56 ∨ o = 57 ∨ o = 58 ∨ o = 59 ∨ o = 60 ∨ o = 61 ∨ o = 62 := by omega
    rw [← hA]
    rcases this with rfl | rfl | rfl | rfl | rfl | rfl | rfl | rfl | rfl | rfl | rfl | rfl | rfl | rfl | rfl | rfl | rfl <;> simp only [gS_n, gS_r, gS_p, gS_c, gL_n, gL_r, gL_p, gL_c, gN_n, gN_r, gN_p, gN_c, gZ_n, gZ_r, gZ_p, gZ_c, gI_p, gI_r, gI_n, gI_c, gR_p, gR_r, gR_c, gR_n2, ne_eq, not_false_eq_true, not_true_eq_false, ↓reduceIte, Int32.reduceLT, Int32.reduceLE, Int32.reduceAdd, Int32.reduceSub, Int32.reduceMul, Int32.reduceDiv, Int32.reduceToNatClampNeg, Int64.reduceLT, or_true, or_false, true_or, false_or, Nat.reduceLT, mN, bc1_a, bd1, bd2, bd3, bd4, bd5, bd6, bd7, bd8, bd9, bd10, bd11, bd12, bd13, bd14, bd15, bd16, bd17, bd18, bd19, bd20, bd21, bd22, bd23, bd24, bd25, bd26, bd27, bd28, bd29, bd30, bd31, bd32, bd33, bd34, bd35, bd36, bd37, bd38, bd39, bc1_i, bc1_r, bc1_n, bc1_U, bisA_r, bisA_n, bisA_a, bct_i, bct_r, bct_n, bct_l, bcs_0, bcs_i, bcs_r, bcs_l, bcs_a, brt_0, brt_1, ↓bz0, ↓bz1, true_and, and_true, false_and, and_false, and_self, Nat.reduceAdd, Nat.reduceLeDiff, Nat.reduceSub, Nat.reduceEqDiff, ite_true, ite_false, if_true, if_false]
  have h45 : ∀ k, ¬ gI A 45 k < 0 := fun k => by
    have e : gI A 45 k = 0 := by
      rw [← hA]
      simp only [gS_n, gS_r, gS_p, gS_c, gL_n, gL_r, gL_p, gL_c, gN_n, gN_r, gN_p, gN_c, gZ_n, gZ_r, gZ_p, gZ_c, gI_p, gI_r, gI_n, gI_c, gR_p, gR_r, gR_c, gR_n2, ne_eq, not_false_eq_true, not_true_eq_false, ↓reduceIte, Int32.reduceLT, Int32.reduceLE, Int32.reduceAdd, Int32.reduceSub, Int32.reduceMul, Int32.reduceDiv, Int32.reduceToNatClampNeg, Int64.reduceLT, or_true, or_false, true_or, false_or, Nat.reduceLT, mN, bc1_a, bd1, bd2, bd3, bd4, bd5, bd6, bd7, bd8, bd9, bd10, bd11, bd12, bd13, bd14, bd15, bd16, bd17, bd18, bd19, bd20, bd21, bd22, bd23, bd24, bd25, bd26, bd27, bd28, bd29, bd30, bd31, bd32, bd33, bd34, bd35, bd36, bd37, bd38, bd39, bc1_i, bc1_r, bc1_n, bc1_U, bisA_r, bisA_n, bisA_a, bct_i, bct_r, bct_n, bct_l, bcs_0, bcs_i, bcs_r, bcs_l, bcs_a, brt_0, brt_1, ↓bz0, ↓bz1, true_and, and_true, false_and, and_false, and_self, Nat.reduceAdd, Nat.reduceLeDiff, Nat.reduceSub, Nat.reduceEqDiff, ite_true, ite_false, if_true, if_false]
    rw [e]; decide
  have hN : gN A = 63 := by rw [← hA]; simp only [gS_n, gS_r, gS_p, gS_c, gL_n, gL_r, gL_p, gL_c, gN_n, gN_r, gN_p, gN_c, gZ_n, gZ_r, gZ_p, gZ_c, gI_p, gI_r, gI_n, gI_c, gR_p, gR_r, gR_c, gR_n2, ne_eq, not_false_eq_true, not_true_eq_false, mN]
  have hZ : gZ A ≤ gZ M + 2000 := by rw [← hA]; simp only [gS_n, gS_r, gS_p, gS_c, gL_n, gL_r, gL_p, gL_c, gN_n, gN_r, gN_p, gN_c, gZ_n, gZ_r, gZ_p, gZ_c, gI_p, gI_r, gI_n, gI_c, gR_p, gR_r, gR_c, gR_n2, ne_eq, not_false_eq_true, not_true_eq_false]; omega
  have hF : Old 44 M A := by
    rw [← hA]
    repeat first | exact Old.rf | refine Old.r2 ?_ (by decide) | refine Old.p2 ?_ (by decide) | refine Old.n2 ?_ (by simp only [gS_n, gS_r, gS_p, gS_c, gL_n, gL_r, gL_p, gL_c, gN_n, gN_r, gN_p, gN_c, gZ_n, gZ_r, gZ_p, gZ_c, gI_p, gI_r, gI_n, gI_c, gR_p, gR_r, gR_c, gR_n2, ne_eq, not_false_eq_true, not_true_eq_false, mN]; decide)
  have go : ∀ B, Fr (fun o => o = 45) A B → gS B 44 = 6 ∧ gR B 44 1 = .ref 45 ∧ gR B 44 2 = .ref 46 ∧ gS B 45 = 10 ∧ gL B 45 = 960 ∧ gS B 46 = 10 ∧ gL B 46 = 6 := fun B hB => by
    obtain ⟨⟨m44, mr1, mr2, mr5, mr9, mr10, mr12, mr13, mr14, mr32, mr33, mr34, mr35, mr36, mr37, mr43, mr44, mr45, mr46⟩, ⟨ms45, ms46, ms47, ms48, ms49, ms50, ms51, ms52, ms53, ms54, ms55, ms56, ms57, ms58, ms59, ms60, ms61, ms62⟩, ml45, ml46, ml47, ml48, ml49, ml50, ml51, ml52, ml53, ml54, ml55, ml56, ml57, ml58, ml59, ml60, ml61, ml62⟩ := hS.fr hB
    exact ⟨m44, mr1, mr2, ms45, ml45, ms46, ml46⟩
  obtain ⟨a1, a2, -, a3, a4, -, -⟩ := go A Fr.rf
  rw [e110_158 rfl]
  simp only [↓e110_0, ↓e110_1, ↓e110_4, ↓e110_5, ↓e110_8, ↓e110_10, ↓e110_13, ↓e110_14, ↓e110_16, ↓e110_18, ↓e110_21, ↓e110_22, ↓e110_25, ↓e110_27, ↓e110_30, ↓e110_31, ↓e110_32, ↓e110_35, ↓e110_36, ↓e110_38, ↓e110_40, ↓e110_43, ↓e110_44, ↓e110_46, ↓e110_48, ↓e110_51, ↓e110_52, ↓e110_54, ↓e110_56, ↓e110_59, ↓e110_60, ↓e110_62, ↓e110_64, ↓e110_67, ↓e110_68, ↓e110_70, ↓e110_72, ↓e110_75, ↓e110_76, ↓e110_78, ↓e110_80, ↓e110_83, ↓e110_84, ↓e110_86, ↓e110_88, ↓e110_91, ↓e110_92, ↓e110_94, ↓e110_96, ↓e110_99, ↓e110_100, ↓e110_102, ↓e110_104, ↓e110_107, ↓e110_108, ↓e110_110, ↓e110_112, ↓e110_115, ↓e110_116, ↓e110_118, ↓e110_120, ↓e110_123, ↓e110_124, ↓e110_125, ↓e110_128, ↓e110_129, ↓e110_130, ↓e110_132, ↓e110_135, ↓e110_136, ↓e110_137, ↓e110_139, ↓e110_142, ↓e110_143, ↓e110_144, ↓e110_146, ↓e110_149, ↓e110_150, ↓e110_153, ↓e110_155, ↓e110_158, ↓e110_159, ↓e110_160, ↓e110_162, ↓e110_164, ↓e110_166, ↓e110_168, ↓e110_170, ↓e110_172, ↓e110_174, ↓e110_176, ↓e110_179, ↓e110_180, ↓e110_182, ↓e110_184, ↓e110_186, ↓e110_188, ↓e110_190, ↓e110_192, ↓e110_194, ↓e110_196, ↓e110_198, ↓e110_201, ↓e110_202, ↓e110_204, ↓e110_206, ↓e110_208, ↓e110_210, ↓e110_212, ↓e110_214, ↓e110_216, ↓e110_218, ↓e110_220, ↓e110_223, ↓e110_224, ↓e110_226, ↓e110_228, ↓e110_230, ↓e110_232, ↓e110_234, ↓e110_236, ↓e110_238, ↓e110_240, ↓e110_242, ↓e110_245, ↓e110_246, ↓e110_248, ↓e110_250, ↓e110_252, ↓e110_254, ↓e110_256, ↓e110_258, ↓e110_260, ↓e110_262, ↓e110_264, ↓e110_267, ↓e110_268, ↓e110_270, ↓e110_272, ↓e110_274, ↓e110_276, ↓e110_278, ↓e110_280, ↓e110_282, ↓e110_284, ↓e110_286, ↓e110_289, ↓e110_290, ↓e110_293, ↓e110_294, ↓e110_296, ↓e110_297, ↓e110_298, ↓e110_299, ↓e110_302, bc1_a, bd1, bd2, bd3, bd4, bd5, bd6, bd7, bd8, bd9, bd10, bd11, bd12, bd13, bd14, bd15, bd16, bd17, bd18, bd19, bd20, bd21, bd22, bd23, bd24, bd25, bd26, bd27, bd28, bd29, bd30, bd31, bd32, bd33, bd34, bd35, bd36, bd37, bd38, bd39, bc1_i, bc1_r, bc1_n, bc1_U, bisA_r, bisA_n, bisA_a, bct_i, bct_r, bct_n, bct_l, bcs_0, bcs_i, bcs_r, bcs_l, bcs_a, brt_0, brt_1, ↓bz0, ↓bz1, true_and, and_true, false_and, and_false, and_self, Nat.reduceAdd, Nat.reduceLeDiff, Nat.reduceSub, Nat.reduceEqDiff, ite_true, ite_false, if_true, if_false, a1]
  refine c_spellP0 a1 a2 a3 a4 (by decide) (by decide) (by decide) (by decide) (by decide) (by decide) (by decide) (by decide) h45 (fun B1 f1 w1 => ?_)
  have g1 := f1
  obtain ⟨a1, a2, -, a3, a4, -, -⟩ := go B1 g1
  simp only [↓e110_0, ↓e110_1, ↓e110_4, ↓e110_5, ↓e110_8, ↓e110_10, ↓e110_13, ↓e110_14, ↓e110_16, ↓e110_18, ↓e110_21, ↓e110_22, ↓e110_25, ↓e110_27, ↓e110_30, ↓e110_31, ↓e110_32, ↓e110_35, ↓e110_36, ↓e110_38, ↓e110_40, ↓e110_43, ↓e110_44, ↓e110_46, ↓e110_48, ↓e110_51, ↓e110_52, ↓e110_54, ↓e110_56, ↓e110_59, ↓e110_60, ↓e110_62, ↓e110_64, ↓e110_67, ↓e110_68, ↓e110_70, ↓e110_72, ↓e110_75, ↓e110_76, ↓e110_78, ↓e110_80, ↓e110_83, ↓e110_84, ↓e110_86, ↓e110_88, ↓e110_91, ↓e110_92, ↓e110_94, ↓e110_96, ↓e110_99, ↓e110_100, ↓e110_102, ↓e110_104, ↓e110_107, ↓e110_108, ↓e110_110, ↓e110_112, ↓e110_115, ↓e110_116, ↓e110_118, ↓e110_120, ↓e110_123, ↓e110_124, ↓e110_125, ↓e110_128, ↓e110_129, ↓e110_130, ↓e110_132, ↓e110_135, ↓e110_136, ↓e110_137, ↓e110_139, ↓e110_142, ↓e110_143, ↓e110_144, ↓e110_146, ↓e110_149, ↓e110_150, ↓e110_153, ↓e110_155, ↓e110_158, ↓e110_159, ↓e110_160, ↓e110_162, ↓e110_164, ↓e110_166, ↓e110_168, ↓e110_170, ↓e110_172, ↓e110_174, ↓e110_176, ↓e110_179, ↓e110_180, ↓e110_182, ↓e110_184, ↓e110_186, ↓e110_188, ↓e110_190, ↓e110_192, ↓e110_194, ↓e110_196, ↓e110_198, ↓e110_201, ↓e110_202, ↓e110_204, ↓e110_206, ↓e110_208, ↓e110_210, ↓e110_212, ↓e110_214, ↓e110_216, ↓e110_218, ↓e110_220, ↓e110_223, ↓e110_224, ↓e110_226, ↓e110_228, ↓e110_230, ↓e110_232, ↓e110_234, ↓e110_236, ↓e110_238, ↓e110_240, ↓e110_242, ↓e110_245, ↓e110_246, ↓e110_248, ↓e110_250, ↓e110_252, ↓e110_254, ↓e110_256, ↓e110_258, ↓e110_260, ↓e110_262, ↓e110_264, ↓e110_267, ↓e110_268, ↓e110_270, ↓e110_272, ↓e110_274, ↓e110_276, ↓e110_278, ↓e110_280, ↓e110_282, ↓e110_284, ↓e110_286, ↓e110_289, ↓e110_290, ↓e110_293, ↓e110_294, ↓e110_296, ↓e110_297, ↓e110_298, ↓e110_299, ↓e110_302, bc1_a, bd1, bd2, bd3, bd4, bd5, bd6, bd7, bd8, bd9, bd10, bd11, bd12, bd13, bd14, bd15, bd16, bd17, bd18, bd19, bd20, bd21, bd22, bd23, bd24, bd25, bd26, bd27, bd28, bd29, bd30, bd31, bd32, bd33, bd34, bd35, bd36, bd37, bd38, bd39, bc1_i, bc1_r, bc1_n, bc1_U, bisA_r, bisA_n, bisA_a, bct_i, bct_r, bct_n, bct_l, bcs_0, bcs_i, bcs_r, bcs_l, bcs_a, brt_0, brt_1, ↓bz0, ↓bz1, true_and, and_true, false_and, and_false, and_self, Nat.reduceAdd, Nat.reduceLeDiff, Nat.reduceSub, Nat.reduceEqDiff, ite_true, ite_false, if_true, if_false, a1]
  refine c_spellP8 a1 a2 a3 a4 (by decide) (by decide) (by decide) (by decide) (by decide) (by decide) (by decide) (by decide) w1 (fun B2 f2 w2 => ?_)
  have g2 := g1.trans f2
  obtain ⟨a1, a2, -, a3, a4, -, -⟩ := go B2 g2
  simp only [↓e110_0, ↓e110_1, ↓e110_4, ↓e110_5, ↓e110_8, ↓e110_10, ↓e110_13, ↓e110_14, ↓e110_16, ↓e110_18, ↓e110_21, ↓e110_22, ↓e110_25, ↓e110_27, ↓e110_30, ↓e110_31, ↓e110_32, ↓e110_35, ↓e110_36, ↓e110_38, ↓e110_40, ↓e110_43, ↓e110_44, ↓e110_46, ↓e110_48, ↓e110_51, ↓e110_52, ↓e110_54, ↓e110_56, ↓e110_59, ↓e110_60, ↓e110_62, ↓e110_64, ↓e110_67, ↓e110_68, ↓e110_70, ↓e110_72, ↓e110_75, ↓e110_76, ↓e110_78, ↓e110_80, ↓e110_83, ↓e110_84, ↓e110_86, ↓e110_88, ↓e110_91, ↓e110_92, ↓e110_94, ↓e110_96, ↓e110_99, ↓e110_100, ↓e110_102, ↓e110_104, ↓e110_107, ↓e110_108, ↓e110_110, ↓e110_112, ↓e110_115, ↓e110_116, ↓e110_118, ↓e110_120, ↓e110_123, ↓e110_124, ↓e110_125, ↓e110_128, ↓e110_129, ↓e110_130, ↓e110_132, ↓e110_135, ↓e110_136, ↓e110_137, ↓e110_139, ↓e110_142, ↓e110_143, ↓e110_144, ↓e110_146, ↓e110_149, ↓e110_150, ↓e110_153, ↓e110_155, ↓e110_158, ↓e110_159, ↓e110_160, ↓e110_162, ↓e110_164, ↓e110_166, ↓e110_168, ↓e110_170, ↓e110_172, ↓e110_174, ↓e110_176, ↓e110_179, ↓e110_180, ↓e110_182, ↓e110_184, ↓e110_186, ↓e110_188, ↓e110_190, ↓e110_192, ↓e110_194, ↓e110_196, ↓e110_198, ↓e110_201, ↓e110_202, ↓e110_204, ↓e110_206, ↓e110_208, ↓e110_210, ↓e110_212, ↓e110_214, ↓e110_216, ↓e110_218, ↓e110_220, ↓e110_223, ↓e110_224, ↓e110_226, ↓e110_228, ↓e110_230, ↓e110_232, ↓e110_234, ↓e110_236, ↓e110_238, ↓e110_240, ↓e110_242, ↓e110_245, ↓e110_246, ↓e110_248, ↓e110_250, ↓e110_252, ↓e110_254, ↓e110_256, ↓e110_258, ↓e110_260, ↓e110_262, ↓e110_264, ↓e110_267, ↓e110_268, ↓e110_270, ↓e110_272, ↓e110_274, ↓e110_276, ↓e110_278, ↓e110_280, ↓e110_282, ↓e110_284, ↓e110_286, ↓e110_289, ↓e110_290, ↓e110_293, ↓e110_294, ↓e110_296, ↓e110_297, ↓e110_298, ↓e110_299, ↓e110_302, bc1_a, bd1, bd2, bd3, bd4, bd5, bd6, bd7, bd8, bd9, bd10, bd11, bd12, bd13, bd14, bd15, bd16, bd17, bd18, bd19, bd20, bd21, bd22, bd23, bd24, bd25, bd26, bd27, bd28, bd29, bd30, bd31, bd32, bd33, bd34, bd35, bd36, bd37, bd38, bd39, bc1_i, bc1_r, bc1_n, bc1_U, bisA_r, bisA_n, bisA_a, bct_i, bct_r, bct_n, bct_l, bcs_0, bcs_i, bcs_r, bcs_l, bcs_a, brt_0, brt_1, ↓bz0, ↓bz1, true_and, and_true, false_and, and_false, and_self, Nat.reduceAdd, Nat.reduceLeDiff, Nat.reduceSub, Nat.reduceEqDiff, ite_true, ite_false, if_true, if_false, a1]
  refine c_spellP16 a1 a2 a3 a4 (by decide) (by decide) (by decide) (by decide) (by decide) (by decide) (by decide) (by decide) w2 (fun B3 f3 w3 => ?_)
  have g3 := g2.trans f3
  obtain ⟨a1, a2, -, a3, a4, -, -⟩ := go B3 g3
  simp only [↓e110_0, ↓e110_1, ↓e110_4, ↓e110_5, ↓e110_8, ↓e110_10, ↓e110_13, ↓e110_14, ↓e110_16, ↓e110_18, ↓e110_21, ↓e110_22, ↓e110_25, ↓e110_27, ↓e110_30, ↓e110_31, ↓e110_32, ↓e110_35, ↓e110_36, ↓e110_38, ↓e110_40, ↓e110_43, ↓e110_44, ↓e110_46, ↓e110_48, ↓e110_51, ↓e110_52, ↓e110_54, ↓e110_56, ↓e110_59, ↓e110_60, ↓e110_62, ↓e110_64, ↓e110_67, ↓e110_68, ↓e110_70, ↓e110_72, ↓e110_75, ↓e110_76, ↓e110_78, ↓e110_80, ↓e110_83, ↓e110_84, ↓e110_86, ↓e110_88, ↓e110_91, ↓e110_92, ↓e110_94, ↓e110_96, ↓e110_99, ↓e110_100, ↓e110_102, ↓e110_104, ↓e110_107, ↓e110_108, ↓e110_110, ↓e110_112, ↓e110_115, ↓e110_116, ↓e110_118, ↓e110_120, ↓e110_123, ↓e110_124, ↓e110_125, ↓e110_128, ↓e110_129, ↓e110_130, ↓e110_132, ↓e110_135, ↓e110_136, ↓e110_137, ↓e110_139, ↓e110_142, ↓e110_143, ↓e110_144, ↓e110_146, ↓e110_149, ↓e110_150, ↓e110_153, ↓e110_155, ↓e110_158, ↓e110_159, ↓e110_160, ↓e110_162, ↓e110_164, ↓e110_166, ↓e110_168, ↓e110_170, ↓e110_172, ↓e110_174, ↓e110_176, ↓e110_179, ↓e110_180, ↓e110_182, ↓e110_184, ↓e110_186, ↓e110_188, ↓e110_190, ↓e110_192, ↓e110_194, ↓e110_196, ↓e110_198, ↓e110_201, ↓e110_202, ↓e110_204, ↓e110_206, ↓e110_208, ↓e110_210, ↓e110_212, ↓e110_214, ↓e110_216, ↓e110_218, ↓e110_220, ↓e110_223, ↓e110_224, ↓e110_226, ↓e110_228, ↓e110_230, ↓e110_232, ↓e110_234, ↓e110_236, ↓e110_238, ↓e110_240, ↓e110_242, ↓e110_245, ↓e110_246, ↓e110_248, ↓e110_250, ↓e110_252, ↓e110_254, ↓e110_256, ↓e110_258, ↓e110_260, ↓e110_262, ↓e110_264, ↓e110_267, ↓e110_268, ↓e110_270, ↓e110_272, ↓e110_274, ↓e110_276, ↓e110_278, ↓e110_280, ↓e110_282, ↓e110_284, ↓e110_286, ↓e110_289, ↓e110_290, ↓e110_293, ↓e110_294, ↓e110_296, ↓e110_297, ↓e110_298, ↓e110_299, ↓e110_302, bc1_a, bd1, bd2, bd3, bd4, bd5, bd6, bd7, bd8, bd9, bd10, bd11, bd12, bd13, bd14, bd15, bd16, bd17, bd18, bd19, bd20, bd21, bd22, bd23, bd24, bd25, bd26, bd27, bd28, bd29, bd30, bd31, bd32, bd33, bd34, bd35, bd36, bd37, bd38, bd39, bc1_i, bc1_r, bc1_n, bc1_U, bisA_r, bisA_n, bisA_a, bct_i, bct_r, bct_n, bct_l, bcs_0, bcs_i, bcs_r, bcs_l, bcs_a, brt_0, brt_1, ↓bz0, ↓bz1, true_and, and_true, false_and, and_false, and_self, Nat.reduceAdd, Nat.reduceLeDiff, Nat.reduceSub, Nat.reduceEqDiff, ite_true, ite_false, if_true, if_false, a1]
  refine c_spellP24 a1 a2 a3 a4 (by decide) (by decide) (by decide) (by decide) (by decide) (by decide) (by decide) (by decide) w3 (fun B4 f4 w4 => ?_)
  have g4 := g3.trans f4
  obtain ⟨a1, a2, -, a3, a4, -, -⟩ := go B4 g4
  simp only [↓e110_0, ↓e110_1, ↓e110_4, ↓e110_5, ↓e110_8, ↓e110_10, ↓e110_13, ↓e110_14, ↓e110_16, ↓e110_18, ↓e110_21, ↓e110_22, ↓e110_25, ↓e110_27, ↓e110_30, ↓e110_31, ↓e110_32, ↓e110_35, ↓e110_36, ↓e110_38, ↓e110_40, ↓e110_43, ↓e110_44, ↓e110_46, ↓e110_48, ↓e110_51, ↓e110_52, ↓e110_54, ↓e110_56, ↓e110_59, ↓e110_60, ↓e110_62, ↓e110_64, ↓e110_67, ↓e110_68, ↓e110_70, ↓e110_72, ↓e110_75, ↓e110_76, ↓e110_78, ↓e110_80, ↓e110_83, ↓e110_84, ↓e110_86, ↓e110_88, ↓e110_91, ↓e110_92, ↓e110_94, ↓e110_96, ↓e110_99, ↓e110_100, ↓e110_102, ↓e110_104, ↓e110_107, ↓e110_108, ↓e110_110, ↓e110_112, ↓e110_115, ↓e110_116, ↓e110_118, ↓e110_120, ↓e110_123, ↓e110_124, ↓e110_125, ↓e110_128, ↓e110_129, ↓e110_130, ↓e110_132, ↓e110_135, ↓e110_136, ↓e110_137, ↓e110_139, ↓e110_142, ↓e110_143, ↓e110_144, ↓e110_146, ↓e110_149, ↓e110_150, ↓e110_153, ↓e110_155, ↓e110_158, ↓e110_159, ↓e110_160, ↓e110_162, ↓e110_164, ↓e110_166, ↓e110_168, ↓e110_170, ↓e110_172, ↓e110_174, ↓e110_176, ↓e110_179, ↓e110_180, ↓e110_182, ↓e110_184, ↓e110_186, ↓e110_188, ↓e110_190, ↓e110_192, ↓e110_194, ↓e110_196, ↓e110_198, ↓e110_201, ↓e110_202, ↓e110_204, ↓e110_206, ↓e110_208, ↓e110_210, ↓e110_212, ↓e110_214, ↓e110_216, ↓e110_218, ↓e110_220, ↓e110_223, ↓e110_224, ↓e110_226, ↓e110_228, ↓e110_230, ↓e110_232, ↓e110_234, ↓e110_236, ↓e110_238, ↓e110_240, ↓e110_242, ↓e110_245, ↓e110_246, ↓e110_248, ↓e110_250, ↓e110_252, ↓e110_254, ↓e110_256, ↓e110_258, ↓e110_260, ↓e110_262, ↓e110_264, ↓e110_267, ↓e110_268, ↓e110_270, ↓e110_272, ↓e110_274, ↓e110_276, ↓e110_278, ↓e110_280, ↓e110_282, ↓e110_284, ↓e110_286, ↓e110_289, ↓e110_290, ↓e110_293, ↓e110_294, ↓e110_296, ↓e110_297, ↓e110_298, ↓e110_299, ↓e110_302, bc1_a, bd1, bd2, bd3, bd4, bd5, bd6, bd7, bd8, bd9, bd10, bd11, bd12, bd13, bd14, bd15, bd16, bd17, bd18, bd19, bd20, bd21, bd22, bd23, bd24, bd25, bd26, bd27, bd28, bd29, bd30, bd31, bd32, bd33, bd34, bd35, bd36, bd37, bd38, bd39, bc1_i, bc1_r, bc1_n, bc1_U, bisA_r, bisA_n, bisA_a, bct_i, bct_r, bct_n, bct_l, bcs_0, bcs_i, bcs_r, bcs_l, bcs_a, brt_0, brt_1, ↓bz0, ↓bz1, true_and, and_true, false_and, and_false, and_self, Nat.reduceAdd, Nat.reduceLeDiff, Nat.reduceSub, Nat.reduceEqDiff, ite_true, ite_false, if_true, if_false, a1]
  refine c_spellP32 a1 a2 a3 a4 (by decide) (by decide) (by decide) (by decide) (by decide) (by decide) (by decide) (by decide) w4 (fun B5 f5 w5 => ?_)
  have g5 := g4.trans f5
  obtain ⟨a1, a2, -, a3, a4, -, -⟩ := go B5 g5
  simp only [↓e110_0, ↓e110_1, ↓e110_4, ↓e110_5, ↓e110_8, ↓e110_10, ↓e110_13, ↓e110_14, ↓e110_16, ↓e110_18, ↓e110_21, ↓e110_22, ↓e110_25, ↓e110_27, ↓e110_30, ↓e110_31, ↓e110_32, ↓e110_35, ↓e110_36, ↓e110_38, ↓e110_40, ↓e110_43, ↓e110_44, ↓e110_46, ↓e110_48, ↓e110_51, ↓e110_52, ↓e110_54, ↓e110_56, ↓e110_59, ↓e110_60, ↓e110_62, ↓e110_64, ↓e110_67, ↓e110_68, ↓e110_70, ↓e110_72, ↓e110_75, ↓e110_76, ↓e110_78, ↓e110_80, ↓e110_83, ↓e110_84, ↓e110_86, ↓e110_88, ↓e110_91, ↓e110_92, ↓e110_94, ↓e110_96, ↓e110_99, ↓e110_100, ↓e110_102, ↓e110_104, ↓e110_107, ↓e110_108, ↓e110_110, ↓e110_112, ↓e110_115, ↓e110_116, ↓e110_118, ↓e110_120, ↓e110_123, ↓e110_124, ↓e110_125, ↓e110_128, ↓e110_129, ↓e110_130, ↓e110_132, ↓e110_135, ↓e110_136, ↓e110_137, ↓e110_139, ↓e110_142, ↓e110_143, ↓e110_144, ↓e110_146, ↓e110_149, ↓e110_150, ↓e110_153, ↓e110_155, ↓e110_158, ↓e110_159, ↓e110_160, ↓e110_162, ↓e110_164, ↓e110_166, ↓e110_168, ↓e110_170, ↓e110_172, ↓e110_174, ↓e110_176, ↓e110_179, ↓e110_180, ↓e110_182, ↓e110_184, ↓e110_186, ↓e110_188, ↓e110_190, ↓e110_192, ↓e110_194, ↓e110_196, ↓e110_198, ↓e110_201, ↓e110_202, ↓e110_204, ↓e110_206, ↓e110_208, ↓e110_210, ↓e110_212, ↓e110_214, ↓e110_216, ↓e110_218, ↓e110_220, ↓e110_223, ↓e110_224, ↓e110_226, ↓e110_228, ↓e110_230, ↓e110_232, ↓e110_234, ↓e110_236, ↓e110_238, ↓e110_240, ↓e110_242, ↓e110_245, ↓e110_246, ↓e110_248, ↓e110_250, ↓e110_252, ↓e110_254, ↓e110_256, ↓e110_258, ↓e110_260, ↓e110_262, ↓e110_264, ↓e110_267, ↓e110_268, ↓e110_270, ↓e110_272, ↓e110_274, ↓e110_276, ↓e110_278, ↓e110_280, ↓e110_282, ↓e110_284, ↓e110_286, ↓e110_289, ↓e110_290, ↓e110_293, ↓e110_294, ↓e110_296, ↓e110_297, ↓e110_298, ↓e110_299, ↓e110_302, bc1_a, bd1, bd2, bd3, bd4, bd5, bd6, bd7, bd8, bd9, bd10, bd11, bd12, bd13, bd14, bd15, bd16, bd17, bd18, bd19, bd20, bd21, bd22, bd23, bd24, bd25, bd26, bd27, bd28, bd29, bd30, bd31, bd32, bd33, bd34, bd35, bd36, bd37, bd38, bd39, bc1_i, bc1_r, bc1_n, bc1_U, bisA_r, bisA_n, bisA_a, bct_i, bct_r, bct_n, bct_l, bcs_0, bcs_i, bcs_r, bcs_l, bcs_a, brt_0, brt_1, ↓bz0, ↓bz1, true_and, and_true, false_and, and_false, and_self, Nat.reduceAdd, Nat.reduceLeDiff, Nat.reduceSub, Nat.reduceEqDiff, ite_true, ite_false, if_true, if_false, a1]
  refine c_spellP40 a1 a2 a3 a4 (by decide) (by decide) (by decide) (by decide) (by decide) (by decide) (by decide) (by decide) w5 (fun B6 f6 w6 => ?_)
  have g6 := g5.trans f6
  obtain ⟨a1, a2, a5, a3, a4, a6, a7⟩ := go B6 g6
  simp only [↓e110_0, ↓e110_1, ↓e110_4, ↓e110_5, ↓e110_8, ↓e110_10, ↓e110_13, ↓e110_14, ↓e110_16, ↓e110_18, ↓e110_21, ↓e110_22, ↓e110_25, ↓e110_27, ↓e110_30, ↓e110_31, ↓e110_32, ↓e110_35, ↓e110_36, ↓e110_38, ↓e110_40, ↓e110_43, ↓e110_44, ↓e110_46, ↓e110_48, ↓e110_51, ↓e110_52, ↓e110_54, ↓e110_56, ↓e110_59, ↓e110_60, ↓e110_62, ↓e110_64, ↓e110_67, ↓e110_68, ↓e110_70, ↓e110_72, ↓e110_75, ↓e110_76, ↓e110_78, ↓e110_80, ↓e110_83, ↓e110_84, ↓e110_86, ↓e110_88, ↓e110_91, ↓e110_92, ↓e110_94, ↓e110_96, ↓e110_99, ↓e110_100, ↓e110_102, ↓e110_104, ↓e110_107, ↓e110_108, ↓e110_110, ↓e110_112, ↓e110_115, ↓e110_116, ↓e110_118, ↓e110_120, ↓e110_123, ↓e110_124, ↓e110_125, ↓e110_128, ↓e110_129, ↓e110_130, ↓e110_132, ↓e110_135, ↓e110_136, ↓e110_137, ↓e110_139, ↓e110_142, ↓e110_143, ↓e110_144, ↓e110_146, ↓e110_149, ↓e110_150, ↓e110_153, ↓e110_155, ↓e110_158, ↓e110_159, ↓e110_160, ↓e110_162, ↓e110_164, ↓e110_166, ↓e110_168, ↓e110_170, ↓e110_172, ↓e110_174, ↓e110_176, ↓e110_179, ↓e110_180, ↓e110_182, ↓e110_184, ↓e110_186, ↓e110_188, ↓e110_190, ↓e110_192, ↓e110_194, ↓e110_196, ↓e110_198, ↓e110_201, ↓e110_202, ↓e110_204, ↓e110_206, ↓e110_208, ↓e110_210, ↓e110_212, ↓e110_214, ↓e110_216, ↓e110_218, ↓e110_220, ↓e110_223, ↓e110_224, ↓e110_226, ↓e110_228, ↓e110_230, ↓e110_232, ↓e110_234, ↓e110_236, ↓e110_238, ↓e110_240, ↓e110_242, ↓e110_245, ↓e110_246, ↓e110_248, ↓e110_250, ↓e110_252, ↓e110_254, ↓e110_256, ↓e110_258, ↓e110_260, ↓e110_262, ↓e110_264, ↓e110_267, ↓e110_268, ↓e110_270, ↓e110_272, ↓e110_274, ↓e110_276, ↓e110_278, ↓e110_280, ↓e110_282, ↓e110_284, ↓e110_286, ↓e110_289, ↓e110_290, ↓e110_293, ↓e110_294, ↓e110_296, ↓e110_297, ↓e110_298, ↓e110_299, ↓e110_302, bc1_a, bd1, bd2, bd3, bd4, bd5, bd6, bd7, bd8, bd9, bd10, bd11, bd12, bd13, bd14, bd15, bd16, bd17, bd18, bd19, bd20, bd21, bd22, bd23, bd24, bd25, bd26, bd27, bd28, bd29, bd30, bd31, bd32, bd33, bd34, bd35, bd36, bd37, bd38, bd39, bc1_i, bc1_r, bc1_n, bc1_U, bisA_r, bisA_n, bisA_a, bct_i, bct_r, bct_n, bct_l, bcs_0, bcs_i, bcs_r, bcs_l, bcs_a, brt_0, brt_1, ↓bz0, ↓bz1, true_and, and_true, false_and, and_false, and_self, Nat.reduceAdd, Nat.reduceLeDiff, Nat.reduceSub, Nat.reduceEqDiff, ite_true, ite_false, if_true, if_false, gS_n, gS_r, gS_p, gS_c, gL_n, gL_r, gL_p, gL_c, gN_n, gN_r, gN_p, gN_c, gZ_n, gZ_r, gZ_p, gZ_c, gI_p, gI_r, gI_n, gI_c, gR_p, gR_r, gR_c, gR_n2, ne_eq, not_false_eq_true, not_true_eq_false, ↓reduceIte, Int32.reduceLT, Int32.reduceLE, Int32.reduceAdd, Int32.reduceSub, Int32.reduceMul, Int32.reduceDiv, Int32.reduceToNatClampNeg, Int64.reduceLT, or_true, or_false, true_or, false_or, Nat.reduceLT, a1, a2, a5, a6, a7]
  have fz : Fr (fun o => o = 45 ∨ o = 46 ∨ o = 44) A (pI (pI B6 46 0 48) 44 3 1) := by
    refine Fr.put2 (Fr.put2 (g6.weak (fun o h => Or.inl h)) ?_) ?_
    · exact Or.inr (Or.inl rfl)
    · exact Or.inr (Or.inr rfl)
  refine hq _ ⟨hS.fr fz, ?_, ?_, ?_, ?_, ?_, ?_⟩ ?_ ?_ ?_ ?_
  · intro k h1 h2 h3
    rw [gI_p, if_neg (fun z => h1 z.2), gI_p, if_neg (by omega), g6.2.2 44 (by decide) k, hI, if_neg h3, if_neg h2]
  · rw [gI_p, if_pos ⟨rfl, rfl⟩]
  · rw [gI_p, if_neg (by decide), gI_p, if_neg (by decide), g6.2.2 44 (by decide) 8, hI]; rfl
  · rw [gI_p, if_neg (by decide), gI_p, if_neg (by decide), g6.2.2 44 (by decide) 38, hI]; rfl
  · intro k
    rw [gI_p, if_neg (by omega), gI_p]
    by_cases h : k = 0
    · rw [if_pos ⟨rfl, h⟩, if_pos h]
    · rw [if_neg (fun z => h z.2), if_neg h, g6.2.2 46 (by decide) k]; exact hO 46 k (by decide) (by decide)
  · intro o k h1 h2
    rw [gI_p, if_neg (by omega), gI_p, if_neg (by omega), g6.2.2 o (by omega) k]; exact hO o k (by omega) h2
  · refine hF.trans (fun o ho => ?_)
    refine ⟨fz.hS o, fz.hL o, funext fun k => fz.2.2 o (by omega) k, funext fun k => fz.2.1 o k (by omega)⟩
  · rw [fz.gN2]; exact hN
  · rw [fz.gZ2]; exact hZ
  · intro k
    rw [gI_p, if_neg (by omega), gI_p, if_neg (by omega)]; exact w6 k
end
/-! a text is read from its own bytes alone -/
section
variable {f g : Nat → Int32} {n : Nat}
theorem y_run {P : Int32 → Bool} (h : ∀ k, k < n → f k = g k) : ∀ k p, t_run P f n k p = t_run P g n k p
  | 0, _ => rfl
  | k + 1, p => by
    unfold t_run
    by_cases z : p < n
    · rw [h p z, y_run h k (p + 1)]
    · rw [if_neg (fun y => z y.1), if_neg (fun y => z y.1)]
theorem y_end (h : ∀ k, k < n → f k = g k) (P : Int32 → Bool) (p : Nat) : t_end P f n p = t_end P g n p := y_run h _ _
theorem y_s (h : ∀ k, k < n → f k = g k) (p : Nat) : t_s f n p = t_s g n p := y_end h _ _
theorem y_e (h : ∀ k, k < n → f k = g k) (p : Nat) : t_e f n p = t_e g n p := by
  unfold t_e
  rw [y_s h p]
  by_cases z : n ≤ t_s g n p
  · rw [if_pos z, if_pos z]
  · rw [if_neg z, if_neg z, h (t_s g n p) (by omega), y_end h, y_end h]
theorem y_wl (h : ∀ k, k < n → f k = g k) {s : Nat} {w : List Int32} : ∀ k i, s + i + k ≤ n → t_wl f s w k i = t_wl g s w k i
  | 0, _, _ => rfl
  | k + 1, i, hk => by
    unfold t_wl
    rw [h (s + i) (by omega), y_wl h k (i + 1) (by omega)]
theorem y_word (h : ∀ k, k < n → f k = g k) {s e : Nat} (he : e ≤ n) (hs : s ≤ e) (w : List Int32) : t_word f s e w = t_word g s e w := by
  unfold t_word
  by_cases z : e - s = w.length
  · rw [y_wl h w.length 0 (by omega)]
  · rw [beq_eq_false_iff_ne.mpr z, Bool.false_and, Bool.false_and]
theorem y_wk (h : ∀ k, k < n → f k = g k) {s e : Nat} (he : e ≤ n) (hs : s ≤ e) : t_wk f s e = t_wk g s e := by
  unfold t_wk
  simp only [y_word h he hs]
theorem y_k (h : ∀ k, k < n → f k = g k) (p : Nat) : t_k f n p = t_k g n p := by
  unfold t_k
  rw [y_s h p, y_e h p]
  by_cases z : n ≤ t_s g n p
  · rw [if_pos z, if_pos z]
  · have := t_s_ge (f := g) (n := n) p
    rw [if_neg z, if_neg z, h (t_s g n p) (by omega), y_wk h (t_e_le (by omega)) (t_e_ge p)]
theorem y_num (h : ∀ k, k < n → f k = g k) {s : Nat} : ∀ k, s + k ≤ n → t_num f s k = t_num g s k
  | 0, _ => rfl
  | k + 1, hk => by
    unfold t_num
    rw [y_num h k (by omega), h (s + k) (by omega)]
theorem y_v (h : ∀ k, k < n → f k = g k) (p : Nat) : t_v f n p = t_v g n p := by
  unfold t_v
  rw [y_s h p, y_e h p]
  by_cases z : n ≤ t_s g n p
  · have e : t_e g n p = t_s g n p := by
      unfold t_e
      rw [if_pos z]
    rw [e, Nat.sub_self]
    rfl
  · have h1 := t_s_ge (f := g) (n := n) p
    have h2 := t_e_le (f := g) (n := n) (p := p) (by omega)
    have h3 := t_e_ge (f := g) (n := n) p
    exact y_num h _ (by omega)
theorem y_loop (h : ∀ k, k < n → f k = g k) {sep : Nat → Option Int32} {item : Nat → PR} : ∀ k c p, p_loop f n sep item k c p = p_loop g n sep item k c p
  | 0, _, _ => rfl
  | k + 1, c, p => by
    unfold p_loop
    rw [y_k h p, y_e h p]
    cases sep (t_k g n p) with
    | none => rfl
    | some op =>
      dsimp only
      cases item (t_e g n p) with
      | inr x => rfl
      | inl q => exact y_loop h k _ _
theorem y_ch (h : ∀ k, k < n → f k = g k) (sep : Nat → Option Int32) (item : Nat → PR) : p_ch f n sep item = p_ch g n sep item := by
  funext p
  unfold p_ch
  cases item p with
  | inr x => rfl
  | inl q => exact y_loop h _ _ _
theorem y_one (h : ∀ k, k < n → f k = g k) (r : Nat) (a b : Nat → PR) : p_one f n r a b = p_one g n r a b := by
  have K : t_k f n = t_k g n := funext (y_k h)
  have E : t_e f n = t_e g n := funext (y_e h)
  have S : t_s f n = t_s g n := funext (y_s h)
  have V : t_v f n = t_v g n := funext (y_v h)
  funext p
  unfold p_one
  rw [K, E, S, V]
theorem y_cmp (h : ∀ k, k < n → f k = g k) (one : Nat → PR) : p_cmp f n one = p_cmp g n one := by
  have K : t_k f n = t_k g n := funext (y_k h)
  have E : t_e f n = t_e g n := funext (y_e h)
  funext p
  unfold p_cmp
  rw [y_ch h, y_ch h, K, E]
theorem y_not (h : ∀ k, k < n → f k = g k) (r : Nat) (a b : Nat → PR) : p_not f n r a b = p_not g n r a b := by
  have K : t_k f n = t_k g n := funext (y_k h)
  have E : t_e f n = t_e g n := funext (y_e h)
  have S : t_s f n = t_s g n := funext (y_s h)
  funext p
  unfold p_not
  rw [y_cmp h, K, E, S]
theorem y_or (h : ∀ k, k < n → f k = g k) (a : Nat → PR) : p_or f n a = p_or g n a := by
  unfold p_or
  rw [y_ch h, y_ch h]
theorem y_lv (h : ∀ k, k < n → f k = g k) : ∀ r, p_lv f n r = p_lv g n r
  | 0 => by
    unfold p_lv
    rw [y_one h, y_not h, y_or h]
  | r + 1 => by
    unfold p_lv
    rw [y_lv h r, y_one h, y_not h, y_or h]
theorem y_sent (h : ∀ k, k < n → f k = g k) (k : Nat) : p_sent f n k = p_sent g n k := by
  have K : t_k f n = t_k g n := funext (y_k h)
  have E : t_e f n = t_e g n := funext (y_e h)
  have S : t_s f n = t_s g n := funext (y_s h)
  funext p
  unfold p_sent
  rw [y_lv h, K, E, S]
theorem y_text (h : ∀ k, k < n → f k = g k) : p_text f n = p_text g n := by
  have K : t_k f n = t_k g n := funext (y_k h)
  have S : t_s f n = t_s g n := funext (y_s h)
  unfold p_text
  rw [y_sent h, y_sent h, y_sent h, K, S]
end
/-- tape, texts, rule and image of both go together -/
def RTT (T T' : TS) : Prop := T.1 = T'.1 ∧ (∀ k, k < T.1 → T.2.1 k = T'.2.1 k) ∧ T.2.2 = T'.2.2
theorem RTT.feed {T T' : TS} (h : RTT T T') (x : Int32) : (s_feed T x).1 = (s_feed T' x).1 ∧ RTT (s_feed T x).2 (s_feed T' x).2 := by
  obtain ⟨n, f, R⟩ := T
  obtain ⟨n', f', R'⟩ := T'
  obtain ⟨e1, e2, e3⟩ := id h
  dsimp only at e1 e2 e3
  subst e1 e3
  unfold s_feed
  by_cases a : x < 0
  · rw [if_pos a, if_pos a]; exact ⟨rfl, h⟩
  rw [if_neg a, if_neg a]
  by_cases b : 255 < x
  · rw [if_pos b, if_pos b]; exact ⟨rfl, h⟩
  rw [if_neg b, if_neg b]
  dsimp only
  by_cases c : n = 160
  · rw [if_pos c, if_pos c]; exact ⟨rfl, h⟩
  · rw [if_neg c, if_neg c]
    refine ⟨rfl, rfl, fun k hk => ?_, rfl⟩
    dsimp only at hk ⊢
    by_cases z : k = n
    · rw [if_pos z, if_pos z]
    · rw [if_neg z, if_neg z]; exact e2 k (by omega)
theorem RTT.text {T T' : TS} (h : RTT T T') : (s_text T).1 = (s_text T').1 ∧ RTT (s_text T).2 (s_text T').2 := by
  obtain ⟨n, f, R⟩ := T
  obtain ⟨n', f', R'⟩ := T'
  obtain ⟨e1, e2, e3⟩ := id h
  dsimp only at e1 e2 e3
  subst e1 e3
  have hp := y_text e2
  unfold s_text
  dsimp only
  rw [hp]
  by_cases c : R.1 = 6
  · rw [if_pos c, if_pos c]; exact ⟨rfl, h⟩
  · rw [if_neg c, if_neg c]
    cases p_text f' n with
    | inl x => exact ⟨rfl, rfl, fun k hk => absurd hk (Nat.not_lt_zero k), rfl⟩
    | inr x => exact ⟨rfl, rfl, fun k hk => absurd hk (Nat.not_lt_zero k), rfl⟩
theorem RTT.force {T T' : TS} (h : RTT T T') (t : Int32) : (s_force T t).1 = (s_force T' t).1 ∧ RTT (s_force T t).2 (s_force T' t).2 := by
  obtain ⟨n, f, R⟩ := T
  obtain ⟨n', f', R'⟩ := T'
  obtain ⟨e1, e2, e3⟩ := id h
  dsimp only at e1 e2 e3
  subst e1 e3
  unfold s_force
  by_cases a : t < 0
  · rw [if_pos a, if_pos a]; exact ⟨rfl, h⟩
  rw [if_neg a, if_neg a]
  dsimp only
  by_cases b : t < nI R.1
  · rw [if_pos b, if_pos b]; exact ⟨rfl, rfl, e2, rfl⟩
  · rw [if_neg b, if_neg b]; exact ⟨rfl, h⟩
theorem RTT.image {T T' : TS} (h : RTT T T') : RTT (TI T) (s_image T') := by
  obtain ⟨n, f, R⟩ := T
  obtain ⟨n', f', R'⟩ := T'
  obtain ⟨e1, e2, e3⟩ := h
  dsimp only at e1 e2 e3
  subst e1 e3
  exact ⟨rfl, e2, rfl⟩
theorem RTT.back {T T' : TS} (h : RTT T T') : RTT (TB T) (s_back T') := by
  obtain ⟨n, f, c, r, i⟩ := T
  obtain ⟨n', f', R'⟩ := T'
  obtain ⟨e1, e2, e3⟩ := h
  dsimp only at e1 e2 e3
  subst e1 e3
  cases i with
  | none => exact ⟨rfl, e2, rfl⟩
  | some k => exact ⟨rfl, e2, rfl⟩
/-- what holds of both between calls -/
def JJ (M : mm_H) : Prop := ∃ T T', CI T M ∧ MI T' M ∧ RTT T T'
theorem JJ.q {M : mm_H} (h : JJ M) : Q1 (some (.int 1)) M := by
  obtain ⟨T, T', ⟨hC, ⟨tx, hTT⟩, hc1, -, -, -, -, -, ⟨yN, yZ⟩, -⟩, -, -⟩ := h
  have := hTT.2.1
  exact ⟨rfl, by omega, by omega⟩
section
variable {L : Nat} {xs : Nat → Int32} {M : mm_H}
theorem l_op0 {i : Nat} (hJ : JJ M) (hi : i + 5 < L) (hL : L ≤ 3072) (hn : ∀ M1, JJ M1 → Wp L xs 1000 224 987 [.retAddr 200, .ref 0, .ref 44, .int (nI i)] [] M1 Q1) : Wp L xs 1000 224 156 [.retAddr 200, .ref 0, .ref 44, .int (nI i)] [] M Q1 := by
  obtain ⟨T, T', hC, hM, hR⟩ := hJ
  have c0 := hC.1.1.1
  have ad : ∀ m : Nat, m < 6 → (0 ≤ nI (i + m) ∧ (nI (i + m)).toNatClampNeg = i + m ∧ i + m < L) := fun m hm => ⟨nI_pos' (by omega), nI_clamp (by omega), by omega⟩
  have a1 : nI i + 1 = nI (i + 1) := nI_add i 1
  obtain ⟨g1, p1, l1⟩ := ad 1 (by decide)
  have a2 : nI i + 2 = nI (i + 2) := nI_add i 2
  obtain ⟨g2, p2, l2⟩ := ad 2 (by decide)
  have a3 : nI i + 3 = nI (i + 3) := nI_add i 3
  obtain ⟨g3, p3, l3⟩ := ad 3 (by decide)
  have a4 : nI i + 4 = nI (i + 4) := nI_add i 4
  obtain ⟨g4, p4, l4⟩ := ad 4 (by decide)
  have a5 : nI i + 5 = nI (i + 5) := nI_add i 5
  obtain ⟨g5, p5, l5⟩ := ad 5 (by decide)
  simp only [↓e224_156, ↓e224_157, ↓e224_158, ↓e224_159, ↓e224_160, ↓e224_161, ↓e224_162, ↓e224_163, ↓e224_164, ↓e224_165, ↓e224_166, ↓e224_167, ↓e224_168, ↓e224_169, ↓e224_170, ↓e224_171, ↓e224_172, ↓e224_175, ↓e224_176, ↓e224_177, ↓e224_178, ↓e224_179, ↓e224_180, ↓e224_181, ↓e224_182, ↓e224_183, ↓e224_184, ↓e224_185, ↓e224_186, ↓e224_187, ↓e224_188, ↓e224_189, ↓e224_190, ↓e224_191, ↓e224_192, ↓e224_195, ↓e224_196, bc1_a, bd1, bd2, bd3, bd4, bd5, bd6, bd7, bd8, bd9, bd10, bd11, bd12, bd13, bd14, bd15, bd16, bd17, bd18, bd19, bd20, bd21, bd22, bd23, bd24, bd25, bd26, bd27, bd28, bd29, bd30, bd31, bd32, bd33, bd34, bd35, bd36, bd37, bd38, bd39, bc1_i, bc1_r, bc1_n, bc1_U, bisA_r, bisA_n, bisA_a, bct_i, bct_r, bct_n, bct_l, bcs_0, bcs_i, bcs_r, bcs_l, bcs_a, brt_0, brt_1, ↓bz0, ↓bz1, true_and, and_true, false_and, and_false, and_self, Nat.reduceAdd, Nat.reduceLeDiff, Nat.reduceSub, Nat.reduceEqDiff, ite_true, ite_false, if_true, if_false, ↓reduceIte, Int32.reduceLT, Int32.reduceLE, Int32.reduceAdd, Int32.reduceSub, Int32.reduceMul, Int32.reduceDiv, Int32.reduceToNatClampNeg, Int64.reduceLT, or_true, or_false, true_or, false_or, Nat.reduceLT, c0, a1, a2, a3, a4, a5, g1, g2, g3, g4, g5, p1, p2, p3, p4, p5, l1, l2, l3, l4, l5]
  refine k_set (d := 938) hC (fun M1 r1 k1 => ?_)
  have F1 := hM.kc k1.2
  have m0 := F1.1.1.1
  simp only [↓e224_156, ↓e224_157, ↓e224_158, ↓e224_159, ↓e224_160, ↓e224_161, ↓e224_162, ↓e224_163, ↓e224_164, ↓e224_165, ↓e224_166, ↓e224_167, ↓e224_168, ↓e224_169, ↓e224_170, ↓e224_171, ↓e224_172, ↓e224_175, ↓e224_176, ↓e224_177, ↓e224_178, ↓e224_179, ↓e224_180, ↓e224_181, ↓e224_182, ↓e224_183, ↓e224_184, ↓e224_185, ↓e224_186, ↓e224_187, ↓e224_188, ↓e224_189, ↓e224_190, ↓e224_191, ↓e224_192, ↓e224_195, ↓e224_196, bc1_a, bd1, bd2, bd3, bd4, bd5, bd6, bd7, bd8, bd9, bd10, bd11, bd12, bd13, bd14, bd15, bd16, bd17, bd18, bd19, bd20, bd21, bd22, bd23, bd24, bd25, bd26, bd27, bd28, bd29, bd30, bd31, bd32, bd33, bd34, bd35, bd36, bd37, bd38, bd39, bc1_i, bc1_r, bc1_n, bc1_U, bisA_r, bisA_n, bisA_a, bct_i, bct_r, bct_n, bct_l, bcs_0, bcs_i, bcs_r, bcs_l, bcs_a, brt_0, brt_1, ↓bz0, ↓bz1, true_and, and_true, false_and, and_false, and_self, Nat.reduceAdd, Nat.reduceLeDiff, Nat.reduceSub, Nat.reduceEqDiff, ite_true, ite_false, if_true, if_false, ↓reduceIte, Int32.reduceLT, Int32.reduceLE, Int32.reduceAdd, Int32.reduceSub, Int32.reduceMul, Int32.reduceDiv, Int32.reduceToNatClampNeg, Int64.reduceLT, or_true, or_false, true_or, false_or, Nat.reduceLT, m0, a1, a2, a3, a4, a5, g1, g2, g3, g4, g5, p1, p2, p3, p4, p5, l1, l2, l3, l4, l5]
  refine g_set (d := 939) F1 (fun M2 r2 k2 => ?_)
  have hh := hn M2 ⟨_, _, k1.1.km k2.2, k2.1, hR⟩
  simp only [↓e224_156, ↓e224_157, ↓e224_158, ↓e224_159, ↓e224_160, ↓e224_161, ↓e224_162, ↓e224_163, ↓e224_164, ↓e224_165, ↓e224_166, ↓e224_167, ↓e224_168, ↓e224_169, ↓e224_170, ↓e224_171, ↓e224_172, ↓e224_175, ↓e224_176, ↓e224_177, ↓e224_178, ↓e224_179, ↓e224_180, ↓e224_181, ↓e224_182, ↓e224_183, ↓e224_184, ↓e224_185, ↓e224_186, ↓e224_187, ↓e224_188, ↓e224_189, ↓e224_190, ↓e224_191, ↓e224_192, ↓e224_195, ↓e224_196, bc1_a, bd1, bd2, bd3, bd4, bd5, bd6, bd7, bd8, bd9, bd10, bd11, bd12, bd13, bd14, bd15, bd16, bd17, bd18, bd19, bd20, bd21, bd22, bd23, bd24, bd25, bd26, bd27, bd28, bd29, bd30, bd31, bd32, bd33, bd34, bd35, bd36, bd37, bd38, bd39, bc1_i, bc1_r, bc1_n, bc1_U, bisA_r, bisA_n, bisA_a, bct_i, bct_r, bct_n, bct_l, bcs_0, bcs_i, bcs_r, bcs_l, bcs_a, brt_0, brt_1, ↓bz0, ↓bz1, true_and, and_true, false_and, and_false, and_self, Nat.reduceAdd, Nat.reduceLeDiff, Nat.reduceSub, Nat.reduceEqDiff, ite_true, ite_false, if_true, if_false, ↓reduceIte, Int32.reduceLT, Int32.reduceLE, Int32.reduceAdd, Int32.reduceSub, Int32.reduceMul, Int32.reduceDiv, Int32.reduceToNatClampNeg, Int64.reduceLT, or_true, or_false, true_or, false_or, Nat.reduceLT, eq_self]
  exact hh
theorem l_op1 {i : Nat} (hJ : JJ M) (hi : i + 5 < L) (hL : L ≤ 3072) (hn : ∀ M1, JJ M1 → Wp L xs 1000 224 987 [.retAddr 200, .ref 0, .ref 44, .int (nI i)] [] M1 Q1) : Wp L xs 1000 224 199 [.retAddr 200, .ref 0, .ref 44, .int (nI i)] [] M Q1 := by
  obtain ⟨T, T', hC, hM, hR⟩ := hJ
  have c0 := hC.1.1.1
  have ad : ∀ m : Nat, m < 6 → (0 ≤ nI (i + m) ∧ (nI (i + m)).toNatClampNeg = i + m ∧ i + m < L) := fun m hm => ⟨nI_pos' (by omega), nI_clamp (by omega), by omega⟩
  have a1 : nI i + 1 = nI (i + 1) := nI_add i 1
  obtain ⟨g1, p1, l1⟩ := ad 1 (by decide)
  have a2 : nI i + 2 = nI (i + 2) := nI_add i 2
  obtain ⟨g2, p2, l2⟩ := ad 2 (by decide)
  have a3 : nI i + 3 = nI (i + 3) := nI_add i 3
  obtain ⟨g3, p3, l3⟩ := ad 3 (by decide)
  have a4 : nI i + 4 = nI (i + 4) := nI_add i 4
  obtain ⟨g4, p4, l4⟩ := ad 4 (by decide)
  have a5 : nI i + 5 = nI (i + 5) := nI_add i 5
  obtain ⟨g5, p5, l5⟩ := ad 5 (by decide)
  simp only [↓e224_199, ↓e224_200, ↓e224_201, ↓e224_202, ↓e224_203, ↓e224_204, ↓e224_205, ↓e224_206, ↓e224_207, ↓e224_208, ↓e224_209, ↓e224_210, ↓e224_213, ↓e224_214, ↓e224_215, ↓e224_216, ↓e224_217, ↓e224_218, ↓e224_219, ↓e224_220, ↓e224_221, ↓e224_222, ↓e224_223, ↓e224_224, ↓e224_225, ↓e224_228, ↓e224_229, bc1_a, bd1, bd2, bd3, bd4, bd5, bd6, bd7, bd8, bd9, bd10, bd11, bd12, bd13, bd14, bd15, bd16, bd17, bd18, bd19, bd20, bd21, bd22, bd23, bd24, bd25, bd26, bd27, bd28, bd29, bd30, bd31, bd32, bd33, bd34, bd35, bd36, bd37, bd38, bd39, bc1_i, bc1_r, bc1_n, bc1_U, bisA_r, bisA_n, bisA_a, bct_i, bct_r, bct_n, bct_l, bcs_0, bcs_i, bcs_r, bcs_l, bcs_a, brt_0, brt_1, ↓bz0, ↓bz1, true_and, and_true, false_and, and_false, and_self, Nat.reduceAdd, Nat.reduceLeDiff, Nat.reduceSub, Nat.reduceEqDiff, ite_true, ite_false, if_true, if_false, ↓reduceIte, Int32.reduceLT, Int32.reduceLE, Int32.reduceAdd, Int32.reduceSub, Int32.reduceMul, Int32.reduceDiv, Int32.reduceToNatClampNeg, Int64.reduceLT, or_true, or_false, true_or, false_or, Nat.reduceLT, c0, a1, a2, a3, a4, a5, g1, g2, g3, g4, g5, p1, p2, p3, p4, p5, l1, l2, l3, l4, l5]
  refine k_person (d := 938) hC (fun M1 r1 k1 => ?_)
  have F1 := hM.kc k1.2
  have m0 := F1.1.1.1
  simp only [↓e224_199, ↓e224_200, ↓e224_201, ↓e224_202, ↓e224_203, ↓e224_204, ↓e224_205, ↓e224_206, ↓e224_207, ↓e224_208, ↓e224_209, ↓e224_210, ↓e224_213, ↓e224_214, ↓e224_215, ↓e224_216, ↓e224_217, ↓e224_218, ↓e224_219, ↓e224_220, ↓e224_221, ↓e224_222, ↓e224_223, ↓e224_224, ↓e224_225, ↓e224_228, ↓e224_229, bc1_a, bd1, bd2, bd3, bd4, bd5, bd6, bd7, bd8, bd9, bd10, bd11, bd12, bd13, bd14, bd15, bd16, bd17, bd18, bd19, bd20, bd21, bd22, bd23, bd24, bd25, bd26, bd27, bd28, bd29, bd30, bd31, bd32, bd33, bd34, bd35, bd36, bd37, bd38, bd39, bc1_i, bc1_r, bc1_n, bc1_U, bisA_r, bisA_n, bisA_a, bct_i, bct_r, bct_n, bct_l, bcs_0, bcs_i, bcs_r, bcs_l, bcs_a, brt_0, brt_1, ↓bz0, ↓bz1, true_and, and_true, false_and, and_false, and_self, Nat.reduceAdd, Nat.reduceLeDiff, Nat.reduceSub, Nat.reduceEqDiff, ite_true, ite_false, if_true, if_false, ↓reduceIte, Int32.reduceLT, Int32.reduceLE, Int32.reduceAdd, Int32.reduceSub, Int32.reduceMul, Int32.reduceDiv, Int32.reduceToNatClampNeg, Int64.reduceLT, or_true, or_false, true_or, false_or, Nat.reduceLT, m0, a1, a2, a3, a4, a5, g1, g2, g3, g4, g5, p1, p2, p3, p4, p5, l1, l2, l3, l4, l5]
  refine g_person (d := 998) F1 (fun M2 r2 k2 => ?_)
  have hh := hn M2 ⟨_, _, k1.1.km k2.2, k2.1, hR⟩
  simp only [↓e224_199, ↓e224_200, ↓e224_201, ↓e224_202, ↓e224_203, ↓e224_204, ↓e224_205, ↓e224_206, ↓e224_207, ↓e224_208, ↓e224_209, ↓e224_210, ↓e224_213, ↓e224_214, ↓e224_215, ↓e224_216, ↓e224_217, ↓e224_218, ↓e224_219, ↓e224_220, ↓e224_221, ↓e224_222, ↓e224_223, ↓e224_224, ↓e224_225, ↓e224_228, ↓e224_229, bc1_a, bd1, bd2, bd3, bd4, bd5, bd6, bd7, bd8, bd9, bd10, bd11, bd12, bd13, bd14, bd15, bd16, bd17, bd18, bd19, bd20, bd21, bd22, bd23, bd24, bd25, bd26, bd27, bd28, bd29, bd30, bd31, bd32, bd33, bd34, bd35, bd36, bd37, bd38, bd39, bc1_i, bc1_r, bc1_n, bc1_U, bisA_r, bisA_n, bisA_a, bct_i, bct_r, bct_n, bct_l, bcs_0, bcs_i, bcs_r, bcs_l, bcs_a, brt_0, brt_1, ↓bz0, ↓bz1, true_and, and_true, false_and, and_false, and_self, Nat.reduceAdd, Nat.reduceLeDiff, Nat.reduceSub, Nat.reduceEqDiff, ite_true, ite_false, if_true, if_false, ↓reduceIte, Int32.reduceLT, Int32.reduceLE, Int32.reduceAdd, Int32.reduceSub, Int32.reduceMul, Int32.reduceDiv, Int32.reduceToNatClampNeg, Int64.reduceLT, or_true, or_false, true_or, false_or, Nat.reduceLT, eq_self]
  exact hh
theorem l_op2 {i : Nat} (hJ : JJ M) (hi : i + 5 < L) (hL : L ≤ 3072) (hn : ∀ M1, JJ M1 → Wp L xs 1000 224 987 [.retAddr 200, .ref 0, .ref 44, .int (nI i)] [] M1 Q1) : Wp L xs 1000 224 232 [.retAddr 200, .ref 0, .ref 44, .int (nI i)] [] M Q1 := by
  obtain ⟨T, T', hC, hM, hR⟩ := hJ
  have c0 := hC.1.1.1
  have ad : ∀ m : Nat, m < 6 → (0 ≤ nI (i + m) ∧ (nI (i + m)).toNatClampNeg = i + m ∧ i + m < L) := fun m hm => ⟨nI_pos' (by omega), nI_clamp (by omega), by omega⟩
  have a1 : nI i + 1 = nI (i + 1) := nI_add i 1
  obtain ⟨g1, p1, l1⟩ := ad 1 (by decide)
  have a2 : nI i + 2 = nI (i + 2) := nI_add i 2
  obtain ⟨g2, p2, l2⟩ := ad 2 (by decide)
  have a3 : nI i + 3 = nI (i + 3) := nI_add i 3
  obtain ⟨g3, p3, l3⟩ := ad 3 (by decide)
  have a4 : nI i + 4 = nI (i + 4) := nI_add i 4
  obtain ⟨g4, p4, l4⟩ := ad 4 (by decide)
  have a5 : nI i + 5 = nI (i + 5) := nI_add i 5
  obtain ⟨g5, p5, l5⟩ := ad 5 (by decide)
  simp only [↓e224_232, ↓e224_233, ↓e224_234, ↓e224_235, ↓e224_236, ↓e224_237, ↓e224_238, ↓e224_239, ↓e224_240, ↓e224_241, ↓e224_242, ↓e224_243, ↓e224_244, ↓e224_245, ↓e224_246, ↓e224_247, ↓e224_248, ↓e224_251, ↓e224_252, ↓e224_253, ↓e224_254, ↓e224_255, ↓e224_256, ↓e224_257, ↓e224_258, ↓e224_259, ↓e224_260, ↓e224_261, ↓e224_262, ↓e224_263, ↓e224_264, ↓e224_265, ↓e224_266, ↓e224_267, ↓e224_268, ↓e224_271, ↓e224_272, bc1_a, bd1, bd2, bd3, bd4, bd5, bd6, bd7, bd8, bd9, bd10, bd11, bd12, bd13, bd14, bd15, bd16, bd17, bd18, bd19, bd20, bd21, bd22, bd23, bd24, bd25, bd26, bd27, bd28, bd29, bd30, bd31, bd32, bd33, bd34, bd35, bd36, bd37, bd38, bd39, bc1_i, bc1_r, bc1_n, bc1_U, bisA_r, bisA_n, bisA_a, bct_i, bct_r, bct_n, bct_l, bcs_0, bcs_i, bcs_r, bcs_l, bcs_a, brt_0, brt_1, ↓bz0, ↓bz1, true_and, and_true, false_and, and_false, and_self, Nat.reduceAdd, Nat.reduceLeDiff, Nat.reduceSub, Nat.reduceEqDiff, ite_true, ite_false, if_true, if_false, ↓reduceIte, Int32.reduceLT, Int32.reduceLE, Int32.reduceAdd, Int32.reduceSub, Int32.reduceMul, Int32.reduceDiv, Int32.reduceToNatClampNeg, Int64.reduceLT, or_true, or_false, true_or, false_or, Nat.reduceLT, c0, a1, a2, a3, a4, a5, g1, g2, g3, g4, g5, p1, p2, p3, p4, p5, l1, l2, l3, l4, l5]
  refine k_seam (d := 938) hC (fun M1 r1 k1 => ?_)
  have F1 := hM.kc k1.2
  have m0 := F1.1.1.1
  simp only [↓e224_232, ↓e224_233, ↓e224_234, ↓e224_235, ↓e224_236, ↓e224_237, ↓e224_238, ↓e224_239, ↓e224_240, ↓e224_241, ↓e224_242, ↓e224_243, ↓e224_244, ↓e224_245, ↓e224_246, ↓e224_247, ↓e224_248, ↓e224_251, ↓e224_252, ↓e224_253, ↓e224_254, ↓e224_255, ↓e224_256, ↓e224_257, ↓e224_258, ↓e224_259, ↓e224_260, ↓e224_261, ↓e224_262, ↓e224_263, ↓e224_264, ↓e224_265, ↓e224_266, ↓e224_267, ↓e224_268, ↓e224_271, ↓e224_272, bc1_a, bd1, bd2, bd3, bd4, bd5, bd6, bd7, bd8, bd9, bd10, bd11, bd12, bd13, bd14, bd15, bd16, bd17, bd18, bd19, bd20, bd21, bd22, bd23, bd24, bd25, bd26, bd27, bd28, bd29, bd30, bd31, bd32, bd33, bd34, bd35, bd36, bd37, bd38, bd39, bc1_i, bc1_r, bc1_n, bc1_U, bisA_r, bisA_n, bisA_a, bct_i, bct_r, bct_n, bct_l, bcs_0, bcs_i, bcs_r, bcs_l, bcs_a, brt_0, brt_1, ↓bz0, ↓bz1, true_and, and_true, false_and, and_false, and_self, Nat.reduceAdd, Nat.reduceLeDiff, Nat.reduceSub, Nat.reduceEqDiff, ite_true, ite_false, if_true, if_false, ↓reduceIte, Int32.reduceLT, Int32.reduceLE, Int32.reduceAdd, Int32.reduceSub, Int32.reduceMul, Int32.reduceDiv, Int32.reduceToNatClampNeg, Int64.reduceLT, or_true, or_false, true_or, false_or, Nat.reduceLT, m0, a1, a2, a3, a4, a5, g1, g2, g3, g4, g5, p1, p2, p3, p4, p5, l1, l2, l3, l4, l5]
  refine g_seam (d := 939) F1 (fun M2 r2 k2 => ?_)
  have hh := hn M2 ⟨_, _, k1.1.km k2.2, k2.1, hR⟩
  simp only [↓e224_232, ↓e224_233, ↓e224_234, ↓e224_235, ↓e224_236, ↓e224_237, ↓e224_238, ↓e224_239, ↓e224_240, ↓e224_241, ↓e224_242, ↓e224_243, ↓e224_244, ↓e224_245, ↓e224_246, ↓e224_247, ↓e224_248, ↓e224_251, ↓e224_252, ↓e224_253, ↓e224_254, ↓e224_255, ↓e224_256, ↓e224_257, ↓e224_258, ↓e224_259, ↓e224_260, ↓e224_261, ↓e224_262, ↓e224_263, ↓e224_264, ↓e224_265, ↓e224_266, ↓e224_267, ↓e224_268, ↓e224_271, ↓e224_272, bc1_a, bd1, bd2, bd3, bd4, bd5, bd6, bd7, bd8, bd9, bd10, bd11, bd12, bd13, bd14, bd15, bd16, bd17, bd18, bd19, bd20, bd21, bd22, bd23, bd24, bd25, bd26, bd27, bd28, bd29, bd30, bd31, bd32, bd33, bd34, bd35, bd36, bd37, bd38, bd39, bc1_i, bc1_r, bc1_n, bc1_U, bisA_r, bisA_n, bisA_a, bct_i, bct_r, bct_n, bct_l, bcs_0, bcs_i, bcs_r, bcs_l, bcs_a, brt_0, brt_1, ↓bz0, ↓bz1, true_and, and_true, false_and, and_false, and_self, Nat.reduceAdd, Nat.reduceLeDiff, Nat.reduceSub, Nat.reduceEqDiff, ite_true, ite_false, if_true, if_false, ↓reduceIte, Int32.reduceLT, Int32.reduceLE, Int32.reduceAdd, Int32.reduceSub, Int32.reduceMul, Int32.reduceDiv, Int32.reduceToNatClampNeg, Int64.reduceLT, or_true, or_false, true_or, false_or, Nat.reduceLT, eq_self]
  exact hh
theorem l_op3 {i : Nat} (hJ : JJ M) (hi : i + 5 < L) (hL : L ≤ 3072) (hn : ∀ M1, JJ M1 → Wp L xs 1000 224 987 [.retAddr 200, .ref 0, .ref 44, .int (nI i)] [] M1 Q1) : Wp L xs 1000 224 275 [.retAddr 200, .ref 0, .ref 44, .int (nI i)] [] M Q1 := by
  obtain ⟨T, T', hC, hM, hR⟩ := hJ
  have c0 := hC.1.1.1
  have ad : ∀ m : Nat, m < 6 → (0 ≤ nI (i + m) ∧ (nI (i + m)).toNatClampNeg = i + m ∧ i + m < L) := fun m hm => ⟨nI_pos' (by omega), nI_clamp (by omega), by omega⟩
  have a1 : nI i + 1 = nI (i + 1) := nI_add i 1
  obtain ⟨g1, p1, l1⟩ := ad 1 (by decide)
  have a2 : nI i + 2 = nI (i + 2) := nI_add i 2
  obtain ⟨g2, p2, l2⟩ := ad 2 (by decide)
  have a3 : nI i + 3 = nI (i + 3) := nI_add i 3
  obtain ⟨g3, p3, l3⟩ := ad 3 (by decide)
  have a4 : nI i + 4 = nI (i + 4) := nI_add i 4
  obtain ⟨g4, p4, l4⟩ := ad 4 (by decide)
  have a5 : nI i + 5 = nI (i + 5) := nI_add i 5
  obtain ⟨g5, p5, l5⟩ := ad 5 (by decide)
  simp only [↓e224_275, ↓e224_276, ↓e224_277, ↓e224_278, ↓e224_279, ↓e224_280, ↓e224_281, ↓e224_282, ↓e224_283, ↓e224_284, ↓e224_285, ↓e224_286, ↓e224_289, ↓e224_290, ↓e224_291, ↓e224_292, ↓e224_293, ↓e224_294, ↓e224_295, ↓e224_296, ↓e224_297, ↓e224_298, ↓e224_299, ↓e224_300, ↓e224_301, ↓e224_304, ↓e224_305, bc1_a, bd1, bd2, bd3, bd4, bd5, bd6, bd7, bd8, bd9, bd10, bd11, bd12, bd13, bd14, bd15, bd16, bd17, bd18, bd19, bd20, bd21, bd22, bd23, bd24, bd25, bd26, bd27, bd28, bd29, bd30, bd31, bd32, bd33, bd34, bd35, bd36, bd37, bd38, bd39, bc1_i, bc1_r, bc1_n, bc1_U, bisA_r, bisA_n, bisA_a, bct_i, bct_r, bct_n, bct_l, bcs_0, bcs_i, bcs_r, bcs_l, bcs_a, brt_0, brt_1, ↓bz0, ↓bz1, true_and, and_true, false_and, and_false, and_self, Nat.reduceAdd, Nat.reduceLeDiff, Nat.reduceSub, Nat.reduceEqDiff, ite_true, ite_false, if_true, if_false, ↓reduceIte, Int32.reduceLT, Int32.reduceLE, Int32.reduceAdd, Int32.reduceSub, Int32.reduceMul, Int32.reduceDiv, Int32.reduceToNatClampNeg, Int64.reduceLT, or_true, or_false, true_or, false_or, Nat.reduceLT, c0, a1, a2, a3, a4, a5, g1, g2, g3, g4, g5, p1, p2, p3, p4, p5, l1, l2, l3, l4, l5]
  refine k_told (d := 938) hC (fun M1 r1 k1 => ?_)
  have F1 := hM.kc k1.2
  have m0 := F1.1.1.1
  simp only [↓e224_275, ↓e224_276, ↓e224_277, ↓e224_278, ↓e224_279, ↓e224_280, ↓e224_281, ↓e224_282, ↓e224_283, ↓e224_284, ↓e224_285, ↓e224_286, ↓e224_289, ↓e224_290, ↓e224_291, ↓e224_292, ↓e224_293, ↓e224_294, ↓e224_295, ↓e224_296, ↓e224_297, ↓e224_298, ↓e224_299, ↓e224_300, ↓e224_301, ↓e224_304, ↓e224_305, bc1_a, bd1, bd2, bd3, bd4, bd5, bd6, bd7, bd8, bd9, bd10, bd11, bd12, bd13, bd14, bd15, bd16, bd17, bd18, bd19, bd20, bd21, bd22, bd23, bd24, bd25, bd26, bd27, bd28, bd29, bd30, bd31, bd32, bd33, bd34, bd35, bd36, bd37, bd38, bd39, bc1_i, bc1_r, bc1_n, bc1_U, bisA_r, bisA_n, bisA_a, bct_i, bct_r, bct_n, bct_l, bcs_0, bcs_i, bcs_r, bcs_l, bcs_a, brt_0, brt_1, ↓bz0, ↓bz1, true_and, and_true, false_and, and_false, and_self, Nat.reduceAdd, Nat.reduceLeDiff, Nat.reduceSub, Nat.reduceEqDiff, ite_true, ite_false, if_true, if_false, ↓reduceIte, Int32.reduceLT, Int32.reduceLE, Int32.reduceAdd, Int32.reduceSub, Int32.reduceMul, Int32.reduceDiv, Int32.reduceToNatClampNeg, Int64.reduceLT, or_true, or_false, true_or, false_or, Nat.reduceLT, m0, a1, a2, a3, a4, a5, g1, g2, g3, g4, g5, p1, p2, p3, p4, p5, l1, l2, l3, l4, l5]
  refine g_told (d := 939) F1 (fun M2 r2 k2 => ?_)
  have hh := hn M2 ⟨_, _, k1.1.km k2.2, k2.1, hR⟩
  simp only [↓e224_275, ↓e224_276, ↓e224_277, ↓e224_278, ↓e224_279, ↓e224_280, ↓e224_281, ↓e224_282, ↓e224_283, ↓e224_284, ↓e224_285, ↓e224_286, ↓e224_289, ↓e224_290, ↓e224_291, ↓e224_292, ↓e224_293, ↓e224_294, ↓e224_295, ↓e224_296, ↓e224_297, ↓e224_298, ↓e224_299, ↓e224_300, ↓e224_301, ↓e224_304, ↓e224_305, bc1_a, bd1, bd2, bd3, bd4, bd5, bd6, bd7, bd8, bd9, bd10, bd11, bd12, bd13, bd14, bd15, bd16, bd17, bd18, bd19, bd20, bd21, bd22, bd23, bd24, bd25, bd26, bd27, bd28, bd29, bd30, bd31, bd32, bd33, bd34, bd35, bd36, bd37, bd38, bd39, bc1_i, bc1_r, bc1_n, bc1_U, bisA_r, bisA_n, bisA_a, bct_i, bct_r, bct_n, bct_l, bcs_0, bcs_i, bcs_r, bcs_l, bcs_a, brt_0, brt_1, ↓bz0, ↓bz1, true_and, and_true, false_and, and_false, and_self, Nat.reduceAdd, Nat.reduceLeDiff, Nat.reduceSub, Nat.reduceEqDiff, ite_true, ite_false, if_true, if_false, ↓reduceIte, Int32.reduceLT, Int32.reduceLE, Int32.reduceAdd, Int32.reduceSub, Int32.reduceMul, Int32.reduceDiv, Int32.reduceToNatClampNeg, Int64.reduceLT, or_true, or_false, true_or, false_or, Nat.reduceLT, eq_self]
  exact hh
theorem l_op4 {i : Nat} (hJ : JJ M) (hi : i + 5 < L) (hL : L ≤ 3072) (hn : ∀ M1, JJ M1 → Wp L xs 1000 224 987 [.retAddr 200, .ref 0, .ref 44, .int (nI i)] [] M1 Q1) : Wp L xs 1000 224 308 [.retAddr 200, .ref 0, .ref 44, .int (nI i)] [] M Q1 := by
  obtain ⟨T, T', hC, hM, hR⟩ := hJ
  have c0 := hC.1.1.1
  have ad : ∀ m : Nat, m < 6 → (0 ≤ nI (i + m) ∧ (nI (i + m)).toNatClampNeg = i + m ∧ i + m < L) := fun m hm => ⟨nI_pos' (by omega), nI_clamp (by omega), by omega⟩
  have a1 : nI i + 1 = nI (i + 1) := nI_add i 1
  obtain ⟨g1, p1, l1⟩ := ad 1 (by decide)
  have a2 : nI i + 2 = nI (i + 2) := nI_add i 2
  obtain ⟨g2, p2, l2⟩ := ad 2 (by decide)
  have a3 : nI i + 3 = nI (i + 3) := nI_add i 3
  obtain ⟨g3, p3, l3⟩ := ad 3 (by decide)
  have a4 : nI i + 4 = nI (i + 4) := nI_add i 4
  obtain ⟨g4, p4, l4⟩ := ad 4 (by decide)
  have a5 : nI i + 5 = nI (i + 5) := nI_add i 5
  obtain ⟨g5, p5, l5⟩ := ad 5 (by decide)
  simp only [↓e224_308, ↓e224_309, ↓e224_310, ↓e224_311, ↓e224_312, ↓e224_313, ↓e224_314, ↓e224_317, ↓e224_318, ↓e224_319, ↓e224_320, ↓e224_321, ↓e224_322, ↓e224_323, ↓e224_324, ↓e224_327, ↓e224_328, bc1_a, bd1, bd2, bd3, bd4, bd5, bd6, bd7, bd8, bd9, bd10, bd11, bd12, bd13, bd14, bd15, bd16, bd17, bd18, bd19, bd20, bd21, bd22, bd23, bd24, bd25, bd26, bd27, bd28, bd29, bd30, bd31, bd32, bd33, bd34, bd35, bd36, bd37, bd38, bd39, bc1_i, bc1_r, bc1_n, bc1_U, bisA_r, bisA_n, bisA_a, bct_i, bct_r, bct_n, bct_l, bcs_0, bcs_i, bcs_r, bcs_l, bcs_a, brt_0, brt_1, ↓bz0, ↓bz1, true_and, and_true, false_and, and_false, and_self, Nat.reduceAdd, Nat.reduceLeDiff, Nat.reduceSub, Nat.reduceEqDiff, ite_true, ite_false, if_true, if_false, ↓reduceIte, Int32.reduceLT, Int32.reduceLE, Int32.reduceAdd, Int32.reduceSub, Int32.reduceMul, Int32.reduceDiv, Int32.reduceToNatClampNeg, Int64.reduceLT, or_true, or_false, true_or, false_or, Nat.reduceLT, c0, a1, a2, a3, a4, a5, g1, g2, g3, g4, g5, p1, p2, p3, p4, p5, l1, l2, l3, l4, l5]
  refine k_feed (d := 938) hC (fun M1 k1 => ?_)
  have F1 := hM.kc k1.2
  have m0 := F1.1.1.1
  simp only [↓e224_308, ↓e224_309, ↓e224_310, ↓e224_311, ↓e224_312, ↓e224_313, ↓e224_314, ↓e224_317, ↓e224_318, ↓e224_319, ↓e224_320, ↓e224_321, ↓e224_322, ↓e224_323, ↓e224_324, ↓e224_327, ↓e224_328, bc1_a, bd1, bd2, bd3, bd4, bd5, bd6, bd7, bd8, bd9, bd10, bd11, bd12, bd13, bd14, bd15, bd16, bd17, bd18, bd19, bd20, bd21, bd22, bd23, bd24, bd25, bd26, bd27, bd28, bd29, bd30, bd31, bd32, bd33, bd34, bd35, bd36, bd37, bd38, bd39, bc1_i, bc1_r, bc1_n, bc1_U, bisA_r, bisA_n, bisA_a, bct_i, bct_r, bct_n, bct_l, bcs_0, bcs_i, bcs_r, bcs_l, bcs_a, brt_0, brt_1, ↓bz0, ↓bz1, true_and, and_true, false_and, and_false, and_self, Nat.reduceAdd, Nat.reduceLeDiff, Nat.reduceSub, Nat.reduceEqDiff, ite_true, ite_false, if_true, if_false, ↓reduceIte, Int32.reduceLT, Int32.reduceLE, Int32.reduceAdd, Int32.reduceSub, Int32.reduceMul, Int32.reduceDiv, Int32.reduceToNatClampNeg, Int64.reduceLT, or_true, or_false, true_or, false_or, Nat.reduceLT, m0, a1, a2, a3, a4, a5, g1, g2, g3, g4, g5, p1, p2, p3, p4, p5, l1, l2, l3, l4, l5]
  refine g_feed (d := 939) F1 (fun M2 k2 => ?_)
  have hh := hn M2 ⟨_, _, k1.1.km k2.2, k2.1, (hR.feed _).2⟩
  simp only [↓e224_308, ↓e224_309, ↓e224_310, ↓e224_311, ↓e224_312, ↓e224_313, ↓e224_314, ↓e224_317, ↓e224_318, ↓e224_319, ↓e224_320, ↓e224_321, ↓e224_322, ↓e224_323, ↓e224_324, ↓e224_327, ↓e224_328, bc1_a, bd1, bd2, bd3, bd4, bd5, bd6, bd7, bd8, bd9, bd10, bd11, bd12, bd13, bd14, bd15, bd16, bd17, bd18, bd19, bd20, bd21, bd22, bd23, bd24, bd25, bd26, bd27, bd28, bd29, bd30, bd31, bd32, bd33, bd34, bd35, bd36, bd37, bd38, bd39, bc1_i, bc1_r, bc1_n, bc1_U, bisA_r, bisA_n, bisA_a, bct_i, bct_r, bct_n, bct_l, bcs_0, bcs_i, bcs_r, bcs_l, bcs_a, brt_0, brt_1, ↓bz0, ↓bz1, true_and, and_true, false_and, and_false, and_self, Nat.reduceAdd, Nat.reduceLeDiff, Nat.reduceSub, Nat.reduceEqDiff, ite_true, ite_false, if_true, if_false, ↓reduceIte, Int32.reduceLT, Int32.reduceLE, Int32.reduceAdd, Int32.reduceSub, Int32.reduceMul, Int32.reduceDiv, Int32.reduceToNatClampNeg, Int64.reduceLT, or_true, or_false, true_or, false_or, Nat.reduceLT, eq_self]
  exact hh
theorem l_op5 {i : Nat} (hJ : JJ M) (hi : i + 5 < L) (hL : L ≤ 3072) (hn : ∀ M1, JJ M1 → Wp L xs 1000 224 987 [.retAddr 200, .ref 0, .ref 44, .int (nI i)] [] M1 Q1) : Wp L xs 1000 224 331 [.retAddr 200, .ref 0, .ref 44, .int (nI i)] [] M Q1 := by
  obtain ⟨T, T', hC, hM, hR⟩ := hJ
  have c0 := hC.1.1.1
  have ad : ∀ m : Nat, m < 6 → (0 ≤ nI (i + m) ∧ (nI (i + m)).toNatClampNeg = i + m ∧ i + m < L) := fun m hm => ⟨nI_pos' (by omega), nI_clamp (by omega), by omega⟩
  have a1 : nI i + 1 = nI (i + 1) := nI_add i 1
  obtain ⟨g1, p1, l1⟩ := ad 1 (by decide)
  have a2 : nI i + 2 = nI (i + 2) := nI_add i 2
  obtain ⟨g2, p2, l2⟩ := ad 2 (by decide)
  have a3 : nI i + 3 = nI (i + 3) := nI_add i 3
  obtain ⟨g3, p3, l3⟩ := ad 3 (by decide)
  have a4 : nI i + 4 = nI (i + 4) := nI_add i 4
  obtain ⟨g4, p4, l4⟩ := ad 4 (by decide)
  have a5 : nI i + 5 = nI (i + 5) := nI_add i 5
  obtain ⟨g5, p5, l5⟩ := ad 5 (by decide)
  simp only [↓e224_331, ↓e224_332, ↓e224_335, ↓e224_336, ↓e224_339, ↓e224_342, ↓e224_343, bc1_a, bd1, bd2, bd3, bd4, bd5, bd6, bd7, bd8, bd9, bd10, bd11, bd12, bd13, bd14, bd15, bd16, bd17, bd18, bd19, bd20, bd21, bd22, bd23, bd24, bd25, bd26, bd27, bd28, bd29, bd30, bd31, bd32, bd33, bd34, bd35, bd36, bd37, bd38, bd39, bc1_i, bc1_r, bc1_n, bc1_U, bisA_r, bisA_n, bisA_a, bct_i, bct_r, bct_n, bct_l, bcs_0, bcs_i, bcs_r, bcs_l, bcs_a, brt_0, brt_1, ↓bz0, ↓bz1, true_and, and_true, false_and, and_false, and_self, Nat.reduceAdd, Nat.reduceLeDiff, Nat.reduceSub, Nat.reduceEqDiff, ite_true, ite_false, if_true, if_false, ↓reduceIte, Int32.reduceLT, Int32.reduceLE, Int32.reduceAdd, Int32.reduceSub, Int32.reduceMul, Int32.reduceDiv, Int32.reduceToNatClampNeg, Int64.reduceLT, or_true, or_false, true_or, false_or, Nat.reduceLT, c0, a1, a2, a3, a4, a5, g1, g2, g3, g4, g5, p1, p2, p3, p4, p5, l1, l2, l3, l4, l5]
  refine k_text (d := 938) hC (fun M1 k1 => ?_)
  have F1 := hM.kc k1.2
  have m0 := F1.1.1.1
  simp only [↓e224_331, ↓e224_332, ↓e224_335, ↓e224_336, ↓e224_339, ↓e224_342, ↓e224_343, bc1_a, bd1, bd2, bd3, bd4, bd5, bd6, bd7, bd8, bd9, bd10, bd11, bd12, bd13, bd14, bd15, bd16, bd17, bd18, bd19, bd20, bd21, bd22, bd23, bd24, bd25, bd26, bd27, bd28, bd29, bd30, bd31, bd32, bd33, bd34, bd35, bd36, bd37, bd38, bd39, bc1_i, bc1_r, bc1_n, bc1_U, bisA_r, bisA_n, bisA_a, bct_i, bct_r, bct_n, bct_l, bcs_0, bcs_i, bcs_r, bcs_l, bcs_a, brt_0, brt_1, ↓bz0, ↓bz1, true_and, and_true, false_and, and_false, and_self, Nat.reduceAdd, Nat.reduceLeDiff, Nat.reduceSub, Nat.reduceEqDiff, ite_true, ite_false, if_true, if_false, ↓reduceIte, Int32.reduceLT, Int32.reduceLE, Int32.reduceAdd, Int32.reduceSub, Int32.reduceMul, Int32.reduceDiv, Int32.reduceToNatClampNeg, Int64.reduceLT, or_true, or_false, true_or, false_or, Nat.reduceLT, m0, a1, a2, a3, a4, a5, g1, g2, g3, g4, g5, p1, p2, p3, p4, p5, l1, l2, l3, l4, l5]
  refine g_text (d := 939) F1 (fun M2 k2 => ?_)
  have hh := hn M2 ⟨_, _, k1.1.km k2.2, k2.1, hR.text.2⟩
  have hcmp := hR.text.1
  simp only [↓e224_331, ↓e224_332, ↓e224_335, ↓e224_336, ↓e224_339, ↓e224_342, ↓e224_343, bc1_a, bd1, bd2, bd3, bd4, bd5, bd6, bd7, bd8, bd9, bd10, bd11, bd12, bd13, bd14, bd15, bd16, bd17, bd18, bd19, bd20, bd21, bd22, bd23, bd24, bd25, bd26, bd27, bd28, bd29, bd30, bd31, bd32, bd33, bd34, bd35, bd36, bd37, bd38, bd39, bc1_i, bc1_r, bc1_n, bc1_U, bisA_r, bisA_n, bisA_a, bct_i, bct_r, bct_n, bct_l, bcs_0, bcs_i, bcs_r, bcs_l, bcs_a, brt_0, brt_1, ↓bz0, ↓bz1, true_and, and_true, false_and, and_false, and_self, Nat.reduceAdd, Nat.reduceLeDiff, Nat.reduceSub, Nat.reduceEqDiff, ite_true, ite_false, if_true, if_false, ↓reduceIte, Int32.reduceLT, Int32.reduceLE, Int32.reduceAdd, Int32.reduceSub, Int32.reduceMul, Int32.reduceDiv, Int32.reduceToNatClampNeg, Int64.reduceLT, or_true, or_false, true_or, false_or, Nat.reduceLT, eq_self, hcmp]
  exact hh
theorem l_op6 {i : Nat} (hJ : JJ M) (hi : i + 5 < L) (hL : L ≤ 3072) (hn : ∀ M1, JJ M1 → Wp L xs 1000 224 987 [.retAddr 200, .ref 0, .ref 44, .int (nI i)] [] M1 Q1) : Wp L xs 1000 224 344 [.retAddr 200, .ref 0, .ref 44, .int (nI i)] [] M Q1 := by
  obtain ⟨T, T', hC, hM, hR⟩ := hJ
  have c0 := hC.1.1.1
  have ad : ∀ m : Nat, m < 6 → (0 ≤ nI (i + m) ∧ (nI (i + m)).toNatClampNeg = i + m ∧ i + m < L) := fun m hm => ⟨nI_pos' (by omega), nI_clamp (by omega), by omega⟩
  have a1 : nI i + 1 = nI (i + 1) := nI_add i 1
  obtain ⟨g1, p1, l1⟩ := ad 1 (by decide)
  have a2 : nI i + 2 = nI (i + 2) := nI_add i 2
  obtain ⟨g2, p2, l2⟩ := ad 2 (by decide)
  have a3 : nI i + 3 = nI (i + 3) := nI_add i 3
  obtain ⟨g3, p3, l3⟩ := ad 3 (by decide)
  have a4 : nI i + 4 = nI (i + 4) := nI_add i 4
  obtain ⟨g4, p4, l4⟩ := ad 4 (by decide)
  have a5 : nI i + 5 = nI (i + 5) := nI_add i 5
  obtain ⟨g5, p5, l5⟩ := ad 5 (by decide)
  simp only [↓e224_344, ↓e224_345, ↓e224_346, ↓e224_347, ↓e224_348, ↓e224_349, ↓e224_350, ↓e224_353, ↓e224_354, ↓e224_355, ↓e224_356, ↓e224_357, ↓e224_358, ↓e224_359, ↓e224_360, ↓e224_363, ↓e224_364, bc1_a, bd1, bd2, bd3, bd4, bd5, bd6, bd7, bd8, bd9, bd10, bd11, bd12, bd13, bd14, bd15, bd16, bd17, bd18, bd19, bd20, bd21, bd22, bd23, bd24, bd25, bd26, bd27, bd28, bd29, bd30, bd31, bd32, bd33, bd34, bd35, bd36, bd37, bd38, bd39, bc1_i, bc1_r, bc1_n, bc1_U, bisA_r, bisA_n, bisA_a, bct_i, bct_r, bct_n, bct_l, bcs_0, bcs_i, bcs_r, bcs_l, bcs_a, brt_0, brt_1, ↓bz0, ↓bz1, true_and, and_true, false_and, and_false, and_self, Nat.reduceAdd, Nat.reduceLeDiff, Nat.reduceSub, Nat.reduceEqDiff, ite_true, ite_false, if_true, if_false, ↓reduceIte, Int32.reduceLT, Int32.reduceLE, Int32.reduceAdd, Int32.reduceSub, Int32.reduceMul, Int32.reduceDiv, Int32.reduceToNatClampNeg, Int64.reduceLT, or_true, or_false, true_or, false_or, Nat.reduceLT, c0, a1, a2, a3, a4, a5, g1, g2, g3, g4, g5, p1, p2, p3, p4, p5, l1, l2, l3, l4, l5]
  refine k_force (d := 938) hC (fun M1 k1 => ?_)
  have F1 := hM.kc k1.2
  have m0 := F1.1.1.1
  simp only [↓e224_344, ↓e224_345, ↓e224_346, ↓e224_347, ↓e224_348, ↓e224_349, ↓e224_350, ↓e224_353, ↓e224_354, ↓e224_355, ↓e224_356, ↓e224_357, ↓e224_358, ↓e224_359, ↓e224_360, ↓e224_363, ↓e224_364, bc1_a, bd1, bd2, bd3, bd4, bd5, bd6, bd7, bd8, bd9, bd10, bd11, bd12, bd13, bd14, bd15, bd16, bd17, bd18, bd19, bd20, bd21, bd22, bd23, bd24, bd25, bd26, bd27, bd28, bd29, bd30, bd31, bd32, bd33, bd34, bd35, bd36, bd37, bd38, bd39, bc1_i, bc1_r, bc1_n, bc1_U, bisA_r, bisA_n, bisA_a, bct_i, bct_r, bct_n, bct_l, bcs_0, bcs_i, bcs_r, bcs_l, bcs_a, brt_0, brt_1, ↓bz0, ↓bz1, true_and, and_true, false_and, and_false, and_self, Nat.reduceAdd, Nat.reduceLeDiff, Nat.reduceSub, Nat.reduceEqDiff, ite_true, ite_false, if_true, if_false, ↓reduceIte, Int32.reduceLT, Int32.reduceLE, Int32.reduceAdd, Int32.reduceSub, Int32.reduceMul, Int32.reduceDiv, Int32.reduceToNatClampNeg, Int64.reduceLT, or_true, or_false, true_or, false_or, Nat.reduceLT, m0, a1, a2, a3, a4, a5, g1, g2, g3, g4, g5, p1, p2, p3, p4, p5, l1, l2, l3, l4, l5]
  refine g_force (d := 939) F1 (fun M2 k2 => ?_)
  have hh := hn M2 ⟨_, _, k1.1.km k2.2, k2.1, (hR.force _).2⟩
  simp only [↓e224_344, ↓e224_345, ↓e224_346, ↓e224_347, ↓e224_348, ↓e224_349, ↓e224_350, ↓e224_353, ↓e224_354, ↓e224_355, ↓e224_356, ↓e224_357, ↓e224_358, ↓e224_359, ↓e224_360, ↓e224_363, ↓e224_364, bc1_a, bd1, bd2, bd3, bd4, bd5, bd6, bd7, bd8, bd9, bd10, bd11, bd12, bd13, bd14, bd15, bd16, bd17, bd18, bd19, bd20, bd21, bd22, bd23, bd24, bd25, bd26, bd27, bd28, bd29, bd30, bd31, bd32, bd33, bd34, bd35, bd36, bd37, bd38, bd39, bc1_i, bc1_r, bc1_n, bc1_U, bisA_r, bisA_n, bisA_a, bct_i, bct_r, bct_n, bct_l, bcs_0, bcs_i, bcs_r, bcs_l, bcs_a, brt_0, brt_1, ↓bz0, ↓bz1, true_and, and_true, false_and, and_false, and_self, Nat.reduceAdd, Nat.reduceLeDiff, Nat.reduceSub, Nat.reduceEqDiff, ite_true, ite_false, if_true, if_false, ↓reduceIte, Int32.reduceLT, Int32.reduceLE, Int32.reduceAdd, Int32.reduceSub, Int32.reduceMul, Int32.reduceDiv, Int32.reduceToNatClampNeg, Int64.reduceLT, or_true, or_false, true_or, false_or, Nat.reduceLT, eq_self]
  exact hh
theorem l_op7 {i : Nat} (hJ : JJ M) (hi : i + 5 < L) (hL : L ≤ 3072) (hn : ∀ M1, JJ M1 → Wp L xs 1000 224 987 [.retAddr 200, .ref 0, .ref 44, .int (nI i)] [] M1 Q1) : Wp L xs 1000 224 367 [.retAddr 200, .ref 0, .ref 44, .int (nI i)] [] M Q1 := by
  obtain ⟨T, T', hC, hM, hR⟩ := hJ
  have c0 := hC.1.1.1
  have ad : ∀ m : Nat, m < 6 → (0 ≤ nI (i + m) ∧ (nI (i + m)).toNatClampNeg = i + m ∧ i + m < L) := fun m hm => ⟨nI_pos' (by omega), nI_clamp (by omega), by omega⟩
  have a1 : nI i + 1 = nI (i + 1) := nI_add i 1
  obtain ⟨g1, p1, l1⟩ := ad 1 (by decide)
  have a2 : nI i + 2 = nI (i + 2) := nI_add i 2
  obtain ⟨g2, p2, l2⟩ := ad 2 (by decide)
  have a3 : nI i + 3 = nI (i + 3) := nI_add i 3
  obtain ⟨g3, p3, l3⟩ := ad 3 (by decide)
  have a4 : nI i + 4 = nI (i + 4) := nI_add i 4
  obtain ⟨g4, p4, l4⟩ := ad 4 (by decide)
  have a5 : nI i + 5 = nI (i + 5) := nI_add i 5
  obtain ⟨g5, p5, l5⟩ := ad 5 (by decide)
  simp only [↓e224_367, ↓e224_368, ↓e224_369, ↓e224_370, ↓e224_371, ↓e224_372, ↓e224_373, ↓e224_376, ↓e224_377, ↓e224_378, ↓e224_379, ↓e224_380, ↓e224_381, ↓e224_382, ↓e224_383, ↓e224_386, ↓e224_387, bc1_a, bd1, bd2, bd3, bd4, bd5, bd6, bd7, bd8, bd9, bd10, bd11, bd12, bd13, bd14, bd15, bd16, bd17, bd18, bd19, bd20, bd21, bd22, bd23, bd24, bd25, bd26, bd27, bd28, bd29, bd30, bd31, bd32, bd33, bd34, bd35, bd36, bd37, bd38, bd39, bc1_i, bc1_r, bc1_n, bc1_U, bisA_r, bisA_n, bisA_a, bct_i, bct_r, bct_n, bct_l, bcs_0, bcs_i, bcs_r, bcs_l, bcs_a, brt_0, brt_1, ↓bz0, ↓bz1, true_and, and_true, false_and, and_false, and_self, Nat.reduceAdd, Nat.reduceLeDiff, Nat.reduceSub, Nat.reduceEqDiff, ite_true, ite_false, if_true, if_false, ↓reduceIte, Int32.reduceLT, Int32.reduceLE, Int32.reduceAdd, Int32.reduceSub, Int32.reduceMul, Int32.reduceDiv, Int32.reduceToNatClampNeg, Int64.reduceLT, or_true, or_false, true_or, false_or, Nat.reduceLT, c0, a1, a2, a3, a4, a5, g1, g2, g3, g4, g5, p1, p2, p3, p4, p5, l1, l2, l3, l4, l5]
  refine k_call (d := 938) hC (fun M1 r1 k1 => ?_)
  have F1 := hM.kc k1.2
  have m0 := F1.1.1.1
  simp only [↓e224_367, ↓e224_368, ↓e224_369, ↓e224_370, ↓e224_371, ↓e224_372, ↓e224_373, ↓e224_376, ↓e224_377, ↓e224_378, ↓e224_379, ↓e224_380, ↓e224_381, ↓e224_382, ↓e224_383, ↓e224_386, ↓e224_387, bc1_a, bd1, bd2, bd3, bd4, bd5, bd6, bd7, bd8, bd9, bd10, bd11, bd12, bd13, bd14, bd15, bd16, bd17, bd18, bd19, bd20, bd21, bd22, bd23, bd24, bd25, bd26, bd27, bd28, bd29, bd30, bd31, bd32, bd33, bd34, bd35, bd36, bd37, bd38, bd39, bc1_i, bc1_r, bc1_n, bc1_U, bisA_r, bisA_n, bisA_a, bct_i, bct_r, bct_n, bct_l, bcs_0, bcs_i, bcs_r, bcs_l, bcs_a, brt_0, brt_1, ↓bz0, ↓bz1, true_and, and_true, false_and, and_false, and_self, Nat.reduceAdd, Nat.reduceLeDiff, Nat.reduceSub, Nat.reduceEqDiff, ite_true, ite_false, if_true, if_false, ↓reduceIte, Int32.reduceLT, Int32.reduceLE, Int32.reduceAdd, Int32.reduceSub, Int32.reduceMul, Int32.reduceDiv, Int32.reduceToNatClampNeg, Int64.reduceLT, or_true, or_false, true_or, false_or, Nat.reduceLT, m0, a1, a2, a3, a4, a5, g1, g2, g3, g4, g5, p1, p2, p3, p4, p5, l1, l2, l3, l4, l5]
  refine g_call (d := 939) F1 (fun M2 r2 k2 => ?_)
  have hh := hn M2 ⟨_, _, k1.1.km k2.2, k2.1, hR⟩
  simp only [↓e224_367, ↓e224_368, ↓e224_369, ↓e224_370, ↓e224_371, ↓e224_372, ↓e224_373, ↓e224_376, ↓e224_377, ↓e224_378, ↓e224_379, ↓e224_380, ↓e224_381, ↓e224_382, ↓e224_383, ↓e224_386, ↓e224_387, bc1_a, bd1, bd2, bd3, bd4, bd5, bd6, bd7, bd8, bd9, bd10, bd11, bd12, bd13, bd14, bd15, bd16, bd17, bd18, bd19, bd20, bd21, bd22, bd23, bd24, bd25, bd26, bd27, bd28, bd29, bd30, bd31, bd32, bd33, bd34, bd35, bd36, bd37, bd38, bd39, bc1_i, bc1_r, bc1_n, bc1_U, bisA_r, bisA_n, bisA_a, bct_i, bct_r, bct_n, bct_l, bcs_0, bcs_i, bcs_r, bcs_l, bcs_a, brt_0, brt_1, ↓bz0, ↓bz1, true_and, and_true, false_and, and_false, and_self, Nat.reduceAdd, Nat.reduceLeDiff, Nat.reduceSub, Nat.reduceEqDiff, ite_true, ite_false, if_true, if_false, ↓reduceIte, Int32.reduceLT, Int32.reduceLE, Int32.reduceAdd, Int32.reduceSub, Int32.reduceMul, Int32.reduceDiv, Int32.reduceToNatClampNeg, Int64.reduceLT, or_true, or_false, true_or, false_or, Nat.reduceLT, eq_self]
  exact hh
theorem l_op8 {i : Nat} (hJ : JJ M) (hi : i + 5 < L) (hL : L ≤ 3072) (hn : ∀ M1, JJ M1 → Wp L xs 1000 224 987 [.retAddr 200, .ref 0, .ref 44, .int (nI i)] [] M1 Q1) : Wp L xs 1000 224 390 [.retAddr 200, .ref 0, .ref 44, .int (nI i)] [] M Q1 := by
  obtain ⟨T, T', hC, hM, hR⟩ := hJ
  have c0 := hC.1.1.1
  have ad : ∀ m : Nat, m < 6 → (0 ≤ nI (i + m) ∧ (nI (i + m)).toNatClampNeg = i + m ∧ i + m < L) := fun m hm => ⟨nI_pos' (by omega), nI_clamp (by omega), by omega⟩
  have a1 : nI i + 1 = nI (i + 1) := nI_add i 1
  obtain ⟨g1, p1, l1⟩ := ad 1 (by decide)
  have a2 : nI i + 2 = nI (i + 2) := nI_add i 2
  obtain ⟨g2, p2, l2⟩ := ad 2 (by decide)
  have a3 : nI i + 3 = nI (i + 3) := nI_add i 3
  obtain ⟨g3, p3, l3⟩ := ad 3 (by decide)
  have a4 : nI i + 4 = nI (i + 4) := nI_add i 4
  obtain ⟨g4, p4, l4⟩ := ad 4 (by decide)
  have a5 : nI i + 5 = nI (i + 5) := nI_add i 5
  obtain ⟨g5, p5, l5⟩ := ad 5 (by decide)
  simp only [↓e224_390, ↓e224_391, ↓e224_392, ↓e224_393, ↓e224_394, ↓e224_395, ↓e224_396, ↓e224_399, ↓e224_400, ↓e224_401, ↓e224_402, ↓e224_403, ↓e224_404, ↓e224_405, ↓e224_406, ↓e224_409, ↓e224_410, bc1_a, bd1, bd2, bd3, bd4, bd5, bd6, bd7, bd8, bd9, bd10, bd11, bd12, bd13, bd14, bd15, bd16, bd17, bd18, bd19, bd20, bd21, bd22, bd23, bd24, bd25, bd26, bd27, bd28, bd29, bd30, bd31, bd32, bd33, bd34, bd35, bd36, bd37, bd38, bd39, bc1_i, bc1_r, bc1_n, bc1_U, bisA_r, bisA_n, bisA_a, bct_i, bct_r, bct_n, bct_l, bcs_0, bcs_i, bcs_r, bcs_l, bcs_a, brt_0, brt_1, ↓bz0, ↓bz1, true_and, and_true, false_and, and_false, and_self, Nat.reduceAdd, Nat.reduceLeDiff, Nat.reduceSub, Nat.reduceEqDiff, ite_true, ite_false, if_true, if_false, ↓reduceIte, Int32.reduceLT, Int32.reduceLE, Int32.reduceAdd, Int32.reduceSub, Int32.reduceMul, Int32.reduceDiv, Int32.reduceToNatClampNeg, Int64.reduceLT, or_true, or_false, true_or, false_or, Nat.reduceLT, c0, a1, a2, a3, a4, a5, g1, g2, g3, g4, g5, p1, p2, p3, p4, p5, l1, l2, l3, l4, l5]
  refine k_vase (d := 938) hC (fun M1 r1 k1 => ?_)
  have F1 := hM.kc k1.2
  have m0 := F1.1.1.1
  simp only [↓e224_390, ↓e224_391, ↓e224_392, ↓e224_393, ↓e224_394, ↓e224_395, ↓e224_396, ↓e224_399, ↓e224_400, ↓e224_401, ↓e224_402, ↓e224_403, ↓e224_404, ↓e224_405, ↓e224_406, ↓e224_409, ↓e224_410, bc1_a, bd1, bd2, bd3, bd4, bd5, bd6, bd7, bd8, bd9, bd10, bd11, bd12, bd13, bd14, bd15, bd16, bd17, bd18, bd19, bd20, bd21, bd22, bd23, bd24, bd25, bd26, bd27, bd28, bd29, bd30, bd31, bd32, bd33, bd34, bd35, bd36, bd37, bd38, bd39, bc1_i, bc1_r, bc1_n, bc1_U, bisA_r, bisA_n, bisA_a, bct_i, bct_r, bct_n, bct_l, bcs_0, bcs_i, bcs_r, bcs_l, bcs_a, brt_0, brt_1, ↓bz0, ↓bz1, true_and, and_true, false_and, and_false, and_self, Nat.reduceAdd, Nat.reduceLeDiff, Nat.reduceSub, Nat.reduceEqDiff, ite_true, ite_false, if_true, if_false, ↓reduceIte, Int32.reduceLT, Int32.reduceLE, Int32.reduceAdd, Int32.reduceSub, Int32.reduceMul, Int32.reduceDiv, Int32.reduceToNatClampNeg, Int64.reduceLT, or_true, or_false, true_or, false_or, Nat.reduceLT, m0, a1, a2, a3, a4, a5, g1, g2, g3, g4, g5, p1, p2, p3, p4, p5, l1, l2, l3, l4, l5]
  refine g_vase (d := 939) F1 (fun M2 r2 k2 => ?_)
  have hh := hn M2 ⟨_, _, k1.1.km k2.2, k2.1, hR⟩
  simp only [↓e224_390, ↓e224_391, ↓e224_392, ↓e224_393, ↓e224_394, ↓e224_395, ↓e224_396, ↓e224_399, ↓e224_400, ↓e224_401, ↓e224_402, ↓e224_403, ↓e224_404, ↓e224_405, ↓e224_406, ↓e224_409, ↓e224_410, bc1_a, bd1, bd2, bd3, bd4, bd5, bd6, bd7, bd8, bd9, bd10, bd11, bd12, bd13, bd14, bd15, bd16, bd17, bd18, bd19, bd20, bd21, bd22, bd23, bd24, bd25, bd26, bd27, bd28, bd29, bd30, bd31, bd32, bd33, bd34, bd35, bd36, bd37, bd38, bd39, bc1_i, bc1_r, bc1_n, bc1_U, bisA_r, bisA_n, bisA_a, bct_i, bct_r, bct_n, bct_l, bcs_0, bcs_i, bcs_r, bcs_l, bcs_a, brt_0, brt_1, ↓bz0, ↓bz1, true_and, and_true, false_and, and_false, and_self, Nat.reduceAdd, Nat.reduceLeDiff, Nat.reduceSub, Nat.reduceEqDiff, ite_true, ite_false, if_true, if_false, ↓reduceIte, Int32.reduceLT, Int32.reduceLE, Int32.reduceAdd, Int32.reduceSub, Int32.reduceMul, Int32.reduceDiv, Int32.reduceToNatClampNeg, Int64.reduceLT, or_true, or_false, true_or, false_or, Nat.reduceLT, eq_self]
  exact hh
theorem l_op9 {i : Nat} (hJ : JJ M) (hi : i + 5 < L) (hL : L ≤ 3072) (hn : ∀ M1, JJ M1 → Wp L xs 1000 224 987 [.retAddr 200, .ref 0, .ref 44, .int (nI i)] [] M1 Q1) : Wp L xs 1000 224 413 [.retAddr 200, .ref 0, .ref 44, .int (nI i)] [] M Q1 := by
  obtain ⟨T, T', hC, hM, hR⟩ := hJ
  have c0 := hC.1.1.1
  have ad : ∀ m : Nat, m < 6 → (0 ≤ nI (i + m) ∧ (nI (i + m)).toNatClampNeg = i + m ∧ i + m < L) := fun m hm => ⟨nI_pos' (by omega), nI_clamp (by omega), by omega⟩
  have a1 : nI i + 1 = nI (i + 1) := nI_add i 1
  obtain ⟨g1, p1, l1⟩ := ad 1 (by decide)
  have a2 : nI i + 2 = nI (i + 2) := nI_add i 2
  obtain ⟨g2, p2, l2⟩ := ad 2 (by decide)
  have a3 : nI i + 3 = nI (i + 3) := nI_add i 3
  obtain ⟨g3, p3, l3⟩ := ad 3 (by decide)
  have a4 : nI i + 4 = nI (i + 4) := nI_add i 4
  obtain ⟨g4, p4, l4⟩ := ad 4 (by decide)
  have a5 : nI i + 5 = nI (i + 5) := nI_add i 5
  obtain ⟨g5, p5, l5⟩ := ad 5 (by decide)
  simp only [↓e224_413, ↓e224_414, ↓e224_415, ↓e224_416, ↓e224_417, ↓e224_418, ↓e224_419, ↓e224_422, ↓e224_423, ↓e224_424, ↓e224_425, ↓e224_426, ↓e224_427, ↓e224_428, ↓e224_429, ↓e224_432, ↓e224_433, bc1_a, bd1, bd2, bd3, bd4, bd5, bd6, bd7, bd8, bd9, bd10, bd11, bd12, bd13, bd14, bd15, bd16, bd17, bd18, bd19, bd20, bd21, bd22, bd23, bd24, bd25, bd26, bd27, bd28, bd29, bd30, bd31, bd32, bd33, bd34, bd35, bd36, bd37, bd38, bd39, bc1_i, bc1_r, bc1_n, bc1_U, bisA_r, bisA_n, bisA_a, bct_i, bct_r, bct_n, bct_l, bcs_0, bcs_i, bcs_r, bcs_l, bcs_a, brt_0, brt_1, ↓bz0, ↓bz1, true_and, and_true, false_and, and_false, and_self, Nat.reduceAdd, Nat.reduceLeDiff, Nat.reduceSub, Nat.reduceEqDiff, ite_true, ite_false, if_true, if_false, ↓reduceIte, Int32.reduceLT, Int32.reduceLE, Int32.reduceAdd, Int32.reduceSub, Int32.reduceMul, Int32.reduceDiv, Int32.reduceToNatClampNeg, Int64.reduceLT, or_true, or_false, true_or, false_or, Nat.reduceLT, c0, a1, a2, a3, a4, a5, g1, g2, g3, g4, g5, p1, p2, p3, p4, p5, l1, l2, l3, l4, l5]
  refine k_part (d := 938) hC (fun M1 r1 k1 => ?_)
  have F1 := hM.kc k1.2
  have m0 := F1.1.1.1
  simp only [↓e224_413, ↓e224_414, ↓e224_415, ↓e224_416, ↓e224_417, ↓e224_418, ↓e224_419, ↓e224_422, ↓e224_423, ↓e224_424, ↓e224_425, ↓e224_426, ↓e224_427, ↓e224_428, ↓e224_429, ↓e224_432, ↓e224_433, bc1_a, bd1, bd2, bd3, bd4, bd5, bd6, bd7, bd8, bd9, bd10, bd11, bd12, bd13, bd14, bd15, bd16, bd17, bd18, bd19, bd20, bd21, bd22, bd23, bd24, bd25, bd26, bd27, bd28, bd29, bd30, bd31, bd32, bd33, bd34, bd35, bd36, bd37, bd38, bd39, bc1_i, bc1_r, bc1_n, bc1_U, bisA_r, bisA_n, bisA_a, bct_i, bct_r, bct_n, bct_l, bcs_0, bcs_i, bcs_r, bcs_l, bcs_a, brt_0, brt_1, ↓bz0, ↓bz1, true_and, and_true, false_and, and_false, and_self, Nat.reduceAdd, Nat.reduceLeDiff, Nat.reduceSub, Nat.reduceEqDiff, ite_true, ite_false, if_true, if_false, ↓reduceIte, Int32.reduceLT, Int32.reduceLE, Int32.reduceAdd, Int32.reduceSub, Int32.reduceMul, Int32.reduceDiv, Int32.reduceToNatClampNeg, Int64.reduceLT, or_true, or_false, true_or, false_or, Nat.reduceLT, m0, a1, a2, a3, a4, a5, g1, g2, g3, g4, g5, p1, p2, p3, p4, p5, l1, l2, l3, l4, l5]
  refine g_part (d := 939) F1 (fun M2 r2 k2 => ?_)
  have hh := hn M2 ⟨_, _, k1.1.km k2.2, k2.1, hR⟩
  simp only [↓e224_413, ↓e224_414, ↓e224_415, ↓e224_416, ↓e224_417, ↓e224_418, ↓e224_419, ↓e224_422, ↓e224_423, ↓e224_424, ↓e224_425, ↓e224_426, ↓e224_427, ↓e224_428, ↓e224_429, ↓e224_432, ↓e224_433, bc1_a, bd1, bd2, bd3, bd4, bd5, bd6, bd7, bd8, bd9, bd10, bd11, bd12, bd13, bd14, bd15, bd16, bd17, bd18, bd19, bd20, bd21, bd22, bd23, bd24, bd25, bd26, bd27, bd28, bd29, bd30, bd31, bd32, bd33, bd34, bd35, bd36, bd37, bd38, bd39, bc1_i, bc1_r, bc1_n, bc1_U, bisA_r, bisA_n, bisA_a, bct_i, bct_r, bct_n, bct_l, bcs_0, bcs_i, bcs_r, bcs_l, bcs_a, brt_0, brt_1, ↓bz0, ↓bz1, true_and, and_true, false_and, and_false, and_self, Nat.reduceAdd, Nat.reduceLeDiff, Nat.reduceSub, Nat.reduceEqDiff, ite_true, ite_false, if_true, if_false, ↓reduceIte, Int32.reduceLT, Int32.reduceLE, Int32.reduceAdd, Int32.reduceSub, Int32.reduceMul, Int32.reduceDiv, Int32.reduceToNatClampNeg, Int64.reduceLT, or_true, or_false, true_or, false_or, Nat.reduceLT, eq_self]
  exact hh
theorem l_op10 {i : Nat} (hJ : JJ M) (hi : i + 5 < L) (hL : L ≤ 3072) (hn : ∀ M1, JJ M1 → Wp L xs 1000 224 987 [.retAddr 200, .ref 0, .ref 44, .int (nI i)] [] M1 Q1) : Wp L xs 1000 224 436 [.retAddr 200, .ref 0, .ref 44, .int (nI i)] [] M Q1 := by
  obtain ⟨T, T', hC, hM, hR⟩ := hJ
  have c0 := hC.1.1.1
  have ad : ∀ m : Nat, m < 6 → (0 ≤ nI (i + m) ∧ (nI (i + m)).toNatClampNeg = i + m ∧ i + m < L) := fun m hm => ⟨nI_pos' (by omega), nI_clamp (by omega), by omega⟩
  have a1 : nI i + 1 = nI (i + 1) := nI_add i 1
  obtain ⟨g1, p1, l1⟩ := ad 1 (by decide)
  have a2 : nI i + 2 = nI (i + 2) := nI_add i 2
  obtain ⟨g2, p2, l2⟩ := ad 2 (by decide)
  have a3 : nI i + 3 = nI (i + 3) := nI_add i 3
  obtain ⟨g3, p3, l3⟩ := ad 3 (by decide)
  have a4 : nI i + 4 = nI (i + 4) := nI_add i 4
  obtain ⟨g4, p4, l4⟩ := ad 4 (by decide)
  have a5 : nI i + 5 = nI (i + 5) := nI_add i 5
  obtain ⟨g5, p5, l5⟩ := ad 5 (by decide)
  simp only [↓e224_436, ↓e224_437, ↓e224_438, ↓e224_439, ↓e224_440, ↓e224_441, ↓e224_442, ↓e224_445, ↓e224_446, ↓e224_447, ↓e224_448, ↓e224_449, ↓e224_450, ↓e224_451, ↓e224_452, ↓e224_455, ↓e224_456, bc1_a, bd1, bd2, bd3, bd4, bd5, bd6, bd7, bd8, bd9, bd10, bd11, bd12, bd13, bd14, bd15, bd16, bd17, bd18, bd19, bd20, bd21, bd22, bd23, bd24, bd25, bd26, bd27, bd28, bd29, bd30, bd31, bd32, bd33, bd34, bd35, bd36, bd37, bd38, bd39, bc1_i, bc1_r, bc1_n, bc1_U, bisA_r, bisA_n, bisA_a, bct_i, bct_r, bct_n, bct_l, bcs_0, bcs_i, bcs_r, bcs_l, bcs_a, brt_0, brt_1, ↓bz0, ↓bz1, true_and, and_true, false_and, and_false, and_self, Nat.reduceAdd, Nat.reduceLeDiff, Nat.reduceSub, Nat.reduceEqDiff, ite_true, ite_false, if_true, if_false, ↓reduceIte, Int32.reduceLT, Int32.reduceLE, Int32.reduceAdd, Int32.reduceSub, Int32.reduceMul, Int32.reduceDiv, Int32.reduceToNatClampNeg, Int64.reduceLT, or_true, or_false, true_or, false_or, Nat.reduceLT, c0, a1, a2, a3, a4, a5, g1, g2, g3, g4, g5, p1, p2, p3, p4, p5, l1, l2, l3, l4, l5]
  refine k_when (d := 938) hC (fun M1 r1 k1 => ?_)
  have F1 := hM.kc k1.2
  have m0 := F1.1.1.1
  simp only [↓e224_436, ↓e224_437, ↓e224_438, ↓e224_439, ↓e224_440, ↓e224_441, ↓e224_442, ↓e224_445, ↓e224_446, ↓e224_447, ↓e224_448, ↓e224_449, ↓e224_450, ↓e224_451, ↓e224_452, ↓e224_455, ↓e224_456, bc1_a, bd1, bd2, bd3, bd4, bd5, bd6, bd7, bd8, bd9, bd10, bd11, bd12, bd13, bd14, bd15, bd16, bd17, bd18, bd19, bd20, bd21, bd22, bd23, bd24, bd25, bd26, bd27, bd28, bd29, bd30, bd31, bd32, bd33, bd34, bd35, bd36, bd37, bd38, bd39, bc1_i, bc1_r, bc1_n, bc1_U, bisA_r, bisA_n, bisA_a, bct_i, bct_r, bct_n, bct_l, bcs_0, bcs_i, bcs_r, bcs_l, bcs_a, brt_0, brt_1, ↓bz0, ↓bz1, true_and, and_true, false_and, and_false, and_self, Nat.reduceAdd, Nat.reduceLeDiff, Nat.reduceSub, Nat.reduceEqDiff, ite_true, ite_false, if_true, if_false, ↓reduceIte, Int32.reduceLT, Int32.reduceLE, Int32.reduceAdd, Int32.reduceSub, Int32.reduceMul, Int32.reduceDiv, Int32.reduceToNatClampNeg, Int64.reduceLT, or_true, or_false, true_or, false_or, Nat.reduceLT, m0, a1, a2, a3, a4, a5, g1, g2, g3, g4, g5, p1, p2, p3, p4, p5, l1, l2, l3, l4, l5]
  refine g_when (d := 939) F1 (fun M2 r2 k2 => ?_)
  have hh := hn M2 ⟨_, _, k1.1.km k2.2, k2.1, hR⟩
  simp only [↓e224_436, ↓e224_437, ↓e224_438, ↓e224_439, ↓e224_440, ↓e224_441, ↓e224_442, ↓e224_445, ↓e224_446, ↓e224_447, ↓e224_448, ↓e224_449, ↓e224_450, ↓e224_451, ↓e224_452, ↓e224_455, ↓e224_456, bc1_a, bd1, bd2, bd3, bd4, bd5, bd6, bd7, bd8, bd9, bd10, bd11, bd12, bd13, bd14, bd15, bd16, bd17, bd18, bd19, bd20, bd21, bd22, bd23, bd24, bd25, bd26, bd27, bd28, bd29, bd30, bd31, bd32, bd33, bd34, bd35, bd36, bd37, bd38, bd39, bc1_i, bc1_r, bc1_n, bc1_U, bisA_r, bisA_n, bisA_a, bct_i, bct_r, bct_n, bct_l, bcs_0, bcs_i, bcs_r, bcs_l, bcs_a, brt_0, brt_1, ↓bz0, ↓bz1, true_and, and_true, false_and, and_false, and_self, Nat.reduceAdd, Nat.reduceLeDiff, Nat.reduceSub, Nat.reduceEqDiff, ite_true, ite_false, if_true, if_false, ↓reduceIte, Int32.reduceLT, Int32.reduceLE, Int32.reduceAdd, Int32.reduceSub, Int32.reduceMul, Int32.reduceDiv, Int32.reduceToNatClampNeg, Int64.reduceLT, or_true, or_false, true_or, false_or, Nat.reduceLT, eq_self]
  exact hh
theorem l_op11 {i : Nat} (hJ : JJ M) (hi : i + 5 < L) (hL : L ≤ 3072) (hn : ∀ M1, JJ M1 → Wp L xs 1000 224 987 [.retAddr 200, .ref 0, .ref 44, .int (nI i)] [] M1 Q1) : Wp L xs 1000 224 459 [.retAddr 200, .ref 0, .ref 44, .int (nI i)] [] M Q1 := by
  obtain ⟨T, T', hC, hM, hR⟩ := hJ
  have c0 := hC.1.1.1
  have ad : ∀ m : Nat, m < 6 → (0 ≤ nI (i + m) ∧ (nI (i + m)).toNatClampNeg = i + m ∧ i + m < L) := fun m hm => ⟨nI_pos' (by omega), nI_clamp (by omega), by omega⟩
  have a1 : nI i + 1 = nI (i + 1) := nI_add i 1
  obtain ⟨g1, p1, l1⟩ := ad 1 (by decide)
  have a2 : nI i + 2 = nI (i + 2) := nI_add i 2
  obtain ⟨g2, p2, l2⟩ := ad 2 (by decide)
  have a3 : nI i + 3 = nI (i + 3) := nI_add i 3
  obtain ⟨g3, p3, l3⟩ := ad 3 (by decide)
  have a4 : nI i + 4 = nI (i + 4) := nI_add i 4
  obtain ⟨g4, p4, l4⟩ := ad 4 (by decide)
  have a5 : nI i + 5 = nI (i + 5) := nI_add i 5
  obtain ⟨g5, p5, l5⟩ := ad 5 (by decide)
  simp only [↓e224_459, ↓e224_460, ↓e224_461, ↓e224_462, ↓e224_463, ↓e224_464, ↓e224_465, ↓e224_468, ↓e224_469, ↓e224_470, ↓e224_471, ↓e224_472, ↓e224_473, ↓e224_474, ↓e224_475, ↓e224_478, ↓e224_479, bc1_a, bd1, bd2, bd3, bd4, bd5, bd6, bd7, bd8, bd9, bd10, bd11, bd12, bd13, bd14, bd15, bd16, bd17, bd18, bd19, bd20, bd21, bd22, bd23, bd24, bd25, bd26, bd27, bd28, bd29, bd30, bd31, bd32, bd33, bd34, bd35, bd36, bd37, bd38, bd39, bc1_i, bc1_r, bc1_n, bc1_U, bisA_r, bisA_n, bisA_a, bct_i, bct_r, bct_n, bct_l, bcs_0, bcs_i, bcs_r, bcs_l, bcs_a, brt_0, brt_1, ↓bz0, ↓bz1, true_and, and_true, false_and, and_false, and_self, Nat.reduceAdd, Nat.reduceLeDiff, Nat.reduceSub, Nat.reduceEqDiff, ite_true, ite_false, if_true, if_false, ↓reduceIte, Int32.reduceLT, Int32.reduceLE, Int32.reduceAdd, Int32.reduceSub, Int32.reduceMul, Int32.reduceDiv, Int32.reduceToNatClampNeg, Int64.reduceLT, or_true, or_false, true_or, false_or, Nat.reduceLT, c0, a1, a2, a3, a4, a5, g1, g2, g3, g4, g5, p1, p2, p3, p4, p5, l1, l2, l3, l4, l5]
  refine k_fewest (d := 938) hC (fun M1 r1 k1 => ?_)
  have F1 := hM.kc k1.2
  have m0 := F1.1.1.1
  simp only [↓e224_459, ↓e224_460, ↓e224_461, ↓e224_462, ↓e224_463, ↓e224_464, ↓e224_465, ↓e224_468, ↓e224_469, ↓e224_470, ↓e224_471, ↓e224_472, ↓e224_473, ↓e224_474, ↓e224_475, ↓e224_478, ↓e224_479, bc1_a, bd1, bd2, bd3, bd4, bd5, bd6, bd7, bd8, bd9, bd10, bd11, bd12, bd13, bd14, bd15, bd16, bd17, bd18, bd19, bd20, bd21, bd22, bd23, bd24, bd25, bd26, bd27, bd28, bd29, bd30, bd31, bd32, bd33, bd34, bd35, bd36, bd37, bd38, bd39, bc1_i, bc1_r, bc1_n, bc1_U, bisA_r, bisA_n, bisA_a, bct_i, bct_r, bct_n, bct_l, bcs_0, bcs_i, bcs_r, bcs_l, bcs_a, brt_0, brt_1, ↓bz0, ↓bz1, true_and, and_true, false_and, and_false, and_self, Nat.reduceAdd, Nat.reduceLeDiff, Nat.reduceSub, Nat.reduceEqDiff, ite_true, ite_false, if_true, if_false, ↓reduceIte, Int32.reduceLT, Int32.reduceLE, Int32.reduceAdd, Int32.reduceSub, Int32.reduceMul, Int32.reduceDiv, Int32.reduceToNatClampNeg, Int64.reduceLT, or_true, or_false, true_or, false_or, Nat.reduceLT, m0, a1, a2, a3, a4, a5, g1, g2, g3, g4, g5, p1, p2, p3, p4, p5, l1, l2, l3, l4, l5]
  refine g_fewest (d := 939) F1 (fun M2 r2 k3 => ?_)
  have k2 := SM.fk F1 k3
  have hh := hn M2 ⟨_, _, k1.1.km k2.2, k2.1, hR⟩
  simp only [↓e224_459, ↓e224_460, ↓e224_461, ↓e224_462, ↓e224_463, ↓e224_464, ↓e224_465, ↓e224_468, ↓e224_469, ↓e224_470, ↓e224_471, ↓e224_472, ↓e224_473, ↓e224_474, ↓e224_475, ↓e224_478, ↓e224_479, bc1_a, bd1, bd2, bd3, bd4, bd5, bd6, bd7, bd8, bd9, bd10, bd11, bd12, bd13, bd14, bd15, bd16, bd17, bd18, bd19, bd20, bd21, bd22, bd23, bd24, bd25, bd26, bd27, bd28, bd29, bd30, bd31, bd32, bd33, bd34, bd35, bd36, bd37, bd38, bd39, bc1_i, bc1_r, bc1_n, bc1_U, bisA_r, bisA_n, bisA_a, bct_i, bct_r, bct_n, bct_l, bcs_0, bcs_i, bcs_r, bcs_l, bcs_a, brt_0, brt_1, ↓bz0, ↓bz1, true_and, and_true, false_and, and_false, and_self, Nat.reduceAdd, Nat.reduceLeDiff, Nat.reduceSub, Nat.reduceEqDiff, ite_true, ite_false, if_true, if_false, ↓reduceIte, Int32.reduceLT, Int32.reduceLE, Int32.reduceAdd, Int32.reduceSub, Int32.reduceMul, Int32.reduceDiv, Int32.reduceToNatClampNeg, Int64.reduceLT, or_true, or_false, true_or, false_or, Nat.reduceLT, eq_self]
  exact hh
theorem l_op12 {i : Nat} (hJ : JJ M) (hi : i + 5 < L) (hL : L ≤ 3072) (hn : ∀ M1, JJ M1 → Wp L xs 1000 224 987 [.retAddr 200, .ref 0, .ref 44, .int (nI i)] [] M1 Q1) : Wp L xs 1000 224 482 [.retAddr 200, .ref 0, .ref 44, .int (nI i)] [] M Q1 := by
  obtain ⟨T, T', hC, hM, hR⟩ := hJ
  have c0 := hC.1.1.1
  have ad : ∀ m : Nat, m < 6 → (0 ≤ nI (i + m) ∧ (nI (i + m)).toNatClampNeg = i + m ∧ i + m < L) := fun m hm => ⟨nI_pos' (by omega), nI_clamp (by omega), by omega⟩
  have a1 : nI i + 1 = nI (i + 1) := nI_add i 1
  obtain ⟨g1, p1, l1⟩ := ad 1 (by decide)
  have a2 : nI i + 2 = nI (i + 2) := nI_add i 2
  obtain ⟨g2, p2, l2⟩ := ad 2 (by decide)
  have a3 : nI i + 3 = nI (i + 3) := nI_add i 3
  obtain ⟨g3, p3, l3⟩ := ad 3 (by decide)
  have a4 : nI i + 4 = nI (i + 4) := nI_add i 4
  obtain ⟨g4, p4, l4⟩ := ad 4 (by decide)
  have a5 : nI i + 5 = nI (i + 5) := nI_add i 5
  obtain ⟨g5, p5, l5⟩ := ad 5 (by decide)
  simp only [↓e224_482, ↓e224_483, ↓e224_484, ↓e224_485, ↓e224_486, ↓e224_487, ↓e224_488, ↓e224_491, ↓e224_492, ↓e224_493, ↓e224_494, ↓e224_495, ↓e224_496, ↓e224_497, ↓e224_498, ↓e224_501, ↓e224_502, bc1_a, bd1, bd2, bd3, bd4, bd5, bd6, bd7, bd8, bd9, bd10, bd11, bd12, bd13, bd14, bd15, bd16, bd17, bd18, bd19, bd20, bd21, bd22, bd23, bd24, bd25, bd26, bd27, bd28, bd29, bd30, bd31, bd32, bd33, bd34, bd35, bd36, bd37, bd38, bd39, bc1_i, bc1_r, bc1_n, bc1_U, bisA_r, bisA_n, bisA_a, bct_i, bct_r, bct_n, bct_l, bcs_0, bcs_i, bcs_r, bcs_l, bcs_a, brt_0, brt_1, ↓bz0, ↓bz1, true_and, and_true, false_and, and_false, and_self, Nat.reduceAdd, Nat.reduceLeDiff, Nat.reduceSub, Nat.reduceEqDiff, ite_true, ite_false, if_true, if_false, ↓reduceIte, Int32.reduceLT, Int32.reduceLE, Int32.reduceAdd, Int32.reduceSub, Int32.reduceMul, Int32.reduceDiv, Int32.reduceToNatClampNeg, Int64.reduceLT, or_true, or_false, true_or, false_or, Nat.reduceLT, c0, a1, a2, a3, a4, a5, g1, g2, g3, g4, g5, p1, p2, p3, p4, p5, l1, l2, l3, l4, l5]
  refine k_wanted (d := 938) hC (fun M1 r1 k1 => ?_)
  have F1 := hM.kc k1.2
  have m0 := F1.1.1.1
  simp only [↓e224_482, ↓e224_483, ↓e224_484, ↓e224_485, ↓e224_486, ↓e224_487, ↓e224_488, ↓e224_491, ↓e224_492, ↓e224_493, ↓e224_494, ↓e224_495, ↓e224_496, ↓e224_497, ↓e224_498, ↓e224_501, ↓e224_502, bc1_a, bd1, bd2, bd3, bd4, bd5, bd6, bd7, bd8, bd9, bd10, bd11, bd12, bd13, bd14, bd15, bd16, bd17, bd18, bd19, bd20, bd21, bd22, bd23, bd24, bd25, bd26, bd27, bd28, bd29, bd30, bd31, bd32, bd33, bd34, bd35, bd36, bd37, bd38, bd39, bc1_i, bc1_r, bc1_n, bc1_U, bisA_r, bisA_n, bisA_a, bct_i, bct_r, bct_n, bct_l, bcs_0, bcs_i, bcs_r, bcs_l, bcs_a, brt_0, brt_1, ↓bz0, ↓bz1, true_and, and_true, false_and, and_false, and_self, Nat.reduceAdd, Nat.reduceLeDiff, Nat.reduceSub, Nat.reduceEqDiff, ite_true, ite_false, if_true, if_false, ↓reduceIte, Int32.reduceLT, Int32.reduceLE, Int32.reduceAdd, Int32.reduceSub, Int32.reduceMul, Int32.reduceDiv, Int32.reduceToNatClampNeg, Int64.reduceLT, or_true, or_false, true_or, false_or, Nat.reduceLT, m0, a1, a2, a3, a4, a5, g1, g2, g3, g4, g5, p1, p2, p3, p4, p5, l1, l2, l3, l4, l5]
  refine g_wanted (d := 939) F1 (fun M2 r2 k3 => ?_)
  have k2 := SM.fk F1 k3
  have hh := hn M2 ⟨_, _, k1.1.km k2.2, k2.1, hR⟩
  simp only [↓e224_482, ↓e224_483, ↓e224_484, ↓e224_485, ↓e224_486, ↓e224_487, ↓e224_488, ↓e224_491, ↓e224_492, ↓e224_493, ↓e224_494, ↓e224_495, ↓e224_496, ↓e224_497, ↓e224_498, ↓e224_501, ↓e224_502, bc1_a, bd1, bd2, bd3, bd4, bd5, bd6, bd7, bd8, bd9, bd10, bd11, bd12, bd13, bd14, bd15, bd16, bd17, bd18, bd19, bd20, bd21, bd22, bd23, bd24, bd25, bd26, bd27, bd28, bd29, bd30, bd31, bd32, bd33, bd34, bd35, bd36, bd37, bd38, bd39, bc1_i, bc1_r, bc1_n, bc1_U, bisA_r, bisA_n, bisA_a, bct_i, bct_r, bct_n, bct_l, bcs_0, bcs_i, bcs_r, bcs_l, bcs_a, brt_0, brt_1, ↓bz0, ↓bz1, true_and, and_true, false_and, and_false, and_self, Nat.reduceAdd, Nat.reduceLeDiff, Nat.reduceSub, Nat.reduceEqDiff, ite_true, ite_false, if_true, if_false, ↓reduceIte, Int32.reduceLT, Int32.reduceLE, Int32.reduceAdd, Int32.reduceSub, Int32.reduceMul, Int32.reduceDiv, Int32.reduceToNatClampNeg, Int64.reduceLT, or_true, or_false, true_or, false_or, Nat.reduceLT, eq_self]
  exact hh
theorem l_op13 {i : Nat} (hJ : JJ M) (hi : i + 5 < L) (hL : L ≤ 3072) (hn : ∀ M1, JJ M1 → Wp L xs 1000 224 987 [.retAddr 200, .ref 0, .ref 44, .int (nI i)] [] M1 Q1) : Wp L xs 1000 224 505 [.retAddr 200, .ref 0, .ref 44, .int (nI i)] [] M Q1 := by
  obtain ⟨T, T', hC, hM, hR⟩ := hJ
  have c0 := hC.1.1.1
  have ad : ∀ m : Nat, m < 6 → (0 ≤ nI (i + m) ∧ (nI (i + m)).toNatClampNeg = i + m ∧ i + m < L) := fun m hm => ⟨nI_pos' (by omega), nI_clamp (by omega), by omega⟩
  have a1 : nI i + 1 = nI (i + 1) := nI_add i 1
  obtain ⟨g1, p1, l1⟩ := ad 1 (by decide)
  have a2 : nI i + 2 = nI (i + 2) := nI_add i 2
  obtain ⟨g2, p2, l2⟩ := ad 2 (by decide)
  have a3 : nI i + 3 = nI (i + 3) := nI_add i 3
  obtain ⟨g3, p3, l3⟩ := ad 3 (by decide)
  have a4 : nI i + 4 = nI (i + 4) := nI_add i 4
  obtain ⟨g4, p4, l4⟩ := ad 4 (by decide)
  have a5 : nI i + 5 = nI (i + 5) := nI_add i 5
  obtain ⟨g5, p5, l5⟩ := ad 5 (by decide)
  simp only [↓e224_505, ↓e224_506, ↓e224_509, ↓e224_510, ↓e224_511, ↓e224_514, ↓e224_515, bc1_a, bd1, bd2, bd3, bd4, bd5, bd6, bd7, bd8, bd9, bd10, bd11, bd12, bd13, bd14, bd15, bd16, bd17, bd18, bd19, bd20, bd21, bd22, bd23, bd24, bd25, bd26, bd27, bd28, bd29, bd30, bd31, bd32, bd33, bd34, bd35, bd36, bd37, bd38, bd39, bc1_i, bc1_r, bc1_n, bc1_U, bisA_r, bisA_n, bisA_a, bct_i, bct_r, bct_n, bct_l, bcs_0, bcs_i, bcs_r, bcs_l, bcs_a, brt_0, brt_1, ↓bz0, ↓bz1, true_and, and_true, false_and, and_false, and_self, Nat.reduceAdd, Nat.reduceLeDiff, Nat.reduceSub, Nat.reduceEqDiff, ite_true, ite_false, if_true, if_false, ↓reduceIte, Int32.reduceLT, Int32.reduceLE, Int32.reduceAdd, Int32.reduceSub, Int32.reduceMul, Int32.reduceDiv, Int32.reduceToNatClampNeg, Int64.reduceLT, or_true, or_false, true_or, false_or, Nat.reduceLT, c0, a1, a2, a3, a4, a5, g1, g2, g3, g4, g5, p1, p2, p3, p4, p5, l1, l2, l3, l4, l5]
  refine k_soon (d := 938) hC (fun M1 r1 k1 => ?_)
  have F1 := hM.kc k1.2
  have m0 := F1.1.1.1
  simp only [↓e224_505, ↓e224_506, ↓e224_509, ↓e224_510, ↓e224_511, ↓e224_514, ↓e224_515, bc1_a, bd1, bd2, bd3, bd4, bd5, bd6, bd7, bd8, bd9, bd10, bd11, bd12, bd13, bd14, bd15, bd16, bd17, bd18, bd19, bd20, bd21, bd22, bd23, bd24, bd25, bd26, bd27, bd28, bd29, bd30, bd31, bd32, bd33, bd34, bd35, bd36, bd37, bd38, bd39, bc1_i, bc1_r, bc1_n, bc1_U, bisA_r, bisA_n, bisA_a, bct_i, bct_r, bct_n, bct_l, bcs_0, bcs_i, bcs_r, bcs_l, bcs_a, brt_0, brt_1, ↓bz0, ↓bz1, true_and, and_true, false_and, and_false, and_self, Nat.reduceAdd, Nat.reduceLeDiff, Nat.reduceSub, Nat.reduceEqDiff, ite_true, ite_false, if_true, if_false, ↓reduceIte, Int32.reduceLT, Int32.reduceLE, Int32.reduceAdd, Int32.reduceSub, Int32.reduceMul, Int32.reduceDiv, Int32.reduceToNatClampNeg, Int64.reduceLT, or_true, or_false, true_or, false_or, Nat.reduceLT, m0, a1, a2, a3, a4, a5, g1, g2, g3, g4, g5, p1, p2, p3, p4, p5, l1, l2, l3, l4, l5]
  refine g_soon (d := 939) F1 (fun M2 r2 k2 => ?_)
  have hh := hn M2 ⟨_, _, k1.1.km k2.2, k2.1, hR⟩
  simp only [↓e224_505, ↓e224_506, ↓e224_509, ↓e224_510, ↓e224_511, ↓e224_514, ↓e224_515, bc1_a, bd1, bd2, bd3, bd4, bd5, bd6, bd7, bd8, bd9, bd10, bd11, bd12, bd13, bd14, bd15, bd16, bd17, bd18, bd19, bd20, bd21, bd22, bd23, bd24, bd25, bd26, bd27, bd28, bd29, bd30, bd31, bd32, bd33, bd34, bd35, bd36, bd37, bd38, bd39, bc1_i, bc1_r, bc1_n, bc1_U, bisA_r, bisA_n, bisA_a, bct_i, bct_r, bct_n, bct_l, bcs_0, bcs_i, bcs_r, bcs_l, bcs_a, brt_0, brt_1, ↓bz0, ↓bz1, true_and, and_true, false_and, and_false, and_self, Nat.reduceAdd, Nat.reduceLeDiff, Nat.reduceSub, Nat.reduceEqDiff, ite_true, ite_false, if_true, if_false, ↓reduceIte, Int32.reduceLT, Int32.reduceLE, Int32.reduceAdd, Int32.reduceSub, Int32.reduceMul, Int32.reduceDiv, Int32.reduceToNatClampNeg, Int64.reduceLT, or_true, or_false, true_or, false_or, Nat.reduceLT, eq_self]
  exact hh
theorem l_op14 {i : Nat} (hJ : JJ M) (hi : i + 5 < L) (hL : L ≤ 3072) (hn : ∀ M1, JJ M1 → Wp L xs 1000 224 987 [.retAddr 200, .ref 0, .ref 44, .int (nI i)] [] M1 Q1) : Wp L xs 1000 224 518 [.retAddr 200, .ref 0, .ref 44, .int (nI i)] [] M Q1 := by
  obtain ⟨T, T', hC, hM, hR⟩ := hJ
  have c0 := hC.1.1.1
  have ad : ∀ m : Nat, m < 6 → (0 ≤ nI (i + m) ∧ (nI (i + m)).toNatClampNeg = i + m ∧ i + m < L) := fun m hm => ⟨nI_pos' (by omega), nI_clamp (by omega), by omega⟩
  have a1 : nI i + 1 = nI (i + 1) := nI_add i 1
  obtain ⟨g1, p1, l1⟩ := ad 1 (by decide)
  have a2 : nI i + 2 = nI (i + 2) := nI_add i 2
  obtain ⟨g2, p2, l2⟩ := ad 2 (by decide)
  have a3 : nI i + 3 = nI (i + 3) := nI_add i 3
  obtain ⟨g3, p3, l3⟩ := ad 3 (by decide)
  have a4 : nI i + 4 = nI (i + 4) := nI_add i 4
  obtain ⟨g4, p4, l4⟩ := ad 4 (by decide)
  have a5 : nI i + 5 = nI (i + 5) := nI_add i 5
  obtain ⟨g5, p5, l5⟩ := ad 5 (by decide)
  simp only [↓e224_518, ↓e224_519, ↓e224_522, ↓e224_523, ↓e224_524, ↓e224_527, ↓e224_528, bc1_a, bd1, bd2, bd3, bd4, bd5, bd6, bd7, bd8, bd9, bd10, bd11, bd12, bd13, bd14, bd15, bd16, bd17, bd18, bd19, bd20, bd21, bd22, bd23, bd24, bd25, bd26, bd27, bd28, bd29, bd30, bd31, bd32, bd33, bd34, bd35, bd36, bd37, bd38, bd39, bc1_i, bc1_r, bc1_n, bc1_U, bisA_r, bisA_n, bisA_a, bct_i, bct_r, bct_n, bct_l, bcs_0, bcs_i, bcs_r, bcs_l, bcs_a, brt_0, brt_1, ↓bz0, ↓bz1, true_and, and_true, false_and, and_false, and_self, Nat.reduceAdd, Nat.reduceLeDiff, Nat.reduceSub, Nat.reduceEqDiff, ite_true, ite_false, if_true, if_false, ↓reduceIte, Int32.reduceLT, Int32.reduceLE, Int32.reduceAdd, Int32.reduceSub, Int32.reduceMul, Int32.reduceDiv, Int32.reduceToNatClampNeg, Int64.reduceLT, or_true, or_false, true_or, false_or, Nat.reduceLT, c0, a1, a2, a3, a4, a5, g1, g2, g3, g4, g5, p1, p2, p3, p4, p5, l1, l2, l3, l4, l5]
  refine k_gentler (d := 938) hC (fun M1 r1 k1 => ?_)
  have F1 := hM.kc k1.2
  have m0 := F1.1.1.1
  simp only [↓e224_518, ↓e224_519, ↓e224_522, ↓e224_523, ↓e224_524, ↓e224_527, ↓e224_528, bc1_a, bd1, bd2, bd3, bd4, bd5, bd6, bd7, bd8, bd9, bd10, bd11, bd12, bd13, bd14, bd15, bd16, bd17, bd18, bd19, bd20, bd21, bd22, bd23, bd24, bd25, bd26, bd27, bd28, bd29, bd30, bd31, bd32, bd33, bd34, bd35, bd36, bd37, bd38, bd39, bc1_i, bc1_r, bc1_n, bc1_U, bisA_r, bisA_n, bisA_a, bct_i, bct_r, bct_n, bct_l, bcs_0, bcs_i, bcs_r, bcs_l, bcs_a, brt_0, brt_1, ↓bz0, ↓bz1, true_and, and_true, false_and, and_false, and_self, Nat.reduceAdd, Nat.reduceLeDiff, Nat.reduceSub, Nat.reduceEqDiff, ite_true, ite_false, if_true, if_false, ↓reduceIte, Int32.reduceLT, Int32.reduceLE, Int32.reduceAdd, Int32.reduceSub, Int32.reduceMul, Int32.reduceDiv, Int32.reduceToNatClampNeg, Int64.reduceLT, or_true, or_false, true_or, false_or, Nat.reduceLT, m0, a1, a2, a3, a4, a5, g1, g2, g3, g4, g5, p1, p2, p3, p4, p5, l1, l2, l3, l4, l5]
  refine g_gentler (d := 939) F1 (fun M2 r2 k3 => ?_)
  have k2 := SM.fk F1 k3
  have hh := hn M2 ⟨_, _, k1.1.km k2.2, k2.1, hR⟩
  simp only [↓e224_518, ↓e224_519, ↓e224_522, ↓e224_523, ↓e224_524, ↓e224_527, ↓e224_528, bc1_a, bd1, bd2, bd3, bd4, bd5, bd6, bd7, bd8, bd9, bd10, bd11, bd12, bd13, bd14, bd15, bd16, bd17, bd18, bd19, bd20, bd21, bd22, bd23, bd24, bd25, bd26, bd27, bd28, bd29, bd30, bd31, bd32, bd33, bd34, bd35, bd36, bd37, bd38, bd39, bc1_i, bc1_r, bc1_n, bc1_U, bisA_r, bisA_n, bisA_a, bct_i, bct_r, bct_n, bct_l, bcs_0, bcs_i, bcs_r, bcs_l, bcs_a, brt_0, brt_1, ↓bz0, ↓bz1, true_and, and_true, false_and, and_false, and_self, Nat.reduceAdd, Nat.reduceLeDiff, Nat.reduceSub, Nat.reduceEqDiff, ite_true, ite_false, if_true, if_false, ↓reduceIte, Int32.reduceLT, Int32.reduceLE, Int32.reduceAdd, Int32.reduceSub, Int32.reduceMul, Int32.reduceDiv, Int32.reduceToNatClampNeg, Int64.reduceLT, or_true, or_false, true_or, false_or, Nat.reduceLT, eq_self]
  exact hh
theorem l_op15 {i : Nat} (hJ : JJ M) (hi : i + 5 < L) (hL : L ≤ 3072) (hn : ∀ M1, JJ M1 → Wp L xs 1000 224 987 [.retAddr 200, .ref 0, .ref 44, .int (nI i)] [] M1 Q1) : Wp L xs 1000 224 531 [.retAddr 200, .ref 0, .ref 44, .int (nI i)] [] M Q1 := by
  obtain ⟨T, T', hC, hM, hR⟩ := hJ
  have c0 := hC.1.1.1
  have ad : ∀ m : Nat, m < 6 → (0 ≤ nI (i + m) ∧ (nI (i + m)).toNatClampNeg = i + m ∧ i + m < L) := fun m hm => ⟨nI_pos' (by omega), nI_clamp (by omega), by omega⟩
  have a1 : nI i + 1 = nI (i + 1) := nI_add i 1
  obtain ⟨g1, p1, l1⟩ := ad 1 (by decide)
  have a2 : nI i + 2 = nI (i + 2) := nI_add i 2
  obtain ⟨g2, p2, l2⟩ := ad 2 (by decide)
  have a3 : nI i + 3 = nI (i + 3) := nI_add i 3
  obtain ⟨g3, p3, l3⟩ := ad 3 (by decide)
  have a4 : nI i + 4 = nI (i + 4) := nI_add i 4
  obtain ⟨g4, p4, l4⟩ := ad 4 (by decide)
  have a5 : nI i + 5 = nI (i + 5) := nI_add i 5
  obtain ⟨g5, p5, l5⟩ := ad 5 (by decide)
  simp only [↓e224_531, ↓e224_532, ↓e224_533, ↓e224_534, ↓e224_535, ↓e224_536, ↓e224_537, ↓e224_538, ↓e224_539, ↓e224_540, ↓e224_541, ↓e224_542, ↓e224_543, ↓e224_544, ↓e224_545, ↓e224_546, ↓e224_547, ↓e224_548, ↓e224_549, ↓e224_550, ↓e224_551, ↓e224_552, ↓e224_555, ↓e224_556, ↓e224_557, ↓e224_558, ↓e224_559, ↓e224_560, ↓e224_561, ↓e224_562, ↓e224_563, ↓e224_564, ↓e224_565, ↓e224_566, ↓e224_567, ↓e224_568, ↓e224_569, ↓e224_570, ↓e224_571, ↓e224_572, ↓e224_573, ↓e224_574, ↓e224_575, ↓e224_576, ↓e224_577, ↓e224_580, ↓e224_581, bc1_a, bd1, bd2, bd3, bd4, bd5, bd6, bd7, bd8, bd9, bd10, bd11, bd12, bd13, bd14, bd15, bd16, bd17, bd18, bd19, bd20, bd21, bd22, bd23, bd24, bd25, bd26, bd27, bd28, bd29, bd30, bd31, bd32, bd33, bd34, bd35, bd36, bd37, bd38, bd39, bc1_i, bc1_r, bc1_n, bc1_U, bisA_r, bisA_n, bisA_a, bct_i, bct_r, bct_n, bct_l, bcs_0, bcs_i, bcs_r, bcs_l, bcs_a, brt_0, brt_1, ↓bz0, ↓bz1, true_and, and_true, false_and, and_false, and_self, Nat.reduceAdd, Nat.reduceLeDiff, Nat.reduceSub, Nat.reduceEqDiff, ite_true, ite_false, if_true, if_false, ↓reduceIte, Int32.reduceLT, Int32.reduceLE, Int32.reduceAdd, Int32.reduceSub, Int32.reduceMul, Int32.reduceDiv, Int32.reduceToNatClampNeg, Int64.reduceLT, or_true, or_false, true_or, false_or, Nat.reduceLT, c0, a1, a2, a3, a4, a5, g1, g2, g3, g4, g5, p1, p2, p3, p4, p5, l1, l2, l3, l4, l5]
  refine k_tells (d := 938) hC (fun M1 r1 k1 => ?_)
  have F1 := hM.kc k1.2
  have m0 := F1.1.1.1
  simp only [↓e224_531, ↓e224_532, ↓e224_533, ↓e224_534, ↓e224_535, ↓e224_536, ↓e224_537, ↓e224_538, ↓e224_539, ↓e224_540, ↓e224_541, ↓e224_542, ↓e224_543, ↓e224_544, ↓e224_545, ↓e224_546, ↓e224_547, ↓e224_548, ↓e224_549, ↓e224_550, ↓e224_551, ↓e224_552, ↓e224_555, ↓e224_556, ↓e224_557, ↓e224_558, ↓e224_559, ↓e224_560, ↓e224_561, ↓e224_562, ↓e224_563, ↓e224_564, ↓e224_565, ↓e224_566, ↓e224_567, ↓e224_568, ↓e224_569, ↓e224_570, ↓e224_571, ↓e224_572, ↓e224_573, ↓e224_574, ↓e224_575, ↓e224_576, ↓e224_577, ↓e224_580, ↓e224_581, bc1_a, bd1, bd2, bd3, bd4, bd5, bd6, bd7, bd8, bd9, bd10, bd11, bd12, bd13, bd14, bd15, bd16, bd17, bd18, bd19, bd20, bd21, bd22, bd23, bd24, bd25, bd26, bd27, bd28, bd29, bd30, bd31, bd32, bd33, bd34, bd35, bd36, bd37, bd38, bd39, bc1_i, bc1_r, bc1_n, bc1_U, bisA_r, bisA_n, bisA_a, bct_i, bct_r, bct_n, bct_l, bcs_0, bcs_i, bcs_r, bcs_l, bcs_a, brt_0, brt_1, ↓bz0, ↓bz1, true_and, and_true, false_and, and_false, and_self, Nat.reduceAdd, Nat.reduceLeDiff, Nat.reduceSub, Nat.reduceEqDiff, ite_true, ite_false, if_true, if_false, ↓reduceIte, Int32.reduceLT, Int32.reduceLE, Int32.reduceAdd, Int32.reduceSub, Int32.reduceMul, Int32.reduceDiv, Int32.reduceToNatClampNeg, Int64.reduceLT, or_true, or_false, true_or, false_or, Nat.reduceLT, m0, a1, a2, a3, a4, a5, g1, g2, g3, g4, g5, p1, p2, p3, p4, p5, l1, l2, l3, l4, l5]
  refine g_tells (d := 938) F1 (fun M2 r2 k2 => ?_)
  have hh := hn M2 ⟨_, _, k1.1.km k2.2, k2.1, hR⟩
  simp only [↓e224_531, ↓e224_532, ↓e224_533, ↓e224_534, ↓e224_535, ↓e224_536, ↓e224_537, ↓e224_538, ↓e224_539, ↓e224_540, ↓e224_541, ↓e224_542, ↓e224_543, ↓e224_544, ↓e224_545, ↓e224_546, ↓e224_547, ↓e224_548, ↓e224_549, ↓e224_550, ↓e224_551, ↓e224_552, ↓e224_555, ↓e224_556, ↓e224_557, ↓e224_558, ↓e224_559, ↓e224_560, ↓e224_561, ↓e224_562, ↓e224_563, ↓e224_564, ↓e224_565, ↓e224_566, ↓e224_567, ↓e224_568, ↓e224_569, ↓e224_570, ↓e224_571, ↓e224_572, ↓e224_573, ↓e224_574, ↓e224_575, ↓e224_576, ↓e224_577, ↓e224_580, ↓e224_581, bc1_a, bd1, bd2, bd3, bd4, bd5, bd6, bd7, bd8, bd9, bd10, bd11, bd12, bd13, bd14, bd15, bd16, bd17, bd18, bd19, bd20, bd21, bd22, bd23, bd24, bd25, bd26, bd27, bd28, bd29, bd30, bd31, bd32, bd33, bd34, bd35, bd36, bd37, bd38, bd39, bc1_i, bc1_r, bc1_n, bc1_U, bisA_r, bisA_n, bisA_a, bct_i, bct_r, bct_n, bct_l, bcs_0, bcs_i, bcs_r, bcs_l, bcs_a, brt_0, brt_1, ↓bz0, ↓bz1, true_and, and_true, false_and, and_false, and_self, Nat.reduceAdd, Nat.reduceLeDiff, Nat.reduceSub, Nat.reduceEqDiff, ite_true, ite_false, if_true, if_false, ↓reduceIte, Int32.reduceLT, Int32.reduceLE, Int32.reduceAdd, Int32.reduceSub, Int32.reduceMul, Int32.reduceDiv, Int32.reduceToNatClampNeg, Int64.reduceLT, or_true, or_false, true_or, false_or, Nat.reduceLT, eq_self]
  exact hh
theorem l_op16 {i : Nat} (hJ : JJ M) (hi : i + 5 < L) (hL : L ≤ 3072) (hn : ∀ M1, JJ M1 → Wp L xs 1000 224 987 [.retAddr 200, .ref 0, .ref 44, .int (nI i)] [] M1 Q1) : Wp L xs 1000 224 584 [.retAddr 200, .ref 0, .ref 44, .int (nI i)] [] M Q1 := by
  obtain ⟨T, T', hC, hM, hR⟩ := hJ
  have c0 := hC.1.1.1
  have ad : ∀ m : Nat, m < 6 → (0 ≤ nI (i + m) ∧ (nI (i + m)).toNatClampNeg = i + m ∧ i + m < L) := fun m hm => ⟨nI_pos' (by omega), nI_clamp (by omega), by omega⟩
  have a1 : nI i + 1 = nI (i + 1) := nI_add i 1
  obtain ⟨g1, p1, l1⟩ := ad 1 (by decide)
  have a2 : nI i + 2 = nI (i + 2) := nI_add i 2
  obtain ⟨g2, p2, l2⟩ := ad 2 (by decide)
  have a3 : nI i + 3 = nI (i + 3) := nI_add i 3
  obtain ⟨g3, p3, l3⟩ := ad 3 (by decide)
  have a4 : nI i + 4 = nI (i + 4) := nI_add i 4
  obtain ⟨g4, p4, l4⟩ := ad 4 (by decide)
  have a5 : nI i + 5 = nI (i + 5) := nI_add i 5
  obtain ⟨g5, p5, l5⟩ := ad 5 (by decide)
  simp only [↓e224_584, ↓e224_585, ↓e224_586, ↓e224_587, ↓e224_588, ↓e224_589, ↓e224_590, ↓e224_591, ↓e224_592, ↓e224_593, ↓e224_594, ↓e224_595, ↓e224_596, ↓e224_597, ↓e224_598, ↓e224_599, ↓e224_600, ↓e224_601, ↓e224_602, ↓e224_603, ↓e224_604, ↓e224_605, ↓e224_608, ↓e224_609, ↓e224_610, ↓e224_611, ↓e224_612, ↓e224_613, ↓e224_614, ↓e224_615, ↓e224_616, ↓e224_617, ↓e224_618, ↓e224_619, ↓e224_620, ↓e224_621, ↓e224_622, ↓e224_623, ↓e224_624, ↓e224_625, ↓e224_626, ↓e224_627, ↓e224_628, ↓e224_629, ↓e224_630, ↓e224_633, ↓e224_634, bc1_a, bd1, bd2, bd3, bd4, bd5, bd6, bd7, bd8, bd9, bd10, bd11, bd12, bd13, bd14, bd15, bd16, bd17, bd18, bd19, bd20, bd21, bd22, bd23, bd24, bd25, bd26, bd27, bd28, bd29, bd30, bd31, bd32, bd33, bd34, bd35, bd36, bd37, bd38, bd39, bc1_i, bc1_r, bc1_n, bc1_U, bisA_r, bisA_n, bisA_a, bct_i, bct_r, bct_n, bct_l, bcs_0, bcs_i, bcs_r, bcs_l, bcs_a, brt_0, brt_1, ↓bz0, ↓bz1, true_and, and_true, false_and, and_false, and_self, Nat.reduceAdd, Nat.reduceLeDiff, Nat.reduceSub, Nat.reduceEqDiff, ite_true, ite_false, if_true, if_false, ↓reduceIte, Int32.reduceLT, Int32.reduceLE, Int32.reduceAdd, Int32.reduceSub, Int32.reduceMul, Int32.reduceDiv, Int32.reduceToNatClampNeg, Int64.reduceLT, or_true, or_false, true_or, false_or, Nat.reduceLT, c0, a1, a2, a3, a4, a5, g1, g2, g3, g4, g5, p1, p2, p3, p4, p5, l1, l2, l3, l4, l5]
  refine k_film (d := 938) hC (fun M1 r1 k1 => ?_)
  have F1 := hM.kc k1.2
  have m0 := F1.1.1.1
  simp only [↓e224_584, ↓e224_585, ↓e224_586, ↓e224_587, ↓e224_588, ↓e224_589, ↓e224_590, ↓e224_591, ↓e224_592, ↓e224_593, ↓e224_594, ↓e224_595, ↓e224_596, ↓e224_597, ↓e224_598, ↓e224_599, ↓e224_600, ↓e224_601, ↓e224_602, ↓e224_603, ↓e224_604, ↓e224_605, ↓e224_608, ↓e224_609, ↓e224_610, ↓e224_611, ↓e224_612, ↓e224_613, ↓e224_614, ↓e224_615, ↓e224_616, ↓e224_617, ↓e224_618, ↓e224_619, ↓e224_620, ↓e224_621, ↓e224_622, ↓e224_623, ↓e224_624, ↓e224_625, ↓e224_626, ↓e224_627, ↓e224_628, ↓e224_629, ↓e224_630, ↓e224_633, ↓e224_634, bc1_a, bd1, bd2, bd3, bd4, bd5, bd6, bd7, bd8, bd9, bd10, bd11, bd12, bd13, bd14, bd15, bd16, bd17, bd18, bd19, bd20, bd21, bd22, bd23, bd24, bd25, bd26, bd27, bd28, bd29, bd30, bd31, bd32, bd33, bd34, bd35, bd36, bd37, bd38, bd39, bc1_i, bc1_r, bc1_n, bc1_U, bisA_r, bisA_n, bisA_a, bct_i, bct_r, bct_n, bct_l, bcs_0, bcs_i, bcs_r, bcs_l, bcs_a, brt_0, brt_1, ↓bz0, ↓bz1, true_and, and_true, false_and, and_false, and_self, Nat.reduceAdd, Nat.reduceLeDiff, Nat.reduceSub, Nat.reduceEqDiff, ite_true, ite_false, if_true, if_false, ↓reduceIte, Int32.reduceLT, Int32.reduceLE, Int32.reduceAdd, Int32.reduceSub, Int32.reduceMul, Int32.reduceDiv, Int32.reduceToNatClampNeg, Int64.reduceLT, or_true, or_false, true_or, false_or, Nat.reduceLT, m0, a1, a2, a3, a4, a5, g1, g2, g3, g4, g5, p1, p2, p3, p4, p5, l1, l2, l3, l4, l5]
  refine g_film (d := 938) F1 (fun M2 r2 k2 => ?_)
  have hh := hn M2 ⟨_, _, k1.1.km k2.2, k2.1, hR⟩
  simp only [↓e224_584, ↓e224_585, ↓e224_586, ↓e224_587, ↓e224_588, ↓e224_589, ↓e224_590, ↓e224_591, ↓e224_592, ↓e224_593, ↓e224_594, ↓e224_595, ↓e224_596, ↓e224_597, ↓e224_598, ↓e224_599, ↓e224_600, ↓e224_601, ↓e224_602, ↓e224_603, ↓e224_604, ↓e224_605, ↓e224_608, ↓e224_609, ↓e224_610, ↓e224_611, ↓e224_612, ↓e224_613, ↓e224_614, ↓e224_615, ↓e224_616, ↓e224_617, ↓e224_618, ↓e224_619, ↓e224_620, ↓e224_621, ↓e224_622, ↓e224_623, ↓e224_624, ↓e224_625, ↓e224_626, ↓e224_627, ↓e224_628, ↓e224_629, ↓e224_630, ↓e224_633, ↓e224_634, bc1_a, bd1, bd2, bd3, bd4, bd5, bd6, bd7, bd8, bd9, bd10, bd11, bd12, bd13, bd14, bd15, bd16, bd17, bd18, bd19, bd20, bd21, bd22, bd23, bd24, bd25, bd26, bd27, bd28, bd29, bd30, bd31, bd32, bd33, bd34, bd35, bd36, bd37, bd38, bd39, bc1_i, bc1_r, bc1_n, bc1_U, bisA_r, bisA_n, bisA_a, bct_i, bct_r, bct_n, bct_l, bcs_0, bcs_i, bcs_r, bcs_l, bcs_a, brt_0, brt_1, ↓bz0, ↓bz1, true_and, and_true, false_and, and_false, and_self, Nat.reduceAdd, Nat.reduceLeDiff, Nat.reduceSub, Nat.reduceEqDiff, ite_true, ite_false, if_true, if_false, ↓reduceIte, Int32.reduceLT, Int32.reduceLE, Int32.reduceAdd, Int32.reduceSub, Int32.reduceMul, Int32.reduceDiv, Int32.reduceToNatClampNeg, Int64.reduceLT, or_true, or_false, true_or, false_or, Nat.reduceLT, eq_self]
  exact hh
theorem l_op17 {i : Nat} (hJ : JJ M) (hi : i + 5 < L) (hL : L ≤ 3072) (hn : ∀ M1, JJ M1 → Wp L xs 1000 224 987 [.retAddr 200, .ref 0, .ref 44, .int (nI i)] [] M1 Q1) : Wp L xs 1000 224 637 [.retAddr 200, .ref 0, .ref 44, .int (nI i)] [] M Q1 := by
  obtain ⟨T, T', hC, hM, hR⟩ := hJ
  have c0 := hC.1.1.1
  have ad : ∀ m : Nat, m < 6 → (0 ≤ nI (i + m) ∧ (nI (i + m)).toNatClampNeg = i + m ∧ i + m < L) := fun m hm => ⟨nI_pos' (by omega), nI_clamp (by omega), by omega⟩
  have a1 : nI i + 1 = nI (i + 1) := nI_add i 1
  obtain ⟨g1, p1, l1⟩ := ad 1 (by decide)
  have a2 : nI i + 2 = nI (i + 2) := nI_add i 2
  obtain ⟨g2, p2, l2⟩ := ad 2 (by decide)
  have a3 : nI i + 3 = nI (i + 3) := nI_add i 3
  obtain ⟨g3, p3, l3⟩ := ad 3 (by decide)
  have a4 : nI i + 4 = nI (i + 4) := nI_add i 4
  obtain ⟨g4, p4, l4⟩ := ad 4 (by decide)
  have a5 : nI i + 5 = nI (i + 5) := nI_add i 5
  obtain ⟨g5, p5, l5⟩ := ad 5 (by decide)
  simp only [↓e224_637, ↓e224_638, ↓e224_639, ↓e224_640, ↓e224_641, ↓e224_642, ↓e224_643, ↓e224_646, ↓e224_647, ↓e224_648, ↓e224_649, ↓e224_650, ↓e224_651, ↓e224_652, ↓e224_653, ↓e224_656, ↓e224_657, bc1_a, bd1, bd2, bd3, bd4, bd5, bd6, bd7, bd8, bd9, bd10, bd11, bd12, bd13, bd14, bd15, bd16, bd17, bd18, bd19, bd20, bd21, bd22, bd23, bd24, bd25, bd26, bd27, bd28, bd29, bd30, bd31, bd32, bd33, bd34, bd35, bd36, bd37, bd38, bd39, bc1_i, bc1_r, bc1_n, bc1_U, bisA_r, bisA_n, bisA_a, bct_i, bct_r, bct_n, bct_l, bcs_0, bcs_i, bcs_r, bcs_l, bcs_a, brt_0, brt_1, ↓bz0, ↓bz1, true_and, and_true, false_and, and_false, and_self, Nat.reduceAdd, Nat.reduceLeDiff, Nat.reduceSub, Nat.reduceEqDiff, ite_true, ite_false, if_true, if_false, ↓reduceIte, Int32.reduceLT, Int32.reduceLE, Int32.reduceAdd, Int32.reduceSub, Int32.reduceMul, Int32.reduceDiv, Int32.reduceToNatClampNeg, Int64.reduceLT, or_true, or_false, true_or, false_or, Nat.reduceLT, c0, a1, a2, a3, a4, a5, g1, g2, g3, g4, g5, p1, p2, p3, p4, p5, l1, l2, l3, l4, l5]
  refine k_drawn (d := 938) hC (fun M1 r1 k1 => ?_)
  have F1 := hM.kc k1.2
  have m0 := F1.1.1.1
  simp only [↓e224_637, ↓e224_638, ↓e224_639, ↓e224_640, ↓e224_641, ↓e224_642, ↓e224_643, ↓e224_646, ↓e224_647, ↓e224_648, ↓e224_649, ↓e224_650, ↓e224_651, ↓e224_652, ↓e224_653, ↓e224_656, ↓e224_657, bc1_a, bd1, bd2, bd3, bd4, bd5, bd6, bd7, bd8, bd9, bd10, bd11, bd12, bd13, bd14, bd15, bd16, bd17, bd18, bd19, bd20, bd21, bd22, bd23, bd24, bd25, bd26, bd27, bd28, bd29, bd30, bd31, bd32, bd33, bd34, bd35, bd36, bd37, bd38, bd39, bc1_i, bc1_r, bc1_n, bc1_U, bisA_r, bisA_n, bisA_a, bct_i, bct_r, bct_n, bct_l, bcs_0, bcs_i, bcs_r, bcs_l, bcs_a, brt_0, brt_1, ↓bz0, ↓bz1, true_and, and_true, false_and, and_false, and_self, Nat.reduceAdd, Nat.reduceLeDiff, Nat.reduceSub, Nat.reduceEqDiff, ite_true, ite_false, if_true, if_false, ↓reduceIte, Int32.reduceLT, Int32.reduceLE, Int32.reduceAdd, Int32.reduceSub, Int32.reduceMul, Int32.reduceDiv, Int32.reduceToNatClampNeg, Int64.reduceLT, or_true, or_false, true_or, false_or, Nat.reduceLT, m0, a1, a2, a3, a4, a5, g1, g2, g3, g4, g5, p1, p2, p3, p4, p5, l1, l2, l3, l4, l5]
  refine g_drawn (d := 939) F1 (fun M2 r2 k2 => ?_)
  have hh := hn M2 ⟨_, _, k1.1.km k2.2, k2.1, hR⟩
  simp only [↓e224_637, ↓e224_638, ↓e224_639, ↓e224_640, ↓e224_641, ↓e224_642, ↓e224_643, ↓e224_646, ↓e224_647, ↓e224_648, ↓e224_649, ↓e224_650, ↓e224_651, ↓e224_652, ↓e224_653, ↓e224_656, ↓e224_657, bc1_a, bd1, bd2, bd3, bd4, bd5, bd6, bd7, bd8, bd9, bd10, bd11, bd12, bd13, bd14, bd15, bd16, bd17, bd18, bd19, bd20, bd21, bd22, bd23, bd24, bd25, bd26, bd27, bd28, bd29, bd30, bd31, bd32, bd33, bd34, bd35, bd36, bd37, bd38, bd39, bc1_i, bc1_r, bc1_n, bc1_U, bisA_r, bisA_n, bisA_a, bct_i, bct_r, bct_n, bct_l, bcs_0, bcs_i, bcs_r, bcs_l, bcs_a, brt_0, brt_1, ↓bz0, ↓bz1, true_and, and_true, false_and, and_false, and_self, Nat.reduceAdd, Nat.reduceLeDiff, Nat.reduceSub, Nat.reduceEqDiff, ite_true, ite_false, if_true, if_false, ↓reduceIte, Int32.reduceLT, Int32.reduceLE, Int32.reduceAdd, Int32.reduceSub, Int32.reduceMul, Int32.reduceDiv, Int32.reduceToNatClampNeg, Int64.reduceLT, or_true, or_false, true_or, false_or, Nat.reduceLT, eq_self]
  exact hh
theorem l_op18 {i : Nat} (hJ : JJ M) (hi : i + 5 < L) (hL : L ≤ 3072) (hn : ∀ M1, JJ M1 → Wp L xs 1000 224 987 [.retAddr 200, .ref 0, .ref 44, .int (nI i)] [] M1 Q1) : Wp L xs 1000 224 660 [.retAddr 200, .ref 0, .ref 44, .int (nI i)] [] M Q1 := by
  obtain ⟨T, T', hC, hM, hR⟩ := hJ
  have c0 := hC.1.1.1
  have ad : ∀ m : Nat, m < 6 → (0 ≤ nI (i + m) ∧ (nI (i + m)).toNatClampNeg = i + m ∧ i + m < L) := fun m hm => ⟨nI_pos' (by omega), nI_clamp (by omega), by omega⟩
  have a1 : nI i + 1 = nI (i + 1) := nI_add i 1
  obtain ⟨g1, p1, l1⟩ := ad 1 (by decide)
  have a2 : nI i + 2 = nI (i + 2) := nI_add i 2
  obtain ⟨g2, p2, l2⟩ := ad 2 (by decide)
  have a3 : nI i + 3 = nI (i + 3) := nI_add i 3
  obtain ⟨g3, p3, l3⟩ := ad 3 (by decide)
  have a4 : nI i + 4 = nI (i + 4) := nI_add i 4
  obtain ⟨g4, p4, l4⟩ := ad 4 (by decide)
  have a5 : nI i + 5 = nI (i + 5) := nI_add i 5
  obtain ⟨g5, p5, l5⟩ := ad 5 (by decide)
  simp only [↓e224_660, ↓e224_661, ↓e224_662, ↓e224_663, ↓e224_664, ↓e224_665, ↓e224_666, ↓e224_667, ↓e224_668, ↓e224_669, ↓e224_670, ↓e224_671, ↓e224_672, ↓e224_673, ↓e224_674, ↓e224_675, ↓e224_676, ↓e224_679, ↓e224_680, ↓e224_681, ↓e224_682, ↓e224_683, ↓e224_684, ↓e224_685, ↓e224_686, ↓e224_687, ↓e224_688, ↓e224_689, ↓e224_690, ↓e224_691, ↓e224_692, ↓e224_693, ↓e224_694, ↓e224_695, ↓e224_696, ↓e224_699, ↓e224_700, bc1_a, bd1, bd2, bd3, bd4, bd5, bd6, bd7, bd8, bd9, bd10, bd11, bd12, bd13, bd14, bd15, bd16, bd17, bd18, bd19, bd20, bd21, bd22, bd23, bd24, bd25, bd26, bd27, bd28, bd29, bd30, bd31, bd32, bd33, bd34, bd35, bd36, bd37, bd38, bd39, bc1_i, bc1_r, bc1_n, bc1_U, bisA_r, bisA_n, bisA_a, bct_i, bct_r, bct_n, bct_l, bcs_0, bcs_i, bcs_r, bcs_l, bcs_a, brt_0, brt_1, ↓bz0, ↓bz1, true_and, and_true, false_and, and_false, and_self, Nat.reduceAdd, Nat.reduceLeDiff, Nat.reduceSub, Nat.reduceEqDiff, ite_true, ite_false, if_true, if_false, ↓reduceIte, Int32.reduceLT, Int32.reduceLE, Int32.reduceAdd, Int32.reduceSub, Int32.reduceMul, Int32.reduceDiv, Int32.reduceToNatClampNeg, Int64.reduceLT, or_true, or_false, true_or, false_or, Nat.reduceLT, c0, a1, a2, a3, a4, a5, g1, g2, g3, g4, g5, p1, p2, p3, p4, p5, l1, l2, l3, l4, l5]
  refine k_chance (d := 938) hC (fun M1 r1 k1 => ?_)
  have F1 := hM.kc k1.2
  have m0 := F1.1.1.1
  simp only [↓e224_660, ↓e224_661, ↓e224_662, ↓e224_663, ↓e224_664, ↓e224_665, ↓e224_666, ↓e224_667, ↓e224_668, ↓e224_669, ↓e224_670, ↓e224_671, ↓e224_672, ↓e224_673, ↓e224_674, ↓e224_675, ↓e224_676, ↓e224_679, ↓e224_680, ↓e224_681, ↓e224_682, ↓e224_683, ↓e224_684, ↓e224_685, ↓e224_686, ↓e224_687, ↓e224_688, ↓e224_689, ↓e224_690, ↓e224_691, ↓e224_692, ↓e224_693, ↓e224_694, ↓e224_695, ↓e224_696, ↓e224_699, ↓e224_700, bc1_a, bd1, bd2, bd3, bd4, bd5, bd6, bd7, bd8, bd9, bd10, bd11, bd12, bd13, bd14, bd15, bd16, bd17, bd18, bd19, bd20, bd21, bd22, bd23, bd24, bd25, bd26, bd27, bd28, bd29, bd30, bd31, bd32, bd33, bd34, bd35, bd36, bd37, bd38, bd39, bc1_i, bc1_r, bc1_n, bc1_U, bisA_r, bisA_n, bisA_a, bct_i, bct_r, bct_n, bct_l, bcs_0, bcs_i, bcs_r, bcs_l, bcs_a, brt_0, brt_1, ↓bz0, ↓bz1, true_and, and_true, false_and, and_false, and_self, Nat.reduceAdd, Nat.reduceLeDiff, Nat.reduceSub, Nat.reduceEqDiff, ite_true, ite_false, if_true, if_false, ↓reduceIte, Int32.reduceLT, Int32.reduceLE, Int32.reduceAdd, Int32.reduceSub, Int32.reduceMul, Int32.reduceDiv, Int32.reduceToNatClampNeg, Int64.reduceLT, or_true, or_false, true_or, false_or, Nat.reduceLT, m0, a1, a2, a3, a4, a5, g1, g2, g3, g4, g5, p1, p2, p3, p4, p5, l1, l2, l3, l4, l5]
  refine g_chance (d := 939) F1 (fun M2 r2 k2 => ?_)
  have hh := hn M2 ⟨_, _, k1.1.km k2.2, k2.1, hR⟩
  simp only [↓e224_660, ↓e224_661, ↓e224_662, ↓e224_663, ↓e224_664, ↓e224_665, ↓e224_666, ↓e224_667, ↓e224_668, ↓e224_669, ↓e224_670, ↓e224_671, ↓e224_672, ↓e224_673, ↓e224_674, ↓e224_675, ↓e224_676, ↓e224_679, ↓e224_680, ↓e224_681, ↓e224_682, ↓e224_683, ↓e224_684, ↓e224_685, ↓e224_686, ↓e224_687, ↓e224_688, ↓e224_689, ↓e224_690, ↓e224_691, ↓e224_692, ↓e224_693, ↓e224_694, ↓e224_695, ↓e224_696, ↓e224_699, ↓e224_700, bc1_a, bd1, bd2, bd3, bd4, bd5, bd6, bd7, bd8, bd9, bd10, bd11, bd12, bd13, bd14, bd15, bd16, bd17, bd18, bd19, bd20, bd21, bd22, bd23, bd24, bd25, bd26, bd27, bd28, bd29, bd30, bd31, bd32, bd33, bd34, bd35, bd36, bd37, bd38, bd39, bc1_i, bc1_r, bc1_n, bc1_U, bisA_r, bisA_n, bisA_a, bct_i, bct_r, bct_n, bct_l, bcs_0, bcs_i, bcs_r, bcs_l, bcs_a, brt_0, brt_1, ↓bz0, ↓bz1, true_and, and_true, false_and, and_false, and_self, Nat.reduceAdd, Nat.reduceLeDiff, Nat.reduceSub, Nat.reduceEqDiff, ite_true, ite_false, if_true, if_false, ↓reduceIte, Int32.reduceLT, Int32.reduceLE, Int32.reduceAdd, Int32.reduceSub, Int32.reduceMul, Int32.reduceDiv, Int32.reduceToNatClampNeg, Int64.reduceLT, or_true, or_false, true_or, false_or, Nat.reduceLT, eq_self]
  exact hh
theorem l_op19 {i : Nat} (hJ : JJ M) (hi : i + 5 < L) (hL : L ≤ 3072) (hn : ∀ M1, JJ M1 → Wp L xs 1000 224 987 [.retAddr 200, .ref 0, .ref 44, .int (nI i)] [] M1 Q1) : Wp L xs 1000 224 703 [.retAddr 200, .ref 0, .ref 44, .int (nI i)] [] M Q1 := by
  obtain ⟨T, T', hC, hM, hR⟩ := hJ
  have c0 := hC.1.1.1
  have ad : ∀ m : Nat, m < 6 → (0 ≤ nI (i + m) ∧ (nI (i + m)).toNatClampNeg = i + m ∧ i + m < L) := fun m hm => ⟨nI_pos' (by omega), nI_clamp (by omega), by omega⟩
  have a1 : nI i + 1 = nI (i + 1) := nI_add i 1
  obtain ⟨g1, p1, l1⟩ := ad 1 (by decide)
  have a2 : nI i + 2 = nI (i + 2) := nI_add i 2
  obtain ⟨g2, p2, l2⟩ := ad 2 (by decide)
  have a3 : nI i + 3 = nI (i + 3) := nI_add i 3
  obtain ⟨g3, p3, l3⟩ := ad 3 (by decide)
  have a4 : nI i + 4 = nI (i + 4) := nI_add i 4
  obtain ⟨g4, p4, l4⟩ := ad 4 (by decide)
  have a5 : nI i + 5 = nI (i + 5) := nI_add i 5
  obtain ⟨g5, p5, l5⟩ := ad 5 (by decide)
  simp only [↓e224_703, ↓e224_704, ↓e224_707, ↓e224_708, ↓e224_709, ↓e224_712, ↓e224_713, bc1_a, bd1, bd2, bd3, bd4, bd5, bd6, bd7, bd8, bd9, bd10, bd11, bd12, bd13, bd14, bd15, bd16, bd17, bd18, bd19, bd20, bd21, bd22, bd23, bd24, bd25, bd26, bd27, bd28, bd29, bd30, bd31, bd32, bd33, bd34, bd35, bd36, bd37, bd38, bd39, bc1_i, bc1_r, bc1_n, bc1_U, bisA_r, bisA_n, bisA_a, bct_i, bct_r, bct_n, bct_l, bcs_0, bcs_i, bcs_r, bcs_l, bcs_a, brt_0, brt_1, ↓bz0, ↓bz1, true_and, and_true, false_and, and_false, and_self, Nat.reduceAdd, Nat.reduceLeDiff, Nat.reduceSub, Nat.reduceEqDiff, ite_true, ite_false, if_true, if_false, ↓reduceIte, Int32.reduceLT, Int32.reduceLE, Int32.reduceAdd, Int32.reduceSub, Int32.reduceMul, Int32.reduceDiv, Int32.reduceToNatClampNeg, Int64.reduceLT, or_true, or_false, true_or, false_or, Nat.reduceLT, c0, a1, a2, a3, a4, a5, g1, g2, g3, g4, g5, p1, p2, p3, p4, p5, l1, l2, l3, l4, l5]
  refine k_image (d := 938) hC (fun M1 r1 k1 => ?_)
  have F1 := hM.kc k1.2
  have m0 := F1.1.1.1
  simp only [↓e224_703, ↓e224_704, ↓e224_707, ↓e224_708, ↓e224_709, ↓e224_712, ↓e224_713, bc1_a, bd1, bd2, bd3, bd4, bd5, bd6, bd7, bd8, bd9, bd10, bd11, bd12, bd13, bd14, bd15, bd16, bd17, bd18, bd19, bd20, bd21, bd22, bd23, bd24, bd25, bd26, bd27, bd28, bd29, bd30, bd31, bd32, bd33, bd34, bd35, bd36, bd37, bd38, bd39, bc1_i, bc1_r, bc1_n, bc1_U, bisA_r, bisA_n, bisA_a, bct_i, bct_r, bct_n, bct_l, bcs_0, bcs_i, bcs_r, bcs_l, bcs_a, brt_0, brt_1, ↓bz0, ↓bz1, true_and, and_true, false_and, and_false, and_self, Nat.reduceAdd, Nat.reduceLeDiff, Nat.reduceSub, Nat.reduceEqDiff, ite_true, ite_false, if_true, if_false, ↓reduceIte, Int32.reduceLT, Int32.reduceLE, Int32.reduceAdd, Int32.reduceSub, Int32.reduceMul, Int32.reduceDiv, Int32.reduceToNatClampNeg, Int64.reduceLT, or_true, or_false, true_or, false_or, Nat.reduceLT, m0, a1, a2, a3, a4, a5, g1, g2, g3, g4, g5, p1, p2, p3, p4, p5, l1, l2, l3, l4, l5]
  refine g_image (d := 939) F1 (fun M2 r2 k2 => ?_)
  have hh := hn M2 ⟨_, _, k1.1.km k2.2, k2.1, hR.image⟩
  simp only [↓e224_703, ↓e224_704, ↓e224_707, ↓e224_708, ↓e224_709, ↓e224_712, ↓e224_713, bc1_a, bd1, bd2, bd3, bd4, bd5, bd6, bd7, bd8, bd9, bd10, bd11, bd12, bd13, bd14, bd15, bd16, bd17, bd18, bd19, bd20, bd21, bd22, bd23, bd24, bd25, bd26, bd27, bd28, bd29, bd30, bd31, bd32, bd33, bd34, bd35, bd36, bd37, bd38, bd39, bc1_i, bc1_r, bc1_n, bc1_U, bisA_r, bisA_n, bisA_a, bct_i, bct_r, bct_n, bct_l, bcs_0, bcs_i, bcs_r, bcs_l, bcs_a, brt_0, brt_1, ↓bz0, ↓bz1, true_and, and_true, false_and, and_false, and_self, Nat.reduceAdd, Nat.reduceLeDiff, Nat.reduceSub, Nat.reduceEqDiff, ite_true, ite_false, if_true, if_false, ↓reduceIte, Int32.reduceLT, Int32.reduceLE, Int32.reduceAdd, Int32.reduceSub, Int32.reduceMul, Int32.reduceDiv, Int32.reduceToNatClampNeg, Int64.reduceLT, or_true, or_false, true_or, false_or, Nat.reduceLT, eq_self]
  exact hh
theorem l_op20 {i : Nat} (hJ : JJ M) (hi : i + 5 < L) (hL : L ≤ 3072) (hn : ∀ M1, JJ M1 → Wp L xs 1000 224 987 [.retAddr 200, .ref 0, .ref 44, .int (nI i)] [] M1 Q1) : Wp L xs 1000 224 716 [.retAddr 200, .ref 0, .ref 44, .int (nI i)] [] M Q1 := by
  obtain ⟨T, T', hC, hM, hR⟩ := hJ
  have c0 := hC.1.1.1
  have ad : ∀ m : Nat, m < 6 → (0 ≤ nI (i + m) ∧ (nI (i + m)).toNatClampNeg = i + m ∧ i + m < L) := fun m hm => ⟨nI_pos' (by omega), nI_clamp (by omega), by omega⟩
  have a1 : nI i + 1 = nI (i + 1) := nI_add i 1
  obtain ⟨g1, p1, l1⟩ := ad 1 (by decide)
  have a2 : nI i + 2 = nI (i + 2) := nI_add i 2
  obtain ⟨g2, p2, l2⟩ := ad 2 (by decide)
  have a3 : nI i + 3 = nI (i + 3) := nI_add i 3
  obtain ⟨g3, p3, l3⟩ := ad 3 (by decide)
  have a4 : nI i + 4 = nI (i + 4) := nI_add i 4
  obtain ⟨g4, p4, l4⟩ := ad 4 (by decide)
  have a5 : nI i + 5 = nI (i + 5) := nI_add i 5
  obtain ⟨g5, p5, l5⟩ := ad 5 (by decide)
  simp only [↓e224_716, ↓e224_717, ↓e224_720, ↓e224_721, ↓e224_722, ↓e224_725, ↓e224_726, bc1_a, bd1, bd2, bd3, bd4, bd5, bd6, bd7, bd8, bd9, bd10, bd11, bd12, bd13, bd14, bd15, bd16, bd17, bd18, bd19, bd20, bd21, bd22, bd23, bd24, bd25, bd26, bd27, bd28, bd29, bd30, bd31, bd32, bd33, bd34, bd35, bd36, bd37, bd38, bd39, bc1_i, bc1_r, bc1_n, bc1_U, bisA_r, bisA_n, bisA_a, bct_i, bct_r, bct_n, bct_l, bcs_0, bcs_i, bcs_r, bcs_l, bcs_a, brt_0, brt_1, ↓bz0, ↓bz1, true_and, and_true, false_and, and_false, and_self, Nat.reduceAdd, Nat.reduceLeDiff, Nat.reduceSub, Nat.reduceEqDiff, ite_true, ite_false, if_true, if_false, ↓reduceIte, Int32.reduceLT, Int32.reduceLE, Int32.reduceAdd, Int32.reduceSub, Int32.reduceMul, Int32.reduceDiv, Int32.reduceToNatClampNeg, Int64.reduceLT, or_true, or_false, true_or, false_or, Nat.reduceLT, c0, a1, a2, a3, a4, a5, g1, g2, g3, g4, g5, p1, p2, p3, p4, p5, l1, l2, l3, l4, l5]
  refine k_back (d := 938) hC (fun M1 r1 k1 => ?_)
  have F1 := hM.kc k1.2
  have m0 := F1.1.1.1
  simp only [↓e224_716, ↓e224_717, ↓e224_720, ↓e224_721, ↓e224_722, ↓e224_725, ↓e224_726, bc1_a, bd1, bd2, bd3, bd4, bd5, bd6, bd7, bd8, bd9, bd10, bd11, bd12, bd13, bd14, bd15, bd16, bd17, bd18, bd19, bd20, bd21, bd22, bd23, bd24, bd25, bd26, bd27, bd28, bd29, bd30, bd31, bd32, bd33, bd34, bd35, bd36, bd37, bd38, bd39, bc1_i, bc1_r, bc1_n, bc1_U, bisA_r, bisA_n, bisA_a, bct_i, bct_r, bct_n, bct_l, bcs_0, bcs_i, bcs_r, bcs_l, bcs_a, brt_0, brt_1, ↓bz0, ↓bz1, true_and, and_true, false_and, and_false, and_self, Nat.reduceAdd, Nat.reduceLeDiff, Nat.reduceSub, Nat.reduceEqDiff, ite_true, ite_false, if_true, if_false, ↓reduceIte, Int32.reduceLT, Int32.reduceLE, Int32.reduceAdd, Int32.reduceSub, Int32.reduceMul, Int32.reduceDiv, Int32.reduceToNatClampNeg, Int64.reduceLT, or_true, or_false, true_or, false_or, Nat.reduceLT, m0, a1, a2, a3, a4, a5, g1, g2, g3, g4, g5, p1, p2, p3, p4, p5, l1, l2, l3, l4, l5]
  refine g_back (d := 939) F1 (fun M2 r2 k2 => ?_)
  have hh := hn M2 ⟨_, _, k1.1.km k2.2, k2.1, hR.back⟩
  simp only [↓e224_716, ↓e224_717, ↓e224_720, ↓e224_721, ↓e224_722, ↓e224_725, ↓e224_726, bc1_a, bd1, bd2, bd3, bd4, bd5, bd6, bd7, bd8, bd9, bd10, bd11, bd12, bd13, bd14, bd15, bd16, bd17, bd18, bd19, bd20, bd21, bd22, bd23, bd24, bd25, bd26, bd27, bd28, bd29, bd30, bd31, bd32, bd33, bd34, bd35, bd36, bd37, bd38, bd39, bc1_i, bc1_r, bc1_n, bc1_U, bisA_r, bisA_n, bisA_a, bct_i, bct_r, bct_n, bct_l, bcs_0, bcs_i, bcs_r, bcs_l, bcs_a, brt_0, brt_1, ↓bz0, ↓bz1, true_and, and_true, false_and, and_false, and_self, Nat.reduceAdd, Nat.reduceLeDiff, Nat.reduceSub, Nat.reduceEqDiff, ite_true, ite_false, if_true, if_false, ↓reduceIte, Int32.reduceLT, Int32.reduceLE, Int32.reduceAdd, Int32.reduceSub, Int32.reduceMul, Int32.reduceDiv, Int32.reduceToNatClampNeg, Int64.reduceLT, or_true, or_false, true_or, false_or, Nat.reduceLT, eq_self]
  exact hh
theorem l_op21 {i : Nat} (hJ : JJ M) (hi : i + 5 < L) (hL : L ≤ 3072) (hn : ∀ M1, JJ M1 → Wp L xs 1000 224 987 [.retAddr 200, .ref 0, .ref 44, .int (nI i)] [] M1 Q1) : Wp L xs 1000 224 729 [.retAddr 200, .ref 0, .ref 44, .int (nI i)] [] M Q1 := by
  obtain ⟨T, T', hC, hM, hR⟩ := hJ
  have c0 := hC.1.1.1
  have ad : ∀ m : Nat, m < 6 → (0 ≤ nI (i + m) ∧ (nI (i + m)).toNatClampNeg = i + m ∧ i + m < L) := fun m hm => ⟨nI_pos' (by omega), nI_clamp (by omega), by omega⟩
  have a1 : nI i + 1 = nI (i + 1) := nI_add i 1
  obtain ⟨g1, p1, l1⟩ := ad 1 (by decide)
  have a2 : nI i + 2 = nI (i + 2) := nI_add i 2
  obtain ⟨g2, p2, l2⟩ := ad 2 (by decide)
  have a3 : nI i + 3 = nI (i + 3) := nI_add i 3
  obtain ⟨g3, p3, l3⟩ := ad 3 (by decide)
  have a4 : nI i + 4 = nI (i + 4) := nI_add i 4
  obtain ⟨g4, p4, l4⟩ := ad 4 (by decide)
  have a5 : nI i + 5 = nI (i + 5) := nI_add i 5
  obtain ⟨g5, p5, l5⟩ := ad 5 (by decide)
  simp only [↓e224_729, ↓e224_730, ↓e224_731, ↓e224_732, ↓e224_733, ↓e224_734, ↓e224_735, ↓e224_738, ↓e224_739, ↓e224_740, ↓e224_741, ↓e224_742, ↓e224_743, ↓e224_744, ↓e224_745, ↓e224_748, ↓e224_749, bc1_a, bd1, bd2, bd3, bd4, bd5, bd6, bd7, bd8, bd9, bd10, bd11, bd12, bd13, bd14, bd15, bd16, bd17, bd18, bd19, bd20, bd21, bd22, bd23, bd24, bd25, bd26, bd27, bd28, bd29, bd30, bd31, bd32, bd33, bd34, bd35, bd36, bd37, bd38, bd39, bc1_i, bc1_r, bc1_n, bc1_U, bisA_r, bisA_n, bisA_a, bct_i, bct_r, bct_n, bct_l, bcs_0, bcs_i, bcs_r, bcs_l, bcs_a, brt_0, brt_1, ↓bz0, ↓bz1, true_and, and_true, false_and, and_false, and_self, Nat.reduceAdd, Nat.reduceLeDiff, Nat.reduceSub, Nat.reduceEqDiff, ite_true, ite_false, if_true, if_false, ↓reduceIte, Int32.reduceLT, Int32.reduceLE, Int32.reduceAdd, Int32.reduceSub, Int32.reduceMul, Int32.reduceDiv, Int32.reduceToNatClampNeg, Int64.reduceLT, or_true, or_false, true_or, false_or, Nat.reduceLT, c0, a1, a2, a3, a4, a5, g1, g2, g3, g4, g5, p1, p2, p3, p4, p5, l1, l2, l3, l4, l5]
  refine k_count (d := 938) hC (fun M1 r1 k1 => ?_)
  have F1 := hM.kc k1.2
  have m0 := F1.1.1.1
  simp only [↓e224_729, ↓e224_730, ↓e224_731, ↓e224_732, ↓e224_733, ↓e224_734, ↓e224_735, ↓e224_738, ↓e224_739, ↓e224_740, ↓e224_741, ↓e224_742, ↓e224_743, ↓e224_744, ↓e224_745, ↓e224_748, ↓e224_749, bc1_a, bd1, bd2, bd3, bd4, bd5, bd6, bd7, bd8, bd9, bd10, bd11, bd12, bd13, bd14, bd15, bd16, bd17, bd18, bd19, bd20, bd21, bd22, bd23, bd24, bd25, bd26, bd27, bd28, bd29, bd30, bd31, bd32, bd33, bd34, bd35, bd36, bd37, bd38, bd39, bc1_i, bc1_r, bc1_n, bc1_U, bisA_r, bisA_n, bisA_a, bct_i, bct_r, bct_n, bct_l, bcs_0, bcs_i, bcs_r, bcs_l, bcs_a, brt_0, brt_1, ↓bz0, ↓bz1, true_and, and_true, false_and, and_false, and_self, Nat.reduceAdd, Nat.reduceLeDiff, Nat.reduceSub, Nat.reduceEqDiff, ite_true, ite_false, if_true, if_false, ↓reduceIte, Int32.reduceLT, Int32.reduceLE, Int32.reduceAdd, Int32.reduceSub, Int32.reduceMul, Int32.reduceDiv, Int32.reduceToNatClampNeg, Int64.reduceLT, or_true, or_false, true_or, false_or, Nat.reduceLT, m0, a1, a2, a3, a4, a5, g1, g2, g3, g4, g5, p1, p2, p3, p4, p5, l1, l2, l3, l4, l5]
  refine g_count (d := 939) F1 (fun M2 r2 k2 => ?_)
  have hh := hn M2 ⟨_, _, k1.1.km k2.2, k2.1, hR⟩
  simp only [↓e224_729, ↓e224_730, ↓e224_731, ↓e224_732, ↓e224_733, ↓e224_734, ↓e224_735, ↓e224_738, ↓e224_739, ↓e224_740, ↓e224_741, ↓e224_742, ↓e224_743, ↓e224_744, ↓e224_745, ↓e224_748, ↓e224_749, bc1_a, bd1, bd2, bd3, bd4, bd5, bd6, bd7, bd8, bd9, bd10, bd11, bd12, bd13, bd14, bd15, bd16, bd17, bd18, bd19, bd20, bd21, bd22, bd23, bd24, bd25, bd26, bd27, bd28, bd29, bd30, bd31, bd32, bd33, bd34, bd35, bd36, bd37, bd38, bd39, bc1_i, bc1_r, bc1_n, bc1_U, bisA_r, bisA_n, bisA_a, bct_i, bct_r, bct_n, bct_l, bcs_0, bcs_i, bcs_r, bcs_l, bcs_a, brt_0, brt_1, ↓bz0, ↓bz1, true_and, and_true, false_and, and_false, and_self, Nat.reduceAdd, Nat.reduceLeDiff, Nat.reduceSub, Nat.reduceEqDiff, ite_true, ite_false, if_true, if_false, ↓reduceIte, Int32.reduceLT, Int32.reduceLE, Int32.reduceAdd, Int32.reduceSub, Int32.reduceMul, Int32.reduceDiv, Int32.reduceToNatClampNeg, Int64.reduceLT, or_true, or_false, true_or, false_or, Nat.reduceLT, eq_self]
  exact hh
theorem l_op22 {i : Nat} (hJ : JJ M) (hi : i + 5 < L) (hL : L ≤ 3072) (hn : ∀ M1, JJ M1 → Wp L xs 1000 224 987 [.retAddr 200, .ref 0, .ref 44, .int (nI i)] [] M1 Q1) : Wp L xs 1000 224 752 [.retAddr 200, .ref 0, .ref 44, .int (nI i)] [] M Q1 := by
  obtain ⟨T, T', hC, hM, hR⟩ := hJ
  have c0 := hC.1.1.1
  have ad : ∀ m : Nat, m < 6 → (0 ≤ nI (i + m) ∧ (nI (i + m)).toNatClampNeg = i + m ∧ i + m < L) := fun m hm => ⟨nI_pos' (by omega), nI_clamp (by omega), by omega⟩
  have a1 : nI i + 1 = nI (i + 1) := nI_add i 1
  obtain ⟨g1, p1, l1⟩ := ad 1 (by decide)
  have a2 : nI i + 2 = nI (i + 2) := nI_add i 2
  obtain ⟨g2, p2, l2⟩ := ad 2 (by decide)
  have a3 : nI i + 3 = nI (i + 3) := nI_add i 3
  obtain ⟨g3, p3, l3⟩ := ad 3 (by decide)
  have a4 : nI i + 4 = nI (i + 4) := nI_add i 4
  obtain ⟨g4, p4, l4⟩ := ad 4 (by decide)
  have a5 : nI i + 5 = nI (i + 5) := nI_add i 5
  obtain ⟨g5, p5, l5⟩ := ad 5 (by decide)
  simp only [↓e224_752, ↓e224_753, ↓e224_754, ↓e224_755, ↓e224_756, ↓e224_757, ↓e224_758, ↓e224_759, ↓e224_760, ↓e224_761, ↓e224_762, ↓e224_763, ↓e224_764, ↓e224_765, ↓e224_766, ↓e224_767, ↓e224_768, ↓e224_771, ↓e224_772, ↓e224_773, ↓e224_774, ↓e224_775, ↓e224_776, ↓e224_777, ↓e224_778, ↓e224_779, ↓e224_780, ↓e224_781, ↓e224_782, ↓e224_783, ↓e224_784, ↓e224_785, ↓e224_786, ↓e224_787, ↓e224_788, ↓e224_791, ↓e224_792, bc1_a, bd1, bd2, bd3, bd4, bd5, bd6, bd7, bd8, bd9, bd10, bd11, bd12, bd13, bd14, bd15, bd16, bd17, bd18, bd19, bd20, bd21, bd22, bd23, bd24, bd25, bd26, bd27, bd28, bd29, bd30, bd31, bd32, bd33, bd34, bd35, bd36, bd37, bd38, bd39, bc1_i, bc1_r, bc1_n, bc1_U, bisA_r, bisA_n, bisA_a, bct_i, bct_r, bct_n, bct_l, bcs_0, bcs_i, bcs_r, bcs_l, bcs_a, brt_0, brt_1, ↓bz0, ↓bz1, true_and, and_true, false_and, and_false, and_self, Nat.reduceAdd, Nat.reduceLeDiff, Nat.reduceSub, Nat.reduceEqDiff, ite_true, ite_false, if_true, if_false, ↓reduceIte, Int32.reduceLT, Int32.reduceLE, Int32.reduceAdd, Int32.reduceSub, Int32.reduceMul, Int32.reduceDiv, Int32.reduceToNatClampNeg, Int64.reduceLT, or_true, or_false, true_or, false_or, Nat.reduceLT, c0, a1, a2, a3, a4, a5, g1, g2, g3, g4, g5, p1, p2, p3, p4, p5, l1, l2, l3, l4, l5]
  refine k_sheet (d := 938) hC (fun M1 k1 => ?_)
  have F1 := hM.kc k1.2
  have m0 := F1.1.1.1
  simp only [↓e224_752, ↓e224_753, ↓e224_754, ↓e224_755, ↓e224_756, ↓e224_757, ↓e224_758, ↓e224_759, ↓e224_760, ↓e224_761, ↓e224_762, ↓e224_763, ↓e224_764, ↓e224_765, ↓e224_766, ↓e224_767, ↓e224_768, ↓e224_771, ↓e224_772, ↓e224_773, ↓e224_774, ↓e224_775, ↓e224_776, ↓e224_777, ↓e224_778, ↓e224_779, ↓e224_780, ↓e224_781, ↓e224_782, ↓e224_783, ↓e224_784, ↓e224_785, ↓e224_786, ↓e224_787, ↓e224_788, ↓e224_791, ↓e224_792, bc1_a, bd1, bd2, bd3, bd4, bd5, bd6, bd7, bd8, bd9, bd10, bd11, bd12, bd13, bd14, bd15, bd16, bd17, bd18, bd19, bd20, bd21, bd22, bd23, bd24, bd25, bd26, bd27, bd28, bd29, bd30, bd31, bd32, bd33, bd34, bd35, bd36, bd37, bd38, bd39, bc1_i, bc1_r, bc1_n, bc1_U, bisA_r, bisA_n, bisA_a, bct_i, bct_r, bct_n, bct_l, bcs_0, bcs_i, bcs_r, bcs_l, bcs_a, brt_0, brt_1, ↓bz0, ↓bz1, true_and, and_true, false_and, and_false, and_self, Nat.reduceAdd, Nat.reduceLeDiff, Nat.reduceSub, Nat.reduceEqDiff, ite_true, ite_false, if_true, if_false, ↓reduceIte, Int32.reduceLT, Int32.reduceLE, Int32.reduceAdd, Int32.reduceSub, Int32.reduceMul, Int32.reduceDiv, Int32.reduceToNatClampNeg, Int64.reduceLT, or_true, or_false, true_or, false_or, Nat.reduceLT, m0, a1, a2, a3, a4, a5, g1, g2, g3, g4, g5, p1, p2, p3, p4, p5, l1, l2, l3, l4, l5]
  refine g_sheet (d := 997) F1 (fun M2 k2 _ _ _ => ?_)
  have hh := hn M2 ⟨_, _, k1.1.km k2.2, k2.1, hR⟩
  simp only [↓e224_752, ↓e224_753, ↓e224_754, ↓e224_755, ↓e224_756, ↓e224_757, ↓e224_758, ↓e224_759, ↓e224_760, ↓e224_761, ↓e224_762, ↓e224_763, ↓e224_764, ↓e224_765, ↓e224_766, ↓e224_767, ↓e224_768, ↓e224_771, ↓e224_772, ↓e224_773, ↓e224_774, ↓e224_775, ↓e224_776, ↓e224_777, ↓e224_778, ↓e224_779, ↓e224_780, ↓e224_781, ↓e224_782, ↓e224_783, ↓e224_784, ↓e224_785, ↓e224_786, ↓e224_787, ↓e224_788, ↓e224_791, ↓e224_792, bc1_a, bd1, bd2, bd3, bd4, bd5, bd6, bd7, bd8, bd9, bd10, bd11, bd12, bd13, bd14, bd15, bd16, bd17, bd18, bd19, bd20, bd21, bd22, bd23, bd24, bd25, bd26, bd27, bd28, bd29, bd30, bd31, bd32, bd33, bd34, bd35, bd36, bd37, bd38, bd39, bc1_i, bc1_r, bc1_n, bc1_U, bisA_r, bisA_n, bisA_a, bct_i, bct_r, bct_n, bct_l, bcs_0, bcs_i, bcs_r, bcs_l, bcs_a, brt_0, brt_1, ↓bz0, ↓bz1, true_and, and_true, false_and, and_false, and_self, Nat.reduceAdd, Nat.reduceLeDiff, Nat.reduceSub, Nat.reduceEqDiff, ite_true, ite_false, if_true, if_false, ↓reduceIte, Int32.reduceLT, Int32.reduceLE, Int32.reduceAdd, Int32.reduceSub, Int32.reduceMul, Int32.reduceDiv, Int32.reduceToNatClampNeg, Int64.reduceLT, or_true, or_false, true_or, false_or, Nat.reduceLT, eq_self]
  exact hh
theorem l_op23 {i : Nat} (hJ : JJ M) (hi : i + 5 < L) (hL : L ≤ 3072) (hn : ∀ M1, JJ M1 → Wp L xs 1000 224 987 [.retAddr 200, .ref 0, .ref 44, .int (nI i)] [] M1 Q1) : Wp L xs 1000 224 795 [.retAddr 200, .ref 0, .ref 44, .int (nI i)] [] M Q1 := by
  obtain ⟨T, T', hC, hM, hR⟩ := hJ
  have c0 := hC.1.1.1
  have ad : ∀ m : Nat, m < 6 → (0 ≤ nI (i + m) ∧ (nI (i + m)).toNatClampNeg = i + m ∧ i + m < L) := fun m hm => ⟨nI_pos' (by omega), nI_clamp (by omega), by omega⟩
  have a1 : nI i + 1 = nI (i + 1) := nI_add i 1
  obtain ⟨g1, p1, l1⟩ := ad 1 (by decide)
  have a2 : nI i + 2 = nI (i + 2) := nI_add i 2
  obtain ⟨g2, p2, l2⟩ := ad 2 (by decide)
  have a3 : nI i + 3 = nI (i + 3) := nI_add i 3
  obtain ⟨g3, p3, l3⟩ := ad 3 (by decide)
  have a4 : nI i + 4 = nI (i + 4) := nI_add i 4
  obtain ⟨g4, p4, l4⟩ := ad 4 (by decide)
  have a5 : nI i + 5 = nI (i + 5) := nI_add i 5
  obtain ⟨g5, p5, l5⟩ := ad 5 (by decide)
  simp only [↓e224_795, ↓e224_796, ↓e224_797, ↓e224_798, ↓e224_799, ↓e224_800, ↓e224_801, ↓e224_802, ↓e224_803, ↓e224_804, ↓e224_805, ↓e224_806, ↓e224_807, ↓e224_808, ↓e224_809, ↓e224_810, ↓e224_811, ↓e224_814, ↓e224_815, ↓e224_816, ↓e224_817, ↓e224_818, ↓e224_819, ↓e224_820, ↓e224_821, ↓e224_822, ↓e224_823, ↓e224_824, ↓e224_825, ↓e224_826, ↓e224_827, ↓e224_828, ↓e224_829, ↓e224_830, ↓e224_831, ↓e224_834, ↓e224_835, bc1_a, bd1, bd2, bd3, bd4, bd5, bd6, bd7, bd8, bd9, bd10, bd11, bd12, bd13, bd14, bd15, bd16, bd17, bd18, bd19, bd20, bd21, bd22, bd23, bd24, bd25, bd26, bd27, bd28, bd29, bd30, bd31, bd32, bd33, bd34, bd35, bd36, bd37, bd38, bd39, bc1_i, bc1_r, bc1_n, bc1_U, bisA_r, bisA_n, bisA_a, bct_i, bct_r, bct_n, bct_l, bcs_0, bcs_i, bcs_r, bcs_l, bcs_a, brt_0, brt_1, ↓bz0, ↓bz1, true_and, and_true, false_and, and_false, and_self, Nat.reduceAdd, Nat.reduceLeDiff, Nat.reduceSub, Nat.reduceEqDiff, ite_true, ite_false, if_true, if_false, ↓reduceIte, Int32.reduceLT, Int32.reduceLE, Int32.reduceAdd, Int32.reduceSub, Int32.reduceMul, Int32.reduceDiv, Int32.reduceToNatClampNeg, Int64.reduceLT, or_true, or_false, true_or, false_or, Nat.reduceLT, c0, a1, a2, a3, a4, a5, g1, g2, g3, g4, g5, p1, p2, p3, p4, p5, l1, l2, l3, l4, l5]
  refine k_cell (d := 938) hC (fun M1 r1 k1 => ?_)
  have F1 := hM.kc k1.2
  have m0 := F1.1.1.1
  simp only [↓e224_795, ↓e224_796, ↓e224_797, ↓e224_798, ↓e224_799, ↓e224_800, ↓e224_801, ↓e224_802, ↓e224_803, ↓e224_804, ↓e224_805, ↓e224_806, ↓e224_807, ↓e224_808, ↓e224_809, ↓e224_810, ↓e224_811, ↓e224_814, ↓e224_815, ↓e224_816, ↓e224_817, ↓e224_818, ↓e224_819, ↓e224_820, ↓e224_821, ↓e224_822, ↓e224_823, ↓e224_824, ↓e224_825, ↓e224_826, ↓e224_827, ↓e224_828, ↓e224_829, ↓e224_830, ↓e224_831, ↓e224_834, ↓e224_835, bc1_a, bd1, bd2, bd3, bd4, bd5, bd6, bd7, bd8, bd9, bd10, bd11, bd12, bd13, bd14, bd15, bd16, bd17, bd18, bd19, bd20, bd21, bd22, bd23, bd24, bd25, bd26, bd27, bd28, bd29, bd30, bd31, bd32, bd33, bd34, bd35, bd36, bd37, bd38, bd39, bc1_i, bc1_r, bc1_n, bc1_U, bisA_r, bisA_n, bisA_a, bct_i, bct_r, bct_n, bct_l, bcs_0, bcs_i, bcs_r, bcs_l, bcs_a, brt_0, brt_1, ↓bz0, ↓bz1, true_and, and_true, false_and, and_false, and_self, Nat.reduceAdd, Nat.reduceLeDiff, Nat.reduceSub, Nat.reduceEqDiff, ite_true, ite_false, if_true, if_false, ↓reduceIte, Int32.reduceLT, Int32.reduceLE, Int32.reduceAdd, Int32.reduceSub, Int32.reduceMul, Int32.reduceDiv, Int32.reduceToNatClampNeg, Int64.reduceLT, or_true, or_false, true_or, false_or, Nat.reduceLT, m0, a1, a2, a3, a4, a5, g1, g2, g3, g4, g5, p1, p2, p3, p4, p5, l1, l2, l3, l4, l5]
  refine g_cell (d := 939) F1 (fun M2 r2 k2 => ?_)
  have hh := hn M2 ⟨_, _, k1.1.km k2.2, k2.1, hR⟩
  simp only [↓e224_795, ↓e224_796, ↓e224_797, ↓e224_798, ↓e224_799, ↓e224_800, ↓e224_801, ↓e224_802, ↓e224_803, ↓e224_804, ↓e224_805, ↓e224_806, ↓e224_807, ↓e224_808, ↓e224_809, ↓e224_810, ↓e224_811, ↓e224_814, ↓e224_815, ↓e224_816, ↓e224_817, ↓e224_818, ↓e224_819, ↓e224_820, ↓e224_821, ↓e224_822, ↓e224_823, ↓e224_824, ↓e224_825, ↓e224_826, ↓e224_827, ↓e224_828, ↓e224_829, ↓e224_830, ↓e224_831, ↓e224_834, ↓e224_835, bc1_a, bd1, bd2, bd3, bd4, bd5, bd6, bd7, bd8, bd9, bd10, bd11, bd12, bd13, bd14, bd15, bd16, bd17, bd18, bd19, bd20, bd21, bd22, bd23, bd24, bd25, bd26, bd27, bd28, bd29, bd30, bd31, bd32, bd33, bd34, bd35, bd36, bd37, bd38, bd39, bc1_i, bc1_r, bc1_n, bc1_U, bisA_r, bisA_n, bisA_a, bct_i, bct_r, bct_n, bct_l, bcs_0, bcs_i, bcs_r, bcs_l, bcs_a, brt_0, brt_1, ↓bz0, ↓bz1, true_and, and_true, false_and, and_false, and_self, Nat.reduceAdd, Nat.reduceLeDiff, Nat.reduceSub, Nat.reduceEqDiff, ite_true, ite_false, if_true, if_false, ↓reduceIte, Int32.reduceLT, Int32.reduceLE, Int32.reduceAdd, Int32.reduceSub, Int32.reduceMul, Int32.reduceDiv, Int32.reduceToNatClampNeg, Int64.reduceLT, or_true, or_false, true_or, false_or, Nat.reduceLT, eq_self]
  exact hh
theorem l_op24 {i : Nat} (hJ : JJ M) (hi : i + 5 < L) (hL : L ≤ 3072) (hn : ∀ M1, JJ M1 → Wp L xs 1000 224 987 [.retAddr 200, .ref 0, .ref 44, .int (nI i)] [] M1 Q1) : Wp L xs 1000 224 838 [.retAddr 200, .ref 0, .ref 44, .int (nI i)] [] M Q1 := by
  obtain ⟨T, T', hC, hM, hR⟩ := hJ
  have c0 := hC.1.1.1
  have ad : ∀ m : Nat, m < 6 → (0 ≤ nI (i + m) ∧ (nI (i + m)).toNatClampNeg = i + m ∧ i + m < L) := fun m hm => ⟨nI_pos' (by omega), nI_clamp (by omega), by omega⟩
  have a1 : nI i + 1 = nI (i + 1) := nI_add i 1
  obtain ⟨g1, p1, l1⟩ := ad 1 (by decide)
  have a2 : nI i + 2 = nI (i + 2) := nI_add i 2
  obtain ⟨g2, p2, l2⟩ := ad 2 (by decide)
  have a3 : nI i + 3 = nI (i + 3) := nI_add i 3
  obtain ⟨g3, p3, l3⟩ := ad 3 (by decide)
  have a4 : nI i + 4 = nI (i + 4) := nI_add i 4
  obtain ⟨g4, p4, l4⟩ := ad 4 (by decide)
  have a5 : nI i + 5 = nI (i + 5) := nI_add i 5
  obtain ⟨g5, p5, l5⟩ := ad 5 (by decide)
  simp only [↓e224_838, ↓e224_839, ↓e224_840, ↓e224_841, ↓e224_842, ↓e224_843, ↓e224_844, ↓e224_845, ↓e224_846, ↓e224_847, ↓e224_848, ↓e224_849, ↓e224_850, ↓e224_851, ↓e224_852, ↓e224_853, ↓e224_854, ↓e224_855, ↓e224_856, ↓e224_857, ↓e224_858, ↓e224_859, ↓e224_860, ↓e224_861, ↓e224_862, ↓e224_863, ↓e224_864, ↓e224_867, ↓e224_868, ↓e224_869, ↓e224_870, ↓e224_871, ↓e224_872, ↓e224_873, ↓e224_874, ↓e224_875, ↓e224_876, ↓e224_877, ↓e224_878, ↓e224_879, ↓e224_880, ↓e224_881, ↓e224_882, ↓e224_883, ↓e224_884, ↓e224_885, ↓e224_886, ↓e224_887, ↓e224_888, ↓e224_889, ↓e224_890, ↓e224_891, ↓e224_892, ↓e224_893, ↓e224_894, ↓e224_897, ↓e224_898, bc1_a, bd1, bd2, bd3, bd4, bd5, bd6, bd7, bd8, bd9, bd10, bd11, bd12, bd13, bd14, bd15, bd16, bd17, bd18, bd19, bd20, bd21, bd22, bd23, bd24, bd25, bd26, bd27, bd28, bd29, bd30, bd31, bd32, bd33, bd34, bd35, bd36, bd37, bd38, bd39, bc1_i, bc1_r, bc1_n, bc1_U, bisA_r, bisA_n, bisA_a, bct_i, bct_r, bct_n, bct_l, bcs_0, bcs_i, bcs_r, bcs_l, bcs_a, brt_0, brt_1, ↓bz0, ↓bz1, true_and, and_true, false_and, and_false, and_self, Nat.reduceAdd, Nat.reduceLeDiff, Nat.reduceSub, Nat.reduceEqDiff, ite_true, ite_false, if_true, if_false, ↓reduceIte, Int32.reduceLT, Int32.reduceLE, Int32.reduceAdd, Int32.reduceSub, Int32.reduceMul, Int32.reduceDiv, Int32.reduceToNatClampNeg, Int64.reduceLT, or_true, or_false, true_or, false_or, Nat.reduceLT, c0, a1, a2, a3, a4, a5, g1, g2, g3, g4, g5, p1, p2, p3, p4, p5, l1, l2, l3, l4, l5]
  refine k_copy (d := 938) hC (fun M1 r1 k1 => ?_)
  have F1 := hM.kc k1.2
  have m0 := F1.1.1.1
  simp only [↓e224_838, ↓e224_839, ↓e224_840, ↓e224_841, ↓e224_842, ↓e224_843, ↓e224_844, ↓e224_845, ↓e224_846, ↓e224_847, ↓e224_848, ↓e224_849, ↓e224_850, ↓e224_851, ↓e224_852, ↓e224_853, ↓e224_854, ↓e224_855, ↓e224_856, ↓e224_857, ↓e224_858, ↓e224_859, ↓e224_860, ↓e224_861, ↓e224_862, ↓e224_863, ↓e224_864, ↓e224_867, ↓e224_868, ↓e224_869, ↓e224_870, ↓e224_871, ↓e224_872, ↓e224_873, ↓e224_874, ↓e224_875, ↓e224_876, ↓e224_877, ↓e224_878, ↓e224_879, ↓e224_880, ↓e224_881, ↓e224_882, ↓e224_883, ↓e224_884, ↓e224_885, ↓e224_886, ↓e224_887, ↓e224_888, ↓e224_889, ↓e224_890, ↓e224_891, ↓e224_892, ↓e224_893, ↓e224_894, ↓e224_897, ↓e224_898, bc1_a, bd1, bd2, bd3, bd4, bd5, bd6, bd7, bd8, bd9, bd10, bd11, bd12, bd13, bd14, bd15, bd16, bd17, bd18, bd19, bd20, bd21, bd22, bd23, bd24, bd25, bd26, bd27, bd28, bd29, bd30, bd31, bd32, bd33, bd34, bd35, bd36, bd37, bd38, bd39, bc1_i, bc1_r, bc1_n, bc1_U, bisA_r, bisA_n, bisA_a, bct_i, bct_r, bct_n, bct_l, bcs_0, bcs_i, bcs_r, bcs_l, bcs_a, brt_0, brt_1, ↓bz0, ↓bz1, true_and, and_true, false_and, and_false, and_self, Nat.reduceAdd, Nat.reduceLeDiff, Nat.reduceSub, Nat.reduceEqDiff, ite_true, ite_false, if_true, if_false, ↓reduceIte, Int32.reduceLT, Int32.reduceLE, Int32.reduceAdd, Int32.reduceSub, Int32.reduceMul, Int32.reduceDiv, Int32.reduceToNatClampNeg, Int64.reduceLT, or_true, or_false, true_or, false_or, Nat.reduceLT, m0, a1, a2, a3, a4, a5, g1, g2, g3, g4, g5, p1, p2, p3, p4, p5, l1, l2, l3, l4, l5]
  refine g_copy (d := 939) F1 (fun M2 r2 k2 => ?_)
  have hh := hn M2 ⟨_, _, k1.1.km k2.2, k2.1, hR⟩
  simp only [↓e224_838, ↓e224_839, ↓e224_840, ↓e224_841, ↓e224_842, ↓e224_843, ↓e224_844, ↓e224_845, ↓e224_846, ↓e224_847, ↓e224_848, ↓e224_849, ↓e224_850, ↓e224_851, ↓e224_852, ↓e224_853, ↓e224_854, ↓e224_855, ↓e224_856, ↓e224_857, ↓e224_858, ↓e224_859, ↓e224_860, ↓e224_861, ↓e224_862, ↓e224_863, ↓e224_864, ↓e224_867, ↓e224_868, ↓e224_869, ↓e224_870, ↓e224_871, ↓e224_872, ↓e224_873, ↓e224_874, ↓e224_875, ↓e224_876, ↓e224_877, ↓e224_878, ↓e224_879, ↓e224_880, ↓e224_881, ↓e224_882, ↓e224_883, ↓e224_884, ↓e224_885, ↓e224_886, ↓e224_887, ↓e224_888, ↓e224_889, ↓e224_890, ↓e224_891, ↓e224_892, ↓e224_893, ↓e224_894, ↓e224_897, ↓e224_898, bc1_a, bd1, bd2, bd3, bd4, bd5, bd6, bd7, bd8, bd9, bd10, bd11, bd12, bd13, bd14, bd15, bd16, bd17, bd18, bd19, bd20, bd21, bd22, bd23, bd24, bd25, bd26, bd27, bd28, bd29, bd30, bd31, bd32, bd33, bd34, bd35, bd36, bd37, bd38, bd39, bc1_i, bc1_r, bc1_n, bc1_U, bisA_r, bisA_n, bisA_a, bct_i, bct_r, bct_n, bct_l, bcs_0, bcs_i, bcs_r, bcs_l, bcs_a, brt_0, brt_1, ↓bz0, ↓bz1, true_and, and_true, false_and, and_false, and_self, Nat.reduceAdd, Nat.reduceLeDiff, Nat.reduceSub, Nat.reduceEqDiff, ite_true, ite_false, if_true, if_false, ↓reduceIte, Int32.reduceLT, Int32.reduceLE, Int32.reduceAdd, Int32.reduceSub, Int32.reduceMul, Int32.reduceDiv, Int32.reduceToNatClampNeg, Int64.reduceLT, or_true, or_false, true_or, false_or, Nat.reduceLT, eq_self]
  exact hh
theorem l_op25 {i : Nat} (hJ : JJ M) (hi : i + 5 < L) (hL : L ≤ 3072) (hn : ∀ M1, JJ M1 → Wp L xs 1000 224 987 [.retAddr 200, .ref 0, .ref 44, .int (nI i)] [] M1 Q1) : Wp L xs 1000 224 901 [.retAddr 200, .ref 0, .ref 44, .int (nI i)] [] M Q1 := by
  obtain ⟨T, T', hC, hM, hR⟩ := hJ
  have c0 := hC.1.1.1
  have ad : ∀ m : Nat, m < 6 → (0 ≤ nI (i + m) ∧ (nI (i + m)).toNatClampNeg = i + m ∧ i + m < L) := fun m hm => ⟨nI_pos' (by omega), nI_clamp (by omega), by omega⟩
  have a1 : nI i + 1 = nI (i + 1) := nI_add i 1
  obtain ⟨g1, p1, l1⟩ := ad 1 (by decide)
  have a2 : nI i + 2 = nI (i + 2) := nI_add i 2
  obtain ⟨g2, p2, l2⟩ := ad 2 (by decide)
  have a3 : nI i + 3 = nI (i + 3) := nI_add i 3
  obtain ⟨g3, p3, l3⟩ := ad 3 (by decide)
  have a4 : nI i + 4 = nI (i + 4) := nI_add i 4
  obtain ⟨g4, p4, l4⟩ := ad 4 (by decide)
  have a5 : nI i + 5 = nI (i + 5) := nI_add i 5
  obtain ⟨g5, p5, l5⟩ := ad 5 (by decide)
  simp only [↓e224_901, ↓e224_902, ↓e224_903, ↓e224_904, ↓e224_905, ↓e224_906, ↓e224_907, ↓e224_908, ↓e224_909, ↓e224_910, ↓e224_911, ↓e224_912, ↓e224_913, ↓e224_914, ↓e224_915, ↓e224_916, ↓e224_917, ↓e224_918, ↓e224_919, ↓e224_920, ↓e224_921, ↓e224_922, ↓e224_925, ↓e224_926, ↓e224_927, ↓e224_928, ↓e224_929, ↓e224_930, ↓e224_931, ↓e224_932, ↓e224_933, ↓e224_934, ↓e224_935, ↓e224_936, ↓e224_937, ↓e224_938, ↓e224_939, ↓e224_940, ↓e224_941, ↓e224_942, ↓e224_943, ↓e224_944, ↓e224_945, ↓e224_946, ↓e224_947, ↓e224_950, ↓e224_951, bc1_a, bd1, bd2, bd3, bd4, bd5, bd6, bd7, bd8, bd9, bd10, bd11, bd12, bd13, bd14, bd15, bd16, bd17, bd18, bd19, bd20, bd21, bd22, bd23, bd24, bd25, bd26, bd27, bd28, bd29, bd30, bd31, bd32, bd33, bd34, bd35, bd36, bd37, bd38, bd39, bc1_i, bc1_r, bc1_n, bc1_U, bisA_r, bisA_n, bisA_a, bct_i, bct_r, bct_n, bct_l, bcs_0, bcs_i, bcs_r, bcs_l, bcs_a, brt_0, brt_1, ↓bz0, ↓bz1, true_and, and_true, false_and, and_false, and_self, Nat.reduceAdd, Nat.reduceLeDiff, Nat.reduceSub, Nat.reduceEqDiff, ite_true, ite_false, if_true, if_false, ↓reduceIte, Int32.reduceLT, Int32.reduceLE, Int32.reduceAdd, Int32.reduceSub, Int32.reduceMul, Int32.reduceDiv, Int32.reduceToNatClampNeg, Int64.reduceLT, or_true, or_false, true_or, false_or, Nat.reduceLT, c0, a1, a2, a3, a4, a5, g1, g2, g3, g4, g5, p1, p2, p3, p4, p5, l1, l2, l3, l4, l5]
  refine k_people (d := 938) hC (fun M1 r1 k1 => ?_)
  have F1 := hM.kc k1.2
  have m0 := F1.1.1.1
  simp only [↓e224_901, ↓e224_902, ↓e224_903, ↓e224_904, ↓e224_905, ↓e224_906, ↓e224_907, ↓e224_908, ↓e224_909, ↓e224_910, ↓e224_911, ↓e224_912, ↓e224_913, ↓e224_914, ↓e224_915, ↓e224_916, ↓e224_917, ↓e224_918, ↓e224_919, ↓e224_920, ↓e224_921, ↓e224_922, ↓e224_925, ↓e224_926, ↓e224_927, ↓e224_928, ↓e224_929, ↓e224_930, ↓e224_931, ↓e224_932, ↓e224_933, ↓e224_934, ↓e224_935, ↓e224_936, ↓e224_937, ↓e224_938, ↓e224_939, ↓e224_940, ↓e224_941, ↓e224_942, ↓e224_943, ↓e224_944, ↓e224_945, ↓e224_946, ↓e224_947, ↓e224_950, ↓e224_951, bc1_a, bd1, bd2, bd3, bd4, bd5, bd6, bd7, bd8, bd9, bd10, bd11, bd12, bd13, bd14, bd15, bd16, bd17, bd18, bd19, bd20, bd21, bd22, bd23, bd24, bd25, bd26, bd27, bd28, bd29, bd30, bd31, bd32, bd33, bd34, bd35, bd36, bd37, bd38, bd39, bc1_i, bc1_r, bc1_n, bc1_U, bisA_r, bisA_n, bisA_a, bct_i, bct_r, bct_n, bct_l, bcs_0, bcs_i, bcs_r, bcs_l, bcs_a, brt_0, brt_1, ↓bz0, ↓bz1, true_and, and_true, false_and, and_false, and_self, Nat.reduceAdd, Nat.reduceLeDiff, Nat.reduceSub, Nat.reduceEqDiff, ite_true, ite_false, if_true, if_false, ↓reduceIte, Int32.reduceLT, Int32.reduceLE, Int32.reduceAdd, Int32.reduceSub, Int32.reduceMul, Int32.reduceDiv, Int32.reduceToNatClampNeg, Int64.reduceLT, or_true, or_false, true_or, false_or, Nat.reduceLT, m0, a1, a2, a3, a4, a5, g1, g2, g3, g4, g5, p1, p2, p3, p4, p5, l1, l2, l3, l4, l5]
  refine g_people (d := 939) F1 (fun M2 r2 k2 => ?_)
  have hh := hn M2 ⟨_, _, k1.1.km k2.2, k2.1, hR⟩
  simp only [↓e224_901, ↓e224_902, ↓e224_903, ↓e224_904, ↓e224_905, ↓e224_906, ↓e224_907, ↓e224_908, ↓e224_909, ↓e224_910, ↓e224_911, ↓e224_912, ↓e224_913, ↓e224_914, ↓e224_915, ↓e224_916, ↓e224_917, ↓e224_918, ↓e224_919, ↓e224_920, ↓e224_921, ↓e224_922, ↓e224_925, ↓e224_926, ↓e224_927, ↓e224_928, ↓e224_929, ↓e224_930, ↓e224_931, ↓e224_932, ↓e224_933, ↓e224_934, ↓e224_935, ↓e224_936, ↓e224_937, ↓e224_938, ↓e224_939, ↓e224_940, ↓e224_941, ↓e224_942, ↓e224_943, ↓e224_944, ↓e224_945, ↓e224_946, ↓e224_947, ↓e224_950, ↓e224_951, bc1_a, bd1, bd2, bd3, bd4, bd5, bd6, bd7, bd8, bd9, bd10, bd11, bd12, bd13, bd14, bd15, bd16, bd17, bd18, bd19, bd20, bd21, bd22, bd23, bd24, bd25, bd26, bd27, bd28, bd29, bd30, bd31, bd32, bd33, bd34, bd35, bd36, bd37, bd38, bd39, bc1_i, bc1_r, bc1_n, bc1_U, bisA_r, bisA_n, bisA_a, bct_i, bct_r, bct_n, bct_l, bcs_0, bcs_i, bcs_r, bcs_l, bcs_a, brt_0, brt_1, ↓bz0, ↓bz1, true_and, and_true, false_and, and_false, and_self, Nat.reduceAdd, Nat.reduceLeDiff, Nat.reduceSub, Nat.reduceEqDiff, ite_true, ite_false, if_true, if_false, ↓reduceIte, Int32.reduceLT, Int32.reduceLE, Int32.reduceAdd, Int32.reduceSub, Int32.reduceMul, Int32.reduceDiv, Int32.reduceToNatClampNeg, Int64.reduceLT, or_true, or_false, true_or, false_or, Nat.reduceLT, eq_self]
  exact hh
theorem l_op26 {i : Nat} (hJ : JJ M) (hi : i + 5 < L) (hL : L ≤ 3072) (hn : ∀ M1, JJ M1 → Wp L xs 1000 224 987 [.retAddr 200, .ref 0, .ref 44, .int (nI i)] [] M1 Q1) : Wp L xs 1000 224 954 [.retAddr 200, .ref 0, .ref 44, .int (nI i)] [] M Q1 := by
  obtain ⟨T, T', hC, hM, hR⟩ := hJ
  have c0 := hC.1.1.1
  have ad : ∀ m : Nat, m < 6 → (0 ≤ nI (i + m) ∧ (nI (i + m)).toNatClampNeg = i + m ∧ i + m < L) := fun m hm => ⟨nI_pos' (by omega), nI_clamp (by omega), by omega⟩
  have a1 : nI i + 1 = nI (i + 1) := nI_add i 1
  obtain ⟨g1, p1, l1⟩ := ad 1 (by decide)
  have a2 : nI i + 2 = nI (i + 2) := nI_add i 2
  obtain ⟨g2, p2, l2⟩ := ad 2 (by decide)
  have a3 : nI i + 3 = nI (i + 3) := nI_add i 3
  obtain ⟨g3, p3, l3⟩ := ad 3 (by decide)
  have a4 : nI i + 4 = nI (i + 4) := nI_add i 4
  obtain ⟨g4, p4, l4⟩ := ad 4 (by decide)
  have a5 : nI i + 5 = nI (i + 5) := nI_add i 5
  obtain ⟨g5, p5, l5⟩ := ad 5 (by decide)
  simp only [↓e224_954, ↓e224_955, ↓e224_956, ↓e224_957, ↓e224_958, ↓e224_959, ↓e224_960, ↓e224_961, ↓e224_962, ↓e224_963, ↓e224_964, ↓e224_965, ↓e224_968, ↓e224_969, ↓e224_970, ↓e224_971, ↓e224_972, ↓e224_973, ↓e224_974, ↓e224_975, ↓e224_976, ↓e224_977, ↓e224_978, ↓e224_979, ↓e224_980, ↓e224_983, ↓e224_984, bc1_a, bd1, bd2, bd3, bd4, bd5, bd6, bd7, bd8, bd9, bd10, bd11, bd12, bd13, bd14, bd15, bd16, bd17, bd18, bd19, bd20, bd21, bd22, bd23, bd24, bd25, bd26, bd27, bd28, bd29, bd30, bd31, bd32, bd33, bd34, bd35, bd36, bd37, bd38, bd39, bc1_i, bc1_r, bc1_n, bc1_U, bisA_r, bisA_n, bisA_a, bct_i, bct_r, bct_n, bct_l, bcs_0, bcs_i, bcs_r, bcs_l, bcs_a, brt_0, brt_1, ↓bz0, ↓bz1, true_and, and_true, false_and, and_false, and_self, Nat.reduceAdd, Nat.reduceLeDiff, Nat.reduceSub, Nat.reduceEqDiff, ite_true, ite_false, if_true, if_false, ↓reduceIte, Int32.reduceLT, Int32.reduceLE, Int32.reduceAdd, Int32.reduceSub, Int32.reduceMul, Int32.reduceDiv, Int32.reduceToNatClampNeg, Int64.reduceLT, or_true, or_false, true_or, false_or, Nat.reduceLT, c0, a1, a2, a3, a4, a5, g1, g2, g3, g4, g5, p1, p2, p3, p4, p5, l1, l2, l3, l4, l5]
  refine k_taken (d := 938) hC (fun M1 r1 k1 => ?_)
  have F1 := hM.kc k1.2
  have m0 := F1.1.1.1
  simp only [↓e224_954, ↓e224_955, ↓e224_956, ↓e224_957, ↓e224_958, ↓e224_959, ↓e224_960, ↓e224_961, ↓e224_962, ↓e224_963, ↓e224_964, ↓e224_965, ↓e224_968, ↓e224_969, ↓e224_970, ↓e224_971, ↓e224_972, ↓e224_973, ↓e224_974, ↓e224_975, ↓e224_976, ↓e224_977, ↓e224_978, ↓e224_979, ↓e224_980, ↓e224_983, ↓e224_984, bc1_a, bd1, bd2, bd3, bd4, bd5, bd6, bd7, bd8, bd9, bd10, bd11, bd12, bd13, bd14, bd15, bd16, bd17, bd18, bd19, bd20, bd21, bd22, bd23, bd24, bd25, bd26, bd27, bd28, bd29, bd30, bd31, bd32, bd33, bd34, bd35, bd36, bd37, bd38, bd39, bc1_i, bc1_r, bc1_n, bc1_U, bisA_r, bisA_n, bisA_a, bct_i, bct_r, bct_n, bct_l, bcs_0, bcs_i, bcs_r, bcs_l, bcs_a, brt_0, brt_1, ↓bz0, ↓bz1, true_and, and_true, false_and, and_false, and_self, Nat.reduceAdd, Nat.reduceLeDiff, Nat.reduceSub, Nat.reduceEqDiff, ite_true, ite_false, if_true, if_false, ↓reduceIte, Int32.reduceLT, Int32.reduceLE, Int32.reduceAdd, Int32.reduceSub, Int32.reduceMul, Int32.reduceDiv, Int32.reduceToNatClampNeg, Int64.reduceLT, or_true, or_false, true_or, false_or, Nat.reduceLT, m0, a1, a2, a3, a4, a5, g1, g2, g3, g4, g5, p1, p2, p3, p4, p5, l1, l2, l3, l4, l5]
  refine g_taken (d := 939) F1 (fun M2 r2 k2 => ?_)
  have hh := hn M2 ⟨_, _, k1.1.km k2.2, k2.1, hR⟩
  simp only [↓e224_954, ↓e224_955, ↓e224_956, ↓e224_957, ↓e224_958, ↓e224_959, ↓e224_960, ↓e224_961, ↓e224_962, ↓e224_963, ↓e224_964, ↓e224_965, ↓e224_968, ↓e224_969, ↓e224_970, ↓e224_971, ↓e224_972, ↓e224_973, ↓e224_974, ↓e224_975, ↓e224_976, ↓e224_977, ↓e224_978, ↓e224_979, ↓e224_980, ↓e224_983, ↓e224_984, bc1_a, bd1, bd2, bd3, bd4, bd5, bd6, bd7, bd8, bd9, bd10, bd11, bd12, bd13, bd14, bd15, bd16, bd17, bd18, bd19, bd20, bd21, bd22, bd23, bd24, bd25, bd26, bd27, bd28, bd29, bd30, bd31, bd32, bd33, bd34, bd35, bd36, bd37, bd38, bd39, bc1_i, bc1_r, bc1_n, bc1_U, bisA_r, bisA_n, bisA_a, bct_i, bct_r, bct_n, bct_l, bcs_0, bcs_i, bcs_r, bcs_l, bcs_a, brt_0, brt_1, ↓bz0, ↓bz1, true_and, and_true, false_and, and_false, and_self, Nat.reduceAdd, Nat.reduceLeDiff, Nat.reduceSub, Nat.reduceEqDiff, ite_true, ite_false, if_true, if_false, ↓reduceIte, Int32.reduceLT, Int32.reduceLE, Int32.reduceAdd, Int32.reduceSub, Int32.reduceMul, Int32.reduceDiv, Int32.reduceToNatClampNeg, Int64.reduceLT, or_true, or_false, true_or, false_or, Nat.reduceLT, eq_self]
  exact hh
theorem lt6 : ∀ L : Nat, L < 6 → nI L - 6 < 0 := by decide
theorem len6 {i : Nat} (h : 6 ≤ L) (hL : L ≤ 3072) (hi : i ≤ 4000) : (nI L - 6 < nI i) = (L < i + 6) := by
  have e : nI L - 6 = nI (L - 6) := by
    have : L = (L - 6) + 6 := by omega
    conv => lhs; rw [this]
    have e2 : nI (L - 6 + 6) = nI (L - 6) + 6 := (nI_add (L - 6) 6).symm
    rw [e2, Int32.add_sub_cancel]
  rw [e]
  refine propext ⟨fun z => ?_, fun z => nI_lt (by omega) (by omega)⟩
  have := (nI_ltI (a := L - 6) (b := i) (by omega) (by omega)).mp z
  omega
theorem l_loop (hL : L ≤ 3072) (h6 : 6 ≤ L) : ∀ (k i : Nat) (M : mm_H), L < i + k → i ≤ L → JJ M → Wp L xs 1000 224 18 [.retAddr 200, .ref 0, .ref 44, .int (nI i)] [] M Q1 := by
  intro k
  induction k with
  | zero =>
    intro i M hi hiL hJ
    omega
  | succ k ih =>
    intro i M hi hiL hJ
    have hq := hJ.q
    have hlen := len6 (i := i) h6 hL (by omega)
    by_cases c : L < i + 6
    · have hc : (nI L - 6 < nI i) = True := by rw [hlen]; exact eq_true c
      simp only [↓e224_18, ↓e224_19, ↓e224_20, ↓e224_21, ↓e224_23, ↓e224_24, ↓e224_993, ↓e224_994, bc1_a, bd1, bd2, bd3, bd4, bd5, bd6, bd7, bd8, bd9, bd10, bd11, bd12, bd13, bd14, bd15, bd16, bd17, bd18, bd19, bd20, bd21, bd22, bd23, bd24, bd25, bd26, bd27, bd28, bd29, bd30, bd31, bd32, bd33, bd34, bd35, bd36, bd37, bd38, bd39, bc1_i, bc1_r, bc1_n, bc1_U, bisA_r, bisA_n, bisA_a, bct_i, bct_r, bct_n, bct_l, bcs_0, bcs_i, bcs_r, bcs_l, bcs_a, brt_0, brt_1, ↓bz0, ↓bz1, true_and, and_true, false_and, and_false, and_self, Nat.reduceAdd, Nat.reduceLeDiff, Nat.reduceSub, Nat.reduceEqDiff, ite_true, ite_false, if_true, if_false, ↓reduceIte, Int32.reduceLT, Int32.reduceLE, Int32.reduceAdd, Int32.reduceSub, Int32.reduceMul, Int32.reduceDiv, Int32.reduceToNatClampNeg, Int64.reduceLT, or_true, or_false, true_or, false_or, Nat.reduceLT, hc]
      exact hq
    · have hc : (nI L - 6 < nI i) = False := by rw [hlen]; exact eq_false c
      have g0 : 0 ≤ nI i := nI_pos' (by omega)
      have p0 : (nI i).toNatClampNeg = i := nI_clamp (by omega)
      have l0 : i < L := by omega
      have a6 : nI i + 6 = nI (i + 6) := nI_add i 6
      have hn : ∀ M1, JJ M1 → Wp L xs 1000 224 987 [.retAddr 200, .ref 0, .ref 44, .int (nI i)] [] M1 Q1 := fun M1 h1 => by
        have hh := ih (i + 6) M1 (by omega) (by omega) h1
        simp only [↓e224_987, ↓e224_990, bc1_a, bd1, bd2, bd3, bd4, bd5, bd6, bd7, bd8, bd9, bd10, bd11, bd12, bd13, bd14, bd15, bd16, bd17, bd18, bd19, bd20, bd21, bd22, bd23, bd24, bd25, bd26, bd27, bd28, bd29, bd30, bd31, bd32, bd33, bd34, bd35, bd36, bd37, bd38, bd39, bc1_i, bc1_r, bc1_n, bc1_U, bisA_r, bisA_n, bisA_a, bct_i, bct_r, bct_n, bct_l, bcs_0, bcs_i, bcs_r, bcs_l, bcs_a, brt_0, brt_1, ↓bz0, ↓bz1, true_and, and_true, false_and, and_false, and_self, Nat.reduceAdd, Nat.reduceLeDiff, Nat.reduceSub, Nat.reduceEqDiff, ite_true, ite_false, if_true, if_false, ↓reduceIte, Int32.reduceLT, Int32.reduceLE, Int32.reduceAdd, Int32.reduceSub, Int32.reduceMul, Int32.reduceDiv, Int32.reduceToNatClampNeg, Int64.reduceLT, or_true, or_false, true_or, false_or, Nat.reduceLT, a6]
        exact hh
      simp only [↓e224_18, ↓e224_19, ↓e224_20, ↓e224_21, ↓e224_23, ↓e224_24, ↓e224_27, ↓e224_28, ↓e224_29, ↓e224_30, ↓e224_32, ↓e224_33, bc1_a, bd1, bd2, bd3, bd4, bd5, bd6, bd7, bd8, bd9, bd10, bd11, bd12, bd13, bd14, bd15, bd16, bd17, bd18, bd19, bd20, bd21, bd22, bd23, bd24, bd25, bd26, bd27, bd28, bd29, bd30, bd31, bd32, bd33, bd34, bd35, bd36, bd37, bd38, bd39, bc1_i, bc1_r, bc1_n, bc1_U, bisA_r, bisA_n, bisA_a, bct_i, bct_r, bct_n, bct_l, bcs_0, bcs_i, bcs_r, bcs_l, bcs_a, brt_0, brt_1, ↓bz0, ↓bz1, true_and, and_true, false_and, and_false, and_self, Nat.reduceAdd, Nat.reduceLeDiff, Nat.reduceSub, Nat.reduceEqDiff, ite_true, ite_false, if_true, if_false, ↓reduceIte, Int32.reduceLT, Int32.reduceLE, Int32.reduceAdd, Int32.reduceSub, Int32.reduceMul, Int32.reduceDiv, Int32.reduceToNatClampNeg, Int64.reduceLT, or_true, or_false, true_or, false_or, Nat.reduceLT, hc, g0, p0, l0]
      by_cases h0 : xs i &&& 31 = 0
      · rw [if_pos h0]; exact l_op0 hJ (by omega) hL hn
      rw [if_neg h0]
      by_cases h1 : xs i &&& 31 = 1
      · rw [if_pos h1]; exact l_op1 hJ (by omega) hL hn
      rw [if_neg h1]
      by_cases h2 : xs i &&& 31 = 2
      · rw [if_pos h2]; exact l_op2 hJ (by omega) hL hn
      rw [if_neg h2]
      by_cases h3 : xs i &&& 31 = 3
      · rw [if_pos h3]; exact l_op3 hJ (by omega) hL hn
      rw [if_neg h3]
      by_cases h4 : xs i &&& 31 = 4
      · rw [if_pos h4]; exact l_op4 hJ (by omega) hL hn
      rw [if_neg h4]
      by_cases h5 : xs i &&& 31 = 5
      · rw [if_pos h5]; exact l_op5 hJ (by omega) hL hn
      rw [if_neg h5]
      by_cases h6 : xs i &&& 31 = 6
      · rw [if_pos h6]; exact l_op6 hJ (by omega) hL hn
      rw [if_neg h6]
      by_cases h7 : xs i &&& 31 = 7
      · rw [if_pos h7]; exact l_op7 hJ (by omega) hL hn
      rw [if_neg h7]
      by_cases h8 : xs i &&& 31 = 8
      · rw [if_pos h8]; exact l_op8 hJ (by omega) hL hn
      rw [if_neg h8]
      by_cases h9 : xs i &&& 31 = 9
      · rw [if_pos h9]; exact l_op9 hJ (by omega) hL hn
      rw [if_neg h9]
      by_cases h10 : xs i &&& 31 = 10
      · rw [if_pos h10]; exact l_op10 hJ (by omega) hL hn
      rw [if_neg h10]
      by_cases h11 : xs i &&& 31 = 11
      · rw [if_pos h11]; exact l_op11 hJ (by omega) hL hn
      rw [if_neg h11]
      by_cases h12 : xs i &&& 31 = 12
      · rw [if_pos h12]; exact l_op12 hJ (by omega) hL hn
      rw [if_neg h12]
      by_cases h13 : xs i &&& 31 = 13
      · rw [if_pos h13]; exact l_op13 hJ (by omega) hL hn
      rw [if_neg h13]
      by_cases h14 : xs i &&& 31 = 14
      · rw [if_pos h14]; exact l_op14 hJ (by omega) hL hn
      rw [if_neg h14]
      by_cases h15 : xs i &&& 31 = 15
      · rw [if_pos h15]; exact l_op15 hJ (by omega) hL hn
      rw [if_neg h15]
      by_cases h16 : xs i &&& 31 = 16
      · rw [if_pos h16]; exact l_op16 hJ (by omega) hL hn
      rw [if_neg h16]
      by_cases h17 : xs i &&& 31 = 17
      · rw [if_pos h17]; exact l_op17 hJ (by omega) hL hn
      rw [if_neg h17]
      by_cases h18 : xs i &&& 31 = 18
      · rw [if_pos h18]; exact l_op18 hJ (by omega) hL hn
      rw [if_neg h18]
      by_cases h19 : xs i &&& 31 = 19
      · rw [if_pos h19]; exact l_op19 hJ (by omega) hL hn
      rw [if_neg h19]
      by_cases h20 : xs i &&& 31 = 20
      · rw [if_pos h20]; exact l_op20 hJ (by omega) hL hn
      rw [if_neg h20]
      by_cases h21 : xs i &&& 31 = 21
      · rw [if_pos h21]; exact l_op21 hJ (by omega) hL hn
      rw [if_neg h21]
      by_cases h22 : xs i &&& 31 = 22
      · rw [if_pos h22]; exact l_op22 hJ (by omega) hL hn
      rw [if_neg h22]
      by_cases h23 : xs i &&& 31 = 23
      · rw [if_pos h23]; exact l_op23 hJ (by omega) hL hn
      rw [if_neg h23]
      by_cases h24 : xs i &&& 31 = 24
      · rw [if_pos h24]; exact l_op24 hJ (by omega) hL hn
      rw [if_neg h24]
      by_cases h25 : xs i &&& 31 = 25
      · rw [if_pos h25]; exact l_op25 hJ (by omega) hL hn
      rw [if_neg h25]
      by_cases h26 : xs i &&& 31 = 26
      · rw [if_pos h26]; exact l_op26 hJ (by omega) hL hn
      rw [if_neg h26]
      exact hn M hJ
end
theorem law_wp (L : Nat) (hL : L ≤ 3072) (xs : Nat → Int32) : Wp L xs 1000 224 0 [.retAddr 200, mm_U, mm_U, mm_U] [] mm_0 Q1 := by
  have n0 : gN mm_0 = 0 := rfl
  simp only [↓e224_0, ↓e224_3, ↓e224_4, ↓e224_7, ↓e224_8, ↓e224_11, ↓e224_12, ↓e224_15, ↓e224_16, ↓e224_17, bc1_a, bd1, bd2, bd3, bd4, bd5, bd6, bd7, bd8, bd9, bd10, bd11, bd12, bd13, bd14, bd15, bd16, bd17, bd18, bd19, bd20, bd21, bd22, bd23, bd24, bd25, bd26, bd27, bd28, bd29, bd30, bd31, bd32, bd33, bd34, bd35, bd36, bd37, bd38, bd39, bc1_i, bc1_r, bc1_n, bc1_U, bisA_r, bisA_n, bisA_a, bct_i, bct_r, bct_n, bct_l, bcs_0, bcs_i, bcs_r, bcs_l, bcs_a, brt_0, brt_1, ↓bz0, ↓bz1, true_and, and_true, false_and, and_false, and_self, Nat.reduceAdd, Nat.reduceLeDiff, Nat.reduceSub, Nat.reduceEqDiff, ite_true, ite_false, if_true, if_false, gS_n, gS_r, gS_p, gS_c, gL_n, gL_r, gL_p, gL_c, gN_n, gN_r, gN_p, gN_c, gZ_n, gZ_r, gZ_p, gZ_c, gI_p, gI_r, gI_n, gI_c, gR_p, gR_r, gR_c, gR_n2, ne_eq, not_false_eq_true, not_true_eq_false, ↓or_rr, n0]
  refine c_init (d := 944) (by simp only [gS_n, gS_r, gS_p, gS_c, gL_n, gL_r, gL_p, gL_c, gN_n, gN_r, gN_p, gN_c, gZ_n, gZ_r, gZ_p, gZ_c, gI_p, gI_r, gI_n, gI_c, gR_p, gR_r, gR_c, gR_n2, ne_eq, not_false_eq_true, not_true_eq_false, n0, bc1_a, bd1, bd2, bd3, bd4, bd5, bd6, bd7, bd8, bd9, bd10, bd11, bd12, bd13, bd14, bd15, bd16, bd17, bd18, bd19, bd20, bd21, bd22, bd23, bd24, bd25, bd26, bd27, bd28, bd29, bd30, bd31, bd32, bd33, bd34, bd35, bd36, bd37, bd38, bd39, bc1_i, bc1_r, bc1_n, bc1_U, bisA_r, bisA_n, bisA_a, bct_i, bct_r, bct_n, bct_l, bcs_0, bcs_i, bcs_r, bcs_l, bcs_a, brt_0, brt_1, ↓bz0, ↓bz1, true_and, and_true, false_and, and_false, and_self, Nat.reduceAdd, Nat.reduceLeDiff, Nat.reduceSub, Nat.reduceEqDiff, ite_true, ite_false, if_true, if_false]) (by simp only [gS_n, gS_r, gS_p, gS_c, gL_n, gL_r, gL_p, gL_c, gN_n, gN_r, gN_p, gN_c, gZ_n, gZ_r, gZ_p, gZ_c, gI_p, gI_r, gI_n, gI_c, gR_p, gR_r, gR_c, gR_n2, ne_eq, not_false_eq_true, not_true_eq_false, n0]) (fun k => by rw [gI_n, n0, if_pos rfl]) (fun M1 c1 n1 y1 => ?_)
  simp only [↓e224_0, ↓e224_3, ↓e224_4, ↓e224_7, ↓e224_8, ↓e224_11, ↓e224_12, ↓e224_15, ↓e224_16, ↓e224_17, bc1_a, bd1, bd2, bd3, bd4, bd5, bd6, bd7, bd8, bd9, bd10, bd11, bd12, bd13, bd14, bd15, bd16, bd17, bd18, bd19, bd20, bd21, bd22, bd23, bd24, bd25, bd26, bd27, bd28, bd29, bd30, bd31, bd32, bd33, bd34, bd35, bd36, bd37, bd38, bd39, bc1_i, bc1_r, bc1_n, bc1_U, bisA_r, bisA_n, bisA_a, bct_i, bct_r, bct_n, bct_l, bcs_0, bcs_i, bcs_r, bcs_l, bcs_a, brt_0, brt_1, ↓bz0, ↓bz1, true_and, and_true, false_and, and_false, and_self, Nat.reduceAdd, Nat.reduceLeDiff, Nat.reduceSub, Nat.reduceEqDiff, ite_true, ite_false, if_true, if_false, ↓or_rr, n1]
  refine c_minit2 (d := 997) (by simp only [gS_n, gS_r, gS_p, gS_c, gL_n, gL_r, gL_p, gL_c, gN_n, gN_r, gN_p, gN_c, gZ_n, gZ_r, gZ_p, gZ_c, gI_p, gI_r, gI_n, gI_c, gR_p, gR_r, gR_c, gR_n2, ne_eq, not_false_eq_true, not_true_eq_false, n1, bc1_a, bd1, bd2, bd3, bd4, bd5, bd6, bd7, bd8, bd9, bd10, bd11, bd12, bd13, bd14, bd15, bd16, bd17, bd18, bd19, bd20, bd21, bd22, bd23, bd24, bd25, bd26, bd27, bd28, bd29, bd30, bd31, bd32, bd33, bd34, bd35, bd36, bd37, bd38, bd39, bc1_i, bc1_r, bc1_n, bc1_U, bisA_r, bisA_n, bisA_a, bct_i, bct_r, bct_n, bct_l, bcs_0, bcs_i, bcs_r, bcs_l, bcs_a, brt_0, brt_1, ↓bz0, ↓bz1, true_and, and_true, false_and, and_false, and_self, Nat.reduceAdd, Nat.reduceLeDiff, Nat.reduceSub, Nat.reduceEqDiff, ite_true, ite_false, if_true, if_false]) (by simp only [gS_n, gS_r, gS_p, gS_c, gL_n, gL_r, gL_p, gL_c, gN_n, gN_r, gN_p, gN_c, gZ_n, gZ_r, gZ_p, gZ_c, gI_p, gI_r, gI_n, gI_c, gR_p, gR_r, gR_c, gR_n2, ne_eq, not_false_eq_true, not_true_eq_false, n1]) (fun k => by rw [gI_n, n1, if_pos rfl]) (fun M2 c2 o2 n2 y2 s45 => ?_)
  have hO : Old 44 M1 M2 := (Old.n2 Old.rf (by rw [n1]; decide)).trans o2
  have hz : gZ M2 ≤ 10000 := by
    have e1 : gZ (pN mm_0 5 7 7) = 7 := rfl
    rw [e1] at y1
    rw [gZ_n] at y2
    omega
  have hJ : JJ M2 := ⟨_, _, CI.of c1 hO n2 hz, MI.of c2 s45, rfl, fun k hk => absurd hk (Nat.not_lt_zero k), rfl⟩
  simp only [↓e224_0, ↓e224_3, ↓e224_4, ↓e224_7, ↓e224_8, ↓e224_11, ↓e224_12, ↓e224_15, ↓e224_16, ↓e224_17, bc1_a, bd1, bd2, bd3, bd4, bd5, bd6, bd7, bd8, bd9, bd10, bd11, bd12, bd13, bd14, bd15, bd16, bd17, bd18, bd19, bd20, bd21, bd22, bd23, bd24, bd25, bd26, bd27, bd28, bd29, bd30, bd31, bd32, bd33, bd34, bd35, bd36, bd37, bd38, bd39, bc1_i, bc1_r, bc1_n, bc1_U, bisA_r, bisA_n, bisA_a, bct_i, bct_r, bct_n, bct_l, bcs_0, bcs_i, bcs_r, bcs_l, bcs_a, brt_0, brt_1, ↓bz0, ↓bz1, true_and, and_true, false_and, and_false, and_self, Nat.reduceAdd, Nat.reduceLeDiff, Nat.reduceSub, Nat.reduceEqDiff, ite_true, ite_false, if_true, if_false, ↓or_rr]
  rcases Nat.lt_or_ge L 6 with h | h
  · have e := lt6 L h
    have hq := hJ.q
    simp only [↓e224_18, ↓e224_19, ↓e224_20, ↓e224_21, ↓e224_23, ↓e224_24, ↓e224_993, ↓e224_994, bc1_a, bd1, bd2, bd3, bd4, bd5, bd6, bd7, bd8, bd9, bd10, bd11, bd12, bd13, bd14, bd15, bd16, bd17, bd18, bd19, bd20, bd21, bd22, bd23, bd24, bd25, bd26, bd27, bd28, bd29, bd30, bd31, bd32, bd33, bd34, bd35, bd36, bd37, bd38, bd39, bc1_i, bc1_r, bc1_n, bc1_U, bisA_r, bisA_n, bisA_a, bct_i, bct_r, bct_n, bct_l, bcs_0, bcs_i, bcs_r, bcs_l, bcs_a, brt_0, brt_1, ↓bz0, ↓bz1, true_and, and_true, false_and, and_false, and_self, Nat.reduceAdd, Nat.reduceLeDiff, Nat.reduceSub, Nat.reduceEqDiff, ite_true, ite_false, if_true, if_false, ↓reduceIte, Int32.reduceLT, Int32.reduceLE, Int32.reduceAdd, Int32.reduceSub, Int32.reduceMul, Int32.reduceDiv, Int32.reduceToNatClampNeg, Int64.reduceLT, or_true, or_false, true_or, false_or, Nat.reduceLT, e]
    exact hq
  · exact l_loop hL h (L + 1) 0 M2 (by omega) (Nat.zero_le _) hJ
theorem law_run (L : Nat) (hL : L ≤ 3072) (xs : Nat → Int32) : ∃ n M', mm_run L xs n 1000 mm_law 0 [.retAddr 200, mm_U, mm_U, mm_U] [] mm_0 = some (some (.int 1), M') ∧ gN M' ≤ 600000 ∧ gZ M' ≤ 7302250 := by
  obtain ⟨n, r, M', h, rfl, h2, h3⟩ := law_wp L hL xs
  exact ⟨n, M', h, h2, h3⟩
/-! THE CLAIM OUT OF ONE WALK OF THE LAW'S BODY. Your part is whole_start (and what it stands on); all else here is the same for every law, but numbers. -/
def R_law : String := "MendedWithTheWordLaw"
def lw_P (b : Addr) (xs : List Int32) (args : Array Value) (s : State) : Prop := args = #[.ref b] ∧ s.IntsAt b xs ∧ xs.length ≤ 3072 ∧ (Jvm.Cond.and given_1 narrow_1).before args s = true
def lw_Q (_ : Array Value) (s : State) (o : Outcome) (t : State) : Prop := o = .returned (some (.int 1)) ∧ Framed s o t [] 600000 7302250
def lw_Z (below : List Frame) (a : Array Value) (s : State) : State → Prop := fun t => ∃ o, t.status = .running ∧ Ended t below o ∧ lw_Q a s o t
/-- the law's own end, with 1 on the stack, nothing written that was there before, its room as the claim has it -/
theorem lw_ret {p : Program} {l : Launch} {e : Env} {s : State} {m : MethodId} {below : List Frame} {meth : Method} {c : Code} {b : Nat} (hx : p.tables.exec = Jvm.exec) (hb : c.code = code) (hr : meth.sig.returnType = ret) (hlocks : meth.locks = false) {pc : Nat} {H : Heap} {ls : Array Slot} (hdg : decode code pc = .ok (.ireturn, 1)) : W p l e room_1 s m #[Value.ref b] below meth c H [] 600000 7302250 (lw_Z below #[Value.ref b] s) (F0 m pc ls [.int 1]) := by
  intro T hT X
  obtain ⟨fs, hret, hrun, hended, hW, hframe⟩ := X.leave (v := some (.int 1)) (hlocks := hlocks) (fun h => by rw [hr] at h; cases h)
  have hmeth' : T.vm.method? m = some meth := X.method'
  refine ⟨T.setFrames fs, ?_, .returned (some (.int 1)), hrun, hended, rfl, ⟨_, rfl⟩, hW, hframe⟩
  jvm_step X.here [X.here.top, hx, hb, hdg, hmeth', hr, ret, narrow_b1]
  (try refine ⟨rfl, ?_⟩); (try refine ⟨rfl, ?_⟩)
  first | (intro acts; rw [hret _ acts rfl rfl rfl]) | rw [hret _ _ rfl rfl rfl]
  exact Steps.refl _
/-- what holds at the law's entry: the machine, the code, the tables' words (any of lw_tbl by 'hts w (by decide +kernel)'), the script of L ints xs at the cell b, what the Statement gives of the start (any of its parts by flat_of_before) -/
def lw_At (p : Program) (s : State) (m : MethodId) (meth : Method) (c : Code) (b L : Nat) (xs : Nat → Int32) : Prop :=
  p.tables.exec = Jvm.exec ∧ c.code = code ∧ meth.sig.returnType = ret ∧ c.maxLocals = 4 ∧ s.vm.findClass R_law = some m.cls ∧ (∀ w ∈ lw_tbl, w.before #[Value.ref b] s = true) ∧ va_X b L xs s s.heap ∧ b < s.heap.size ∧ meth.locks = false ∧ (Jvm.Cond.and given_1 narrow_1).before #[Value.ref b] s = true
set_option maxHeartbeats 4000000 in
/-- THE LAW, from its entry, out of a run of the small machine -/
theorem whole_start {p : Program} {e : Env} {s : State} {m : MethodId} {below : List Frame} {meth : Method} {c : Code} (l : Launch) (hflags : l.flags = flags0) {b L : Nat} {xs : Nat → Int32} (hL : L ≤ 3072) (C0 : lw_At p s m meth c b L xs) : W p l e room_1 s m #[Value.ref b] below meth c s.heap [] 0 0 (lw_Z below #[Value.ref b] s) (entryFrame m ([Value.ref b] : List Value).toArray 4) := by
  obtain ⟨hx, hb, hr, hml, hown, hts, hX, hbl, hlocks, hgv⟩ := C0
  have hfl : ∀ w ∈ sw_fl, w.before #[Value.ref b] s = true := flat_of_before _ hgv
  have hA : ∀ a : Nat, a < s.heap.size → ¬ s.heap.size ≤ a := fun a h => Nat.not_le.mpr h
  have htw : ∀ w ∈ mm_ws, w.before #[Value.ref b] s = true := fun w hw => hts w (mm_ws_sub w hw)
  obtain ⟨adK, adV, hvk, hev⟩ := vk_Sof (args := #[Value.ref b]) (s := s) (N := 13) (tm := sw_tm) (len := mm_sb.map List.length) (byt := mm_sb) (A := fun q => s.heap.size ≤ q) sw_hN (fun i hi => hfl _ (sw_hex i hi)) (fun i hi => hfl _ (sw_hco i hi)) (fun i hi => hfl _ (sw_har i hi)) (fun i hi => hfl _ (sw_hle i hi)) (fun i hi j hj => hfl _ (sw_hel i hi j hj)) (fun i j hi hj hne => by
    rcases sw_hne i hi j hj hne with h | h
    · exact Or.inl (hfl _ h)
    · exact Or.inr (hfl _ h)) hA
  obtain ⟨la1, la2, la3, la4, la5, la6⟩ := sw_hla
  have hz1 := va_Zof (A := fun q => s.heap.size ≤ q) (hts _ (List.mem_of_getElem? la1)) (hts _ (List.mem_of_getElem? la3)) (va_eqi (hfl _ sw_hcs.1)) hA
  have hz2 := va_Zqof (A := fun q => s.heap.size ≤ q) (hts _ (List.mem_of_getElem? la2)) (hts _ (List.mem_of_getElem? la4)) (hfl _ sw_hcs.2) hA
  obtain ⟨vf, hvf, hz2⟩ : ∃ vf, (vf = Value.null ∨ ∃ t, vf = Value.ref t) ∧ va_Z "jdk/internal/util/Preconditions" "SIOOBE_FORMATTER" "Ljava/util/function/BiFunction;" vf (fun q => s.heap.size ≤ q) s s.heap := by
    rcases hz2 with h | ⟨t, h⟩
    · exact ⟨_, Or.inl rfl, h⟩
    · exact ⟨_, Or.inr ⟨t, rfl⟩, h⟩
  have hW : sw_W s.heap.size adK adV vf b L xs s s.heap := by
    refine ⟨hvk, hz1, hz2, fun w hw hn => ?_, va_AO.of (hts _ (List.mem_of_getElem? la5)), va_AO.of (hts _ (List.mem_of_getElem? la6)), fun q hq => ?_, hX, hbl, Nat.le_refl _, hvf⟩
    · have h := hts w hw
      cases w <;> first | exact va_Nw.of rfl h | (exact absurd hn Bool.false_ne_true)
    · obtain ⟨h1, h2⟩ := sw_stq q hq
      have h3 := List.all_eq_true.mp mm_oks_all q hq
      simp only [Bool.and_eq_true, decide_eq_true_eq] at h3
      have h4 := hev _ h1
      rw [h2] at h4
      exact vk_R.of (hts _ (List.mem_of_getElem? h3.2)) h4
  have hkn : ∀ ci, ci < 7 → ∃ (cC : ClassId) (iS : Nat → Nat), u_Kn s (mm_C ci) (mm_T ci) (mm_nf ci) cC iS := by
    intro ci hci
    have h := sw_hin ci hci
    rw [Bool.and_eq_true] at h
    exact u_known htw (mm_uw hci) (htw _ (mm_wa_in h.2))
  obtain ⟨dC, dI, hKc⟩ : ∃ (dC : Nat → ClassId) (dI : Nat → Nat → Nat), ∀ (k : Nat) (q : vw_C), vwCl[k]? = some q → u_Kn s q.1 q.2.1 q.2.2 (dC k) (dI k) := by
    refine ⟨fun k => if h : k < 7 then Classical.choose (hkn k h) else 0, fun k => if h : k < 7 then Classical.choose (Classical.choose_spec (hkn k h)) else fun _ => 0, fun k q hq => ?_⟩
    have hk : k < 7 := (List.getElem?_eq_some_iff.mp hq).1
    rw [mm_vc hk] at hq
    cases hq
    simp only [dif_pos hk]
    exact Classical.choose_spec (Classical.choose_spec (hkn k hk))
  obtain ⟨n, M', hrun, hn, hz⟩ := law_run L hL xs
  have K := run_W (base := s.heap.size) (adK := adK) (adV := adV) (vf := vf) (b := b) (D := (dC, dI)) (l := l) _ _ _ _ _ _ _ _ _ hrun p e room_1 s m #[Value.ref b] below meth c (lw_Z below #[Value.ref b] s) 0 0 (gN M') (gZ M') []
    ⟨hx, ⟨_, rfl, hb, hml⟩, hown, htw, hW, fun h => absurd h (by decide +kernel), by decide, by decide, hn, hz⟩ (Nat.zero_le _) (Nat.zero_le _) (Nat.le_refl _) (Nat.le_refl _) ?_
  · rw [lg_entry_eq]
    have har : sr (vr vf b adK adV []) [.retAddr 200] [.ref b] := ⟨Or.inr (Or.inr (Or.inl ⟨rfl, rfl⟩)), True.intro⟩
    have hlr := lr_entry (V := vr vf b adK adV []) (fun v r => vr_cat hvf) (vr_nodouble []) har (n := 4) (by decide)
    exact K [] [] [] _ [] s.heap [] (ex_refl []) ⟨⟨rfl, rfl, fun k hk => absurd hk (Nat.not_lt_zero k)⟩, fun k q h => by simp at h, ⟨hKc, fun k q h => by simp at h⟩, ⟨fun i j p q h => by simp at h, fun k q h => by simp at h⟩, va_S.rf, hlr, True.intro, hml.symm⟩
  · intro pc i len ls' st' hI hlen hret ads ws tys lsr rs H locs he ⟨hpw, hP, hK, hD, hS, hl, hst, hln⟩
    have hq : mm_tab[mm_law]? = some (⟨"MendedWithTheWordLaw", "law", "([I)Z"⟩, code, 4, some .boolean, 9, 1, 1) := by rfl
    have hdg := mm_I_of hI hq
    unfold mm_ret at hret
    rw [hq] at hret
    dsimp only at hret
    split at hret
    · split at hret <;> cases hret
    · split at hret
      · next hnb =>
        cases hret
        simp only [mm_len, beq_iff_eq] at hlen
        subst hlen
        obtain ⟨k_, e_, hst⟩ := sr_i hst
        cases k_ with
        | cons a k => exact hst.elim
        | nil =>
          rw [e_]
          refine va_forget hS.2.2 (W.widen (k := 600000) (n := 7302250) (by rw [Nat.sub_zero]; exact hn) (by rw [Nat.sub_zero]; exact hz) ?_)
          exact lw_ret hx hb hr hlocks hdg
      · cases hret
    · split at hret <;> cases hret
    · split at hret <;> cases hret
    · split at hret <;> cases hret
    · cases hret
set_option maxHeartbeats 4000000 in
theorem lw_walk (l : Launch) (hflags : l.flags = flags0) (b : Addr) (xs : List Int32) : MetFree l x (headSpec (Jvm.Cond.code x code maxLocals ret :: tables_1) room_1) (lw_P b xs) (fun _ _ _ _ _ => True) lw_Q := by
  refine MetFree.of_bodyS (code := code) (maxLocals := maxLocals) (ret := ret) (by decide) ?_ ?_
  · intro args s m h hn
    obtain ⟨meth, c, h1, h2, h3, h4, h5, h6, -, -⟩ := Cond.code_spec hn (atoms_spec (ws := Jvm.Cond.code x code maxLocals ret :: tables_1) h _ List.mem_cons_self)
    exact ⟨meth, c, h1, h2, h3, h4, h5, h6⟩
  · intro p e s m args below meth c s₁ B hml0 hP _
    obtain ⟨rfl, hx, hbd, hgv⟩ := hP
    obtain ⟨scr, harrAt, hlist, hof, hsmall⟩ := hx
    obtain ⟨hcb, hkn, -, -⟩ := State.arrayAt?_spec harrAt
    have hown : s.vm.findClass R_law = some m.cls := findClass_of_methodNamed B.named
    have hts0 : ∀ c ∈ (Jvm.Cond.code x code maxLocals ret :: tables_1), c.before #[Value.ref b] s = true := atoms_spec (ws := Jvm.Cond.code x code maxLocals ret :: tables_1) B.pre
    have hts : ∀ w ∈ lw_tbl, w.before #[Value.ref b] s = true := k2_hts_sels lw_privs (fun w hw => hts0 w (List.mem_cons_of_mem _ hw)) lw_privs_ok
    have hml : c.maxLocals = 4 := B.maxLocals_eq (hts0 _ List.mem_cons_self)
    have X₀ : Stand p l e room_1 s m #[Value.ref b] below meth c s₁ [] 0 0 := Stand.of_body B
    have hh0 : s₁.heap = s.heap := by rw [B.state]; rfl
    have hsz : scr.slots.size = xs.length := by rw [← Array.length_toList, hlist, List.length_map]
    have hval : ∀ j : Nat, j < xs.length → scr.slots[j]? = some (.int (xs.getD j 0)) := fun j hj => by
      rw [← Array.getElem?_toList, hlist]
      simp [hj]
    have hbl : b < s.heap.size := (Array.getElem?_eq_some_iff.mp hcb).1
    have hX : va_X b xs.length (fun j => xs.getD j 0) s s.heap := ⟨scr, hcb, hof, hkn, hsz, hval⟩
    have K : W p l e room_1 s m #[Value.ref b] below meth c s₁.heap [] 0 0 (lw_Z below #[Value.ref b] s) (entryFrame m ([Value.ref b] : List Value).toArray 4) := by
      rw [hh0]
      exact whole_start l hflags hbd ⟨B.exec, B.bytes, B.returns, hml, hown, hts, hX, hbl, B.notSynchronized, hgv⟩
    obtain ⟨t, a1, o, b1, b2, b3⟩ := K s₁ rfl X₀
    exact ⟨t, o, a1, b1, b2, b3⟩
theorem lw_pre_spec {args : Array Value} {s : State} (h : (Jvm.Cond.and given_1 narrow_1).before args s = true) (hr : rest_1_c.before args s = true) : ∃ (b : Addr) (xs : List Int32), lw_P b xs args s := by
  have hs := flat_of_before _ h
  have hq := flat_of_before _ hr
  have hc : (Cond.count 1).before args s = true := hs _ (by decide +kernel)
  have harr : (Cond.arrayOf (.arg 0) .int).before args s = true := hs _ (by decide +kernel)
  have hle : (Cond.le (.length (.arg 0)) (.int 3072)).before args s = true := hs _ (by decide +kernel)
  have hlen : (Cond.isInt (.length (.arg 0))).before args s = true := hq _ (by decide +kernel)
  have hall : (Cond.all (.arg 0) (.isInt (.elem (.arg 0) (.index 0)))).before args s = true := hq _ (by decide +kernel)
  obtain ⟨b, xs, hb, hx⟩ := State.ints_of_pre rfl harr hlen hall
  have hsm : xs.length < 2 ^ 31 := hx.choose_spec.2.2.2
  have hev : (Term.length (.arg 0)).eval args s none [] s = some (.int xs.length.toInt32) := hx.length_eval hb
  have hv := Cond.le_ints hev (show (Term.int 3072).eval args s none [] s = some (.int 3072) from rfl)
  have hd : xs.length.toInt32 ≤ 3072 := by
    simpa [Cond.before, Cond.holds, hv] using hle
  have hN : xs.length ≤ 3072 := (Int32.ofNat_le_ofNat hsm (by decide)).mp (show Int32.ofNat xs.length ≤ Int32.ofNat 3072 from hd)
  exact ⟨b, xs, Cond.one_arg hc (show args[0]? = some (.ref b) from hb), hx, hN, h⟩
theorem lw_comes (l : Launch) (hflags : l.flags = flags0) : Comes l x (Jvm.Cond.code x code maxLocals ret :: tables_1) room_1 (fun tb e args s => Calls_1 tb e args s ∧ rest_1 tb e args s ∧ Pre_1 tb e args s)
    (fun _ _ args s o t => lw_Q args s o t) := by
  intro p e ha hc hk s m args below hf hfit hheap happ hpre
  obtain ⟨b, xs, hP⟩ := lw_pre_spec hpre.2.2 hpre.2.1
  obtain ⟨k, o, h1, h2, h3, hQ⟩ := lw_walk l hflags b xs p e ha hc hk s m args below hf ((Spec.applies_iff_loose hf).mp happ).1 hP trivial
  exact ⟨k, o, h1, h2, h3, hQ⟩
theorem lw_frame {s t : State} {o : Outcome} {args : Array Value} (h : Framed s o t [] 600000 7302250) :
    Framed s o t (fieldLocs frame_1_writes args s ++ arrayLocs frame_1_arrays args s ++ staticLocs frame_1_statics s) 600000 7302250 := h
theorem lw_limb (L : Cond) (hL : ∀ (args : Array Value) (s t : State), L.after args s (.returned (some (.int 1))) t = true) :
    ArmFor flags0 classFile x code maxLocals ret World_1 tables_1 room_1 Calls_1 rest_1 Pre_1
      (fun tb e a s o t => postC L tb e a s o t ∧ Framed s o t (fieldLocs frame_1_writes a s ++ arrayLocs frame_1_arrays a s ++ staticLocs frame_1_statics s) 600000 7302250) := by
  intro l hflags _ _ p e ha hc hk s m args below hf hfit hheap happ hpre
  obtain ⟨k, o, h1, h2, h3, rfl, hF⟩ := lw_comes l hflags p e ha hc hk s m args below hf hfit hheap happ hpre
  exact ⟨k, _, h1, h2, h3, hL args s _, lw_frame hF⟩
theorem i_vc : Claimed_1_1 ∧ Claimed_1_2 := ⟨lw_limb limb_1_1 (fun args s t => by simp [limb_1_1, Cond.after, Cond.holds, Cond.value]), lw_limb limb_1_2 (fun args s t => Cond.after_iff.mpr (by
  first | (rw [show limb_1_2 = Cond.eq .result (.int 1) from rfl, Cond.eq_ints (x := 1) (y := 1) rfl rfl]; simp; done) | (simp [limb_1_2, Cond.value, Term.eval]; done)))⟩
