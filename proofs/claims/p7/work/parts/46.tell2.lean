/-! THE RULES: tell (2) -/
abbrev TT3 : Type := List Int32 × List Int32 × List Int32
def t_pick (x : TT3) (w : Nat) : List Int32 := if w = 0 then x.1 else if w = 1 then x.2.1 else x.2.2
/-- a text as the reader makes it -/
def t_good (x : TT3) : Prop := (x.1 ++ x.2.1 ++ x.2.2).length ≤ 160 ∧ ∀ w, v_nd 31 (t_pick x w)
/-- the texts of the rules -/
def TT (M : mm_H) (size : Nat) (tx : Nat → TT3) : Prop := gI M 1 1 = nI size ∧ size ≤ 6 ∧ ∀ j, j < size → ∃ t : Nat, gR M 2 j = .ref t ∧ (t = 42 ∨ 63 ≤ t) ∧ t_good (tx j) ∧ TX M t ((tx j).1 ++ (tx j).2.1 ++ (tx j).2.2) (tx j).1.length ((tx j).1.length + (tx j).2.1.length)
def s_tell (size : Nat) (tx : Nat → TT3) (rule : Int32) (w : Nat) (env : Nat → Int32) : Int32 :=
  if rule < 0 then 0 else if rule < nI size then s_bd ((v_run env (t_pick (tx rule.toNatClampNeg) w) []).headD 0) else 0
theorem wo_env {f g : Nat → Int32} (h : ∀ k, k < 6 → f k = g k) (x a b : Int32) : s_wo f x a b = s_wo g x a b := by
  unfold s_wo
  by_cases h1 : x < 0
  · rw [if_pos h1, if_pos h1]
    by_cases h2 : -x - 3 < 0
    · rw [if_pos h2, if_pos h2]
    · rw [if_neg h2, if_neg h2]
      by_cases h3 : -x - 3 < 6
      · rw [if_pos h3, if_pos h3]
        obtain ⟨j, hj, e⟩ := nI_of h2
        rw [e, nI_clamp hj]
        exact h j ((nI_ltI (b := 6) hj (by decide)).mp (by rw [← e]; exact h3))
      · rw [if_neg h3, if_neg h3]
  · rw [if_neg h1, if_neg h1]
theorem item_env {f g : Nat → Int32} (h : ∀ k, k < 6 → f k = g k) (x : Int32) (st : List Int32) : v_item f x st = v_item g x st := by
  unfold v_item
  rcases jn3 x with j | j | j
  · rw [if_pos j, if_pos j, wo_env h]
  · have j0 : ¬ v_jn x = 0 := by omega
    rw [if_neg j0, if_pos j, if_neg j0, if_pos j]
    cases st with
    | nil => rfl
    | cons b r => show s_wo f x 0 b :: r = s_wo g x 0 b :: r; rw [wo_env h]
  · have j0 : ¬ v_jn x = 0 := by omega
    have j1 : ¬ v_jn x = 1 := by omega
    rw [if_neg j0, if_neg j1, if_neg j0, if_neg j1]
    cases st with
    | nil => rfl
    | cons b r =>
      cases r with
      | nil => rfl
      | cons a r => show s_wo f x a b :: r = s_wo g x a b :: r; rw [wo_env h]
theorem run_env {f g : Nat → Int32} (h : ∀ k, k < 6 → f k = g k) : ∀ (c st : List Int32), v_run f c st = v_run g c st
  | [], _ => rfl
  | x :: c, st => by
    show v_run f c (v_item f x st) = v_run g c (v_item g x st)
    rw [item_env h, run_env h c]
theorem s_tell_E6 (size : Nat) (tx : Nat → TT3) : E6 (s_tell size tx) := by
  intro r w f g h
  unfold s_tell
  rw [run_env h]
theorem TX.fr {S : Nat → Prop} {M M1 : mm_H} {t s1 s2 : Nat} {code : List Int32} (h : TX M t code s1 s2) (hf : Fr S M M1) (ht : t ≠ 44) (h1 : ¬ S t) (h2 : ¬ S (t + 1)) : TX M1 t code s1 s2 := by
  obtain ⟨a1, a2, a3, a4, a5, a6, a7⟩ := h
  exact ⟨(hf.hS t).trans a1, (hf.2.1 t 0 (fun z => ht z.1)).trans a2, (hf.2.2 t h1 1).trans a3, (hf.2.2 t h1 2).trans a4, (hf.hS _).trans a5, (hf.hL _).trans a6, fun i hi => (hf.2.2 _ h2 i).trans (a7 i hi)⟩
theorem TT.fr {M M1 : mm_H} {size : Nat} {tx : Nat → TT3} (h : TT M size tx) (hf : Fr Sno M M1) : TT M1 size tx := by
  obtain ⟨h1, h2, h3⟩ := h
  refine ⟨(hf.2.2 1 (fun z => z.1 rfl) 1).trans h1, h2, fun j hj => ?_⟩
  obtain ⟨t, g1, g2, g3, g4⟩ := h3 j hj
  refine ⟨t, (hf.2.1 2 j (fun z => absurd z.1 (by decide))).trans g1, g2, g3, g4.fr hf ?_ ?_ ?_⟩
  · rcases g2 with g | g <;> omega
  · rintro ⟨z1, z2, z3, z4, z5⟩
    rcases g2 with g | g <;> omega
  · rintro ⟨z1, z2, z3, z4, z5⟩
    rcases g2 with g | g <;> omega
section
variable {L : Nat} {xs : Nat → Int32} {d : Nat} {M : mm_H} {Q : Option Value → mm_H → Prop}
theorem nd_one_run {c : List Int32} (h : v_nd 31 c) (env : Nat → Int32) : v_chk c 0 ∧ ∃ v, v_run env c [] = [v] := by
  obtain ⟨h1, h2⟩ := h 0 (by decide)
  refine ⟨h1, ?_⟩
  have := run_len (env := env) c [] h1
  rw [show ([] : List Int32).length = 0 from rfl, h2] at this
  match hr : v_run env c [] with
  | [] => rw [hr] at this; cases this
  | [v] => exact ⟨v, rfl⟩
  | a :: b :: r => rw [hr] at this; simp at this
theorem i0lt : ((0 : Int32) = 1) = False := by simp
theorem i1eq : ((1 : Int32) = 1) = True := by simp
theorem i2eq0 : ((2 : Int32) = 0) = False := by simp
theorem i2eq1 : ((2 : Int32) = 1) = False := by simp
theorem c_tell {w size : Nat} {rule : Int32} {tx : Nat → TT3} (hu : SU M) (hT : TT M size tx) (hw : w < 3) (hq : ∀ M', Fr S34 M M' → Q (some (.int (s_tell size tx rule w (gI M 3)))) M') : Call L xs (d + 2) 64 [.ref 1, .int rule, .int (nI w)] M Q := by
  obtain ⟨u1, u2, u3, u4, u5, u6, u7, u8, u9, u10⟩ := id hu
  obtain ⟨s1, s2, s3⟩ := hT
  rw [en64]
  by_cases h0 : rule < 0
  · have hh := hq M Fr.rf
    unfold s_tell at hh
    rw [if_pos h0] at hh
    simp only [↓e64_0, ↓e64_1, ↓e64_4, ↓e64_5, ↓e64_6, ↓e64_9, ↓e64_12, ↓e64_13, ↓e64_16, ↓e64_17, ↓e64_18, ↓e64_21, ↓e64_23, ↓e64_24n, ↓e64_24, ↓e64_27, ↓e64_28, ↓e64_29, ↓e64_30, ↓e64_32, ↓e64_33, ↓e64_34, ↓e64_37, ↓e64_39, ↓e64_40, ↓e64_41, ↓e64_44, ↓e64_46, ↓e64_48, ↓e64_50, ↓e64_53, ↓e64_54, ↓e64_57, ↓e64_59, ↓e64_60, ↓e64_62, ↓e64_64, ↓e64_67, ↓e64_69, ↓e64_71, ↓e64_73, ↓e64_76, ↓e64_78, ↓e64_80, ↓e64_81, ↓e64_82, ↓e64_85, ↓e64_86, ↓e64_89, ↓e64_90, ↓e64_91, ↓e64_93, ↓e64_94, ↓e64_97, ↓e64_98, ↓e64_101, ↓e64_103, ↓e64_104, ↓e64_105, ↓e64_106, ↓e64_109, ↓e64_110, ↓e64_112, ↓e64_114, ↓e64_117, ↓e64_118, ↓e64_121, ↓e64_123, ↓e64_124, ↓e64_125, ↓e64_126, ↓e64_129, ↓e64_130, ↓e64_132, ↓e64_134, ↓e64_136, ↓e64_137, ↓e64_139, ↓e64_140, ↓e64_143, ↓e64_145, ↓e64_146, ↓e64_148, ↓e64_150, ↓e64_152, ↓e64_155, ↓e64_156, ↓e64_159, ↓e64_162, ↓e64_165, ↓e64_167, ↓e64_170, ↓e64_171, ↓e64_174, ↓e64_175, ↓e64_178, ↓e64_179, ↓e64_180, ↓e64_183, e64_22 (v := .null) (Or.inl rfl), bc1_a, bd1, bd2, bd3, bd4, bd5, bd6, bd7, bd8, bd9, bd10, bd11, bd12, bd13, bd14, bd15, bd16, bd17, bd18, bd19, bd20, bd21, bd22, bd23, bd24, bd25, bd26, bd27, bd28, bd29, bd30, bd31, bd32, bd33, bd34, bd35, bd36, bd37, bd38, bd39, bc1_i, bc1_r, bc1_n, bc1_U, bisA_r, bisA_n, bisA_a, bct_i, bct_r, bct_n, bct_l, bcs_0, bcs_i, bcs_r, bcs_l, bcs_a, brt_0, brt_1, ↓bz0, ↓bz1, true_and, and_true, false_and, and_false, and_self, Nat.reduceAdd, Nat.reduceLeDiff, Nat.reduceSub, Nat.reduceEqDiff, ite_true, ite_false, if_true, if_false, h0]
    exact hh
  by_cases h1 : rule < nI size
  · obtain ⟨j, hj, e⟩ := nI_of h0
    subst e
    have hjs : j < size := (nI_ltI hj (by omega)).mp h1
    obtain ⟨t, g1, g2, g3, g4⟩ := s3 j hjs
    obtain ⟨a1, a2, a3, a4, a5, a6, a7⟩ := id g4
    have j0 : 0 ≤ nI j := nI_pos' hj
    have j1 : (nI j).toNatClampNeg = j := nI_clamp hj
    have j2 : j < 6 := by omega
    obtain ⟨k1, v, k2⟩ := nd_one_run (g3.2 w) (gI M 3)
    have hlen := g3.1
    have hl1 : ((tx j).1 ++ (tx j).2.1 ++ (tx j).2.2).length = (tx j).1.length + (tx j).2.1.length + (tx j).2.2.length := by simp only [List.length_append]
    have hA : (10 : Nat) ≤ 10 ∧ (10 : Nat) ≤ 13 := ⟨by decide, by decide⟩
    have hB : ((12 : Nat) = 12 ∨ (12 : Nat) = 13) := Or.inl rfl
    have hfin : s_tell size tx (nI j) w (gI M 3) = s_bd v := by
      unfold s_tell
      rw [if_neg h0, if_pos h1, j1, k2]
      rfl
    rw [hfin] at hq
    have hR : ∀ (a : Nat), Value.ref a = .null ∨ ∃ b, Value.ref a = .ref b := fun a => Or.inr ⟨a, rfl⟩
    have main : ∀ (s e : Nat), s + (t_pick (tx j) w).length = e → e ≤ ((tx j).1 ++ (tx j).2.1 ++ (tx j).2.2).length → (∀ k, k < (t_pick (tx j) w).length → gI M (t + 1) (s + k) = (t_pick (tx j) w).getD k 0) → Wp L xs (d + 2) 64 46 [.ref 1, .int (nI j), .int (nI w), .ref t, .int 0, .int (nI e), .int (nI s), mm_U, mm_U, mm_U, mm_U] [] M Q := by
      intro s e hse he hcode
      refine l_tell (d := d + 1) (len := ((tx j).1 ++ (tx j).2.1 ++ (tx j).2.2).length) hu (by rcases g2 with g | g <;> omega) (by rcases g2 with g | g <;> omega) a1 a2 a5 a6 he (by omega) (t_pick (tx j) w) s M [] mm_U mm_U mm_U mm_U Fr.rf True.intro k1 (by decide) hse hcode ?_
      intro M' v7 v8 v9 v10 hf hsk
      rw [k2] at hsk ⊢
      have b1 : gS M' 1 = 1 := (hf.hS 1).trans u1
      have b2 : gR M' 1 3 = .ref 4 := (hf.2.1 1 3 (by omega)).trans u4
      have b3 : gS M' 4 = 10 := (hf.hS 4).trans u9
      have b4 : gL M' 4 = 40 := (hf.hL 4).trans u10
      have b5 : gI M' 4 0 = v := hsk.1
      have b6 : (nI ([v] : List Int32).length = 0) = False := by show ((1 : Int32) = 0) = False; simp
      have b7 : (0 : Int32) ≤ 0 ∧ (0 : Int32).toNatClampNeg = 0 := ⟨by decide, by decide⟩
      have b8 : (0 : Nat) < 40 := by decide
      have hh := hq M' (hf.weak (fun o z => Or.inr z))
      simp only [↓e64_0, ↓e64_1, ↓e64_4, ↓e64_5, ↓e64_6, ↓e64_9, ↓e64_12, ↓e64_13, ↓e64_16, ↓e64_17, ↓e64_18, ↓e64_21, ↓e64_22, ↓e64_23, ↓e64_24n, ↓e64_24, ↓e64_27, ↓e64_28, ↓e64_29, ↓e64_30, ↓e64_32, ↓e64_33, ↓e64_34, ↓e64_37, ↓e64_39, ↓e64_40, ↓e64_41, ↓e64_44, ↓e64_48, ↓e64_50, ↓e64_53, ↓e64_54, ↓e64_57, ↓e64_59, ↓e64_60, ↓e64_62, ↓e64_64, ↓e64_67, ↓e64_69, ↓e64_71, ↓e64_73, ↓e64_76, ↓e64_78, ↓e64_80, ↓e64_81, ↓e64_82, ↓e64_85, ↓e64_86, ↓e64_89, ↓e64_90, ↓e64_91, ↓e64_93, ↓e64_94, ↓e64_97, ↓e64_98, ↓e64_101, ↓e64_103, ↓e64_104, ↓e64_105, ↓e64_106, ↓e64_109, ↓e64_110, ↓e64_112, ↓e64_114, ↓e64_117, ↓e64_118, ↓e64_121, ↓e64_123, ↓e64_124, ↓e64_125, ↓e64_126, ↓e64_129, ↓e64_130, ↓e64_132, ↓e64_134, ↓e64_136, ↓e64_137, ↓e64_139, ↓e64_140, ↓e64_143, ↓e64_145, ↓e64_146, ↓e64_148, ↓e64_150, ↓e64_152, ↓e64_155, ↓e64_156, ↓e64_159, ↓e64_162, ↓e64_165, ↓e64_167, ↓e64_170, ↓e64_171, ↓e64_174, ↓e64_175, ↓e64_178, ↓e64_179, ↓e64_180, ↓e64_183, bc1_a, bd1, bd2, bd3, bd4, bd5, bd6, bd7, bd8, bd9, bd10, bd11, bd12, bd13, bd14, bd15, bd16, bd17, bd18, bd19, bd20, bd21, bd22, bd23, bd24, bd25, bd26, bd27, bd28, bd29, bd30, bd31, bd32, bd33, bd34, bd35, bd36, bd37, bd38, bd39, bc1_i, bc1_r, bc1_n, bc1_U, bisA_r, bisA_n, bisA_a, bct_i, bct_r, bct_n, bct_l, bcs_0, bcs_i, bcs_r, bcs_l, bcs_a, brt_0, brt_1, ↓bz0, ↓bz1, true_and, and_true, false_and, and_false, and_self, Nat.reduceAdd, Nat.reduceLeDiff, Nat.reduceSub, Nat.reduceEqDiff, ite_true, ite_false, if_true, if_false, b1, b2, b3, b4, b5, b6, b7.1, b7.2, b8, c_bound]
      exact hh
    have hrest : ∀ (s : Nat) (c : List Int32), s + c.length ≤ ((tx j).1 ++ (tx j).2.1 ++ (tx j).2.2).length → (∀ k, k < c.length → ((tx j).1 ++ (tx j).2.1 ++ (tx j).2.2).getD (s + k) 0 = c.getD k 0) → ∀ k, k < c.length → gI M (t + 1) (s + k) = c.getD k 0 := by
      intro s c h1 h2 k hk
      rw [a7 (s + k) (by omega), h2 k hk]
    match w, hw with
    | 0, _ =>
      have hm := main 0 (tx j).1.length (Nat.zero_add _) (by omega) (hrest 0 (tx j).1 (by omega) (fun k hk => by
        rw [List.append_assoc]
        simp only [List.getD_eq_getElem?_getD, Nat.zero_add]
        rw [List.getElem?_append_left hk]))
      simp only [↓e64_0, ↓e64_1, ↓e64_4, ↓e64_5, ↓e64_6, ↓e64_9, ↓e64_12, ↓e64_13, ↓e64_16, ↓e64_18, ↓e64_21, ↓e64_23, ↓e64_24n, ↓e64_24, ↓e64_27, ↓e64_28, ↓e64_29, ↓e64_30, ↓e64_32, ↓e64_33, ↓e64_34, ↓e64_37, ↓e64_39, ↓e64_40, ↓e64_41, ↓e64_44, ↓e64_48, ↓e64_50, ↓e64_53, ↓e64_54, ↓e64_57, ↓e64_59, ↓e64_60, ↓e64_62, ↓e64_64, ↓e64_67, ↓e64_69, ↓e64_71, ↓e64_73, ↓e64_76, ↓e64_78, ↓e64_80, ↓e64_81, ↓e64_82, ↓e64_85, ↓e64_86, ↓e64_89, ↓e64_90, ↓e64_91, ↓e64_93, ↓e64_94, ↓e64_97, ↓e64_98, ↓e64_101, ↓e64_103, ↓e64_104, ↓e64_105, ↓e64_106, ↓e64_109, ↓e64_110, ↓e64_112, ↓e64_114, ↓e64_117, ↓e64_118, ↓e64_121, ↓e64_123, ↓e64_124, ↓e64_125, ↓e64_126, ↓e64_129, ↓e64_130, ↓e64_132, ↓e64_134, ↓e64_136, ↓e64_137, ↓e64_139, ↓e64_140, ↓e64_143, ↓e64_145, ↓e64_146, ↓e64_148, ↓e64_150, ↓e64_152, ↓e64_155, ↓e64_156, ↓e64_159, ↓e64_162, ↓e64_165, ↓e64_167, ↓e64_170, ↓e64_171, ↓e64_174, ↓e64_175, ↓e64_178, ↓e64_179, ↓e64_180, ↓e64_183, e64_17 (o := 2) (k := nI j) (Or.inl u5) j0 (by rw [j1, u6]; exact j2), e64_22 (hR _), ↓e72_0, ↓e72_1, ↓e72_4, ↓e72_5, ↓e72_8, ↓e72_9, ↓e72_10, ↓e72_13, ↓e72_14, ↓e72_17, ↓e72_20, ↓e72_21, ↓e72_24, ↓e73_0, ↓e73_1, ↓e73_4, ↓e73_5, ↓e73_8, ↓e73_11, ↓e73_12, ↓e73_13, ↓e73_16, ↓e73_17, ↓e73_20, ↓e73_23, ↓e73_24, ↓e73_27, ↓e73_28, en72, en73, bc1_a, bd1, bd2, bd3, bd4, bd5, bd6, bd7, bd8, bd9, bd10, bd11, bd12, bd13, bd14, bd15, bd16, bd17, bd18, bd19, bd20, bd21, bd22, bd23, bd24, bd25, bd26, bd27, bd28, bd29, bd30, bd31, bd32, bd33, bd34, bd35, bd36, bd37, bd38, bd39, bc1_i, bc1_r, bc1_n, bc1_U, bisA_r, bisA_n, bisA_a, bct_i, bct_r, bct_n, bct_l, bcs_0, bcs_i, bcs_r, bcs_l, bcs_a, brt_0, brt_1, ↓bz0, ↓bz1, true_and, and_true, false_and, and_false, and_self, Nat.reduceAdd, Nat.reduceLeDiff, Nat.reduceSub, Nat.reduceEqDiff, ite_true, ite_false, if_true, if_false, h0, h1, u1, u2, u5, u6, s1, hB, j0, j1, j2, g1, a1, a2, a3, a4, nI_0, i0eq]
      exact hm
    | 1, _ =>
      have hm := main (tx j).1.length ((tx j).1.length + (tx j).2.1.length) rfl (by omega) (hrest (tx j).1.length (tx j).2.1 (by omega) (fun k hk => by
        rw [List.append_assoc]
        simp only [List.getD_eq_getElem?_getD]
        rw [List.getElem?_append_right (by omega), Nat.add_sub_cancel_left, List.getElem?_append_left hk]))
      have n1 : nI 1 = 1 := rfl
      simp only [↓e64_0, ↓e64_1, ↓e64_4, ↓e64_5, ↓e64_6, ↓e64_9, ↓e64_12, ↓e64_13, ↓e64_16, ↓e64_18, ↓e64_21, ↓e64_23, ↓e64_24n, ↓e64_24, ↓e64_27, ↓e64_28, ↓e64_29, ↓e64_30, ↓e64_32, ↓e64_33, ↓e64_34, ↓e64_37, ↓e64_39, ↓e64_40, ↓e64_41, ↓e64_44, ↓e64_48, ↓e64_50, ↓e64_53, ↓e64_54, ↓e64_57, ↓e64_59, ↓e64_60, ↓e64_62, ↓e64_64, ↓e64_67, ↓e64_69, ↓e64_71, ↓e64_73, ↓e64_76, ↓e64_78, ↓e64_80, ↓e64_81, ↓e64_82, ↓e64_85, ↓e64_86, ↓e64_89, ↓e64_90, ↓e64_91, ↓e64_93, ↓e64_94, ↓e64_97, ↓e64_98, ↓e64_101, ↓e64_103, ↓e64_104, ↓e64_105, ↓e64_106, ↓e64_109, ↓e64_110, ↓e64_112, ↓e64_114, ↓e64_117, ↓e64_118, ↓e64_121, ↓e64_123, ↓e64_124, ↓e64_125, ↓e64_126, ↓e64_129, ↓e64_130, ↓e64_132, ↓e64_134, ↓e64_136, ↓e64_137, ↓e64_139, ↓e64_140, ↓e64_143, ↓e64_145, ↓e64_146, ↓e64_148, ↓e64_150, ↓e64_152, ↓e64_155, ↓e64_156, ↓e64_159, ↓e64_162, ↓e64_165, ↓e64_167, ↓e64_170, ↓e64_171, ↓e64_174, ↓e64_175, ↓e64_178, ↓e64_179, ↓e64_180, ↓e64_183, e64_17 (o := 2) (k := nI j) (Or.inl u5) j0 (by rw [j1, u6]; exact j2), e64_22 (hR _), ↓e72_0, ↓e72_1, ↓e72_4, ↓e72_5, ↓e72_8, ↓e72_9, ↓e72_10, ↓e72_13, ↓e72_14, ↓e72_17, ↓e72_20, ↓e72_21, ↓e72_24, ↓e73_0, ↓e73_1, ↓e73_4, ↓e73_5, ↓e73_8, ↓e73_11, ↓e73_12, ↓e73_13, ↓e73_16, ↓e73_17, ↓e73_20, ↓e73_23, ↓e73_24, ↓e73_27, ↓e73_28, en72, en73, bc1_a, bd1, bd2, bd3, bd4, bd5, bd6, bd7, bd8, bd9, bd10, bd11, bd12, bd13, bd14, bd15, bd16, bd17, bd18, bd19, bd20, bd21, bd22, bd23, bd24, bd25, bd26, bd27, bd28, bd29, bd30, bd31, bd32, bd33, bd34, bd35, bd36, bd37, bd38, bd39, bc1_i, bc1_r, bc1_n, bc1_U, bisA_r, bisA_n, bisA_a, bct_i, bct_r, bct_n, bct_l, bcs_0, bcs_i, bcs_r, bcs_l, bcs_a, brt_0, brt_1, ↓bz0, ↓bz1, true_and, and_true, false_and, and_false, and_self, Nat.reduceAdd, Nat.reduceLeDiff, Nat.reduceSub, Nat.reduceEqDiff, ite_true, ite_false, if_true, if_false, h0, h1, u1, u2, u5, u6, s1, hB, j0, j1, j2, g1, a1, a2, a3, a4, n1, i1ne, i1eq]
      exact hm
    | 2, _ =>
      have hm := main ((tx j).1.length + (tx j).2.1.length) ((tx j).1 ++ (tx j).2.1 ++ (tx j).2.2).length hl1.symm (Nat.le_refl _) (hrest ((tx j).1.length + (tx j).2.1.length) (tx j).2.2 (by omega) (fun k hk => by
        simp only [List.getD_eq_getElem?_getD]
        rw [List.getElem?_append_right (by rw [List.length_append]; omega), List.length_append, Nat.add_sub_cancel_left]))
      have n2 : nI 2 = 2 := rfl
      simp only [↓e64_0, ↓e64_1, ↓e64_4, ↓e64_5, ↓e64_6, ↓e64_9, ↓e64_12, ↓e64_13, ↓e64_16, ↓e64_18, ↓e64_21, ↓e64_23, ↓e64_24n, ↓e64_24, ↓e64_27, ↓e64_28, ↓e64_29, ↓e64_30, ↓e64_32, ↓e64_33, ↓e64_34, ↓e64_37, ↓e64_39, ↓e64_40, ↓e64_41, ↓e64_44, ↓e64_48, ↓e64_50, ↓e64_53, ↓e64_54, ↓e64_57, ↓e64_59, ↓e64_60, ↓e64_62, ↓e64_64, ↓e64_67, ↓e64_69, ↓e64_71, ↓e64_73, ↓e64_76, ↓e64_78, ↓e64_80, ↓e64_81, ↓e64_82, ↓e64_85, ↓e64_86, ↓e64_89, ↓e64_90, ↓e64_91, ↓e64_93, ↓e64_94, ↓e64_97, ↓e64_98, ↓e64_101, ↓e64_103, ↓e64_104, ↓e64_105, ↓e64_106, ↓e64_109, ↓e64_110, ↓e64_112, ↓e64_114, ↓e64_117, ↓e64_118, ↓e64_121, ↓e64_123, ↓e64_124, ↓e64_125, ↓e64_126, ↓e64_129, ↓e64_130, ↓e64_132, ↓e64_134, ↓e64_136, ↓e64_137, ↓e64_139, ↓e64_140, ↓e64_143, ↓e64_145, ↓e64_146, ↓e64_148, ↓e64_150, ↓e64_152, ↓e64_155, ↓e64_156, ↓e64_159, ↓e64_162, ↓e64_165, ↓e64_167, ↓e64_170, ↓e64_171, ↓e64_174, ↓e64_175, ↓e64_178, ↓e64_179, ↓e64_180, ↓e64_183, e64_17 (o := 2) (k := nI j) (Or.inl u5) j0 (by rw [j1, u6]; exact j2), e64_22 (hR _), ↓e72_0, ↓e72_1, ↓e72_4, ↓e72_5, ↓e72_8, ↓e72_9, ↓e72_10, ↓e72_13, ↓e72_14, ↓e72_17, ↓e72_20, ↓e72_21, ↓e72_24, ↓e73_0, ↓e73_1, ↓e73_4, ↓e73_5, ↓e73_8, ↓e73_11, ↓e73_12, ↓e73_13, ↓e73_16, ↓e73_17, ↓e73_20, ↓e73_23, ↓e73_24, ↓e73_27, ↓e73_28, en72, en73, bc1_a, bd1, bd2, bd3, bd4, bd5, bd6, bd7, bd8, bd9, bd10, bd11, bd12, bd13, bd14, bd15, bd16, bd17, bd18, bd19, bd20, bd21, bd22, bd23, bd24, bd25, bd26, bd27, bd28, bd29, bd30, bd31, bd32, bd33, bd34, bd35, bd36, bd37, bd38, bd39, bc1_i, bc1_r, bc1_n, bc1_U, bisA_r, bisA_n, bisA_a, bct_i, bct_r, bct_n, bct_l, bcs_0, bcs_i, bcs_r, bcs_l, bcs_a, brt_0, brt_1, ↓bz0, ↓bz1, true_and, and_true, false_and, and_false, and_self, Nat.reduceAdd, Nat.reduceLeDiff, Nat.reduceSub, Nat.reduceEqDiff, ite_true, ite_false, if_true, if_false, h0, h1, u1, u2, u5, u6, s1, hB, j0, j1, j2, g1, a1, a2, a3, a4, a5, a6, hA, n2, i2eq0, i2eq1]
      exact hm
  · have hh := hq M Fr.rf
    unfold s_tell at hh
    rw [if_neg h0, if_neg h1] at hh
    simp only [↓e64_0, ↓e64_1, ↓e64_4, ↓e64_5, ↓e64_6, ↓e64_9, ↓e64_12, ↓e64_13, ↓e64_16, ↓e64_17, ↓e64_18, ↓e64_21, ↓e64_23, ↓e64_24n, ↓e64_24, ↓e64_27, ↓e64_28, ↓e64_29, ↓e64_30, ↓e64_32, ↓e64_33, ↓e64_34, ↓e64_37, ↓e64_39, ↓e64_40, ↓e64_41, ↓e64_44, ↓e64_46, ↓e64_48, ↓e64_50, ↓e64_53, ↓e64_54, ↓e64_57, ↓e64_59, ↓e64_60, ↓e64_62, ↓e64_64, ↓e64_67, ↓e64_69, ↓e64_71, ↓e64_73, ↓e64_76, ↓e64_78, ↓e64_80, ↓e64_81, ↓e64_82, ↓e64_85, ↓e64_86, ↓e64_89, ↓e64_90, ↓e64_91, ↓e64_93, ↓e64_94, ↓e64_97, ↓e64_98, ↓e64_101, ↓e64_103, ↓e64_104, ↓e64_105, ↓e64_106, ↓e64_109, ↓e64_110, ↓e64_112, ↓e64_114, ↓e64_117, ↓e64_118, ↓e64_121, ↓e64_123, ↓e64_124, ↓e64_125, ↓e64_126, ↓e64_129, ↓e64_130, ↓e64_132, ↓e64_134, ↓e64_136, ↓e64_137, ↓e64_139, ↓e64_140, ↓e64_143, ↓e64_145, ↓e64_146, ↓e64_148, ↓e64_150, ↓e64_152, ↓e64_155, ↓e64_156, ↓e64_159, ↓e64_162, ↓e64_165, ↓e64_167, ↓e64_170, ↓e64_171, ↓e64_174, ↓e64_175, ↓e64_178, ↓e64_179, ↓e64_180, ↓e64_183, e64_22 (v := .null) (Or.inl rfl), bc1_a, bd1, bd2, bd3, bd4, bd5, bd6, bd7, bd8, bd9, bd10, bd11, bd12, bd13, bd14, bd15, bd16, bd17, bd18, bd19, bd20, bd21, bd22, bd23, bd24, bd25, bd26, bd27, bd28, bd29, bd30, bd31, bd32, bd33, bd34, bd35, bd36, bd37, bd38, bd39, bc1_i, bc1_r, bc1_n, bc1_U, bisA_r, bisA_n, bisA_a, bct_i, bct_r, bct_n, bct_l, bcs_0, bcs_i, bcs_r, bcs_l, bcs_a, brt_0, brt_1, ↓bz0, ↓bz1, true_and, and_true, false_and, and_false, and_self, Nat.reduceAdd, Nat.reduceLeDiff, Nat.reduceSub, Nat.reduceEqDiff, ite_true, ite_false, if_true, if_false, h0, h1, u1, s1]
    exact hh
theorem TOK_of {size : Nat} {tx : Nat → TT3} (hu : SU M) (hT : TT M size tx) : TOK L xs (s_tell size tx) (d + 2) M := by
  intro M1 rule w Q hf hw hq
  refine c_tell (hu.fr hf) (hT.fr hf) hw hq
end
