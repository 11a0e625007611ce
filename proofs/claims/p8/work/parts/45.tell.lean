/-! THE RULES: tell -/
def S4 (o : Nat) : Prop := o = 4
/-- the stack's cell holds st, its top first -/
def SK (M : mm_H) : List Int32 → Prop
  | [] => True
  | x :: r => gI M 4 r.length = x ∧ SK M r
theorem SK.put {M : mm_H} {k : Nat} {x : Int32} : ∀ {st : List Int32}, st.length ≤ k → SK M st → SK (pI M 4 k x) st
  | [], _, _ => True.intro
  | y :: r, hk, h => by
    have hk2 : r.length + 1 ≤ k := hk
    refine ⟨?_, SK.put (by omega) h.2⟩
    rw [gI_p, if_neg (by omega)]
    exact h.1
theorem jn3 (x : Int32) : v_jn x = 0 ∨ v_jn x = 1 ∨ v_jn x = 2 := by
  unfold v_jn
  by_cases h : -8 ≤ x
  · rw [if_pos h]; exact Or.inl rfl
  · rw [if_neg h]
    by_cases h2 : x = -15 ∨ x = -14
    · rw [if_pos h2]; exact Or.inr (Or.inl rfl)
    · rw [if_neg h2]; exact Or.inr (Or.inr rfl)
theorem run_len {env : Nat → Int32} : ∀ (c st : List Int32), v_chk c st.length → (v_run env c st).length = v_fin c st.length
  | [], _, _ => rfl
  | x :: c, st, h => by
    have hl : (v_item env x st).length = st.length - v_jn x + 1 := by
      have h1 := h.1.1
      rcases jn3 x with j | j | j
      · unfold v_item; rw [if_pos j, j]; rfl
      · unfold v_item; rw [if_neg (by omega), if_pos j, j]
        rw [j] at h1
        match st, h1 with
        | b :: r, _ => rfl
      · unfold v_item; rw [if_neg (by omega), if_neg (by omega), j]
        rw [j] at h1
        match st, h1 with
        | b :: a :: r, _ => rfl
    have h2 := h.2
    rw [← hl] at h2
    show (v_run env c (v_item env x st)).length = v_fin c (st.length - v_jn x + 1)
    rw [run_len c _ h2, hl]
section
variable {L : Nat} {xs : Nat → Int32} {d : Nat} {Q : Option Value → mm_H → Prop}
theorem l_tell {M0 : mm_H} {t len e : Nat} {rule w : Int32} (hu : SU M0) (ht : 42 ≤ t) (ht44 : t ≠ 44) (t1 : gS M0 t = 3) (t2 : gR M0 t 0 = .ref (t + 1)) (t3 : gS M0 (t + 1) = 10) (t4 : gL M0 (t + 1) = len) (he : e ≤ len) (hlen : len < 1000) :
    ∀ (rest : List Int32) (i : Nat) (M : mm_H) (st : List Int32) (v7 v8 v9 v10 : Value), Fr S4 M0 M → SK M st → v_chk rest st.length → st.length ≤ 40 → i + rest.length = e → (∀ k, k < rest.length → gI M0 (t + 1) (i + k) = rest.getD k 0) →
    (∀ M' v7 v8 v9 v10, Fr S4 M0 M' → SK M' (v_run (gI M0 3) rest st) → Wp L xs (d + 1) 64 165 [.ref 1, .int rule, .int w, .ref t, .int (nI (v_run (gI M0 3) rest st).length), .int (nI e), .int (nI e), v7, v8, v9, v10] [] M' Q) →
    Wp L xs (d + 1) 64 46 [.ref 1, .int rule, .int w, .ref t, .int (nI st.length), .int (nI e), .int (nI i), v7, v8, v9, v10] [] M Q := by
  obtain ⟨u1, u2, u3, u4, u5, u6, u7, u8, u9, u10⟩ := id hu
  intro rest
  induction rest with
  | nil =>
    intro i M st v7 v8 v9 v10 hf hk hc h40 hi hcode hq
    have e1 : i = e := by simpa using hi
    subst e1
    have hc := nI_lt0 (a := i) (b := i) (Nat.le_refl _) (by omega)
    have hh := hq M v7 v8 v9 v10 hf hk
    rw [e64_46]
    simp only [↓e64_0, ↓e64_1, ↓e64_4, ↓e64_5, ↓e64_6, ↓e64_9, ↓e64_12, ↓e64_13, ↓e64_16, ↓e64_17, ↓e64_18, ↓e64_21, ↓e64_22, ↓e64_23, ↓e64_24n, ↓e64_24, ↓e64_27, ↓e64_28, ↓e64_29, ↓e64_30, ↓e64_32, ↓e64_33, ↓e64_34, ↓e64_37, ↓e64_39, ↓e64_40, ↓e64_41, ↓e64_44, ↓e64_48, ↓e64_50, ↓e64_53, ↓e64_54, ↓e64_57, ↓e64_59, ↓e64_60, ↓e64_62, ↓e64_64, ↓e64_67, ↓e64_69, ↓e64_71, ↓e64_73, ↓e64_76, ↓e64_78, ↓e64_80, ↓e64_81, ↓e64_82, ↓e64_85, ↓e64_86, ↓e64_89, ↓e64_90, ↓e64_91, ↓e64_93, ↓e64_94, ↓e64_97, ↓e64_98, ↓e64_101, ↓e64_103, ↓e64_104, ↓e64_105, ↓e64_106, ↓e64_109, ↓e64_110, ↓e64_112, ↓e64_114, ↓e64_117, ↓e64_118, ↓e64_121, ↓e64_123, ↓e64_124, ↓e64_125, ↓e64_126, ↓e64_129, ↓e64_130, ↓e64_132, ↓e64_134, ↓e64_136, ↓e64_137, ↓e64_139, ↓e64_140, ↓e64_143, ↓e64_145, ↓e64_146, ↓e64_148, ↓e64_150, ↓e64_152, ↓e64_155, ↓e64_156, ↓e64_159, ↓e64_162, ↓e64_167, ↓e64_170, ↓e64_171, ↓e64_174, ↓e64_175, ↓e64_178, ↓e64_179, ↓e64_180, ↓e64_183, bc1_a, bd1, bd2, bd3, bd4, bd5, bd6, bd7, bd8, bd9, bd10, bd11, bd12, bd13, bd14, bd15, bd16, bd17, bd18, bd19, bd20, bd21, bd22, bd23, bd24, bd25, bd26, bd27, bd28, bd29, bd30, bd31, bd32, bd33, bd34, bd35, bd36, bd37, bd38, bd39, bc1_i, bc1_r, bc1_n, bc1_U, bisA_r, bisA_n, bisA_a, bct_i, bct_r, bct_n, bct_l, bcs_0, bcs_i, bcs_r, bcs_l, bcs_a, brt_0, brt_1, ↓bz0, ↓bz1, true_and, and_true, false_and, and_false, and_self, Nat.reduceAdd, Nat.reduceLeDiff, Nat.reduceSub, Nat.reduceEqDiff, ite_true, ite_false, if_true, if_false, hc]
    exact hh
  | cons x rest ih =>
    intro i M st v7 v8 v9 v10 hf hk hc h40 hi hcode hq
    have hi2 : i + (rest.length + 1) = e := hi
    have hlt := nI_lt1 (a := i) (b := e) (by omega) (by omega)
    have i0 : 0 ≤ nI i := nI_pos' (by omega)
    have i1 : (nI i).toNatClampNeg = i := nI_clamp (by omega)
    have i2 : i < len := by omega
    have m1 : gS M 1 = 1 := (hf.hS 1).trans u1
    have m2 : gR M 1 3 = .ref 4 := (hf.2.1 1 3 (by omega)).trans u4
    have m3 : gS M t = 3 := (hf.hS t).trans t1
    have m4 : gR M t 0 = .ref (t + 1) := (hf.2.1 t 0 (by omega)).trans t2
    have m5 : gS M (t + 1) = 10 := (hf.hS (t + 1)).trans t3
    have m6 : gL M (t + 1) = len := (hf.hL (t + 1)).trans t4
    have m7 : gS M 4 = 10 := (hf.hS 4).trans u9
    have m8 : gL M 4 = 40 := (hf.hL 4).trans u10
    have m9 : gI M (t + 1) i = x := by rw [hf.2.2 (t + 1) (by unfold S4; omega) i]; exact hcode 0 (Nat.succ_pos _)
    have m10 : gI M 3 = gI M0 3 := funext fun k => hf.2.2 3 (by unfold S4; omega) k
    have huM : SU M := hu.fr hf
    have hA : (10 : Nat) ≤ 10 ∧ (10 : Nat) ≤ 13 := ⟨by decide, by decide⟩
    have hcode2 : ∀ k, k < rest.length → gI M0 (t + 1) (i + 1 + k) = rest.getD k 0 := by
      intro k hk2
      have := hcode (k + 1) (Nat.succ_lt_succ hk2)
      rw [show i + 1 + k = i + (k + 1) by omega]
      exact this
    have hfit := hc.1.1
    have h40' := hc.1.2
    have hrest := hc.2
    have hw : ∀ (a b : Int32) (R : Option Value → mm_H → Prop), Call L xs d 65 [.ref 1, .int x, .int a, .int b] M R = R (some (.int (s_wo (gI M0 3) x a b))) M := fun a b R => by rw [c_worth huM, m10]
    rcases jn3 x with j | j | j
    · have j2 : nI (v_jn x) = 0 := by rw [j]; rfl
      rw [j] at hfit h40' hrest
      have hv : v_item (gI M0 3) x st = s_wo (gI M0 3) x 0 0 :: st := by unfold v_item; rw [if_pos j]
      have c1 : (nI st.length < 0) = False := nI_lt0 (a := st.length) (b := 0) (by omega) (by omega)
      have c2 : nI st.length - 0 = nI st.length := pk_sub (a := st.length) (b := 0) (by omega)
      have c3 : (nI st.length < nI 40) = True := nI_lt1 (by omega) (by decide)
      have p0 : 0 ≤ nI st.length := nI_pos' (by omega)
      have p1 : (nI st.length).toNatClampNeg = st.length := nI_clamp (by omega)
      have p2 : st.length < 40 := by omega
      have hsk : SK (pI M 4 st.length (s_wo (gI M0 3) x 0 0)) (s_wo (gI M0 3) x 0 0 :: st) := ⟨by rw [gI_p, if_pos ⟨rfl, rfl⟩], SK.put (Nat.le_refl _) hk⟩
      have hnext := ih (i + 1) (pI M 4 st.length (s_wo (gI M0 3) x 0 0)) (s_wo (gI M0 3) x 0 0 :: st) (.int x) (.int 0) (.int 0) (.int 0) (hf.put2 rfl) hsk (by have h5 := hrest; simpa using h5) (by simp only [List.length_cons]; omega) (by omega) hcode2 (by
        intro M' v7 v8 v9 v10 hf' hsk'
        have hh := hq M' v7 v8 v9 v10 hf' (by rw [v_run, hv]; exact hsk')
        rw [v_run, hv] at hh
        exact hh)
      have z02 : ((0 : Int32) = 2) = False := by simp
      have z00 : ((0 : Int32) < 0) = False := by simp
      have q9 : ((0 : Int32) < 0) = False := by simp
      rw [e64_46]
      simp only [↓e64_0, ↓e64_1, ↓e64_4, ↓e64_5, ↓e64_6, ↓e64_9, ↓e64_12, ↓e64_13, ↓e64_16, ↓e64_17, ↓e64_18, ↓e64_21, ↓e64_22, ↓e64_23, ↓e64_24n, ↓e64_24, ↓e64_27, ↓e64_28, ↓e64_29, ↓e64_30, ↓e64_32, ↓e64_33, ↓e64_34, ↓e64_37, ↓e64_39, ↓e64_40, ↓e64_41, ↓e64_44, ↓e64_48, ↓e64_50, ↓e64_53, ↓e64_54, ↓e64_57, ↓e64_59, ↓e64_60, ↓e64_62, ↓e64_64, ↓e64_67, ↓e64_69, ↓e64_71, ↓e64_73, ↓e64_76, ↓e64_78, ↓e64_80, ↓e64_81, ↓e64_82, ↓e64_85, ↓e64_86, ↓e64_89, ↓e64_90, ↓e64_91, ↓e64_93, ↓e64_94, ↓e64_97, ↓e64_98, ↓e64_101, ↓e64_103, ↓e64_104, ↓e64_105, ↓e64_106, ↓e64_109, ↓e64_110, ↓e64_112, ↓e64_114, ↓e64_117, ↓e64_118, ↓e64_121, ↓e64_123, ↓e64_124, ↓e64_125, ↓e64_126, ↓e64_129, ↓e64_130, ↓e64_132, ↓e64_134, ↓e64_136, ↓e64_137, ↓e64_139, ↓e64_140, ↓e64_143, ↓e64_145, ↓e64_146, ↓e64_148, ↓e64_150, ↓e64_152, ↓e64_155, ↓e64_156, ↓e64_159, ↓e64_162, ↓e64_165, ↓e64_167, ↓e64_170, ↓e64_171, ↓e64_174, ↓e64_175, ↓e64_178, ↓e64_179, ↓e64_180, ↓e64_183, bc1_a, bd1, bd2, bd3, bd4, bd5, bd6, bd7, bd8, bd9, bd10, bd11, bd12, bd13, bd14, bd15, bd16, bd17, bd18, bd19, bd20, bd21, bd22, bd23, bd24, bd25, bd26, bd27, bd28, bd29, bd30, bd31, bd32, bd33, bd34, bd35, bd36, bd37, bd38, bd39, bc1_i, bc1_r, bc1_n, bc1_U, bisA_r, bisA_n, bisA_a, bct_i, bct_r, bct_n, bct_l, bcs_0, bcs_i, bcs_r, bcs_l, bcs_a, brt_0, brt_1, ↓bz0, ↓bz1, true_and, and_true, false_and, and_false, and_self, Nat.reduceAdd, Nat.reduceLeDiff, Nat.reduceSub, Nat.reduceEqDiff, ite_true, ite_false, if_true, if_false, hlt, i0, i1, i2, m1, m2, m3, m4, m5, m6, m7, m8, m9, hA, c_joins, j2, c1, c2, c3, p0, p1, p2, z02, z00, hw, nI_1]
      exact hnext
    · have j2 : nI (v_jn x) = 1 := by rw [j]; rfl
      rw [j] at hfit h40' hrest
      obtain ⟨b, r, rfl⟩ : ∃ b r, st = b :: r := by
        match st, hfit with
        | b :: r, _ => exact ⟨b, r, rfl⟩
      have hv : v_item (gI M0 3) x (b :: r) = s_wo (gI M0 3) x 0 b :: r := by unfold v_item; rw [if_neg (by omega), if_pos j]
      have hb : gI M 4 r.length = b := hk.1
      have hl : (b :: r).length = r.length + 1 := rfl
      rw [hl] at hfit h40' hrest h40 ⊢
      have c1 : (nI (r.length + 1) < 1) = False := nI_lt0 (a := (r.length + 1)) (b := 1) (by omega) (by omega)
      have c2 : nI (r.length + 1) - 1 = nI r.length := pk_sub (a := (r.length + 1)) (b := 1) (by omega)
      have c3 : (nI r.length < nI 40) = True := nI_lt1 (by omega) (by decide)
      have p0 : 0 ≤ nI r.length := nI_pos' (by omega)
      have p1 : (nI r.length).toNatClampNeg = r.length := nI_clamp (by omega)
      have p2 : r.length < 40 := by omega
      have hsk : SK (pI M 4 r.length (s_wo (gI M0 3) x 0 b)) (s_wo (gI M0 3) x 0 b :: r) := ⟨by rw [gI_p, if_pos ⟨rfl, rfl⟩], SK.put (Nat.le_refl _) hk.2⟩
      have hnext := ih (i + 1) (pI M 4 r.length (s_wo (gI M0 3) x 0 b)) (s_wo (gI M0 3) x 0 b :: r) (.int x) (.int 1) (.int 0) (.int b) (hf.put2 rfl) hsk (by have h5 := hrest; simpa using h5) (by simp only [List.length_cons]; omega) (by omega) hcode2 (by
        intro M' v7 v8 v9 v10 hf' hsk'
        have hh := hq M' v7 v8 v9 v10 hf' (by rw [v_run, hv]; exact hsk')
        rw [v_run, hv] at hh
        exact hh)
      have z12 : ((1 : Int32) = 2) = False := by simp
      have z01 : ((0 : Int32) < 1) = True := by simp
      rw [e64_46]
      simp only [↓e64_0, ↓e64_1, ↓e64_4, ↓e64_5, ↓e64_6, ↓e64_9, ↓e64_12, ↓e64_13, ↓e64_16, ↓e64_17, ↓e64_18, ↓e64_21, ↓e64_22, ↓e64_23, ↓e64_24n, ↓e64_24, ↓e64_27, ↓e64_28, ↓e64_29, ↓e64_30, ↓e64_32, ↓e64_33, ↓e64_34, ↓e64_37, ↓e64_39, ↓e64_40, ↓e64_41, ↓e64_44, ↓e64_48, ↓e64_50, ↓e64_53, ↓e64_54, ↓e64_57, ↓e64_59, ↓e64_60, ↓e64_62, ↓e64_64, ↓e64_67, ↓e64_69, ↓e64_71, ↓e64_73, ↓e64_76, ↓e64_78, ↓e64_80, ↓e64_81, ↓e64_82, ↓e64_85, ↓e64_86, ↓e64_89, ↓e64_90, ↓e64_91, ↓e64_93, ↓e64_94, ↓e64_97, ↓e64_98, ↓e64_101, ↓e64_103, ↓e64_104, ↓e64_105, ↓e64_106, ↓e64_109, ↓e64_110, ↓e64_112, ↓e64_114, ↓e64_117, ↓e64_118, ↓e64_121, ↓e64_123, ↓e64_124, ↓e64_125, ↓e64_126, ↓e64_129, ↓e64_130, ↓e64_132, ↓e64_134, ↓e64_136, ↓e64_137, ↓e64_139, ↓e64_140, ↓e64_143, ↓e64_145, ↓e64_146, ↓e64_148, ↓e64_150, ↓e64_152, ↓e64_155, ↓e64_156, ↓e64_159, ↓e64_162, ↓e64_165, ↓e64_167, ↓e64_170, ↓e64_171, ↓e64_174, ↓e64_175, ↓e64_178, ↓e64_179, ↓e64_180, ↓e64_183, bc1_a, bd1, bd2, bd3, bd4, bd5, bd6, bd7, bd8, bd9, bd10, bd11, bd12, bd13, bd14, bd15, bd16, bd17, bd18, bd19, bd20, bd21, bd22, bd23, bd24, bd25, bd26, bd27, bd28, bd29, bd30, bd31, bd32, bd33, bd34, bd35, bd36, bd37, bd38, bd39, bc1_i, bc1_r, bc1_n, bc1_U, bisA_r, bisA_n, bisA_a, bct_i, bct_r, bct_n, bct_l, bcs_0, bcs_i, bcs_r, bcs_l, bcs_a, brt_0, brt_1, ↓bz0, ↓bz1, true_and, and_true, false_and, and_false, and_self, Nat.reduceAdd, Nat.reduceLeDiff, Nat.reduceSub, Nat.reduceEqDiff, ite_true, ite_false, if_true, if_false, hlt, i0, i1, i2, m1, m2, m3, m4, m5, m6, m7, m8, m9, hA, c_joins, j2, c1, c2, c3, p0, p1, p2, z12, z01, hb, hw, nI_1]
      exact hnext
    · have j2 : nI (v_jn x) = 2 := by rw [j]; rfl
      rw [j] at hfit h40' hrest
      obtain ⟨b, a, r, rfl⟩ : ∃ b a r, st = b :: a :: r := by
        match st, hfit with
        | b :: a :: r, _ => exact ⟨b, a, r, rfl⟩
      have hv : v_item (gI M0 3) x (b :: a :: r) = s_wo (gI M0 3) x a b :: r := by unfold v_item; rw [if_neg (by omega), if_neg (by omega)]
      have hb : gI M 4 (r.length + 1) = b := hk.1
      have ha : gI M 4 r.length = a := hk.2.1
      have hl : (b :: a :: r).length = r.length + 2 := rfl
      rw [hl] at hfit h40' hrest h40 ⊢
      have c1 : (nI (r.length + 2) < 2) = False := nI_lt0 (a := (r.length + 2)) (b := 2) (by omega) (by omega)
      have c2 : nI (r.length + 2) - 2 = nI r.length := pk_sub (a := (r.length + 2)) (b := 2) (by omega)
      have c3 : (nI r.length < nI 40) = True := nI_lt1 (by omega) (by decide)
      have p0 : 0 ≤ nI r.length := nI_pos' (by omega)
      have p1 : (nI r.length).toNatClampNeg = r.length := nI_clamp (by omega)
      have p2 : r.length < 40 := by omega
      have hsk : SK (pI M 4 r.length (s_wo (gI M0 3) x a b)) (s_wo (gI M0 3) x a b :: r) := ⟨by rw [gI_p, if_pos ⟨rfl, rfl⟩], SK.put (Nat.le_refl _) hk.2.2⟩
      have hnext := ih (i + 1) (pI M 4 r.length (s_wo (gI M0 3) x a b)) (s_wo (gI M0 3) x a b :: r) (.int x) (.int 2) (.int a) (.int b) (hf.put2 rfl) hsk (by have h5 := hrest; simpa using h5) (by simp only [List.length_cons]; omega) (by omega) hcode2 (by
        intro M' v7 v8 v9 v10 hf' hsk'
        have hh := hq M' v7 v8 v9 v10 hf' (by rw [v_run, hv]; exact hsk')
        rw [v_run, hv] at hh
        exact hh)
      have z02 : ((0 : Int32) < 2) = True := by simp
      have q1 : nI (r.length + 2) - 1 = nI (r.length + 1) := nI_pred (r.length + 1)
      have q2 : 0 ≤ nI (r.length + 1) := nI_pos' (by omega)
      have q3 : (nI (r.length + 1)).toNatClampNeg = r.length + 1 := nI_clamp (by omega)
      have q4 : r.length + 1 < 40 := by omega
      rw [e64_46]
      simp only [↓e64_0, ↓e64_1, ↓e64_4, ↓e64_5, ↓e64_6, ↓e64_9, ↓e64_12, ↓e64_13, ↓e64_16, ↓e64_17, ↓e64_18, ↓e64_21, ↓e64_22, ↓e64_23, ↓e64_24n, ↓e64_24, ↓e64_27, ↓e64_28, ↓e64_29, ↓e64_30, ↓e64_32, ↓e64_33, ↓e64_34, ↓e64_37, ↓e64_39, ↓e64_40, ↓e64_41, ↓e64_44, ↓e64_48, ↓e64_50, ↓e64_53, ↓e64_54, ↓e64_57, ↓e64_59, ↓e64_60, ↓e64_62, ↓e64_64, ↓e64_67, ↓e64_69, ↓e64_71, ↓e64_73, ↓e64_76, ↓e64_78, ↓e64_80, ↓e64_81, ↓e64_82, ↓e64_85, ↓e64_86, ↓e64_89, ↓e64_90, ↓e64_91, ↓e64_93, ↓e64_94, ↓e64_97, ↓e64_98, ↓e64_101, ↓e64_103, ↓e64_104, ↓e64_105, ↓e64_106, ↓e64_109, ↓e64_110, ↓e64_112, ↓e64_114, ↓e64_117, ↓e64_118, ↓e64_121, ↓e64_123, ↓e64_124, ↓e64_125, ↓e64_126, ↓e64_129, ↓e64_130, ↓e64_132, ↓e64_134, ↓e64_136, ↓e64_137, ↓e64_139, ↓e64_140, ↓e64_143, ↓e64_145, ↓e64_146, ↓e64_148, ↓e64_150, ↓e64_152, ↓e64_155, ↓e64_156, ↓e64_159, ↓e64_162, ↓e64_165, ↓e64_167, ↓e64_170, ↓e64_171, ↓e64_174, ↓e64_175, ↓e64_178, ↓e64_179, ↓e64_180, ↓e64_183, bc1_a, bd1, bd2, bd3, bd4, bd5, bd6, bd7, bd8, bd9, bd10, bd11, bd12, bd13, bd14, bd15, bd16, bd17, bd18, bd19, bd20, bd21, bd22, bd23, bd24, bd25, bd26, bd27, bd28, bd29, bd30, bd31, bd32, bd33, bd34, bd35, bd36, bd37, bd38, bd39, bc1_i, bc1_r, bc1_n, bc1_U, bisA_r, bisA_n, bisA_a, bct_i, bct_r, bct_n, bct_l, bcs_0, bcs_i, bcs_r, bcs_l, bcs_a, brt_0, brt_1, ↓bz0, ↓bz1, true_and, and_true, false_and, and_false, and_self, Nat.reduceAdd, Nat.reduceLeDiff, Nat.reduceSub, Nat.reduceEqDiff, ite_true, ite_false, if_true, if_false, hlt, i0, i1, i2, m1, m2, m3, m4, m5, m6, m7, m8, m9, hA, c_joins, j2, c1, c2, c3, p0, p1, p2, z02, q1, q2, q3, q4, hb, ha, hw, nI_1]
      exact hnext
end
