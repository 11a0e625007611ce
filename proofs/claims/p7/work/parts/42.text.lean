/-! THE READER: read -/
/-- from M on: what stood keeps its shape and references, of its ints those of cells in S alone change; new cells may have come -/
def FN (S : Nat → Prop) (M M' : mm_H) : Prop := gN M ≤ gN M' ∧ (∀ o, o < gN M → gS M' o = gS M o ∧ gL M' o = gL M o) ∧ (∀ o k, o < gN M → ¬ (o = 44 ∧ k = 27) → gR M' o k = gR M o k) ∧ ∀ o, o < gN M → ¬ S o → ∀ k, gI M' o k = gI M o k
/-- a text of the class at cell t -/
def TX (M : mm_H) (t : Nat) (code : List Int32) (s1 s2 : Nat) : Prop := gS M t = 3 ∧ gR M t 0 = .ref (t + 1) ∧ gI M t 1 = nI s1 ∧ gI M t 2 = nI s2 ∧ gS M (t + 1) = 10 ∧ gL M (t + 1) = code.length ∧ ∀ i, i < code.length → gI M (t + 1) i = code.getD i 0
theorem Fr.hNZ {S : Nat → Prop} {M M' : mm_H} (h : Fr S M M') : M'.2.2.2.1 = M.2.2.2.1 ∧ M'.2.2.2.2 = M.2.2.2.2 := by rw [h.1]; exact ⟨rfl, rfl⟩
theorem gS_n {M : mm_H} {s l z a : Nat} : gS (pN M s l z) a = if a = gN M then s else gS M a := by
  unfold gS pN gN
  show (if a = M.2.2.2.1 then (s, l) else M.2.2.1 a).1 = _
  split <;> rfl
theorem gL_n {M : mm_H} {s l z a : Nat} : gL (pN M s l z) a = if a = gN M then l else gL M a := by
  unfold gL pN gN
  show (if a = M.2.2.2.1 then (s, l) else M.2.2.1 a).2 = _
  split <;> rfl
theorem gI_n {M : mm_H} {s l z a k : Nat} : gI (pN M s l z) a k = if a = gN M then 0 else gI M a k := nrfl rfl
theorem gR_n {M : mm_H} {s l z a k : Nat} (h : a ≠ gN M) : gR (pN M s l z) a k = gR M a k := if_neg h
theorem gN_n {M : mm_H} {s l z : Nat} : gN (pN M s l z) = gN M + 1 := nrfl rfl
theorem gZ_n {M : mm_H} {s l z : Nat} : gZ (pN M s l z) = gZ M + z := nrfl rfl
theorem gI_c {M : mm_H} {a s b e m x k : Nat} : gI (pC M a s b e m) x k = if x = b ∧ e ≤ k ∧ k < e + m then gI M a (s + (k - e)) else gI M x k := nrfl rfl
theorem gR_c {M : mm_H} {a s b e m x k : Nat} : gR (pC M a s b e m) x k = gR M x k := nrfl rfl
theorem gS_c {M : mm_H} {a s b e m x : Nat} : gS (pC M a s b e m) x = gS M x := nrfl rfl
theorem gL_c {M : mm_H} {a s b e m x : Nat} : gL (pC M a s b e m) x = gL M x := nrfl rfl
theorem gN_c {M : mm_H} {a s b e m : Nat} : gN (pC M a s b e m) = gN M := nrfl rfl
theorem gZ_c {M : mm_H} {a s b e m : Nat} : gZ (pC M a s b e m) = gZ M := nrfl rfl
theorem gN_p {M : mm_H} {o k : Nat} {x : Int32} : gN (pI M o k x) = gN M := nrfl rfl
theorem gZ_p {M : mm_H} {o k : Nat} {x : Int32} : gZ (pI M o k x) = gZ M := nrfl rfl
theorem gI_r {M : mm_H} {o k a b : Nat} {v : Value} : gI (pR M o k v) a b = gI M a b := nrfl rfl
theorem gS_r {M : mm_H} {o k a : Nat} {v : Value} : gS (pR M o k v) a = gS M a := nrfl rfl
theorem gL_r {M : mm_H} {o k a : Nat} {v : Value} : gL (pR M o k v) a = gL M a := nrfl rfl
theorem gN_r {M : mm_H} {o k : Nat} {v : Value} : gN (pR M o k v) = gN M := nrfl rfl
theorem gZ_r {M : mm_H} {o k : Nat} {v : Value} : gZ (pR M o k v) = gZ M := nrfl rfl
theorem gR_r {M : mm_H} {o k a b : Nat} {v : Value} : gR (pR M o k v) a b = if a = o ∧ b = k then v else gR M a b := nrfl rfl
section
variable {L : Nat} {xs : Nat → Int32} {d : Nat} {M : mm_H} {Q : Option Value → mm_H → Prop} {f : Nat → Int32} {n : Nat}
/-- a copy of the first l of an array of ints, not of them all -/
theorem c_copyOf {a l : Nat} (hs : gS M a = 10) (hl : l < gL M a) (hL : gL M a < 100000) (hn : a < gN M) : Call L xs (d + 1) 222 [.ref a, .int (nI l)] M Q = Q (some (.ref (gN M))) (pC (pN M 10 l l) a 0 (gN M) 0 l) := by
  have h1 : (nI l = nI (gL M a)) = False := eq_false (fun z => by have := (nI_eq (by omega) (by omega)).mp z; omega)
  have h2 : 0 ≤ nI l := nI_pos' (by omega)
  have h3 : (nI l).toNatClampNeg = l := nI_clamp (by omega)
  have h4 : 0 ≤ nI l ∧ (nI l).toNatClampNeg ≤ 100000 := ⟨h2, by omega⟩
  have h5 : (nI l < nI (gL M a)) = True := nI_lt1 hl (by omega)
  have h7 : ∀ v : Nat, Value.ref v = .null ∨ ∃ a, Value.ref v = .ref a := fun v => Or.inr ⟨v, rfl⟩
  have h8 : gS (pN M 10 l l) a = 10 := by rw [gS_n, if_neg (by omega)]; exact hs
  have h9 : gL (pN M 10 l l) a = gL M a := by rw [gL_n, if_neg (by omega)]
  have hA : 10 ≤ gS M a ∧ gS M a ≤ 13 := by omega
  have hB : 10 ≤ gS (pN M 10 l l) a ∧ gS (pN M 10 l l) a ≤ 13 := by omega
  have h10 : gS (pN M 10 l l) (gN M) = 10 := by rw [gS_n, if_pos rfl]
  have h11 : gL (pN M 10 l l) (gN M) = l := by rw [gL_n, if_pos rfl]
  have hc : ∀ (R : Option Value → mm_H → Prop) (ls st : List Value) (hst : mm_cs st ≤ 8), Wp L xs (d + 1) 222 28 ls (.int (nI l) :: .int 0 :: .ref (gN M) :: .int 0 :: .ref a :: st) (pN M 10 l l) R = Wp L xs (d + 1) 222 31 ls st (pC (pN M 10 l l) a 0 (gN M) 0 l) R := by
    intro R ls st hst
    have := e222_28 (L := L) (xs := xs) (d := d) (ls := ls) (st := st) (M := pN M 10 l l) (Q := R) (n := nI l) (p := 0) (o := gN M) (q := 0) (a := a) hst h8 h10 ⟨h2, by decide, by decide⟩ (by rw [h9, h3]; show 0 + l ≤ _; omega) (by rw [h11, h3]; show 0 + l ≤ l; omega)
    rw [h3] at this
    exact this
  rw [en222]
  simp only [↓e222_0, ↓e222_1, ↓e222_3, ↓e222_6, ↓e222_13n, ↓e222_13, ↓e222_14, ↓e222_18, ↓e222_19, ↓e222_20, ↓e222_21, ↓e222_22, ↓e222_24, ↓e222_25, ↓e222_31, ↓e222_32n, ↓e222_32, e222_2 hA, e222_15 h4, e222_17 (h7 _), e222_23 hB, hc, h9, h3, bc1_a, bd1, bd2, bd3, bd4, bd5, bd6, bd7, bd8, bd9, bd10, bd11, bd12, bd13, bd14, bd15, bd16, bd17, bd18, bd19, bd20, bd21, bd22, bd23, bd24, bd25, bd26, bd27, bd28, bd29, bd30, bd31, bd32, bd33, bd34, bd35, bd36, bd37, bd38, bd39, bc1_i, bc1_r, bc1_n, bc1_U, bisA_r, bisA_n, bisA_a, bct_i, bct_r, bct_n, bct_l, bcs_0, bcs_i, bcs_r, bcs_l, bcs_a, brt_0, brt_1, ↓bz0, ↓bz1, true_and, and_true, false_and, and_false, and_self, Nat.reduceAdd, Nat.reduceLeDiff, Nat.reduceSub, Nat.reduceEqDiff, ite_true, ite_false, if_true, if_false, h1, h5]
theorem c_newText {t c : Nat} {x y : Int32} (ht : gS M t = 3) : Call L xs (d + 1) 71 [.ref t, .ref c, .int x, .int y] M Q = Q none (pI (pI (pR M t 0 (.ref c)) t 1 x) t 2 y) := by
  rw [en71]
  simp only [↓e71_0, ↓e71_1, ↓e71_4, ↓e71_5, ↓e71_6, ↓e71_9, ↓e71_10, ↓e71_11, ↓e71_14, ↓e71_15, ↓e71_16, ↓e71_19, bc1_a, bd1, bd2, bd3, bd4, bd5, bd6, bd7, bd8, bd9, bd10, bd11, bd12, bd13, bd14, bd15, bd16, bd17, bd18, bd19, bd20, bd21, bd22, bd23, bd24, bd25, bd26, bd27, bd28, bd29, bd30, bd31, bd32, bd33, bd34, bd35, bd36, bd37, bd38, bd39, bc1_i, bc1_r, bc1_n, bc1_U, bisA_r, bisA_n, bisA_a, bct_i, bct_r, bct_n, bct_l, bcs_0, bcs_i, bcs_r, bcs_l, bcs_a, brt_0, brt_1, ↓bz0, ↓bz1, true_and, and_true, false_and, and_false, and_self, Nat.reduceAdd, Nat.reduceLeDiff, Nat.reduceSub, Nat.reduceEqDiff, ite_true, ite_false, if_true, if_false, ht, gS_p, gS_r]
end
