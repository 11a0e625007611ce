/-! THE READER: write, and the loops -/
def S57 (o : Nat) : Prop := o = 5 ∨ o = 7
/-- the reader behind place q: o opened, the code c so far -/
def RS (f : Nat → Int32) (n q o : Nat) (c : List Int32) (M : mm_H) : Prop :=
  Rd M ∧ gI M 6 = f ∧ gI M 5 1 = nI n ∧ RT f n q M ∧ gI M 5 6 = nI o ∧ (gI M 5 8 = nI c.length ∧ (∀ i, i < c.length → gI M 7 i = c.getD i 0)) ∧ c.length ≤ q ∧ q ≤ n
/-- the reader after a fault at place s -/
def RF (f : Nat → Int32) (n s : Nat) (M : mm_H) : Prop := Rd M ∧ gI M 6 = f ∧ gI M 5 1 = nI n ∧ (∃ l, l ≤ 160 ∧ gI M 5 8 = nI l) ∧ gI M 5 4 = nI s
section
variable {L : Nat} {xs : Nat → Int32} {d : Nat} {M : mm_H} {Q : Option Value → mm_H → Prop} {f : Nat → Int32} {n : Nat}
theorem c_write {l : Nat} {x : Int32} (hr : Rd M) (hl : gI M 5 8 = nI l) (h : l < 160) : Call L xs d 54 [.ref 5, .int x] M Q = Q none (pI (pI M 7 l x) 5 8 (nI (l + 1))) := by
  obtain ⟨r1, r2, r3, r4, r5, r6, r7, r8, r9, r10⟩ := id hr
  have hc := nI_lt1 (a := l) (b := 160) h (by omega)
  have h0 : 0 ≤ nI l := nI_pos' (by omega)
  have h1 : (nI l).toNatClampNeg = l := nI_clamp (by omega)
  have hor : (10 : Nat) ≤ 10 ∧ (10 : Nat) ≤ 13 := ⟨by decide, by decide⟩
  have h57 : ((5 : Nat) = 7) = False := by simp
  rw [en54]
  simp only [↓e54_0, ↓e54_1, ↓e54_4, ↓e54_5, ↓e54_8, ↓e54_9, ↓e54_12, ↓e54_13, ↓e54_16, ↓e54_17, ↓e54_20, ↓e54_21, ↓e54_22, ↓e54_23, ↓e54_24, ↓e54_27, ↓e54_28, ↓e54_29, ↓e54_32, bc1_a, bd1, bd2, bd3, bd4, bd5, bd6, bd7, bd8, bd9, bd10, bd11, bd12, bd13, bd14, bd15, bd16, bd17, bd18, bd19, bd20, bd21, bd22, bd23, bd24, bd25, bd26, bd27, bd28, bd29, bd30, bd31, bd32, bd33, bd34, bd35, bd36, bd37, bd38, bd39, bc1_i, bc1_r, bc1_n, bc1_U, bisA_r, bisA_n, bisA_a, bct_i, bct_r, bct_n, bct_l, bcs_0, bcs_i, bcs_r, bcs_l, bcs_a, brt_0, brt_1, ↓bz0, ↓bz1, true_and, and_true, false_and, and_false, and_self, Nat.reduceAdd, Nat.reduceLeDiff, Nat.reduceSub, Nat.reduceEqDiff, ite_true, ite_false, if_true, if_false, r1, r3, hl, r7, r8, hor, hc, h0, h1, h, gS_p, gR_p, gI_p, gL_p, h57, nI_1]
theorem c_writeF {l : Nat} {x : Int32} (hr : Rd M) (hl : gI M 5 8 = nI l) (h : l ≤ 160) (hq : ∀ M', Fr S57 M M' → gI M' 6 = gI M 6 → (∀ k, k ≠ 8 → gI M' 5 k = gI M 5 k) → (∃ l2, l2 ≤ 160 ∧ gI M' 5 8 = nI l2) → Q none M') : Call L xs d 54 [.ref 5, .int x] M Q := by
  rcases Nat.lt_or_ge l 160 with h2 | h2
  · rw [c_write hr hl h2]
    refine hq _ ((Fr.put (Or.inr rfl)).put2 (Or.inl rfl)) ?_ ?_ ⟨l + 1, by omega, ?_⟩
    · rw [gI_pf (by decide), gI_pf (by decide)]
    · intro k hk
      rw [gI_p, if_neg (fun z => hk z.2), gI_pf (by decide)]
    · rw [gI_p, if_pos ⟨rfl, rfl⟩]
  · obtain ⟨r1, r2, r3, r4, r5, r6, r7, r8, r9, r10⟩ := id hr
    have hc := nI_lt0 (a := l) (b := 160) h2 (by omega)
    have hor : (10 : Nat) ≤ 10 ∧ (10 : Nat) ≤ 13 := ⟨by decide, by decide⟩
    rw [en54]
    simp only [↓e54_0, ↓e54_1, ↓e54_4, ↓e54_5, ↓e54_8, ↓e54_9, ↓e54_12, ↓e54_13, ↓e54_16, ↓e54_17, ↓e54_20, ↓e54_21, ↓e54_22, ↓e54_23, ↓e54_24, ↓e54_27, ↓e54_28, ↓e54_29, ↓e54_32, bc1_a, bd1, bd2, bd3, bd4, bd5, bd6, bd7, bd8, bd9, bd10, bd11, bd12, bd13, bd14, bd15, bd16, bd17, bd18, bd19, bd20, bd21, bd22, bd23, bd24, bd25, bd26, bd27, bd28, bd29, bd30, bd31, bd32, bd33, bd34, bd35, bd36, bd37, bd38, bd39, bc1_i, bc1_r, bc1_n, bc1_U, bisA_r, bisA_n, bisA_a, bct_i, bct_r, bct_n, bct_l, bcs_0, bcs_i, bcs_r, bcs_l, bcs_a, brt_0, brt_1, ↓bz0, ↓bz1, true_and, and_true, false_and, and_false, and_self, Nat.reduceAdd, Nat.reduceLeDiff, Nat.reduceSub, Nat.reduceEqDiff, ite_true, ite_false, if_true, if_false, r1, r3, hl, r7, r8, hor, hc]
    exact hq M Fr.rf rfl (fun _ _ => rfl) ⟨l, h, hl⟩
theorem RF.write {s : Nat} {M M' : mm_H} (h : RF f n s M) (hf : Fr S57 M M') (h6 : gI M' 6 = gI M 6) (h5 : ∀ k, k ≠ 8 → gI M' 5 k = gI M 5 k) (hl : ∃ l2, l2 ≤ 160 ∧ gI M' 5 8 = nI l2) : RF f n s M' :=
  ⟨h.1.fr hf, h6.trans h.2.1, (h5 1 (by decide)).trans h.2.2.1, hl, (h5 4 (by decide)).trans h.2.2.2.2⟩
/-- a write behind a good part -/
theorem RS.write {q o : Nat} {c : List Int32} {x : Int32} {M : mm_H} (h : RS f n q o c M) (hc : c.length + 1 ≤ q) : RS f n q o (c ++ [x]) (pI (pI M 7 c.length x) 5 8 (nI (c.length + 1))) := by
  obtain ⟨a1, a2, a3, a4, a5, a6, a7, a8⟩ := h
  have g : ∀ k, k ≠ 8 → gI (pI (pI M 7 c.length x) 5 8 (nI (c.length + 1))) 5 k = gI M 5 k := fun k hk => by
    rw [gI_p, if_neg (fun z => hk z.2), gI_pf (by decide)]
  refine ⟨a1, ?_, ?_, ⟨?_, ?_, ?_, ?_⟩, ?_, ⟨?_, ?_⟩, ?_, a8⟩
  · rw [gI_pf (by decide), gI_pf (by decide)]; exact a2
  · rw [g 1 (by decide)]; exact a3
  · rw [g 2 (by decide)]; exact a4.1
  · rw [g 4 (by decide)]; exact a4.2.1
  · rw [g 3 (by decide)]; exact a4.2.2.1
  · rw [g 5 (by decide)]; exact a4.2.2.2
  · rw [g 6 (by decide)]; exact a5
  · rw [gI_p, if_pos ⟨rfl, rfl⟩, List.length_append]; rfl
  · intro i hi
    rw [List.length_append] at hi
    have hi2 : i < c.length + 1 := hi
    rw [gI_pf (by decide), gI_p]
    by_cases e : i = c.length
    · rw [if_pos ⟨rfl, e⟩, e]; simp
    · rw [if_neg (fun z => e z.2), a6.2 i (by omega)]
      simp [List.getD_eq_getElem?_getD, List.getElem?_append_left (show i < c.length by omega)]
  · rw [List.length_append]; exact hc
/-- looking from a known place -/
theorem RS.look {q o p : Nat} {c : List Int32} {M : mm_H} (h160 : n ≤ 160) (h : RS f n q o c M) (hp : p = t_e f n q) {Q : Option Value → mm_H → Prop} (hq : ∀ M', Fr S57 M M' → RS f n p o c M' → Q none M') : Call L xs (d + 6) 55 [.ref 5] M Q := by
  obtain ⟨a1, a2, a3, a4, a5, a6, a7, a8⟩ := h
  subst hp
  have hle := t_e_le (f := f) a8
  have hge := Nat.le_trans (t_s_ge (f := f) (n := n) q) (t_e_ge (f := f) (n := n) q)
  refine c_look a1 a3 h160 hle a4.1 (fun M' g1 g2 => ?_)
  rw [a2] at g2
  have hf : Fr S57 M M' := g1.fr (Or.inl rfl)
  refine hq M' hf ⟨a1.fr hf, ?_, ?_, g2, ?_, ⟨?_, ?_⟩, Nat.le_trans a7 hge, hle⟩
  · rw [← a2]; funext k; exact g1.2.2 6 k (by omega)
  · rw [g1.2.2 5 1 (by omega)]; exact a3
  · rw [g1.2.2 5 6 (by omega)]; exact a5
  · rw [g1.2.2 5 8 (by omega)]; exact a6.1
  · intro i hi; rw [g1.2.2 7 i (by omega)]; exact a6.2 i hi
theorem RS.nf {q o : Nat} {c : List Int32} {M : mm_H} (h160 : n ≤ 160) (h : RS f n q o c M) : RF f n (t_s f n q) M := ⟨h.1, h.2.1, h.2.2.1, ⟨c.length, by have := h.2.2.2.2.2.2; omega, h.2.2.2.2.2.1.1⟩, h.2.2.2.1.2.1⟩
end
/-- method m reads what item says -/
def RC (L : Nat) (xs : Nat → Int32) (f : Nat → Int32) (n o D m : Nat) (item : Nat → PR) : Prop :=
  ∀ (M : mm_H) (Q : Option Value → mm_H → Prop) (q : Nat) (c : List Int32), RS f n q o c M →
    (∀ M' b q', item q = .inl (b, q') → Fr S57 M M' → RS f n q' o (c ++ b) M' → Q (some (.int 1)) M') →
    (∀ M' s, item q = .inr s → Fr S57 M M' → RF f n s M' → Q (some (.int 0)) M') → Call L xs D m [.ref 5] M Q
