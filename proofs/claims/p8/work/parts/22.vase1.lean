/-! THE VASE: what a seam's rule says -/
/-- from M to M' no shape and no reference changes (but the model's token's worth), and of the ints those of cells in S alone -/
def Fr (S : Nat → Prop) (M M' : mm_H) : Prop := M'.2.2 = M.2.2 ∧ (∀ o k, ¬ (o = 44 ∧ k = 27) → gR M' o k = gR M o k) ∧ ∀ o, ¬ S o → ∀ k, gI M' o k = gI M o k
theorem Fr.rf {S : Nat → Prop} {M : mm_H} : Fr S M M := ⟨rfl, fun _ _ _ => rfl, fun _ _ _ => rfl⟩
theorem Fr.trans {S : Nat → Prop} {M M1 M2 : mm_H} (h : Fr S M M1) (h2 : Fr S M1 M2) : Fr S M M2 := ⟨h2.1.trans h.1, fun o k q => (h2.2.1 o k q).trans (h.2.1 o k q), fun o q k => (h2.2.2 o q k).trans (h.2.2 o q k)⟩
theorem Fr.weak {S T : Nat → Prop} {M M1 : mm_H} (h : Fr S M M1) (hs : ∀ o, S o → T o) : Fr T M M1 := ⟨h.1, h.2.1, fun o q => h.2.2 o (fun z => q (hs o z))⟩
theorem Fr.hS {S : Nat → Prop} {M M1 : mm_H} (h : Fr S M M1) (o : Nat) : gS M1 o = gS M o := by unfold gS; rw [h.1]
theorem Fr.hL {S : Nat → Prop} {M M1 : mm_H} (h : Fr S M M1) (o : Nat) : gL M1 o = gL M o := by unfold gL; rw [h.1]
theorem Fr.put {S : Nat → Prop} {M : mm_H} {o k : Nat} {x : Int32} (h : S o) : Fr S M (pI M o k x) := by
  refine ⟨rfl, fun _ _ _ => rfl, fun a q j => ?_⟩
  show (if a = o ∧ j = k then _ else _) = _
  rw [if_neg (fun z => q (by rw [z.1]; exact h))]; rfl
theorem Fr.put2 {S : Nat → Prop} {M M1 : mm_H} {o k : Nat} {x : Int32} (h1 : Fr S M M1) (h : S o) : Fr S M (pI M1 o k x) := h1.trans (Fr.put h)
theorem gI_p {M : mm_H} {o k a b : Nat} {x : Int32} : gI (pI M o k x) a b = if a = o ∧ b = k then x else gI M a b := nrfl rfl
theorem gR_p {M : mm_H} {o k a b : Nat} {x : Int32} : gR (pI M o k x) a b = gR M a b := nrfl rfl
theorem gS_p {M : mm_H} {o k a : Nat} {x : Int32} : gS (pI M o k x) a = gS M a := nrfl rfl
theorem gL_p {M : mm_H} {o k a : Nat} {x : Int32} : gL (pI M o k x) a = gL M a := nrfl rfl
theorem SV.fr {S : Nat → Prop} {M M1 : mm_H} {v : Nat} (h : SV M v) (hf : Fr S M M1) (h44 : v ≠ 44) : SV M1 v := by
  unfold SV
  simp only [hf.hS, hf.hL]
  have e : ∀ k, gR M1 v k = gR M v k := fun k => hf.2.1 v k (fun z => h44 z.1)
  simp only [e]
  exact h
/-- the rules' cells -/
def SU (M : mm_H) : Prop := gS M 1 = 1 ∧ gR M 1 0 = .ref 2 ∧ gR M 1 2 = .ref 3 ∧ gR M 1 3 = .ref 4 ∧ gS M 2 = 12 ∧ gL M 2 = 6 ∧ gS M 3 = 10 ∧ gL M 3 = 6 ∧ gS M 4 = 10 ∧ gL M 4 = 40
theorem SU.fr {S : Nat → Prop} {M M1 : mm_H} (h : SU M) (hf : Fr S M M1) : SU M1 := by
  unfold SU
  simp only [hf.hS, hf.hL]
  have e : ∀ k, gR M1 1 k = gR M 1 k := fun k => hf.2.1 1 k (fun z => by omega)
  simp only [e]
  exact h
def S34 (o : Nat) : Prop := o = 3 ∨ o = 4
/-- cells that hold no text of the class -/
def Sno (o : Nat) : Prop := o ≠ 1 ∧ o ≠ 2 ∧ o ≠ 42 ∧ o ≠ 43 ∧ o < 63
/-- what the class's texts say: E rule sentence names -/
def TOK (L : Nat) (xs : Nat → Int32) (E : Int32 → Nat → (Nat → Int32) → Int32) (d : Nat) (M : mm_H) : Prop :=
  ∀ (M1 : mm_H) (rule : Int32) (w : Nat) (Q : Option Value → mm_H → Prop), Fr Sno M M1 → w < 3 → (∀ M2, Fr S34 M1 M2 → Q (some (.int (E rule w (fun k => gI M1 3 k)))) M2) → Call L xs d 64 [.ref 1, .int rule, .int (nI w)] M1 Q
theorem TOK.fr {L : Nat} {xs : Nat → Int32} {E : Int32 → Nat → (Nat → Int32) → Int32} {d : Nat} {M M1 : mm_H} (h : TOK L xs E d M) (hf : Fr Sno M M1) : TOK L xs E d M1 := fun M2 rule w Q h2 hw hq => h M2 rule w Q (hf.trans h2) hw hq
/-- a vase as numbers: 0 its fields, 1 .. 7 its rows -/
def Vw (M : mm_H) (v : Nat) : Nat → Nat → Int32 := fun j k => if j < 8 then gI M (v + j) k else 0
theorem Vw_at {M : mm_H} {v j k : Nat} (h : j < 8) : Vw M v j k = gI M (v + j) k := if_pos h
theorem Vw_fr {S : Nat → Prop} {M M1 : mm_H} {v : Nat} (h : Fr S M M1) (hs : ∀ j, j < 8 → ¬ S (v + j)) : Vw M1 v = Vw M v := by
  funext j k
  unfold Vw
  split
  · next hj => exact h.2.2 _ (hs j hj) k
  · rfl
def s_br (V : Nat → Nat → Int32) (s : Nat) : Nat := (V 4 s).toNatClampNeg
def s_sm (V : Nat → Nat → Int32) : Nat := (V 0 6).toNatClampNeg
def s_pp (V : Nat → Nat → Int32) : Nat := (V 0 3).toNatClampNeg
def s_env (V : Nat → Nat → Int32) (s k : Nat) : Int32 := match k with
  | 0 => V 5 s
  | 1 => V 0 1
  | 2 => V 2 (s_br V s)
  | 3 => V 6 s
  | 4 => s_mend (V 7) (s_sm V)
  | _ => nI s
/-- E looks at six names alone -/
def E6 (E : Int32 → Nat → (Nat → Int32) → Int32) : Prop := ∀ r w f g, (∀ k, k < 6 → f k = g k) → E r w f = E r w g
def s_tl (E : Int32 → Nat → (Nat → Int32) → Int32) (V : Nat → Nat → Int32) (s w : Nat) : Int32 := E (V 0 12) w (s_env V s)
/-- a vase whose numbers are in their bounds as far as places go -/
def Wv (V : Nat → Nat → Int32) : Prop := (∃ n, n ≤ 10 ∧ V 0 6 = nI n) ∧ (∃ n, n ≤ 6 ∧ V 0 3 = nI n ∧ ∀ s, s < s_sm V → ∃ p, p < n ∧ V 4 s = nI p)
section
variable {L : Nat} {xs : Nat → Int32} {d : Nat} {M : mm_H} {Q : Option Value → mm_H → Prop} {E : Int32 → Nat → (Nat → Int32) → Int32}
theorem c_name {x1 x2 x3 x4 x5 x6 : Int32} (h : SU M) (hq : ∀ M', Fr S34 M M' → gI M' 3 0 = x1 → gI M' 3 1 = x2 → gI M' 3 2 = x3 → gI M' 3 3 = x4 → gI M' 3 4 = x5 → gI M' 3 5 = x6 → Q none M') : Call L xs d 63 [.ref 1, .int x1, .int x2, .int x3, .int x4, .int x5, .int x6] M Q := by
  obtain ⟨u1, u2, u3, u4, u5, u6, u7, u8, u9, u10⟩ := h
  rw [en63]
  have g0 : ∀ k : Nat, k < 6 → (0 ≤ nI k ∧ (nI k).toNatClampNeg = k) := fun k hk => ⟨nI_pos' (by omega), nI_clamp (by omega)⟩
  have e0 : (0 : Int32) ≤ 0 ∧ (0 : Int32).toNatClampNeg = 0 := g0 0 (by decide)
  have e1 : (0 : Int32) ≤ 1 ∧ (1 : Int32).toNatClampNeg = 1 := g0 1 (by decide)
  have e2 : (0 : Int32) ≤ 2 ∧ (2 : Int32).toNatClampNeg = 2 := g0 2 (by decide)
  have e3 : (0 : Int32) ≤ 3 ∧ (3 : Int32).toNatClampNeg = 3 := g0 3 (by decide)
  have e4 : (0 : Int32) ≤ 4 ∧ (4 : Int32).toNatClampNeg = 4 := g0 4 (by decide)
  have e5 : (0 : Int32) ≤ 5 ∧ (5 : Int32).toNatClampNeg = 5 := g0 5 (by decide)
  simp only [↓e63_0, ↓e63_1, ↓e63_4, ↓e63_5, ↓e63_6, ↓e63_7, ↓e63_8, ↓e63_11, ↓e63_12, ↓e63_13, ↓e63_14, ↓e63_15, ↓e63_18, ↓e63_19, ↓e63_20, ↓e63_21, ↓e63_22, ↓e63_25, ↓e63_26, ↓e63_28, ↓e63_29, ↓e63_30, ↓e63_33, ↓e63_34, ↓e63_36, ↓e63_37, ↓e63_38, ↓e63_41, ↓e63_42, ↓e63_44, ↓e63_45, bc1_a, bd1, bd2, bd3, bd4, bd5, bd6, bd7, bd8, bd9, bd10, bd11, bd12, bd13, bd14, bd15, bd16, bd17, bd18, bd19, bd20, bd21, bd22, bd23, bd24, bd25, bd26, bd27, bd28, bd29, bd30, bd31, bd32, bd33, bd34, bd35, bd36, bd37, bd38, bd39, bc1_i, bc1_r, bc1_n, bc1_U, bisA_r, bisA_n, bisA_a, bct_i, bct_r, bct_n, bct_l, bcs_0, bcs_i, bcs_r, bcs_l, bcs_a, brt_0, brt_1, ↓bz0, ↓bz1, true_and, and_true, false_and, and_false, and_self, Nat.reduceAdd, Nat.reduceLeDiff, Nat.reduceSub, Nat.reduceEqDiff, ite_true, ite_false, if_true, if_false, gS_p, gR_p, gL_p, u1, u3, u7, u8, e0.1, e0.2, e1.1, e1.2, e2.1, e2.2, e3.1, e3.2, e4.1, e4.2, e5.1, e5.2, Nat.reduceLT]
  refine hq _ ?_ ?_ ?_ ?_ ?_ ?_ ?_
  · exact ((((((Fr.put (Or.inl rfl)).put2 (Or.inl rfl)).put2 (Or.inl rfl)).put2 (Or.inl rfl)).put2 (Or.inl rfl)).put2 (Or.inl rfl))
  all_goals simp only [gI_p]; simp
theorem c_telling {v n p s w : Nat} (hv : SV M v) (hu : SU M) (h9 : 9 ≤ v ∧ v ≤ 25) (hn : gI M v 6 = nI n) (h10 : n ≤ 10) (hs : s < 10) (hp : gI M (v + 4) s = nI p) (hp6 : p < 6) (hw : w < 3) (hE : E6 E) (hT : TOK L xs E d M)
    (hq : ∀ M', Fr S34 M M' → Q (some (.int (s_tl E (Vw M v) s w))) M') : Call L xs (d + 1) 93 [.ref v, .int (nI s), .int (nI w)] M Q := by
  obtain ⟨⟨v0, v1, v2, v3, v4, v5, v6, v7, v8⟩, ⟨w1, w2, w3, w4, w5, w6, w7⟩, x1, x2, x3, x4, x5, x6, x7⟩ := id hv
  rw [en93]
  have h0 : 0 ≤ nI s := nI_pos' (by omega)
  have h1 : (nI s).toNatClampNeg = s := nI_clamp (by omega)
  have h2 : 0 ≤ nI p := nI_pos' (by omega)
  have h3 : (nI p).toNatClampNeg = p := nI_clamp (by omega)
  simp only [↓e93_0, ↓e93_1, ↓e93_4, ↓e93_5, ↓e93_8, ↓e93_9, ↓e93_10, ↓e93_11, ↓e93_14, ↓e93_15, ↓e93_18, ↓e93_19, ↓e93_22, ↓e93_23, ↓e93_24, ↓e93_25, ↓e93_26, ↓e93_29, ↓e93_30, ↓e93_31, ↓e93_32, ↓e93_35, ↓e93_36, ↓e93_39, ↓e93_40, ↓e93_43, ↓e93_44, ↓e93_47, ↓e93_48, ↓e93_51, bc1_a, bd1, bd2, bd3, bd4, bd5, bd6, bd7, bd8, bd9, bd10, bd11, bd12, bd13, bd14, bd15, bd16, bd17, bd18, bd19, bd20, bd21, bd22, bd23, bd24, bd25, bd26, bd27, bd28, bd29, bd30, bd31, bd32, bd33, bd34, bd35, bd36, bd37, bd38, bd39, bc1_i, bc1_r, bc1_n, bc1_U, bisA_r, bisA_n, bisA_a, bct_i, bct_r, bct_n, bct_l, bcs_0, bcs_i, bcs_r, bcs_l, bcs_a, brt_0, brt_1, ↓bz0, ↓bz1, true_and, and_true, false_and, and_false, and_self, Nat.reduceAdd, Nat.reduceLeDiff, Nat.reduceSub, Nat.reduceEqDiff, ite_true, ite_false, if_true, if_false, v0, v1, v3, v5, v6, v7, w2, w4, w5, w6, x2, x4, x5, x6, h0, h1, h2, h3, hs, hp, hp6, c_mended hv hn h10, hu.1]
  refine c_name hu (fun M1 f1 n1 n2 n3 n4 n5 n6 => ?_)
  have hv1 := hv.fr f1 (by omega)
  have hu1 := hu.fr f1
  obtain ⟨⟨v0', v1', v2', v3', v4', v5', v6', v7', v8'⟩, -, -⟩ := id hv1
  simp only [↓e93_0, ↓e93_1, ↓e93_4, ↓e93_5, ↓e93_8, ↓e93_9, ↓e93_10, ↓e93_11, ↓e93_14, ↓e93_15, ↓e93_18, ↓e93_19, ↓e93_22, ↓e93_23, ↓e93_24, ↓e93_25, ↓e93_26, ↓e93_29, ↓e93_30, ↓e93_31, ↓e93_32, ↓e93_35, ↓e93_36, ↓e93_39, ↓e93_40, ↓e93_43, ↓e93_44, ↓e93_47, ↓e93_48, ↓e93_51, bc1_a, bd1, bd2, bd3, bd4, bd5, bd6, bd7, bd8, bd9, bd10, bd11, bd12, bd13, bd14, bd15, bd16, bd17, bd18, bd19, bd20, bd21, bd22, bd23, bd24, bd25, bd26, bd27, bd28, bd29, bd30, bd31, bd32, bd33, bd34, bd35, bd36, bd37, bd38, bd39, bc1_i, bc1_r, bc1_n, bc1_U, bisA_r, bisA_n, bisA_a, bct_i, bct_r, bct_n, bct_l, bcs_0, bcs_i, bcs_r, bcs_l, bcs_a, brt_0, brt_1, ↓bz0, ↓bz1, true_and, and_true, false_and, and_false, and_self, Nat.reduceAdd, Nat.reduceLeDiff, Nat.reduceSub, Nat.reduceEqDiff, ite_true, ite_false, if_true, if_false, v0', v1', hu1.1]
  refine hT M1 _ w _ (f1.weak (fun o h => by rcases h with rfl | rfl <;> exact ⟨by decide, by decide, by decide, by decide, by decide⟩)) hw (fun M2 f2 => ?_)
  simp only [↓e93_0, ↓e93_1, ↓e93_4, ↓e93_5, ↓e93_8, ↓e93_9, ↓e93_10, ↓e93_11, ↓e93_14, ↓e93_15, ↓e93_18, ↓e93_19, ↓e93_22, ↓e93_23, ↓e93_24, ↓e93_25, ↓e93_26, ↓e93_29, ↓e93_30, ↓e93_31, ↓e93_32, ↓e93_35, ↓e93_36, ↓e93_39, ↓e93_40, ↓e93_43, ↓e93_44, ↓e93_47, ↓e93_48, ↓e93_51, bc1_a, bd1, bd2, bd3, bd4, bd5, bd6, bd7, bd8, bd9, bd10, bd11, bd12, bd13, bd14, bd15, bd16, bd17, bd18, bd19, bd20, bd21, bd22, bd23, bd24, bd25, bd26, bd27, bd28, bd29, bd30, bd31, bd32, bd33, bd34, bd35, bd36, bd37, bd38, bd39, bc1_i, bc1_r, bc1_n, bc1_U, bisA_r, bisA_n, bisA_a, bct_i, bct_r, bct_n, bct_l, bcs_0, bcs_i, bcs_r, bcs_l, bcs_a, brt_0, brt_1, ↓bz0, ↓bz1, true_and, and_true, false_and, and_false, and_self, Nat.reduceAdd, Nat.reduceLeDiff, Nat.reduceSub, Nat.reduceEqDiff, ite_true, ite_false, if_true, if_false]
  have e12 : gI M1 v 12 = Vw M v 0 12 := f1.2.2 v (fun h => by rcases h with h | h <;> omega) 12
  have e : E (gI M1 v 12) w (fun k => gI M1 3 k) = s_tl E (Vw M v) s w := by
    unfold s_tl
    rw [e12]
    refine hE _ _ _ _ (fun k hk => ?_)
    have hbr : s_br (Vw M v) s = p := by unfold s_br; rw [Vw_at (by decide), hp, h3]
    have hsm : s_sm (Vw M v) = n := by unfold s_sm; rw [Vw_at (by decide), Nat.add_zero, hn, nI_clamp (by omega)]
    match k, hk with
    | 0, _ => exact n1
    | 1, _ => exact n2
    | 2, _ => rw [n3]; unfold s_env; rw [hbr]; rfl
    | 3, _ => exact n4
    | 4, _ => rw [n5]; unfold s_env; rw [hsm]; rfl
    | 5, _ => exact n6
  rw [e]
  exact hq M2 (f1.trans f2)
end
