/-! STEPS THAT READ AND WRITE CELLS -/
section SNH
variable {base : Nat} {adK adV : Nat → Nat} {vf : Value} {b L : Nat} {xs : Nat → Int32} {D : va_G}
variable {p : Program} {l : Launch} {e : Env} {R : Room} {s : State} {m : MethodId} {args : Array Value} {below : List Frame} {meth : Method} {c : Code} {Q : State → Prop}
theorem mm_uw {ci : Nat} (h : ci < 7) : ∀ w ∈ u_ws (mm_C ci) (mm_T ci) (mm_nf ci), w ∈ mm_ws := by
  intro w hw
  have h1 := List.all_eq_true.mp mm_uw0 w (List.mem_append_left _ (List.mem_flatMap.mpr ⟨ci, List.mem_range.mpr h, hw⟩))
  simp only [Bool.and_eq_true, decide_eq_true_eq] at h1
  exact List.mem_filter.mpr ⟨(List.mem_filter.mp h1.1).1, h1.2⟩
theorem mm_aw {ty : FieldType} (h : ty = .int ∨ ty = .boolean) : Cond.arrayClass ty ∈ mm_ws := by
  have h1 := List.all_eq_true.mp mm_uw0 (Cond.arrayClass ty) (List.mem_append_right _ (by rcases h with rfl | rfl <;> simp))
  simp only [Bool.and_eq_true, decide_eq_true_eq] at h1
  exact List.mem_filter.mpr ⟨(List.mem_filter.mp h1.1).1, h1.2⟩
theorem mm_vc {ci : Nat} (h : ci < 7) : vwCl[ci]? = some (mm_C ci, mm_T ci, mm_nf ci) := by
  match ci, h with
  | 0, _ => rfl
  | 1, _ => rfl
  | 2, _ => rfl
  | 3, _ => rfl
  | 4, _ => rfl
  | 5, _ => rfl
  | 6, _ => rfl
theorem mm_tyok {ci : Nat} (h : ci < 7) : ∀ k, k < mm_nf ci → parseFieldDescriptor (mm_T ci k).2.2.1 = some (mm_ty ci k) := by
  match ci, h with
  | 0, _ => exact tyX1_ok
  | 1, _ => exact tyX2_ok
  | 2, _ => exact tyX3_ok
  | 3, _ => exact tyX4_ok
  | 4, _ => exact tyX6_ok
  | 5, _ => exact tyX7_ok
  | 6, _ => exact tyX8_ok
theorem mm_nmok {ci : Nat} (h : ci < 7) : ∀ a, a < mm_nf ci → ∀ b, b < mm_nf ci → a ≠ b → (mm_T ci a).2.1 ≠ (mm_T ci b).2.1 := by
  match ci, h with
  | 0, _ => exact nmX1
  | 1, _ => exact nmX2
  | 2, _ => exact nmX3
  | 3, _ => exact nmX4
  | 4, _ => exact nmX6
  | 5, _ => exact nmX7
  | 6, _ => exact nmX8
theorem mm_find_in {α : Type} {p : α → Bool} {l : List α} {a : α} (h : l.find? p = some a) : a ∈ l ∧ p a = true := ⟨List.mem_of_find?_eq_some h, List.find?_some h⟩
/-- what a field's row in the tables says -/
theorem mm_fld_of {mm idx : Nat} {q : Nat × Nat × Nat × Nat × Bool × Nat} (h : mm_fld mm idx = some q) : q.1 = mm_cl mm ∧ q.2.1 = idx ∧ q.2.2.1 < 7 ∧ q.2.2.2.1 < mm_nf q.2.2.1 ∧ (mm_T q.2.2.1 q.2.2.2.1).1 = mm_C q.2.2.1 ∧
    (if q.2.2.2.2.1 = true then (lw_tbl[q.2.2.2.2.2]? = some (.fieldLinkNest (mm_c (mm_cl mm)) idx (mm_C q.2.2.1) (mm_T q.2.2.1 q.2.2.2.1).2.1 (mm_T q.2.2.1 q.2.2.2.1).2.2.1 "MendedWithTheWord")) else Cond.fieldLink (mm_c (mm_cl mm)) idx (mm_C q.2.2.1) (mm_T q.2.2.1 q.2.2.2.1).2.1 (mm_T q.2.2.1 q.2.2.2.1).2.2.1 ∈ mm_ws) := by
  obtain ⟨h1, h2⟩ := mm_find_in h
  simp only [Bool.and_eq_true, beq_iff_eq] at h2
  have h3 := List.all_eq_true.mp mm_okf_all q h1
  unfold mm_okf at h3
  simp only [Bool.and_eq_true, decide_eq_true_eq] at h3
  obtain ⟨a1, a2, a3, a4⟩ := h3
  refine ⟨h2.1, h2.2, a1, a2, a3, ?_⟩
  rw [h2.1, h2.2] at a4
  split
  · next hn => rw [if_pos hn] at a4; exact of_decide_eq_true a4
  · next hn => rw [if_neg hn] at a4; exact mm_wa_in a4
/-- reading a field, of a nest mate or not -/
theorem get_row {mm idx pc : Nat} {cc : ByteArray} {q : Nat × Nat × Nat × Nat × Bool × Nat} (hq : mm_fld mm idx = some q) (hx : p.tables.exec = Jvm.exec) (hb : c.code = cc) (hts : ∀ w ∈ mm_ws, w.before args s = true) (hown : s.vm.findClass (mm_c (mm_cl mm)) = some m.cls) (hW : sw_W base adK adV vf b L xs s s.heap)
    {ws : va_W} {tys : List (ClassId × FieldType)} {H : Heap} {locs : List Loc} {cells slots a q0 : Nat} {fs : List Value} {v : Value} {lsr : Array Slot} {rest : List Value} (hK : va_K D vwCl tys s) (hP : va_P D vwCl ws H) (he : ws[q0]? = some (a, .inr (q.2.2.1, fs))) (hv : fs[q.2.2.2.1]? = some v) (hdg : decode cc pc = .ok (.getfield idx, 3))
    (kk : W p l e R s m args below meth c H locs cells slots Q (F0 m (pc + 3) lsr (v :: rest))) : W p l e R s m args below meth c H locs cells slots Q (F0 m pc lsr (.ref a :: rest)) := by
  obtain ⟨h1, h2, h3, h4, h5, h6⟩ := mm_fld_of hq
  split at h6
  · have hn := hW.2.2.2.1 _ (List.mem_of_getElem? h6) rfl
    exact va_getN hx hb hts (mm_uw h3) hown hK hP q0 he (mm_vc h3) q.2.2.2.1 h4 (ref := mm_C q.2.2.1) (host := "MendedWithTheWord") (va_Nw.use rfl hn) (fun x hx => by rw [h5] at hx; exact hx) hv hdg kk
  · exact va_get hx hb hts (mm_uw h3) hown hK hP q0 he (mm_vc h3) q.2.2.2.1 h4 (ref := mm_C q.2.2.1) (hts _ h6) (fun x hx => by rw [h5] at hx; exact hx) hv hdg kk
theorem put_row {mm idx pc : Nat} {cc : ByteArray} {q : Nat × Nat × Nat × Nat × Bool × Nat} (hq : mm_fld mm idx = some q) (hx : p.tables.exec = Jvm.exec) (hb : c.code = cc) (hts : ∀ w ∈ mm_ws, w.before args s = true) (hown : s.vm.findClass (mm_c (mm_cl mm)) = some m.cls) (hW : sw_W base adK adV vf b L xs s s.heap)
    {ws : va_W} {tys : List (ClassId × FieldType)} {H : Heap} {locs : List Loc} {cells slots a q0 : Nat} {fs : List Value} {v : Value} {lsr : Array Slot} {rest : List Value} (hK : va_K D vwCl tys s) (hP : va_P D vwCl ws H) (hD : va_D (fun q => base ≤ q) ws) (hS : va_S (fun q => base ≤ q) s.heap H locs) (he : ws[q0]? = some (a, .inr (q.2.2.1, fs))) (hdg : decode cc pc = .ok (.putfield idx, 3))
    (hfin : (mm_T q.2.2.1 q.2.2.2.1).2.2.2 = false) (hn : narrow (mm_ty q.2.2.1 q.2.2.2.1) v = v) (hfit : fits (mm_ty q.2.2.1 q.2.2.2.1) v = true) (hl : q.2.2.2.1 < fs.length)
    (kk : ∀ (H1 : Heap) (locs1 : List Loc), va_P D vwCl (ws.set q0 (a, .inr (q.2.2.1, fs.set q.2.2.2.1 v))) H1 → va_D (fun q => base ≤ q) (ws.set q0 (a, .inr (q.2.2.1, fs.set q.2.2.2.1 v))) → va_S (fun q => base ≤ q) s.heap H1 locs1 → W p l e R s m args below meth c H1 locs1 cells slots Q (F0 m (pc + 3) lsr rest)) : W p l e R s m args below meth c H locs cells slots Q (F0 m pc lsr (v :: .ref a :: rest)) := by
  obtain ⟨h1, h2, h3, h4, h5, h6⟩ := mm_fld_of hq
  split at h6
  · have hnn := hW.2.2.2.1 _ (List.mem_of_getElem? h6) rfl
    exact va_putN hx hb hts (mm_uw h3) (mm_ty q.2.2.1) (mm_tyok h3) (mm_nmok h3) hown hK hP hD hS q0 he (mm_vc h3) q.2.2.2.1 h4 (ref := mm_C q.2.2.1) (host := "MendedWithTheWord") (va_Nw.use rfl hnn) (fun x hx => by rw [h5] at hx; exact hx) hfin (mm_tyok h3 _ h4) hn hfit hl hdg kk
  · exact va_put hx hb hts (mm_uw h3) (mm_ty q.2.2.1) (mm_tyok h3) (mm_nmok h3) hown hK hP hD hS q0 he (mm_vc h3) q.2.2.2.1 h4 (ref := mm_C q.2.2.1) (hts _ h6) (fun x hx => by rw [h5] at hx; exact hx) hfin (mm_tyok h3 _ h4) hn hfit hl hdg kk
/-- a cell of the small machine, by its number -/
theorem pw_at {V : Value → Value → Prop} {ads : List Nat} {ws : va_W} {tys : List (ClassId × FieldType)} {M : mm_H} (h : pw V ads ws tys M) {o a : Nat} (ha : ads[o]? = some a) : o < gN M ∧ ∃ e, ws[o]? = some (a, e) ∧ cr V tys M o e := by
  have hlt : o < gN M := by rw [← h.1]; exact (List.getElem?_eq_some_iff.mp ha).1
  obtain ⟨a2, e, h1, h2, h3⟩ := h.2.2 o hlt
  rw [ha] at h1
  cases h1
  exact ⟨hlt, e, h2, h3⟩
theorem cr_obj {V : Value → Value → Prop} {tys : List (ClassId × FieldType)} {M : mm_H} {k ci : Nat} {e : va_E} (h : cr V tys M k e) (hs : gS M k = ci) (hc : ci < 7) : ∃ fs, e = .inr (ci, fs) ∧ fs.length = mm_nf ci ∧ ∀ j, j < mm_nf ci → ∃ r, fs[j]? = some r ∧ (if mm_rf (mm_ty ci j) = true then V (gR M k j) r else r = .int (gI M k j)) := by
  subst hs
  rcases h with ⟨_, h⟩ | ⟨h, _⟩ | ⟨h, _⟩ | ⟨h | h, _⟩
  · exact h
  all_goals omega
theorem cr_ia {V : Value → Value → Prop} {tys : List (ClassId × FieldType)} {M : mm_H} {k : Nat} {e : va_E} (h : cr V tys M k e) (hs : gS M k = 10) : ∃ (cA : ClassId) (t0 : Nat) (g : Nat → Int32), e = .inl (cA, gL M k, .inl g) ∧ tys[t0]? = some (cA, FieldType.int) ∧ ∀ j, j < gL M k → g j = gI M k j := by
  rcases h with ⟨h, _⟩ | ⟨_, h⟩ | ⟨h, _⟩ | ⟨h | h, _⟩
  · omega
  · exact h
  all_goals omega
theorem cr_za {V : Value → Value → Prop} {tys : List (ClassId × FieldType)} {M : mm_H} {k : Nat} {e : va_E} (h : cr V tys M k e) (hs : gS M k = 11) : ∃ (cA : ClassId) (t0 : Nat) (g : Nat → Int32), e = .inl (cA, gL M k, .inl g) ∧ tys[t0]? = some (cA, FieldType.boolean) ∧ ∀ j, j < gL M k → g j = gI M k j := by
  rcases h with ⟨h, _⟩ | ⟨h, _⟩ | ⟨_, h⟩ | ⟨h | h, _⟩
  · omega
  · omega
  · exact h
  all_goals omega
theorem cr_qa {V : Value → Value → Prop} {tys : List (ClassId × FieldType)} {M : mm_H} {k : Nat} {e : va_E} (h : cr V tys M k e) (hs : gS M k = 12 ∨ gS M k = 13) : ∃ (cA : ClassId) (t0 : Nat) (g : Nat → Option Nat), e = .inl (cA, gL M k, .inr (.inr (.inr (.inr g)))) ∧ tys[t0]? = some (cA, FieldType.object (mm_E (gS M k))) ∧ ∀ j, j < gL M k → V (gR M k j) (va_rf (g j)) := by
  rcases h with ⟨h, _⟩ | ⟨h, _⟩ | ⟨h, _⟩ | ⟨_, h⟩
  · omega
  · omega
  · omega
  · exact h
theorem vp_in_mk {i : Int32} {n : Nat} (h1 : 0 ≤ i) (h2 : i.toNatClampNeg < n) : vp_in i n := fun q => by
  rcases q with q | q
  · exact absurd h1 (Int32.not_le.mpr q)
  · omega
theorem gf_W {n0 z0 mm idx : Nat} {cc : ByteArray} {ads0 : List Nat} {pc pc' : Nat} {ls st ls' st' : List Value} {M M' : mm_H} (h : mm_gf mm idx pc ls st M = some (pc', ls', st', M')) (hx : p.tables.exec = Jvm.exec) (hb : c.code = cc) (hts : ∀ w ∈ mm_ws, w.before args s = true) (hown : s.vm.findClass (mm_c (mm_cl mm)) = some m.cls) (hW : sw_W base adK adV vf b L xs s s.heap) (hdg : decode cc pc = .ok (.getfield idx, 3))
    (kk : mm_kk base adK adV vf b D p l e R s m args below meth c Q n0 z0 ads0 pc' ls' st' M') : mm_kk base adK adV vf b D p l e R s m args below meth c Q n0 z0 ads0 pc ls st M := by
  unfold mm_gf at h
  split at h
  · split at h
    · next q hq =>
      split at h
      · next hs =>
        cases h
        intro ads ws tys lsr rs H locs he ⟨hpw, hP, hK, hD, hS, hl, hst, hln⟩
        obtain ⟨a, k_, e_, ha, hst⟩ := sr_r hst
        rw [e_]
        obtain ⟨hlt, e1, hw, hc⟩ := pw_at hpw ha
        obtain ⟨_, _, h3, h4, _, _⟩ := mm_fld_of hq
        obtain ⟨fs, rfl, hfl, hf⟩ := cr_obj hc hs h3
        obtain ⟨r, hr, hv⟩ := hf _ h4
        refine get_row hq hx hb hts hown hW hK hP hw hr hdg (mm_done kk he hpw hP hK hD hS hl ⟨?_, hst⟩ hln)
        split at hv
        · next hty => rw [if_pos hty]; exact hv
        · next hty => rw [if_neg hty]; exact hv
      · cases h
    · cases h
  · next j r1 =>
    split at h
    · next hc =>
      obtain ⟨hj, hm, rfl⟩ := hc
      cases h
      intro ads ws tys lsr rs H locs he ⟨hpw, hP, hK, hD, hS, hl, hst, hln⟩
      obtain ⟨r, k_, e_, hv, hst⟩ := sr_v hst
      rw [e_]
      have hr : r = .ref (adK j) := by
        rcases hv with ⟨_, q⟩ | ⟨q, _⟩ | ⟨q, _⟩ | ⟨q, _⟩
        · exact q
        all_goals omega
      subst hr
      have hE := (hW.1.1 _ hj).2.2.1
      rw [hm] at hown
      refine vk_getf hx hb hE hS hown (hts _ (mm_wa_in mm_sf.1)) (fun x hx => hx) hdg (mm_done kk he hpw hP hK hD hS hl ⟨?_, hst⟩ hln)
      exact Or.inr (Or.inl ⟨by omega, by omega, by rw [Nat.add_sub_cancel]⟩)
    · split at h
      · next hc =>
        obtain ⟨hj, hm, rfl⟩ := hc
        cases h
        intro ads ws tys lsr rs H locs he ⟨hpw, hP, hK, hD, hS, hl, hst, hln⟩
        obtain ⟨r, k_, e_, hv, hst⟩ := sr_v hst
        rw [e_]
        have hr : r = .ref (adK j) := by
          rcases hv with ⟨_, q⟩ | ⟨q, _⟩ | ⟨q, _⟩ | ⟨q, _⟩
          · exact q
          all_goals omega
        subst hr
        have hE := (hW.1.1 _ hj).2.1
        rw [hm] at hown
        exact vk_getf hx hb hE hS hown (hts _ (mm_wa_in mm_sf.2.1)) (fun x hx => hx) hdg (mm_done kk he hpw hP hK hD hS hl ⟨rfl, hst⟩ hln)
      · cases h
  · cases h
theorem pf_W {n0 z0 mm idx : Nat} {cc : ByteArray} {ads0 : List Nat} {pc pc' : Nat} {ls st ls' st' : List Value} {M M' : mm_H} (h : mm_pf mm idx pc ls st M = some (pc', ls', st', M')) (hx : p.tables.exec = Jvm.exec) (hb : c.code = cc) (hts : ∀ w ∈ mm_ws, w.before args s = true) (hown : s.vm.findClass (mm_c (mm_cl mm)) = some m.cls) (hW : sw_W base adK adV vf b L xs s s.heap) (hini : mm_ini mm = true → meth.name = "<init>") (hdg : decode cc pc = .ok (.putfield idx, 3))
    (kk : mm_kk base adK adV vf b D p l e R s m args below meth c Q n0 z0 ads0 pc' ls' st' M') : mm_kk base adK adV vf b D p l e R s m args below meth c Q n0 z0 ads0 pc ls st M := by
  unfold mm_pf at h
  split at h
  · next x o r =>
    split at h
    · next q hq =>
      split at h
      · next hs =>
        obtain ⟨hs, hn, hfit, hfin⟩ := hs
        cases h
        intro ads ws tys lsr rs H locs he ⟨hpw, hP, hK, hD, hS, hl, hst, hln⟩
        obtain ⟨k_, e_, hst⟩ := sr_i hst
        rw [e_]
        obtain ⟨a, k_, e_, ha, hst⟩ := sr_r hst
        rw [e_]
        obtain ⟨hlt, e1, hw, hc⟩ := pw_at hpw ha
        obtain ⟨_, _, h3, h4, _, _⟩ := mm_fld_of hq
        obtain ⟨fs, rfl, hfl, hf⟩ := cr_obj hc hs h3
        have K : ∀ (H1 : Heap) (locs1 : List Loc), va_P D vwCl (ws.set o (a, .inr (q.2.2.1, fs.set q.2.2.2.1 (.int x)))) H1 → va_D (fun q => base ≤ q) (ws.set o (a, .inr (q.2.2.1, fs.set q.2.2.2.1 (.int x)))) → va_S (fun q => base ≤ q) s.heap H1 locs1 → W p l e R s m args below meth c H1 locs1 (gN M - n0) (gZ M - z0) Q (F0 m (pc + 3) lsr k_) := by
          intro H1 locs1 hP hD hS
          refine mm_done (M := pI M o q.2.2.2.1 x) kk he (pw_set hpw ha rfl rfl (fun y hy => ⟨fun j => ?_, fun j => rfl⟩) (Or.inl ⟨by show gS M o < 7; omega, fs.set q.2.2.2.1 (.int x), by show _ = Sum.inr (gS M o, _); rw [hs], by show _ = mm_nf (gS M o); rw [List.length_set, hs]; exact hfl, fun j hj => ?_⟩)) hP hK hD hS hl hst hln
          · show (if y = o ∧ j = _ then _ else _) = _; rw [if_neg (fun z => hy z.1)]; rfl
          · have hj : j < mm_nf q.2.2.1 := by rw [← hs]; exact hj
            obtain ⟨r0, g1, g2⟩ := hf j hj
            have hnr : mm_rf (mm_ty q.2.2.1 q.2.2.2.1) = false := by
              cases hty : mm_ty q.2.2.1 q.2.2.2.1 <;> rw [hty] at hfit <;> first | rfl | (exact absurd hfit (by simp [fits]))
            by_cases hjk : j = q.2.2.2.1
            · subst hjk
              refine ⟨.int x, by rw [List.getElem?_set_self (by rw [hfl]; exact h4)], ?_⟩
              show (if mm_rf (mm_ty (gS M o) _) = true then _ else _)
              rw [hs, hnr, if_neg (by decide)]
              show _ = Value.int (if o = o ∧ _ = _ then x else _)
              rw [if_pos ⟨rfl, rfl⟩]
            · refine ⟨r0, by rw [List.getElem?_set_ne (Ne.symm hjk)]; exact g1, ?_⟩
              show (if mm_rf (mm_ty (gS M o) j) = true then vr vf b adK adV ads (gR M o j) r0 else r0 = Value.int (if o = o ∧ j = _ then x else _))
              rw [hs, show (if o = o ∧ j = q.2.2.2.1 then x else M.1 o j) = M.1 o j from if_neg (fun z => hjk z.2)]
              exact g2
        rcases hfin with hfin | ⟨hfin, hi, hC, hne⟩
        · exact put_row hq hx hb hts hown hW hK hP hD hS hw hdg hfin hn hfit (by rw [hfl]; exact h4) K
        · obtain ⟨_, _, _, _, h5, h6⟩ := mm_fld_of hq
          rw [if_neg (by rw [hne]; decide)] at h6
          exact va_putF hx hb hts (mm_uw h3) (mm_ty q.2.2.1) (mm_tyok h3) (mm_nmok h3) hown hK hP hD hS o hw (mm_vc h3) q.2.2.2.1 h4 (ref := mm_C q.2.2.1) (hts _ h6) (fun x hx => by rw [h5] at hx; exact hx) hfin (hini hi) (by rw [h5, hC]) (mm_tyok h3 _ h4) hn hfit (by rw [hfl]; exact h4) hdg K
      · cases h
    · cases h
  · next y o r =>
    split at h
    · next q hq =>
      split at h
      · next hs =>
        obtain ⟨hs, hr, hfin, hi, hC, hne⟩ := hs
        cases h
        intro ads ws tys lsr rs H locs he ⟨hpw, hP, hK, hD, hS, hl, hst, hln⟩
        obtain ⟨a2, k_, e_, ha2, hst⟩ := sr_r hst
        rw [e_]
        obtain ⟨a, k_, e_, ha, hst⟩ := sr_r hst
        rw [e_]
        obtain ⟨hlt, e1, hw, hc⟩ := pw_at hpw ha
        obtain ⟨_, _, h3, h4, h5, h6⟩ := mm_fld_of hq
        rw [if_neg (by rw [hne]; decide)] at h6
        obtain ⟨fs, rfl, hfl, hf⟩ := cr_obj hc hs h3
        have hrf : mm_rf (mm_ty q.2.2.1 q.2.2.2.1) = true := by
          cases hty : mm_ty q.2.2.1 q.2.2.2.1 <;> rw [hty] at hr <;> first | rfl | (exact absurd hr Bool.false_ne_true)
        have hrt : ∀ v : Value, (v = .ref a2) → narrow (mm_ty q.2.2.1 q.2.2.2.1) v = v ∧ fits (mm_ty q.2.2.1 q.2.2.2.1) v = true := by
          rintro v rfl
          cases hty : mm_ty q.2.2.1 q.2.2.2.1 <;> rw [hty] at hr <;> first | exact ⟨rfl, rfl⟩ | (exact absurd hr (by decide))
        refine va_putF hx hb hts (mm_uw h3) (mm_ty q.2.2.1) (mm_tyok h3) (mm_nmok h3) hown hK hP hD hS o hw (mm_vc h3) q.2.2.2.1 h4 (ref := mm_C q.2.2.1) (hts _ h6) (fun x hx => by rw [h5] at hx; exact hx) hfin (hini hi) (by rw [h5, hC]) (mm_tyok h3 _ h4) (hrt _ rfl).1 (hrt _ rfl).2 (by rw [hfl]; exact h4) hdg
          (fun H1 locs1 hP hD hS => mm_done (M := pR M o q.2.2.2.1 (.ref y)) kk he (pw_set hpw ha rfl rfl (fun z hz => ⟨fun j => rfl, fun j => ?_⟩) (Or.inl ⟨by show gS M o < 7; omega, fs.set q.2.2.2.1 (.ref a2), by show _ = Sum.inr (gS M o, _); rw [hs], by show _ = mm_nf (gS M o); rw [List.length_set, hs]; exact hfl, fun j hj => ?_⟩)) hP hK hD hS hl hst hln)
        · show (if z = o ∧ j = _ then _ else _) = _; rw [if_neg (fun w => hz w.1)]; rfl
        · have hj : j < mm_nf q.2.2.1 := by rw [← hs]; exact hj
          obtain ⟨r0, g1, g2⟩ := hf j hj
          by_cases hjk : j = q.2.2.2.1
          · subst hjk
            refine ⟨.ref a2, by rw [List.getElem?_set_self (by rw [hfl]; exact h4)], ?_⟩
            show (if mm_rf (mm_ty (gS M o) _) = true then _ else _)
            rw [hs, hrf, if_pos rfl]
            show vr vf b adK adV ads (if o = o ∧ _ = _ then _ else _) _
            rw [if_pos ⟨rfl, rfl⟩]
            exact ⟨a2, ha2, rfl⟩
          · refine ⟨r0, by rw [List.getElem?_set_ne (Ne.symm hjk)]; exact g1, ?_⟩
            show (if mm_rf (mm_ty (gS M o) j) = true then vr vf b adK adV ads (if o = o ∧ j = _ then _ else _) r0 else r0 = Value.int (gI M o j))
            rw [hs, show (if o = o ∧ j = q.2.2.2.1 then Value.ref y else M.2.1 o j) = M.2.1 o j from if_neg (fun z => hjk z.2)]
            exact g2
      · cases h
    · cases h
  · next x o r =>
    split at h
    · next q hq =>
      split at h
      · next hs =>
        obtain ⟨hs, hty, hfin⟩ := hs
        cases h
        intro ads ws tys lsr rs H locs he ⟨hpw, hP, hK, hD, hS, hl, hst, hln⟩
        obtain ⟨k_, e_, hst⟩ := sr_l hst
        rw [e_]
        obtain ⟨a, k_, e_, ha, hst⟩ := sr_r hst
        rw [e_]
        obtain ⟨hlt, e1, hw, hc⟩ := pw_at hpw ha
        obtain ⟨_, _, h3, h4, _, _⟩ := mm_fld_of hq
        obtain ⟨fs, rfl, hfl, hf⟩ := cr_obj hc hs h3
        refine put_row hq hx hb hts hown hW hK hP hD hS hw hdg hfin (by rw [hty]; rfl) (by rw [hty]; rfl) (by rw [hfl]; exact h4) (fun H1 locs1 hP hD hS => mm_done (M := pR M o q.2.2.2.1 (.long x)) kk he (pw_set hpw ha rfl rfl (fun y hy => ⟨fun j => rfl, fun j => ?_⟩) (Or.inl ⟨by show gS M o < 7; omega, fs.set q.2.2.2.1 (.long x), by show _ = Sum.inr (gS M o, _); rw [hs], by show _ = mm_nf (gS M o); rw [List.length_set, hs]; exact hfl, fun j hj => ?_⟩)) hP hK hD hS hl hst hln)
        · show (if y = o ∧ j = _ then _ else _) = _; rw [if_neg (fun z => hy z.1)]; rfl
        · have hj : j < mm_nf q.2.2.1 := by rw [← hs]; exact hj
          obtain ⟨r0, g1, g2⟩ := hf j hj
          by_cases hjk : j = q.2.2.2.1
          · subst hjk
            refine ⟨.long x, by rw [List.getElem?_set_self (by rw [hfl]; exact h4)], ?_⟩
            show (if mm_rf (mm_ty (gS M o) _) = true then _ else _)
            rw [hs, hty, if_pos (show mm_rf FieldType.long = true from rfl)]
            show vr vf b adK adV ads (if o = o ∧ _ = _ then _ else _) _
            rw [if_pos ⟨rfl, rfl⟩]
            exact rfl
          · refine ⟨r0, by rw [List.getElem?_set_ne (Ne.symm hjk)]; exact g1, ?_⟩
            show (if mm_rf (mm_ty (gS M o) j) = true then vr vf b adK adV ads (if o = o ∧ j = _ then _ else _) r0 else r0 = Value.int (gI M o j))
            rw [hs, show (if o = o ∧ j = q.2.2.2.1 then Value.long x else M.2.1 o j) = M.2.1 o j from if_neg (fun z => hjk z.2)]
            exact g2
      · cases h
    · cases h
  · cases h
theorem gs_W {n0 z0 mm idx : Nat} {cc : ByteArray} {ads0 : List Nat} {pc pc' : Nat} {ls st ls' st' : List Value} {M M' : mm_H} (h : mm_gs mm idx pc ls st M = some (pc', ls', st', M')) (hx : p.tables.exec = Jvm.exec) (hb : c.code = cc) (hts : ∀ w ∈ mm_ws, w.before args s = true) (hown : s.vm.findClass (mm_c (mm_cl mm)) = some m.cls) (hW : sw_W base adK adV vf b L xs s s.heap) (hdg : decode cc pc = .ok (.getstatic idx, 3))
    (kk : mm_kk base adK adV vf b D p l e R s m args below meth c Q n0 z0 ads0 pc' ls' st' M') : mm_kk base adK adV vf b D p l e R s m args below meth c Q n0 z0 ads0 pc ls st M := by
  unfold mm_gs at h
  split at h
  · next hc =>
    obtain ⟨hm, rfl⟩ := hc
    cases h
    intro ads ws tys lsr rs H locs he ⟨hpw, hP, hK, hD, hS, hl, hst, hln⟩
    rw [hm] at hown
    exact va_gets hx hb hW.2.1 hS hown (hts _ (mm_wa_in mm_sf.2.2.1)) (fun x hx => hx) hdg (mm_done kk he hpw hP hK hD hS hl ⟨rfl, hst⟩ hln)
  · split at h
    · next hc =>
      obtain ⟨hm, rfl⟩ := hc
      cases h
      intro ads ws tys lsr rs H locs he ⟨hpw, hP, hK, hD, hS, hl, hst, hln⟩
      rw [hm] at hown
      exact va_gets hx hb hW.2.2.1 hS hown (hts _ (mm_wa_in mm_sf.2.2.2)) (fun x hx => hx) hdg (mm_done kk he hpw hP hK hD hS hl ⟨Or.inr (Or.inr (Or.inr ⟨rfl, rfl⟩)), hst⟩ hln)
    · cases h
theorem ial_W {n0 z0 : Nat} {cc : ByteArray} {ads0 : List Nat} {pc pc' : Nat} {ls st ls' st' : List Value} {M M' : mm_H} (h : mm_ial L xs pc ls st M = some (pc', ls', st', M')) (hx : p.tables.exec = Jvm.exec) (hb : c.code = cc) (hW : sw_W base adK adV vf b L xs s s.heap) (hdg : decode cc pc = .ok (.iaload, 1))
    (kk : mm_kk base adK adV vf b D p l e R s m args below meth c Q n0 z0 ads0 pc' ls' st' M') : mm_kk base adK adV vf b D p l e R s m args below meth c Q n0 z0 ads0 pc ls st M := by
  unfold mm_ial at h
  split at h
  · split at h
    · next hs =>
      obtain ⟨hs, hi1, hi2⟩ := hs
      cases h
      intro ads ws tys lsr rs H locs he ⟨hpw, hP, hK, hD, hS, hl, hst, hln⟩
      obtain ⟨k_, e_, hst⟩ := sr_i hst
      rw [e_]
      obtain ⟨a, k_, e_, ha, hst⟩ := sr_r hst
      rw [e_]
      obtain ⟨hlt, e1, hw, hc⟩ := pw_at hpw ha
      obtain ⟨cA, t0, g, rfl, ht, hg⟩ := cr_ia hc hs
      refine va_iald hx hb hK hP _ t0 hw ht (vp_in_mk hi1 hi2) hdg ?_
      rw [hg _ hi2]
      exact mm_done kk he hpw hP hK hD hS hl ⟨rfl, hst⟩ hln
    · cases h
  · split at h
    · next hs =>
      obtain ⟨rfl, hi1, hi2⟩ := hs
      cases h
      intro ads ws tys lsr rs H locs he ⟨hpw, hP, hK, hD, hS, hl, hst, hln⟩
      obtain ⟨k_, e_, hst⟩ := sr_i hst
      rw [e_]
      obtain ⟨r, k_, e_, hv, hst⟩ := sr_v hst
      rw [e_]
      have hr : r = .ref b := by
        rcases hv with ⟨q, _⟩ | ⟨_, q, _⟩ | ⟨_, q⟩ | ⟨q, _⟩
        · omega
        · omega
        · exact q
        · omega
      subst hr
      obtain ⟨_, _, _, _, _, _, _, hX, hbb, hbs, _⟩ := hW
      exact va_sld hx hb hX (Nat.lt_of_lt_of_le hbb hbs) (Nat.not_le.mpr hbb) hS (vp_in_mk hi1 hi2) hdg (mm_done kk he hpw hP hK hD hS hl ⟨rfl, hst⟩ hln)
    · cases h
  · cases h
theorem bal_W {n0 z0 : Nat} {cc : ByteArray} {ads0 : List Nat} {pc pc' : Nat} {ls st ls' st' : List Value} {M M' : mm_H} (h : mm_bal pc ls st M = some (pc', ls', st', M')) (hx : p.tables.exec = Jvm.exec) (hb : c.code = cc) (hW : sw_W base adK adV vf b L xs s s.heap) (hdg : decode cc pc = .ok (.baload, 1))
    (kk : mm_kk base adK adV vf b D p l e R s m args below meth c Q n0 z0 ads0 pc' ls' st' M') : mm_kk base adK adV vf b D p l e R s m args below meth c Q n0 z0 ads0 pc ls st M := by
  unfold mm_bal at h
  split at h
  · split at h
    · next hs =>
      obtain ⟨hs, hi1, hi2⟩ := hs
      cases h
      intro ads ws tys lsr rs H locs he ⟨hpw, hP, hK, hD, hS, hl, hst, hln⟩
      obtain ⟨k_, e_, hst⟩ := sr_i hst
      rw [e_]
      obtain ⟨a, k_, e_, ha, hst⟩ := sr_r hst
      rw [e_]
      obtain ⟨hlt, e1, hw, hc⟩ := pw_at hpw ha
      obtain ⟨cA, t0, g, rfl, ht, hg⟩ := cr_za hc hs
      refine va_zald hx hb hK hP _ t0 hw ht (vp_in_mk hi1 hi2) hdg ?_
      rw [hg _ hi2]
      exact mm_done kk he hpw hP hK hD hS hl ⟨rfl, hst⟩ hln
    · cases h
  · next i j r =>
    split at h
    · next hs =>
      obtain ⟨hj1, hj2, hi1, hi2⟩ := hs
      cases h
      intro ads ws tys lsr rs H locs he ⟨hpw, hP, hK, hD, hS, hl, hst, hln⟩
      obtain ⟨k_, e_, hst⟩ := sr_i hst
      rw [e_]
      obtain ⟨r, k_, e_, hv, hst⟩ := sr_v hst
      rw [e_]
      have hr : r = .ref (adV (j - 100)) := by
        rcases hv with ⟨q, _⟩ | ⟨_, _, q⟩ | ⟨q, _⟩ | ⟨q, _⟩
        · omega
        · exact q
        · omega
        · omega
      subst hr
      have hT := (hW.1.1 (j - 100) (by omega)).2.2.2
      have hll : (mm_sb.map List.length).getD (j - 100) 0 = (mm_sb.getD (j - 100) []).length := by
        simp [List.getD_eq_getElem?_getD, List.getElem?_map]
        cases mm_sb[j - 100]? <;> rfl
      rw [hll] at hT
      exact va_tb hx hb hT hS (vp_in_mk hi1 hi2) rfl hdg (mm_done kk he hpw hP hK hD hS hl ⟨rfl, hst⟩ hln)
    · cases h
  · cases h
theorem aal_W {n0 z0 : Nat} {cc : ByteArray} {ads0 : List Nat} {pc pc' : Nat} {ls st ls' st' : List Value} {M M' : mm_H} (h : mm_aal pc ls st M = some (pc', ls', st', M')) (hx : p.tables.exec = Jvm.exec) (hb : c.code = cc) (hdg : decode cc pc = .ok (.aaload, 1))
    (kk : mm_kk base adK adV vf b D p l e R s m args below meth c Q n0 z0 ads0 pc' ls' st' M') : mm_kk base adK adV vf b D p l e R s m args below meth c Q n0 z0 ads0 pc ls st M := by
  unfold mm_aal at h
  split at h
  · split at h
    · next hs =>
      obtain ⟨hs, hi1, hi2⟩ := hs
      cases h
      intro ads ws tys lsr rs H locs he ⟨hpw, hP, hK, hD, hS, hl, hst, hln⟩
      obtain ⟨k_, e_, hst⟩ := sr_i hst
      rw [e_]
      obtain ⟨a, k_, e_, ha, hst⟩ := sr_r hst
      rw [e_]
      obtain ⟨hlt, e1, hw, hc⟩ := pw_at hpw ha
      obtain ⟨cA, t0, g, rfl, ht, hg⟩ := cr_qa hc hs
      exact va_aldq hx hb hK hP _ t0 hw ht (vp_in_mk hi1 hi2) hdg (mm_done kk he hpw hP hK hD hS hl ⟨hg _ hi2, hst⟩ hln)
    · cases h
  · cases h
theorem ias_W {n0 z0 : Nat} {cc : ByteArray} {ads0 : List Nat} {pc pc' : Nat} {ls st ls' st' : List Value} {M M' : mm_H} (h : mm_ias pc ls st M = some (pc', ls', st', M')) (hx : p.tables.exec = Jvm.exec) (hb : c.code = cc) (hdg : decode cc pc = .ok (.iastore, 1))
    (kk : mm_kk base adK adV vf b D p l e R s m args below meth c Q n0 z0 ads0 pc' ls' st' M') : mm_kk base adK adV vf b D p l e R s m args below meth c Q n0 z0 ads0 pc ls st M := by
  unfold mm_ias at h
  split at h
  · next x i o r =>
    split at h
    · next hs =>
      obtain ⟨hs, hi1, hi2⟩ := hs
      cases h
      intro ads ws tys lsr rs H locs he ⟨hpw, hP, hK, hD, hS, hl, hst, hln⟩
      obtain ⟨k_, e_, hst⟩ := sr_i hst
      rw [e_]
      obtain ⟨k_, e_, hst⟩ := sr_i hst
      rw [e_]
      obtain ⟨a, k_, e_, ha, hst⟩ := sr_r hst
      rw [e_]
      obtain ⟨hlt, e1, hw, hc⟩ := pw_at hpw ha
      obtain ⟨cA, t0, g, rfl, ht, hg⟩ := cr_ia hc hs
      refine va_iast hx hb hK hP hD hS _ t0 hw ht (vp_in_mk hi1 hi2) hdg (fun H1 locs1 hP hD hS => mm_done (M := pI M o i.toNatClampNeg x) kk he (pw_set hpw ha rfl rfl (fun y hy => ⟨fun j => ?_, fun j => rfl⟩) (Or.inr (Or.inl ⟨hs, cA, t0, _, rfl, ht, fun j hj => ?_⟩))) hP hK hD hS hl hst hln)
      · show (if y = o ∧ j = _ then _ else _) = _; rw [if_neg (fun z => hy z.1)]; rfl
      · show upd g _ x j = (if o = o ∧ j = _ then x else _)
        by_cases hji : j = i.toNatClampNeg
        · subst hji; simp [upd]
        · rw [if_neg (fun z => hji z.2), ← show g j = M.1 o j from hg j hj]; simp [upd, hji]
    · cases h
  · cases h
theorem bas_W {n0 z0 : Nat} {cc : ByteArray} {ads0 : List Nat} {pc pc' : Nat} {ls st ls' st' : List Value} {M M' : mm_H} (h : mm_bas pc ls st M = some (pc', ls', st', M')) (hx : p.tables.exec = Jvm.exec) (hb : c.code = cc) (hdg : decode cc pc = .ok (.bastore, 1))
    (kk : mm_kk base adK adV vf b D p l e R s m args below meth c Q n0 z0 ads0 pc' ls' st' M') : mm_kk base adK adV vf b D p l e R s m args below meth c Q n0 z0 ads0 pc ls st M := by
  unfold mm_bas at h
  split at h
  · next x i o r =>
    split at h
    · next hs =>
      obtain ⟨hs, hi1, hi2⟩ := hs
      cases h
      intro ads ws tys lsr rs H locs he ⟨hpw, hP, hK, hD, hS, hl, hst, hln⟩
      obtain ⟨k_, e_, hst⟩ := sr_i hst
      rw [e_]
      obtain ⟨k_, e_, hst⟩ := sr_i hst
      rw [e_]
      obtain ⟨a, k_, e_, ha, hst⟩ := sr_r hst
      rw [e_]
      obtain ⟨hlt, e1, hw, hc⟩ := pw_at hpw ha
      obtain ⟨cA, t0, g, rfl, ht, hg⟩ := cr_za hc hs
      refine va_zast hx hb hK hP hD hS _ t0 hw ht (vp_in_mk hi1 hi2) hdg (fun H1 locs1 hP hD hS => mm_done (M := pI M o i.toNatClampNeg (x &&& 1)) kk he (pw_set hpw ha rfl rfl (fun y hy => ⟨fun j => ?_, fun j => rfl⟩) (Or.inr (Or.inr (Or.inl ⟨hs, cA, t0, _, rfl, ht, fun j hj => ?_⟩)))) hP hK hD hS hl hst hln)
      · show (if y = o ∧ j = _ then _ else _) = _; rw [if_neg (fun z => hy z.1)]; rfl
      · show upd g _ (vp_nar .boolean x) j = (if o = o ∧ j = _ then x &&& 1 else _)
        by_cases hji : j = i.toNatClampNeg
        · subst hji; simp [upd]; rfl
        · rw [if_neg (fun z => hji z.2), ← show g j = M.1 o j from hg j hj]; simp [upd, hji]
    · cases h
  · cases h
theorem aas_W {n0 z0 : Nat} {cc : ByteArray} {ads0 : List Nat} {pc pc' : Nat} {ls st ls' st' : List Value} {M M' : mm_H} (h : mm_aas pc ls st M = some (pc', ls', st', M')) (hx : p.tables.exec = Jvm.exec) (hb : c.code = cc) (hdg : decode cc pc = .ok (.aastore, 1))
    (kk : mm_kk base adK adV vf b D p l e R s m args below meth c Q n0 z0 ads0 pc' ls' st' M') : mm_kk base adK adV vf b D p l e R s m args below meth c Q n0 z0 ads0 pc ls st M := by
  unfold mm_aas at h
  split at h
  · next x i o r =>
    split at h
    · next hs =>
      obtain ⟨hs, hi1, hi2, hel⟩ := hs
      cases h
      intro ads ws tys lsr rs H locs he ⟨hpw, hP, hK, hD, hS, hl, hst, hln⟩
      obtain ⟨a2, k_, e_, ha2, hst⟩ := sr_r hst
      rw [e_]
      obtain ⟨k_, e_, hst⟩ := sr_i hst
      rw [e_]
      obtain ⟨a, k_, e_, ha, hst⟩ := sr_r hst
      rw [e_]
      obtain ⟨hlt, e1, hw, hc⟩ := pw_at hpw ha
      obtain ⟨hlt2, e2, hw2, hc2⟩ := pw_at hpw ha2
      obtain ⟨cA, t0, g, rfl, ht, hg⟩ := cr_qa hc hs
      have hci : mm_el (gS M o) < 7 ∧ mm_C (mm_el (gS M o)) = mm_E (gS M o) := by rcases hs with q | q <;> rw [q] <;> exact ⟨by decide, rfl⟩
      obtain ⟨fs, rfl, -, -⟩ := cr_obj hc2 hel hci.1
      refine va_astq hx hb hK hP hD hS o t0 x (mm_el (gS M o)) (r := (mm_C (mm_el (gS M o)), mm_T (mm_el (gS M o)), mm_nf (mm_el (gS M o)))) hw (by rw [hci.2]; exact ht) hw2 (mm_vc hci.1) (vp_in_mk hi1 hi2) hdg (fun H1 locs1 hP hD hS => mm_done (M := pR M o i.toNatClampNeg (.ref x)) kk he (pw_set hpw ha rfl rfl (fun y hy => ⟨fun j => rfl, fun j => ?_⟩) (Or.inr (Or.inr (Or.inr ⟨hs, cA, t0, _, rfl, ht, fun j hj => ?_⟩)))) hP hK hD hS hl hst hln)
      · show (if y = o ∧ j = _ then _ else _) = _; rw [if_neg (fun z => hy z.1)]; rfl
      · show vr vf b adK adV ads (if o = o ∧ j = _ then _ else _) (va_rf (va_up g _ _ j))
        by_cases hji : j = i.toNatClampNeg
        · subst hji; simp [va_up]; exact ⟨a2, ha2, rfl⟩
        · rw [if_neg (fun z => hji z.2)]; simp only [va_up, if_neg hji]; exact hg j hj
    · cases h
  · cases h
theorem aln_W {n0 z0 : Nat} {cc : ByteArray} {ads0 : List Nat} {pc pc' : Nat} {ls st ls' st' : List Value} {M M' : mm_H} (h : mm_aln L pc ls st M = some (pc', ls', st', M')) (hx : p.tables.exec = Jvm.exec) (hb : c.code = cc) (hW : sw_W base adK adV vf b L xs s s.heap) (hdg : decode cc pc = .ok (.arraylength, 1))
    (kk : mm_kk base adK adV vf b D p l e R s m args below meth c Q n0 z0 ads0 pc' ls' st' M') : mm_kk base adK adV vf b D p l e R s m args below meth c Q n0 z0 ads0 pc ls st M := by
  unfold mm_aln at h
  split at h
  · next o r =>
    split at h
    · next hs =>
      cases h
      intro ads ws tys lsr rs H locs he ⟨hpw, hP, hK, hD, hS, hl, hst, hln⟩
      obtain ⟨a, k_, e_, ha, hst⟩ := sr_r hst
      rw [e_]
      obtain ⟨hlt, e1, hw, hc⟩ := pw_at hpw ha
      have key : ∃ (cA : ClassId) (t0 : Nat) (x : (Nat → Int32) ⊕ (Nat → Int64) ⊕ (Nat → UInt32) ⊕ (Nat → UInt64) ⊕ (Nat → Option Nat)) (ty : FieldType), e1 = .inl (cA, (gL M o, x)) ∧ tys[t0]? = some (cA, ty) := by
        rcases hc with ⟨q, _⟩ | ⟨_, cA, t0, g, q1, q2, _⟩ | ⟨_, cA, t0, g, q1, q2, _⟩ | ⟨_, cA, t0, g, q1, q2, _⟩
        · omega
        · exact ⟨cA, t0, _, _, q1, q2⟩
        · exact ⟨cA, t0, _, _, q1, q2⟩
        · exact ⟨cA, t0, _, _, q1, q2⟩
      obtain ⟨cA, t0, x, ty, rfl, ht⟩ := key
      exact va_alen hx hb hK hP o t0 hw ht rfl hdg (mm_done kk he hpw hP hK hD hS hl ⟨rfl, hst⟩ hln)
    · cases h
  · next j r =>
    split at h
    · next hj =>
      subst hj
      cases h
      intro ads ws tys lsr rs H locs he ⟨hpw, hP, hK, hD, hS, hl, hst, hln⟩
      obtain ⟨r, k_, e_, hv, hst⟩ := sr_v hst
      rw [e_]
      have hr : r = .ref b := by
        rcases hv with ⟨q, _⟩ | ⟨_, q, _⟩ | ⟨_, q⟩ | ⟨q, _⟩
        · omega
        · omega
        · exact q
        · omega
      subst hr
      obtain ⟨_, _, _, _, _, _, _, hX, hbb, hbs, _⟩ := hW
      exact va_slen hx hb hX (Nat.lt_of_lt_of_le hbb hbs) (Nat.not_le.mpr hbb) hS hdg (mm_done kk he hpw hP hK hD hS hl ⟨rfl, hst⟩ hln)
    · split at h
      · next hs =>
        cases h
        intro ads ws tys lsr rs H locs he ⟨hpw, hP, hK, hD, hS, hl, hst, hln⟩
        obtain ⟨r, k_, e_, hv, hst⟩ := sr_v hst
        rw [e_]
        have hr : r = .ref (adV (j - 100)) := by
          rcases hv with ⟨q, _⟩ | ⟨_, _, q⟩ | ⟨q, _⟩ | ⟨q, _⟩
          · omega
          · exact q
          · omega
          · omega
        subst hr
        have hT := (hW.1.1 (j - 100) (by omega)).2.2.2
        have hll : (mm_sb.map List.length).getD (j - 100) 0 = (mm_sb.getD (j - 100) []).length := by
          simp [List.getD_eq_getElem?_getD, List.getElem?_map]
          cases mm_sb[j - 100]? <;> rfl
        rw [hll] at hT
        exact va_tlen hx hb hT hS rfl hdg (mm_done kk he hpw hP hK hD hS hl ⟨rfl, hst⟩ hln)
      · cases h
  · cases h
end SNH
