/-! STEPS THAT MAKE CELLS; THE JDK'S OWN -/
section SNN
variable {base : Nat} {adK adV : Nat → Nat} {vf : Value} {b L : Nat} {xs : Nat → Int32} {D : va_G}
variable {p : Program} {l : Launch} {e : Env} {R : Room} {s : State} {m : MethodId} {args : Array Value} {below : List Frame} {meth : Method} {c : Code} {Q : State → Prop}
theorem sub1 {a n : Nat} (h : n ≤ a) (k : Nat) : a - n + k = a + k - n := by omega
theorem sr_ext {ads ads' : List Nat} (he : ex_t ads ads') {l k : List Value} (h : sr (vr vf b adK adV ads) l k) : sr (vr vf b adK adV ads') l k := sr_mono (fun _ _ => vr_mono he) h
theorem lr_ext {ads ads' : List Nat} (he : ex_t ads ads') {lm : List Value} {ls : Array Slot} (h : lr (vr vf b adK adV ads) lm ls) : lr (vr vf b adK adV ads') lm ls := lr_mono (fun _ _ => vr_mono he) h
theorem new_W {n0 z0 nf zf mm idx : Nat} {cc : ByteArray} {ads0 : List Nat} {pc pc' : Nat} {ls st ls' st' : List Value} {M M' : mm_H} (h : mm_new mm idx pc ls st M = some (pc', ls', st', M')) (hx : p.tables.exec = Jvm.exec) (hb : c.code = cc) (hts : ∀ w ∈ mm_ws, w.before args s = true) (hown : s.vm.findClass (mm_c (mm_cl mm)) = some m.cls) (hbs : base ≤ s.heap.size)
    (hn : n0 ≤ gN M ∧ z0 ≤ gZ M ∧ gN M' ≤ nf ∧ gZ M' ≤ zf ∧ nf - n0 ≤ R.cells ∧ zf - z0 ≤ R.slots) (hdg : decode cc pc = .ok (.new idx, 3))
    (kk : mm_kk base adK adV vf b D p l e R s m args below meth c Q n0 z0 ads0 pc' ls' st' M') : mm_kk base adK adV vf b D p l e R s m args below meth c Q n0 z0 ads0 pc ls st M := by
  unfold mm_new at h
  split at h
  · next q hq =>
    cases h
    obtain ⟨h1, h2⟩ := mm_find_in hq
    simp only [Bool.and_eq_true, beq_iff_eq] at h2
    have h3 := List.all_eq_true.mp mm_oko_all q h1
    simp only [Bool.and_eq_true, decide_eq_true_eq] at h3
    obtain ⟨hci, w1, w2, w3⟩ := h3
    have w1 := mm_wa_in w1
    have w2 := mm_wa_in w2
    have w3 := mm_wa_in w3
    rw [h2.1, h2.2] at w1
    intro ads ws tys lsr rs H locs he ⟨hpw, hP, hK, hD, hS, hl, hst, hln⟩
    obtain ⟨n1, n2, n3, n4, n5, n6⟩ := hn
    have n3 : gN M + 1 ≤ nf := n3
    have n4 : gZ M + mm_nf q.2.2.1 ≤ zf := n4
    refine va_new hx hb hts (mm_uw hci) (mm_ty q.2.2.1) (mm_tyok hci) hown (hts _ w1) (hts _ w2) (hts _ w3) hK hP hD hS (fun q h => Nat.le_trans hbs h) (mm_vc hci) (fs := (List.range (mm_nf q.2.2.1)).map (fun j => defaultValue (mm_ty q.2.2.1 j))) (fun j hj => ?_) (by omega) (by omega) hdg (fun a H1 hP hD hS => ?_)
    · unfold vp_V
      rw [List.getD_eq_getElem?_getD, List.getElem?_map, List.getElem?_range hj]
      rfl
    · rw [sub1 n1, sub1 n2]
      have hex := ex_app ads [a]
      refine mm_done (M := pN M q.2.2.1 (mm_nf q.2.2.1) (mm_nf q.2.2.1)) (ads := ads ++ [a]) kk (ex_trans he hex) (pw_new (tys' := tys) hpw (fun _ _ h => h) (Or.inl ?_)) hP hK hD hS (lr_ext hex hl) ⟨⟨a, by rw [← hpw.1]; simp, rfl⟩, sr_ext hex hst⟩ hln
      have e1 : gS (pN M q.2.2.1 (mm_nf q.2.2.1) (mm_nf q.2.2.1)) (gN M) = q.2.2.1 := by show (if gN M = gN M then _ else _ : Nat × Nat).1 = _; rw [if_pos rfl]
      rw [e1]
      refine ⟨hci, _, rfl, by simp, fun j hj => ⟨_, by rw [List.getElem?_map, List.getElem?_range hj]; rfl, ?_⟩⟩
      have er : gR (pN M q.2.2.1 (mm_nf q.2.2.1) (mm_nf q.2.2.1)) (gN M) j = (if q.2.2.1 = 6 ∧ j = 27 then .long 0 else .null) := by show (if gN M = gN M then _ else _) = _; rw [if_pos rfl]
      have ei : gI (pN M q.2.2.1 (mm_nf q.2.2.1) (mm_nf q.2.2.1)) (gN M) j = 0 := by show (if gN M = gN M then _ else _) = _; rw [if_pos rfl]
      rw [er, ei]
      show if mm_rf (mm_ty q.2.2.1 j) = true then _ else defaultValue (mm_ty q.2.2.1 j) = Value.int 0
      have hty : (mm_rf (mm_ty q.2.2.1 j) = true ∧ defaultValue (mm_ty q.2.2.1 j) = (if q.2.2.1 = 6 ∧ j = 27 then .long 0 else .null)) ∨ (mm_rf (mm_ty q.2.2.1 j) = false ∧ defaultValue (mm_ty q.2.2.1 j) = .int 0) := by
        have hall : ∀ ci, ci < 7 → ∀ j, j < 47 → (mm_rf (mm_ty ci j) = true ∧ defaultValue (mm_ty ci j) = (if ci = 6 ∧ j = 27 then .long 0 else .null)) ∨ (mm_rf (mm_ty ci j) = false ∧ defaultValue (mm_ty ci j) = .int 0) := by decide +kernel
        have h47 : ∀ ci, ci < 7 → mm_nf ci ≤ 47 := by decide +kernel
        exact hall _ hci j (Nat.lt_of_lt_of_le hj (h47 _ hci))
      rcases hty with ⟨q1, q2⟩ | ⟨q1, q2⟩
      · rw [if_pos q1]
        show vr vf b adK adV _ _ (defaultValue (mm_ty q.2.2.1 j))
        rw [q2]
        split <;> exact rfl
      · rw [if_neg (by rw [q1]; decide)]
        exact q2
  · cases h
theorem nwa_W {n0 z0 nf zf : Nat} {t : ArrayType} {cc : ByteArray} {ads0 : List Nat} {pc pc' : Nat} {ls st ls' st' : List Value} {M M' : mm_H} (h : mm_nwa t pc ls st M = some (pc', ls', st', M')) (hx : p.tables.exec = Jvm.exec) (hb : c.code = cc) (hts : ∀ w ∈ mm_ws, w.before args s = true) (hbs : base ≤ s.heap.size)
    (hn : n0 ≤ gN M ∧ z0 ≤ gZ M ∧ gN M' ≤ nf ∧ gZ M' ≤ zf ∧ nf - n0 ≤ R.cells ∧ zf - z0 ≤ R.slots) (hdg : decode cc pc = .ok (.newarray t, 2))
    (kk : mm_kk base adK adV vf b D p l e R s m args below meth c Q n0 z0 ads0 pc' ls' st' M') : mm_kk base adK adV vf b D p l e R s m args below meth c Q n0 z0 ads0 pc ls st M := by
  unfold mm_nwa at h
  split at h
  · next n r =>
    split at h
    · next hc =>
      obtain ⟨hn0, hnk⟩ := hc
      have hneg : ¬ n < 0 := fun q => absurd hn0 (Int32.not_le.mpr q)
      obtain ⟨n1, n2, n3, n4, n5, n6⟩ := hn
      split at h
      · cases h
        have n3 : gN M + 1 ≤ nf := n3
        have n4 : gZ M + n.toNatClampNeg ≤ zf := n4
        intro ads ws tys lsr rs H locs he ⟨hpw, hP, hK, hD, hS, hl, hst, hln⟩
        obtain ⟨k_, e_, hst⟩ := sr_i hst
        rw [e_]
        refine va_newa (ty := .int) hx hb (hts _ (mm_aw (Or.inl rfl))) rfl hK hP hD hS (fun q h => Nat.le_trans hbs h) (a0 := (n.toNatClampNeg, .inl (fun _ => 0))) (fun cA => rfl) hneg rfl (by show _ * 4 ≤ _; omega) (by omega) (by omega) hdg (fun a cA H1 hK hP hD hS => ?_)
        rw [sub1 n1, sub1 n2]
        have hex := ex_app ads [a]
        refine mm_done (M := pN M 10 n.toNatClampNeg n.toNatClampNeg) (ads := ads ++ [a]) (tys := tys ++ [(cA, .int)]) kk (ex_trans he hex) (pw_new hpw (fun k x h => by rw [List.getElem?_append_left (List.getElem?_eq_some_iff.mp h).1]; exact h) (Or.inr (Or.inl ?_))) hP hK hD hS (lr_ext hex hl) ⟨⟨a, by rw [← hpw.1]; simp, rfl⟩, sr_ext hex hst⟩ hln
        refine ⟨by show (if gN M = gN M then _ else _ : Nat × Nat).1 = _; rw [if_pos rfl], cA, tys.length, fun _ => 0, ?_, by simp, fun j hj => ?_⟩
        · show _ = Sum.inl (cA, (if gN M = gN M then _ else _ : Nat × Nat).2, _); rw [if_pos rfl]
        · show _ = (if gN M = gN M then _ else _); rw [if_pos rfl]
      · cases h
        have n3 : gN M + 1 ≤ nf := n3
        have n4 : gZ M + n.toNatClampNeg ≤ zf := n4
        intro ads ws tys lsr rs H locs he ⟨hpw, hP, hK, hD, hS, hl, hst, hln⟩
        obtain ⟨k_, e_, hst⟩ := sr_i hst
        rw [e_]
        refine va_newa (ty := .boolean) hx hb (hts _ (mm_aw (Or.inr rfl))) rfl hK hP hD hS (fun q h => Nat.le_trans hbs h) (a0 := (n.toNatClampNeg, .inl (fun _ => 0))) (fun cA => rfl) hneg rfl (by show _ * 1 ≤ _; omega) (by omega) (by omega) hdg (fun a cA H1 hK hP hD hS => ?_)
        rw [sub1 n1, sub1 n2]
        have hex := ex_app ads [a]
        refine mm_done (M := pN M 11 n.toNatClampNeg n.toNatClampNeg) (ads := ads ++ [a]) (tys := tys ++ [(cA, .boolean)]) kk (ex_trans he hex) (pw_new hpw (fun k x h => by rw [List.getElem?_append_left (List.getElem?_eq_some_iff.mp h).1]; exact h) (Or.inr (Or.inr (Or.inl ?_)))) hP hK hD hS (lr_ext hex hl) ⟨⟨a, by rw [← hpw.1]; simp, rfl⟩, sr_ext hex hst⟩ hln
        refine ⟨by show (if gN M = gN M then _ else _ : Nat × Nat).1 = _; rw [if_pos rfl], cA, tys.length, fun _ => 0, ?_, by simp, fun j hj => ?_⟩
        · show _ = Sum.inl (cA, (if gN M = gN M then _ else _ : Nat × Nat).2, _); rw [if_pos rfl]
        · show _ = (if gN M = gN M then _ else _); rw [if_pos rfl]
      · cases h
    · cases h
  · cases h
theorem ana_W {n0 z0 nf zf mm idx : Nat} {cc : ByteArray} {ads0 : List Nat} {pc pc' : Nat} {ls st ls' st' : List Value} {M M' : mm_H} (h : mm_ana mm idx pc ls st M = some (pc', ls', st', M')) (hx : p.tables.exec = Jvm.exec) (hb : c.code = cc) (hts : ∀ w ∈ mm_ws, w.before args s = true) (hown : s.vm.findClass (mm_c (mm_cl mm)) = some m.cls) (hW : sw_W base adK adV vf b L xs s s.heap) (hbs : base ≤ s.heap.size)
    (hn : n0 ≤ gN M ∧ z0 ≤ gZ M ∧ gN M' ≤ nf ∧ gZ M' ≤ zf ∧ nf - n0 ≤ R.cells ∧ zf - z0 ≤ R.slots) (hdg : decode cc pc = .ok (.anewarray idx, 3))
    (kk : mm_kk base adK adV vf b D p l e R s m args below meth c Q n0 z0 ads0 pc' ls' st' M') : mm_kk base adK adV vf b D p l e R s m args below meth c Q n0 z0 ads0 pc ls st M := by
  unfold mm_ana at h
  split at h
  · next n r =>
    split at h
    · next hc =>
      obtain ⟨hn0, hnk⟩ := hc
      have hneg : ¬ n < 0 := fun q => absurd hn0 (Int32.not_le.mpr q)
      obtain ⟨n1, n2, n3, n4, n5, n6⟩ := hn
      split at h
      · next q hq =>
        cases h
        obtain ⟨h1, h2⟩ := mm_find_in hq
        simp only [Bool.and_eq_true, beq_iff_eq] at h2
        have h3 := List.all_eq_true.mp mm_oka_all q h1
        simp only [Bool.and_eq_true, decide_eq_true_eq] at h3
        obtain ⟨hso, w1⟩ := h3
        have w1 := mm_wa_in w1
        rw [h2.1, h2.2] at w1
        have n3 : gN M + 1 ≤ nf := n3
        have n4 : gZ M + n.toNatClampNeg ≤ zf := n4
        have hao : va_AO (mm_E q.2.2.1) s := by
          rcases hso with z | z <;> rw [z]
          · exact hW.2.2.2.2.1
          · exact hW.2.2.2.2.2.1
        intro ads ws tys lsr rs H locs he ⟨hpw, hP, hK, hD, hS, hl, hst, hln⟩
        obtain ⟨k_, e_, hst⟩ := sr_i hst
        rw [e_]
        refine va_newq hx hb hown (hts _ w1) hao hK hP hD hS (fun q h => Nat.le_trans hbs h) hneg rfl (by omega) (by omega) (by omega) hdg (fun a cA H1 hK hP hD hS => ?_)
        rw [sub1 n1, sub1 n2]
        have hex := ex_app ads [a]
        have e1 : gS (pN M q.2.2.1 n.toNatClampNeg n.toNatClampNeg) (gN M) = q.2.2.1 := by show (if gN M = gN M then _ else _ : Nat × Nat).1 = _; rw [if_pos rfl]
        refine mm_done (M := pN M q.2.2.1 n.toNatClampNeg n.toNatClampNeg) (ads := ads ++ [a]) (tys := tys ++ [(cA, .object (mm_E q.2.2.1))]) kk (ex_trans he hex) (pw_new hpw (fun k x h => by rw [List.getElem?_append_left (List.getElem?_eq_some_iff.mp h).1]; exact h) (Or.inr (Or.inr (Or.inr ?_)))) hP hK hD hS (lr_ext hex hl) ⟨⟨a, by rw [← hpw.1]; simp, rfl⟩, sr_ext hex hst⟩ hln
        refine ⟨by rw [e1]; exact hso, cA, tys.length, fun _ => none, ?_, by rw [e1]; simp, fun j hj => ?_⟩
        · show _ = Sum.inl (cA, (if gN M = gN M then _ else _ : Nat × Nat).2, _); rw [if_pos rfl]
        · show vr vf b adK adV _ (if gN M = gN M then _ else _) _; rw [if_pos rfl, if_neg (by omega)]; rfl
      · cases h
    · cases h
  · cases h
/-- the pool's rows of the JDK's own -/
theorem ntv_of {mm idx : Nat} {q : Nat × Nat × Nat × Nat} (h : mm_ntv mm idx = some q) : Cond.methodLink (mm_c (mm_cl mm)) idx (if q.2.2.1 = 0 then objectInit else if q.2.2.1 = 1 then arraycopyName else if q.2.2.1 = 2 then Lib.Math.abs.name else Lib.Math.min.name) ∈ mm_ws := by
  obtain ⟨h1, h2⟩ := mm_find_in h
  simp only [Bool.and_eq_true, beq_iff_eq] at h2
  have h3 := mm_wa_in (List.all_eq_true.mp mm_okn_all q h1)
  rw [h2.1, h2.2] at h3
  exact h3
theorem cpy_W {n0 z0 d mm idx : Nat} {cc : ByteArray} {ads0 : List Nat} {pc pc' : Nat} {ls st ls' st' : List Value} {M M' : mm_H} (hvf : vf = .null ∨ ∃ t, vf = .ref t) (h : mm_cpy d mm idx pc ls st M = some (pc', ls', st', M')) (hx : p.tables.exec = Jvm.exec) (hb : c.code = cc) (hts : ∀ w ∈ mm_ws, w.before args s = true) (hown : s.vm.findClass (mm_c (mm_cl mm)) = some m.cls) (hr : d ≤ R.frames ∧ 80 * d ≤ R.locals) (hdg : decode cc pc = .ok (.invokestatic idx, 3))
    (kk : mm_kk base adK adV vf b D p l e R s m args below meth c Q n0 z0 ads0 pc' ls' st' M') : mm_kk base adK adV vf b D p l e R s m args below meth c Q n0 z0 ads0 pc ls st M := by
  unfold mm_cpy at h
  split at h
  · next n dp o1 sp o0 r =>
    split at h
    · next q hq =>
      split at h
      · next hs =>
        obtain ⟨hq1, hd, ha, hbb, hn, hsp, hdp, h4, h5, hcs⟩ := hs
        cases h
        have hlk := ntv_of hq
        rw [if_neg (by omega), if_pos hq1] at hlk
        intro ads ws tys lsr rs H locs he ⟨hpw, hP, hK, hD, hS, hl, hst, hln⟩
        obtain ⟨k_, e_, hst⟩ := sr_i hst
        rw [e_]
        obtain ⟨k_, e_, hst⟩ := sr_i hst
        rw [e_]
        obtain ⟨a1, k_, e_, ha1, hst⟩ := sr_r hst
        rw [e_]
        obtain ⟨k_, e_, hst⟩ := sr_i hst
        rw [e_]
        obtain ⟨a0, k_, e_, ha0, hst⟩ := sr_r hst
        rw [e_]
        obtain ⟨hlt1, e1, hw1, hc1⟩ := pw_at hpw ha1
        obtain ⟨hlt0, e0, hw0, hc0⟩ := pw_at hpw ha0
        obtain ⟨cA1, t1, g1, rfl, ht1, hg1⟩ := cr_ia hc1 hbb
        obtain ⟨cA0, t0, g0, rfl, ht0, hg0⟩ := cr_ia hc0 ha
        have nn : ∀ z : Int32, 0 ≤ z → ¬ z < 0 := fun z h q => absurd h (Int32.not_le.mpr q)
        obtain ⟨_, _, _, jw4, jw5, jw6, _⟩ := mm_jw
        have hm : c.maxLocals = lsr.size := by
          obtain ⟨lv, q1, -⟩ := hl
          rw [q1.1]; exact hln.symm
        refine va_copyi hx hb hm hown (hts _ hlk) (hts _ (mm_wa_in jw5)) (hts _ (mm_wa_in jw6)) (hts _ (mm_wa_in jw4)) hK hP hD hS o0 o1 t0 t1 hw0 hw1 ht0 ht1 rfl (nn _ hsp) (nn _ hdp) (nn _ hn) h4 h5 (fun i hi => rfl) (by omega)
          (by rw [sr_cs (fun v r => vr_cat hvf) hst]; have : nativeFrameWords "java/lang/System" "arraycopy" 5 ≤ 40 := by decide +kernel
              omega) hdg (fun H1 locs1 hP hD hS => mm_done (M := pC M o0 sp.toNatClampNeg o1 dp.toNatClampNeg n.toNatClampNeg) kk he (pw_set hpw ha1 rfl rfl (fun y hy => ⟨fun j => ?_, fun j => rfl⟩) (Or.inr (Or.inl ⟨hbb, cA1, t1, _, rfl, ht1, fun j hj => ?_⟩))) hP hK hD hS hl hst hln)
        · show (if y = o1 ∧ _ then _ else _) = _; rw [if_neg (fun z => hy z.1)]; rfl
        · show va_cpy g0 g1 _ _ _ j = (if o1 = o1 ∧ _ then _ else _)
          unfold va_cpy
          by_cases hj2 : dp.toNatClampNeg ≤ j ∧ j < dp.toNatClampNeg + n.toNatClampNeg
          · rw [if_pos hj2, if_pos ⟨rfl, hj2⟩]
            exact hg0 _ (by omega)
          · rw [if_neg hj2, if_neg (fun z => hj2 z.2)]
            exact hg1 _ hj
      · cases h
    · cases h
  · cases h
theorem mat_W {n0 z0 nf zf d mm idx : Nat} {cc : ByteArray} {ads0 : List Nat} {pc pc' : Nat} {ls st ls' st' : List Value} {M M' : mm_H} (hvf : vf = .null ∨ ∃ t, vf = .ref t) (h : mm_mat d mm idx pc ls st M = some (pc', ls', st', M')) (hx : p.tables.exec = Jvm.exec) (hb : c.code = cc) (hts : ∀ w ∈ mm_ws, w.before args s = true) (hown : s.vm.findClass (mm_c (mm_cl mm)) = some m.cls) (hr : d ≤ R.frames ∧ 80 * d ≤ R.locals) (hn : gN M' ≤ nf ∧ gZ M' ≤ zf ∧ nf - n0 ≤ R.cells ∧ zf - z0 ≤ R.slots) (hdg : decode cc pc = .ok (.invokestatic idx, 3))
    (kk : mm_kk base adK adV vf b D p l e R s m args below meth c Q n0 z0 ads0 pc' ls' st' M') : mm_kk base adK adV vf b D p l e R s m args below meth c Q n0 z0 ads0 pc ls st M := by
  have h0 := h
  unfold mm_mat at h
  split at h
  · next q hq =>
    have hlk := ntv_of hq
    obtain ⟨jw1, jw2, jw3, _⟩ := mm_jw
    obtain ⟨jc1, jc2, _⟩ := mm_jc
    split at h
    · next hc =>
      split at h
      · split at h
        · next hcs =>
          cases h
          rw [if_neg (by omega), if_neg (by omega), if_pos hc.1] at hlk
          intro ads ws tys lsr rs H locs he ⟨hpw, hP, hK, hD, hS, hl, hst, hln⟩
          obtain ⟨k_, e_, hst⟩ := sr_i hst
          rw [e_]
          have hm : c.maxLocals = lsr.size := by
            obtain ⟨lv, q1, -⟩ := hl
            rw [q1.1]; exact hln.symm
          exact va_mabs hx hb hm hown (hts _ hlk) (hts _ (mm_wa_in jw1)) (hts _ (mm_wa_in jw3)) (hts _ (mm_wa_in jc1)) (by omega) (by rw [sr_cs (fun v r => vr_cat hvf) hst]; omega) (by omega) (by omega) hdg (mm_done kk he hpw hP hK hD hS hl ⟨rfl, hst⟩ hln)
        · cases h
      · cases h
    · split at h
      · next hc =>
        split at h
        · split at h
          · next hcs =>
            cases h
            rw [if_neg (by omega), if_neg (by omega), if_neg (by omega)] at hlk
            intro ads ws tys lsr rs H locs he ⟨hpw, hP, hK, hD, hS, hl, hst, hln⟩
            obtain ⟨k_, e_, hst⟩ := sr_i hst
            rw [e_]
            obtain ⟨k_, e_, hst⟩ := sr_i hst
            rw [e_]
            have hm : c.maxLocals = lsr.size := by
              obtain ⟨lv, q1, -⟩ := hl
              rw [q1.1]; exact hln.symm
            exact va_mmin hx hb hm hown (hts _ hlk) (hts _ (mm_wa_in jw2)) (hts _ (mm_wa_in jw3)) (hts _ (mm_wa_in jc2)) (by omega) (by rw [sr_cs (fun v r => vr_cat hvf) hst]; omega) (by omega) (by omega) hdg (mm_done kk he hpw hP hK hD hS hl ⟨rfl, hst⟩ hln)
          · cases h
        · cases h
      · exact cpy_W hvf h hx hb hts hown hr hdg kk
  · cases h
theorem obj_W {n0 z0 d mm idx : Nat} {cc : ByteArray} {ads0 : List Nat} {pc pc' : Nat} {ls st ls' st' : List Value} {M M' : mm_H} (hvf : vf = .null ∨ ∃ t, vf = .ref t) (hr : d ≤ R.frames ∧ 80 * d ≤ R.locals) (h : mm_obj d mm idx pc ls st M = some (pc', ls', st', M')) (hx : p.tables.exec = Jvm.exec) (hb : c.code = cc) (hts : ∀ w ∈ mm_ws, w.before args s = true) (hown : s.vm.findClass (mm_c (mm_cl mm)) = some m.cls) (hdg : decode cc pc = .ok (.invokespecial idx, 3))
    (kk : mm_kk base adK adV vf b D p l e R s m args below meth c Q n0 z0 ads0 pc' ls' st' M') : mm_kk base adK adV vf b D p l e R s m args below meth c Q n0 z0 ads0 pc ls st M := by
  unfold mm_obj at h
  split at h
  · split at h
    · next q hq =>
      split at h
      · next hq0 =>
        cases h
        have hlk := ntv_of hq
        rw [if_pos hq0.1] at hlk
        intro ads ws tys lsr rs H locs he ⟨hpw, hP, hK, hD, hS, hl, hst, hln⟩
        obtain ⟨a, k_, e_, ha, hst⟩ := sr_r hst
        rw [e_]
        obtain ⟨_, _, _, _, _, _, jw7⟩ := mm_jw
        have hm : c.maxLocals = lsr.size := by
          obtain ⟨lv, q1, -⟩ := hl
          rw [q1.1]; exact hln.symm
        refine W.objInit hx hb hown (hts _ hlk) (hts _ (mm_wa_in jw7)) (hts _ (mm_wa_in mm_jc.2.2)) rfl hm.symm rfl hdg (by omega) (by rw [sr_cs (fun v r => vr_cat hvf) hst]; show 2 * 0 + _ + _ ≤ _; omega) ?_
        exact mm_done kk he hpw hP hK hD hS hl hst hln
      · cases h
    · cases h
  · cases h
end SNN
