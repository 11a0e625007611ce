/-! CALLS, AND WHOLE RUNS -/
section SNC
variable {base : Nat} {adK adV : Nat → Nat} {vf : Value} {b L : Nat} {xs : Nat → Int32} {D : va_G} {l : Launch}
theorem mm_chin (k : Nat) : ∀ w ∈ mm_ch k, w ∈ lw_tbl := by
  intro w hw
  have h : w ∈ tables_1 := by
    unfold tables_1
    simp only [List.mem_append]
    unfold mm_ch at hw
    split at hw
    · exact Or.inl hw
    · exact Or.inr (Or.inl hw)
    · exact Or.inr (Or.inr (Or.inl hw))
    · exact Or.inr (Or.inr (Or.inr (Or.inl hw)))
    · exact Or.inr (Or.inr (Or.inr (Or.inr (Or.inl hw))))
    · exact Or.inr (Or.inr (Or.inr (Or.inr (Or.inr hw))))
  exact List.mem_append_right _ h
theorem mm_meth {m : Nat} {q : mm_MT} (hq : mm_tab[m]? = some q) (hl : m ≠ mm_law) : Cond.code q.1 q.2.1 q.2.2.1 q.2.2.2.1 ∈ mm_ws ∧ Cond.initialized q.1.cls ∈ mm_ws ∧ (if q.2.2.2.2.2.2 = 1 then Cond.static q.1 else Cond.instanceMethod q.1) ∈ mm_ws ∧ (q.2.2.2.2.2.2 = 0 → Cond.selects q.1.cls q.1 q.1 ∈ mm_ws) ∧ plainName q.1.cls = true ∧ mm_c q.2.2.2.2.1 = q.1.cls ∧
    (parseMethodDescriptor q.1.desc).map (fun d => d.parameters.length) = some q.2.2.2.2.2.1 ∧ q.1.cls ≠ "java/lang/invoke/MethodHandle" ∧ q.1.cls ≠ "java/lang/invoke/VarHandle" ∧ q.2.2.1 ≤ 40 ∧ (q.2.2.2.2.2.2 = 2 → q.1.name = "<init>" ∧ q.2.2.2.1 = none) := by
  have hlen := mm_src_len
  have hm : m < (mm_src.map mm_get).length := by
    have h1 := (List.getElem?_eq_some_iff.mp hq).1
    unfold mm_tab at h1
    rw [List.length_append] at h1
    simp only [List.length_map, List.length_cons, List.length_nil] at h1 ⊢
    omega
  unfold mm_tab at hq
  rw [List.getElem?_append_left hm] at hq
  rw [List.getElem?_map] at hq
  cases hs : mm_src[m]? with
  | none => rw [hs] at hq; cases hq
  | some s =>
    rw [hs] at hq
    have hq : mm_get s = q := Option.some.inj hq
    have hok := mm_okm_all s (List.mem_of_getElem? hs)
    have hcode : q.2.2.2.2.2.2 ≤ 2 → Cond.code q.1 q.2.1 q.2.2.1 q.2.2.2.1 ∈ mm_ws := by
      intro hk
      unfold mm_get at hq
      split at hq
      · next y b n r hc =>
        subst hq
        exact List.mem_filter.mpr ⟨mm_chin _ _ (List.mem_of_getElem? hc), rfl⟩
      · subst hq
        exact absurd hk (by decide)
    unfold mm_okm at hok
    rw [hq] at hok
    obtain ⟨y, cc, n, r, c, np, kd⟩ := q
    simp only [Bool.and_eq_true, Bool.or_eq_true, decide_eq_true_eq, bne_iff_ne] at hok
    obtain ⟨⟨h1, h2, h3, h4, h5, h6, h7, h8, h9, h10⟩, h11⟩ := hok
    refine ⟨hcode h11, mm_wa_in h1, mm_wa_in h2, fun hk => ?_, h4, h5, h6, h7, h8, h9, fun hk => ?_⟩
    · rcases h3 with h3 | h3
      · exact absurd hk h3
      · exact mm_wa_in h3
    · rcases h10 with h10 | h10
      · exact absurd hk h10
      · exact h10
theorem mm_ctf_of {mm idx : Nat} {q : Nat × Nat × Nat × Bool × Nat} (h : mm_ctf mm idx = some q) {r : mm_MT} (hr : mm_tab[q.2.2.1]? = some r) :
    if q.2.2.2.1 = true then Cond.methodLinkNest (mm_c (mm_cl mm)) idx r.1 "MendedWithTheWord" ∈ lw_tbl else Cond.methodLink (mm_c (mm_cl mm)) idx r.1 ∈ mm_ws := by
  obtain ⟨h1, h2⟩ := mm_find_in h
  simp only [Bool.and_eq_true, beq_iff_eq] at h2
  have h3 := mm_okc_all q h1
  unfold mm_okc at h3
  rw [hr] at h3
  dsimp only at h3
  rw [h2.1, h2.2] at h3
  split
  · next hn => rw [if_pos hn] at h3; exact List.mem_of_getElem? (of_decide_eq_true h3)
  · next hn => rw [if_neg hn] at h3; exact mm_wa_in h3
theorem mm_good : ∀ w ∈ mm_ws, w ∈ mm_ws ∧ ((w.onTables && w.keeps) = true ∨ ∃ ty, w = .arrayClass ty) := fun w hw => ⟨hw, good_of_word (List.mem_filter.mp hw).2⟩
theorem mm_goodc {y : MethodName} {cc : ByteArray} {n : Nat} {r : Option FieldType} (h : Cond.code y cc n r ∈ mm_ws) : GoodIn mm_ws (.code y cc n r :: mm_ws) := fun w hw => by
  rcases List.mem_cons.mp hw with rfl | hw
  · exact mm_good _ h
  · exact mm_good w hw
abbrev mm_S : Type := List Nat × va_W × List (ClassId × FieldType)
def mm_Pc (base : Nat) (adK adV : Nat → Nat) (vf : Value) (b L : Nat) (xs : Nat → Int32) (D : va_G) (ras : List Value) (ws : va_W) (tys : List (ClassId × FieldType)) : Array Value → State → Prop :=
  va_Pc ras (fun U => sw_W base adK adV vf b L xs U U.heap ∧ va_P D vwCl ws U.heap ∧ va_K D vwCl tys U ∧ va_D (fun q => base ≤ q) ws)
def mm_B (base : Nat) (D : va_G) (u : mm_S) (t : State) : Prop := va_P D vwCl u.2.1 t.heap ∧ va_K D vwCl u.2.2 t ∧ va_D (fun q => base ≤ q) u.2.1
def mm_po (adK adV : Nat → Nat) (vf : Value) (b : Nat) (ads : List Nat) (M : mm_H) (u : mm_S) : Prop := ex_t ads u.1 ∧ pw (vr vf b adK adV u.1) u.1 u.2.1 u.2.2 M
def mm_Qc (base : Nat) (adK adV : Nat → Nat) (vf : Value) (b : Nat) (D : va_G) (ads : List Nat) (M : mm_H) (r : Option Value) : Array Value → State → Outcome → State → Prop := match r with
  | none => va_Qv (mm_po adK adV vf b ads M) (mm_B base D) (fun q => base ≤ q)
  | some (.int x) => va_Qi (fun r u => r = x ∧ mm_po adK adV vf b ads M u) (mm_B base D) (fun q => base ≤ q)
  | some (.long x) => va_Ql (fun r u => r = x ∧ mm_po adK adV vf b ads M u) (mm_B base D) (fun q => base ≤ q)
  | some v => va_Qq (fun r u => vr vf b adK adV u.1 v (va_rf r) ∧ mm_po adK adV vf b ads M u) (mm_B base D) (fun q => base ≤ q)
/-- what a method's body is asked: for every caller -/
def mm_all (base : Nat) (adK adV : Nat → Nat) (vf : Value) (b L : Nat) (xs : Nat → Int32) (D : va_G) (l : Launch) (d mm pc : Nat) (ls st : List Value) (M : mm_H) (r : Option Value) (M' : mm_H) : Prop :=
  ∀ (p : Program) (e : Env) (R : Room) (s : State) (m : MethodId) (args : Array Value) (below : List Frame) (meth : Method) (c : Code) (Q : State → Prop) (n0 z0 nf zf : Nat) (ads0 : List Nat), mm_cx base adK adV vf b L xs p R s m args meth c d mm n0 z0 nf zf → n0 ≤ gN M → z0 ≤ gZ M → gN M' ≤ nf → gZ M' ≤ zf →
    (∀ (pc : Nat) (i : Instr) (len : Nat) (ls' st' : List Value), mm_I mm pc = some (i, len) → mm_len i len = true → mm_ret mm i st' = some r → mm_kk base adK adV vf b D p l e R s m args below meth c Q n0 z0 ads0 pc ls' st' M') →
    mm_kk base adK adV vf b D p l e R s m args below meth c Q n0 z0 ads0 pc ls st M
theorem vr_nodouble (ads : List Nat) : ∀ x r, ¬ vr vf b adK adV ads (.double x) r := fun _ _ h => h
/-- a method of the list by its contract -/
theorem mm_met {d mm : Nat} {q : mm_MT} {as l0 ras : List Value} {M M' : mm_H} {r : Option Value} {ads : List Nat} {ws : va_W} {tys : List (ClassId × FieldType)} (hq : mm_tab[mm]? = some q) (hl : mm ≠ mm_law) (he : mm_ent mm as = some l0) (hall : mm_all base adK adV vf b L xs D l d mm 0 l0 [] M r M') (hmo : gN M ≤ gN M' ∧ gZ M ≤ gZ M')
    (hpw : pw (vr vf b adK adV ads) ads ws tys M) (har : sr (vr vf b adK adV ads) as ras) (hvf : vf = .null ∨ ∃ t, vf = .ref t) :
    Met l q.1 (.code q.1 q.2.1 q.2.2.1 q.2.2.2.1 :: mm_ws) { frames := d, cells := gN M' - gN M, slots := gZ M' - gZ M, locals := 80 * d } (mm_Pc base adK adV vf b L xs D ras ws tys) (mm_Qc base adK adV vf b D ads M' r) (gN M' - gN M) (gZ M' - gZ M) (fun q => base ≤ q) := by
  obtain ⟨w1, w2, w3, w4, w5, w6, w7, w8, w9, w10, w11⟩ := mm_meth hq hl
  refine Met.ofW (cc := q.2.1) (maxL := q.2.2.1) (ret := q.2.2.2.1) w5 rfl ?_
  intro p e s m args below meth c s₁ B hml hv
  obtain ⟨rfl, hW, hP, hK, hD⟩ := hv
  have hx := B.exec
  have hb := B.bytes
  have hr := B.returns
  have hts := atoms_spec (ws := .code q.1 q.2.1 q.2.2.1 q.2.2.2.1 :: mm_ws) B.pre
  have hown : s.vm.findClass q.1.cls = some m.cls := findClass_of_methodNamed B.named
  have hcl : mm_c (mm_cl mm) = q.1.cls := by unfold mm_cl; rw [hq]; exact w6
  have hname : meth.name = q.1.name := (name_of_methodNamed B.named B.method).1
  rw [lg_entry_eq]
  have hle : (mm_ex as).length ≤ q.2.2.1 ∧ l0 = mm_ex as ++ List.replicate (q.2.2.1 - (mm_ex as).length) mm_U := by
    unfold mm_ent at he
    rw [hq] at he
    dsimp only at he
    split at he
    · next hc => exact ⟨hc, (Option.some.inj he).symm⟩
    · cases he
  obtain ⟨hle, rfl⟩ := hle
  have hlr := lr_entry (V := vr vf b adK adV ads) (fun v r => vr_cat hvf) (vr_nodouble ads) har hle
  have hlocks := B.notSynchronized
  have K := hall p e (headSpec (.code q.1 q.2.1 q.2.2.1 q.2.2.2.1 :: mm_ws) { frames := d, cells := gN M' - gN M, slots := gZ M' - gZ M, locals := 80 * d }).room s m ras.toArray below meth c (MQ below (mm_Qc base adK adV vf b D ads M' r) ras.toArray s (gN M' - gN M) (gZ M' - gZ M) (fun q => base ≤ q)) (gN M) (gZ M) (gN M') (gZ M') ads
    ⟨hx, ⟨q, hq, hb, hml⟩, by rw [hcl]; exact hown, fun w hw => hts w (List.mem_cons_of_mem _ hw), hW, fun hi => by
      rw [hname]
      unfold mm_ini at hi
      rw [hq] at hi
      exact (w11 (by simpa using hi)).1, Nat.le_refl d, Nat.le_refl (80 * d), Nat.le_refl _, Nat.le_refl _⟩ (Nat.le_refl _) (Nat.le_refl _) (Nat.le_refl _) (Nat.le_refl _) ?_
    ads ws tys _ [] s.heap [] (ex_refl ads) ⟨hpw, hP, hK, hD, va_S.rf, hlr, True.intro, by rw [hml]; simp; omega⟩
  · rw [Nat.sub_self, Nat.sub_self] at K
    exact K
  · intro pc i len ls' st' hI hlen hret ads' ws' tys' lsr rs H locs hex ⟨hpw, hP, hK, hD, hS, hl, hst, hln⟩
    have hdg := mm_I_of hI hq
    unfold mm_ret at hret
    rw [hq] at hret
    dsimp only at hret
    split at hret
    · split at hret
      · next hn =>
        cases hret
        simp only [mm_len, beq_iff_eq] at hlen
        subst hlen
        cases rs with
        | cons a k => exact hst.elim
        | nil => exact W.vret hx hb (hr.trans hn) (fun t ht hW => ⟨⟨(ads', ws', tys'), rfl, ⟨hex, hpw⟩, by rw [ht]; exact hP, va_K.moved hW.alike hK, hD⟩, hS.F ht⟩) hS.2.2 hdg
      · cases hret
    · split at hret
      · next ty hty =>
        split at hret
        · next hn =>
          cases hret
          simp only [mm_len, beq_iff_eq] at hlen
          subst hlen
          obtain ⟨k_, e_, hst⟩ := sr_i hst
          cases k_ with
          | cons a k => exact hst.elim
          | nil =>
            rw [e_]
            exact W.zret hx hb (hr.trans hty) hn.1 (fun t ht hW => ⟨⟨_, (ads', ws', tys'), rfl, ⟨rfl, hex, hpw⟩, by rw [ht]; exact hP, va_K.moved hW.alike hK, hD⟩, hS.F ht⟩) hS.2.2 hdg
        · cases hret
      · cases hret
    · split at hret
      · next hn =>
        cases hret
        simp only [mm_len, beq_iff_eq] at hlen
        subst hlen
        obtain ⟨k_, e_, hst⟩ := sr_l hst
        cases k_ with
        | cons a k => exact hst.elim
        | nil =>
          rw [e_]
          exact W.lret hx hb (hr.trans hn) (fun t ht hW => ⟨⟨_, (ads', ws', tys'), rfl, ⟨rfl, hex, hpw⟩, by rw [ht]; exact hP, va_K.moved hW.alike hK, hD⟩, hS.F ht⟩) hS.2.2 hdg
      · cases hret
    · split at hret
      · next ty hty =>
        split at hret
        · next hn =>
          cases hret
          simp only [mm_len, beq_iff_eq] at hlen
          subst hlen
          obtain ⟨a, k_, e_, ha, hst⟩ := sr_r hst
          cases k_ with
          | cons a k => exact hst.elim
          | nil =>
            rw [e_]
            exact W.aret hx hb (hr.trans hty) (by cases ty <;> first | exact Or.inl ⟨_, rfl⟩ | exact Or.inr ⟨_, rfl⟩ | (exact absurd hn Bool.false_ne_true)) (Or.inr ⟨a, rfl⟩) (fun t ht hW => ⟨⟨some a, (ads', ws', tys'), rfl, ⟨⟨a, ha, rfl⟩, hex, hpw⟩, by rw [ht]; exact hP, va_K.moved hW.alike hK, hD⟩, hS.F ht⟩) hS.2.2 hdg
        · cases hret
      · cases hret
    · split at hret
      · next ty hty =>
        split at hret
        · next hn =>
          cases hret
          simp only [mm_len, beq_iff_eq] at hlen
          subst hlen
          obtain ⟨k_, e_, hst⟩ := sr_n hst
          cases k_ with
          | cons a k => exact hst.elim
          | nil =>
            rw [e_]
            exact W.aret hx hb (hr.trans hty) (by cases ty <;> first | exact Or.inl ⟨_, rfl⟩ | exact Or.inr ⟨_, rfl⟩ | (exact absurd hn Bool.false_ne_true)) (Or.inl rfl) (fun t ht hW => ⟨⟨none, (ads', ws', tys'), rfl, ⟨rfl, hex, hpw⟩, by rw [ht]; exact hP, va_K.moved hW.alike hK, hD⟩, hS.F ht⟩) hS.2.2 hdg
        · cases hret
      · cases hret
    · cases hret
end SNC
