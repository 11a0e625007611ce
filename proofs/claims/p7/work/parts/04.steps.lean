/-! ONE STEP OF THE SMALL MACHINE IS ONE STEP OF THE MACHINE -/
section SND
variable {base : Nat} {adK adV : Nat → Nat} {vf : Value} {b L : Nat} {xs : Nat → Int32} {D : va_G}
variable {p : Program} {l : Launch} {e : Env} {R : Room} {s : State} {m : MethodId} {args : Array Value} {below : List Frame} {meth : Method} {c : Code} {Q : State → Prop}
def mm_rel (base : Nat) (adK adV : Nat → Nat) (vf : Value) (b : Nat) (D : va_G) (s : State) (nL : Nat) (ads : List Nat) (ws : va_W) (tys : List (ClassId × FieldType)) (M : mm_H) (ls st : List Value) (lsr : Array Slot) (rs : List Value) (H : Heap) (locs : List Loc) : Prop :=
  pw (vr vf b adK adV ads) ads ws tys M ∧ va_P D vwCl ws H ∧ va_K D vwCl tys s ∧ va_D (fun q => base ≤ q) ws ∧ va_S (fun q => base ≤ q) s.heap H locs ∧ lr (vr vf b adK adV ads) ls lsr ∧ sr (vr vf b adK adV ads) st rs ∧ ls.length = nL
/-- from a state of the small machine on all goes well -/
def mm_kk (base : Nat) (adK adV : Nat → Nat) (vf : Value) (b : Nat) (D : va_G) (p : Program) (l : Launch) (e : Env) (R : Room) (s : State) (m : MethodId) (args : Array Value) (below : List Frame) (meth : Method) (c : Code) (Q : State → Prop) (n0 z0 : Nat) (ads0 : List Nat) (pc : Nat) (ls st : List Value) (M : mm_H) : Prop :=
  ∀ (ads : List Nat) (ws : va_W) (tys : List (ClassId × FieldType)) (lsr : Array Slot) (rs : List Value) (H : Heap) (locs : List Loc), ex_t ads0 ads → mm_rel base adK adV vf b D s c.maxLocals ads ws tys M ls st lsr rs H locs → W p l e R s m args below meth c H locs (gN M - n0) (gZ M - z0) Q (F0 m pc lsr rs)
/-- what is fixed in a method's body -/
def mm_cx (base : Nat) (adK adV : Nat → Nat) (vf : Value) (b L : Nat) (xs : Nat → Int32) (p : Program) (R : Room) (s : State) (m : MethodId) (args : Array Value) (meth : Method) (c : Code) (d mm n0 z0 nf zf : Nat) : Prop :=
  p.tables.exec = Jvm.exec ∧ (∃ q, mm_tab[mm]? = some q ∧ c.code = q.2.1 ∧ c.maxLocals = q.2.2.1) ∧ s.vm.findClass (mm_c (mm_cl mm)) = some m.cls ∧ (∀ w ∈ mm_ws, w.before args s = true) ∧ sw_W base adK adV vf b L xs s s.heap ∧ (mm_ini mm = true → meth.name = "<init>") ∧ d ≤ R.frames ∧ 80 * d ≤ R.locals ∧ nf - n0 ≤ R.cells ∧ zf - z0 ≤ R.slots
theorem sr_v {V : Value → Value → Prop} {v : Value} {t k : List Value} (h : sr V (v :: t) k) : ∃ r k', k = r :: k' ∧ V v r ∧ sr V t k' := by
  cases k with
  | nil => exact h.elim
  | cons r k' => exact ⟨r, k', rfl, h.1, h.2⟩
theorem sr_i {ads : List Nat} {x : Int32} {t k : List Value} (h : sr (vr vf b adK adV ads) (.int x :: t) k) : ∃ k', k = .int x :: k' ∧ sr (vr vf b adK adV ads) t k' := by
  obtain ⟨r, k', rfl, h1, h2⟩ := sr_v h
  cases h1
  exact ⟨k', rfl, h2⟩
theorem sr_l {ads : List Nat} {x : Int64} {t k : List Value} (h : sr (vr vf b adK adV ads) (.long x :: t) k) : ∃ k', k = .long x :: k' ∧ sr (vr vf b adK adV ads) t k' := by
  obtain ⟨r, k', rfl, h1, h2⟩ := sr_v h
  cases h1
  exact ⟨k', rfl, h2⟩
theorem sr_n {ads : List Nat} {t k : List Value} (h : sr (vr vf b adK adV ads) (.null :: t) k) : ∃ k', k = .null :: k' ∧ sr (vr vf b adK adV ads) t k' := by
  obtain ⟨r, k', rfl, h1, h2⟩ := sr_v h
  cases h1
  exact ⟨k', rfl, h2⟩
theorem sr_r {ads : List Nat} {x : Nat} {t k : List Value} (h : sr (vr vf b adK adV ads) (.ref x :: t) k) : ∃ a k', k = .ref a :: k' ∧ ads[x]? = some a ∧ sr (vr vf b adK adV ads) t k' := by
  obtain ⟨r, k', rfl, ⟨a, h1, rfl⟩, h2⟩ := sr_v h
  exact ⟨a, k', rfl, h1, h2⟩
theorem mm_I_of {mm pc : Nat} {i : Instr} {len : Nat} (h : mm_I mm pc = some (i, len)) {q : mm_MT} (hq : mm_tab[mm]? = some q) : decode q.2.1 pc = .ok (i, len) := by
  unfold mm_I at h
  rw [hq] at h
  dsimp only at h
  split at h
  · next r hr => rw [hr]; cases h; rfl
  · cases h
/-- the end of a step that leaves the world as it was -/
theorem mm_done {n0 z0 : Nat} {ads0 ads : List Nat} {ws : va_W} {tys : List (ClassId × FieldType)} {pc : Nat} {ls st : List Value} {M : mm_H} {lsr : Array Slot} {rs : List Value} {H : Heap} {locs : List Loc}
    (kk : mm_kk base adK adV vf b D p l e R s m args below meth c Q n0 z0 ads0 pc ls st M) (he : ex_t ads0 ads) (hpw : pw (vr vf b adK adV ads) ads ws tys M) (hP : va_P D vwCl ws H) (hK : va_K D vwCl tys s) (hD : va_D (fun q => base ≤ q) ws) (hS : va_S (fun q => base ≤ q) s.heap H locs) (hl : lr (vr vf b adK adV ads) ls lsr) (hst : sr (vr vf b adK adV ads) st rs) (hln : ls.length = c.maxLocals) : W p l e R s m args below meth c H locs (gN M - n0) (gZ M - z0) Q (F0 m pc lsr rs) := kk ads ws tys lsr rs H locs he ⟨hpw, hP, hK, hD, hS, hl, hst, hln⟩
theorem bin_W {n0 z0 : Nat} {ads0 : List Nat} {f : Int32 → Int32 → Int32} {pc pc' : Nat} {ls st ls' st' : List Value} {M M' : mm_H} (h : mm_bin f pc ls st M = some (pc', ls', st', M'))
    (row : ∀ (x y : Int32) (lsr : Array Slot) (rest : List Value) (H : Heap) (locs : List Loc) (cells slots : Nat), W p l e R s m args below meth c H locs cells slots Q (F0 m (pc + 1) lsr (.int (f x y) :: rest)) → W p l e R s m args below meth c H locs cells slots Q (F0 m pc lsr (.int y :: .int x :: rest)))
    (kk : mm_kk base adK adV vf b D p l e R s m args below meth c Q n0 z0 ads0 pc' ls' st' M') : mm_kk base adK adV vf b D p l e R s m args below meth c Q n0 z0 ads0 pc ls st M := by
  unfold mm_bin at h
  split at h
  · cases h
    intro ads ws tys lsr rs H locs he ⟨hpw, hP, hK, hD, hS, hl, hst, hln⟩
    obtain ⟨k_, e_, hst⟩ := sr_i hst
    rw [e_]
    obtain ⟨k_, e_, hst⟩ := sr_i hst
    rw [e_]
    exact row _ _ _ _ _ _ _ _ (mm_done kk he hpw hP hK hD hS hl ⟨rfl, hst⟩ hln)
  · cases h
theorem div_W {n0 z0 : Nat} {ads0 : List Nat} {f : Int32 → Int32 → Int32} {pc pc' : Nat} {ls st ls' st' : List Value} {M M' : mm_H} (h : mm_div f pc ls st M = some (pc', ls', st', M'))
    (row : ∀ (x y : Int32) (lsr : Array Slot) (rest : List Value) (H : Heap) (locs : List Loc) (cells slots : Nat), ¬ y = 0 → W p l e R s m args below meth c H locs cells slots Q (F0 m (pc + 1) lsr (.int (f x y) :: rest)) → W p l e R s m args below meth c H locs cells slots Q (F0 m pc lsr (.int y :: .int x :: rest)))
    (kk : mm_kk base adK adV vf b D p l e R s m args below meth c Q n0 z0 ads0 pc' ls' st' M') : mm_kk base adK adV vf b D p l e R s m args below meth c Q n0 z0 ads0 pc ls st M := by
  unfold mm_div at h
  split at h
  · split at h
    · cases h
    · next hy =>
      cases h
      intro ads ws tys lsr rs H locs he ⟨hpw, hP, hK, hD, hS, hl, hst, hln⟩
      obtain ⟨k_, e_, hst⟩ := sr_i hst
      rw [e_]
      obtain ⟨k_, e_, hst⟩ := sr_i hst
      rw [e_]
      exact row _ _ _ _ _ _ _ _ hy (mm_done kk he hpw hP hK hD hS hl ⟨rfl, hst⟩ hln)
  · cases h
theorem binL_W {n0 z0 : Nat} {ads0 : List Nat} {f : Int64 → Int64 → Int64} {pc pc' : Nat} {ls st ls' st' : List Value} {M M' : mm_H} (h : mm_binL f pc ls st M = some (pc', ls', st', M'))
    (row : ∀ (x y : Int64) (lsr : Array Slot) (rest : List Value) (H : Heap) (locs : List Loc) (cells slots : Nat), W p l e R s m args below meth c H locs cells slots Q (F0 m (pc + 1) lsr (.long (f x y) :: rest)) → W p l e R s m args below meth c H locs cells slots Q (F0 m pc lsr (.long y :: .long x :: rest)))
    (kk : mm_kk base adK adV vf b D p l e R s m args below meth c Q n0 z0 ads0 pc' ls' st' M') : mm_kk base adK adV vf b D p l e R s m args below meth c Q n0 z0 ads0 pc ls st M := by
  unfold mm_binL at h
  split at h
  · cases h
    intro ads ws tys lsr rs H locs he ⟨hpw, hP, hK, hD, hS, hl, hst, hln⟩
    obtain ⟨k_, e_, hst⟩ := sr_l hst
    rw [e_]
    obtain ⟨k_, e_, hst⟩ := sr_l hst
    rw [e_]
    exact row _ _ _ _ _ _ _ _ (mm_done kk he hpw hP hK hD hS hl ⟨rfl, hst⟩ hln)
  · cases h
theorem divL_W {n0 z0 : Nat} {ads0 : List Nat} {f : Int64 → Int64 → Int64} {pc pc' : Nat} {ls st ls' st' : List Value} {M M' : mm_H} (h : mm_divL f pc ls st M = some (pc', ls', st', M'))
    (row : ∀ (x y : Int64) (lsr : Array Slot) (rest : List Value) (H : Heap) (locs : List Loc) (cells slots : Nat), ¬ y = 0 → W p l e R s m args below meth c H locs cells slots Q (F0 m (pc + 1) lsr (.long (f x y) :: rest)) → W p l e R s m args below meth c H locs cells slots Q (F0 m pc lsr (.long y :: .long x :: rest)))
    (kk : mm_kk base adK adV vf b D p l e R s m args below meth c Q n0 z0 ads0 pc' ls' st' M') : mm_kk base adK adV vf b D p l e R s m args below meth c Q n0 z0 ads0 pc ls st M := by
  unfold mm_divL at h
  split at h
  · split at h
    · cases h
    · next hy =>
      cases h
      intro ads ws tys lsr rs H locs he ⟨hpw, hP, hK, hD, hS, hl, hst, hln⟩
      obtain ⟨k_, e_, hst⟩ := sr_l hst
      rw [e_]
      obtain ⟨k_, e_, hst⟩ := sr_l hst
      rw [e_]
      exact row _ _ _ _ _ _ _ _ hy (mm_done kk he hpw hP hK hD hS hl ⟨rfl, hst⟩ hln)
  · cases h
theorem un_W {n0 z0 : Nat} {ads0 : List Nat} {f : Int32 → Value} {pc pc' : Nat} {ls st ls' st' : List Value} {M M' : mm_H} (h : mm_un f pc ls st M = some (pc', ls', st', M')) (hf : ∀ ads x, vr vf b adK adV ads (f x) (f x))
    (row : ∀ (x : Int32) (lsr : Array Slot) (rest : List Value) (H : Heap) (locs : List Loc) (cells slots : Nat), W p l e R s m args below meth c H locs cells slots Q (F0 m (pc + 1) lsr (f x :: rest)) → W p l e R s m args below meth c H locs cells slots Q (F0 m pc lsr (.int x :: rest)))
    (kk : mm_kk base adK adV vf b D p l e R s m args below meth c Q n0 z0 ads0 pc' ls' st' M') : mm_kk base adK adV vf b D p l e R s m args below meth c Q n0 z0 ads0 pc ls st M := by
  unfold mm_un at h
  split at h
  · cases h
    intro ads ws tys lsr rs H locs he ⟨hpw, hP, hK, hD, hS, hl, hst, hln⟩
    obtain ⟨k_, e_, hst⟩ := sr_i hst
    rw [e_]
    exact row _ _ _ _ _ _ _ (mm_done kk he hpw hP hK hD hS hl ⟨hf _ _, hst⟩ hln)
  · cases h
/-- pushing a number -/
theorem push_W {n0 z0 : Nat} {ads0 : List Nat} {v : Value} {pc pc' : Nat} {ls st : List Value} {M : mm_H} (hv : ∀ ads, vr vf b adK adV ads v v)
    (row : ∀ (lsr : Array Slot) (rest : List Value) (H : Heap) (locs : List Loc) (cells slots : Nat), W p l e R s m args below meth c H locs cells slots Q (F0 m pc' lsr (v :: rest)) → W p l e R s m args below meth c H locs cells slots Q (F0 m pc lsr rest))
    (kk : mm_kk base adK adV vf b D p l e R s m args below meth c Q n0 z0 ads0 pc' ls (v :: st) M) : mm_kk base adK adV vf b D p l e R s m args below meth c Q n0 z0 ads0 pc ls st M := by
  intro ads ws tys lsr rs H locs he ⟨hpw, hP, hK, hD, hS, hl, hst, hln⟩
  exact row _ _ _ _ _ _ (mm_done kk he hpw hP hK hD hS hl ⟨hv _, hst⟩ hln)
theorem ldI_W {n0 z0 : Nat} {ads0 : List Nat} {n k pc pc' : Nat} {ls st ls' st' : List Value} {M M' : mm_H} (h : mm_ldI n k pc ls st M = some (pc', ls', st', M'))
    (row : ∀ (x : Int32) (lsr : Array Slot) (rest : List Value) (H : Heap) (locs : List Loc) (cells slots : Nat), lsr[k]? = some (.val (.int x)) → W p l e R s m args below meth c H locs cells slots Q (F0 m (pc + n) lsr (.int x :: rest)) → W p l e R s m args below meth c H locs cells slots Q (F0 m pc lsr rest))
    (kk : mm_kk base adK adV vf b D p l e R s m args below meth c Q n0 z0 ads0 pc' ls' st' M') : mm_kk base adK adV vf b D p l e R s m args below meth c Q n0 z0 ads0 pc ls st M := by
  unfold mm_ldI at h
  split at h
  · next x hx =>
    cases h
    intro ads ws tys lsr rs H locs he ⟨hpw, hP, hK, hD, hS, hl, hst, hln⟩
    obtain ⟨r, h1, h2⟩ := lr_at hl hx (by intro q; cases q)
    cases h1
    exact row _ _ _ _ _ _ _ h2 (mm_done kk he hpw hP hK hD hS hl ⟨rfl, hst⟩ hln)
  · cases h
theorem ldL_W {n0 z0 : Nat} {ads0 : List Nat} {n k pc pc' : Nat} {ls st ls' st' : List Value} {M M' : mm_H} (h : mm_ldL n k pc ls st M = some (pc', ls', st', M'))
    (row : ∀ (x : Int64) (lsr : Array Slot) (rest : List Value) (H : Heap) (locs : List Loc) (cells slots : Nat), lsr[k]? = some (.val (.long x)) → W p l e R s m args below meth c H locs cells slots Q (F0 m (pc + n) lsr (.long x :: rest)) → W p l e R s m args below meth c H locs cells slots Q (F0 m pc lsr rest))
    (kk : mm_kk base adK adV vf b D p l e R s m args below meth c Q n0 z0 ads0 pc' ls' st' M') : mm_kk base adK adV vf b D p l e R s m args below meth c Q n0 z0 ads0 pc ls st M := by
  unfold mm_ldL at h
  split at h
  · next x hx =>
    cases h
    intro ads ws tys lsr rs H locs he ⟨hpw, hP, hK, hD, hS, hl, hst, hln⟩
    obtain ⟨r, h1, h2⟩ := lr_at hl hx (by intro q; cases q)
    cases h1
    exact row _ _ _ _ _ _ _ h2 (mm_done kk he hpw hP hK hD hS hl ⟨rfl, hst⟩ hln)
  · cases h
theorem ldA_W {n0 z0 : Nat} {ads0 : List Nat} {n k pc pc' : Nat} {ls st ls' st' : List Value} {M M' : mm_H} (hvf : vf = .null ∨ ∃ t, vf = .ref t) (h : mm_ldA n k pc ls st M = some (pc', ls', st', M'))
    (row : ∀ (x : Nat) (lsr : Array Slot) (rest : List Value) (H : Heap) (locs : List Loc) (cells slots : Nat), lsr[k]? = some (.val (.ref x)) → W p l e R s m args below meth c H locs cells slots Q (F0 m (pc + n) lsr (.ref x :: rest)) → W p l e R s m args below meth c H locs cells slots Q (F0 m pc lsr rest))
    (rowN : ∀ (lsr : Array Slot) (rest : List Value) (H : Heap) (locs : List Loc) (cells slots : Nat), lsr[k]? = some (.val .null) → W p l e R s m args below meth c H locs cells slots Q (F0 m (pc + n) lsr (.null :: rest)) → W p l e R s m args below meth c H locs cells slots Q (F0 m pc lsr rest))
    (kk : mm_kk base adK adV vf b D p l e R s m args below meth c Q n0 z0 ads0 pc' ls' st' M') : mm_kk base adK adV vf b D p l e R s m args below meth c Q n0 z0 ads0 pc ls st M := by
  unfold mm_ldA at h
  split at h
  · next x hx =>
    cases h
    intro ads ws tys lsr rs H locs he ⟨hpw, hP, hK, hD, hS, hl, hst, hln⟩
    obtain ⟨r, ⟨a, h1, rfl⟩, h2⟩ := lr_at hl hx (by intro q; cases q)
    exact row _ _ _ _ _ _ _ h2 (mm_done kk he hpw hP hK hD hS hl ⟨⟨a, h1, rfl⟩, hst⟩ hln)
  · next hx =>
    cases h
    intro ads ws tys lsr rs H locs he ⟨hpw, hP, hK, hD, hS, hl, hst, hln⟩
    obtain ⟨r, h1, h2⟩ := lr_at hl hx (by intro q; cases q)
    cases h1
    exact rowN _ _ _ _ _ _ h2 (mm_done kk he hpw hP hK hD hS hl ⟨rfl, hst⟩ hln)
  · next x hx =>
    cases h
    intro ads ws tys lsr rs H locs he ⟨hpw, hP, hK, hD, hS, hl, hst, hln⟩
    obtain ⟨r, h1, h2⟩ := lr_at hl hx (by intro q; cases q)
    have h3 : r = .null ∨ ∃ t, r = .ref t := by
      rcases h1 with ⟨_, q⟩ | ⟨_, _, q⟩ | ⟨_, q⟩ | ⟨_, q⟩
      · exact Or.inr ⟨_, q⟩
      · exact Or.inr ⟨_, q⟩
      · exact Or.inr ⟨_, q⟩
      · rw [q]; exact hvf
    rcases h3 with rfl | ⟨t, rfl⟩
    · exact rowN _ _ _ _ _ _ h2 (mm_done kk he hpw hP hK hD hS hl ⟨h1, hst⟩ hln)
    · exact row _ _ _ _ _ _ _ h2 (mm_done kk he hpw hP hK hD hS hl ⟨h1, hst⟩ hln)
  · cases h
theorem mm_put_len {ls l : List Value} {i : Nat} {v : Value} (h : mm_put ls i v = some l) : i < ls.length ∧ l.length = ls.length := by
  unfold mm_put at h
  split at h
  · next hc => cases h; exact ⟨hc.1, List.length_set⟩
  · cases h
theorem mm_put2_len {ls l : List Value} {i : Nat} {v : Value} (h : mm_put2 ls i v = some l) : i + 1 < ls.length ∧ l.length = ls.length := by
  unfold mm_put2 at h
  split at h
  · next hc => cases h; exact ⟨hc.1, by rw [List.length_set, List.length_set]⟩
  · cases h
theorem stI_W {n0 z0 : Nat} {ads0 : List Nat} {n k pc pc' : Nat} {ls st ls' st' : List Value} {M M' : mm_H} (hvf : vf = .null ∨ ∃ t, vf = .ref t) (h : mm_stI n k pc ls st M = some (pc', ls', st', M'))
    (row : ∀ (x : Int32) (nL : Nat) (lv : List (Nat × Value)) (lsr : Array Slot) (rest : List Value) (H : Heap) (locs : List Loc) (cells slots : Nat), lv_has lsr nL lv → k < nL → (∀ lsr', lv_has lsr' nL ((k, .int x) :: lv.filter (fun q => !(q.1 == k) && !(q.1 + 1 == k && q.2.category == 2))) → W p l e R s m args below meth c H locs cells slots Q (F0 m (pc + n) lsr' rest)) → W p l e R s m args below meth c H locs cells slots Q (F0 m pc lsr (.int x :: rest)))
    (kk : mm_kk base adK adV vf b D p l e R s m args below meth c Q n0 z0 ads0 pc' ls' st' M') : mm_kk base adK adV vf b D p l e R s m args below meth c Q n0 z0 ads0 pc ls st M := by
  unfold mm_stI at h
  split at h
  · split at h
    · next l1 hp =>
      cases h
      intro ads ws tys lsr rs H locs he ⟨hpw, hP, hK, hD, hS, ⟨lv, hl1, hl2⟩, hst, hln⟩
      obtain ⟨k_, e_, hst⟩ := sr_i hst
      rw [e_]
      have hz := mm_put_len hp
      exact row _ _ _ _ _ _ _ _ _ hl1 hz.1 (fun lsr' q => mm_done kk he hpw hP hK hD hS (lr_put (fun v r => vr_cat hvf) hp rfl hl2 q) hst (by rw [hz.2]; exact hln))
    · cases h
  · cases h
theorem stL_W {n0 z0 : Nat} {ads0 : List Nat} {n k pc pc' : Nat} {ls st ls' st' : List Value} {M M' : mm_H} (hvf : vf = .null ∨ ∃ t, vf = .ref t) (h : mm_stL n k pc ls st M = some (pc', ls', st', M'))
    (row : ∀ (x : Int64) (nL : Nat) (lv : List (Nat × Value)) (lsr : Array Slot) (rest : List Value) (H : Heap) (locs : List Loc) (cells slots : Nat), lv_has lsr nL lv → k + 1 < nL → (∀ lsr', lv_has lsr' nL ((k, .long x) :: lv.filter (fun q => !(q.1 == k) && (!(q.1 == k + 1) && !(q.1 + 1 == k && q.2.category == 2)))) → W p l e R s m args below meth c H locs cells slots Q (F0 m (pc + n) lsr' rest)) → W p l e R s m args below meth c H locs cells slots Q (F0 m pc lsr (.long x :: rest)))
    (kk : mm_kk base adK adV vf b D p l e R s m args below meth c Q n0 z0 ads0 pc' ls' st' M') : mm_kk base adK adV vf b D p l e R s m args below meth c Q n0 z0 ads0 pc ls st M := by
  unfold mm_stL at h
  split at h
  · split at h
    · next l1 hp =>
      cases h
      intro ads ws tys lsr rs H locs he ⟨hpw, hP, hK, hD, hS, ⟨lv, hl1, hl2⟩, hst, hln⟩
      obtain ⟨k_, e_, hst⟩ := sr_l hst
      rw [e_]
      have hz := mm_put2_len hp
      exact row _ _ _ _ _ _ _ _ _ hl1 hz.1 (fun lsr' q => mm_done kk he hpw hP hK hD hS (lr_put2 (fun v r => vr_cat hvf) hp rfl hl2 q) hst (by rw [hz.2]; exact hln))
    · cases h
  · cases h
theorem stA_W {n0 z0 : Nat} {ads0 : List Nat} {n k pc pc' : Nat} {ls st ls' st' : List Value} {M M' : mm_H} (hvf : vf = .null ∨ ∃ t, vf = .ref t) (h : mm_stA n k pc ls st M = some (pc', ls', st', M'))
    (row : ∀ (x : Nat) (nL : Nat) (lv : List (Nat × Value)) (lsr : Array Slot) (rest : List Value) (H : Heap) (locs : List Loc) (cells slots : Nat), lv_has lsr nL lv → k < nL → (∀ lsr', lv_has lsr' nL ((k, .ref x) :: lv.filter (fun q => !(q.1 == k) && !(q.1 + 1 == k && q.2.category == 2))) → W p l e R s m args below meth c H locs cells slots Q (F0 m (pc + n) lsr' rest)) → W p l e R s m args below meth c H locs cells slots Q (F0 m pc lsr (.ref x :: rest)))
    (rowN : ∀ (nL : Nat) (lv : List (Nat × Value)) (lsr : Array Slot) (rest : List Value) (H : Heap) (locs : List Loc) (cells slots : Nat), lv_has lsr nL lv → k < nL → (∀ lsr', lv_has lsr' nL ((k, .null) :: lv.filter (fun q => !(q.1 == k) && !(q.1 + 1 == k && q.2.category == 2))) → W p l e R s m args below meth c H locs cells slots Q (F0 m (pc + n) lsr' rest)) → W p l e R s m args below meth c H locs cells slots Q (F0 m pc lsr (.null :: rest)))
    (kk : mm_kk base adK adV vf b D p l e R s m args below meth c Q n0 z0 ads0 pc' ls' st' M') : mm_kk base adK adV vf b D p l e R s m args below meth c Q n0 z0 ads0 pc ls st M := by
  unfold mm_stA at h
  split at h
  · split at h
    · next l1 hp =>
      cases h
      intro ads ws tys lsr rs H locs he ⟨hpw, hP, hK, hD, hS, ⟨lv, hl1, hl2⟩, hst, hln⟩
      obtain ⟨a, k_, e_, ha, hst⟩ := sr_r hst
      rw [e_]
      have hz := mm_put_len hp
      exact row _ _ _ _ _ _ _ _ _ hl1 hz.1 (fun lsr' q => mm_done kk he hpw hP hK hD hS (lr_put (fun v r => vr_cat hvf) hp ⟨a, ha, rfl⟩ hl2 q) hst (by rw [hz.2]; exact hln))
    · cases h
  · split at h
    · next l1 hp =>
      cases h
      intro ads ws tys lsr rs H locs he ⟨hpw, hP, hK, hD, hS, ⟨lv, hl1, hl2⟩, hst, hln⟩
      obtain ⟨k_, e_, hst⟩ := sr_n hst
      rw [e_]
      have hz := mm_put_len hp
      exact rowN _ _ _ _ _ _ _ _ hl1 hz.1 (fun lsr' q => mm_done kk he hpw hP hK hD hS (lr_put (fun v r => vr_cat hvf) hp rfl hl2 q) hst (by rw [hz.2]; exact hln))
    · cases h
  · cases h
theorem br_at {pc t : Nat} {off : Int} (h : mm_at_ pc off = some t) : (pc : Int) + off = (t : Int) := by
  unfold mm_at_ at h
  split at h
  · next hc => cases h; omega
  · cases h
end SND
