/-! A RUN OF THE SMALL MACHINE IS A RUN OF THE MACHINE -/
section SNR
variable {base : Nat} {adK adV : Nat → Nat} {vf : Value} {b L : Nat} {xs : Nat → Int32} {D : va_G}
variable {p : Program} {l : Launch} {e : Env} {R : Room} {s : State} {m : MethodId} {args : Array Value} {below : List Frame} {meth : Method} {c : Code} {Q : State → Prop}
theorem mm_len1 {i : Instr} {len n : Nat} (h : mm_len i len = true) (hi : mm_len i n = true) (hj : ∀ a b : Nat, mm_len i a = true → mm_len i b = true → a = b) : len = n := hj _ _ h hi
theorem step_W {n0 z0 nf zf d mm pc len : Nat} {i : Instr} {ads0 : List Nat} {pc' : Nat} {ls st ls' st' : List Value} {M M' : mm_H} (hcx : mm_cx base adK adV vf b L xs p R s m args meth c d mm n0 z0 nf zf) (hI : mm_I mm pc = some (i, len)) (hlen : mm_len i len = true) (h : mm_step L xs d mm pc i ls st M = some (pc', ls', st', M'))
    (hn : n0 ≤ gN M ∧ z0 ≤ gZ M ∧ gN M' ≤ nf ∧ gZ M' ≤ zf) (kk : mm_kk base adK adV vf b D p l e R s m args below meth c Q n0 z0 ads0 pc' ls' st' M') : mm_kk base adK adV vf b D p l e R s m args below meth c Q n0 z0 ads0 pc ls st M := by
  obtain ⟨hx, ⟨q, hq, hb, hml⟩, hown, hts, hW, hini, hr1, hr2, hr3, hr4⟩ := hcx
  have hdg := mm_I_of hI hq
  have hvf : vf = .null ∨ ∃ t, vf = .ref t := hW.2.2.2.2.2.2.2.2.2.2
  have hbs : base ≤ s.heap.size := hW.2.2.2.2.2.2.2.2.2.1
  have hn6 : n0 ≤ gN M ∧ z0 ≤ gZ M ∧ gN M' ≤ nf ∧ gZ M' ≤ zf ∧ nf - n0 ≤ R.cells ∧ zf - z0 ≤ R.slots := ⟨hn.1, hn.2.1, hn.2.2.1, hn.2.2.2, hr3, hr4⟩
  cases i
  case iconst n => cases h; simp only [mm_len, beq_iff_eq] at hlen; subst hlen; refine push_W ?_ (fun lsr rest H locs cells slots k => lv_iconst hx hb hdg rfl k) kk; exact fun _ => rfl
  case bipush n => cases h; simp only [mm_len, beq_iff_eq] at hlen; subst hlen; refine push_W ?_ (fun lsr rest H locs cells slots k => lv_bipush hx hb hdg rfl k) kk; exact fun _ => rfl
  case sipush n => cases h; simp only [mm_len, beq_iff_eq] at hlen; subst hlen; refine push_W ?_ (fun lsr rest H locs cells slots k => lv_sipush hx hb hdg rfl k) kk; exact fun _ => rfl
  case lconst n => cases h; simp only [mm_len, beq_iff_eq] at hlen; subst hlen; refine push_W ?_ (fun lsr rest H locs cells slots k => lv_lconst hx hb hdg rfl k) kk; exact fun _ => rfl
  case aconst_null => cases h; simp only [mm_len, beq_iff_eq] at hlen; subst hlen; refine push_W ?_ (fun lsr rest H locs cells slots k => lv_null hx hb hdg k) kk; exact fun _ => rfl
  case iload_n n => simp only [mm_len, beq_iff_eq] at hlen; subst hlen; exact ldI_W h (fun x lsr rest H locs cells slots q k => lv_iload_n hx hb hdg rfl q k) kk
  case iload n => simp only [mm_len, beq_iff_eq] at hlen; subst hlen; exact ldI_W h (fun x lsr rest H locs cells slots q k => lv_iload hx hb hdg q k) kk
  case lload_n n => simp only [mm_len, beq_iff_eq] at hlen; subst hlen; exact ldL_W h (fun x lsr rest H locs cells slots q k => lv_lload_n hx hb hdg rfl q k) kk
  case lload n => simp only [mm_len, beq_iff_eq] at hlen; subst hlen; exact ldL_W h (fun x lsr rest H locs cells slots q k => lv_lload hx hb hdg q k) kk
  case aload_n n => simp only [mm_len, beq_iff_eq] at hlen; subst hlen; exact ldA_W hvf h (fun x lsr rest H locs cells slots q k => lv_aload_n hx hb hdg rfl q k) (fun lsr rest H locs cells slots q k => lv_aload_nN hx hb hdg rfl q k) kk
  case aload n => simp only [mm_len, beq_iff_eq] at hlen; subst hlen; exact ldA_W hvf h (fun x lsr rest H locs cells slots q k => lv_aload hx hb hdg q k) (fun lsr rest H locs cells slots q k => lv_aloadN hx hb hdg q k) kk
  case istore_n n => simp only [mm_len, beq_iff_eq] at hlen; subst hlen; exact stI_W hvf h (fun x nL lv lsr rest H locs cells slots q q2 k => lv_istore_n hx hb hdg rfl q q2 rfl k) kk
  case istore n => simp only [mm_len, beq_iff_eq] at hlen; subst hlen; exact stI_W hvf h (fun x nL lv lsr rest H locs cells slots q q2 k => lv_istore hx hb hdg q q2 rfl k) kk
  case lstore_n n => simp only [mm_len, beq_iff_eq] at hlen; subst hlen; exact stL_W hvf h (fun x nL lv lsr rest H locs cells slots q q2 k => lv_lstore_n hx hb hdg rfl q q2 rfl k) kk
  case lstore n => simp only [mm_len, beq_iff_eq] at hlen; subst hlen; exact stL_W hvf h (fun x nL lv lsr rest H locs cells slots q q2 k => lv_lstore hx hb hdg q q2 rfl k) kk
  case astore_n n => simp only [mm_len, beq_iff_eq] at hlen; subst hlen; exact stA_W hvf h (fun x nL lv lsr rest H locs cells slots q q2 k => lv_astore_n hx hb hdg rfl q q2 rfl k) (fun nL lv lsr rest H locs cells slots q q2 k => lv_astore_nN hx hb hdg rfl q q2 rfl k) kk
  case astore n => simp only [mm_len, beq_iff_eq] at hlen; subst hlen; exact stA_W hvf h (fun x nL lv lsr rest H locs cells slots q q2 k => lv_astore hx hb hdg q q2 rfl k) (fun nL lv lsr rest H locs cells slots q q2 k => lv_astoreN hx hb hdg q q2 rfl k) kk
  case iinc k n =>
    simp only [mm_len, beq_iff_eq] at hlen; subst hlen
    unfold mm_step at h
    dsimp only at h
    split at h
    · next x hxk =>
      split at h
      · next l1 hp =>
        cases h
        intro ads ws tys lsr rs H locs he ⟨hpw, hP, hK, hD, hS, ⟨lv, hl1, hl2⟩, hst, hln⟩
        obtain ⟨r, g1, g2⟩ := hl2 k _ hxk (by intro z; cases z)
        cases g1
        obtain ⟨j, hj⟩ := List.getElem?_of_mem g2
        have hz := mm_put_len hp
        exact lv_iinc hx hb hdg hl1 hj rfl hz.1 rfl (fun lsr' z => mm_done kk he hpw hP hK hD hS (lr_put (fun v r => vr_cat hvf) hp rfl hl2 z) hst (by rw [hz.2]; exact hln))
      · cases h
    · cases h
  case iadd => simp only [mm_len, beq_iff_eq] at hlen; subst hlen; exact bin_W h (fun x y lsr rest H locs cells slots k => lv_iadd hx hb hdg k) kk
  case isub => simp only [mm_len, beq_iff_eq] at hlen; subst hlen; exact bin_W h (fun x y lsr rest H locs cells slots k => lv_isub hx hb hdg k) kk
  case imul => simp only [mm_len, beq_iff_eq] at hlen; subst hlen; exact bin_W h (fun x y lsr rest H locs cells slots k => lv_imul hx hb hdg k) kk
  case iand => simp only [mm_len, beq_iff_eq] at hlen; subst hlen; exact bin_W h (fun x y lsr rest H locs cells slots k => lv_iand hx hb hdg k) kk
  case ior => simp only [mm_len, beq_iff_eq] at hlen; subst hlen; exact bin_W h (fun x y lsr rest H locs cells slots k => lv_ior hx hb hdg k) kk
  case ixor => simp only [mm_len, beq_iff_eq] at hlen; subst hlen; exact bin_W h (fun x y lsr rest H locs cells slots k => lv_ixor hx hb hdg k) kk
  case ishl => simp only [mm_len, beq_iff_eq] at hlen; subst hlen; exact bin_W h (fun x y lsr rest H locs cells slots k => lv_ishl hx hb hdg k) kk
  case ishr => simp only [mm_len, beq_iff_eq] at hlen; subst hlen; exact bin_W h (fun x y lsr rest H locs cells slots k => lv_ishr hx hb hdg k) kk
  case iushr => simp only [mm_len, beq_iff_eq] at hlen; subst hlen; exact bin_W h (fun x y lsr rest H locs cells slots k => lv_iushr hx hb hdg rfl k) kk
  case idiv => simp only [mm_len, beq_iff_eq] at hlen; subst hlen; exact div_W h (fun x y lsr rest H locs cells slots z k => lv_idiv hx hb hdg z k) kk
  case irem => simp only [mm_len, beq_iff_eq] at hlen; subst hlen; exact div_W h (fun x y lsr rest H locs cells slots z k => lv_irem hx hb hdg z k) kk
  case ineg => simp only [mm_len, beq_iff_eq] at hlen; subst hlen; exact un_W h (fun _ _ => rfl) (fun x lsr rest H locs cells slots k => lv_ineg hx hb hdg k) kk
  case i2l => simp only [mm_len, beq_iff_eq] at hlen; subst hlen; exact un_W h (fun _ _ => rfl) (fun x lsr rest H locs cells slots k => lv_i2l hx hb hdg rfl k) kk
  case i2b => simp only [mm_len, beq_iff_eq] at hlen; subst hlen; exact un_W h (fun _ _ => rfl) (fun x lsr rest H locs cells slots k => lv_i2b hx hb hdg rfl k) kk
  case i2s => simp only [mm_len, beq_iff_eq] at hlen; subst hlen; exact un_W h (fun _ _ => rfl) (fun x lsr rest H locs cells slots k => lv_i2s hx hb hdg rfl k) kk
  case i2c => simp only [mm_len, beq_iff_eq] at hlen; subst hlen; exact un_W h (fun _ _ => rfl) (fun x lsr rest H locs cells slots k => lv_i2c hx hb hdg rfl k) kk
  case l2i =>
    simp only [mm_len, beq_iff_eq] at hlen; subst hlen
    unfold mm_step at h
    dsimp only at h
    split at h
    · cases h
      intro ads ws tys lsr rs H locs he ⟨hpw, hP, hK, hD, hS, hl, hst, hln⟩
      obtain ⟨k_, e_, hst⟩ := sr_l hst
      rw [e_]
      exact lv_l2i hx hb hdg rfl (mm_done kk he hpw hP hK hD hS hl ⟨rfl, hst⟩ hln)
    · cases h
  case ladd => simp only [mm_len, beq_iff_eq] at hlen; subst hlen; exact binL_W h (fun x y lsr rest H locs cells slots k => lv_ladd hx hb hdg k) kk
  case lsub => simp only [mm_len, beq_iff_eq] at hlen; subst hlen; exact binL_W h (fun x y lsr rest H locs cells slots k => lv_lsub hx hb hdg k) kk
  case lmul => simp only [mm_len, beq_iff_eq] at hlen; subst hlen; exact binL_W h (fun x y lsr rest H locs cells slots k => lv_lmul hx hb hdg k) kk
  case ldiv => simp only [mm_len, beq_iff_eq] at hlen; subst hlen; exact divL_W h (fun x y lsr rest H locs cells slots z k => lv_ldiv hx hb hdg z k) kk
  case lrem => simp only [mm_len, beq_iff_eq] at hlen; subst hlen; exact divL_W h (fun x y lsr rest H locs cells slots z k => lv_lrem hx hb hdg z k) kk
  case lcmp =>
    simp only [mm_len, beq_iff_eq] at hlen; subst hlen
    unfold mm_step at h
    dsimp only at h
    split at h
    · cases h
      intro ads ws tys lsr rs H locs he ⟨hpw, hP, hK, hD, hS, hl, hst, hln⟩
      obtain ⟨k_, e_, hst⟩ := sr_l hst
      rw [e_]
      obtain ⟨k_, e_, hst⟩ := sr_l hst
      rw [e_]
      exact W.lcmp hx hb hdg (mm_done kk he hpw hP hK hD hS hl ⟨rfl, hst⟩ hln)
    · cases h
  case dup =>
    simp only [mm_len, beq_iff_eq] at hlen; subst hlen
    unfold mm_step at h
    dsimp only at h
    split at h
    · split at h
      · next hc =>
        cases h
        intro ads ws tys lsr rs H locs he ⟨hpw, hP, hK, hD, hS, hl, hst, hln⟩
        obtain ⟨r, k_, e_, hv, hst⟩ := sr_v hst
        rw [e_]
        exact lv_dup hx hb hdg (by rw [vr_cat hvf hv]; exact hc) (mm_done kk he hpw hP hK hD hS hl ⟨hv, hv, hst⟩ hln)
      · cases h
    · cases h
  case dup_x1 =>
    simp only [mm_len, beq_iff_eq] at hlen; subst hlen
    unfold mm_step at h
    dsimp only at h
    split at h
    · split at h
      · next hc =>
        cases h
        intro ads ws tys lsr rs H locs he ⟨hpw, hP, hK, hD, hS, hl, hst, hln⟩
        obtain ⟨r, k_, e_, hv, hst⟩ := sr_v hst
        rw [e_]
        obtain ⟨r2, k_, e_, hv2, hst⟩ := sr_v hst
        rw [e_]
        exact lv_dup_x1 hx hb hdg (by rw [vr_cat hvf hv]; exact hc.1) (by rw [vr_cat hvf hv2]; exact hc.2) (mm_done kk he hpw hP hK hD hS hl ⟨hv, hv2, hv, hst⟩ hln)
      · cases h
    · cases h
  case pop =>
    simp only [mm_len, beq_iff_eq] at hlen; subst hlen
    unfold mm_step at h
    dsimp only at h
    split at h
    · split at h
      · next hc =>
        cases h
        intro ads ws tys lsr rs H locs he ⟨hpw, hP, hK, hD, hS, hl, hst, hln⟩
        obtain ⟨r, k_, e_, hv, hst⟩ := sr_v hst
        rw [e_]
        exact lv_pop hx hb hdg (by rw [vr_cat hvf hv]; exact hc) (mm_done kk he hpw hP hK hD hS hl hst hln)
      · cases h
    · cases h
  case pop2 =>
    simp only [mm_len, beq_iff_eq] at hlen; subst hlen
    unfold mm_step at h
    dsimp only at h
    split at h
    · split at h
      · next hc =>
        cases h
        intro ads ws tys lsr rs H locs he ⟨hpw, hP, hK, hD, hS, hl, hst, hln⟩
        obtain ⟨r, k_, e_, hv, hst⟩ := sr_v hst
        rw [e_]
        exact lv_pop2_2 hx hb hdg (by rw [vr_cat hvf hv]; exact hc) (mm_done kk he hpw hP hK hD hS hl hst hln)
      · cases h
    · cases h
  case ifCond cnd off =>
    simp only [mm_len, beq_iff_eq] at hlen; subst hlen
    unfold mm_step at h
    dsimp only at h
    split at h
    · next x r =>
      unfold mm_br at h
      split at h
      · next t ht =>
        have ht := br_at ht
        cases h
        intro ads ws tys lsr rs H locs he ⟨hpw, hP, hK, hD, hS, hl, hst, hln⟩
        obtain ⟨k_, e_, hst⟩ := sr_i hst
        rw [e_]
        have kw := mm_done kk he hpw hP hK hD hS hl hst hln
        cases cnd
        · exact lv_if_eq hx hb hdg ht (fun z => by rw [if_pos (by simp [mm_cond, z])] at kw; exact kw) (fun z => by rw [if_neg (by simp [mm_cond, z])] at kw; exact kw)
        · exact lv_if_ne hx hb hdg ht (fun z => by rw [if_pos (by simp [mm_cond, z])] at kw; exact kw) (fun z => by rw [if_neg (by simp [mm_cond, z])] at kw; exact kw)
        · exact lv_if_lt hx hb hdg ht (fun z => by rw [if_pos (by simp only [mm_cond, decide_eq_true_eq]; exact z)] at kw; exact kw) (fun z => by rw [if_neg (by simp only [mm_cond, decide_eq_true_eq]; exact z)] at kw; exact kw)
        · exact lv_if_ge hx hb hdg ht (fun z => by rw [if_pos (by simp only [mm_cond, decide_eq_true_eq]; exact z)] at kw; exact kw) (fun z => by rw [if_neg (by simp only [mm_cond, decide_eq_true_eq]; exact z)] at kw; exact kw)
        · exact lv_if_gt hx hb hdg ht (fun z => by rw [if_pos (by simp only [mm_cond, decide_eq_true_eq]; exact z)] at kw; exact kw) (fun z => by rw [if_neg (by simp only [mm_cond, decide_eq_true_eq]; exact z)] at kw; exact kw)
        · exact lv_if_le hx hb hdg ht (fun z => by rw [if_pos (by simp only [mm_cond, decide_eq_true_eq]; exact z)] at kw; exact kw) (fun z => by rw [if_neg (by simp only [mm_cond, decide_eq_true_eq]; exact z)] at kw; exact kw)
      · cases h
    · cases h
  case if_icmp cnd off =>
    simp only [mm_len, beq_iff_eq] at hlen; subst hlen
    unfold mm_step at h
    dsimp only at h
    split at h
    · next y x r =>
      unfold mm_br at h
      split at h
      · next t ht =>
        have ht := br_at ht
        cases h
        intro ads ws tys lsr rs H locs he ⟨hpw, hP, hK, hD, hS, hl, hst, hln⟩
        obtain ⟨k_, e_, hst⟩ := sr_i hst
        rw [e_]
        obtain ⟨k_, e_, hst⟩ := sr_i hst
        rw [e_]
        have kw := mm_done kk he hpw hP hK hD hS hl hst hln
        cases cnd
        · exact lv_icmp_eq hx hb hdg ht (fun z => by rw [if_pos (by simp [mm_cond, z])] at kw; exact kw) (fun z => by rw [if_neg (by simp [mm_cond, z])] at kw; exact kw)
        · exact lv_icmp_ne hx hb hdg ht (fun z => by rw [if_pos (by simp [mm_cond, z])] at kw; exact kw) (fun z => by rw [if_neg (by simp [mm_cond, z])] at kw; exact kw)
        · exact lv_icmp_lt hx hb hdg ht (fun z => by rw [if_pos (by simp only [mm_cond, decide_eq_true_eq]; exact z)] at kw; exact kw) (fun z => by rw [if_neg (by simp only [mm_cond, decide_eq_true_eq]; exact z)] at kw; exact kw)
        · exact lv_icmp_ge hx hb hdg ht (fun z => by rw [if_pos (by simp only [mm_cond, decide_eq_true_eq]; exact z)] at kw; exact kw) (fun z => by rw [if_neg (by simp only [mm_cond, decide_eq_true_eq]; exact z)] at kw; exact kw)
        · exact lv_icmp_gt hx hb hdg ht (fun z => by rw [if_pos (by simp only [mm_cond, decide_eq_true_eq]; exact z)] at kw; exact kw) (fun z => by rw [if_neg (by simp only [mm_cond, decide_eq_true_eq]; exact z)] at kw; exact kw)
        · exact lv_icmp_le hx hb hdg ht (fun z => by rw [if_pos (by simp only [mm_cond, decide_eq_true_eq]; exact z)] at kw; exact kw) (fun z => by rw [if_neg (by simp only [mm_cond, decide_eq_true_eq]; exact z)] at kw; exact kw)
      · cases h
    · cases h
  case ifnull off =>
    simp only [mm_len, beq_iff_eq] at hlen; subst hlen
    unfold mm_step at h
    dsimp only at h
    split at h
    · unfold mm_br at h
      split at h
      · next t ht =>
        have ht := br_at ht
        cases h
        intro ads ws tys lsr rs H locs he ⟨hpw, hP, hK, hD, hS, hl, hst, hln⟩
        obtain ⟨k_, e_, hst⟩ := sr_n hst
        rw [e_]
        exact lv_ifnullN hx hb hdg ht (mm_done kk he hpw hP hK hD hS hl hst hln)
      · cases h
    · unfold mm_br at h
      split at h
      · cases h
        intro ads ws tys lsr rs H locs he ⟨hpw, hP, hK, hD, hS, hl, hst, hln⟩
        obtain ⟨_, k_, e_, _, hst⟩ := sr_r hst
        rw [e_]
        exact lv_ifnull hx hb hdg (mm_done kk he hpw hP hK hD hS hl hst hln)
      · cases h
    · cases h
  case ifnonnull off =>
    simp only [mm_len, beq_iff_eq] at hlen; subst hlen
    unfold mm_step at h
    dsimp only at h
    split at h
    · unfold mm_br at h
      split at h
      · cases h
        intro ads ws tys lsr rs H locs he ⟨hpw, hP, hK, hD, hS, hl, hst, hln⟩
        obtain ⟨k_, e_, hst⟩ := sr_n hst
        rw [e_]
        exact lv_ifnonnullN hx hb hdg (mm_done kk he hpw hP hK hD hS hl hst hln)
      · cases h
    · unfold mm_br at h
      split at h
      · next t ht =>
        have ht := br_at ht
        cases h
        intro ads ws tys lsr rs H locs he ⟨hpw, hP, hK, hD, hS, hl, hst, hln⟩
        obtain ⟨_, k_, e_, _, hst⟩ := sr_r hst
        rw [e_]
        exact lv_ifnonnull hx hb hdg ht (mm_done kk he hpw hP hK hD hS hl hst hln)
      · cases h
    · cases h
  case goto off =>
    simp only [mm_len, beq_iff_eq] at hlen; subst hlen
    unfold mm_step at h
    dsimp only at h
    unfold mm_br at h
    split at h
    · next t ht =>
      have ht := br_at ht
      cases h
      intro ads ws tys lsr rs H locs he ⟨hpw, hP, hK, hD, hS, hl, hst, hln⟩
      exact lv_goto hx hb hdg ht (mm_done kk he hpw hP hK hD hS hl hst hln)
    · cases h
  case tableswitch df lo hi offs =>
    unfold mm_step at h
    dsimp only at h
    split at h
    · next x r =>
      split at h
      · next ho =>
        unfold mm_br at h
        split at h
        · next t ht =>
          have ht := br_at ht
          cases h
          intro ads ws tys lsr rs H locs he ⟨hpw, hP, hK, hD, hS, hl, hst, hln⟩
          obtain ⟨k_, e_, hst⟩ := sr_i hst
          rw [e_]
          exact lv_tableOut hx hb hdg ho ht (mm_done kk he hpw hP hK hD hS hl hst hln)
        · cases h
      · next ho =>
        split at h
        · next off hof =>
          unfold mm_br at h
          split at h
          · next t ht =>
            have ht := br_at ht
            cases h
            intro ads ws tys lsr rs H locs he ⟨hpw, hP, hK, hD, hS, hl, hst, hln⟩
            obtain ⟨k_, e_, hst⟩ := sr_i hst
            rw [e_]
            exact lv_tableIn hx hb hdg (fun z => ho (Or.inl z)) (fun z => ho (Or.inr z)) hof ht (mm_done kk he hpw hP hK hD hS hl hst hln)
          · cases h
        · cases h
    · cases h
  case lookupswitch df ps =>
    unfold mm_step at h
    dsimp only at h
    split at h
    · next x r =>
      split at h
      · next ho =>
        unfold mm_br at h
        split at h
        · next t ht =>
          have ht := br_at ht
          cases h
          intro ads ws tys lsr rs H locs he ⟨hpw, hP, hK, hD, hS, hl, hst, hln⟩
          obtain ⟨k_, e_, hst⟩ := sr_i hst
          rw [e_]
          exact lv_lookup hx hb hdg ho rfl ht (mm_done kk he hpw hP hK hD hS hl hst hln)
        · cases h
      · cases h
    · cases h
  case getfield idx => simp only [mm_len, beq_iff_eq] at hlen; subst hlen; exact gf_W h hx hb hts hown hW hdg kk
  case putfield idx => simp only [mm_len, beq_iff_eq] at hlen; subst hlen; exact pf_W h hx hb hts hown hW hini hdg kk
  case getstatic idx => simp only [mm_len, beq_iff_eq] at hlen; subst hlen; exact gs_W h hx hb hts hown hW hdg kk
  case iaload => simp only [mm_len, beq_iff_eq] at hlen; subst hlen; exact ial_W h hx hb hW hdg kk
  case baload => simp only [mm_len, beq_iff_eq] at hlen; subst hlen; exact bal_W h hx hb hW hdg kk
  case aaload => simp only [mm_len, beq_iff_eq] at hlen; subst hlen; exact aal_W h hx hb hdg kk
  case iastore => simp only [mm_len, beq_iff_eq] at hlen; subst hlen; exact ias_W h hx hb hdg kk
  case bastore => simp only [mm_len, beq_iff_eq] at hlen; subst hlen; exact bas_W h hx hb hdg kk
  case aastore => simp only [mm_len, beq_iff_eq] at hlen; subst hlen; exact aas_W h hx hb hdg kk
  case arraylength => simp only [mm_len, beq_iff_eq] at hlen; subst hlen; exact aln_W h hx hb hW hdg kk
  case new idx => simp only [mm_len, beq_iff_eq] at hlen; subst hlen; exact new_W h hx hb hts hown hbs hn6 hdg kk
  case newarray t => simp only [mm_len, beq_iff_eq] at hlen; subst hlen; exact nwa_W h hx hb hts hbs hn6 hdg kk
  case anewarray idx => simp only [mm_len, beq_iff_eq] at hlen; subst hlen; exact ana_W h hx hb hts hown hW hbs hn6 hdg kk
  case ldc idx =>
    simp only [mm_len, beq_iff_eq] at hlen; subst hlen
    unfold mm_step at h
    dsimp only at h
    split at h
    · next q hq =>
      cases h
      obtain ⟨h1, h2⟩ := mm_find_in hq
      simp only [Bool.and_eq_true, beq_iff_eq] at h2
      have h3 := mm_wa_in (List.all_eq_true.mp mm_okk_all q h1)
      rw [h2.1, h2.2] at h3
      refine push_W ?_ (fun lsr rest H locs cells slots k => lv_ldc hx hb hown (hts _ h3) hdg k) kk; exact fun _ => rfl
    · split at h
      · next q hq =>
        cases h
        obtain ⟨h1, h2⟩ := mm_find_in hq
        simp only [Bool.and_eq_true, beq_iff_eq] at h2
        have h3 := List.all_eq_true.mp mm_oks_all q h1
        simp only [Bool.and_eq_true, decide_eq_true_eq] at h3
        have hv := hW.2.2.2.2.2.2.1 q h1
        rw [h2.1, h2.2] at hv
        intro ads ws tys lsr rs H locs he ⟨hpw, hP, hK, hD, hS, hl, hst, hln⟩
        exact va_ldcS hx hb hown hv hdg (mm_done kk he hpw hP hK hD hS hl ⟨Or.inl ⟨h3.1, rfl⟩, hst⟩ hln)
      · cases h
  case ldc_w idx =>
    simp only [mm_len, beq_iff_eq] at hlen; subst hlen
    unfold mm_step at h
    dsimp only at h
    split at h
    · next q hq =>
      cases h
      obtain ⟨h1, h2⟩ := mm_find_in hq
      simp only [Bool.and_eq_true, beq_iff_eq] at h2
      have h3 := mm_wa_in (List.all_eq_true.mp mm_okk_all q h1)
      rw [h2.1, h2.2] at h3
      refine push_W ?_ (fun lsr rest H locs cells slots k => lv_ldcw hx hb hown (hts _ h3) hdg k) kk; exact fun _ => rfl
    · cases h
  case ldc2_w idx =>
    simp only [mm_len, beq_iff_eq] at hlen; subst hlen
    unfold mm_step at h
    dsimp only at h
    split at h
    · next q hq =>
      cases h
      obtain ⟨h1, h2⟩ := mm_find_in hq
      simp only [Bool.and_eq_true, beq_iff_eq] at h2
      have h3 := mm_wa_in (List.all_eq_true.mp mm_okl_all q h1)
      rw [h2.1, h2.2] at h3
      refine push_W ?_ (fun lsr rest H locs cells slots k => lv_ldc2 hx hb hown (hts _ h3) hdg k) kk; exact fun _ => rfl
    · cases h
  case invokestatic idx => simp only [mm_len, beq_iff_eq] at hlen; subst hlen; exact mat_W hvf h hx hb hts hown ⟨hr1, hr2⟩ ⟨hn.2.2.1, hn.2.2.2, hr3, hr4⟩ hdg kk
  case invokespecial idx => simp only [mm_len, beq_iff_eq] at hlen; subst hlen; exact obj_W hvf ⟨hr1, hr2⟩ h hx hb hts hown hdg kk
  all_goals exact absurd h (by intro z; cases z)
end SNR
