/-! CALLS -/
section SNK
variable {base : Nat} {adK adV : Nat → Nat} {vf : Value} {b L : Nat} {xs : Nat → Int32} {D : va_G} {l : Launch}
variable {p : Program} {e : Env} {R : Room} {s : State} {m : MethodId} {args : Array Value} {below : List Frame} {meth : Method} {c : Code} {Q : State → Prop}
/-- behind a call -/
theorem back_W {n0 z0 pc : Nat} {ads0 ads : List Nat} {ls rest rr st0 : List Value} {M M1 : mm_H} {lsr : Array Slot} {H : Heap} {locs : List Loc} {r : Option Value} {a : Array Value}
    (hrun : va_Run p l e R s m args below meth c H locs (gN M - n0) (gZ M - z0) (gN M1 - gN M) (gZ M1 - gZ M) (F0 m pc lsr st0) rr (mm_Qc base adK adV vf b D ads M1 r a) (fun q => base ≤ q)) (hS : va_S (fun q => base ≤ q) s.heap H locs) (hl : lr (vr vf b adK adV ads) ls lsr) (hln : ls.length = c.maxLocals) (hst : sr (vr vf b adK adV ads) rest rr) (he : ex_t ads0 ads)
    (hn : n0 ≤ gN M ∧ z0 ≤ gZ M) (hmo : gN M ≤ gN M1 ∧ gZ M ≤ gZ M1) (kk : mm_kk base adK adV vf b D p l e R s m args below meth c Q n0 z0 ads0 (pc + 3) ls (r.toList ++ rest) M1) : W p l e R s m args below meth c H locs (gN M - n0) (gZ M - z0) Q (F0 m pc lsr st0) := by
  have e1 : gN M - n0 + (gN M1 - gN M) = gN M1 - n0 := by omega
  have e2 : gZ M - z0 + (gZ M1 - gZ M) = gZ M1 - z0 := by omega
  have fin : ∀ (u : mm_S) (t : State) (H1 : Heap) (locs1 : List Loc) (rs : List Value), t.heap = H1 → s.vm.Alike t.vm → mm_po adK adV vf b ads M1 u → mm_B base D u t → va_S (fun q => base ≤ q) s.heap H1 locs1 → sr (vr vf b adK adV u.1) (r.toList ++ rest) rs → W p l e R s m args below meth c H1 locs1 (gN M - n0 + (gN M1 - gN M)) (gZ M - z0 + (gZ M1 - gZ M)) Q (F0 m (pc + 3) lsr rs) := by
    intro u t H1 locs1 rs ht hvm hp hB hS hs
    rw [e1, e2]
    exact kk u.1 u.2.1 u.2.2 lsr rs H1 locs1 (ex_trans he hp.1) ⟨hp.2, by rw [← ht]; exact hB.1, va_K.moved hvm.symm hB.2.1, hB.2.2, hS, lr_ext hp.1 hl, hs, hln⟩
  cases r with
  | none => exact va_callv (S := mm_S) (a := a) hrun hS (fun q _ h => h) (fun q h => h) (fun u t H1 locs1 ht hvm hp hB hz hk hS => fin u t H1 locs1 _ ht hvm hp hB hS (sr_ext hp.1 hst))
  | some v =>
    cases v with
    | int x => exact va_calli (S := mm_S) (a := a) hrun hS (fun q _ h => h) (fun q h => h) (fun r u t H1 locs1 ht hvm hp hB hz hk hS => fin u t H1 locs1 _ ht hvm hp.2 hB hS ⟨by rw [hp.1]; rfl, sr_ext hp.2.1 hst⟩)
    | long x => exact va_calll (S := mm_S) (a := a) hrun hS (fun q _ h => h) (fun q h => h) (fun r u t H1 locs1 ht hvm hp hB hz hk hS => fin u t H1 locs1 _ ht hvm hp.2 hB hS ⟨by rw [hp.1]; rfl, sr_ext hp.2.1 hst⟩)
    | _ => exact va_callq (S := mm_S) (a := a) hrun hS (fun q _ h => h) (fun q h => h) (fun r u t H1 locs1 ht hvm hp hB hz hk hS => fin u t H1 locs1 _ ht hvm hp.2 hB hS ⟨hp.1, sr_ext hp.2.1 hst⟩)
theorem mm_Pc_blind {ras : List Value} {ws : va_W} {tys : List (ClassId × FieldType)} : FrameBlind (mm_Pc base adK adV vf b L xs D ras ws tys) := fun a U g mk q => by
  obtain ⟨q0, q1, q2, q3, q4⟩ := q
  exact ⟨q0, sw_same (u := U) (U := U.calling g mk a) rfl q1, q2, va_K.moved (u := U) (U := U.calling g mk a) (Vm.Alike.refl U.vm) q3, q4⟩
theorem mm_Pc_at {ras : List Value} {ws : va_W} {tys : List (ClassId × FieldType)} {H : Heap} {locs : List Loc} (hW : sw_W base adK adV vf b L xs s s.heap) (hS : va_S (fun q => base ≤ q) s.heap H locs) (hP : va_P D vwCl ws H) (hK : va_K D vwCl tys s) (hD : va_D (fun q => base ≤ q) ws) : ∀ U : State, U.heap = H → s.WarmedH U.vm → mm_Pc base adK adV vf b L xs D ras ws tys ras.toArray U := by
  intro U hU hwm
  refine ⟨rfl, ?_, by rw [hU]; exact hP, va_K.moved hwm.alike hK, hD⟩
  rw [hU]
  exact sw_warm hwm (Nat.le_trans hW.2.2.2.2.2.2.2.2.2.1 hS.1) hS.2.1 hW
theorem mm_split {np : Nat} {st : List Value} {v : Value} {rest : List Value} {rs : List Value} {V : Value → Value → Prop} (h : st.drop np = v :: rest) (hs : sr V st rs) : ∃ rv rr, rs = rs.take np ++ rv :: rr ∧ V v rv ∧ sr V rest rr ∧ sr V (st.take np) (rs.take np) := by
  have h1 := sr_drop np hs
  rw [h] at h1
  obtain ⟨rv, rr, e1, e2, e3⟩ := sr_v h1
  exact ⟨rv, rr, by rw [← e1, List.take_append_drop], e2, e3, sr_take np hs⟩
theorem call_W {d mm m' pc len n0 z0 nf zf : Nat} {i : Instr} {ads0 : List Nat} {ls st as rest l0 : List Value} {M M1 : mm_H} {r : Option Value} (hcx : mm_cx base adK adV vf b L xs p R s m args meth c (d + 1) mm n0 z0 nf zf) (hI : mm_I mm pc = some (i, len)) (hlen : mm_len i len = true) (h : mm_call mm i st M = some (m', as, rest)) (he0 : mm_ent m' as = some l0) (hall : mm_all base adK adV vf b L xs D l d m' 0 l0 [] M r M1)
    (hmo : gN M ≤ gN M1 ∧ gZ M ≤ gZ M1) (hn : n0 ≤ gN M ∧ z0 ≤ gZ M ∧ gN M1 ≤ nf ∧ gZ M1 ≤ zf) (kk : mm_kk base adK adV vf b D p l e R s m args below meth c Q n0 z0 ads0 (pc + 3) ls (r.toList ++ rest) M1) : mm_kk base adK adV vf b D p l e R s m args below meth c Q n0 z0 ads0 pc ls st M := by
  obtain ⟨hx, ⟨q0, hq0, hb, hml⟩, hown, hts, hW, hini, hr1, hr2, hr3, hr4⟩ := hcx
  have hdg := mm_I_of hI hq0
  have hvf : vf = .null ∨ ∃ t, vf = .ref t := hW.2.2.2.2.2.2.2.2.2.2
  have hcat : ∀ (ads : List Nat) (v r : Value), vr vf b adK adV ads v r → r.category = v.category := fun ads v r => vr_cat hvf
  unfold mm_call at h
  cases i
  case invokestatic idx =>
    simp only [mm_len, beq_iff_eq] at hlen
    subst hlen
    dsimp only at h
    split at h
    · next q hq =>
      split at h
      · next y hy =>
        split at h
        · next hc =>
          obtain ⟨hk, hnp, hcs, hlaw⟩ := hc
          cases h
          obtain ⟨w1, w2, w3, w4, w5, w6, w7, w8, w9, w10, w11⟩ := mm_meth hy hlaw
          rw [if_pos hk] at w3
          have hlk := mm_ctf_of hq hy
          intro ads ws tys lsr rs H locs he ⟨hpw, hP, hK, hD, hS, hl, hst, hln⟩
          have ha : sr (vr vf b adK adV ads) (st.take y.2.2.2.2.2.1).reverse (rs.take y.2.2.2.2.2.1).reverse := sr_rev (sr_take _ hst)
          have hM := mm_met (ras := (rs.take y.2.2.2.2.2.1).reverse) (ws := ws) (tys := tys) hy hlaw he0 hall hmo hpw ha hvf
          have hl9 : lsr.size = c.maxLocals := by obtain ⟨lv, z, -⟩ := hl; rw [z.1]; exact hln
          have hrl : rs.length = st.length := (sr_len hst).symm
          have hroom : d + 1 ≤ R.frames ∧ 8 + (y.2.2.1 + 11) + 80 * d ≤ R.locals := ⟨hr1, by omega⟩
          have hcs' : (((rs.drop y.2.2.2.2.2.1).map fun v => v.category).sum) ≤ 8 := by rw [sr_cs (hcat ads) (sr_drop _ hst)]; exact hcs
          split at hlk
          · have hnw := hW.2.2.2.1 _ hlk rfl
            exact back_W (va_runSN (As := (rs.take y.2.2.2.2.2.1).reverse) (rest := rs.drop y.2.2.2.2.2.1) ⟨hx, hb, rfl, hown, hts⟩ hM ⟨va_cnB y.2.2.2.2.2.1 hts (mm_goodc w1) rfl rfl rfl hnw (hts _ w2) ⟨w8, w9, w7⟩ hroom, hts _ w3, True.intro⟩ ⟨mm_Pc_blind, mm_Pc_at hW hS hP hK hD⟩ rfl (by simp; omega) hl9 (by simp) (lv_room hcs') hdg ⟨by show gN M - n0 + (gN M1 - gN M) ≤ _; omega, by show gZ M - z0 + (gZ M1 - gZ M) ≤ _; omega⟩) hS hl hln (sr_drop _ hst) he ⟨hn.1, hn.2.1⟩ hmo kk
          · exact back_W (va_runS (As := (rs.take y.2.2.2.2.2.1).reverse) (rest := rs.drop y.2.2.2.2.2.1) ⟨hx, hb, rfl, hown, hts⟩ hM (va_cwS y.2.2.2.2.2.1 hts (fun w hw => by
              unfold va_wsS at hw
              rcases List.mem_append.mp hw with hw | hw
              · simp only [List.mem_cons, List.not_mem_nil, or_false] at hw
                rcases hw with rfl | rfl | rfl
                · exact mm_good _ hlk
                · exact mm_good _ w3
                · exact mm_good _ w2
              · exact mm_goodc w1 w hw) rfl rfl rfl ⟨w8, w9, w7⟩ hroom) ⟨mm_Pc_blind, mm_Pc_at hW hS hP hK hD⟩ rfl (by simp; omega) hl9 (by simp) (lv_room hcs') hdg ⟨by show gN M - n0 + (gN M1 - gN M) ≤ _; omega, by show gZ M - z0 + (gZ M1 - gZ M) ≤ _; omega⟩) hS hl hln (sr_drop _ hst) he ⟨hn.1, hn.2.1⟩ hmo kk
        · cases h
      · cases h
    · cases h
  case invokevirtual idx =>
    simp only [mm_len, beq_iff_eq] at hlen
    subst hlen
    dsimp only at h
    split at h
    · next q hq =>
      split at h
      · next y hy =>
        split at h
        · next v rst hdr =>
          split at h
          · next hc =>
            obtain ⟨hk, hnp, hcs, hnest, hrcv, hlaw⟩ := hc
            cases h
            obtain ⟨w1, w2, w3, w4, w5, w6, w7, w8, w9, w10, w11⟩ := mm_meth hy hlaw
            rw [if_neg (by omega)] at w3
            have w4 := w4 hk
            have hlk := mm_ctf_of hq hy
            rw [if_neg (by rw [hnest]; decide)] at hlk
            intro ads ws tys lsr rs H locs he ⟨hpw, hP, hK, hD, hS, hl, hst, hln⟩
            obtain ⟨rv, rr, ers, hv, hrr, htk⟩ := mm_split hdr hst
            have hrec : ∃ a, rv = .ref a ∧ ∃ cellB : Cell, H[a]? = some cellB ∧ cellB.vm.isStatics = false ∧ s.vm.findClass y.1.cls = some cellB.cls := by
              cases v with
              | ref o =>
                obtain ⟨a, ha, rfl⟩ := hv
                refine ⟨a, rfl, ?_⟩
                obtain ⟨hlt, e1, hw, hcr⟩ := pw_at hpw ha
                unfold mm_rcv at hrcv
                simp only [beq_iff_eq] at hrcv
                have h7 : mm_ci y.2.2.2.2.1 < 7 ∧ mm_C (mm_ci y.2.2.2.2.1) = mm_c y.2.2.2.2.1 := by
                  have hall : ∀ k, k < 16 → mm_ci k < 7 → mm_C (mm_ci k) = mm_c k := by decide +kernel
                  have hlt7 : mm_ci y.2.2.2.2.1 < 7 := by
                    rcases hcr with ⟨z, _⟩ | ⟨z, _⟩ | ⟨z, _⟩ | ⟨z, _⟩
                    · rw [hrcv] at z; exact z
                    all_goals
                      exfalso
                      have hle : mm_ci y.2.2.2.2.1 ≤ 9 := by
                        unfold mm_ci
                        rw [List.getD_eq_getElem?_getD]
                        cases hz : ([5, 9, 0, 1, 2, 3, 9, 4, 6, 9, 9, 9, 9, 9, 9, 9] : List Nat)[y.2.2.2.2.1]? with
                        | none => exact Nat.le_refl 9
                        | some w =>
                          have := List.mem_of_getElem? hz
                          simp only [List.mem_cons, List.not_mem_nil, or_false] at this
                          simp only [Option.getD_some]
                          omega
                      omega
                  have hk16 : y.2.2.2.2.1 < 16 := by
                    rcases Nat.lt_or_ge y.2.2.2.2.1 16 with z | z
                    · exact z
                    · exfalso
                      have : mm_ci y.2.2.2.2.1 = 9 := by
                        unfold mm_ci
                        rw [List.getD_eq_getElem?_getD, List.getElem?_eq_none (by simpa using z)]
                        rfl
                      omega
                  exact ⟨hlt7, hall _ hk16 hlt7⟩
                obtain ⟨fs, rfl, -, -⟩ := cr_obj hcr hrcv h7.1
                have hrc := va_recv hK hP (mm_vc h7.1) hw
                rw [show (mm_C (mm_ci y.2.2.2.2.1), mm_T (mm_ci y.2.2.2.2.1), mm_nf (mm_ci y.2.2.2.2.1)).1 = y.1.cls from h7.2.trans w6] at hrc
                exact hrc
              | retAddr j =>
                unfold mm_rcv at hrcv
                simp only [Bool.and_eq_true, beq_iff_eq, decide_eq_true_eq] at hrcv
                have hr : rv = .ref (adK j) := by
                  rcases hv with ⟨_, z⟩ | ⟨z, _⟩ | ⟨z, _⟩ | ⟨z, _⟩
                  · exact z
                  all_goals omega
                refine ⟨_, hr, ?_⟩
                have hrc := vk_recv hW.1 hrcv.2 hS
                rw [hrcv.1] at w6
                rw [← w6]
                exact hrc
              | _ => exact absurd hrcv (by intro z; cases z)
            obtain ⟨a, rfl, hrec⟩ := hrec
            have ha : sr (vr vf b adK adV ads) (v :: (st.take y.2.2.2.2.2.1).reverse) (.ref a :: (rs.take y.2.2.2.2.2.1).reverse) := ⟨hv, sr_rev htk⟩
            have hM := mm_met (ras := .ref a :: (rs.take y.2.2.2.2.2.1).reverse) (ws := ws) (tys := tys) hy hlaw he0 hall hmo hpw ha hvf
            have hl9 : lsr.size = c.maxLocals := by obtain ⟨lv, z, -⟩ := hl; rw [z.1]; exact hln
            have hrl : rs.length = st.length := (sr_len hst).symm
            have hroom : d + 1 ≤ R.frames ∧ 8 + (y.2.2.1 + 11) + 80 * d ≤ R.locals := ⟨hr1, by omega⟩
            have hcs' : ((rr.map fun v => v.category).sum) ≤ 8 := by rw [sr_cs (hcat ads) hrr]; exact hcs
            exact back_W (va_runV (As := (rs.take y.2.2.2.2.2.1).reverse) (rest := rr) (C := y.1.cls) ⟨hx, hb, rfl, hown, hts⟩ hM (cwV y.2.2.2.2.2.1 hts (fun w hw => by
              unfold wsV at hw
              rcases List.mem_append.mp hw with hw | hw
              · simp only [List.mem_cons, List.not_mem_nil, or_false] at hw
                rcases hw with rfl | rfl | rfl | rfl
                · exact mm_good _ hlk
                · exact mm_good _ w3
                · exact mm_good _ w4
                · exact mm_good _ w2
              · exact mm_goodc w1 w hw) rfl rfl rfl ⟨rfl, w8, w9, w7⟩ hroom) ⟨mm_Pc_blind, hrec, mm_Pc_at hW hS hP hK hD⟩ rfl (by simp; omega) hl9 (by rw [List.reverse_reverse]; exact ers) (lv_room hcs') hdg ⟨by show gN M - n0 + (gN M1 - gN M) ≤ _; omega, by show gZ M - z0 + (gZ M1 - gZ M) ≤ _; omega⟩) hS hl hln hrr he ⟨hn.1, hn.2.1⟩ hmo kk
          · cases h
        · cases h
      · cases h
    · cases h
  case invokespecial idx =>
    simp only [mm_len, beq_iff_eq] at hlen
    subst hlen
    dsimp only at h
    split at h
    · next q hq =>
      split at h
      · next y hy =>
        split at h
        · next o rst hdr =>
          split at h
          · next hc =>
            obtain ⟨hk, hnp, hcs, hlaw⟩ := hc
            cases h
            obtain ⟨w1, w2, w3, w4, w5, w6, w7, w8, w9, w10, w11⟩ := mm_meth hy hlaw
            rw [if_neg (by omega)] at w3
            obtain ⟨w11, w12⟩ := w11 hk
            have hlk := mm_ctf_of hq hy
            intro ads ws tys lsr rs H locs he ⟨hpw, hP, hK, hD, hS, hl, hst, hln⟩
            obtain ⟨rv, rr, ers, hv, hrr, htk⟩ := mm_split hdr hst
            obtain ⟨a, ha1, rfl⟩ := hv
            have ha : sr (vr vf b adK adV ads) (.ref o :: (st.take y.2.2.2.2.2.1).reverse) (.ref a :: (rs.take y.2.2.2.2.2.1).reverse) := ⟨⟨a, ha1, rfl⟩, sr_rev htk⟩
            have hM := mm_met (ras := .ref a :: (rs.take y.2.2.2.2.2.1).reverse) (ws := ws) (tys := tys) hy hlaw he0 hall hmo hpw ha hvf
            rw [w12] at hM w1
            have hl9 : lsr.size = c.maxLocals := by obtain ⟨lv, z, -⟩ := hl; rw [z.1]; exact hln
            have hrl : rs.length = st.length := (sr_len hst).symm
            have hroom : d + 1 ≤ R.frames ∧ 8 + (y.2.2.1 + 11) + 80 * d ≤ R.locals := ⟨hr1, by omega⟩
            have hcs' : ((rr.map fun v => v.category).sum) ≤ 8 := by rw [sr_cs (hcat ads) hrr]; exact hcs
            split at hlk
            · have hnw := hW.2.2.2.1 _ hlk rfl
              exact back_W (va_runIN (As := (rs.take y.2.2.2.2.2.1).reverse) (rest := rr) ⟨hx, hb, rfl, hown, hts⟩ hM ⟨va_cnB y.2.2.2.2.2.1 hts (mm_goodc w1) rfl rfl rfl hnw (hts _ w2) ⟨w8, w9, w7⟩ hroom, w11, hts _ w3⟩ ⟨mm_Pc_blind, mm_Pc_at hW hS hP hK hD⟩ rfl (by simp; omega) hl9 (by rw [List.reverse_reverse]; exact ers) (lv_room hcs') hdg ⟨by show gN M - n0 + (gN M1 - gN M) ≤ _; omega, by show gZ M - z0 + (gZ M1 - gZ M) ≤ _; omega⟩) hS hl hln hrr he ⟨hn.1, hn.2.1⟩ hmo kk
            · exact back_W (va_runI (As := (rs.take y.2.2.2.2.2.1).reverse) (rest := rr) ⟨hx, hb, rfl, hown, hts⟩ hM (cwI y.2.2.2.2.2.1 hts (mm_goodc w1) rfl rfl rfl (hts _ w2) (hts _ hlk) (hts _ w3) w11 ⟨w8, w9, w7⟩ hroom) ⟨mm_Pc_blind, mm_Pc_at hW hS hP hK hD⟩ rfl (by simp; omega) hl9 (by rw [List.reverse_reverse]; exact ers) (lv_room hcs') hdg ⟨by show gN M - n0 + (gN M1 - gN M) ≤ _; omega, by show gZ M - z0 + (gZ M1 - gZ M) ≤ _; omega⟩) hS hl hln hrr he ⟨hn.1, hn.2.1⟩ hmo kk
          · cases h
        · cases h
      · cases h
    · cases h
  all_goals exact absurd h (by intro z; cases z)
end SNK
section SNW
variable {base : Nat} {adK adV : Nat → Nat} {vf : Value} {b L : Nat} {xs : Nat → Int32} {D : va_G} {l : Launch}
/-- THE SMALL MACHINE'S RUN IS THE MACHINE'S -/
theorem run_W : ∀ (n d mm pc : Nat) (ls st : List Value) (M : mm_H) (r : Option Value) (M' : mm_H), mm_run L xs n d mm pc ls st M = some (r, M') → mm_all base adK adV vf b L xs D l d mm pc ls st M r M' := by
  intro n
  induction n with
  | zero => intro d mm pc ls st M r M' h; simp [mm_run] at h
  | succ n ih =>
    intro d mm pc ls st M r M' h p e R s m args below meth c Q n0 z0 nf zf ads0 hcx b1 b2 b3 b4 kret
    unfold mm_run at h
    split at h
    · cases h
    · next i len hI =>
      split at h
      · next hlen =>
        split at h
        · next r0 hr =>
          cases h
          exact kret pc i len ls st hI hlen hr
        · split at h
          · next m' as rest hc =>
            cases d with
            | zero => cases h
            | succ d =>
              dsimp only at h
              split at h
              · cases h
              · next l0 he0 =>
                split at h
                · cases h
                · next r1 M1 h1 =>
                  have g1 := mm_run_mono _ _ _ _ _ _ _ _ _ h1
                  have g2 := mm_run_mono _ _ _ _ _ _ _ _ _ h
                  exact call_W hcx hI hlen hc he0 (ih _ _ _ _ _ _ _ _ h1) g1 ⟨b1, b2, Nat.le_trans g2.1 b3, Nat.le_trans g2.2 b4⟩ (ih _ _ _ _ _ _ _ _ h p e R s m args below meth c Q n0 z0 nf zf ads0 hcx (Nat.le_trans b1 g1.1) (Nat.le_trans b2 g1.2) b3 b4 kret)
          · split at h
            · cases h
            · next pc' ls' st' M1 h1 =>
              have g1 := mm_step_mono h1
              have g2 := mm_run_mono _ _ _ _ _ _ _ _ _ h
              exact step_W hcx hI hlen h1 ⟨b1, b2, Nat.le_trans g2.1 b3, Nat.le_trans g2.2 b4⟩ (ih _ _ _ _ _ _ _ _ h p e R s m args below meth c Q n0 z0 nf zf ads0 hcx (Nat.le_trans b1 g1.1) (Nat.le_trans b2 g1.2) b3 b4 kret)
      · cases h
end SNW
