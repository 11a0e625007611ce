/-! RUNS THAT END WELL: an equation an instruction -/
def Wp (L : Nat) (xs : Nat → Int32) (d m pc : Nat) (ls st : List Value) (M : mm_H) (Q : Option Value → mm_H → Prop) : Prop := ∃ n r M', mm_run L xs n d m pc ls st M = some (r, M') ∧ Q r M'
def Call (L : Nat) (xs : Nat → Int32) (d m : Nat) (as : List Value) (M : mm_H) (Q : Option Value → mm_H → Prop) : Prop := ∃ l0, mm_ent m as = some l0 ∧ Wp L xs d m 0 l0 [] M Q
theorem Wp_mono {L : Nat} {xs : Nat → Int32} {d m pc : Nat} {ls st : List Value} {M : mm_H} {Q Q' : Option Value → mm_H → Prop} (h : Wp L xs d m pc ls st M Q) (hq : ∀ r M', Q r M' → Q' r M') : Wp L xs d m pc ls st M Q' := by
  obtain ⟨n, r, M', h1, h2⟩ := h
  exact ⟨n, r, M', h1, hq _ _ h2⟩
theorem Call_mono {L : Nat} {xs : Nat → Int32} {d m : Nat} {as : List Value} {M : mm_H} {Q Q' : Option Value → mm_H → Prop} (h : Call L xs d m as M Q) (hq : ∀ r M', Q r M' → Q' r M') : Call L xs d m as M Q' := by
  obtain ⟨l0, h1, h2⟩ := h
  exact ⟨l0, h1, Wp_mono h2 hq⟩
theorem mm_run_more {L : Nat} {xs : Nat → Int32} : ∀ (n k d m pc : Nat) (ls st : List Value) (M : mm_H) (x : Option Value × mm_H), mm_run L xs n d m pc ls st M = some x → mm_run L xs (n + k) d m pc ls st M = some x := by
  intro n
  induction n with
  | zero => intro k d m pc ls st M x h; simp [mm_run] at h
  | succ n ih =>
    intro k d m pc ls st M x h
    rw [show n + 1 + k = (n + k) + 1 by omega]
    unfold mm_run at h ⊢
    split at h
    · cases h
    · next i len hI =>
      split at h
      · next hlen =>
        rw [if_pos hlen]
        split at h
        · next r0 hr => exact h
        · next hr =>
          split at h
          · next m' as rest hc =>
            cases d with
            | zero => cases h
            | succ d =>
              dsimp only at h ⊢
              split at h
              · cases h
              · next l0 he0 =>
                split at h
                · cases h
                · next r1 M1 h1 =>
                  rw [ih k _ _ _ _ _ _ _ h1]
                  exact ih k _ _ _ _ _ _ _ h
          · next hc =>
            split at h
            · cases h
            · next pc' ls' st' M1 h1 => exact ih k _ _ _ _ _ _ _ h
      · cases h
section WPS
variable {L : Nat} {xs : Nat → Int32} {d m pc : Nat} {ls st : List Value} {M : mm_H} {Q : Option Value → mm_H → Prop}
/-- not an instruction that ends or calls -/
def mm_pl (i : Instr) : Bool := match i with
  | .return_ | .ireturn | .lreturn | .areturn | .invokestatic _ | .invokevirtual _ | .invokespecial _ => false
  | _ => true
theorem mm_pl_ret {i : Instr} (h : mm_pl i = true) : mm_ret m i st = none := by
  unfold mm_ret
  split
  · split <;> first | rfl | (exact absurd h Bool.false_ne_true)
  · rfl
theorem mm_pl_call {i : Instr} (h : mm_pl i = true) : mm_call m i st M = none := by
  unfold mm_call
  split <;> first | rfl | (exact absurd h Bool.false_ne_true)
theorem Wp_step {i : Instr} {len pc' : Nat} {ls' st' : List Value} {M' : mm_H} (hI : mm_I m pc = some (i, len)) (hl : mm_len i len = true) (hr : mm_ret m i st = none) (hc : mm_call m i st M = none) (hs : mm_step L xs d m pc i ls st M = some (pc', ls', st', M')) : Wp L xs d m pc ls st M Q = Wp L xs d m pc' ls' st' M' Q := by
  apply propext
  constructor
  · rintro ⟨n, r, M1, h1, h2⟩
    cases n with
    | zero => simp [mm_run] at h1
    | succ n =>
      unfold mm_run at h1
      rw [hI] at h1
      dsimp only at h1
      rw [if_pos hl, hr] at h1
      dsimp only at h1
      rw [hc] at h1
      dsimp only at h1
      rw [hs] at h1
      exact ⟨n, r, M1, h1, h2⟩
  · rintro ⟨n, r, M1, h1, h2⟩
    refine ⟨n + 1, r, M1, ?_, h2⟩
    unfold mm_run
    rw [hI]
    dsimp only
    rw [if_pos hl, hr]
    dsimp only
    rw [hc]
    dsimp only
    rw [hs]
    exact h1
theorem Wp_s {i : Instr} {len pc' : Nat} {ls' st' : List Value} {M' : mm_H} (hI : mm_I m pc = some (i, len)) (hp : (mm_len i len && mm_pl i) = true) (hs : mm_step L xs d m pc i ls st M = some (pc', ls', st', M')) : Wp L xs d m pc ls st M Q = Wp L xs d m pc' ls' st' M' Q := by
  rw [Bool.and_eq_true] at hp
  exact Wp_step hI hp.1 (mm_pl_ret hp.2) (mm_pl_call hp.2) hs
theorem Wp_ret {i : Instr} {len : Nat} {r : Option Value} (hI : mm_I m pc = some (i, len)) (hl : mm_len i len = true) (hr : mm_ret m i st = some r) : Wp L xs d m pc ls st M Q = Q r M := by
  apply propext
  constructor
  · rintro ⟨n, r1, M1, h1, h2⟩
    cases n with
    | zero => simp [mm_run] at h1
    | succ n =>
      unfold mm_run at h1
      rw [hI] at h1
      dsimp only at h1
      rw [if_pos hl, hr] at h1
      cases h1
      exact h2
  · intro h
    refine ⟨1, r, M, ?_, h⟩
    unfold mm_run
    rw [hI]
    dsimp only
    rw [if_pos hl, hr]
theorem Wp_call {i : Instr} {len m' : Nat} {as rest : List Value} (hI : mm_I m pc = some (i, len)) (hl : mm_len i len = true) (hr : mm_ret m i st = none) (hc : mm_call m i st M = some (m', as, rest)) : Wp L xs (d + 1) m pc ls st M Q = Call L xs d m' as M (fun r M' => Wp L xs (d + 1) m (pc + 3) ls (r.toList ++ rest) M' Q) := by
  apply propext
  constructor
  · rintro ⟨n, r1, M1, h1, h2⟩
    cases n with
    | zero => simp [mm_run] at h1
    | succ n =>
      unfold mm_run at h1
      rw [hI] at h1
      dsimp only at h1
      rw [if_pos hl, hr] at h1
      dsimp only at h1
      rw [hc] at h1
      dsimp only at h1
      split at h1
      · cases h1
      · next l0 he0 =>
        split at h1
        · cases h1
        · next r2 M2 h3 => exact ⟨l0, he0, n, r2, M2, h3, n, r1, M1, h1, h2⟩
  · rintro ⟨l0, he0, n, r2, M2, h3, n2, r1, M1, h1, h2⟩
    refine ⟨n + n2 + 1, r1, M1, ?_, h2⟩
    unfold mm_run
    rw [hI]
    dsimp only
    rw [if_pos hl, hr]
    dsimp only
    rw [hc]
    dsimp only
    rw [he0]
    dsimp only
    rw [mm_run_more n n2 _ _ _ _ _ _ _ h3]
    dsimp only
    rw [show n + n2 = n2 + n by omega]
    exact mm_run_more n2 n _ _ _ _ _ _ _ h1
/-- a local that a store behind it doesn't touch -/
def mm_c1 (v : Value) : Bool := match v with | .long _ => false | .double _ => false | _ => true
def mm_isA (v : Value) : Bool := match v with | .ref _ => true | .null => true | .retAddr _ => true | _ => false
theorem c1_i {x : Int32} : mm_c1 (.int x) = true := rfl
theorem c1_r {x : Nat} : mm_c1 (.ref x) = true := rfl
theorem c1_n : mm_c1 .null = true := rfl
theorem c1_U : mm_c1 mm_U = true := rfl
theorem isA_r {x : Nat} : mm_isA (.ref x) = true := rfl
theorem isA_n : mm_isA .null = true := rfl
theorem isA_a {x : Nat} : mm_isA (.retAddr x) = true := rfl
theorem ct_i {x : Int32} : (Value.int x).category = 1 := rfl
theorem ct_r {x : Nat} : (Value.ref x).category = 1 := rfl
theorem ct_n : Value.null.category = 1 := rfl
theorem cs_0 : mm_cs [] = 0 := rfl
theorem cs_i {x : Int32} {r : List Value} : mm_cs (.int x :: r) = 1 + mm_cs r := rfl
theorem cs_r {x : Nat} {r : List Value} : mm_cs (.ref x :: r) = 1 + mm_cs r := rfl
theorem cs_l {x : Int64} {r : List Value} : mm_cs (.long x :: r) = 2 + mm_cs r := rfl
theorem cs_a {x : Nat} {r : List Value} : mm_cs (.retAddr x :: r) = 1 + mm_cs r := rfl
theorem rt_0 {r : List Value} : (none : Option Value).toList ++ r = r := rfl
theorem rt_1 {v : Value} {r : List Value} : (some v).toList ++ r = v :: r := rfl
/-- Java's remainder -/
def irm (x y : Int32) : Int32 := x - x / y * y
def lrm (x y : Int64) : Int64 := x - x / y * y
theorem nl_of {ls : List Value} {k : Nat} {v : Value} (h : ls[k]? = some v) (hv : mm_c1 v = true) : mm_nl ls (k + 1) = true := by
  unfold mm_nl
  dsimp only
  rw [h]
  cases v <;> first | rfl | (exact absurd hv Bool.false_ne_true)
theorem w_iconst {n : Int} {v : Int32} (hI : mm_I m pc = some (.iconst n, 1)) (hv : Int32.ofInt n = v) : Wp L xs d m pc ls st M Q = Wp L xs d m (pc + 1) ls (.int v :: st) M Q := by subst hv; exact Wp_s hI rfl rfl
theorem w_bipush {n : Int} {v : Int32} (hI : mm_I m pc = some (.bipush n, 2)) (hv : (Int8.ofInt n).toInt32 = v) : Wp L xs d m pc ls st M Q = Wp L xs d m (pc + 2) ls (.int v :: st) M Q := by subst hv; exact Wp_s hI rfl rfl
theorem w_sipush {n : Int} {v : Int32} (hI : mm_I m pc = some (.sipush n, 3)) (hv : (Int16.ofInt n).toInt32 = v) : Wp L xs d m pc ls st M Q = Wp L xs d m (pc + 3) ls (.int v :: st) M Q := by subst hv; exact Wp_s hI rfl rfl
theorem w_lconst {n : Fin 2} {v : Int64} (hI : mm_I m pc = some (.lconst n, 1)) (hv : Int64.ofNat (n : Nat) = v) : Wp L xs d m pc ls st M Q = Wp L xs d m (pc + 1) ls (.long v :: st) M Q := by subst hv; exact Wp_s hI rfl rfl
theorem w_null (hI : mm_I m pc = some (.aconst_null, 1)) : Wp L xs d m pc ls st M Q = Wp L xs d m (pc + 1) ls (.null :: st) M Q := Wp_s hI rfl rfl
theorem ldI_s {n k : Nat} {x : Int32} (h : ls[k]? = some (.int x)) : mm_ldI n k pc ls st M = some (pc + n, ls, .int x :: st, M) := by unfold mm_ldI; rw [h]
theorem ldL_s {n k : Nat} {x : Int64} (h : ls[k]? = some (.long x)) : mm_ldL n k pc ls st M = some (pc + n, ls, .long x :: st, M) := by unfold mm_ldL; rw [h]
theorem ldA_s {n k : Nat} {v : Value} (h : ls[k]? = some v) (hv : mm_isA v = true) : mm_ldA n k pc ls st M = some (pc + n, ls, v :: st, M) := by
  unfold mm_ldA; rw [h]
  cases v <;> first | rfl | (exact absurd hv Bool.false_ne_true)
theorem put_s {k : Nat} {v : Value} (hk : k < ls.length) (hn : mm_nl ls k = true) : mm_put ls k v = some (ls.set k v) := by unfold mm_put; rw [if_pos ⟨hk, hn⟩]
theorem put2_s {k : Nat} {v : Value} (hk : k + 1 < ls.length) (hn : mm_nl ls k = true) : mm_put2 ls k v = some ((ls.set k v).set (k + 1) mm_U) := by unfold mm_put2; rw [if_pos ⟨hk, hn⟩]
theorem w_iload {i : Instr} {n k : Nat} {x : Int32} (hI : mm_I m pc = some (i, n)) (hi : i = .iload k ∧ n = 2 ∨ ∃ q : Fin 4, i = .iload_n q ∧ (q : Nat) = k ∧ n = 1) (h : ls[k]? = some (.int x)) : Wp L xs d m pc ls st M Q = Wp L xs d m (pc + n) ls (.int x :: st) M Q := by
  rcases hi with ⟨rfl, rfl⟩ | ⟨q, rfl, rfl, rfl⟩
  · exact Wp_s hI rfl (ldI_s h)
  · exact Wp_s hI rfl (ldI_s h)
theorem w_lload {i : Instr} {n k : Nat} {x : Int64} (hI : mm_I m pc = some (i, n)) (hi : i = .lload k ∧ n = 2 ∨ ∃ q : Fin 4, i = .lload_n q ∧ (q : Nat) = k ∧ n = 1) (h : ls[k]? = some (.long x)) : Wp L xs d m pc ls st M Q = Wp L xs d m (pc + n) ls (.long x :: st) M Q := by
  rcases hi with ⟨rfl, rfl⟩ | ⟨q, rfl, rfl, rfl⟩
  · exact Wp_s hI rfl (ldL_s h)
  · exact Wp_s hI rfl (ldL_s h)
theorem w_aload {i : Instr} {n k : Nat} {v : Value} (hI : mm_I m pc = some (i, n)) (hi : i = .aload k ∧ n = 2 ∨ ∃ q : Fin 4, i = .aload_n q ∧ (q : Nat) = k ∧ n = 1) (h : ls[k]? = some v) (hv : mm_isA v = true) : Wp L xs d m pc ls st M Q = Wp L xs d m (pc + n) ls (v :: st) M Q := by
  rcases hi with ⟨rfl, rfl⟩ | ⟨q, rfl, rfl, rfl⟩
  · exact Wp_s hI rfl (ldA_s h hv)
  · exact Wp_s hI rfl (ldA_s h hv)
theorem w_istore {i : Instr} {n k : Nat} {x : Int32} (hI : mm_I m pc = some (i, n)) (hi : i = .istore k ∧ n = 2 ∨ ∃ q : Fin 4, i = .istore_n q ∧ (q : Nat) = k ∧ n = 1) (hk : k < ls.length) (hn : mm_nl ls k = true) : Wp L xs d m pc ls (.int x :: st) M Q = Wp L xs d m (pc + n) (ls.set k (.int x)) st M Q := by
  rcases hi with ⟨rfl, rfl⟩ | ⟨q, rfl, rfl, rfl⟩
  · exact Wp_s hI rfl (by unfold mm_step mm_stI; dsimp only; rw [put_s hk hn])
  · exact Wp_s hI rfl (by unfold mm_step mm_stI; dsimp only; rw [put_s hk hn])
theorem w_lstore {i : Instr} {n k : Nat} {x : Int64} (hI : mm_I m pc = some (i, n)) (hi : i = .lstore k ∧ n = 2 ∨ ∃ q : Fin 4, i = .lstore_n q ∧ (q : Nat) = k ∧ n = 1) (hk : k + 1 < ls.length) (hn : mm_nl ls k = true) : Wp L xs d m pc ls (.long x :: st) M Q = Wp L xs d m (pc + n) ((ls.set k (.long x)).set (k + 1) mm_U) st M Q := by
  rcases hi with ⟨rfl, rfl⟩ | ⟨q, rfl, rfl, rfl⟩
  · exact Wp_s hI rfl (by unfold mm_step mm_stL; dsimp only; rw [put2_s hk hn])
  · exact Wp_s hI rfl (by unfold mm_step mm_stL; dsimp only; rw [put2_s hk hn])
/-- a reference or null is stored -/
theorem w_astore {i : Instr} {n k : Nat} {v : Value} (hI : mm_I m pc = some (i, n)) (hi : i = .astore k ∧ n = 2 ∨ ∃ q : Fin 4, i = .astore_n q ∧ (q : Nat) = k ∧ n = 1) (hv : v = .null ∨ ∃ a, v = .ref a) (hk : k < ls.length) (hn : mm_nl ls k = true) : Wp L xs d m pc ls (v :: st) M Q = Wp L xs d m (pc + n) (ls.set k v) st M Q := by
  rcases hi with ⟨rfl, rfl⟩ | ⟨q, rfl, rfl, rfl⟩ <;> rcases hv with rfl | ⟨a, rfl⟩
  · exact Wp_s hI rfl (by unfold mm_step mm_stA; dsimp only; rw [put_s hk hn])
  · exact Wp_s hI rfl (by unfold mm_step mm_stA; dsimp only; rw [put_s hk hn])
  · exact Wp_s hI rfl (by unfold mm_step mm_stA; dsimp only; rw [put_s hk hn])
  · exact Wp_s hI rfl (by unfold mm_step mm_stA; dsimp only; rw [put_s hk hn])
theorem w_iinc {k : Nat} {n : Int} {v x : Int32} (hI : mm_I m pc = some (.iinc k n, 3)) (hv : Int32.ofInt n = v) (h : ls[k]? = some (.int x)) (hn : mm_nl ls k = true) : Wp L xs d m pc ls st M Q = Wp L xs d m (pc + 3) (ls.set k (.int (x + v))) st M Q := by
  subst hv
  exact Wp_s hI rfl (by unfold mm_step; dsimp only; rw [h]; dsimp only; rw [put_s (List.getElem?_eq_some_iff.mp h).1 hn])
theorem w_iadd {x y : Int32} (hI : mm_I m pc = some (.iadd, 1)) : Wp L xs d m pc ls (.int y :: .int x :: st) M Q = Wp L xs d m (pc + 1) ls (.int (x + y) :: st) M Q := Wp_s hI rfl rfl
theorem w_isub {x y : Int32} (hI : mm_I m pc = some (.isub, 1)) : Wp L xs d m pc ls (.int y :: .int x :: st) M Q = Wp L xs d m (pc + 1) ls (.int (x - y) :: st) M Q := Wp_s hI rfl rfl
theorem w_imul {x y : Int32} (hI : mm_I m pc = some (.imul, 1)) : Wp L xs d m pc ls (.int y :: .int x :: st) M Q = Wp L xs d m (pc + 1) ls (.int (x * y) :: st) M Q := Wp_s hI rfl rfl
theorem w_iand {x y : Int32} (hI : mm_I m pc = some (.iand, 1)) : Wp L xs d m pc ls (.int y :: .int x :: st) M Q = Wp L xs d m (pc + 1) ls (.int (x &&& y) :: st) M Q := Wp_s hI rfl rfl
theorem w_ior {x y : Int32} (hI : mm_I m pc = some (.ior, 1)) : Wp L xs d m pc ls (.int y :: .int x :: st) M Q = Wp L xs d m (pc + 1) ls (.int (x ||| y) :: st) M Q := Wp_s hI rfl rfl
theorem w_ixor {x y : Int32} (hI : mm_I m pc = some (.ixor, 1)) : Wp L xs d m pc ls (.int y :: .int x :: st) M Q = Wp L xs d m (pc + 1) ls (.int (x ^^^ y) :: st) M Q := Wp_s hI rfl rfl
theorem w_ishl {x y : Int32} (hI : mm_I m pc = some (.ishl, 1)) : Wp L xs d m pc ls (.int y :: .int x :: st) M Q = Wp L xs d m (pc + 1) ls (.int (x <<< (y &&& 31)) :: st) M Q := Wp_s hI rfl rfl
theorem w_ishr {x y : Int32} (hI : mm_I m pc = some (.ishr, 1)) : Wp L xs d m pc ls (.int y :: .int x :: st) M Q = Wp L xs d m (pc + 1) ls (.int (x >>> (y &&& 31)) :: st) M Q := Wp_s hI rfl rfl
theorem w_iushr {x y : Int32} (hI : mm_I m pc = some (.iushr, 1)) : Wp L xs d m pc ls (.int y :: .int x :: st) M Q = Wp L xs d m (pc + 1) ls (.int (x.toUInt32 >>> (y.toUInt32 &&& Int32.toUInt32 31)).toInt32 :: st) M Q := Wp_s hI rfl rfl
theorem w_idiv {x y : Int32} (hI : mm_I m pc = some (.idiv, 1)) (h : ¬ y = 0) : Wp L xs d m pc ls (.int y :: .int x :: st) M Q = Wp L xs d m (pc + 1) ls (.int (x / y) :: st) M Q := Wp_s hI rfl (by unfold mm_step mm_div; dsimp only; rw [if_neg h])
theorem w_irem {x y : Int32} (hI : mm_I m pc = some (.irem, 1)) (h : ¬ y = 0) : Wp L xs d m pc ls (.int y :: .int x :: st) M Q = Wp L xs d m (pc + 1) ls (.int (irm x y) :: st) M Q := Wp_s hI rfl (by unfold mm_step mm_div; dsimp only; rw [if_neg h]; rfl)
theorem w_ineg {x : Int32} (hI : mm_I m pc = some (.ineg, 1)) : Wp L xs d m pc ls (.int x :: st) M Q = Wp L xs d m (pc + 1) ls (.int (-x) :: st) M Q := Wp_s hI rfl rfl
theorem w_i2l {x : Int32} (hI : mm_I m pc = some (.i2l, 1)) : Wp L xs d m pc ls (.int x :: st) M Q = Wp L xs d m (pc + 1) ls (.long x.toInt64 :: st) M Q := Wp_s hI rfl rfl
theorem w_i2b {x : Int32} (hI : mm_I m pc = some (.i2b, 1)) : Wp L xs d m pc ls (.int x :: st) M Q = Wp L xs d m (pc + 1) ls (.int x.toInt8.toInt32 :: st) M Q := Wp_s hI rfl rfl
theorem w_i2s {x : Int32} (hI : mm_I m pc = some (.i2s, 1)) : Wp L xs d m pc ls (.int x :: st) M Q = Wp L xs d m (pc + 1) ls (.int x.toInt16.toInt32 :: st) M Q := Wp_s hI rfl rfl
theorem w_i2c {x : Int32} (hI : mm_I m pc = some (.i2c, 1)) : Wp L xs d m pc ls (.int x :: st) M Q = Wp L xs d m (pc + 1) ls (.int (x.toUInt32 % 65536).toInt32 :: st) M Q := Wp_s hI rfl rfl
theorem w_l2i {x : Int64} (hI : mm_I m pc = some (.l2i, 1)) : Wp L xs d m pc ls (.long x :: st) M Q = Wp L xs d m (pc + 1) ls (.int x.toInt32 :: st) M Q := Wp_s hI rfl rfl
theorem w_ladd {x y : Int64} (hI : mm_I m pc = some (.ladd, 1)) : Wp L xs d m pc ls (.long y :: .long x :: st) M Q = Wp L xs d m (pc + 1) ls (.long (x + y) :: st) M Q := Wp_s hI rfl rfl
theorem w_lsub {x y : Int64} (hI : mm_I m pc = some (.lsub, 1)) : Wp L xs d m pc ls (.long y :: .long x :: st) M Q = Wp L xs d m (pc + 1) ls (.long (x - y) :: st) M Q := Wp_s hI rfl rfl
theorem w_lmul {x y : Int64} (hI : mm_I m pc = some (.lmul, 1)) : Wp L xs d m pc ls (.long y :: .long x :: st) M Q = Wp L xs d m (pc + 1) ls (.long (x * y) :: st) M Q := Wp_s hI rfl rfl
theorem w_ldiv {x y : Int64} (hI : mm_I m pc = some (.ldiv, 1)) (h : ¬ y = 0) : Wp L xs d m pc ls (.long y :: .long x :: st) M Q = Wp L xs d m (pc + 1) ls (.long (x / y) :: st) M Q := Wp_s hI rfl (by unfold mm_step mm_divL; dsimp only; rw [if_neg h])
theorem w_lrem {x y : Int64} (hI : mm_I m pc = some (.lrem, 1)) (h : ¬ y = 0) : Wp L xs d m pc ls (.long y :: .long x :: st) M Q = Wp L xs d m (pc + 1) ls (.long (lrm x y) :: st) M Q := Wp_s hI rfl (by unfold mm_step mm_divL; dsimp only; rw [if_neg h]; rfl)
theorem w_lcmp {x y : Int64} (hI : mm_I m pc = some (.lcmp, 1)) : Wp L xs d m pc ls (.long y :: .long x :: st) M Q = Wp L xs d m (pc + 1) ls (.int (lg_cmp x y) :: st) M Q := Wp_s hI rfl rfl
theorem w_dup {v : Value} (hI : mm_I m pc = some (.dup, 1)) (h : v.category = 1) : Wp L xs d m pc ls (v :: st) M Q = Wp L xs d m (pc + 1) ls (v :: v :: st) M Q := Wp_s hI rfl (by unfold mm_step; dsimp only; rw [if_pos h])
theorem w_dup_x1 {v w : Value} (hI : mm_I m pc = some (.dup_x1, 1)) (h : v.category = 1) (h2 : w.category = 1) : Wp L xs d m pc ls (v :: w :: st) M Q = Wp L xs d m (pc + 1) ls (v :: w :: v :: st) M Q := Wp_s hI rfl (by unfold mm_step; dsimp only; rw [if_pos ⟨h, h2⟩])
theorem w_pop {v : Value} (hI : mm_I m pc = some (.pop, 1)) (h : v.category = 1) : Wp L xs d m pc ls (v :: st) M Q = Wp L xs d m (pc + 1) ls st M Q := Wp_s hI rfl (by unfold mm_step; dsimp only; rw [if_pos h])
theorem w_pop2 {v : Value} (hI : mm_I m pc = some (.pop2, 1)) (h : v.category = 2) : Wp L xs d m pc ls (v :: st) M Q = Wp L xs d m (pc + 1) ls st M Q := Wp_s hI rfl (by unfold mm_step; dsimp only; rw [if_pos h])
theorem br_s {b : Bool} {off : Int} {t : Nat} (ht : mm_at_ pc off = some t) : mm_br b off pc ls st M = some (if b = true then t else pc + 3, ls, st, M) := by unfold mm_br; rw [ht]
theorem wif {c : Prop} [Decidable c] {b : Bool} {t f : Nat} (hb : (b = true) ↔ c) : Wp L xs d m (if b = true then t else f) ls st M Q = if c then Wp L xs d m t ls st M Q else Wp L xs d m f ls st M Q := by
  by_cases h : c
  · rw [if_pos (hb.mpr h), if_pos h]
  · rw [if_neg (fun q => h (hb.mp q)), if_neg h]
theorem wifn {c : Prop} [Decidable c] {b : Bool} {t f : Nat} (hb : (b = true) ↔ ¬ c) : Wp L xs d m (if b = true then t else f) ls st M Q = if c then Wp L xs d m f ls st M Q else Wp L xs d m t ls st M Q := by
  by_cases h : c
  · rw [if_neg (fun q => hb.mp q h), if_pos h]
  · rw [if_pos (hb.mpr h), if_neg h]
theorem st_if {cn : ClassFile.Cond} {x : Int32} {off : Int} {t : Nat} (ht : mm_at_ pc off = some t) : mm_step L xs d m pc (.ifCond cn off) ls (.int x :: st) M = some (if mm_cond cn x 0 = true then t else pc + 3, ls, st, M) := br_s ht
theorem st_ic {cn : ClassFile.Cond} {x y : Int32} {off : Int} {t : Nat} (ht : mm_at_ pc off = some t) : mm_step L xs d m pc (.if_icmp cn off) ls (.int y :: .int x :: st) M = some (if mm_cond cn x y = true then t else pc + 3, ls, st, M) := br_s ht
theorem cd_ne {x y : Int32} : mm_cond .ne x y = true ↔ ¬ x = y := by simp [mm_cond]
theorem cd_ge {x y : Int32} : mm_cond .ge x y = true ↔ ¬ x < y := by rw [Int32.not_lt]; exact decide_eq_true_iff
theorem cd_le {x y : Int32} : mm_cond .le x y = true ↔ ¬ y < x := by rw [Int32.not_lt]; exact decide_eq_true_iff
theorem w_ifeq {x : Int32} {off : Int} {t : Nat} (hI : mm_I m pc = some (.ifCond .eq off, 3)) (ht : mm_at_ pc off = some t) : Wp L xs d m pc ls (.int x :: st) M Q = if x = 0 then Wp L xs d m t ls st M Q else Wp L xs d m (pc + 3) ls st M Q := (Wp_s hI rfl (st_if ht)).trans (wif decide_eq_true_iff)
theorem w_ifne {x : Int32} {off : Int} {t : Nat} (hI : mm_I m pc = some (.ifCond .ne off, 3)) (ht : mm_at_ pc off = some t) : Wp L xs d m pc ls (.int x :: st) M Q = if x = 0 then Wp L xs d m (pc + 3) ls st M Q else Wp L xs d m t ls st M Q := (Wp_s hI rfl (st_if ht)).trans (wifn cd_ne)
theorem w_iflt {x : Int32} {off : Int} {t : Nat} (hI : mm_I m pc = some (.ifCond .lt off, 3)) (ht : mm_at_ pc off = some t) : Wp L xs d m pc ls (.int x :: st) M Q = if x < 0 then Wp L xs d m t ls st M Q else Wp L xs d m (pc + 3) ls st M Q := (Wp_s hI rfl (st_if ht)).trans (wif decide_eq_true_iff)
theorem w_ifge {x : Int32} {off : Int} {t : Nat} (hI : mm_I m pc = some (.ifCond .ge off, 3)) (ht : mm_at_ pc off = some t) : Wp L xs d m pc ls (.int x :: st) M Q = if x < 0 then Wp L xs d m (pc + 3) ls st M Q else Wp L xs d m t ls st M Q := (Wp_s hI rfl (st_if ht)).trans (wifn cd_ge)
theorem w_ifgt {x : Int32} {off : Int} {t : Nat} (hI : mm_I m pc = some (.ifCond .gt off, 3)) (ht : mm_at_ pc off = some t) : Wp L xs d m pc ls (.int x :: st) M Q = if 0 < x then Wp L xs d m t ls st M Q else Wp L xs d m (pc + 3) ls st M Q := (Wp_s hI rfl (st_if ht)).trans (wif decide_eq_true_iff)
theorem w_ifle {x : Int32} {off : Int} {t : Nat} (hI : mm_I m pc = some (.ifCond .le off, 3)) (ht : mm_at_ pc off = some t) : Wp L xs d m pc ls (.int x :: st) M Q = if 0 < x then Wp L xs d m (pc + 3) ls st M Q else Wp L xs d m t ls st M Q := (Wp_s hI rfl (st_if ht)).trans (wifn cd_le)
theorem w_iceq {x y : Int32} {off : Int} {t : Nat} (hI : mm_I m pc = some (.if_icmp .eq off, 3)) (ht : mm_at_ pc off = some t) : Wp L xs d m pc ls (.int y :: .int x :: st) M Q = if x = y then Wp L xs d m t ls st M Q else Wp L xs d m (pc + 3) ls st M Q := (Wp_s hI rfl (st_ic ht)).trans (wif decide_eq_true_iff)
theorem w_icne {x y : Int32} {off : Int} {t : Nat} (hI : mm_I m pc = some (.if_icmp .ne off, 3)) (ht : mm_at_ pc off = some t) : Wp L xs d m pc ls (.int y :: .int x :: st) M Q = if x = y then Wp L xs d m (pc + 3) ls st M Q else Wp L xs d m t ls st M Q := (Wp_s hI rfl (st_ic ht)).trans (wifn cd_ne)
theorem w_iclt {x y : Int32} {off : Int} {t : Nat} (hI : mm_I m pc = some (.if_icmp .lt off, 3)) (ht : mm_at_ pc off = some t) : Wp L xs d m pc ls (.int y :: .int x :: st) M Q = if x < y then Wp L xs d m t ls st M Q else Wp L xs d m (pc + 3) ls st M Q := (Wp_s hI rfl (st_ic ht)).trans (wif decide_eq_true_iff)
theorem w_icge {x y : Int32} {off : Int} {t : Nat} (hI : mm_I m pc = some (.if_icmp .ge off, 3)) (ht : mm_at_ pc off = some t) : Wp L xs d m pc ls (.int y :: .int x :: st) M Q = if x < y then Wp L xs d m (pc + 3) ls st M Q else Wp L xs d m t ls st M Q := (Wp_s hI rfl (st_ic ht)).trans (wifn cd_ge)
theorem w_icgt {x y : Int32} {off : Int} {t : Nat} (hI : mm_I m pc = some (.if_icmp .gt off, 3)) (ht : mm_at_ pc off = some t) : Wp L xs d m pc ls (.int y :: .int x :: st) M Q = if y < x then Wp L xs d m t ls st M Q else Wp L xs d m (pc + 3) ls st M Q := (Wp_s hI rfl (st_ic ht)).trans (wif decide_eq_true_iff)
theorem w_icle {x y : Int32} {off : Int} {t : Nat} (hI : mm_I m pc = some (.if_icmp .le off, 3)) (ht : mm_at_ pc off = some t) : Wp L xs d m pc ls (.int y :: .int x :: st) M Q = if y < x then Wp L xs d m (pc + 3) ls st M Q else Wp L xs d m t ls st M Q := (Wp_s hI rfl (st_ic ht)).trans (wifn cd_le)
theorem w_ifnn_r {a : Nat} {off : Int} {t : Nat} (hI : mm_I m pc = some (.ifnonnull off, 3)) (ht : mm_at_ pc off = some t) : Wp L xs d m pc ls (.ref a :: st) M Q = Wp L xs d m t ls st M Q := Wp_s hI rfl (br_s ht)
theorem w_ifnn_n {off : Int} {t : Nat} (hI : mm_I m pc = some (.ifnonnull off, 3)) (ht : mm_at_ pc off = some t) : Wp L xs d m pc ls (.null :: st) M Q = Wp L xs d m (pc + 3) ls st M Q := Wp_s hI rfl (br_s ht)
theorem w_goto {off : Int} {t : Nat} (hI : mm_I m pc = some (.goto off, 3)) (ht : mm_at_ pc off = some t) : Wp L xs d m pc ls st M Q = Wp L xs d m t ls st M Q := Wp_s hI rfl (br_s ht)
theorem w_tsin {x : Int32} {df lo hi off : Int} {offs : Array Int} {len t : Nat} (hI : mm_I m pc = some (.tableswitch df lo hi offs, len)) (h : ¬ (x.toInt < lo ∨ hi < x.toInt)) (ho : offs[(x.toInt - lo).toNat]? = some off) (ht : mm_at_ pc off = some t) : Wp L xs d m pc ls (.int x :: st) M Q = Wp L xs d m t ls st M Q := Wp_s hI rfl (by unfold mm_step; dsimp only; rw [if_neg h, ho]; exact br_s ht)
theorem w_tsout {x : Int32} {df lo hi : Int} {offs : Array Int} {len t : Nat} (hI : mm_I m pc = some (.tableswitch df lo hi offs, len)) (h : x.toInt < lo ∨ hi < x.toInt) (ht : mm_at_ pc df = some t) : Wp L xs d m pc ls (.int x :: st) M Q = Wp L xs d m t ls st M Q := Wp_s hI rfl (by unfold mm_step; dsimp only; rw [if_pos h]; exact br_s ht)
theorem w_lsw {x : Int32} {df : Int} {ps : Array (Int × Int)} {len t : Nat} (hI : mm_I m pc = some (.lookupswitch df ps, len)) (h : (ps.toList.zip (ps.toList.drop 1)).all (fun (a, next) => a.1 < next.1) = true) (ht : mm_at_ pc (Op.lookupswitch.offset ps.toList df x.toInt) = some t) : Wp L xs d m pc ls (.int x :: st) M Q = Wp L xs d m t ls st M Q := Wp_s hI rfl (by unfold mm_step; dsimp only; rw [if_pos h]; exact br_s ht)
/-- fields -/
theorem w_getI {idx o ci k : Nat} {nst : Bool} {w c0 : Nat} (hI : mm_I m pc = some (.getfield idx, 3)) (hf : mm_fld m idx = some (c0, idx, ci, k, nst, w)) (hy : mm_rf (mm_ty ci k) = false) (h : gS M o = ci) : Wp L xs d m pc ls (.ref o :: st) M Q = Wp L xs d m (pc + 3) ls (.int (gI M o k) :: st) M Q := Wp_s hI rfl (by unfold mm_step mm_gf; dsimp only; rw [hf]; dsimp only; rw [if_pos h, if_neg (by rw [hy]; decide)])
theorem w_getR {idx o ci k : Nat} {nst : Bool} {w c0 : Nat} (hI : mm_I m pc = some (.getfield idx, 3)) (hf : mm_fld m idx = some (c0, idx, ci, k, nst, w)) (hy : mm_rf (mm_ty ci k) = true) (h : gS M o = ci) : Wp L xs d m pc ls (.ref o :: st) M Q = Wp L xs d m (pc + 3) ls (gR M o k :: st) M Q := Wp_s hI rfl (by unfold mm_step mm_gf; dsimp only; rw [hf]; dsimp only; rw [if_pos h, if_pos hy])
theorem w_getSv {j : Nat} (hI : mm_I m pc = some (.getfield 9, 3)) (hc : mm_cl m = 12) (hj : j < 13) : Wp L xs d m pc ls (.retAddr j :: st) M Q = Wp L xs d m (pc + 3) ls (.retAddr (j + 100) :: st) M Q := Wp_s hI rfl (by unfold mm_step mm_gf; dsimp only; rw [if_pos ⟨hj, hc, rfl⟩])
theorem w_getSc {j : Nat} (hI : mm_I m pc = some (.getfield 15, 3)) (hc : mm_cl m = 12) (hj : j < 13) : Wp L xs d m pc ls (.retAddr j :: st) M Q = Wp L xs d m (pc + 3) ls (.int 0 :: st) M Q := Wp_s hI rfl (by unfold mm_step mm_gf; dsimp only; rw [if_neg (by omega), if_pos ⟨hj, hc, rfl⟩])
theorem w_putI {idx o ci k : Nat} {x : Int32} {nst : Bool} {w c0 : Nat} (hI : mm_I m pc = some (.putfield idx, 3)) (hf : mm_fld m idx = some (c0, idx, ci, k, nst, w)) (hy : mm_ty ci k = .int ∧ (mm_T ci k).2.2.2 = false) (h : gS M o = ci) : Wp L xs d m pc ls (.int x :: .ref o :: st) M Q = Wp L xs d m (pc + 3) ls st (pI M o k x) Q := Wp_s hI rfl (by unfold mm_step mm_pf; dsimp only; rw [hf]; dsimp only; rw [if_pos ⟨h, by rw [hy.1]; rfl, by rw [hy.1]; rfl, Or.inl hy.2⟩])
theorem w_putIF {idx o ci k : Nat} {x : Int32} {w c0 : Nat} (hI : mm_I m pc = some (.putfield idx, 3)) (hf : mm_fld m idx = some (c0, idx, ci, k, false, w)) (hy : mm_ty ci k = .int ∧ (mm_T ci k).2.2.2 = true ∧ mm_ini m = true ∧ mm_C ci = mm_c (mm_cl m)) (h : gS M o = ci) : Wp L xs d m pc ls (.int x :: .ref o :: st) M Q = Wp L xs d m (pc + 3) ls st (pI M o k x) Q := Wp_s hI rfl (by unfold mm_step mm_pf; dsimp only; rw [hf]; dsimp only; rw [if_pos ⟨h, by rw [hy.1]; rfl, by rw [hy.1]; rfl, Or.inr ⟨hy.2.1, hy.2.2.1, hy.2.2.2, rfl⟩⟩])
theorem w_putZ {idx o ci k : Nat} {x : Int32} {nst : Bool} {w c0 : Nat} (hI : mm_I m pc = some (.putfield idx, 3)) (hf : mm_fld m idx = some (c0, idx, ci, k, nst, w)) (hy : mm_ty ci k = .boolean ∧ (mm_T ci k).2.2.2 = false) (h : gS M o = ci) (hx : x = 0 ∨ x = 1) : Wp L xs d m pc ls (.int x :: .ref o :: st) M Q = Wp L xs d m (pc + 3) ls st (pI M o k x) Q := Wp_s hI rfl (by unfold mm_step mm_pf; dsimp only; rw [hf]; dsimp only; rw [if_pos ⟨h, by rw [hy.1]; rcases hx with rfl | rfl <;> rfl, by rw [hy.1]; rcases hx with rfl | rfl <;> rfl, Or.inl hy.2⟩])
theorem w_putR {idx o a ci k : Nat} {w c0 : Nat} (hI : mm_I m pc = some (.putfield idx, 3)) (hf : mm_fld m idx = some (c0, idx, ci, k, false, w)) (hy : (mm_ty ci k).isReference = true ∧ (mm_T ci k).2.2.2 = true ∧ mm_ini m = true ∧ mm_C ci = mm_c (mm_cl m)) (h : gS M o = ci) : Wp L xs d m pc ls (.ref a :: .ref o :: st) M Q = Wp L xs d m (pc + 3) ls st (pR M o k (.ref a)) Q := Wp_s hI rfl (by unfold mm_step mm_pf; dsimp only; rw [hf]; dsimp only; rw [if_pos ⟨h, hy.1, hy.2.1, hy.2.2.1, hy.2.2.2, rfl⟩])
theorem w_putL {idx o ci k : Nat} {x : Int64} {nst : Bool} {w c0 : Nat} (hI : mm_I m pc = some (.putfield idx, 3)) (hf : mm_fld m idx = some (c0, idx, ci, k, nst, w)) (hy : mm_ty ci k = .long ∧ (mm_T ci k).2.2.2 = false) (h : gS M o = ci) : Wp L xs d m pc ls (.long x :: .ref o :: st) M Q = Wp L xs d m (pc + 3) ls st (pR M o k (.long x)) Q := Wp_s hI rfl (by unfold mm_step mm_pf; dsimp only; rw [hf]; dsimp only; rw [if_pos ⟨h, hy.1, hy.2⟩])
theorem w_gs1 (hI : mm_I m pc = some (.getstatic 38, 3)) (hc : mm_cl m = 12) : Wp L xs d m pc ls st M Q = Wp L xs d m (pc + 3) ls (.int 1 :: st) M Q := Wp_s hI rfl (by unfold mm_step mm_gs; dsimp only; rw [if_pos ⟨hc, rfl⟩])
theorem w_gs2 (hI : mm_I m pc = some (.getstatic 1053, 3)) (hc : mm_cl m = 12) : Wp L xs d m pc ls st M Q = Wp L xs d m (pc + 3) ls (.retAddr 300 :: st) M Q := Wp_s hI rfl (by unfold mm_step mm_gs; dsimp only; rw [if_neg (by omega), if_pos ⟨hc, rfl⟩])
/-- arrays -/
theorem w_ial {i : Int32} {o : Nat} (hI : mm_I m pc = some (.iaload, 1)) (h : gS M o = 10) (h0 : 0 ≤ i) (h1 : i.toNatClampNeg < gL M o) : Wp L xs d m pc ls (.int i :: .ref o :: st) M Q = Wp L xs d m (pc + 1) ls (.int (gI M o i.toNatClampNeg) :: st) M Q := Wp_s hI rfl (by unfold mm_step mm_ial; dsimp only; rw [if_pos ⟨h, h0, h1⟩])
theorem w_ials {i : Int32} (hI : mm_I m pc = some (.iaload, 1)) (h0 : 0 ≤ i) (h1 : i.toNatClampNeg < L) : Wp L xs d m pc ls (.int i :: .retAddr 200 :: st) M Q = Wp L xs d m (pc + 1) ls (.int (xs i.toNatClampNeg) :: st) M Q := Wp_s hI rfl (by unfold mm_step mm_ial; dsimp only; rw [if_pos ⟨rfl, h0, h1⟩])
theorem w_bal {i : Int32} {o : Nat} (hI : mm_I m pc = some (.baload, 1)) (h : gS M o = 11) (h0 : 0 ≤ i) (h1 : i.toNatClampNeg < gL M o) : Wp L xs d m pc ls (.int i :: .ref o :: st) M Q = Wp L xs d m (pc + 1) ls (.int (gI M o i.toNatClampNeg) :: st) M Q := Wp_s hI rfl (by unfold mm_step mm_bal; dsimp only; rw [if_pos ⟨h, h0, h1⟩])
theorem w_bals {i : Int32} {j : Nat} (hI : mm_I m pc = some (.baload, 1)) (hj : 100 ≤ j ∧ j < 113) (h0 : 0 ≤ i) (h1 : i.toNatClampNeg < (mm_sb.getD (j - 100) []).length) : Wp L xs d m pc ls (.int i :: .retAddr j :: st) M Q = Wp L xs d m (pc + 1) ls (.int ((mm_sb.getD (j - 100) []).getD i.toNatClampNeg 0) :: st) M Q := Wp_s hI rfl (by unfold mm_step mm_bal; dsimp only; rw [if_pos ⟨hj.1, hj.2, h0, h1⟩])
theorem w_aal {i : Int32} {o : Nat} (hI : mm_I m pc = some (.aaload, 1)) (h : gS M o = 12 ∨ gS M o = 13) (h0 : 0 ≤ i) (h1 : i.toNatClampNeg < gL M o) : Wp L xs d m pc ls (.int i :: .ref o :: st) M Q = Wp L xs d m (pc + 1) ls (gR M o i.toNatClampNeg :: st) M Q := Wp_s hI rfl (by unfold mm_step mm_aal; dsimp only; rw [if_pos ⟨h, h0, h1⟩])
theorem w_ias {x i : Int32} {o : Nat} (hI : mm_I m pc = some (.iastore, 1)) (h : gS M o = 10) (h0 : 0 ≤ i) (h1 : i.toNatClampNeg < gL M o) : Wp L xs d m pc ls (.int x :: .int i :: .ref o :: st) M Q = Wp L xs d m (pc + 1) ls st (pI M o i.toNatClampNeg x) Q := Wp_s hI rfl (by unfold mm_step mm_ias; dsimp only; rw [if_pos ⟨h, h0, h1⟩])
theorem w_bas {x i : Int32} {o : Nat} (hI : mm_I m pc = some (.bastore, 1)) (h : gS M o = 11) (h0 : 0 ≤ i) (h1 : i.toNatClampNeg < gL M o) : Wp L xs d m pc ls (.int x :: .int i :: .ref o :: st) M Q = Wp L xs d m (pc + 1) ls st (pI M o i.toNatClampNeg (x &&& 1)) Q := Wp_s hI rfl (by unfold mm_step mm_bas; dsimp only; rw [if_pos ⟨h, h0, h1⟩])
theorem w_aas {i : Int32} {o a : Nat} (hI : mm_I m pc = some (.aastore, 1)) (h : gS M o = 12 ∨ gS M o = 13) (h0 : 0 ≤ i) (h1 : i.toNatClampNeg < gL M o) (h2 : gS M a = mm_el (gS M o)) : Wp L xs d m pc ls (.ref a :: .int i :: .ref o :: st) M Q = Wp L xs d m (pc + 1) ls st (pR M o i.toNatClampNeg (.ref a)) Q := Wp_s hI rfl (by unfold mm_step mm_aas; dsimp only; rw [if_pos ⟨h, h0, h1, h2⟩])
theorem w_aln {o : Nat} (hI : mm_I m pc = some (.arraylength, 1)) (h : 10 ≤ gS M o ∧ gS M o ≤ 13) : Wp L xs d m pc ls (.ref o :: st) M Q = Wp L xs d m (pc + 1) ls (.int (nI (gL M o)) :: st) M Q := Wp_s hI rfl (by unfold mm_step mm_aln; dsimp only; rw [if_pos h])
theorem w_alns (hI : mm_I m pc = some (.arraylength, 1)) : Wp L xs d m pc ls (.retAddr 200 :: st) M Q = Wp L xs d m (pc + 1) ls (.int (nI L) :: st) M Q := Wp_s hI rfl (by unfold mm_step mm_aln; dsimp only; rw [if_pos rfl])
theorem w_alnb {j : Nat} (hI : mm_I m pc = some (.arraylength, 1)) (hj : 100 ≤ j ∧ j < 113) : Wp L xs d m pc ls (.retAddr j :: st) M Q = Wp L xs d m (pc + 1) ls (.int (nI (mm_sb.getD (j - 100) []).length) :: st) M Q := Wp_s hI rfl (by unfold mm_step mm_aln; dsimp only; rw [if_neg (by omega), if_pos hj])
theorem w_new {idx : Nat} {q : Nat × Nat × Nat × Nat × Nat × Nat} (hI : mm_I m pc = some (.new idx, 3)) (hf : mm_ot.find? (fun q => q.1 == mm_cl m && q.2.1 == idx) = some q) {ci n : Nat} (hc : q.2.2.1 = ci) (hn : mm_nf ci = n) : Wp L xs d m pc ls st M Q = Wp L xs d m (pc + 3) ls (.ref (gN M) :: st) (pN M ci n n) Q := by subst hc; subst hn; exact Wp_s hI rfl (by unfold mm_step mm_new; dsimp only; rw [hf])
theorem w_nwi {n : Int32} (hI : mm_I m pc = some (.newarray .int, 2)) (h : 0 ≤ n ∧ n.toNatClampNeg ≤ 100000) : Wp L xs d m pc ls (.int n :: st) M Q = Wp L xs d m (pc + 2) ls (.ref (gN M) :: st) (pN M 10 n.toNatClampNeg n.toNatClampNeg) Q := Wp_s hI rfl (by unfold mm_step mm_nwa; dsimp only; rw [if_pos h])
theorem w_nwz {n : Int32} (hI : mm_I m pc = some (.newarray .boolean, 2)) (h : 0 ≤ n ∧ n.toNatClampNeg ≤ 100000) : Wp L xs d m pc ls (.int n :: st) M Q = Wp L xs d m (pc + 2) ls (.ref (gN M) :: st) (pN M 11 n.toNatClampNeg n.toNatClampNeg) Q := Wp_s hI rfl (by unfold mm_step mm_nwa; dsimp only; rw [if_pos h])
theorem w_ana {n : Int32} {idx : Nat} {q : Nat × Nat × Nat × Nat} (hI : mm_I m pc = some (.anewarray idx, 3)) (hf : mm_at.find? (fun q => q.1 == mm_cl m && q.2.1 == idx) = some q) (h : 0 ≤ n ∧ n.toNatClampNeg ≤ 100000) {so : Nat} (hs : q.2.2.1 = so) : Wp L xs d m pc ls (.int n :: st) M Q = Wp L xs d m (pc + 3) ls (.ref (gN M) :: st) (pN M so n.toNatClampNeg n.toNatClampNeg) Q := by subst hs; exact Wp_s hI rfl (by unfold mm_step mm_ana; dsimp only; rw [if_pos h, hf])
theorem w_ldcI {idx : Nat} {q : Nat × Nat × Int32 × Nat} {v : Int32} (hI : mm_I m pc = some (.ldc idx, 2)) (hf : mm_kt.find? (fun q => q.1 == mm_cl m && q.2.1 == idx) = some q) (hv : q.2.2.1 = v) : Wp L xs d m pc ls st M Q = Wp L xs d m (pc + 2) ls (.int v :: st) M Q := by subst hv; exact Wp_s hI rfl (by unfold mm_step; dsimp only; rw [hf])
theorem w_ldcS {idx : Nat} {q : Nat × Nat × Nat × Nat} {v : Nat} (hI : mm_I m pc = some (.ldc idx, 2)) (h0 : mm_kt.find? (fun q => q.1 == mm_cl m && q.2.1 == idx) = none) (hf : mm_st.find? (fun q => q.1 == mm_cl m && q.2.1 == idx) = some q) (hv : q.2.2.1 = v) : Wp L xs d m pc ls st M Q = Wp L xs d m (pc + 2) ls (.retAddr v :: st) M Q := by subst hv; exact Wp_s hI rfl (by unfold mm_step; dsimp only; rw [h0]; dsimp only; rw [hf])
theorem w_ldcw {idx : Nat} {q : Nat × Nat × Int32 × Nat} {v : Int32} (hI : mm_I m pc = some (.ldc_w idx, 3)) (hf : mm_kt.find? (fun q => q.1 == mm_cl m && q.2.1 == idx) = some q) (hv : q.2.2.1 = v) : Wp L xs d m pc ls st M Q = Wp L xs d m (pc + 3) ls (.int v :: st) M Q := by subst hv; exact Wp_s hI rfl (by unfold mm_step; dsimp only; rw [hf])
theorem w_ldc2 {idx : Nat} {q : Nat × Nat × Int64 × Nat} {v : Int64} (hI : mm_I m pc = some (.ldc2_w idx, 3)) (hf : mm_lt.find? (fun q => q.1 == mm_cl m && q.2.1 == idx) = some q) (hv : q.2.2.1 = v) : Wp L xs d m pc ls st M Q = Wp L xs d m (pc + 3) ls (.long v :: st) M Q := by subst hv; exact Wp_s hI rfl (by unfold mm_step; dsimp only; rw [hf])
/-- the JDK's own -/
theorem call_none_S {idx : Nat} (h : mm_ctf m idx = none) : mm_call m (.invokestatic idx) st M = none := by unfold mm_call; dsimp only; rw [h]
theorem call_none_I {idx : Nat} (h : mm_ctf m idx = none) : mm_call m (.invokespecial idx) st M = none := by unfold mm_call; dsimp only; rw [h]
theorem ret_none_S {idx : Nat} : mm_ret m (.invokestatic idx) st = none := by unfold mm_ret; split <;> rfl
theorem ret_none_I {idx : Nat} : mm_ret m (.invokespecial idx) st = none := by unfold mm_ret; split <;> rfl
theorem ret_none_V {idx : Nat} : mm_ret m (.invokevirtual idx) st = none := by unfold mm_ret; split <;> rfl
theorem w_obj {idx o : Nat} {q : Nat × Nat × Nat × Nat} (hI : mm_I m pc = some (.invokespecial idx, 3)) (hc : mm_ctf m idx = none) (hf : mm_ntv m idx = some q) (hq : q.2.2.1 = 0) (hs : mm_cs st ≤ 8) : Wp L xs (d + 1) m pc ls (.ref o :: st) M Q = Wp L xs (d + 1) m (pc + 3) ls st M Q := Wp_step hI rfl ret_none_I (call_none_I hc) (by unfold mm_step mm_obj; dsimp only; rw [hf]; dsimp only; rw [if_pos ⟨hq, Nat.succ_pos d, hs⟩])
theorem w_abs {idx : Nat} {x : Int32} {q : Nat × Nat × Nat × Nat} (hI : mm_I m pc = some (.invokestatic idx, 3)) (hc : mm_ctf m idx = none) (hf : mm_ntv m idx = some q) (hq : q.2.2.1 = 2) (hs : mm_cs st ≤ 8) : Wp L xs (d + 1) m pc ls (.int x :: st) M Q = Wp L xs (d + 1) m (pc + 3) ls (.int (if 0 ≤ x then x else 0 - x) :: st) M Q := Wp_step hI rfl ret_none_S (call_none_S hc) (by unfold mm_step mm_mat; dsimp only; rw [hf]; dsimp only; rw [if_pos ⟨hq, Nat.succ_pos d⟩, if_pos hs])
theorem w_min {idx : Nat} {x y : Int32} {q : Nat × Nat × Nat × Nat} (hI : mm_I m pc = some (.invokestatic idx, 3)) (hc : mm_ctf m idx = none) (hf : mm_ntv m idx = some q) (hq : q.2.2.1 = 3) (hs : mm_cs st ≤ 8) : Wp L xs (d + 1) m pc ls (.int y :: .int x :: st) M Q = Wp L xs (d + 1) m (pc + 3) ls (.int (if y < x then y else x) :: st) M Q := Wp_step hI rfl ret_none_S (call_none_S hc) (by unfold mm_step mm_mat; dsimp only; rw [hf]; dsimp only; rw [if_neg (by omega), if_pos ⟨hq, Nat.succ_pos d⟩, if_pos hs])
theorem w_cpy {idx a b : Nat} {n dp sp : Int32} {q : Nat × Nat × Nat × Nat} (hI : mm_I m pc = some (.invokestatic idx, 3)) (hc : mm_ctf m idx = none) (hf : mm_ntv m idx = some q) (hq : q.2.2.1 = 1) (hs : mm_cs st ≤ 8) (ha : gS M a = 10) (hb : gS M b = 10) (hn : 0 ≤ n ∧ 0 ≤ sp ∧ 0 ≤ dp) (h1 : sp.toNatClampNeg + n.toNatClampNeg ≤ gL M a) (h2 : dp.toNatClampNeg + n.toNatClampNeg ≤ gL M b) : Wp L xs (d + 1) m pc ls (.int n :: .int dp :: .ref b :: .int sp :: .ref a :: st) M Q = Wp L xs (d + 1) m (pc + 3) ls st (pC M a sp.toNatClampNeg b dp.toNatClampNeg n.toNatClampNeg) Q := Wp_step hI rfl ret_none_S (call_none_S hc) (by unfold mm_step mm_mat; dsimp only; rw [hf]; dsimp only; rw [if_neg (by omega), if_neg (by omega)]; unfold mm_cpy; dsimp only; rw [hf]; dsimp only; rw [if_pos ⟨hq, Nat.succ_pos d, ha, hb, hn.1, hn.2.1, hn.2.2, h1, h2, hs⟩])
/-- ends -/
theorem w_return {q : mm_MT} (hI : mm_I m pc = some (.return_, 1)) (hq : mm_tab[m]? = some q) (hr : q.2.2.2.1 = none) : Wp L xs d m pc ls [] M Q = Q none M := Wp_ret hI rfl (by unfold mm_ret; rw [hq]; dsimp only; rw [if_pos hr])
theorem w_ireturn {q : mm_MT} {x : Int32} (hI : mm_I m pc = some (.ireturn, 1)) (hq : mm_tab[m]? = some q) (hr : q.2.2.2.1 = some .int) : Wp L xs d m pc ls [.int x] M Q = Q (some (.int x)) M := Wp_ret hI rfl (by unfold mm_ret; rw [hq]; dsimp only; rw [hr]; dsimp only; rw [if_pos ⟨rfl, by decide⟩])
theorem w_zreturn {q : mm_MT} {x : Int32} (hI : mm_I m pc = some (.ireturn, 1)) (hq : mm_tab[m]? = some q) (hr : q.2.2.2.1 = some .boolean) (hx : x = 0 ∨ x = 1) : Wp L xs d m pc ls [.int x] M Q = Q (some (.int x)) M := Wp_ret hI rfl (by unfold mm_ret; rw [hq]; dsimp only; rw [hr]; dsimp only; rw [if_pos ⟨by rcases hx with rfl | rfl <;> rfl, by decide⟩])
theorem w_breturn {q : mm_MT} {x : Int32} {ty : FieldType} (hI : mm_I m pc = some (.ireturn, 1)) (hq : mm_tab[m]? = some q) (hr : q.2.2.2.1 = some ty) (hx : narrow ty (.int x) = .int x ∧ ty ≠ .long) : Wp L xs d m pc ls [.int x] M Q = Q (some (.int x)) M := Wp_ret hI rfl (by unfold mm_ret; rw [hq]; dsimp only; rw [hr]; dsimp only; rw [if_pos hx])
theorem w_lreturn {q : mm_MT} {x : Int64} (hI : mm_I m pc = some (.lreturn, 1)) (hq : mm_tab[m]? = some q) (hr : q.2.2.2.1 = some .long) : Wp L xs d m pc ls [.long x] M Q = Q (some (.long x)) M := Wp_ret hI rfl (by unfold mm_ret; rw [hq]; dsimp only; rw [if_pos hr])
theorem w_areturn_r {q : mm_MT} {ty : FieldType} {a : Nat} (hI : mm_I m pc = some (.areturn, 1)) (hq : mm_tab[m]? = some q) (hr : q.2.2.2.1 = some ty) (ht : ty.isReference = true) : Wp L xs d m pc ls [.ref a] M Q = Q (some (.ref a)) M := Wp_ret hI rfl (by unfold mm_ret; rw [hq]; dsimp only; rw [hr]; dsimp only; rw [if_pos ht])
theorem w_areturn_n {q : mm_MT} {ty : FieldType} (hI : mm_I m pc = some (.areturn, 1)) (hq : mm_tab[m]? = some q) (hr : q.2.2.2.1 = some ty) (ht : ty.isReference = true) : Wp L xs d m pc ls [.null] M Q = Q (some .null) M := Wp_ret hI rfl (by unfold mm_ret; rw [hq]; dsimp only; rw [hr]; dsimp only; rw [if_pos ht])
/-- calls -/
theorem w_callS {idx : Nat} {q : Nat × Nat × Nat × Bool × Nat} {r : mm_MT} {m' n : Nat} {as rest : List Value} (hI : mm_I m pc = some (.invokestatic idx, 3)) (hf : mm_ctf m idx = some q) (hm : q.2.2.1 = m' ∧ m' ≠ mm_law) (hr : mm_tab[m']? = some r) (hk : r.2.2.2.2.2.2 = 1 ∧ r.2.2.2.2.2.1 = n) (hn : as.length = n) (hs : mm_cs rest ≤ 8) : Wp L xs (d + 1) m pc ls (as.reverse ++ rest) M Q = Call L xs d m' as M (fun r M' => Wp L xs (d + 1) m (pc + 3) ls (r.toList ++ rest) M' Q) := Wp_call hI rfl ret_none_S (by
  obtain ⟨rfl, hm⟩ := hm
  obtain ⟨hk, rfl⟩ := hk
  unfold mm_call; dsimp only; rw [hf]; dsimp only; rw [hr]; dsimp only
  have e1 : List.drop r.2.2.2.2.2.1 (as.reverse ++ rest) = rest := by rw [← hn, ← List.length_reverse, List.drop_left]
  have e2 : List.take r.2.2.2.2.2.1 (as.reverse ++ rest) = as.reverse := by rw [← hn, ← List.length_reverse, List.take_left]
  rw [e1, e2, if_pos ⟨hk, by simp; omega, hs, hm⟩, List.reverse_reverse])
theorem w_callV {idx : Nat} {q : Nat × Nat × Nat × Bool × Nat} {r : mm_MT} {m' n : Nat} {v : Value} {as rest : List Value} (hI : mm_I m pc = some (.invokevirtual idx, 3)) (hf : mm_ctf m idx = some q) (hm : q.2.2.1 = m' ∧ m' ≠ mm_law ∧ q.2.2.2.1 = false) (hr : mm_tab[m']? = some r) (hk : r.2.2.2.2.2.2 = 0 ∧ r.2.2.2.2.2.1 = n) (hv : mm_rcv M r.2.2.2.2.1 v = true) (hn : as.length = n) (hs : mm_cs rest ≤ 8) : Wp L xs (d + 1) m pc ls (as.reverse ++ v :: rest) M Q = Call L xs d m' (v :: as) M (fun r M' => Wp L xs (d + 1) m (pc + 3) ls (r.toList ++ rest) M' Q) := Wp_call hI rfl ret_none_V (by
  obtain ⟨rfl, hm, hq⟩ := hm
  obtain ⟨hk, rfl⟩ := hk
  unfold mm_call; dsimp only; rw [hf]; dsimp only; rw [hr]; dsimp only
  have e1 : List.drop r.2.2.2.2.2.1 (as.reverse ++ v :: rest) = v :: rest := by rw [← hn, ← List.length_reverse, List.drop_left]
  have e2 : List.take r.2.2.2.2.2.1 (as.reverse ++ v :: rest) = as.reverse := by rw [← hn, ← List.length_reverse, List.take_left]
  rw [e1, e2]; dsimp only; rw [if_pos ⟨hk, by simp; omega, hs, hq, hv, hm⟩, List.reverse_reverse])
theorem w_callI {idx o : Nat} {q : Nat × Nat × Nat × Bool × Nat} {r : mm_MT} {m' n : Nat} {as rest : List Value} (hI : mm_I m pc = some (.invokespecial idx, 3)) (hf : mm_ctf m idx = some q) (hm : q.2.2.1 = m' ∧ m' ≠ mm_law) (hr : mm_tab[m']? = some r) (hk : r.2.2.2.2.2.2 = 2 ∧ r.2.2.2.2.2.1 = n) (hn : as.length = n) (hs : mm_cs rest ≤ 8) : Wp L xs (d + 1) m pc ls (as.reverse ++ .ref o :: rest) M Q = Call L xs d m' (.ref o :: as) M (fun r M' => Wp L xs (d + 1) m (pc + 3) ls (r.toList ++ rest) M' Q) := Wp_call hI rfl ret_none_I (by
  obtain ⟨rfl, hm⟩ := hm
  obtain ⟨hk, rfl⟩ := hk
  unfold mm_call; dsimp only; rw [hf]; dsimp only; rw [hr]; dsimp only
  have e1 : List.drop r.2.2.2.2.2.1 (as.reverse ++ .ref o :: rest) = .ref o :: rest := by rw [← hn, ← List.length_reverse, List.drop_left]
  have e2 : List.take r.2.2.2.2.2.1 (as.reverse ++ .ref o :: rest) = as.reverse := by rw [← hn, ← List.length_reverse, List.take_left]
  rw [e1, e2]; dsimp only; rw [if_pos ⟨hk, by simp; omega, hs, hm⟩, List.reverse_reverse])
theorem Call_ent {l0 as : List Value} (h : mm_ent m as = some l0) : Call L xs d m as M Q = Wp L xs d m 0 l0 [] M Q := by
  apply propext
  constructor
  · rintro ⟨l1, h1, h2⟩; rw [h] at h1; cases h1; exact h2
  · intro h2; exact ⟨l0, h, h2⟩
end WPS
