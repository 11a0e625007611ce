/-! WHAT THE SMALL MACHINE'S STATES STAND FOR -/
def mm_isnest (w : Cond) : Bool := match w with
  | .fieldLinkNest .. | .methodLinkNest .. => true
  | _ => false
/-- what stands outside the system's own cells (below base): texts, statics, the script, links between nest mates -/
def sw_W (base : Nat) (adK adV : Nat → Nat) (vf : Value) (b L : Nat) (xs : Nat → Int32) (U : State) (H : Heap) : Prop :=
  vk_S 13 (mm_sb.map List.length) mm_sb adK adV (fun q => base ≤ q) U H ∧
  va_Z "java/lang/String" "COMPACT_STRINGS" "Z" (.int 1) (fun q => base ≤ q) U H ∧
  va_Z "jdk/internal/util/Preconditions" "SIOOBE_FORMATTER" "Ljava/util/function/BiFunction;" vf (fun q => base ≤ q) U H ∧
  (∀ w ∈ lw_tbl, mm_isnest w = true → va_Nw w U) ∧ va_AO (mm_E 12) U ∧ va_AO (mm_E 13) U ∧
  (∀ q ∈ mm_st, vk_R (mm_c q.1) q.2.1 (mm_sx.getD q.2.2.1 "") (adK q.2.2.1) U) ∧ va_X b L xs U H ∧ b < base ∧ base ≤ H.size ∧ (vf = .null ∨ ∃ t, vf = .ref t)
theorem sw_same {base : Nat} {adK adV : Nat → Nat} {vf : Value} {b L : Nat} {xs : Nat → Int32} {u U : State} {H : Heap} (hv : u.vm = U.vm) (h : sw_W base adK adV vf b L xs u H) : sw_W base adK adV vf b L xs U H := by
  have ha : u.vm.Alike U.vm := by rw [hv]; exact Vm.Alike.refl U.vm
  obtain ⟨h1, h2, h3, h4, h5, h6, h7, h8, h9⟩ := h
  refine ⟨h1.moved ha, h2.moved ha, h3.moved ha, fun w hw hn => va_Nw.same ?_ hv (h4 w hw hn), h5.moved ha, h6.moved ha, fun q hq => vk_R.same hv.symm (h7 q hq), h8.moved ha, h9⟩
  cases w <;> first | rfl | (exact absurd hn Bool.false_ne_true)
theorem sw_warm {base : Nat} {adK adV : Nat → Nat} {vf : Value} {b L : Nat} {xs : Nat → Int32} {s U : State} {H H1 : Heap} (hW : s.WarmedH U.vm) (hz : base ≤ H1.size) (hq : ∀ a : Nat, a < H.size → ¬ base ≤ a → H1[a]? = H[a]?) (h : sw_W base adK adV vf b L xs s H) : sw_W base adK adV vf b L xs U H1 := by
  have ha := hW.alike
  obtain ⟨h1, h2, h3, h4, h5, h6, h7, h8, h9, h10, h11⟩ := h
  refine ⟨(h1.moved ha).kept hq, (h2.moved ha).kept hq, (h3.moved ha).kept hq, fun w hw hn => ?_, h5.moved ha, h6.moved ha, fun q hq => vk_R.warm hW (h7 q hq), (h8.moved ha).kept (hq b (Nat.lt_of_lt_of_le h9 h10) (Nat.not_le.mpr h9)), h9, hz, h11⟩
  have h := h4 w hw hn
  cases w <;> first | exact va_Nw.warmF hW h | exact va_Nw.warmM hW h | (exact absurd hn Bool.false_ne_true)
/-- a value of the small machine, and the machine's own -/
def vr (vf : Value) (b : Nat) (adK adV : Nat → Nat) (ads : List Nat) (v r : Value) : Prop := match v with
  | .int x => r = .int x
  | .long x => r = .long x
  | .null => r = .null
  | .ref k => ∃ a, ads[k]? = some a ∧ r = .ref a
  | .retAddr j => (j < 13 ∧ r = .ref (adK j)) ∨ (100 ≤ j ∧ j < 113 ∧ r = .ref (adV (j - 100))) ∨ (j = 200 ∧ r = .ref b) ∨ (j = 300 ∧ r = vf)
  | _ => False
def ex_t (a b : List Nat) : Prop := ∀ (k x : Nat), a[k]? = some x → b[k]? = some x
theorem ex_refl (a : List Nat) : ex_t a a := fun _ _ h => h
theorem ex_trans {a b c : List Nat} (h : ex_t a b) (h2 : ex_t b c) : ex_t a c := fun k x q => h2 k x (h k x q)
theorem ex_app (a b : List Nat) : ex_t a (a ++ b) := fun k x h => by
  rw [List.getElem?_append_left (List.getElem?_eq_some_iff.mp h).1]; exact h
theorem vr_mono {vf : Value} {b : Nat} {adK adV : Nat → Nat} {ads ads' : List Nat} {v r : Value} (he : ex_t ads ads') (h : vr vf b adK adV ads v r) : vr vf b adK adV ads' v r := by
  cases v with
  | ref k => obtain ⟨a, h1, h2⟩ := h; exact ⟨a, he k a h1, h2⟩
  | _ => exact h
theorem vr_cat {vf : Value} (hf : vf = .null ∨ ∃ t, vf = .ref t) {b : Nat} {adK adV : Nat → Nat} {ads : List Nat} {v r : Value} (h : vr vf b adK adV ads v r) : r.category = v.category := by
  cases v with
  | ref k => obtain ⟨a, h1, rfl⟩ := h; rfl
  | retAddr j =>
    rcases h with ⟨_, rfl⟩ | ⟨_, _, rfl⟩ | ⟨_, rfl⟩ | ⟨_, rfl⟩
    · rfl
    · rfl
    · rfl
    · rcases hf with rfl | ⟨t, rfl⟩ <;> rfl
  | int x => cases h; rfl
  | long x => cases h; rfl
  | null => cases h; rfl
  | _ => exact absurd h (by intro q; exact q)
/-- stacks -/
def sr (V : Value → Value → Prop) : List Value → List Value → Prop
  | [], [] => True
  | v :: l, r :: k => V v r ∧ sr V l k
  | _, _ => False
theorem sr_mono {V V' : Value → Value → Prop} (h : ∀ v r, V v r → V' v r) : ∀ {l k : List Value}, sr V l k → sr V' l k
  | [], [], _ => True.intro
  | _ :: _, _ :: _, q => ⟨h _ _ q.1, sr_mono h q.2⟩
  | [], _ :: _, q => q.elim
  | _ :: _, [], q => q.elim
theorem sr_len {V : Value → Value → Prop} : ∀ {l k : List Value}, sr V l k → l.length = k.length
  | [], [], _ => rfl
  | _ :: _, _ :: _, q => by simp [sr_len q.2]
  | [], _ :: _, q => q.elim
  | _ :: _, [], q => q.elim
theorem sr_drop {V : Value → Value → Prop} : ∀ (n : Nat) {l k : List Value}, sr V l k → sr V (l.drop n) (k.drop n)
  | 0, _, _, q => q
  | _ + 1, [], [], _ => True.intro
  | n + 1, _ :: _, _ :: _, q => sr_drop n q.2
  | _ + 1, [], _ :: _, q => q.elim
  | _ + 1, _ :: _, [], q => q.elim
theorem sr_take {V : Value → Value → Prop} : ∀ (n : Nat) {l k : List Value}, sr V l k → sr V (l.take n) (k.take n)
  | 0, _, _, _ => True.intro
  | _ + 1, [], [], _ => True.intro
  | n + 1, _ :: _, _ :: _, q => ⟨q.1, sr_take n q.2⟩
  | _ + 1, [], _ :: _, q => q.elim
  | _ + 1, _ :: _, [], q => q.elim
theorem sr_app {V : Value → Value → Prop} : ∀ {l k l2 k2 : List Value}, sr V l k → sr V l2 k2 → sr V (l ++ l2) (k ++ k2)
  | [], [], _, _, _, q => q
  | _ :: _, _ :: _, _, _, q, q2 => ⟨q.1, sr_app q.2 q2⟩
  | [], _ :: _, _, _, q, _ => q.elim
  | _ :: _, [], _, _, q, _ => q.elim
theorem sr_rev {V : Value → Value → Prop} : ∀ {l k : List Value}, sr V l k → sr V l.reverse k.reverse
  | [], [], _ => True.intro
  | _ :: _, _ :: _, q => by rw [List.reverse_cons, List.reverse_cons]; exact sr_app (sr_rev q.2) ⟨q.1, True.intro⟩
  | [], _ :: _, q => q.elim
  | _ :: _, [], q => q.elim
theorem sr_cs {V : Value → Value → Prop} (h : ∀ v r, V v r → r.category = v.category) : ∀ {l k : List Value}, sr V l k → (k.map fun v => v.category).sum = mm_cs l
  | [], [], _ => rfl
  | _ :: _, _ :: _, q => by rw [List.map_cons, List.sum_cons, mm_cs, h _ _ q.1, sr_cs h q.2]
  | [], _ :: _, q => q.elim
  | _ :: _, [], q => q.elim
/-- locals -/
def lr (V : Value → Value → Prop) (lm : List Value) (ls : Array Slot) : Prop := ∃ lv, lv_has ls lm.length lv ∧ ∀ i v, lm[i]? = some v → v ≠ mm_U → ∃ r, V v r ∧ (i, r) ∈ lv
theorem lr_at {V : Value → Value → Prop} {lm : List Value} {ls : Array Slot} (h : lr V lm ls) {i : Nat} {v : Value} (hv : lm[i]? = some v) (hn : v ≠ mm_U) : ∃ r, V v r ∧ ls[i]? = some (.val r) := by
  obtain ⟨lv, h1, h2⟩ := h
  obtain ⟨r, h3, h4⟩ := h2 i v hv hn
  exact ⟨r, h3, h1.2.2 (i, r) h4⟩
theorem lr_mono {V V' : Value → Value → Prop} (h : ∀ v r, V v r → V' v r) {lm : List Value} {ls : Array Slot} (q : lr V lm ls) : lr V' lm ls := by
  obtain ⟨lv, h1, h2⟩ := q
  exact ⟨lv, h1, fun i v hv hn => by obtain ⟨r, a, b⟩ := h2 i v hv hn; exact ⟨r, h v r a, b⟩⟩
theorem lr_put {V : Value → Value → Prop} (hc : ∀ v r, V v r → r.category = v.category) {lm lm' : List Value} {ls' : Array Slot} {i : Nat} {v r : Value} {lv : List (Nat × Value)} (hp : mm_put lm i v = some lm') (hV : V v r)
    (h2 : ∀ i v, lm[i]? = some v → v ≠ mm_U → ∃ r, V v r ∧ (i, r) ∈ lv) (h' : lv_has ls' lm.length ((i, r) :: lv.filter (fun q => !(q.1 == i) && !(q.1 + 1 == i && q.2.category == 2)))) : lr V lm' ls' := by
  unfold mm_put at hp
  split at hp
  · next hcnd =>
    cases hp
    refine ⟨_, by rw [List.length_set]; exact h', fun j w hw hn => ?_⟩
    by_cases hj : j = i
    · subst hj
      rw [List.getElem?_set_self hcnd.1] at hw
      cases hw
      exact ⟨r, hV, List.mem_cons_self⟩
    · rw [List.getElem?_set_ne (Ne.symm hj)] at hw
      obtain ⟨r2, a, b⟩ := h2 j w hw hn
      refine ⟨r2, a, List.mem_cons_of_mem _ (List.mem_filter.mpr ⟨b, ?_⟩)⟩
      have e1 : (j == i) = false := by simpa using hj
      simp only [e1, Bool.not_false, Bool.true_and]
      by_cases hji : j + 1 = i
      · subst hji
        have hnl := hcnd.2
        simp only [mm_nl, hw] at hnl
        have hcat : w.category ≠ 2 := by
          cases w <;> simp_all [Value.category]
        rw [hc _ _ a]
        simp [hcat]
      · have e2 : (j + 1 == i) = false := by simpa using hji
        simp [e2]
  · cases hp
theorem lr_put2 {V : Value → Value → Prop} (hc : ∀ v r, V v r → r.category = v.category) {lm lm' : List Value} {ls' : Array Slot} {i : Nat} {v r : Value} {lv : List (Nat × Value)} (hp : mm_put2 lm i v = some lm') (hV : V v r)
    (h2 : ∀ i v, lm[i]? = some v → v ≠ mm_U → ∃ r, V v r ∧ (i, r) ∈ lv) (h' : lv_has ls' lm.length ((i, r) :: lv.filter (fun q => !(q.1 == i) && (!(q.1 == i + 1) && !(q.1 + 1 == i && q.2.category == 2))))) : lr V lm' ls' := by
  unfold mm_put2 at hp
  split at hp
  · next hcnd =>
    cases hp
    refine ⟨_, by rw [List.length_set, List.length_set]; exact h', fun j w hw hn => ?_⟩
    by_cases hj1 : j = i + 1
    · subst hj1
      rw [List.getElem?_set_self (by rw [List.length_set]; exact hcnd.1)] at hw
      cases hw
      exact absurd rfl hn
    · rw [List.getElem?_set_ne (Ne.symm hj1)] at hw
      by_cases hj : j = i
      · subst hj
        rw [List.getElem?_set_self (by omega)] at hw
        cases hw
        exact ⟨r, hV, List.mem_cons_self⟩
      · rw [List.getElem?_set_ne (Ne.symm hj)] at hw
        obtain ⟨r2, a, b⟩ := h2 j w hw hn
        refine ⟨r2, a, List.mem_cons_of_mem _ (List.mem_filter.mpr ⟨b, ?_⟩)⟩
        have e1 : (j == i) = false := by simpa using hj
        have e3 : (j == i + 1) = false := by simpa using hj1
        simp only [e1, e3, Bool.not_false, Bool.true_and]
        by_cases hji : j + 1 = i
        · subst hji
          have hnl := hcnd.2
          simp only [mm_nl, hw] at hnl
          have hcat : w.category ≠ 2 := by
            cases w <;> simp_all [Value.category]
          rw [hc _ _ a]
          simp [hcat]
        · have e2 : (j + 1 == i) = false := by simpa using hji
          simp [e2]
  · cases hp
/-- what a method begins with -/
theorem lv_args_ex {V : Value → Value → Prop} (hc : ∀ v r, V v r → r.category = v.category) (hd : ∀ x r, ¬ V (.double x) r) : ∀ {as ras : List Value} (n : Nat), sr V as ras → (mm_ex as).length = (lg_sl ras).length ∧ ∀ i v, (mm_ex as)[i]? = some v → v ≠ mm_U → ∃ r, V v r ∧ (n + i, r) ∈ lv_args n ras
  | [], [], n, _ => ⟨rfl, fun i v h => by simp [mm_ex] at h⟩
  | a :: as, r :: ras, n, q => by
    by_cases h2 : a.category = 2
    · have hr2 : r.category = 2 := by rw [hc _ _ q.1]; exact h2
      obtain ⟨x, rfl⟩ : ∃ x, a = .long x := by
        cases a <;> first | exact ⟨_, rfl⟩ | (exact absurd (show (1 : Nat) = 2 from h2) (by decide)) | (exact absurd q.1 (hd _ _))
      obtain ⟨e1, e2⟩ := lv_args_ex hc hd (n + 2) q.2
      have es : lg_sl (r :: ras) = .val r :: .second :: lg_sl ras := by simp [lg_sl, hr2]
      refine ⟨by rw [es]; simp [mm_ex, e1], fun i v hi hn => ?_⟩
      rw [lv_args, if_pos hr2]
      match i, hi with
      | 0, hi => cases hi; exact ⟨r, q.1, List.mem_cons_self⟩
      | 1, hi => cases hi; exact absurd rfl hn
      | i + 2, hi =>
        obtain ⟨r2, a, b⟩ := e2 i v hi hn
        exact ⟨r2, a, List.mem_cons_of_mem _ (by rw [show n + (i + 2) = n + 2 + i by omega]; exact b)⟩
    · have hr2 : ¬ r.category = 2 := by rw [hc _ _ q.1]; exact h2
      obtain ⟨e1, e2⟩ := lv_args_ex hc hd (n + 1) q.2
      have es : lg_sl (r :: ras) = .val r :: lg_sl ras := by simp [lg_sl, hr2]
      have em : mm_ex (a :: as) = a :: mm_ex as := by
        cases a <;> first | rfl | (exact absurd (by decide) h2) | (exact absurd rfl h2)
      refine ⟨by rw [es, em]; simp [e1], fun i v hi hn => ?_⟩
      rw [em] at hi
      rw [lv_args, if_neg hr2]
      match i, hi with
      | 0, hi => cases hi; exact ⟨r, q.1, List.mem_cons_self⟩
      | i + 1, hi =>
        obtain ⟨r2, a, b⟩ := e2 i v hi hn
        exact ⟨r2, a, List.mem_cons_of_mem _ (by rw [show n + (i + 1) = n + 1 + i by omega]; exact b)⟩
  | [], _ :: _, _, q => q.elim
  | _ :: _, [], _, q => q.elim
theorem lr_entry {V : Value → Value → Prop} (hc : ∀ v r, V v r → r.category = v.category) (hd : ∀ x r, ¬ V (.double x) r) {as ras : List Value} (q : sr V as ras) {n : Nat} (hn : (mm_ex as).length ≤ n) :
    lr V (mm_ex as ++ List.replicate (n - (mm_ex as).length) mm_U) ((lg_sl ras ++ List.replicate (n - (lg_sl ras).length) Slot.unset).toArray) := by
  obtain ⟨e1, e2⟩ := lv_args_ex hc hd 0 q
  have hl := lv_entry ras (n := n) (by rw [← e1]; exact hn)
  refine ⟨lv_args 0 ras, ?_, fun i v hi hu => ?_⟩
  · rw [show (mm_ex as ++ List.replicate (n - (mm_ex as).length) mm_U).length = n by simp; omega]
    exact hl
  · by_cases hlt : i < (mm_ex as).length
    · rw [List.getElem?_append_left hlt] at hi
      obtain ⟨r, a, b⟩ := e2 i v hi hu
      exact ⟨r, a, by rw [show i = 0 + i by omega]; exact b⟩
    · rw [List.getElem?_append_right (by omega)] at hi
      exact absurd (List.eq_of_mem_replicate (List.mem_of_getElem? hi)) hu
/-- a cell of the small machine, and the machine's own -/
def cr (V : Value → Value → Prop) (tys : List (ClassId × FieldType)) (M : mm_H) (k : Nat) (e : va_E) : Prop :=
  (gS M k < 7 ∧ ∃ fs, e = .inr (gS M k, fs) ∧ fs.length = mm_nf (gS M k) ∧ ∀ j, j < mm_nf (gS M k) → ∃ r, fs[j]? = some r ∧ (if mm_rf (mm_ty (gS M k) j) = true then V (gR M k j) r else r = .int (gI M k j))) ∨
  (gS M k = 10 ∧ ∃ (cA : ClassId) (t0 : Nat) (g : Nat → Int32), e = .inl (cA, gL M k, .inl g) ∧ tys[t0]? = some (cA, FieldType.int) ∧ ∀ j, j < gL M k → g j = gI M k j) ∨
  (gS M k = 11 ∧ ∃ (cA : ClassId) (t0 : Nat) (g : Nat → Int32), e = .inl (cA, gL M k, .inl g) ∧ tys[t0]? = some (cA, FieldType.boolean) ∧ ∀ j, j < gL M k → g j = gI M k j) ∨
  ((gS M k = 12 ∨ gS M k = 13) ∧ ∃ (cA : ClassId) (t0 : Nat) (g : Nat → Option Nat), e = .inl (cA, gL M k, .inr (.inr (.inr (.inr g)))) ∧ tys[t0]? = some (cA, FieldType.object (mm_E (gS M k))) ∧ ∀ j, j < gL M k → V (gR M k j) (va_rf (g j)))
theorem cr_mono {V V' : Value → Value → Prop} (h : ∀ v r, V v r → V' v r) {tys tys' : List (ClassId × FieldType)} (ht : ∀ (k : Nat) x, tys[k]? = some x → tys'[k]? = some x) {M : mm_H} {k : Nat} {e : va_E} (q : cr V tys M k e) : cr V' tys' M k e := by
  rcases q with ⟨h1, fs, h2, h3, h4⟩ | ⟨h1, cA, t0, g, h2, h3, h4⟩ | ⟨h1, cA, t0, g, h2, h3, h4⟩ | ⟨h1, cA, t0, g, h2, h3, h4⟩
  · refine Or.inl ⟨h1, fs, h2, h3, fun j hj => ?_⟩
    obtain ⟨r, a, b⟩ := h4 j hj
    refine ⟨r, a, ?_⟩
    split at b
    · next hc => rw [if_pos hc]; exact h _ _ b
    · next hc => rw [if_neg hc]; exact b
  · exact Or.inr (Or.inl ⟨h1, cA, t0, g, h2, ht _ _ h3, h4⟩)
  · exact Or.inr (Or.inr (Or.inl ⟨h1, cA, t0, g, h2, ht _ _ h3, h4⟩))
  · exact Or.inr (Or.inr (Or.inr ⟨h1, cA, t0, g, h2, ht _ _ h3, fun j hj => h _ _ (h4 j hj)⟩))
/-- the same cell in another heap of the small machine -/
theorem cr_same {V : Value → Value → Prop} {tys : List (ClassId × FieldType)} {M M' : mm_H} {k : Nat} {e : va_E} (q : cr V tys M k e) (h1 : M'.2.2.1 k = M.2.2.1 k) (h2 : ∀ j, gI M' k j = gI M k j) (h3 : ∀ j, gR M' k j = gR M k j) : cr V tys M' k e := by
  have e1 : gS M' k = gS M k := by unfold gS; rw [h1]
  have e2 : gL M' k = gL M k := by unfold gL; rw [h1]
  unfold cr
  rw [e1, e2]
  simp only [h2, h3]
  exact q
def pw (V : Value → Value → Prop) (ads : List Nat) (ws : va_W) (tys : List (ClassId × FieldType)) (M : mm_H) : Prop :=
  ads.length = gN M ∧ ws.length = gN M ∧ ∀ k, k < gN M → ∃ a e, ads[k]? = some a ∧ ws[k]? = some (a, e) ∧ cr V tys M k e
/-- a cell changes -/
theorem pw_set {V : Value → Value → Prop} {ads : List Nat} {ws : va_W} {tys : List (ClassId × FieldType)} {M M' : mm_H} (h : pw V ads ws tys M) {k a : Nat} {e' : va_E} (hk : ads[k]? = some a) (hN : gN M' = gN M)
    (hs : M'.2.2.1 = M.2.2.1) (ho : ∀ x, x ≠ k → (∀ j, gI M' x j = gI M x j) ∧ ∀ j, gR M' x j = gR M x j) (hc : cr V tys M' k e') : pw V ads (ws.set k (a, e')) tys M' := by
  obtain ⟨h1, h2, h3⟩ := h
  refine ⟨by rw [hN]; exact h1, by rw [hN, List.length_set]; exact h2, fun x hx => ?_⟩
  rw [hN] at hx
  by_cases hxk : x = k
  · subst hxk
    exact ⟨a, e', hk, by rw [List.getElem?_set_self (by omega)], hc⟩
  · obtain ⟨a2, e2, g1, g2, g3⟩ := h3 x hx
    exact ⟨a2, e2, g1, by rw [List.getElem?_set_ne (Ne.symm hxk)]; exact g2, cr_same g3 (by rw [hs]) (ho x hxk).1 (ho x hxk).2⟩
/-- a cell comes -/
theorem pw_new {vf : Value} {b : Nat} {adK adV : Nat → Nat} {ads : List Nat} {ws : va_W} {tys tys' : List (ClassId × FieldType)} {M : mm_H} (h : pw (vr vf b adK adV ads) ads ws tys M) {so len sl q : Nat} {e : va_E}
    (ht : ∀ (k : Nat) x, tys[k]? = some x → tys'[k]? = some x) (hc : cr (vr vf b adK adV (ads ++ [q])) tys' (pN M so len sl) (gN M) e) : pw (vr vf b adK adV (ads ++ [q])) (ads ++ [q]) (ws ++ [(q, e)]) tys' (pN M so len sl) := by
  obtain ⟨h1, h2, h3⟩ := h
  have hN : gN (pN M so len sl) = gN M + 1 := rfl
  refine ⟨by rw [hN]; simp [h1], by rw [hN]; simp [h2], fun x hx => ?_⟩
  rw [hN] at hx
  by_cases hxk : x = gN M
  · subst hxk
    exact ⟨q, e, by rw [← h1]; simp, by rw [← h2]; simp, hc⟩
  · have hlt : x < gN M := by omega
    obtain ⟨a2, e2, g1, g2, g3⟩ := h3 x hlt
    refine ⟨a2, e2, ex_app _ _ _ _ g1, by rw [List.getElem?_append_left (by omega)]; exact g2, cr_same (cr_mono (fun v r => vr_mono (ex_app _ _)) ht g3) ?_ (fun j => ?_) (fun j => ?_)⟩
    · show (if x = gN M then _ else _) = _; rw [if_neg hxk]
    · show (if x = gN M then _ else _) = _; rw [if_neg hxk]; rfl
    · show (if x = gN M then _ else _) = _; rw [if_neg hxk]; rfl
theorem mm_step_mono {L : Nat} {xs : Nat → Int32} {d m pc : Nat} {i : Instr} {ls st : List Value} {M : mm_H} {pc' : Nat} {ls' st' : List Value} {M' : mm_H} (h : mm_step L xs d m pc i ls st M = some (pc', ls', st', M')) : gN M ≤ gN M' ∧ gZ M ≤ gZ M' := by
  unfold mm_step at h
  split at h <;> (try simp only [mm_ldI, mm_ldL, mm_ldA, mm_stI, mm_stL, mm_stA, mm_bin, mm_div, mm_binL, mm_divL, mm_un, mm_br, mm_gf, mm_pf, mm_gs, mm_ial, mm_bal, mm_aal, mm_ias, mm_bas, mm_aas, mm_aln, mm_new, mm_nwa, mm_ana, mm_mat, mm_cpy, mm_obj] at h) <;>
    (repeat' split at h) <;> (first | (cases h; exact ⟨Nat.le_refl _, Nat.le_refl _⟩) | (cases h; exact ⟨Nat.le_succ _, Nat.le_add_right _ _⟩) | (cases h; done))
theorem mm_run_mono {L : Nat} {xs : Nat → Int32} : ∀ (n d m pc : Nat) (ls st : List Value) (M : mm_H) (r : Option Value) (M' : mm_H), mm_run L xs n d m pc ls st M = some (r, M') → gN M ≤ gN M' ∧ gZ M ≤ gZ M' := by
  intro n
  induction n with
  | zero => intro d m pc ls st M r M' h; simp [mm_run] at h
  | succ n ih =>
    intro d m pc ls st M r M' h
    unfold mm_run at h
    split at h
    · cases h
    · split at h
      · split at h
        · cases h; exact ⟨Nat.le_refl _, Nat.le_refl _⟩
        · split at h
          · split at h
            · cases h
            · split at h
              · cases h
              · split at h
                · cases h
                · next h1 =>
                  have a := ih _ _ _ _ _ _ _ _ h1
                  have b := ih _ _ _ _ _ _ _ _ h
                  exact ⟨Nat.le_trans a.1 b.1, Nat.le_trans a.2 b.2⟩
          · split at h
            · cases h
            · next h1 =>
              have a := mm_step_mono h1
              have b := ih _ _ _ _ _ _ _ _ h
              exact ⟨Nat.le_trans a.1 b.1, Nat.le_trans a.2 b.2⟩
      · cases h
