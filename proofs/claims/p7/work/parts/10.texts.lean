/-- the empty heap -/
def mm_0 : mm_H := (fun _ _ => 0, fun _ _ => .null, fun _ => (0, 0), 0, 0)
def sw_tm (i : Nat) : Term := .string (mm_c (mm_st.getD i (0, 0, 0, 0)).1) (mm_st.getD i (0, 0, 0, 0)).2.1
def sw_fl : List Cond := flatC (Jvm.Cond.and given_1 narrow_1)
theorem sw_hex : ∀ i, i < 13 → Cond.exactly (sw_tm i) "java/lang/String" ∈ sw_fl := by decide +kernel
theorem sw_hco : ∀ i, i < 13 → Cond.eq (.field (sw_tm i) "java/lang/String" "coder" "B") (.int 0) ∈ sw_fl := by decide +kernel
theorem sw_har : ∀ i, i < 13 → Cond.arrayOf (.field (sw_tm i) "java/lang/String" "value" "[B") .byte ∈ sw_fl := by decide +kernel
theorem sw_hle : ∀ i, i < 13 → Cond.eq (.length (.field (sw_tm i) "java/lang/String" "value" "[B")) (.int (Int32.ofNat ((mm_sb.map List.length).getD i 0))) ∈ sw_fl := by decide +kernel
theorem sw_hel : ∀ i, i < 13 → ∀ j, j < (mm_sb.map List.length).getD i 0 → Cond.eq (.elem (.field (sw_tm i) "java/lang/String" "value" "[B") (.int (Int32.ofNat j))) (.int ((mm_sb.getD i []).getD j 0)) ∈ sw_fl := by decide +kernel
def sw_pn (w : Cond) : Option (Nat × Nat × String × String) := match w with
  | .not (.eq (.string a i) (.string c j)) => some (i, j, a, c)
  | _ => none
def sw_nl : List (Nat × Nat × String × String) := sw_fl.filterMap sw_pn
theorem sw_pn_of {i j : Nat} {a c : String} (h : (i, j, a, c) ∈ sw_nl) : Cond.not (Cond.eq (.string a i) (.string c j)) ∈ sw_fl := by
  obtain ⟨w, h1, h2⟩ := List.mem_filterMap.mp h
  unfold sw_pn at h2
  split at h2
  · cases h2; exact h1
  · cases h2
def sw_q (i : Nat) : Nat × Nat × Nat × Nat := mm_st.getD i (0, 0, 0, 0)
def sw_two (i j : Nat) : Bool := i == j || (sw_nl.contains ((sw_q i).2.1, (sw_q j).2.1, mm_c (sw_q i).1, mm_c (sw_q j).1) || sw_nl.contains ((sw_q j).2.1, (sw_q i).2.1, mm_c (sw_q j).1, mm_c (sw_q i).1))
theorem sw_two_all : ((List.range 13).all fun i => (List.range 13).all fun j => sw_two i j) = true := by decide +kernel
theorem sw_hne (i : Nat) (hi : i < 13) (j : Nat) (hj : j < 13) (hne : i ≠ j) : Cond.not (Cond.eq (sw_tm i) (sw_tm j)) ∈ sw_fl ∨ Cond.not (Cond.eq (sw_tm j) (sw_tm i)) ∈ sw_fl := by
  have h := List.all_eq_true.mp (List.all_eq_true.mp sw_two_all i (List.mem_range.mpr hi)) j (List.mem_range.mpr hj)
  unfold sw_two at h
  simp only [Bool.or_eq_true, beq_iff_eq, List.contains_iff_mem] at h
  rcases h with h | h | h
  · exact absurd h hne
  · exact Or.inl (sw_pn_of h)
  · exact Or.inr (sw_pn_of h)
theorem sw_hN : ∀ i, i < 13 → (mm_sb.map List.length).getD i 0 < 2 ^ 31 := by decide +kernel
theorem sw_hcs : Cond.eq (.static "java/lang/String" "COMPACT_STRINGS" "Z") (.int 1) ∈ sw_fl ∧ Cond.isRef (.static "jdk/internal/util/Preconditions" "SIOOBE_FORMATTER" "Ljava/util/function/BiFunction;") ∈ sw_fl := by decide +kernel
theorem sw_hla : lw_tbl[268]? = some (.laysStatic "java/lang/String" "COMPACT_STRINGS" "Z") ∧ lw_tbl[284]? = some (.laysStatic "jdk/internal/util/Preconditions" "SIOOBE_FORMATTER" "Ljava/util/function/BiFunction;") ∧ lw_tbl[98]? = some (.initialized "java/lang/String") ∧ lw_tbl[100]? = some (.initialized "jdk/internal/util/Preconditions") ∧ lw_tbl[125]? = some (.arrayOver (.object (mm_E 12))) ∧ lw_tbl[238]? = some (.arrayOver (.object (mm_E 13))) := by decide +kernel
theorem sw_hin : ∀ ci, ci < 7 → (mm_wa ([95, 94, 97, 103, 96, 93, 107].getD ci 0) (.initialized (mm_C ci)) && mm_wa ([143, 119, 239, 394, 181, 111, 799].getD ci 0) (.instantiable (mm_C ci) (mm_nf ci))) = true := by decide +kernel
theorem mm_ws_sub : ∀ w ∈ mm_ws, w ∈ lw_tbl := fun w hw => (List.mem_filter.mp hw).1
theorem sw_stq : ∀ q ∈ mm_st, q.2.2.1 < 13 ∧ sw_tm q.2.2.1 = .string (mm_c q.1) q.2.1 := by decide +kernel
