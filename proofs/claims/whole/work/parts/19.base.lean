/-! base rows for simp -/
/-- an equation that simp doesn't take for a definitional one -/
theorem nrfl {α : Sort _} {a b : α} (h : a = b) : a = b := h
theorem bc1_i {x : Int32} : mm_c1 (.int x) = true := nrfl rfl
theorem bc1_r {x : Nat} : mm_c1 (.ref x) = true := nrfl rfl
theorem bc1_n : mm_c1 .null = true := nrfl rfl
theorem bc1_U : mm_c1 mm_U = true := nrfl rfl
theorem bisA_r {x : Nat} : mm_isA (.ref x) = true := nrfl rfl
theorem bisA_n : mm_isA .null = true := nrfl rfl
theorem bisA_a {x : Nat} : mm_isA (.retAddr x) = true := nrfl rfl
theorem bct_i {x : Int32} : (Value.int x).category = 1 := nrfl rfl
theorem bct_r {x : Nat} : (Value.ref x).category = 1 := nrfl rfl
theorem bct_n : Value.null.category = 1 := nrfl rfl
theorem bcs_0 : mm_cs [] = 0 := nrfl rfl
theorem bcs_i {x : Int32} {r : List Value} : mm_cs (.int x :: r) = 1 + mm_cs r := nrfl rfl
theorem bcs_r {x : Nat} {r : List Value} : mm_cs (.ref x :: r) = 1 + mm_cs r := nrfl rfl
theorem bcs_l {x : Int64} {r : List Value} : mm_cs (.long x :: r) = 2 + mm_cs r := nrfl rfl
theorem bcs_a {x : Nat} {r : List Value} : mm_cs (.retAddr x :: r) = 1 + mm_cs r := nrfl rfl
theorem brt_0 {r : List Value} : (none : Option Value).toList ++ r = r := nrfl rfl
theorem brt_1 {v : Value} {r : List Value} : (some v).toList ++ r = v :: r := nrfl rfl
theorem bz0 : ((0 : Int32) = 0 ∨ (0 : Int32) = 1) = True := eq_true (Or.inl rfl)
theorem bz1 : ((1 : Int32) = 0 ∨ (1 : Int32) = 1) = True := eq_true (Or.inr rfl)
