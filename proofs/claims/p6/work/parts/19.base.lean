/-! base rows for simp -/
/-- an equation that simp doesn't take for a definitional one -/
theorem nrfl {α : Sort _} {a b : α} (h : a = b) : a = b := h
theorem bc1_i {x : Int32} : mm_c1 (.int x) = true := nrfl rfl
theorem bc1_r {x : Nat} : mm_c1 (.ref x) = true := nrfl rfl
theorem bc1_n : mm_c1 .null = true := nrfl rfl
theorem bc1_U : mm_c1 mm_U = true := nrfl rfl
theorem bisA_r {x : Nat} : mm_isA (.ref x) = true := nrfl rfl
theorem bisA_n : mm_isA .null = true := nrfl rfl
theorem bisA_a {x : Nat} : mm_isA (.retAddr x) = true := nrfl rfl
theorem bct_i {x : Int32} : (Value.int x).category = 1 := nrfl rfl
theorem bct_r {x : Nat} : (Value.ref x).category = 1 := nrfl rfl
theorem bct_l {x : Int64} : (Value.long x).category = 2 := nrfl rfl
theorem bct_n : Value.null.category = 1 := nrfl rfl
theorem bcs_0 : mm_cs [] = 0 := nrfl rfl
theorem bcs_i {x : Int32} {r : List Value} : mm_cs (.int x :: r) = 1 + mm_cs r := nrfl rfl
theorem bcs_r {x : Nat} {r : List Value} : mm_cs (.ref x :: r) = 1 + mm_cs r := nrfl rfl
theorem bcs_l {x : Int64} {r : List Value} : mm_cs (.long x :: r) = 2 + mm_cs r := nrfl rfl
theorem bcs_a {x : Nat} {r : List Value} : mm_cs (.retAddr x :: r) = 1 + mm_cs r := nrfl rfl
theorem brt_0 {r : List Value} : (none : Option Value).toList ++ r = r := nrfl rfl
theorem brt_1 {v : Value} {r : List Value} : (some v).toList ++ r = v :: r := nrfl rfl
theorem bz0 : ((0 : Int32) = 0 ∨ (0 : Int32) = 1) = True := eq_true (Or.inl rfl)
theorem bz1 : ((1 : Int32) = 0 ∨ (1 : Int32) = 1) = True := eq_true (Or.inr rfl)
theorem bc1_a {x : Nat} : mm_c1 (.retAddr x) = true := nrfl rfl
theorem bd1 {d : Nat} : d + 1 + 1 = d + 2 := nrfl rfl
theorem bd2 {d : Nat} : d + 2 + 1 = d + 3 := nrfl rfl
theorem bd3 {d : Nat} : d + 3 + 1 = d + 4 := nrfl rfl
theorem bd4 {d : Nat} : d + 4 + 1 = d + 5 := nrfl rfl
theorem bd5 {d : Nat} : d + 5 + 1 = d + 6 := nrfl rfl
theorem bd6 {d : Nat} : d + 6 + 1 = d + 7 := nrfl rfl
theorem bd7 {d : Nat} : d + 7 + 1 = d + 8 := nrfl rfl
theorem bd8 {d : Nat} : d + 8 + 1 = d + 9 := nrfl rfl
theorem bd9 {d : Nat} : d + 9 + 1 = d + 10 := nrfl rfl
theorem bd10 {d : Nat} : d + 10 + 1 = d + 11 := nrfl rfl
theorem bd11 {d : Nat} : d + 11 + 1 = d + 12 := nrfl rfl
theorem bd12 {d : Nat} : d + 12 + 1 = d + 13 := nrfl rfl
theorem bd13 {d : Nat} : d + 13 + 1 = d + 14 := nrfl rfl
theorem bd14 {d : Nat} : d + 14 + 1 = d + 15 := nrfl rfl
theorem bd15 {d : Nat} : d + 15 + 1 = d + 16 := nrfl rfl
theorem bd16 {d : Nat} : d + 16 + 1 = d + 17 := nrfl rfl
theorem bd17 {d : Nat} : d + 17 + 1 = d + 18 := nrfl rfl
theorem bd18 {d : Nat} : d + 18 + 1 = d + 19 := nrfl rfl
theorem bd19 {d : Nat} : d + 19 + 1 = d + 20 := nrfl rfl
theorem bd20 {d : Nat} : d + 20 + 1 = d + 21 := nrfl rfl
theorem bd21 {d : Nat} : d + 21 + 1 = d + 22 := nrfl rfl
theorem bd22 {d : Nat} : d + 22 + 1 = d + 23 := nrfl rfl
theorem bd23 {d : Nat} : d + 23 + 1 = d + 24 := nrfl rfl
theorem bd24 {d : Nat} : d + 24 + 1 = d + 25 := nrfl rfl
theorem bd25 {d : Nat} : d + 25 + 1 = d + 26 := nrfl rfl
theorem bd26 {d : Nat} : d + 26 + 1 = d + 27 := nrfl rfl
theorem bd27 {d : Nat} : d + 27 + 1 = d + 28 := nrfl rfl
theorem bd28 {d : Nat} : d + 28 + 1 = d + 29 := nrfl rfl
theorem bd29 {d : Nat} : d + 29 + 1 = d + 30 := nrfl rfl
theorem bd30 {d : Nat} : d + 30 + 1 = d + 31 := nrfl rfl
theorem bd31 {d : Nat} : d + 31 + 1 = d + 32 := nrfl rfl
theorem bd32 {d : Nat} : d + 32 + 1 = d + 33 := nrfl rfl
theorem bd33 {d : Nat} : d + 33 + 1 = d + 34 := nrfl rfl
theorem bd34 {d : Nat} : d + 34 + 1 = d + 35 := nrfl rfl
theorem bd35 {d : Nat} : d + 35 + 1 = d + 36 := nrfl rfl
theorem bd36 {d : Nat} : d + 36 + 1 = d + 37 := nrfl rfl
theorem bd37 {d : Nat} : d + 37 + 1 = d + 38 := nrfl rfl
theorem bd38 {d : Nat} : d + 38 + 1 = d + 39 := nrfl rfl
theorem bd39 {d : Nat} : d + 39 + 1 = d + 40 := nrfl rfl
