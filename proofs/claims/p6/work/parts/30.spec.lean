/-! TEXTS: what they are, purely. f: bytes by place, n: how many -/
def t_run (P : Int32 → Bool) (f : Nat → Int32) (n : Nat) : Nat → Nat → Nat
  | 0, p => p
  | k + 1, p => if p < n ∧ P (f p) = true then t_run P f n k (p + 1) else p
def t_sp (b : Int32) : Bool := b == 32 || b == 10
def t_lt (b : Int32) : Bool := decide (97 ≤ b) && decide (b ≤ 122)
def t_dg (b : Int32) : Bool := decide (48 ≤ b) && decide (b ≤ 57)
def t_sg (b : Int32) : Bool := b == 40 || b == 41 || b == 59 || b == 43 || b == 45 || b == 42 || b == 60 || b == 61
/-- the end of a stretch -/
def t_end (P : Int32 → Bool) (f : Nat → Int32) (n p : Nat) : Nat := t_run P f n (n - p) p
/-- where the token behind place p begins, and ends -/
def t_s (f : Nat → Int32) (n p : Nat) : Nat := t_end t_sp f n p
def t_e (f : Nat → Int32) (n p : Nat) : Nat :=
  if n ≤ t_s f n p then t_s f n p else if t_lt (f (t_s f n p)) = true then t_end t_lt f n (t_s f n p) else if t_dg (f (t_s f n p)) = true then t_end t_dg f n (t_s f n p) else t_s f n p + 1
/-- the letters of a word -/
def t_wl (f : Nat → Int32) (s : Nat) (w : List Int32) : Nat → Nat → Bool
  | 0, _ => true
  | k + 1, i => (f (s + i) == w.getD i 0) && t_wl f s w k (i + 1)
def t_word (f : Nat → Int32) (s e : Nat) (w : List Int32) : Bool := (e - s == w.length) && t_wl f s w w.length 0
/-- words by numbers: 3 .. 8 names, 9 .. 14 keys, 1 none -/
def t_wk (f : Nat → Int32) (s e : Nat) : Nat :=
  if t_word f s e (mm_sb.getD 1 []) = true then 3 else if t_word f s e (mm_sb.getD 2 []) = true then 4 else if t_word f s e (mm_sb.getD 3 []) = true then 5 else if t_word f s e (mm_sb.getD 4 []) = true then 6 else if t_word f s e (mm_sb.getD 5 []) = true then 7 else if t_word f s e (mm_sb.getD 6 []) = true then 8
  else if t_word f s e (mm_sb.getD 7 []) = true then 9 else if t_word f s e (mm_sb.getD 8 []) = true then 10 else if t_word f s e (mm_sb.getD 9 []) = true then 11 else if t_word f s e (mm_sb.getD 10 []) = true then 12 else if t_word f s e (mm_sb.getD 11 []) = true then 13 else if t_word f s e (mm_sb.getD 12 []) = true then 14 else 1
/-- a token: 0 the end, 1 none, 2 digits, words, a sign's byte -/
def t_k (f : Nat → Int32) (n p : Nat) : Nat :=
  if n ≤ t_s f n p then 0 else if t_lt (f (t_s f n p)) = true then t_wk f (t_s f n p) (t_e f n p) else if t_dg (f (t_s f n p)) = true then (if 4 < t_e f n p - t_s f n p then 1 else 2) else if t_sg (f (t_s f n p)) = true then (f (t_s f n p)).toNatClampNeg else 1
def t_num (f : Nat → Int32) (s : Nat) : Nat → Int32
  | 0 => 0
  | k + 1 => t_num f s k * 10 + f (s + k) - 48
/-- a number's worth -/
def t_v (f : Nat → Int32) (n p : Nat) : Int32 := t_num f (t_s f n p) (t_e f n p - t_s f n p)
abbrev PR : Type := (List Int32 × Nat) ⊕ Nat
def p_loop (f : Nat → Int32) (n : Nat) (sep : Nat → Option Int32) (item : Nat → PR) : Nat → List Int32 → Nat → PR
  | 0, c, p => .inl (c, p)
  | k + 1, c, p => match sep (t_k f n p) with
    | none => .inl (c, p)
    | some op => match item (t_e f n p) with
      | .inr x => .inr x
      | .inl q => p_loop f n sep item k (c ++ q.1 ++ [op]) q.2
def p_ch (f : Nat → Int32) (n : Nat) (sep : Nat → Option Int32) (item : Nat → PR) (p : Nat) : PR := match item p with
  | .inr x => .inr x
  | .inl q => p_loop f n sep item 160 q.1 q.2
def q_mul (t : Nat) : Option Int32 := if t = 42 then some (-42) else none
def q_add (t : Nat) : Option Int32 := if t = 43 then some (-43) else if t = 45 then some (-45) else none
def q_and (t : Nat) : Option Int32 := if t = 13 then some (-13) else none
def q_or (t : Nat) : Option Int32 := if t = 12 then some (-12) else none
def q_cmp (t : Nat) : Option Int32 := if t = 60 then some (-60) else if t = 61 then some (-61) else none
/-- a ONE: r more may be opened, the inner functions are of r less 1 -/
def p_one (f : Nat → Int32) (n r : Nat) (neg par : Nat → PR) (p : Nat) : PR :=
  if t_k f n p = 2 then .inl ([t_v f n p], t_e f n p)
  else if 3 ≤ t_k f n p ∧ t_k f n p ≤ 8 then .inl ([-(nI (t_k f n p))], t_e f n p)
  else if (t_k f n p = 45 ∨ t_k f n p = 40) ∧ 0 < r then
    (if t_k f n p = 45 then (match neg (t_e f n p) with | .inr x => .inr x | .inl q => .inl (q.1 ++ [-15], q.2))
    else (match par (t_e f n p) with | .inr x => .inr x | .inl q => if t_k f n q.2 = 41 then .inl (q.1, t_e f n q.2) else .inr (t_s f n q.2)))
  else .inr (t_s f n p)
def p_cmp (f : Nat → Int32) (n : Nat) (one : Nat → PR) (p : Nat) : PR := match p_ch f n q_add (p_ch f n q_mul one) p with
  | .inr x => .inr x
  | .inl q => match q_cmp (t_k f n q.2) with
    | none => .inl q
    | some op => match p_ch f n q_add (p_ch f n q_mul one) (t_e f n q.2) with
      | .inr x => .inr x
      | .inl q2 => .inl (q.1 ++ q2.1 ++ [op], q2.2)
def p_not (f : Nat → Int32) (n r : Nat) (inn one : Nat → PR) (p : Nat) : PR :=
  if t_k f n p = 14 then (if 0 < r then (match inn (t_e f n p) with | .inr x => .inr x | .inl q => .inl (q.1 ++ [-14], q.2)) else .inr (t_s f n p))
  else p_cmp f n one p
def p_or (f : Nat → Int32) (n : Nat) (nt : Nat → PR) : Nat → PR := p_ch f n q_or (p_ch f n q_and nt)
def p_no : Nat → PR := fun _ => .inr 0
/-- ONE, NOT, E by how many more may be opened -/
def p_lv (f : Nat → Int32) (n : Nat) : Nat → (Nat → PR) × (Nat → PR) × (Nat → PR)
  | 0 => (p_one f n 0 p_no p_no, p_not f n 0 p_no (p_one f n 0 p_no p_no), p_or f n (p_not f n 0 p_no (p_one f n 0 p_no p_no)))
  | r + 1 => (p_one f n (r + 1) (p_lv f n r).1 (p_lv f n r).2.2, p_not f n (r + 1) (p_lv f n r).2.1 (p_one f n (r + 1) (p_lv f n r).1 (p_lv f n r).2.2), p_or f n (p_not f n (r + 1) (p_lv f n r).2.1 (p_one f n (r + 1) (p_lv f n r).1 (p_lv f n r).2.2)))
/-- a sentence behind place p, with the key k -/
def p_sent (f : Nat → Int32) (n k p : Nat) : PR :=
  if t_k f n p = k then (match (p_lv f n 5).2.2 (t_e f n p) with | .inr x => .inr x | .inl q => if t_k f n q.2 = 59 then .inl (q.1, t_e f n q.2) else .inr (t_s f n q.2))
  else .inr (t_s f n p)
/-- a text -/
def p_text (f : Nat → Int32) (n : Nat) : (List Int32 × List Int32 × List Int32) ⊕ Nat := match p_sent f n 9 0 with
  | .inr x => .inr x
  | .inl a => match p_sent f n 10 a.2 with
    | .inr x => .inr x
    | .inl b => match p_sent f n 11 b.2 with
      | .inr x => .inr x
      | .inl c => if t_k f n c.2 = 0 then .inl (a.1, b.1, c.1) else .inr (t_s f n c.2)
/-- how many numbers an item makes one -/
def v_jn (x : Int32) : Nat := if -8 ≤ x then 0 else if x = -15 ∨ x = -14 then 1 else 2
def s_sw (x a b : Int32) : Int32 := if -x = 13 then (if a = 0 then 0 else if b = 0 then 0 else 1) else if -x = 14 then (if b = 0 then 1 else 0) else if -x = 15 then -b else if -x = 42 then a * b else if -x = 43 then a + b else if -x = 45 then a - b else if -x = 60 then (if a < b then 1 else 0) else if -x = 61 then (if a = b then 1 else 0) else (if a = 0 then (if b = 0 then 0 else 1) else 1)
def s_wo (env : Nat → Int32) (x a b : Int32) : Int32 := if x < 0 then (if -x - 3 < 0 then s_sw x a b else if -x - 3 < 6 then env (-x - 3).toNatClampNeg else s_sw x a b) else x
/-- what running a code does to a stack of numbers -/
def v_item (env : Nat → Int32) (x : Int32) (st : List Int32) : List Int32 :=
  if v_jn x = 0 then s_wo env x 0 0 :: st
  else if v_jn x = 1 then (match st with | b :: r => s_wo env x 0 b :: r | [] => [])
  else (match st with | b :: a :: r => s_wo env x a b :: r | _ => [])
def v_run (env : Nat → Int32) : List Int32 → List Int32 → List Int32
  | [], st => st
  | x :: c, st => v_run env c (v_item env x st)
theorem v_app (env : Nat → Int32) : ∀ (a b st : List Int32), v_run env (a ++ b) st = v_run env b (v_run env a st)
  | [], _, _ => rfl
  | x :: a, b, st => v_app env a b (v_item env x st)
/-- a code that pushes one number -/
def v_one (env : Nat → Int32) (c : List Int32) (v : Int32) : Prop := ∀ st, v_run env c st = v :: st
theorem v_num {env : Nat → Int32} {x : Int32} (h : 0 ≤ x) : v_one env [x] x := fun st => by
  show v_item env x st = _
  have h1 : v_jn x = 0 := if_pos (Int32.le_trans (by decide) h)
  unfold v_item s_wo
  rw [if_pos h1, if_neg (Int32.not_lt.mpr h)]
theorem v_name {env : Nat → Int32} : ∀ k : Nat, 3 ≤ k → k ≤ 8 → v_one env [-(nI k)] (env (k - 3))
  | 3, _, _ | 4, _, _ | 5, _, _ | 6, _, _ | 7, _, _ | 8, _, _ => fun _ => rfl
def v_bin (x a b : Int32) : Int32 := if x = -43 then a + b else if x = -45 then a - b else if x = -42 then a * b else if x = -60 then (if a < b then 1 else 0) else if x = -61 then (if a = b then 1 else 0) else if x = -13 then (if a = 0 then 0 else if b = 0 then 0 else 1) else (if a = 0 then (if b = 0 then 0 else 1) else 1)
def v_isb (x : Int32) : Bool := x == -43 || x == -45 || x == -42 || x == -60 || x == -61 || x == -13 || x == -12
theorem v_two {env : Nat → Int32} {c1 c2 : List Int32} {a b x : Int32} (h1 : v_one env c1 a) (h2 : v_one env c2 b) (hx : v_isb x = true) : v_one env (c1 ++ c2 ++ [x]) (v_bin x a b) := by
  intro st
  rw [v_app, v_app, h1, h2]
  show v_item env x (b :: a :: st) = _
  unfold v_isb at hx
  simp only [Bool.or_eq_true, beq_iff_eq] at hx
  rcases hx with ((((((rfl | rfl) | rfl) | rfl) | rfl) | rfl) | rfl) <;> rfl
theorem v_neg {env : Nat → Int32} {c : List Int32} {a : Int32} (h : v_one env c a) : v_one env (c ++ [-15]) (-a) := by
  intro st; rw [v_app, h]; rfl
theorem v_not {env : Nat → Int32} {c : List Int32} {a : Int32} (h : v_one env c a) : v_one env (c ++ [-14]) (if a = 0 then 1 else 0) := by
  intro st; rw [v_app, h]; rfl
