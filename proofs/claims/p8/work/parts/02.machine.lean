/-! THE SMALL MACHINE: what a method's code does to a heap of numbered cells; one run of a method is a function. -/
/-- nothing known of a local -/
def mm_U : Value := .float 0
/-- a heap: ints, references, (sort, length) of each cell, how many cells, how many slots. Sorts: 0 .. 6 objects (as vwCl), 10 int[], 11 boolean[], 12 Text[], 13 Sheet[] -/
abbrev mm_H : Type := (Nat → Nat → Int32) × (Nat → Nat → Value) × (Nat → Nat × Nat) × Nat × Nat
def gI (M : mm_H) (o k : Nat) : Int32 := M.1 o k
def gR (M : mm_H) (o k : Nat) : Value := M.2.1 o k
def gS (M : mm_H) (o : Nat) : Nat := (M.2.2.1 o).1
def gL (M : mm_H) (o : Nat) : Nat := (M.2.2.1 o).2
def gN (M : mm_H) : Nat := M.2.2.2.1
def gZ (M : mm_H) : Nat := M.2.2.2.2
def pI (M : mm_H) (o k : Nat) (x : Int32) : mm_H := (fun a b => if a = o ∧ b = k then x else M.1 a b, M.2)
def pR (M : mm_H) (o k : Nat) (v : Value) : mm_H := (M.1, fun a b => if a = o ∧ b = k then v else M.2.1 a b, M.2.2)
/-- a new cell -/
def pN (M : mm_H) (sort len sl : Nat) : mm_H := (fun a b => if a = M.2.2.2.1 then 0 else M.1 a b, fun a b => if a = M.2.2.2.1 then (if sort = 6 ∧ b = 27 then .long 0 else .null) else M.2.1 a b, fun a => if a = M.2.2.2.1 then (sort, len) else M.2.2.1 a, M.2.2.2.1 + 1, M.2.2.2.2 + sl)
/-- n ints of a from place s on come to b's place d on -/
def pC (M : mm_H) (a s b d n : Nat) : mm_H := (fun x k => if x = b ∧ d ≤ k ∧ k < d + n then M.1 a (s + (k - d)) else M.1 x k, M.2)
/-- code -/
def mm_I (m pc : Nat) : Option (Instr × Nat) := match mm_tab[m]? with
  | some q => (match decode q.2.1 pc with | .ok r => some r | .error _ => none)
  | none => none
def mm_cl (m : Nat) : Nat := match mm_tab[m]? with | some q => q.2.2.2.2.1 | none => 0
/-- a constructor? -/
def mm_ini (m : Nat) : Bool := match mm_tab[m]? with | some q => q.2.2.2.2.2.2 == 2 | none => false
def mm_len (i : Instr) (len : Nat) : Bool := match i with
  | .tableswitch .. | .lookupswitch .. => true
  | .aload _ | .astore _ | .iload _ | .istore _ | .lload _ | .lstore _ | .bipush _ | .ldc _ | .newarray _ => len == 2
  | .sipush _ | .iinc _ _ | .goto _ | .ifCond _ _ | .if_icmp _ _ | .ifnull _ | .ifnonnull _ | .getfield _ | .putfield _ | .getstatic _ | .new _ | .anewarray _ | .invokespecial _ | .invokestatic _ | .invokevirtual _ | .ldc_w _ | .ldc2_w _ => len == 3
  | _ => len == 1
abbrev mm_X : Type := Nat × List Value × List Value × mm_H
def mm_nl (ls : List Value) : Nat → Bool
  | 0 => true
  | i + 1 => match ls[i]? with | some (.long _) => false | some (.double _) => false | _ => true
def mm_put (ls : List Value) (i : Nat) (v : Value) : Option (List Value) := if i < ls.length ∧ mm_nl ls i = true then some (ls.set i v) else none
def mm_put2 (ls : List Value) (i : Nat) (v : Value) : Option (List Value) := if i + 1 < ls.length ∧ mm_nl ls i = true then some ((ls.set i v).set (i + 1) mm_U) else none
def mm_at_ (pc : Nat) (off : Int) : Option Nat := if 0 ≤ (pc : Int) + off then some ((pc : Int) + off).toNat else none
def mm_ldI (n k pc : Nat) (ls st : List Value) (M : mm_H) : Option mm_X := match ls[k]? with | some (.int x) => some (pc + n, ls, .int x :: st, M) | _ => none
def mm_ldL (n k pc : Nat) (ls st : List Value) (M : mm_H) : Option mm_X := match ls[k]? with | some (.long x) => some (pc + n, ls, .long x :: st, M) | _ => none
def mm_ldA (n k pc : Nat) (ls st : List Value) (M : mm_H) : Option mm_X := match ls[k]? with | some (.ref x) => some (pc + n, ls, .ref x :: st, M) | some .null => some (pc + n, ls, .null :: st, M) | some (.retAddr x) => some (pc + n, ls, .retAddr x :: st, M) | _ => none
def mm_stI (n k pc : Nat) (ls st : List Value) (M : mm_H) : Option mm_X := match st with | .int x :: r => (match mm_put ls k (.int x) with | some l => some (pc + n, l, r, M) | none => none) | _ => none
def mm_stL (n k pc : Nat) (ls st : List Value) (M : mm_H) : Option mm_X := match st with | .long x :: r => (match mm_put2 ls k (.long x) with | some l => some (pc + n, l, r, M) | none => none) | _ => none
def mm_stA (n k pc : Nat) (ls st : List Value) (M : mm_H) : Option mm_X := match st with
  | .ref x :: r => (match mm_put ls k (.ref x) with | some l => some (pc + n, l, r, M) | none => none)
  | .null :: r => (match mm_put ls k .null with | some l => some (pc + n, l, r, M) | none => none)
  | _ => none
def mm_bin (f : Int32 → Int32 → Int32) (pc : Nat) (ls st : List Value) (M : mm_H) : Option mm_X := match st with | .int y :: .int x :: r => some (pc + 1, ls, .int (f x y) :: r, M) | _ => none
def mm_div (f : Int32 → Int32 → Int32) (pc : Nat) (ls st : List Value) (M : mm_H) : Option mm_X := match st with | .int y :: .int x :: r => if y = 0 then none else some (pc + 1, ls, .int (f x y) :: r, M) | _ => none
def mm_binL (f : Int64 → Int64 → Int64) (pc : Nat) (ls st : List Value) (M : mm_H) : Option mm_X := match st with | .long y :: .long x :: r => some (pc + 1, ls, .long (f x y) :: r, M) | _ => none
def mm_divL (f : Int64 → Int64 → Int64) (pc : Nat) (ls st : List Value) (M : mm_H) : Option mm_X := match st with | .long y :: .long x :: r => if y = 0 then none else some (pc + 1, ls, .long (f x y) :: r, M) | _ => none
def mm_un (f : Int32 → Value) (pc : Nat) (ls st : List Value) (M : mm_H) : Option mm_X := match st with | .int x :: r => some (pc + 1, ls, f x :: r, M) | _ => none
def mm_cond (c : ClassFile.Cond) (x y : Int32) : Bool := match c with
  | .eq => decide (x = y) | .ne => !decide (x = y) | .lt => decide (x < y) | .ge => decide (y ≤ x) | .gt => decide (y < x) | .le => decide (x ≤ y)
def mm_br (b : Bool) (off : Int) (pc : Nat) (ls st : List Value) (M : mm_H) : Option mm_X := match mm_at_ pc off with | some t => some (if b = true then t else pc + 3, ls, st, M) | none => none
/-- kept as a value: references, longs -/
def mm_rf : FieldType → Bool | .object _ => true | .array _ => true | .long => true | _ => false
def mm_fld (m idx : Nat) : Option (Nat × Nat × Nat × Nat × Bool × Nat) := mm_ft.find? (fun q => q.1 == mm_cl m && q.2.1 == idx)
def mm_gf (m idx pc : Nat) (ls st : List Value) (M : mm_H) : Option mm_X := match st with
  | .ref o :: r => (match mm_fld m idx with
    | some q => if gS M o = q.2.2.1 then some (pc + 3, ls, (if mm_rf (mm_ty q.2.2.1 q.2.2.2.1) = true then gR M o q.2.2.2.1 else .int (gI M o q.2.2.2.1)) :: r, M) else none
    | none => none)
  | .retAddr j :: r => if j < 13 ∧ mm_cl m = 12 ∧ idx = 9 then some (pc + 3, ls, .retAddr (j + 100) :: r, M) else if j < 13 ∧ mm_cl m = 12 ∧ idx = 15 then some (pc + 3, ls, .int 0 :: r, M) else none
  | _ => none
def mm_pf (m idx pc : Nat) (ls st : List Value) (M : mm_H) : Option mm_X := match st with
  | .int x :: .ref o :: r => (match mm_fld m idx with
    | some q => if gS M o = q.2.2.1 ∧ narrow (mm_ty q.2.2.1 q.2.2.2.1) (.int x) = .int x ∧ fits (mm_ty q.2.2.1 q.2.2.2.1) (.int x) = true ∧ ((mm_T q.2.2.1 q.2.2.2.1).2.2.2 = false ∨ ((mm_T q.2.2.1 q.2.2.2.1).2.2.2 = true ∧ mm_ini m = true ∧ mm_C q.2.2.1 = mm_c (mm_cl m) ∧ q.2.2.2.2.1 = false)) then some (pc + 3, ls, r, pI M o q.2.2.2.1 x) else none
    | none => none)
  | .ref y :: .ref o :: r => (match mm_fld m idx with
    | some q => if gS M o = q.2.2.1 ∧ (mm_ty q.2.2.1 q.2.2.2.1).isReference = true ∧ (mm_T q.2.2.1 q.2.2.2.1).2.2.2 = true ∧ mm_ini m = true ∧ mm_C q.2.2.1 = mm_c (mm_cl m) ∧ q.2.2.2.2.1 = false then some (pc + 3, ls, r, pR M o q.2.2.2.1 (.ref y)) else none
    | none => none)
  | .long x :: .ref o :: r => (match mm_fld m idx with
    | some q => if gS M o = q.2.2.1 ∧ mm_ty q.2.2.1 q.2.2.2.1 = .long ∧ (mm_T q.2.2.1 q.2.2.2.1).2.2.2 = false then some (pc + 3, ls, r, pR M o q.2.2.2.1 (.long x)) else none
    | none => none)
  | _ => none
def mm_gs (m idx pc : Nat) (ls st : List Value) (M : mm_H) : Option mm_X := if mm_cl m = 12 ∧ idx = 38 then some (pc + 3, ls, .int 1 :: st, M) else if mm_cl m = 12 ∧ idx = 1053 then some (pc + 3, ls, .retAddr 300 :: st, M) else none
/-- the law's own row is .retAddr 200: X's length and numbers -/
def mm_ial (L : Nat) (xs : Nat → Int32) (pc : Nat) (ls st : List Value) (M : mm_H) : Option mm_X := match st with
  | .int i :: .ref o :: r => if gS M o = 10 ∧ 0 ≤ i ∧ i.toNatClampNeg < gL M o then some (pc + 1, ls, .int (gI M o i.toNatClampNeg) :: r, M) else none
  | .int i :: .retAddr j :: r => if j = 200 ∧ 0 ≤ i ∧ i.toNatClampNeg < L then some (pc + 1, ls, .int (xs i.toNatClampNeg) :: r, M) else none
  | _ => none
def mm_bal (pc : Nat) (ls st : List Value) (M : mm_H) : Option mm_X := match st with
  | .int i :: .ref o :: r => if gS M o = 11 ∧ 0 ≤ i ∧ i.toNatClampNeg < gL M o then some (pc + 1, ls, .int (gI M o i.toNatClampNeg) :: r, M) else none
  | .int i :: .retAddr j :: r => if 100 ≤ j ∧ j < 113 ∧ 0 ≤ i ∧ i.toNatClampNeg < (mm_sb.getD (j - 100) []).length then some (pc + 1, ls, .int ((mm_sb.getD (j - 100) []).getD i.toNatClampNeg 0) :: r, M) else none
  | _ => none
def mm_aal (pc : Nat) (ls st : List Value) (M : mm_H) : Option mm_X := match st with
  | .int i :: .ref o :: r => if (gS M o = 12 ∨ gS M o = 13) ∧ 0 ≤ i ∧ i.toNatClampNeg < gL M o then some (pc + 1, ls, gR M o i.toNatClampNeg :: r, M) else none
  | _ => none
def mm_ias (pc : Nat) (ls st : List Value) (M : mm_H) : Option mm_X := match st with
  | .int x :: .int i :: .ref o :: r => if gS M o = 10 ∧ 0 ≤ i ∧ i.toNatClampNeg < gL M o then some (pc + 1, ls, r, pI M o i.toNatClampNeg x) else none
  | _ => none
def mm_bas (pc : Nat) (ls st : List Value) (M : mm_H) : Option mm_X := match st with
  | .int x :: .int i :: .ref o :: r => if gS M o = 11 ∧ 0 ≤ i ∧ i.toNatClampNeg < gL M o then some (pc + 1, ls, r, pI M o i.toNatClampNeg (x &&& 1)) else none
  | _ => none
/-- which objects a row of references holds -/
def mm_el (sort : Nat) : Nat := if sort = 12 then 3 else 2
def mm_aas (pc : Nat) (ls st : List Value) (M : mm_H) : Option mm_X := match st with
  | .ref y :: .int i :: .ref o :: r => if (gS M o = 12 ∨ gS M o = 13) ∧ 0 ≤ i ∧ i.toNatClampNeg < gL M o ∧ gS M y = mm_el (gS M o) then some (pc + 1, ls, r, pR M o i.toNatClampNeg (.ref y)) else none
  | _ => none
def mm_aln (L pc : Nat) (ls st : List Value) (M : mm_H) : Option mm_X := match st with
  | .ref o :: r => if 10 ≤ gS M o ∧ gS M o ≤ 13 then some (pc + 1, ls, .int (nI (gL M o)) :: r, M) else none
  | .retAddr j :: r => if j = 200 then some (pc + 1, ls, .int (nI L) :: r, M) else if 100 ≤ j ∧ j < 113 then some (pc + 1, ls, .int (nI (mm_sb.getD (j - 100) []).length) :: r, M) else none
  | _ => none
def mm_new (m idx pc : Nat) (ls st : List Value) (M : mm_H) : Option mm_X := match mm_ot.find? (fun q => q.1 == mm_cl m && q.2.1 == idx) with
  | some q => some (pc + 3, ls, .ref (gN M) :: st, pN M q.2.2.1 (mm_nf q.2.2.1) (mm_nf q.2.2.1))
  | none => none
def mm_nwa (t : ArrayType) (pc : Nat) (ls st : List Value) (M : mm_H) : Option mm_X := match st with
  | .int n :: r => if 0 ≤ n ∧ n.toNatClampNeg ≤ 100000 then (match t with
    | .int => some (pc + 2, ls, .ref (gN M) :: r, pN M 10 n.toNatClampNeg n.toNatClampNeg)
    | .boolean => some (pc + 2, ls, .ref (gN M) :: r, pN M 11 n.toNatClampNeg n.toNatClampNeg)
    | _ => none) else none
  | _ => none
def mm_ana (m idx pc : Nat) (ls st : List Value) (M : mm_H) : Option mm_X := match st with
  | .int n :: r => if 0 ≤ n ∧ n.toNatClampNeg ≤ 100000 then (match mm_at.find? (fun q => q.1 == mm_cl m && q.2.1 == idx) with
    | some q => some (pc + 3, ls, .ref (gN M) :: r, pN M q.2.2.1 n.toNatClampNeg n.toNatClampNeg)
    | none => none) else none
  | _ => none
def mm_ntv (m idx : Nat) : Option (Nat × Nat × Nat × Nat) := mm_nt.find? (fun q => q.1 == mm_cl m && q.2.1 == idx)
def mm_cs : List Value → Nat | [] => 0 | v :: r => v.category + mm_cs r
def mm_cpy (d m idx pc : Nat) (ls st : List Value) (M : mm_H) : Option mm_X := match st with
  | .int n :: .int dp :: .ref b :: .int sp :: .ref a :: r => (match mm_ntv m idx with
    | some q => if q.2.2.1 = 1 ∧ 0 < d ∧ gS M a = 10 ∧ gS M b = 10 ∧ 0 ≤ n ∧ 0 ≤ sp ∧ 0 ≤ dp ∧ sp.toNatClampNeg + n.toNatClampNeg ≤ gL M a ∧ dp.toNatClampNeg + n.toNatClampNeg ≤ gL M b ∧ mm_cs r ≤ 8 then some (pc + 3, ls, r, pC M a sp.toNatClampNeg b dp.toNatClampNeg n.toNatClampNeg) else none
    | none => none)
  | _ => none
def mm_obj (d m idx pc : Nat) (ls st : List Value) (M : mm_H) : Option mm_X := match st with
  | .ref o :: r => (match mm_ntv m idx with
    | some q => if q.2.2.1 = 0 ∧ 0 < d ∧ mm_cs r ≤ 8 then some (pc + 3, ls, r, M) else none
    | none => none)
  | _ => none
/-- abs and min -/
def mm_mat (d m idx pc : Nat) (ls st : List Value) (M : mm_H) : Option mm_X := match mm_ntv m idx with
  | some q => if q.2.2.1 = 2 ∧ 0 < d then (match st with
      | .int x :: r => if mm_cs r ≤ 8 then some (pc + 3, ls, .int (if 0 ≤ x then x else 0 - x) :: r, M) else none
      | _ => none)
    else if q.2.2.1 = 3 ∧ 0 < d then (match st with
      | .int y :: .int x :: r => if mm_cs r ≤ 8 then some (pc + 3, ls, .int (if y < x then y else x) :: r, M) else none
      | _ => none)
    else mm_cpy d m idx pc ls st M
  | none => none
/-- one step that is no call of a method of the list and no return -/
def mm_step (L : Nat) (xs : Nat → Int32) (d m pc : Nat) (i : Instr) (ls st : List Value) (M : mm_H) : Option mm_X := match i with
  | .iconst n => some (pc + 1, ls, .int (Int32.ofInt n) :: st, M)
  | .bipush n => some (pc + 2, ls, .int (Int8.ofInt n).toInt32 :: st, M)
  | .sipush n => some (pc + 3, ls, .int (Int16.ofInt n).toInt32 :: st, M)
  | .lconst n => some (pc + 1, ls, .long (Int64.ofNat (n : Nat)) :: st, M)
  | .aconst_null => some (pc + 1, ls, .null :: st, M)
  | .iload_n k => mm_ldI 1 k pc ls st M
  | .iload k => mm_ldI 2 k pc ls st M
  | .lload_n k => mm_ldL 1 k pc ls st M
  | .lload k => mm_ldL 2 k pc ls st M
  | .aload_n k => mm_ldA 1 k pc ls st M
  | .aload k => mm_ldA 2 k pc ls st M
  | .istore_n k => mm_stI 1 k pc ls st M
  | .istore k => mm_stI 2 k pc ls st M
  | .lstore_n k => mm_stL 1 k pc ls st M
  | .lstore k => mm_stL 2 k pc ls st M
  | .astore_n k => mm_stA 1 k pc ls st M
  | .astore k => mm_stA 2 k pc ls st M
  | .iinc k n => (match ls[k]? with | some (.int x) => (match mm_put ls k (.int (x + Int32.ofInt n)) with | some l => some (pc + 3, l, st, M) | none => none) | _ => none)
  | .iadd => mm_bin (fun x y => x + y) pc ls st M
  | .isub => mm_bin (fun x y => x - y) pc ls st M
  | .imul => mm_bin (fun x y => x * y) pc ls st M
  | .iand => mm_bin (fun x y => x &&& y) pc ls st M
  | .ior => mm_bin (fun x y => x ||| y) pc ls st M
  | .ixor => mm_bin (fun x y => x ^^^ y) pc ls st M
  | .ishl => mm_bin (fun x y => x <<< (y &&& 31)) pc ls st M
  | .ishr => mm_bin (fun x y => x >>> (y &&& 31)) pc ls st M
  | .iushr => mm_bin (fun x y => (x.toUInt32 >>> (y.toUInt32 &&& Int32.toUInt32 31)).toInt32) pc ls st M
  | .idiv => mm_div (fun x y => x / y) pc ls st M
  | .irem => mm_div (fun x y => x - x / y * y) pc ls st M
  | .ineg => mm_un (fun x => .int (-x)) pc ls st M
  | .i2l => mm_un (fun x => .long x.toInt64) pc ls st M
  | .i2b => mm_un (fun x => .int x.toInt8.toInt32) pc ls st M
  | .i2s => mm_un (fun x => .int x.toInt16.toInt32) pc ls st M
  | .i2c => mm_un (fun x => .int (x.toUInt32 % 65536).toInt32) pc ls st M
  | .l2i => (match st with | .long x :: r => some (pc + 1, ls, .int x.toInt32 :: r, M) | _ => none)
  | .ladd => mm_binL (fun x y => x + y) pc ls st M
  | .lsub => mm_binL (fun x y => x - y) pc ls st M
  | .lmul => mm_binL (fun x y => x * y) pc ls st M
  | .ldiv => mm_divL (fun x y => x / y) pc ls st M
  | .lrem => mm_divL (fun x y => x - x / y * y) pc ls st M
  | .lcmp => (match st with | .long y :: .long x :: r => some (pc + 1, ls, .int (lg_cmp x y) :: r, M) | _ => none)
  | .dup => (match st with | v :: r => if v.category = 1 then some (pc + 1, ls, v :: v :: r, M) else none | _ => none)
  | .dup_x1 => (match st with | v :: w :: r => if v.category = 1 ∧ w.category = 1 then some (pc + 1, ls, v :: w :: v :: r, M) else none | _ => none)
  | .pop => (match st with | v :: r => if v.category = 1 then some (pc + 1, ls, r, M) else none | _ => none)
  | .pop2 => (match st with | v :: r => if v.category = 2 then some (pc + 1, ls, r, M) else none | _ => none)
  | .ifCond c off => (match st with | .int x :: r => mm_br (mm_cond c x 0) off pc ls r M | _ => none)
  | .if_icmp c off => (match st with | .int y :: .int x :: r => mm_br (mm_cond c x y) off pc ls r M | _ => none)
  | .ifnull off => (match st with | .null :: r => mm_br true off pc ls r M | .ref _ :: r => mm_br false off pc ls r M | _ => none)
  | .ifnonnull off => (match st with | .null :: r => mm_br false off pc ls r M | .ref _ :: r => mm_br true off pc ls r M | _ => none)
  | .goto off => mm_br true off pc ls st M
  | .tableswitch df lo hi offs => (match st with
    | .int x :: r => if x.toInt < lo ∨ hi < x.toInt then mm_br true df pc ls r M else (match offs[(x.toInt - lo).toNat]? with | some off => mm_br true off pc ls r M | none => none)
    | _ => none)
  | .lookupswitch df ps => (match st with
    | .int x :: r => if (ps.toList.zip (ps.toList.drop 1)).all (fun (a, next) => a.1 < next.1) = true then mm_br true (Op.lookupswitch.offset ps.toList df x.toInt) pc ls r M else none
    | _ => none)
  | .getfield idx => mm_gf m idx pc ls st M
  | .putfield idx => mm_pf m idx pc ls st M
  | .getstatic idx => mm_gs m idx pc ls st M
  | .iaload => mm_ial L xs pc ls st M
  | .baload => mm_bal pc ls st M
  | .aaload => mm_aal pc ls st M
  | .iastore => mm_ias pc ls st M
  | .bastore => mm_bas pc ls st M
  | .aastore => mm_aas pc ls st M
  | .arraylength => mm_aln L pc ls st M
  | .new idx => mm_new m idx pc ls st M
  | .newarray t => mm_nwa t pc ls st M
  | .anewarray idx => mm_ana m idx pc ls st M
  | .ldc idx => (match mm_kt.find? (fun q => q.1 == mm_cl m && q.2.1 == idx) with
    | some q => some (pc + 2, ls, .int q.2.2.1 :: st, M)
    | none => (match mm_st.find? (fun q => q.1 == mm_cl m && q.2.1 == idx) with
      | some q => some (pc + 2, ls, .retAddr q.2.2.1 :: st, M)
      | none => none))
  | .ldc_w idx => (match mm_kt.find? (fun q => q.1 == mm_cl m && q.2.1 == idx) with
    | some q => some (pc + 3, ls, .int q.2.2.1 :: st, M)
    | none => none)
  | .ldc2_w idx => (match mm_lt.find? (fun q => q.1 == mm_cl m && q.2.1 == idx) with
    | some q => some (pc + 3, ls, .long q.2.2.1 :: st, M)
    | none => none)
  | .invokestatic idx => mm_mat d m idx pc ls st M
  | .invokespecial idx => mm_obj d m idx pc ls st M
  | _ => none
/-- objects by their classes' numbers -/
def mm_ci (c : Nat) : Nat := ([5, 9, 0, 1, 2, 3, 9, 4, 6, 9, 9, 9, 9, 9, 9, 9] : List Nat).getD c 9
def mm_rcv (M : mm_H) (c : Nat) (v : Value) : Bool := match v with
  | .ref o => gS M o == mm_ci c
  | .retAddr j => c == 12 && decide (j < 13)
  | _ => false
def mm_ctf (m idx : Nat) : Option (Nat × Nat × Nat × Bool × Nat) := mm_ct.find? (fun q => q.1 == mm_cl m && q.2.1 == idx)
/-- a call: the method, what it is given, what of the stack stays -/
def mm_call (m : Nat) (i : Instr) (st : List Value) (M : mm_H) : Option (Nat × List Value × List Value) := match i with
  | .invokestatic idx => (match mm_ctf m idx with
    | some q => (match mm_tab[q.2.2.1]? with
      | some r => if r.2.2.2.2.2.2 = 1 ∧ r.2.2.2.2.2.1 ≤ st.length ∧ mm_cs (st.drop r.2.2.2.2.2.1) ≤ 8 ∧ q.2.2.1 ≠ mm_law then some (q.2.2.1, (st.take r.2.2.2.2.2.1).reverse, st.drop r.2.2.2.2.2.1) else none
      | none => none)
    | none => none)
  | .invokevirtual idx => (match mm_ctf m idx with
    | some q => (match mm_tab[q.2.2.1]? with
      | some r => (match st.drop r.2.2.2.2.2.1 with
        | v :: rest => if r.2.2.2.2.2.2 = 0 ∧ r.2.2.2.2.2.1 ≤ st.length ∧ mm_cs rest ≤ 8 ∧ q.2.2.2.1 = false ∧ mm_rcv M r.2.2.2.2.1 v = true ∧ q.2.2.1 ≠ mm_law then some (q.2.2.1, v :: (st.take r.2.2.2.2.2.1).reverse, rest) else none
        | [] => none)
      | none => none)
    | none => none)
  | .invokespecial idx => (match mm_ctf m idx with
    | some q => (match mm_tab[q.2.2.1]? with
      | some r => (match st.drop r.2.2.2.2.2.1 with
        | .ref o :: rest => if r.2.2.2.2.2.2 = 2 ∧ r.2.2.2.2.2.1 ≤ st.length ∧ mm_cs rest ≤ 8 ∧ q.2.2.1 ≠ mm_law then some (q.2.2.1, .ref o :: (st.take r.2.2.2.2.2.1).reverse, rest) else none
        | _ => none)
      | none => none)
    | none => none)
  | _ => none
/-- an answer, by the method's sort of answers -/
def mm_ret (m : Nat) (i : Instr) (st : List Value) : Option (Option Value) := match mm_tab[m]? with
  | some q => (match i, st with
    | .return_, [] => if q.2.2.2.1 = none then some none else none
    | .ireturn, [.int x] => (match q.2.2.2.1 with | some ty => if narrow ty (.int x) = .int x ∧ ty ≠ .long then some (some (.int x)) else none | none => none)
    | .lreturn, [.long x] => if q.2.2.2.1 = some .long then some (some (.long x)) else none
    | .areturn, [.ref o] => (match q.2.2.2.1 with | some ty => if ty.isReference = true then some (some (.ref o)) else none | none => none)
    | .areturn, [.null] => (match q.2.2.2.1 with | some ty => if ty.isReference = true then some (some .null) else none | none => none)
    | _, _ => none)
  | none => none
/-- what a method is given, as its first locals -/
def mm_ex : List Value → List Value
  | [] => []
  | .long x :: r => .long x :: mm_U :: mm_ex r
  | v :: r => v :: mm_ex r
def mm_ent (m : Nat) (as : List Value) : Option (List Value) := match mm_tab[m]? with
  | some q => if (mm_ex as).length ≤ q.2.2.1 then some (mm_ex as ++ List.replicate (q.2.2.1 - (mm_ex as).length) mm_U) else none
  | none => none
/-- a method from a place in its code to its end -/
def mm_run (L : Nat) (xs : Nat → Int32) : Nat → Nat → Nat → Nat → List Value → List Value → mm_H → Option (Option Value × mm_H)
  | 0, _, _, _, _, _, _ => none
  | n + 1, d, m, pc, ls, st, M => match mm_I m pc with
    | none => none
    | some (i, len) => if mm_len i len = true then (match mm_ret m i st with
      | some r => some (r, M)
      | none => (match mm_call m i st M with
        | some (m', as, rest) => (match d with
          | 0 => none
          | d' + 1 => (match mm_ent m' as with
            | none => none
            | some l => (match mm_run L xs n d' m' 0 l [] M with
              | none => none
              | some (r, M') => mm_run L xs n d m (pc + 3) ls (r.toList ++ rest) M')))
        | none => (match mm_step L xs d m pc i ls st M with
          | none => none
          | some (pc', ls', st', M') => mm_run L xs n d m pc' ls' st' M'))) else none
