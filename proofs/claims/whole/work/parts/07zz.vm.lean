/-! a small machine over numbers: values (tag, number), objects (tag, length, contents), by which the methods are walked; the real machine follows it (part 05) -/
abbrev mv_O : Type := Nat × Int × (Int → Int)
abbrev mv_H : Type := Int → mv_O
abbrev mv_C : Type := Nat × Nat × Nat
abbrev mv_R : Type := Nat × Int
abbrev mv_i (x : Int) : Prop := -2147483648 ≤ x ∧ x ≤ 2147483647
abbrev mv_l (x : Int) : Prop := -9223372036854775808 ≤ x ∧ x ≤ 9223372036854775807
def mv_up (f : Int → Int) (i x : Int) : Int → Int := fun j => if j = i then x else f j
def mv_uo (h : mv_H) (a : Int) (o : mv_O) : mv_H := fun b => if b = a then o else h b
def mv_get : mv_K → Nat → Option (Instr × Int)
  | [], _ => none
  | (q, i, a) :: k, pc => cond (Nat.beq q pc) (some (i, a)) (mv_get k pc)
def mv_ents : List mv_V → List mv_V
  | [] => []
  | v :: r => if v.1 = 1 then v :: (5, 0) :: mv_ents r else v :: mv_ents r
def mv_ent (vs : List mv_V) (n : Nat) : List mv_V := mv_ents vs ++ List.replicate (n - (mv_ents vs).length) (5, 0)
/-- a store of one word: not upon the second half of a long -/
def mv_s1 (ls : List mv_V) (i : Nat) (v : mv_V) : Option (List mv_V) :=
  if i < ls.length then (if 0 < i ∧ (ls.getD (i - 1) (5, 0)).1 = 1 then none else some (ls.set i v)) else none
def mv_s2 (ls : List mv_V) (i : Nat) (v : mv_V) : Option (List mv_V) :=
  if i + 1 < ls.length then (if 0 < i ∧ (ls.getD (i - 1) (5, 0)).1 = 1 then none else some ((ls.set i v).set (i + 1) (5, 0))) else none
/-- fields: how many, and of what type (0 int, 2 reference) -/
def mv_fs : List (List Nat) := [[2, 0, 2, 2, 2, 2, 2, 2, 2, 2], [2, 2, 2, 2, 2, 0, 0], [2, 2, 2, 2, 2, 0, 0], [2, 0, 0], [0, 2, 0, 2, 2, 2, 2, 0, 2, 2, 2, 2, 2, 0, 2, 0]]
def mv_fn (ci : Nat) : Nat := (mv_fs.getD ci []).length
def mv_ft (ci k : Nat) : Nat := (mv_fs.getD ci []).getD k 0
def mv_df (ci : Nat) : Int → Int := fun k => if mv_ft ci k.toNat = 0 then 0 else -1
def mv_cmp (k : ClassFile.Cond) (x y : Int) : Bool := match k with
  | .eq => decide (x = y)
  | .ne => decide (¬ x = y)
  | .lt => decide (x < y)
  | .ge => decide (y ≤ x)
  | .gt => decide (y < x)
  | .le => decide (x ≤ y)
def mv_ak (t : ArrayType) : Nat := match t with
  | .int => 10
  | .char => 11
  | .boolean => 12
  | .long => 13
  | _ => 99
abbrev mv_S : Type := Nat × List mv_V × List mv_V × mv_C × mv_H
def mv_jmp (pc : Nat) (off : Int) (ls st : List mv_V) (c : mv_C) (h : mv_H) : Option mv_S := if 0 ≤ (pc : Int) + off then some (((pc : Int) + off).toNat, ls, st, c, h) else none
def mv_ld (t : Nat) (i pc : Nat) (ls st : List mv_V) (c : mv_C) (h : mv_H) : Option mv_S := match ls[i]? with
  | some v => if v.1 = t then some (pc, ls, v :: st, c, h) else none
  | none => none
def mv_b2 (st : List mv_V) (f : Int → Int → List mv_V → Option mv_S) : Option mv_S := match st with
  | (0, y) :: (0, x) :: r => f x y r
  | _ => none
def mv_j2 (st : List mv_V) (f : Int → Int → List mv_V → Option mv_S) : Option mv_S := match st with
  | (1, y) :: (1, x) :: r => f x y r
  | _ => none
def mv_cL (x y : Int) : Int := if x < y then -1 else if x = y then 0 else 1
/-- one instruction that neither calls nor ends -/
def mv_step (sc : Int × (Int → Int)) (pc : Nat) (i : Instr) (a : Int) (ls st : List mv_V) (c : mv_C) (h : mv_H) : Option mv_S := match i with
  | .iconst n => some (pc + 1, ls, (0, n) :: st, c, h)
  | .bipush n => if -128 ≤ n ∧ n < 128 then some (pc + 2, ls, (0, n) :: st, c, h) else none
  | .sipush n => if -32768 ≤ n ∧ n < 32768 then some (pc + 3, ls, (0, n) :: st, c, h) else none
  | .ldc _ => some (pc + 2, ls, (0, a) :: st, c, h)
  | .ldc_w _ => some (pc + 3, ls, (0, a) :: st, c, h)
  | .ldc2_w _ => some (pc + 3, ls, (1, a) :: st, c, h)
  | .lconst n => some (pc + 1, ls, (1, ((n : Nat) : Int)) :: st, c, h)
  | .iload k => mv_ld 0 k (pc + 2) ls st c h
  | .iload_n k => mv_ld 0 k (pc + 1) ls st c h
  | .lload k => mv_ld 1 k (pc + 2) ls st c h
  | .lload_n k => mv_ld 1 k (pc + 1) ls st c h
  | .aload k => match ls[k]? with
    | some v => if v.1 = 2 ∨ v.1 = 4 then some (pc + 2, ls, v :: st, c, h) else none
    | none => none
  | .aload_n k => match ls[(k : Nat)]? with
    | some v => if v.1 = 2 ∨ v.1 = 4 then some (pc + 1, ls, v :: st, c, h) else none
    | none => none
  | .istore k => match st with
    | (0, x) :: r => (mv_s1 ls k (0, x)).map fun l => (pc + 2, l, r, c, h)
    | _ => none
  | .istore_n k => match st with
    | (0, x) :: r => (mv_s1 ls k (0, x)).map fun l => (pc + 1, l, r, c, h)
    | _ => none
  | .lstore k => match st with
    | (1, x) :: r => (mv_s2 ls k (1, x)).map fun l => (pc + 2, l, r, c, h)
    | _ => none
  | .lstore_n k => match st with
    | (1, x) :: r => (mv_s2 ls k (1, x)).map fun l => (pc + 1, l, r, c, h)
    | _ => none
  | .astore k => match st with
    | v :: r => if v.1 = 2 ∨ v.1 = 3 then (mv_s1 ls k v).map fun l => (pc + 2, l, r, c, h) else none
    | _ => none
  | .astore_n k => match st with
    | v :: r => if v.1 = 2 ∨ v.1 = 3 then (mv_s1 ls k v).map fun l => (pc + 1, l, r, c, h) else none
    | _ => none
  | .iinc k n => match ls[k]? with
    | some (0, x) => (mv_s1 ls k (0, x + n)).map fun l => (pc + 3, l, st, c, h)
    | _ => none
  | .iadd => mv_b2 st fun x y r => some (pc + 1, ls, (0, x + y) :: r, c, h)
  | .isub => mv_b2 st fun x y r => some (pc + 1, ls, (0, x - y) :: r, c, h)
  | .imul => mv_b2 st fun x y r => some (pc + 1, ls, (0, x * y) :: r, c, h)
  | .idiv => mv_b2 st fun x y r => if mv_i x ∧ 0 < y ∧ mv_i y then some (pc + 1, ls, (0, x.tdiv y) :: r, c, h) else none
  | .irem => mv_b2 st fun x y r => if mv_i x ∧ 0 < y ∧ mv_i y then some (pc + 1, ls, (0, x.tmod y) :: r, c, h) else none
  | .ishl => mv_b2 st fun x y r => if 0 ≤ y ∧ y < 32 then some (pc + 1, ls, (0, x * 2 ^ y.toNat) :: r, c, h) else none
  | .ishr => mv_b2 st fun x y r => if mv_i x ∧ 0 ≤ y ∧ y < 32 then some (pc + 1, ls, (0, x / 2 ^ y.toNat) :: r, c, h) else none
  | .iand => mv_b2 st fun x y r => if y = 1 ∨ y = 31 then some (pc + 1, ls, (0, x % (y + 1)) :: r, c, h) else none
  | .ior => mv_b2 st fun x y r => if 0 ≤ x ∧ 0 ≤ y ∧ mv_i x ∧ mv_i y then some (pc + 1, ls, (0, ((x.toNat ||| y.toNat : Nat) : Int)) :: r, c, h) else none
  | .ixor => mv_b2 st fun x y r => if 0 ≤ x ∧ 0 ≤ y ∧ mv_i x ∧ mv_i y then some (pc + 1, ls, (0, ((x.toNat ^^^ y.toNat : Nat) : Int)) :: r, c, h) else none
  | .ladd => mv_j2 st fun x y r => some (pc + 1, ls, (1, x + y) :: r, c, h)
  | .lsub => mv_j2 st fun x y r => some (pc + 1, ls, (1, x - y) :: r, c, h)
  | .lmul => mv_j2 st fun x y r => some (pc + 1, ls, (1, x * y) :: r, c, h)
  | .ldiv => mv_j2 st fun x y r => if mv_l x ∧ 0 < y ∧ mv_l y then some (pc + 1, ls, (1, x.tdiv y) :: r, c, h) else none
  | .lrem => mv_j2 st fun x y r => if mv_l x ∧ 0 < y ∧ mv_l y then some (pc + 1, ls, (1, x.tmod y) :: r, c, h) else none
  | .land => mv_j2 st fun x y r => if y = 4294967295 then some (pc + 1, ls, (1, x % 4294967296) :: r, c, h) else none
  | .lor => mv_j2 st fun x y r => if x % 4294967296 = 0 ∧ 0 ≤ y ∧ y < 4294967296 then some (pc + 1, ls, (1, x + y) :: r, c, h) else none
  | .lshl => match st with
    | (0, y) :: (1, x) :: r => if 0 ≤ y ∧ y < 64 then some (pc + 1, ls, (1, x * 2 ^ y.toNat) :: r, c, h) else none
    | _ => none
  | .lushr => match st with
    | (0, y) :: (1, x) :: r => if 0 < y ∧ y < 64 then some (pc + 1, ls, (1, (x % 18446744073709551616) / 2 ^ y.toNat) :: r, c, h) else none
    | _ => none
  | .i2l => match st with
    | (0, x) :: r => if mv_i x then some (pc + 1, ls, (1, x) :: r, c, h) else none
    | _ => none
  | .l2i => match st with
    | (1, x) :: r => some (pc + 1, ls, (0, x) :: r, c, h)
    | _ => none
  | .i2c => match st with
    | (0, x) :: r => if 0 ≤ x ∧ x < 65536 then some (pc + 1, ls, (0, x) :: r, c, h) else none
    | _ => none
  | .lcmp => mv_j2 st fun x y r => if mv_l x ∧ mv_l y then some (pc + 1, ls, (0, mv_cL x y) :: r, c, h) else none
  | .pop => match st with
    | v :: r => if v.1 = 0 ∨ v.1 = 2 then some (pc + 1, ls, r, c, h) else none
    | _ => none
  | .dup => match st with
    | v :: r => if v.1 = 0 ∨ v.1 = 2 then some (pc + 1, ls, v :: v :: r, c, h) else none
    | _ => none
  | .dup2 => match st with
    | v :: w :: r => if (v.1 = 0 ∨ v.1 = 2) ∧ (w.1 = 0 ∨ w.1 = 2) then some (pc + 1, ls, v :: w :: v :: w :: r, c, h) else none
    | _ => none
  | .goto off => mv_jmp pc off ls st c h
  | .ifCond k off => match st with
    | (0, x) :: r => if mv_i x ∧ 0 ≤ (pc : Int) + off then (if mv_cmp k x 0 = true then some (((pc : Int) + off).toNat, ls, r, c, h) else some (pc + 3, ls, r, c, h)) else none
    | _ => none
  | .if_icmp k off => mv_b2 st fun x y r => if mv_i x ∧ mv_i y ∧ 0 ≤ (pc : Int) + off then (if mv_cmp k x y = true then some (((pc : Int) + off).toNat, ls, r, c, h) else some (pc + 3, ls, r, c, h)) else none
  | .tableswitch d lo hi offs => match st with
    | (0, x) :: r => if mv_i x then (if x < lo ∨ hi < x then mv_jmp pc d ls r c h else match offs[(x - lo).toNat]? with
        | some off => mv_jmp pc off ls r c h
        | none => none) else none
    | _ => none
  | .getfield _ => match st with
    | (2, o) :: r => if (h o).1 = (a / 100).toNat ∧ (a % 100).toNat < mv_fn (a / 100).toNat then (if mv_ft (a / 100).toNat (a % 100).toNat = 0 then some (pc + 3, ls, (0, (h o).2.2 (a % 100)) :: r, c, h) else if 0 ≤ (h o).2.2 (a % 100) then some (pc + 3, ls, (2, (h o).2.2 (a % 100)) :: r, c, h) else none) else none
    | _ => none
  | .putfield _ => match st with
    | v :: (2, o) :: r => if (h o).1 = (a / 100).toNat ∧ (a % 100).toNat < mv_fn (a / 100).toNat ∧ v.1 = mv_ft (a / 100).toNat (a % 100).toNat then some (pc + 3, ls, r, c, mv_uo h o ((h o).1, (h o).2.1, mv_up (h o).2.2 (a % 100) v.2)) else none
    | _ => none
  | .arraylength => match st with
    | (2, o) :: r => if 10 ≤ (h o).1 then some (pc + 1, ls, (0, (h o).2.1) :: r, c, h) else none
    | (4, _) :: r => some (pc + 1, ls, (0, sc.1) :: r, c, h)
    | _ => none
  | .iaload => match st with
    | (0, j) :: (2, o) :: r => if (h o).1 = 10 ∧ 0 ≤ j ∧ j < (h o).2.1 then some (pc + 1, ls, (0, (h o).2.2 j) :: r, c, h) else none
    | (0, j) :: (4, _) :: r => if 0 ≤ j ∧ j < sc.1 then some (pc + 1, ls, (0, sc.2 j) :: r, c, h) else none
    | _ => none
  | .caload => match st with
    | (0, j) :: (2, o) :: r => if (h o).1 = 11 ∧ 0 ≤ j ∧ j < (h o).2.1 then some (pc + 1, ls, (0, (h o).2.2 j) :: r, c, h) else none
    | _ => none
  | .baload => match st with
    | (0, j) :: (2, o) :: r => if (h o).1 = 12 ∧ 0 ≤ j ∧ j < (h o).2.1 then some (pc + 1, ls, (0, (h o).2.2 j) :: r, c, h) else none
    | _ => none
  | .laload => match st with
    | (0, j) :: (2, o) :: r => if (h o).1 = 13 ∧ 0 ≤ j ∧ j < (h o).2.1 then some (pc + 1, ls, (1, (h o).2.2 j) :: r, c, h) else none
    | _ => none
  | .aaload => match st with
    | (0, j) :: (2, o) :: r => if ((h o).1 = 14 ∨ (h o).1 = 15) ∧ 0 ≤ j ∧ j < (h o).2.1 ∧ 0 ≤ (h o).2.2 j then some (pc + 1, ls, (2, (h o).2.2 j) :: r, c, h) else none
    | _ => none
  | .iastore => match st with
    | (0, x) :: (0, j) :: (2, o) :: r => if (h o).1 = 10 ∧ 0 ≤ j ∧ j < (h o).2.1 then some (pc + 1, ls, r, c, mv_uo h o ((h o).1, (h o).2.1, mv_up (h o).2.2 j x)) else none
    | _ => none
  | .castore => match st with
    | (0, x) :: (0, j) :: (2, o) :: r => if (h o).1 = 11 ∧ 0 ≤ j ∧ j < (h o).2.1 ∧ 0 ≤ x ∧ x < 65536 then some (pc + 1, ls, r, c, mv_uo h o ((h o).1, (h o).2.1, mv_up (h o).2.2 j x)) else none
    | _ => none
  | .bastore => match st with
    | (0, x) :: (0, j) :: (2, o) :: r => if (h o).1 = 12 ∧ 0 ≤ j ∧ j < (h o).2.1 ∧ (x = 0 ∨ x = 1) then some (pc + 1, ls, r, c, mv_uo h o ((h o).1, (h o).2.1, mv_up (h o).2.2 j x)) else none
    | _ => none
  | .lastore => match st with
    | (1, x) :: (0, j) :: (2, o) :: r => if (h o).1 = 13 ∧ 0 ≤ j ∧ j < (h o).2.1 then some (pc + 1, ls, r, c, mv_uo h o ((h o).1, (h o).2.1, mv_up (h o).2.2 j x)) else none
    | _ => none
  | .aastore => match st with
    | (2, x) :: (0, j) :: (2, o) :: r => if (((h o).1 = 14 ∧ (h x).1 = 1) ∨ ((h o).1 = 15 ∧ (h x).1 = 2)) ∧ 0 ≤ j ∧ j < (h o).2.1 then some (pc + 1, ls, r, c, mv_uo h o ((h o).1, (h o).2.1, mv_up (h o).2.2 j x)) else none
    | _ => none
  | .new _ => if 0 ≤ a ∧ a < 5 then some (pc + 3, ls, (2, (c.1 : Int)) :: st, (c.1 + 1, c.2.1 + 1, c.2.2 + mv_fn a.toNat), mv_uo h c.1 (a.toNat, (mv_fn a.toNat : Int), mv_df a.toNat)) else none
  | .newarray t => match st with
    | (0, n) :: r => if 0 ≤ n ∧ n ≤ 100000 ∧ mv_ak t < 99 then some (pc + 2, ls, (2, (c.1 : Int)) :: r, (c.1 + 1, c.2.1 + 1, c.2.2 + n.toNat), mv_uo h c.1 (mv_ak t, n, fun _ => 0)) else none
    | _ => none
  | .anewarray _ => match st with
    | (0, n) :: r => if 0 ≤ n ∧ n ≤ 100000 ∧ (a = 14 ∨ a = 15) then some (pc + 3, ls, (2, (c.1 : Int)) :: r, (c.1 + 1, c.2.1 + 1, c.2.2 + n.toNat), mv_uo h c.1 (a.toNat, n, fun _ => -1)) else none
    | _ => none
  | _ => none
/-- 0: an instruction of mv_step; 1: a call; 2: an end; 3: a throw -/
def mv_ki (i : Instr) (a : Int) : Nat := match i with
  | .invokevirtual _ => 1
  | .invokespecial _ => 1
  | .invokestatic _ => 1
  | .ireturn => 2
  | .lreturn => 2
  | .areturn => 2
  | .return_ => 2
  | .new _ => if a < 0 then 3 else 0
  | _ => 0
def mv_hnd : List (Nat × Nat × Nat × Nat) → Nat → Int → Option Nat
  | [], _, _ => none
  | (s, e, hp, x) :: r, pc, E => if s ≤ pc ∧ pc < e ∧ (x : Int) = E then some hp else mv_hnd r pc E
def mv_ret (k : Nat) (i : Instr) (st : List mv_V) : Option mv_R := match i with
  | .ireturn => match st with
    | [(0, x)] => if k = 0 ∨ (k = 4 ∧ (x = 0 ∨ x = 1)) then some (0, x) else none
    | _ => none
  | .lreturn => match st with
    | [(1, x)] => if k = 1 then some (1, x) else none
    | _ => none
  | .areturn => match st with
    | [(2, x)] => if k = 2 then some (2, x) else none
    | _ => none
  | .return_ => match st with
    | [] => if k = 3 then some (3, 0) else none
    | _ => none
  | _ => none
/-- the receiver of a call: of its class, or any object for a constructor -/
def mv_rc (i : Instr) (z : Nat) (vs : List mv_V) (h : mv_H) : Bool := match i with
  | .invokevirtual _ => match vs with
    | (2, b) :: _ => decide ((h b).1 = (mv_m z).2.2.2.2.1)
    | _ => false
  | .invokespecial _ => match vs with
    | (2, _) :: _ => true
    | _ => false
  | _ => true
/-- no constructor's call -/
def mv_nsp (i : Instr) : Bool := match i with
  | .invokespecial _ => false
  | _ => true
def mv_run (sc : Int × (Int → Int)) : Nat → Nat → Nat → List mv_V → List mv_V → mv_C → mv_H → Option (mv_R × mv_C × mv_H)
  | 0, _, _, _, _, _, _ => none
  | n + 1, y, pc, ls, st, c, h => match mv_get (mv_m y).1 pc with
    | none => none
    | some (i, a) => match mv_ki i a with
      | 0 => match mv_step sc pc i a ls st c h with
        | some (pc', ls', st', c', h') => mv_run sc n y pc' ls' st' c' h'
        | none => none
      | 1 => if (mv_m (mv_z a)).2.1 ≤ st.length ∧ st.length ≤ (mv_m (mv_z a)).2.1 + 4 ∧ mv_rc i (mv_z a) (st.take (mv_m (mv_z a)).2.1).reverse h = true ∧ (mv_ents (st.take (mv_m (mv_z a)).2.1).reverse).length ≤ (mv_m (mv_z a)).2.2.1 then
          match mv_run sc n (mv_z a) 0 (mv_ent (st.take (mv_m (mv_z a)).2.1).reverse (mv_m (mv_z a)).2.2.1) [] c h with
          | some (r, c1, h1) => if r.1 = 4 then (if a < 1000 ∧ mv_nsp i = true ∧ (mv_m (mv_z a)).2.2.2.2.2 = [] ∧ 0 ≤ r.2 ∧ r.2 < 3 then (match mv_hnd (mv_m y).2.2.2.2.2 pc r.2 with
              | some hp => mv_run sc n y hp ls [(3, 0)] c1 h1
              | none => if (mv_m y).2.2.2.2.2 = [] then some (r, c1, h1) else none) else none)
            else if r.1 = 3 then mv_run sc n y (pc + 3) ls (st.drop (mv_m (mv_z a)).2.1) c1 h1
            else mv_run sc n y (pc + 3) ls (r :: st.drop (mv_m (mv_z a)).2.1) c1 h1
          | none => none
        else none
      | 2 => (mv_ret (mv_m y).2.2.2.1 i st).map fun r => (r, c, h)
      | _ => if (mv_m y).2.2.2.2.2 = [] ∧ st = [] then some ((4, -1 - a), (c.1, c.2.1 + 1, c.2.2 + 6), h) else none
