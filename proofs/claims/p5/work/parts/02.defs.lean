/-! a small machine over whole numbers: values, frames of values, one heap of numbers, one step -/
abbrev jV : Type := Int ⊕ (Int ⊕ Option Nat)
abbrev jF : Type := List (Option jV)
/-- contents, kinds (number, length), references, next address, the static row's address -/
abbrev jS : Type := (Nat → Nat → Int) × (Nat → Nat × Nat) × (Nat → Nat → Option Nat) × Nat × Nat
/-- pc, instruction, its length, three resolved numbers, a constant -/
abbrev jE : Type := Nat × Instr × Nat × Nat × Nat × Nat × Int
def b32 (x : Int) : Int := x.bmod 4294967296
def b64 (x : Int) : Int := x.bmod 18446744073709551616
def jdr (r : Option Nat) : Nat := r.getD 0
def jg : jV → Value
  | .inl x => .int (Int32.ofInt x)
  | .inr (.inl x) => .long (Int64.ofInt x)
  | .inr (.inr r) => va_rf r
def jcat : jV → Nat
  | .inl _ => 1
  | .inr (.inl _) => 2
  | .inr (.inr _) => 1
def jget : jF → Nat → Option jV
  | [], _ => none
  | x :: _, 0 => x
  | _ :: r, i + 1 => jget r i
def jlong : Option jV → Bool
  | some (.inr (.inl _)) => true
  | _ => false
def jcut : jF → jF
  | [] => []
  | _ :: r => none :: r
def jset (v : jV) : Nat → jF → jF
  | _, [] => []
  | 0, _ :: r => some v :: (bif jlong (some v) then jcut r else r)
  | 1, x :: r => (bif jlong x then none else x) :: jset v 0 r
  | i + 2, x :: r => x :: jset v (i + 1) r
def jcb (c : Jvm.ClassFile.Cond) (x y : Int) : Bool := match c with
  | .eq => decide (x = y)
  | .ne => decide (x ≠ y)
  | .lt => decide (x < y)
  | .ge => decide (y ≤ x)
  | .gt => decide (y < x)
  | .le => decide (x ≤ y)
def jlc (x y : Int) : Int := if y < x then 1 else if x = y then 0 else -1
def jsw : List (Int × Nat) → Nat → Int → Nat
  | [], d, _ => d
  | q :: r, d, x => if q.1 = x then q.2 else jsw r d x
def jup (M : Nat → Nat → Int) (a k : Nat) (v : Int) : Nat → Nat → Int := fun b j => if b = a ∧ j = k then v else M b j
def jupr (M : Nat → Nat → Option Nat) (a k : Nat) (v : Option Nat) : Nat → Nat → Option Nat := fun b j => if b = a ∧ j = k then v else M b j
def jcpy (M : Nat → Nat → Int) (a0 s a d n : Nat) : Nat → Nat → Int := fun b j => if b = a ∧ d ≤ j ∧ j < d + n then M a0 (s + (j - d)) else M b j
def jand (x y : Int) : Int := (Int32.ofInt x &&& Int32.ofInt y).toInt
def jor (x y : Int) : Int := (Int32.ofInt x ||| Int32.ofInt y).toInt
def jshl (x y : Int) : Int := (Int32.ofInt x <<< (Int32.ofInt y &&& 31)).toInt
abbrev jR : Type := Option (Prop × Nat × jF × List jV × jS)
def jldv (k : Nat) (v : Option jV) (p : Nat) (l : jF) (st : List jV) (w : jS) : jR := match k, v with
  | 0, some (.inl x) => some (True, p, l, .inl x :: st, w)
  | 1, some (.inr (.inl x)) => some (True, p, l, .inr (.inl x) :: st, w)
  | 2, some (.inr (.inr r)) => some (r.isSome = true, p, l, .inr (.inr r) :: st, w)
  | _, _ => none
def jstv (k i p : Nat) (l : jF) (st : List jV) (w : jS) : jR := match k, st with
  | 0, .inl x :: r => some (True, p, jset (.inl x) i l, r, w)
  | 1, .inr (.inl x) :: r => some (True, p, jset (.inr (.inl x)) i l, r, w)
  | 2, .inr (.inr q) :: r => some (q.isSome = true, p, jset (.inr (.inr q)) i l, r, w)
  | _, _ => none
def jbin (f : Int → Int → Int) (p : Nat) (l : jF) (st : List jV) (w : jS) : jR := match st with
  | .inl y :: .inl x :: r => some (True, p, l, .inl (f x y) :: r, w)
  | _ => none
def jbinL (f : Int → Int → Int) (p : Nat) (l : jF) (st : List jV) (w : jS) : jR := match st with
  | .inr (.inl y) :: .inr (.inl x) :: r => some (True, p, l, .inr (.inl (f x y)) :: r, w)
  | _ => none
/-- a field's value: kind 0 int, 1 long, 2 reference, 3 boolean -/
def jfv (t k : Nat) (w : jS) (a : Nat) : jV := match t with
  | 1 => .inr (.inl (w.1 a k))
  | 2 => .inr (.inr (w.2.2.1 a k))
  | _ => .inl (w.1 a k)
def jput (t k p : Nat) (l : jF) (st : List jV) (w : jS) : jR := match t, st with
  | 0, .inl x :: .inr (.inr q) :: r => some (q.isSome = true, p, l, r, (jup w.1 (jdr q) k x, w.2))
  | 1, .inr (.inl x) :: .inr (.inr q) :: r => some (q.isSome = true, p, l, r, (jup w.1 (jdr q) k x, w.2))
  | 2, .inr (.inr v) :: .inr (.inr q) :: r => some (q.isSome = true ∧ v.isSome = true, p, l, r, (w.1, w.2.1, jupr w.2.2.1 (jdr q) k v, w.2.2.2))
  | 3, .inl x :: .inr (.inr q) :: r => some (q.isSome = true ∧ (b32 x = 0 ∨ b32 x = 1), p, l, r, (jup w.1 (jdr q) k x, w.2))
  | _, _ => none
def jird (q : Nat × Nat) : Prop := q.1 = 100 ∨ q.1 = 99
/-- the object kind that an array of references holds -/
def jrk (t : Nat) : Nat := match t with
  | 102 => 4
  | 103 => 6
  | 104 => 7
  | _ => 0
/-- the words of an operand stack -/
def jcats (st : List jV) : Nat := (st.map jcat).sum
def jbui (k p : Nat) (l : jF) (st : List jV) (w : jS) : jR := match k, st with
  | 1000, .inr (.inr q) :: r => some (q.isSome = true ∧ jcats r ≤ 8, p, l, r, w)
  | 1001, .inl x :: r => some (jcats r ≤ 8, p, l, .inl (if 0 ≤ b32 x then b32 x else 0 - b32 x) :: r, w)
  | 1002, .inr (.inl x) :: r => some (jcats r ≤ 8, p, l, .inr (.inl (if 0 ≤ b64 x then b64 x else 0 - b64 x)) :: r, w)
  | 1003, .inl y :: .inl x :: r => some (jcats r ≤ 8, p, l, .inl (if b32 x < b32 y then b32 y else b32 x) :: r, w)
  | 1004, .inl n :: .inl d :: .inr (.inr a) :: .inl s :: .inr (.inr a0) :: r =>
      some (jcats r ≤ 8 ∧ (a.isSome = true ∧ a0.isSome = true ∧ (w.2.1 (jdr a)).1 = 100 ∧ (w.2.1 (jdr a0)).1 = 100) ∧ (0 ≤ b32 n ∧ 0 ≤ b32 d ∧ 0 ≤ b32 s) ∧ b32 s + b32 n ≤ (w.2.1 (jdr a0)).2 ∧ b32 d + b32 n ≤ (w.2.1 (jdr a)).2, p, l, r, (jcpy w.1 (jdr a0) (b32 s).toNat (jdr a) (b32 d).toNat (b32 n).toNat, w.2))
  | _, _ => none
def jstep (e : jE) (l : jF) (st : List jV) (w : jS) : jR :=
  let p := e.1 + e.2.2.1
  match e.2.1 with
  | .iload i => jldv 0 (jget l i) p l st w
  | .iload_n i => jldv 0 (jget l i.val) p l st w
  | .lload i => jldv 1 (jget l i) p l st w
  | .lload_n i => jldv 1 (jget l i.val) p l st w
  | .aload i => jldv 2 (jget l i) p l st w
  | .aload_n i => jldv 2 (jget l i.val) p l st w
  | .istore i => jstv 0 i p l st w
  | .istore_n i => jstv 0 i.val p l st w
  | .lstore i => jstv 1 i p l st w
  | .lstore_n i => jstv 1 i.val p l st w
  | .astore i => jstv 2 i p l st w
  | .astore_n i => jstv 2 i.val p l st w
  | .iconst _ => some (True, p, l, .inl e.2.2.2.2.2.2 :: st, w)
  | .bipush _ => some (True, p, l, .inl e.2.2.2.2.2.2 :: st, w)
  | .sipush _ => some (True, p, l, .inl e.2.2.2.2.2.2 :: st, w)
  | .ldc _ => some (True, p, l, .inl e.2.2.2.2.2.2 :: st, w)
  | .ldc_w _ => some (True, p, l, .inl e.2.2.2.2.2.2 :: st, w)
  | .lconst _ => some (True, p, l, .inr (.inl e.2.2.2.2.2.2) :: st, w)
  | .ldc2_w _ => some (True, p, l, .inr (.inl e.2.2.2.2.2.2) :: st, w)
  | .iadd => jbin (fun x y => x + y) p l st w
  | .isub => jbin (fun x y => x - y) p l st w
  | .imul => jbin (fun x y => x * y) p l st w
  | .iand => jbin jand p l st w
  | .ior => jbin jor p l st w
  | .ishl => jbin jshl p l st w
  | .idiv => match st with
    | .inl y :: .inl x :: r => some (b32 y ≠ 0, p, l, .inl ((b32 x).tdiv (b32 y)) :: r, w)
    | _ => none
  | .irem => match st with
    | .inl y :: .inl x :: r => some (b32 y ≠ 0, p, l, .inl ((b32 x).tmod (b32 y)) :: r, w)
    | _ => none
  | .ineg => match st with
    | .inl x :: r => some (True, p, l, .inl (-x) :: r, w)
    | _ => none
  | .ladd => jbinL (fun x y => x + y) p l st w
  | .lsub => jbinL (fun x y => x - y) p l st w
  | .lmul => jbinL (fun x y => x * y) p l st w
  | .ldiv => match st with
    | .inr (.inl y) :: .inr (.inl x) :: r => some (b64 y ≠ 0, p, l, .inr (.inl ((b64 x).tdiv (b64 y))) :: r, w)
    | _ => none
  | .lrem => match st with
    | .inr (.inl y) :: .inr (.inl x) :: r => some (b64 y ≠ 0, p, l, .inr (.inl ((b64 x).tmod (b64 y))) :: r, w)
    | _ => none
  | .lneg => match st with
    | .inr (.inl x) :: r => some (True, p, l, .inr (.inl (-x)) :: r, w)
    | _ => none
  | .i2l => match st with
    | .inl x :: r => some (True, p, l, .inr (.inl (b32 x)) :: r, w)
    | _ => none
  | .l2i => match st with
    | .inr (.inl x) :: r => some (True, p, l, .inl x :: r, w)
    | _ => none
  | .lcmp => match st with
    | .inr (.inl y) :: .inr (.inl x) :: r => some (True, p, l, .inl (jlc (b64 x) (b64 y)) :: r, w)
    | _ => none
  | .iinc i n => match jget l i with
    | some (.inl x) => some (True, p, jset (.inl (x + n)) i l, st, w)
    | _ => none
  | .dup => match st with
    | .inl x :: r => some (True, p, l, .inl x :: .inl x :: r, w)
    | .inr (.inr q) :: r => some (q.isSome = true, p, l, .inr (.inr q) :: .inr (.inr q) :: r, w)
    | _ => none
  | .dup2 => match st with
    | .inl x :: .inr (.inr q) :: r => some (q.isSome = true, p, l, .inl x :: .inr (.inr q) :: .inl x :: .inr (.inr q) :: r, w)
    | _ => none
  | .pop => match st with
    | .inl _ :: r => some (True, p, l, r, w)
    | _ => none
  | .goto _ => some (True, e.2.2.2.1, l, st, w)
  | .getfield _ => match st with
    | .inr (.inr q) :: r => some (q.isSome = true ∧ (w.2.1 (jdr q)).1 = e.2.2.2.1 + 1, p, l, jfv e.2.2.2.2.2.1 e.2.2.2.2.1 w (jdr q) :: r, w)
    | _ => none
  | .putfield _ => match st with
    | _ :: .inr (.inr q) :: _ => match jput e.2.2.2.2.2.1 e.2.2.2.2.1 p l st w with
      | some (g, x) => some ((w.2.1 (jdr q)).1 = e.2.2.2.1 + 1 ∧ g, x)
      | none => none
    | _ => none
  | .getstatic _ => some (True, p, l, .inr (.inr (some w.2.2.2.2)) :: st, w)
  | .arraylength => match st with
    | .inr (.inr q) :: r => some (q.isSome = true ∧ jird (w.2.1 (jdr q)), p, l, .inl ((w.2.1 (jdr q)).2 : Int) :: r, w)
    | _ => none
  | .iaload => match st with
    | .inl i :: .inr (.inr q) :: r => some (q.isSome = true ∧ jird (w.2.1 (jdr q)) ∧ 0 ≤ b32 i ∧ b32 i < ((w.2.1 (jdr q)).2 : Int), p, l, .inl (w.1 (jdr q) (b32 i).toNat) :: r, w)
    | _ => none
  | .laload => match st with
    | .inl i :: .inr (.inr q) :: r => some (q.isSome = true ∧ (w.2.1 (jdr q)).1 = 101 ∧ 0 ≤ b32 i ∧ b32 i < ((w.2.1 (jdr q)).2 : Int), p, l, .inr (.inl (w.1 (jdr q) (b32 i).toNat)) :: r, w)
    | _ => none
  | .aaload => match st with
    | .inl i :: .inr (.inr q) :: r => some (q.isSome = true ∧ (102 ≤ (w.2.1 (jdr q)).1 ∧ (w.2.1 (jdr q)).1 ≤ 105) ∧ 0 ≤ b32 i ∧ b32 i < ((w.2.1 (jdr q)).2 : Int), p, l, .inr (.inr (w.2.2.1 (jdr q) (b32 i).toNat)) :: r, w)
    | _ => none
  | .iastore => match st with
    | .inl x :: .inl i :: .inr (.inr q) :: r => some (q.isSome = true ∧ (w.2.1 (jdr q)).1 = 100 ∧ 0 ≤ b32 i ∧ b32 i < ((w.2.1 (jdr q)).2 : Int), p, l, r, (jup w.1 (jdr q) (b32 i).toNat x, w.2))
    | _ => none
  | .lastore => match st with
    | .inr (.inl x) :: .inl i :: .inr (.inr q) :: r => some (q.isSome = true ∧ (w.2.1 (jdr q)).1 = 101 ∧ 0 ≤ b32 i ∧ b32 i < ((w.2.1 (jdr q)).2 : Int), p, l, r, (jup w.1 (jdr q) (b32 i).toNat x, w.2))
    | _ => none
  | .aastore => match st with
    | .inr (.inr v) :: .inl i :: .inr (.inr q) :: r => some (q.isSome = true ∧ v.isSome = true ∧ (102 ≤ (w.2.1 (jdr q)).1 ∧ (w.2.1 (jdr q)).1 ≤ 104 ∧ (w.2.1 (jdr v)).1 = jrk (w.2.1 (jdr q)).1) ∧ 0 ≤ b32 i ∧ b32 i < ((w.2.1 (jdr q)).2 : Int), p, l, r, (w.1, w.2.1, jupr w.2.2.1 (jdr q) (b32 i).toNat v, w.2.2.2))
    | _ => none
  | .invokestatic _ => jbui e.2.2.2.1 p l st w
  | .invokespecial _ => jbui e.2.2.2.1 p l st w
  | _ => none
def jfind : List jE → Nat → Option jE
  | [], _ => none
  | e :: r, p => bif Nat.beq e.1 p then some e else jfind r p
