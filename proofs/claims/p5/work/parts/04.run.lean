def jlay : List jV → jF
  | [] => []
  | v :: r => some v :: (bif jlong (some v) then none :: jlay r else jlay r)
/-- a method's locals at its entry -/
def jent (n : Nat) (as : List jV) : jF := jlay as ++ List.replicate (n - (jlay as).length) none
def jtake : Nat → List jV → List jV → Option (List jV × List jV)
  | 0, acc, st => some (acc, st)
  | n + 1, acc, v :: st => jtake n (v :: acc) st
  | _ + 1, _, [] => none
def jnewo (w : jS) (t n : Nat) : jS :=
  (fun a j => if a = w.2.2.2.1 then 0 else w.1 a j, fun a => if a = w.2.2.2.1 then (t, n) else w.2.1 a, fun a j => if a = w.2.2.2.1 then none else w.2.2.1 a j, w.2.2.2.1 + 1, w.2.2.2.2)
def jnew2 (w : jS) (n m : Nat) : jS :=
  (fun a j => if w.2.2.2.1 ≤ a ∧ a ≤ w.2.2.2.1 + n then 0 else w.1 a j,
   fun a => if a = w.2.2.2.1 then (105, n) else if w.2.2.2.1 < a ∧ a ≤ w.2.2.2.1 + n then (101, m) else w.2.1 a,
   fun a j => if a = w.2.2.2.1 then (if j < n then some (w.2.2.2.1 + 1 + j) else none) else if w.2.2.2.1 < a ∧ a ≤ w.2.2.2.1 + n then none else w.2.2.1 a j,
   w.2.2.2.1 + 1 + n, w.2.2.2.2)
abbrev jC : Type := (Nat × List jV) ⊕ Option jV ⊕ (Nat × List jV × List jV) ⊕ (List jV × Nat × Nat × jS)
def jrecv (k : Nat) (as : List jV) (w : jS) : Prop := match as with
  | .inr (.inr q) :: _ => q.isSome = true ∧ (w.2.1 (jdr q)).1 = jtag (jown k)
  | _ => False
def jinv (virt : Bool) (k : Nat) (e : jE) (st : List jV) (c sl : Nat) (w : jS) : Option (Prop × jC) :=
  match jtake (bif virt then e.2.2.2.2.1 + 1 else e.2.2.2.2.1) [] st with
  | some (as, rest) => some ((c + jmc e.2.2.2.1 ≤ jmc k ∧ sl + jms e.2.2.2.1 ≤ jms k) ∧ (jlay as).length ≤ jmaxL e.2.2.2.1 ∧ jcats rest ≤ 8 ∧ (virt = true → jrecv e.2.2.2.1 as w), .inr (.inr (.inl (e.2.2.2.1, as, rest))))
  | none => none
def jctl (k : Nat) (e : jE) (st : List jV) (c sl : Nat) (w : jS) : Option (Prop × jC) :=
  match e.2.1 with
  | .ifCond cd _ => match st with
    | .inl x :: r => some (True, .inl (bif jcb cd (b32 x) 0 then e.2.2.2.1 else e.1 + 3, r))
    | _ => none
  | .if_icmp cd _ => match st with
    | .inl y :: .inl x :: r => some (True, .inl (bif jcb cd (b32 x) (b32 y) then e.2.2.2.1 else e.1 + 3, r))
    | _ => none
  | .tableswitch _ _ _ _ => match st with
    | .inl x :: r => some (True, .inl (jsw (jswt e.2.2.2.1).1 (jswt e.2.2.2.1).2 (b32 x), r))
    | _ => none
  | .lookupswitch _ _ => match st with
    | .inl x :: r => some (True, .inl (jsw (jswt e.2.2.2.1).1 (jswt e.2.2.2.1).2 (b32 x), r))
    | _ => none
  | .ireturn => match st with
    | [.inl x] => some ((c = jmc k ∧ sl = jms k) ∧ (jrc k = 1 ∨ (jrc k = 2 ∧ (b32 x = 0 ∨ b32 x = 1))), .inr (.inl (some (.inl x))))
    | _ => none
  | .lreturn => match st with
    | [.inr (.inl x)] => some ((c = jmc k ∧ sl = jms k) ∧ jrc k = 3, .inr (.inl (some (.inr (.inl x)))))
    | _ => none
  | .return_ => match st with
    | [] => some ((c = jmc k ∧ sl = jms k) ∧ jrc k = 0, .inr (.inl none))
    | _ => none
  | .invokevirtual _ => jinv true k e st c sl w
  | .invokespecial _ => jinv true k e st c sl w
  | .invokestatic _ => jinv false k e st c sl w
  | .new _ => some (c + 1 ≤ jmc k ∧ sl + e.2.2.2.2.1 ≤ jms k, .inr (.inr (.inr (.inr (.inr (some w.2.2.2.1)) :: st, c + 1, sl + e.2.2.2.2.1, jnewo w (e.2.2.2.1 + 1) 0))))
  | .newarray _ => match st with
    | .inl n :: r => some ((0 ≤ b32 n ∧ b32 n ≤ 1000) ∧ c + 1 ≤ jmc k ∧ sl + (b32 n).toNat ≤ jms k, .inr (.inr (.inr (.inr (.inr (some w.2.2.2.1)) :: r, c + 1, sl + (b32 n).toNat, jnewo w e.2.2.2.1 (b32 n).toNat))))
    | _ => none
  | .anewarray _ => match st with
    | .inl n :: r => some ((0 ≤ b32 n ∧ b32 n ≤ 1000) ∧ c + 1 ≤ jmc k ∧ sl + (b32 n).toNat ≤ jms k, .inr (.inr (.inr (.inr (.inr (some w.2.2.2.1)) :: r, c + 1, sl + (b32 n).toNat, jnewo w e.2.2.2.1 (b32 n).toNat))))
    | _ => none
  | .multianewarray _ _ => match st with
    | .inl m :: .inl n :: r => some ((0 ≤ b32 n ∧ b32 n ≤ 1000 ∧ 0 ≤ b32 m ∧ b32 m ≤ 1000) ∧ c + (1 + (b32 n).toNat) ≤ jmc k ∧ sl + ((b32 n).toNat + (b32 n).toNat * (b32 m).toNat) ≤ jms k,
        .inr (.inr (.inr (.inr (.inr (some w.2.2.2.1)) :: r, c + 1 + (b32 n).toNat, sl + (b32 n).toNat + (b32 n).toNat * (b32 m).toNat, jnew2 w (b32 n).toNat (b32 m).toNat))))
    | _ => none
  | _ => none
/-- the machine: by so many steps at most -/
noncomputable def jrun : Nat → Nat → Nat → jF → List jV → Nat → Nat → jS → Option (Option jV × jS)
  | 0, _, _, _, _, _, _, _ => none
  | n + 1, k, pc, l, st, c, sl, w =>
    match jfind (jtb k) pc with
    | none => none
    | some e =>
      match jstep e l st w with
      | some (g, pc', l', st', w') => @ite _ g (Classical.propDecidable g) (jrun n k pc' l' st' c sl w') none
      | none =>
        match jctl k e st c sl w with
        | none => none
        | some (g, x) => @ite _ g (Classical.propDecidable g)
          (match x with
          | .inl (pc', st') => jrun n k pc' l st' c sl w
          | .inr (.inl v) => some (v, w)
          | .inr (.inr (.inl (k', as, rest))) =>
            match jrun n k' 0 (jent (jmaxL k') as) [] 0 0 w with
            | some (v, w') => jrun n k (e.1 + 3) l (v.toList ++ rest) (c + jmc k') (sl + jms k') w'
            | none => none
          | .inr (.inr (.inr (st', c', sl', w'))) => jrun n k (e.1 + e.2.2.1) l st' c' sl' w') none
/-- what a table's row must be -/
def jlen : Instr → Nat
  | .iload _ => 2
  | .lload _ => 2
  | .aload _ => 2
  | .istore _ => 2
  | .lstore _ => 2
  | .astore _ => 2
  | .bipush _ => 2
  | .ldc _ => 2
  | .newarray _ => 2
  | .sipush _ => 3
  | .ldc_w _ => 3
  | .ldc2_w _ => 3
  | .iinc _ _ => 3
  | .goto _ => 3
  | .ifCond _ _ => 3
  | .if_icmp _ _ => 3
  | .getfield _ => 3
  | .putfield _ => 3
  | .getstatic _ => 3
  | .invokevirtual _ => 3
  | .invokespecial _ => 3
  | .invokestatic _ => 3
  | .new _ => 3
  | .anewarray _ => 3
  | .multianewarray _ _ => 4
  | _ => 1
def jhas3 (L : List (Nat × Nat × Nat × Nat)) (a b c : Nat) : Bool := L.any (fun q => Nat.beq q.1 a && Nat.beq q.2.1 b && Nat.beq q.2.2.1 c)
def jhas4 (L : List (Nat × Nat × Nat × Nat × Nat)) (a b c d : Nat) : Bool := L.any (fun q => Nat.beq q.1 a && Nat.beq q.2.1 b && Nat.beq q.2.2.1 c && Nat.beq q.2.2.2.1 d)
def jhasZ (L : List (Nat × Nat × Int × Nat)) (a b : Nat) (z : Int) : Bool := L.any (fun q => Nat.beq q.1 a && Nat.beq q.2.1 b && decide (q.2.2.1 = z))
def jwcall (k k' : Nat) (kd na : Nat) : Bool := Nat.blt k' 221 && Nat.beq (jkd k') kd && Nat.beq (jna k') na && Nat.ble (jfr k' + 1) (jfr k) && Nat.ble (8 + (jmaxL k' + 11) + jlo k') (jlo k)
def jwbui (k i b : Nat) : Bool := jhas3 jBL (jown k) i b && Nat.ble 1 (jfr k) && Nat.ble 26 (jlo k + 5) && (!(Nat.beq b 1004) || Nat.ble 26 (jlo k))
def jwf (k : Nat) (e : jE) : Bool :=
  decide (decode (jcode k) e.1 = .ok (e.2.1, e.2.2.1)) && (match e.2.1 with
  | .tableswitch _ _ _ _ => true
  | .lookupswitch _ _ => true
  | i => Nat.beq e.2.2.1 (jlen i)) && (match e.2.1 with
  | .istore i => Nat.blt i (jmaxL k)
  | .istore_n i => Nat.blt i.val (jmaxL k)
  | .astore i => Nat.blt i (jmaxL k)
  | .astore_n i => Nat.blt i.val (jmaxL k)
  | .lstore i => Nat.blt (i + 1) (jmaxL k)
  | .lstore_n i => Nat.blt (i.val + 1) (jmaxL k)
  | .iinc i _ => Nat.blt i (jmaxL k)
  | .iconst n => decide (e.2.2.2.2.2.2 = n)
  | .bipush n => decide ((Int8.ofInt n).toInt32 = Int32.ofInt e.2.2.2.2.2.2)
  | .sipush n => decide ((Int16.ofInt n).toInt32 = Int32.ofInt e.2.2.2.2.2.2)
  | .lconst n => decide (Int64.ofNat n.val = Int64.ofInt e.2.2.2.2.2.2)
  | .ldc i => jhasZ jKI (jown k) i e.2.2.2.2.2.2
  | .ldc_w i => jhasZ jKI (jown k) i e.2.2.2.2.2.2
  | .ldc2_w i => jhasZ jKJ (jown k) i e.2.2.2.2.2.2
  | .goto off => decide ((e.1 : Int) + off = (e.2.2.2.1 : Int))
  | .ifCond _ off => decide ((e.1 : Int) + off = (e.2.2.2.1 : Int))
  | .if_icmp _ off => decide ((e.1 : Int) + off = (e.2.2.2.1 : Int))
  | .tableswitch d lo hi offs => decide ((e.1 : Int) + d = ((jswt e.2.2.2.1).2 : Int)) && decide (hi = lo + offs.size - 1) && decide ((jswt e.2.2.2.1).1.map (fun q => (q.1, (q.2 : Int))) = (offs.toList.zipIdx).map (fun o => (lo + o.2, (e.1 : Int) + o.1)))
  | .lookupswitch d ps => decide ((e.1 : Int) + d = ((jswt e.2.2.2.1).2 : Int)) && decide ((jswt e.2.2.2.1).1.map (fun q => (q.1, (q.2 : Int))) = ps.toList.map (fun o => (o.1, (e.1 : Int) + o.2))) && (ps.toList.zip (ps.toList.drop 1)).all (fun x => decide (x.1.1 < x.2.1))
  | .getfield i => (jhas4 jFL (jown k) i e.2.2.2.1 e.2.2.2.2.1 || jhas4 jFX (jown k) i e.2.2.2.1 e.2.2.2.2.1) && Nat.blt e.2.2.2.1 10 && Nat.beq (jtyc (jFy e.2.2.2.1 e.2.2.2.2.1)) e.2.2.2.2.2.1
  | .putfield i => jhas4 jFL (jown k) i e.2.2.2.1 e.2.2.2.2.1 && Nat.blt e.2.2.2.1 10 && Nat.beq (jtyc (jFy e.2.2.2.1 e.2.2.2.2.1)) e.2.2.2.2.2.1 && (!(jFT e.2.2.2.1 e.2.2.2.2.1).2.2.2 || (Nat.beq (jkd k) 2 && decide ((jFT e.2.2.2.1 e.2.2.2.2.1).1 = jCn (jown k))))
  | .getstatic i => Nat.beq (jown k) 2 && Nat.beq i 7
  | .invokevirtual i => (jhas3 jML (jown k) i e.2.2.2.1 || jhas3 jMN (jown k) i e.2.2.2.1) && jwcall k e.2.2.2.1 0 e.2.2.2.2.1
  | .invokestatic i => (Nat.blt e.2.2.2.1 1000 && (jhas3 jML (jown k) i e.2.2.2.1 || jhas3 jMN (jown k) i e.2.2.2.1) && jwcall k e.2.2.2.1 1 e.2.2.2.2.1) || (Nat.blt 1000 e.2.2.2.1 && jwbui k i e.2.2.2.1)
  | .invokespecial i => (Nat.blt e.2.2.2.1 1000 && (jhas3 jML (jown k) i e.2.2.2.1 || jhas3 jMN (jown k) i e.2.2.2.1) && jwcall k e.2.2.2.1 2 e.2.2.2.2.1) || (Nat.beq e.2.2.2.1 1000 && jwbui k i e.2.2.2.1)
  | .new i => jhas3 jCK (jown k) i e.2.2.2.1 && Nat.blt e.2.2.2.1 10 && Nat.beq e.2.2.2.2.1 (jFN e.2.2.2.1)
  | .newarray t => (match t with
    | .int => Nat.beq e.2.2.2.1 100
    | .long => Nat.beq e.2.2.2.1 101
    | _ => false)
  | .anewarray i => (Nat.beq e.2.2.2.1 102 && jhas3 jCK (jown k) i 3) || (Nat.beq e.2.2.2.1 103 && jhas3 jCK (jown k) i 5) || (Nat.beq e.2.2.2.1 104 && jhas3 jCK (jown k) i 6)
  | .multianewarray i d => Nat.beq (jown k) 10 && Nat.beq i 29 && Nat.beq d 2
  | _ => true)
