section
def jlay : List jV → jF
  | [] => []
  | v :: r => some v :: (bif jlong (some v) then none :: jlay r else jlay r)
/-- a method's locals at its entry -/
def jent (n : Nat) (as : List jV) : jF := jlay as ++ List.replicate (n - (jlay as).length) none
def jtake : Nat → List jV → List jV → Option (List jV × List jV)
  | 0, acc, st => some (acc, st)
  | n + 1, acc, v :: st => jtake n (v :: acc) st
  | _ + 1, _, [] => none
def jnewo (w : jS) (t n : Nat) : jS :=
  (fun a j => if a = w.2.2.2.1 then 0 else w.1 a j, fun a => if a = w.2.2.2.1 then (t, n) else w.2.1 a, fun a j => if a = w.2.2.2.1 then none else w.2.2.1 a j, w.2.2.2.1 + 1, w.2.2.2.2)
def jnew2 (w : jS) (n m : Nat) : jS :=
  (fun a j => if w.2.2.2.1 ≤ a ∧ a ≤ w.2.2.2.1 + n then 0 else w.1 a j,
   fun a => if a = w.2.2.2.1 then (105, n) else if w.2.2.2.1 < a ∧ a ≤ w.2.2.2.1 + n then (101, m) else w.2.1 a,
   fun a j => if a = w.2.2.2.1 then (if j < n then some (w.2.2.2.1 + 1 + j) else none) else if w.2.2.2.1 < a ∧ a ≤ w.2.2.2.1 + n then none else w.2.2.1 a j,
   w.2.2.2.1 + 1 + n, w.2.2.2.2)
abbrev jC : Type := (Nat × List jV) ⊕ Option jV ⊕ (Nat × List jV × List jV) ⊕ (List jV × Nat × Nat × jS)
def jrecv (k : Nat) (as : List jV) (w : jS) : Prop := match as with
  | .inr (.inr q) :: _ => q.isSome = true ∧ (w.2.1 (jdr q)).1 = jtag (jown k)
  | _ => False
def jinv (virt : Bool) (k : Nat) (e : jE) (st : List jV) (c sl : Nat) (w : jS) : Option (Prop × jC) :=
  match jtake (bif virt then e.2.2.2.2.1 + 1 else e.2.2.2.2.1) [] st with
  | some (as, rest) => some ((c + jmc e.2.2.2.1 ≤ jmc k ∧ sl + jms e.2.2.2.1 ≤ jms k) ∧ (jlay as).length ≤ jmaxL e.2.2.2.1 ∧ jcats rest ≤ 8 ∧ (virt = true → jrecv e.2.2.2.1 as w), .inr (.inr (.inl (e.2.2.2.1, as, rest))))
  | none => none
def jctl (k : Nat) (e : jE) (st : List jV) (c sl : Nat) (w : jS) : Option (Prop × jC) :=
  match e.2.1 with
  | .ifCond cd _ => match st with
    | .inl x :: r => some (True, .inl (bif jcb cd (b32 x) 0 then e.2.2.2.1 else e.1 + 3, r))
    | _ => none
  | .if_icmp cd _ => match st with
    | .inl y :: .inl x :: r => some (True, .inl (bif jcb cd (b32 x) (b32 y) then e.2.2.2.1 else e.1 + 3, r))
    | _ => none
  | .tableswitch _ _ _ _ => match st with
    | .inl x :: r => some (True, .inl (jsw (jswt e.2.2.2.1).1 (jswt e.2.2.2.1).2 (b32 x), r))
    | _ => none
  | .lookupswitch _ _ => match st with
    | .inl x :: r => some (True, .inl (jsw (jswt e.2.2.2.1).1 (jswt e.2.2.2.1).2 (b32 x), r))
    | _ => none
  | .ireturn => match st with
    | [.inl x] => some ((c = jmc k ∧ sl = jms k) ∧ (jrc k = 1 ∨ (jrc k = 2 ∧ (b32 x = 0 ∨ b32 x = 1))), .inr (.inl (some (.inl x))))
    | _ => none
  | .lreturn => match st with
    | [.inr (.inl x)] => some ((c = jmc k ∧ sl = jms k) ∧ jrc k = 3, .inr (.inl (some (.inr (.inl x)))))
    | _ => none
  | .return_ => match st with
    | [] => some ((c = jmc k ∧ sl = jms k) ∧ jrc k = 0, .inr (.inl none))
    | _ => none
  | .invokevirtual _ => jinv true k e st c sl w
  | .invokespecial _ => jinv true k e st c sl w
  | .invokestatic _ => jinv false k e st c sl w
  | .new _ => some (c + 1 ≤ jmc k ∧ sl + e.2.2.2.2.1 ≤ jms k, .inr (.inr (.inr (.inr (.inr (some w.2.2.2.1)) :: st, c + 1, sl + e.2.2.2.2.1, jnewo w (e.2.2.2.1 + 1) 0))))
  | .newarray _ => match st with
    | .inl n :: r => some ((0 ≤ b32 n ∧ b32 n ≤ 1000) ∧ c + 1 ≤ jmc k ∧ sl + (b32 n).toNat ≤ jms k, .inr (.inr (.inr (.inr (.inr (some w.2.2.2.1)) :: r, c + 1, sl + (b32 n).toNat, jnewo w e.2.2.2.1 (b32 n).toNat))))
    | _ => none
  | .anewarray _ => match st with
    | .inl n :: r => some ((0 ≤ b32 n ∧ b32 n ≤ 1000) ∧ c + 1 ≤ jmc k ∧ sl + (b32 n).toNat ≤ jms k, .inr (.inr (.inr (.inr (.inr (some w.2.2.2.1)) :: r, c + 1, sl + (b32 n).toNat, jnewo w e.2.2.2.1 (b32 n).toNat))))
    | _ => none
  | .multianewarray _ _ => match st with
    | .inl m :: .inl n :: r => some ((0 ≤ b32 n ∧ b32 n ≤ 1000 ∧ 0 ≤ b32 m ∧ b32 m ≤ 1000) ∧ c + (1 + (b32 n).toNat) ≤ jmc k ∧ sl + ((b32 n).toNat + (b32 n).toNat * (b32 m).toNat) ≤ jms k,
        .inr (.inr (.inr (.inr (.inr (some w.2.2.2.1)) :: r, c + 1 + (b32 n).toNat, sl + (b32 n).toNat + (b32 n).toNat * (b32 m).toNat, jnew2 w (b32 n).toNat (b32 m).toNat))))
    | _ => none
  | _ => none
/-- the machine: by so many steps at most -/
noncomputable def jrun : Nat → Nat → Nat → jF → List jV → Nat → Nat → jS → Option (Option jV × jS)
  | 0, _, _, _, _, _, _, _ => none
  | n + 1, k, pc, l, st, c, sl, w =>
    match jfind (jtb k) pc with
    | none => none
    | some e =>
      match jstep e l st w with
      | some (g, pc', l', st', w') => @ite _ g (Classical.propDecidable g) (jrun n k pc' l' st' c sl w') none
      | none =>
        match jctl k e st c sl w with
        | none => none
        | some (g, x) => @ite _ g (Classical.propDecidable g)
          (match x with
          | .inl (pc', st') => jrun n k pc' l st' c sl w
          | .inr (.inl v) => some (v, w)
          | .inr (.inr (.inl (k', as, rest))) =>
            match jrun n k' 0 (jent (jmaxL k') as) [] 0 0 w with
            | some (v, w') => jrun n k (e.1 + 3) l (v.toList ++ rest) (c + jmc k') (sl + jms k') w'
            | none => none
          | .inr (.inr (.inr (st', c', sl', w'))) => jrun n k (e.1 + e.2.2.1) l st' c' sl' w') none
/-- what a table's row must be -/
def jlen : Instr → Nat
  | .iload _ => 2
  | .lload _ => 2
  | .aload _ => 2
  | .istore _ => 2
  | .lstore _ => 2
  | .astore _ => 2
  | .bipush _ => 2
  | .ldc _ => 2
  | .newarray _ => 2
  | .sipush _ => 3
  | .ldc_w _ => 3
  | .ldc2_w _ => 3
  | .iinc _ _ => 3
  | .goto _ => 3
  | .ifCond _ _ => 3
  | .if_icmp _ _ => 3
  | .getfield _ => 3
  | .putfield _ => 3
  | .getstatic _ => 3
  | .invokevirtual _ => 3
  | .invokespecial _ => 3
  | .invokestatic _ => 3
  | .new _ => 3
  | .anewarray _ => 3
  | .multianewarray _ _ => 4
  | _ => 1
def jhas3 (L : List (Nat × Nat × Nat × Nat)) (a b c : Nat) : Bool := L.any (fun q => Nat.beq q.1 a && Nat.beq q.2.1 b && Nat.beq q.2.2.1 c)
def jhas4 (L : List (Nat × Nat × Nat × Nat × Nat)) (a b c d : Nat) : Bool := L.any (fun q => Nat.beq q.1 a && Nat.beq q.2.1 b && Nat.beq q.2.2.1 c && Nat.beq q.2.2.2.1 d)
def jhasZ (L : List (Nat × Nat × Int × Nat)) (a b : Nat) (z : Int) : Bool := L.any (fun q => Nat.beq q.1 a && Nat.beq q.2.1 b && decide (q.2.2.1 = z))
def jwcall (k k' : Nat) (kd na : Nat) : Bool := Nat.blt k' 221 && Nat.beq (jkd k') kd && Nat.beq (jna k') na && Nat.ble (jfr k' + 1) (jfr k) && Nat.ble (8 + (jmaxL k' + 11) + jlo k') (jlo k)
def jwbui (k i b : Nat) : Bool := jhas3 jBL (jown k) i b && Nat.ble 1 (jfr k) && Nat.ble 26 (jlo k + 5) && (!(Nat.beq b 1004) || Nat.ble 26 (jlo k))
def jwf (k : Nat) (e : jE) : Bool :=
  decide (decode (jcode k) e.1 = .ok (e.2.1, e.2.2.1)) && (match e.2.1 with
  | .tableswitch _ _ _ _ => true
  | .lookupswitch _ _ => true
  | i => Nat.beq e.2.2.1 (jlen i)) && (match e.2.1 with
  | .istore i => Nat.blt i (jmaxL k)
  | .istore_n i => Nat.blt i.val (jmaxL k)
  | .astore i => Nat.blt i (jmaxL k)
  | .astore_n i => Nat.blt i.val (jmaxL k)
  | .lstore i => Nat.blt (i + 1) (jmaxL k)
  | .lstore_n i => Nat.blt (i.val + 1) (jmaxL k)
  | .iinc i _ => Nat.blt i (jmaxL k)
  | .iconst n => decide (e.2.2.2.2.2.2 = n)
  | .bipush n => decide ((Int8.ofInt n).toInt32 = Int32.ofInt e.2.2.2.2.2.2)
  | .sipush n => decide ((Int16.ofInt n).toInt32 = Int32.ofInt e.2.2.2.2.2.2)
  | .lconst n => decide (Int64.ofNat n.val = Int64.ofInt e.2.2.2.2.2.2)
  | .ldc i => jhasZ jKI (jown k) i e.2.2.2.2.2.2
  | .ldc_w i => jhasZ jKI (jown k) i e.2.2.2.2.2.2
  | .ldc2_w i => jhasZ jKJ (jown k) i e.2.2.2.2.2.2
  | .goto off => decide ((e.1 : Int) + off = (e.2.2.2.1 : Int))
  | .ifCond _ off => decide ((e.1 : Int) + off = (e.2.2.2.1 : Int))
  | .if_icmp _ off => decide ((e.1 : Int) + off = (e.2.2.2.1 : Int))
  | .tableswitch d lo hi offs => decide ((e.1 : Int) + d = ((jswt e.2.2.2.1).2 : Int)) && decide (hi = lo + offs.size - 1) && decide ((jswt e.2.2.2.1).1.map (fun q => (q.1, (q.2 : Int))) = (offs.toList.zipIdx).map (fun o => (lo + o.2, (e.1 : Int) + o.1)))
  | .lookupswitch d ps => decide ((e.1 : Int) + d = ((jswt e.2.2.2.1).2 : Int)) && decide ((jswt e.2.2.2.1).1.map (fun q => (q.1, (q.2 : Int))) = ps.toList.map (fun o => (o.1, (e.1 : Int) + o.2))) && (ps.toList.zip (ps.toList.drop 1)).all (fun x => decide (x.1.1 < x.2.1))
  | .getfield i => (jhas4 jFL (jown k) i e.2.2.2.1 e.2.2.2.2.1 || jhas4 jFX (jown k) i e.2.2.2.1 e.2.2.2.2.1) && Nat.blt e.2.2.2.1 10 && Nat.beq (jtyc (jFy e.2.2.2.1 e.2.2.2.2.1)) e.2.2.2.2.2.1
  | .putfield i => jhas4 jFL (jown k) i e.2.2.2.1 e.2.2.2.2.1 && Nat.blt e.2.2.2.1 10 && Nat.beq (jtyc (jFy e.2.2.2.1 e.2.2.2.2.1)) e.2.2.2.2.2.1 && (!(jFT e.2.2.2.1 e.2.2.2.2.1).2.2.2 || (Nat.beq (jkd k) 2 && decide ((jFT e.2.2.2.1 e.2.2.2.2.1).1 = jCn (jown k))))
  | .getstatic i => Nat.beq (jown k) 2 && Nat.beq i 7
  | .invokevirtual i => (jhas3 jML (jown k) i e.2.2.2.1 || jhas3 jMN (jown k) i e.2.2.2.1) && jwcall k e.2.2.2.1 0 e.2.2.2.2.1
  | .invokestatic i => (Nat.blt e.2.2.2.1 1000 && (jhas3 jML (jown k) i e.2.2.2.1 || jhas3 jMN (jown k) i e.2.2.2.1) && jwcall k e.2.2.2.1 1 e.2.2.2.2.1) || (Nat.blt 1000 e.2.2.2.1 && jwbui k i e.2.2.2.1)
  | .invokespecial i => (Nat.blt e.2.2.2.1 1000 && (jhas3 jML (jown k) i e.2.2.2.1 || jhas3 jMN (jown k) i e.2.2.2.1) && jwcall k e.2.2.2.1 2 e.2.2.2.2.1) || (Nat.beq e.2.2.2.1 1000 && jwbui k i e.2.2.2.1)
  | .new i => jhas3 jCK (jown k) i e.2.2.2.1 && Nat.blt e.2.2.2.1 10 && Nat.beq e.2.2.2.2.1 (jFN e.2.2.2.1)
  | .newarray t => (match t with
    | .int => Nat.beq e.2.2.2.1 100
    | .long => Nat.beq e.2.2.2.1 101
    | _ => false)
  | .anewarray i => (Nat.beq e.2.2.2.1 102 && jhas3 jCK (jown k) i 3) || (Nat.beq e.2.2.2.1 103 && jhas3 jCK (jown k) i 5) || (Nat.beq e.2.2.2.1 104 && jhas3 jCK (jown k) i 6)
  | .multianewarray i d => Nat.beq (jown k) 10 && Nat.beq i 29 && Nat.beq d 2
  | _ => true)
end
section
abbrev jRd (α : Type) := Jvm.ClassFile.Reader Jvm.ClassFile.DecodeError α
def jbt (c : ByteArray) (p : Nat) : Option Nat := (c.data.toList[p]?).map UInt8.toNat
theorem ju1 {c : ByteArray} {p a : Nat} (h : jbt c p = some a) : (Jvm.ClassFile.Reader.u1 : jRd Nat) c p = .ok (a, p + 1) := by
  obtain ⟨x, hx, hxa⟩ := Option.map_eq_some_iff.mp h
  obtain ⟨hp, hx2⟩ := List.getElem?_eq_some_iff.mp hx
  have hs : p < c.size := hp
  show (do if h : p < c.size then do set (p + 1); Pure.pure (c[p]'h).toNat else MonadExcept.throw (Jvm.ClassFile.HasTruncated.truncated p) : jRd Nat) c p = _
  rw [dif_pos hs]
  have e : c[p]'hs = x := hx2
  rw [e, ← hxa]
  rfl
theorem jbd {α β : Type} {m : jRd α} {f : α → jRd β} {c : ByteArray} {p s : Nat} {a : α} (h : m c p = .ok (a, s)) : (m >>= f) c p = f a c s := by
  show (do let (a, s) ← m c p; f a c s : Except Jvm.ClassFile.DecodeError (β × Nat)) = _
  rw [h]
  rfl
theorem jmp_ {α β : Type} {m : jRd α} {g : α → β} {c : ByteArray} {p s : Nat} {a : α} (h : m c p = .ok (a, s)) : (g <$> m) c p = .ok (g a, s) := by
  show (do let (a, s) ← m c p; .ok (g a, s) : Except Jvm.ClassFile.DecodeError (β × Nat)) = _
  rw [h]
  rfl
theorem ju2 {c : ByteArray} {p a b : Nat} (h1 : jbt c p = some a) (h2 : jbt c (p + 1) = some b) : (Jvm.ClassFile.Reader.u2 : jRd Nat) c p = .ok (a * 256 + b, p + 2) :=
  (jbd (ju1 h1)).trans (jbd (ju1 h2))
theorem js1 {c : ByteArray} {p a : Nat} (h1 : jbt c p = some a) : (Jvm.ClassFile.Reader.s1 : jRd Int) c p = .ok (Jvm.ClassFile.Reader.signed 8 a, p + 1) := jmp_ (ju1 h1)
theorem js2 {c : ByteArray} {p a b : Nat} (h1 : jbt c p = some a) (h2 : jbt c (p + 1) = some b) : (Jvm.ClassFile.Reader.s2 : jRd Int) c p = .ok (Jvm.ClassFile.Reader.signed 16 (a * 256 + b), p + 2) := jmp_ (ju2 h1 h2)
theorem jdc {c : ByteArray} {pc n : Nat} {i : Instr} (h : Jvm.ClassFile.Decoder.instr pc c pc = .ok (i, pc + n)) : decode c pc = .ok (i, n) := by
  have e : decode c pc = .ok (i, pc + n - pc) := by
    show (do let (i, n) ← Jvm.ClassFile.Decoder.instr pc c pc; Pure.pure (i, n - pc) : Except Jvm.ClassFile.DecodeError (Instr × Nat)) = _
    rw [h]
    rfl
  rw [e, Nat.add_sub_cancel_left]
def jq0 (l : List UInt8) (a : Nat) : Bool := match l with
  | x :: _ => Nat.beq x.toNat a
  | _ => false
def jq1 (l : List UInt8) (a i : Nat) : Bool := match l with
  | x :: y :: _ => Nat.beq x.toNat a && Nat.beq y.toNat i
  | _ => false
def jq2 (l : List UInt8) (a i : Nat) : Bool := match l with
  | x :: y :: z :: _ => Nat.beq x.toNat a && Nat.beq (y.toNat * 256 + z.toNat) i
  | _ => false
def jq3 (l : List UInt8) (a : Nat) (z : Int) : Bool := match l with
  | x :: y :: _ => Nat.beq x.toNat a && decide (Jvm.ClassFile.Reader.signed 8 y.toNat = z)
  | _ => false
def jq4 (l : List UInt8) (a : Nat) (q : Int) : Bool := match l with
  | x :: y :: z :: _ => Nat.beq x.toNat a && decide (Jvm.ClassFile.Reader.signed 16 (y.toNat * 256 + z.toNat) = q)
  | _ => false
def jq5 (l : List UInt8) (a i : Nat) (q : Int) : Bool := match l with
  | x :: y :: z :: _ => Nat.beq x.toNat a && Nat.beq y.toNat i && decide (Jvm.ClassFile.Reader.signed 8 z.toNat = q)
  | _ => false
theorem jat {c : ByteArray} {p : Nat} {x : UInt8} {t : List UInt8} (h : c.data.toList.drop p = x :: t) : jbt c p = some x.toNat ∧ c.data.toList.drop (p + 1) = t := by
  constructor
  · have h1 : (c.data.toList.drop p)[0]? = some x := by rw [h]; rfl
    rw [List.getElem?_drop] at h1
    show (c.data.toList[p]?).map UInt8.toNat = _
    rw [show c.data.toList[p]? = some x from h1]
    rfl
  · rw [← List.drop_drop, h]
    rfl
section
variable {G : Nat → Nat → jRd Instr} {c : ByteArray} {pc n a : Nat}
theorem jf0 {i : Instr} (hG : ∀ pc, Jvm.ClassFile.Decoder.instr pc = Jvm.ClassFile.Reader.u1 >>= G pc) (h : (Nat.beq n 1 && jq0 (c.data.toList.drop pc) a) = true) (g : ∀ pc, G pc a = Pure.pure i) : decode c pc = .ok (i, n) := by
  simp only [Bool.and_eq_true, Nat.beq_eq] at h
  obtain ⟨rfl, h⟩ := h
  match hl : c.data.toList.drop pc, h with
  | x :: t, h =>
    obtain ⟨hx, -⟩ := jat hl
    rw [show x.toNat = a from Nat.eq_of_beq_eq_true h] at hx
    refine jdc ?_
    rw [hG, jbd (ju1 hx), g]
    rfl
theorem jf1 {i : Nat} {f : Nat → Instr} (hG : ∀ pc, Jvm.ClassFile.Decoder.instr pc = Jvm.ClassFile.Reader.u1 >>= G pc) (h : (Nat.beq n 2 && jq1 (c.data.toList.drop pc) a i) = true) (g : ∀ pc, G pc a = Jvm.ClassFile.Reader.u1 >>= fun x => Pure.pure (f x)) : decode c pc = .ok (f i, n) := by
  simp only [Bool.and_eq_true, Nat.beq_eq] at h
  obtain ⟨rfl, h⟩ := h
  match hl : c.data.toList.drop pc, h with
  | x :: y :: t, h =>
    obtain ⟨h1, h2⟩ := Bool.and_eq_true _ _ ▸ h
    obtain ⟨hx, hl⟩ := jat hl
    obtain ⟨hy, -⟩ := jat hl
    rw [show x.toNat = a from Nat.eq_of_beq_eq_true h1] at hx
    rw [show y.toNat = i from Nat.eq_of_beq_eq_true h2] at hy
    refine jdc ?_
    rw [hG, jbd (ju1 hx), g, jbd (ju1 hy)]
    rfl
theorem jf2 {i : Nat} {f : Nat → Instr} (hG : ∀ pc, Jvm.ClassFile.Decoder.instr pc = Jvm.ClassFile.Reader.u1 >>= G pc) (h : (Nat.beq n 3 && jq2 (c.data.toList.drop pc) a i) = true) (g : ∀ pc, G pc a = Jvm.ClassFile.Reader.u2 >>= fun x => Pure.pure (f x)) : decode c pc = .ok (f i, n) := by
  simp only [Bool.and_eq_true, Nat.beq_eq] at h
  obtain ⟨rfl, h⟩ := h
  match hl : c.data.toList.drop pc, h with
  | x :: y :: z :: t, h =>
    obtain ⟨h1, h2⟩ := Bool.and_eq_true _ _ ▸ h
    obtain ⟨hx, hl⟩ := jat hl
    obtain ⟨hy, hl⟩ := jat hl
    obtain ⟨hz, -⟩ := jat hl
    rw [show x.toNat = a from Nat.eq_of_beq_eq_true h1] at hx
    refine jdc ?_
    rw [hG, jbd (ju1 hx), g, jbd (ju2 hy hz), show y.toNat * 256 + z.toNat = i from Nat.eq_of_beq_eq_true h2]
    rfl
theorem jf3 {q : Int} {f : Int → Instr} (hG : ∀ pc, Jvm.ClassFile.Decoder.instr pc = Jvm.ClassFile.Reader.u1 >>= G pc) (h : (Nat.beq n 2 && jq3 (c.data.toList.drop pc) a q) = true) (g : ∀ pc, G pc a = Jvm.ClassFile.Reader.s1 >>= fun x => Pure.pure (f x)) : decode c pc = .ok (f q, n) := by
  simp only [Bool.and_eq_true, Nat.beq_eq] at h
  obtain ⟨rfl, h⟩ := h
  match hl : c.data.toList.drop pc, h with
  | x :: y :: t, h =>
    obtain ⟨h1, h2⟩ := Bool.and_eq_true _ _ ▸ h
    obtain ⟨hx, hl⟩ := jat hl
    obtain ⟨hy, -⟩ := jat hl
    rw [show x.toNat = a from Nat.eq_of_beq_eq_true h1] at hx
    refine jdc ?_
    rw [hG, jbd (ju1 hx), g, jbd (js1 hy), of_decide_eq_true h2]
    rfl
theorem jf4 {q : Int} {f : Int → Instr} (hG : ∀ pc, Jvm.ClassFile.Decoder.instr pc = Jvm.ClassFile.Reader.u1 >>= G pc) (h : (Nat.beq n 3 && jq4 (c.data.toList.drop pc) a q) = true) (g : ∀ pc, G pc a = Jvm.ClassFile.Reader.s2 >>= fun x => Pure.pure (f x)) : decode c pc = .ok (f q, n) := by
  simp only [Bool.and_eq_true, Nat.beq_eq] at h
  obtain ⟨rfl, h⟩ := h
  match hl : c.data.toList.drop pc, h with
  | x :: y :: z :: t, h =>
    obtain ⟨h1, h2⟩ := Bool.and_eq_true _ _ ▸ h
    obtain ⟨hx, hl⟩ := jat hl
    obtain ⟨hy, hl⟩ := jat hl
    obtain ⟨hz, -⟩ := jat hl
    rw [show x.toNat = a from Nat.eq_of_beq_eq_true h1] at hx
    refine jdc ?_
    rw [hG, jbd (ju1 hx), g, jbd (js2 hy hz), of_decide_eq_true h2]
    rfl
theorem jf5 {i : Nat} {q : Int} {f : Nat → Int → Instr} (hG : ∀ pc, Jvm.ClassFile.Decoder.instr pc = Jvm.ClassFile.Reader.u1 >>= G pc) (h : (Nat.beq n 3 && jq5 (c.data.toList.drop pc) a i q) = true) (g : ∀ pc, G pc a = Jvm.ClassFile.Reader.u1 >>= fun x => Jvm.ClassFile.Reader.s1 >>= fun y => Pure.pure (f x y)) : decode c pc = .ok (f i q, n) := by
  simp only [Bool.and_eq_true, Nat.beq_eq] at h
  obtain ⟨rfl, h⟩ := h
  match hl : c.data.toList.drop pc, h with
  | x :: y :: z :: t, h =>
    obtain ⟨h12, h3⟩ := Bool.and_eq_true _ _ ▸ h
    obtain ⟨h1, h2⟩ := Bool.and_eq_true _ _ ▸ h12
    obtain ⟨hx, hl⟩ := jat hl
    obtain ⟨hy, hl⟩ := jat hl
    obtain ⟨hz, -⟩ := jat hl
    rw [show x.toNat = a from Nat.eq_of_beq_eq_true h1] at hx
    rw [show y.toNat = i from Nat.eq_of_beq_eq_true h2] at hy
    refine jdc ?_
    rw [hG, jbd (ju1 hx), g, jbd (ju1 hy), jbd (js1 hz), of_decide_eq_true h3]
    rfl
end
set_option maxRecDepth 20000 in
theorem jG_ex : ∃ G : Nat → Nat → jRd Instr, (∀ pc, Jvm.ClassFile.Decoder.instr pc = Jvm.ClassFile.Reader.u1 >>= G pc) ∧ (∀ pc, G pc 50 = Pure.pure .aaload) ∧ (∀ pc, G pc 46 = Pure.pure .iaload) ∧ (∀ pc, G pc 47 = Pure.pure .laload) ∧ (∀ pc, G pc 79 = Pure.pure .iastore) ∧ (∀ pc, G pc 80 = Pure.pure .lastore) ∧ (∀ pc, G pc 83 = Pure.pure .aastore) ∧ (∀ pc, G pc 87 = Pure.pure .pop) ∧ (∀ pc, G pc 89 = Pure.pure .dup) ∧ (∀ pc, G pc 92 = Pure.pure .dup2) ∧ (∀ pc, G pc 96 = Pure.pure .iadd) ∧ (∀ pc, G pc 97 = Pure.pure .ladd) ∧ (∀ pc, G pc 100 = Pure.pure .isub) ∧ (∀ pc, G pc 101 = Pure.pure .lsub) ∧ (∀ pc, G pc 104 = Pure.pure .imul) ∧ (∀ pc, G pc 105 = Pure.pure .lmul) ∧ (∀ pc, G pc 108 = Pure.pure .idiv) ∧ (∀ pc, G pc 109 = Pure.pure .ldiv) ∧ (∀ pc, G pc 112 = Pure.pure .irem) ∧ (∀ pc, G pc 113 = Pure.pure .lrem) ∧ (∀ pc, G pc 116 = Pure.pure .ineg) ∧ (∀ pc, G pc 117 = Pure.pure .lneg) ∧ (∀ pc, G pc 120 = Pure.pure .ishl) ∧ (∀ pc, G pc 126 = Pure.pure .iand) ∧ (∀ pc, G pc 128 = Pure.pure .ior) ∧ (∀ pc, G pc 133 = Pure.pure .i2l) ∧ (∀ pc, G pc 136 = Pure.pure .l2i) ∧ (∀ pc, G pc 148 = Pure.pure .lcmp) ∧ (∀ pc, G pc 172 = Pure.pure .ireturn) ∧ (∀ pc, G pc 173 = Pure.pure .lreturn) ∧ (∀ pc, G pc 176 = Pure.pure .areturn) ∧ (∀ pc, G pc 177 = Pure.pure .return_) ∧ (∀ pc, G pc 190 = Pure.pure .arraylength) ∧ (∀ pc, G pc 26 = Pure.pure (.iload_n 0)) ∧ (∀ pc, G pc 27 = Pure.pure (.iload_n 1)) ∧ (∀ pc, G pc 28 = Pure.pure (.iload_n 2)) ∧ (∀ pc, G pc 29 = Pure.pure (.iload_n 3)) ∧ (∀ pc, G pc 30 = Pure.pure (.lload_n 0)) ∧ (∀ pc, G pc 31 = Pure.pure (.lload_n 1)) ∧ (∀ pc, G pc 32 = Pure.pure (.lload_n 2)) ∧ (∀ pc, G pc 33 = Pure.pure (.lload_n 3)) ∧ (∀ pc, G pc 42 = Pure.pure (.aload_n 0)) ∧ (∀ pc, G pc 43 = Pure.pure (.aload_n 1)) ∧ (∀ pc, G pc 44 = Pure.pure (.aload_n 2)) ∧ (∀ pc, G pc 45 = Pure.pure (.aload_n 3)) ∧ (∀ pc, G pc 59 = Pure.pure (.istore_n 0)) ∧ (∀ pc, G pc 60 = Pure.pure (.istore_n 1)) ∧ (∀ pc, G pc 61 = Pure.pure (.istore_n 2)) ∧ (∀ pc, G pc 62 = Pure.pure (.istore_n 3)) ∧ (∀ pc, G pc 63 = Pure.pure (.lstore_n 0)) ∧ (∀ pc, G pc 64 = Pure.pure (.lstore_n 1)) ∧ (∀ pc, G pc 65 = Pure.pure (.lstore_n 2)) ∧ (∀ pc, G pc 66 = Pure.pure (.lstore_n 3)) ∧ (∀ pc, G pc 75 = Pure.pure (.astore_n 0)) ∧ (∀ pc, G pc 76 = Pure.pure (.astore_n 1)) ∧ (∀ pc, G pc 77 = Pure.pure (.astore_n 2)) ∧ (∀ pc, G pc 78 = Pure.pure (.astore_n 3)) ∧ (∀ pc, G pc 2 = Pure.pure (.iconst (-1))) ∧ (∀ pc, G pc 3 = Pure.pure (.iconst (0))) ∧ (∀ pc, G pc 4 = Pure.pure (.iconst (1))) ∧ (∀ pc, G pc 5 = Pure.pure (.iconst (2))) ∧ (∀ pc, G pc 6 = Pure.pure (.iconst (3))) ∧ (∀ pc, G pc 7 = Pure.pure (.iconst (4))) ∧ (∀ pc, G pc 8 = Pure.pure (.iconst (5))) ∧ (∀ pc, G pc 9 = Pure.pure (.lconst 0)) ∧ (∀ pc, G pc 10 = Pure.pure (.lconst 1)) ∧ (∀ pc, G pc 21 = Jvm.ClassFile.Reader.u1 >>= fun x => Pure.pure (.iload x)) ∧ (∀ pc, G pc 22 = Jvm.ClassFile.Reader.u1 >>= fun x => Pure.pure (.lload x)) ∧ (∀ pc, G pc 25 = Jvm.ClassFile.Reader.u1 >>= fun x => Pure.pure (.aload x)) ∧ (∀ pc, G pc 54 = Jvm.ClassFile.Reader.u1 >>= fun x => Pure.pure (.istore x)) ∧ (∀ pc, G pc 55 = Jvm.ClassFile.Reader.u1 >>= fun x => Pure.pure (.lstore x)) ∧ (∀ pc, G pc 58 = Jvm.ClassFile.Reader.u1 >>= fun x => Pure.pure (.astore x)) ∧ (∀ pc, G pc 18 = Jvm.ClassFile.Reader.u1 >>= fun x => Pure.pure (.ldc x)) ∧ (∀ pc, G pc 19 = Jvm.ClassFile.Reader.u2 >>= fun x => Pure.pure (.ldc_w x)) ∧ (∀ pc, G pc 20 = Jvm.ClassFile.Reader.u2 >>= fun x => Pure.pure (.ldc2_w x)) ∧ (∀ pc, G pc 178 = Jvm.ClassFile.Reader.u2 >>= fun x => Pure.pure (.getstatic x)) ∧ (∀ pc, G pc 180 = Jvm.ClassFile.Reader.u2 >>= fun x => Pure.pure (.getfield x)) ∧ (∀ pc, G pc 181 = Jvm.ClassFile.Reader.u2 >>= fun x => Pure.pure (.putfield x)) ∧ (∀ pc, G pc 182 = Jvm.ClassFile.Reader.u2 >>= fun x => Pure.pure (.invokevirtual x)) ∧ (∀ pc, G pc 183 = Jvm.ClassFile.Reader.u2 >>= fun x => Pure.pure (.invokespecial x)) ∧ (∀ pc, G pc 184 = Jvm.ClassFile.Reader.u2 >>= fun x => Pure.pure (.invokestatic x)) ∧ (∀ pc, G pc 187 = Jvm.ClassFile.Reader.u2 >>= fun x => Pure.pure (.new x)) ∧ (∀ pc, G pc 189 = Jvm.ClassFile.Reader.u2 >>= fun x => Pure.pure (.anewarray x)) ∧ (∀ pc, G pc 16 = Jvm.ClassFile.Reader.s1 >>= fun x => Pure.pure (.bipush x)) ∧ (∀ pc, G pc 17 = Jvm.ClassFile.Reader.s2 >>= fun x => Pure.pure (.sipush x)) ∧ (∀ pc, G pc 167 = Jvm.ClassFile.Reader.s2 >>= fun x => Pure.pure (.goto x)) ∧ (∀ pc, G pc 153 = Jvm.ClassFile.Reader.s2 >>= fun x => Pure.pure (.ifCond .eq x)) ∧ (∀ pc, G pc 159 = Jvm.ClassFile.Reader.s2 >>= fun x => Pure.pure (.if_icmp .eq x)) ∧ (∀ pc, G pc 154 = Jvm.ClassFile.Reader.s2 >>= fun x => Pure.pure (.ifCond .ne x)) ∧ (∀ pc, G pc 160 = Jvm.ClassFile.Reader.s2 >>= fun x => Pure.pure (.if_icmp .ne x)) ∧ (∀ pc, G pc 155 = Jvm.ClassFile.Reader.s2 >>= fun x => Pure.pure (.ifCond .lt x)) ∧ (∀ pc, G pc 161 = Jvm.ClassFile.Reader.s2 >>= fun x => Pure.pure (.if_icmp .lt x)) ∧ (∀ pc, G pc 156 = Jvm.ClassFile.Reader.s2 >>= fun x => Pure.pure (.ifCond .ge x)) ∧ (∀ pc, G pc 162 = Jvm.ClassFile.Reader.s2 >>= fun x => Pure.pure (.if_icmp .ge x)) ∧ (∀ pc, G pc 157 = Jvm.ClassFile.Reader.s2 >>= fun x => Pure.pure (.ifCond .gt x)) ∧ (∀ pc, G pc 163 = Jvm.ClassFile.Reader.s2 >>= fun x => Pure.pure (.if_icmp .gt x)) ∧ (∀ pc, G pc 158 = Jvm.ClassFile.Reader.s2 >>= fun x => Pure.pure (.ifCond .le x)) ∧ (∀ pc, G pc 164 = Jvm.ClassFile.Reader.s2 >>= fun x => Pure.pure (.if_icmp .le x)) ∧ (∀ pc, G pc 132 = Jvm.ClassFile.Reader.u1 >>= fun x => Jvm.ClassFile.Reader.s1 >>= fun y => Pure.pure (.iinc x y)) := by
  apply Exists.intro
  apply And.intro
  · intro pc
    unfold Jvm.ClassFile.Decoder.instr
    rfl
  · refine ⟨fun _ => rfl, fun _ => rfl, fun _ => rfl, fun _ => rfl, fun _ => rfl, fun _ => rfl, fun _ => rfl, fun _ => rfl, fun _ => rfl, fun _ => rfl, fun _ => rfl, fun _ => rfl, fun _ => rfl, fun _ => rfl, fun _ => rfl, fun _ => rfl, fun _ => rfl, fun _ => rfl, fun _ => rfl, fun _ => rfl, fun _ => rfl, fun _ => rfl, fun _ => rfl, fun _ => rfl, fun _ => rfl, fun _ => rfl, fun _ => rfl, fun _ => rfl, fun _ => rfl, fun _ => rfl, fun _ => rfl, fun _ => rfl, fun _ => rfl, fun _ => rfl, fun _ => rfl, fun _ => rfl, fun _ => rfl, fun _ => rfl, fun _ => rfl, fun _ => rfl, fun _ => rfl, fun _ => rfl, fun _ => rfl, fun _ => rfl, fun _ => rfl, fun _ => rfl, fun _ => rfl, fun _ => rfl, fun _ => rfl, fun _ => rfl, fun _ => rfl, fun _ => rfl, fun _ => rfl, fun _ => rfl, fun _ => rfl, fun _ => rfl, fun _ => rfl, fun _ => rfl, fun _ => rfl, fun _ => rfl, fun _ => rfl, fun _ => rfl, fun _ => rfl, fun _ => rfl, fun _ => rfl, fun _ => rfl, fun _ => rfl, fun _ => rfl, fun _ => rfl, fun _ => rfl, fun _ => rfl, fun _ => rfl, fun _ => rfl, fun _ => rfl, fun _ => rfl, fun _ => rfl, fun _ => rfl, fun _ => rfl, fun _ => rfl, fun _ => rfl, fun _ => rfl, fun _ => rfl, fun _ => rfl, fun _ => rfl, fun _ => rfl, fun _ => rfl, fun _ => rfl, fun _ => rfl, fun _ => rfl, fun _ => rfl, fun _ => rfl, fun _ => rfl, fun _ => rfl, fun _ => rfl, fun _ => rfl, fun _ => rfl, fun _ => rfl, fun _ => rfl⟩
def jcnd (c : Jvm.ClassFile.Cond) : Nat := match c with
  | .eq => 0
  | .ne => 1
  | .lt => 2
  | .ge => 3
  | .gt => 4
  | .le => 5
def jfd (c : ByteArray) (e : jE) : Bool := match e.2.1 with
  | .aaload => Nat.beq e.2.2.1 1 && jq0 (c.data.toList.drop e.1) 50
  | .iaload => Nat.beq e.2.2.1 1 && jq0 (c.data.toList.drop e.1) 46
  | .laload => Nat.beq e.2.2.1 1 && jq0 (c.data.toList.drop e.1) 47
  | .iastore => Nat.beq e.2.2.1 1 && jq0 (c.data.toList.drop e.1) 79
  | .lastore => Nat.beq e.2.2.1 1 && jq0 (c.data.toList.drop e.1) 80
  | .aastore => Nat.beq e.2.2.1 1 && jq0 (c.data.toList.drop e.1) 83
  | .pop => Nat.beq e.2.2.1 1 && jq0 (c.data.toList.drop e.1) 87
  | .dup => Nat.beq e.2.2.1 1 && jq0 (c.data.toList.drop e.1) 89
  | .dup2 => Nat.beq e.2.2.1 1 && jq0 (c.data.toList.drop e.1) 92
  | .iadd => Nat.beq e.2.2.1 1 && jq0 (c.data.toList.drop e.1) 96
  | .ladd => Nat.beq e.2.2.1 1 && jq0 (c.data.toList.drop e.1) 97
  | .isub => Nat.beq e.2.2.1 1 && jq0 (c.data.toList.drop e.1) 100
  | .lsub => Nat.beq e.2.2.1 1 && jq0 (c.data.toList.drop e.1) 101
  | .imul => Nat.beq e.2.2.1 1 && jq0 (c.data.toList.drop e.1) 104
  | .lmul => Nat.beq e.2.2.1 1 && jq0 (c.data.toList.drop e.1) 105
  | .idiv => Nat.beq e.2.2.1 1 && jq0 (c.data.toList.drop e.1) 108
  | .ldiv => Nat.beq e.2.2.1 1 && jq0 (c.data.toList.drop e.1) 109
  | .irem => Nat.beq e.2.2.1 1 && jq0 (c.data.toList.drop e.1) 112
  | .lrem => Nat.beq e.2.2.1 1 && jq0 (c.data.toList.drop e.1) 113
  | .ineg => Nat.beq e.2.2.1 1 && jq0 (c.data.toList.drop e.1) 116
  | .lneg => Nat.beq e.2.2.1 1 && jq0 (c.data.toList.drop e.1) 117
  | .ishl => Nat.beq e.2.2.1 1 && jq0 (c.data.toList.drop e.1) 120
  | .iand => Nat.beq e.2.2.1 1 && jq0 (c.data.toList.drop e.1) 126
  | .ior => Nat.beq e.2.2.1 1 && jq0 (c.data.toList.drop e.1) 128
  | .i2l => Nat.beq e.2.2.1 1 && jq0 (c.data.toList.drop e.1) 133
  | .l2i => Nat.beq e.2.2.1 1 && jq0 (c.data.toList.drop e.1) 136
  | .lcmp => Nat.beq e.2.2.1 1 && jq0 (c.data.toList.drop e.1) 148
  | .ireturn => Nat.beq e.2.2.1 1 && jq0 (c.data.toList.drop e.1) 172
  | .lreturn => Nat.beq e.2.2.1 1 && jq0 (c.data.toList.drop e.1) 173
  | .areturn => Nat.beq e.2.2.1 1 && jq0 (c.data.toList.drop e.1) 176
  | .return_ => Nat.beq e.2.2.1 1 && jq0 (c.data.toList.drop e.1) 177
  | .arraylength => Nat.beq e.2.2.1 1 && jq0 (c.data.toList.drop e.1) 190
  | .iload_n i => Nat.beq e.2.2.1 1 && jq0 (c.data.toList.drop e.1) (26 + i.val)
  | .lload_n i => Nat.beq e.2.2.1 1 && jq0 (c.data.toList.drop e.1) (30 + i.val)
  | .aload_n i => Nat.beq e.2.2.1 1 && jq0 (c.data.toList.drop e.1) (42 + i.val)
  | .istore_n i => Nat.beq e.2.2.1 1 && jq0 (c.data.toList.drop e.1) (59 + i.val)
  | .lstore_n i => Nat.beq e.2.2.1 1 && jq0 (c.data.toList.drop e.1) (63 + i.val)
  | .astore_n i => Nat.beq e.2.2.1 1 && jq0 (c.data.toList.drop e.1) (75 + i.val)
  | .iconst i => (Nat.beq e.2.2.1 1 && jq0 (c.data.toList.drop e.1) (i + 3).toNat) && (decide (-1 ≤ i) && decide (i ≤ 5))
  | .lconst i => Nat.beq e.2.2.1 1 && jq0 (c.data.toList.drop e.1) (9 + i.val)
  | .iload i => Nat.beq e.2.2.1 2 && jq1 (c.data.toList.drop e.1) 21 i
  | .lload i => Nat.beq e.2.2.1 2 && jq1 (c.data.toList.drop e.1) 22 i
  | .aload i => Nat.beq e.2.2.1 2 && jq1 (c.data.toList.drop e.1) 25 i
  | .istore i => Nat.beq e.2.2.1 2 && jq1 (c.data.toList.drop e.1) 54 i
  | .lstore i => Nat.beq e.2.2.1 2 && jq1 (c.data.toList.drop e.1) 55 i
  | .astore i => Nat.beq e.2.2.1 2 && jq1 (c.data.toList.drop e.1) 58 i
  | .ldc i => Nat.beq e.2.2.1 2 && jq1 (c.data.toList.drop e.1) 18 i
  | .ldc_w i => Nat.beq e.2.2.1 3 && jq2 (c.data.toList.drop e.1) 19 i
  | .ldc2_w i => Nat.beq e.2.2.1 3 && jq2 (c.data.toList.drop e.1) 20 i
  | .getstatic i => Nat.beq e.2.2.1 3 && jq2 (c.data.toList.drop e.1) 178 i
  | .getfield i => Nat.beq e.2.2.1 3 && jq2 (c.data.toList.drop e.1) 180 i
  | .putfield i => Nat.beq e.2.2.1 3 && jq2 (c.data.toList.drop e.1) 181 i
  | .invokevirtual i => Nat.beq e.2.2.1 3 && jq2 (c.data.toList.drop e.1) 182 i
  | .invokespecial i => Nat.beq e.2.2.1 3 && jq2 (c.data.toList.drop e.1) 183 i
  | .invokestatic i => Nat.beq e.2.2.1 3 && jq2 (c.data.toList.drop e.1) 184 i
  | .new i => Nat.beq e.2.2.1 3 && jq2 (c.data.toList.drop e.1) 187 i
  | .anewarray i => Nat.beq e.2.2.1 3 && jq2 (c.data.toList.drop e.1) 189 i
  | .bipush i => Nat.beq e.2.2.1 2 && jq3 (c.data.toList.drop e.1) 16 i
  | .sipush i => Nat.beq e.2.2.1 3 && jq4 (c.data.toList.drop e.1) 17 i
  | .goto i => Nat.beq e.2.2.1 3 && jq4 (c.data.toList.drop e.1) 167 i
  | .ifCond d i => Nat.beq e.2.2.1 3 && jq4 (c.data.toList.drop e.1) (153 + jcnd d) i
  | .if_icmp d i => Nat.beq e.2.2.1 3 && jq4 (c.data.toList.drop e.1) (159 + jcnd d) i
  | .iinc i z => Nat.beq e.2.2.1 3 && jq5 (c.data.toList.drop e.1) 132 i z
  | _ => decide (decode c e.1 = .ok (e.2.1, e.2.2.1))
set_option maxRecDepth 20000 in
theorem jfd_ok {c : ByteArray} {e : jE} (h : jfd c e = true) : decode c e.1 = .ok (e.2.1, e.2.2.1) := by
  obtain ⟨G, hG, g50, g46, g47, g79, g80, g83, g87, g89, g92, g96, g97, g100, g101, g104, g105, g108, g109, g112, g113, g116, g117, g120, g126, g128, g133, g136, g148, g172, g173, g176, g177, g190, g26, g27, g28, g29, g30, g31, g32, g33, g42, g43, g44, g45, g59, g60, g61, g62, g63, g64, g65, g66, g75, g76, g77, g78, g2, g3, g4, g5, g6, g7, g8, g9, g10, g21, g22, g25, g54, g55, g58, g18, g19, g20, g178, g180, g181, g182, g183, g184, g187, g189, g16, g17, g167, g153, g159, g154, g160, g155, g161, g156, g162, g157, g163, g158, g164, g132⟩ := jG_ex
  obtain ⟨pc, i, n, r⟩ := e
  cases i
  case aaload => exact jf0 hG h g50
  case iaload => exact jf0 hG h g46
  case laload => exact jf0 hG h g47
  case iastore => exact jf0 hG h g79
  case lastore => exact jf0 hG h g80
  case aastore => exact jf0 hG h g83
  case pop => exact jf0 hG h g87
  case dup => exact jf0 hG h g89
  case dup2 => exact jf0 hG h g92
  case iadd => exact jf0 hG h g96
  case ladd => exact jf0 hG h g97
  case isub => exact jf0 hG h g100
  case lsub => exact jf0 hG h g101
  case imul => exact jf0 hG h g104
  case lmul => exact jf0 hG h g105
  case idiv => exact jf0 hG h g108
  case ldiv => exact jf0 hG h g109
  case irem => exact jf0 hG h g112
  case lrem => exact jf0 hG h g113
  case ineg => exact jf0 hG h g116
  case lneg => exact jf0 hG h g117
  case ishl => exact jf0 hG h g120
  case iand => exact jf0 hG h g126
  case ior => exact jf0 hG h g128
  case i2l => exact jf0 hG h g133
  case l2i => exact jf0 hG h g136
  case lcmp => exact jf0 hG h g148
  case ireturn => exact jf0 hG h g172
  case lreturn => exact jf0 hG h g173
  case areturn => exact jf0 hG h g176
  case return_ => exact jf0 hG h g177
  case arraylength => exact jf0 hG h g190
  case iload_n i =>
    exact jf0 (a := 26 + i.val) hG h (match i with
      | 0 => g26
      | 1 => g27
      | 2 => g28
      | 3 => g29)
  case lload_n i =>
    exact jf0 (a := 30 + i.val) hG h (match i with
      | 0 => g30
      | 1 => g31
      | 2 => g32
      | 3 => g33)
  case aload_n i =>
    exact jf0 (a := 42 + i.val) hG h (match i with
      | 0 => g42
      | 1 => g43
      | 2 => g44
      | 3 => g45)
  case istore_n i =>
    exact jf0 (a := 59 + i.val) hG h (match i with
      | 0 => g59
      | 1 => g60
      | 2 => g61
      | 3 => g62)
  case lstore_n i =>
    exact jf0 (a := 63 + i.val) hG h (match i with
      | 0 => g63
      | 1 => g64
      | 2 => g65
      | 3 => g66)
  case astore_n i =>
    exact jf0 (a := 75 + i.val) hG h (match i with
      | 0 => g75
      | 1 => g76
      | 2 => g77
      | 3 => g78)
  case iconst i =>
    obtain ⟨h1, h2⟩ := Bool.and_eq_true _ _ ▸ (show ((Nat.beq n 1 && jq0 (c.data.toList.drop pc) (i + 3).toNat) && (decide (-1 ≤ i) && decide (i ≤ 5))) = true from h)
    simp only [Bool.and_eq_true, decide_eq_true_eq] at h2
    refine jf0 hG h1 ?_
    have hi : i = -1 ∨ i = 0 ∨ i = 1 ∨ i = 2 ∨ i = 3 ∨ i = 4 ∨ i = 5 := by omega
    rcases hi with rfl | rfl | rfl | rfl | rfl | rfl | rfl
    · exact g2
    · exact g3
    · exact g4
    · exact g5
    · exact g6
    · exact g7
    · exact g8
  case lconst i => exact jf0 (a := 9 + i.val) hG h (match i with
      | 0 => g9
      | 1 => g10)
  case iload i => exact jf1 hG h g21
  case lload i => exact jf1 hG h g22
  case aload i => exact jf1 hG h g25
  case istore i => exact jf1 hG h g54
  case lstore i => exact jf1 hG h g55
  case astore i => exact jf1 hG h g58
  case ldc i => exact jf1 hG h g18
  case ldc_w i => exact jf2 hG h g19
  case ldc2_w i => exact jf2 hG h g20
  case getstatic i => exact jf2 hG h g178
  case getfield i => exact jf2 hG h g180
  case putfield i => exact jf2 hG h g181
  case invokevirtual i => exact jf2 hG h g182
  case invokespecial i => exact jf2 hG h g183
  case invokestatic i => exact jf2 hG h g184
  case new i => exact jf2 hG h g187
  case anewarray i => exact jf2 hG h g189
  case bipush i => exact jf3 hG h g16
  case sipush i => exact jf4 hG h g17
  case goto i => exact jf4 hG h g167
  case ifCond d i => exact jf4 (a := 153 + jcnd d) hG h (match d with
      | .eq => g153
      | .ne => g154
      | .lt => g155
      | .ge => g156
      | .gt => g157
      | .le => g158)
  case if_icmp d i => exact jf4 (a := 159 + jcnd d) hG h (match d with
      | .eq => g159
      | .ne => g160
      | .lt => g161
      | .ge => g162
      | .gt => g163
      | .le => g164)
  case iinc i z => exact jf5 hG h g132
  all_goals exact of_decide_eq_true h
def jwrA (k : Nat) (e : jE) : Bool := (match e.2.1 with
  | .tableswitch _ _ _ _ => true
  | .lookupswitch _ _ => true
  | i => Nat.beq e.2.2.1 (jlen i))
def jwrB (k : Nat) (e : jE) : Bool := (match e.2.1 with
  | .istore i => Nat.blt i (jmaxL k)
  | .istore_n i => Nat.blt i.val (jmaxL k)
  | .astore i => Nat.blt i (jmaxL k)
  | .astore_n i => Nat.blt i.val (jmaxL k)
  | .lstore i => Nat.blt (i + 1) (jmaxL k)
  | .lstore_n i => Nat.blt (i.val + 1) (jmaxL k)
  | .iinc i _ => Nat.blt i (jmaxL k)
  | .iconst n => decide (e.2.2.2.2.2.2 = n)
  | .bipush n => decide ((Int8.ofInt n).toInt32 = Int32.ofInt e.2.2.2.2.2.2)
  | .sipush n => decide ((Int16.ofInt n).toInt32 = Int32.ofInt e.2.2.2.2.2.2)
  | .lconst n => decide (Int64.ofNat n.val = Int64.ofInt e.2.2.2.2.2.2)
  | .ldc i => jhasZ jKI (jown k) i e.2.2.2.2.2.2
  | .ldc_w i => jhasZ jKI (jown k) i e.2.2.2.2.2.2
  | .ldc2_w i => jhasZ jKJ (jown k) i e.2.2.2.2.2.2
  | .goto off => decide ((e.1 : Int) + off = (e.2.2.2.1 : Int))
  | .ifCond _ off => decide ((e.1 : Int) + off = (e.2.2.2.1 : Int))
  | .if_icmp _ off => decide ((e.1 : Int) + off = (e.2.2.2.1 : Int))
  | .tableswitch d lo hi offs => decide ((e.1 : Int) + d = ((jswt e.2.2.2.1).2 : Int)) && decide (hi = lo + offs.size - 1) && decide ((jswt e.2.2.2.1).1.map (fun q => (q.1, (q.2 : Int))) = (offs.toList.zipIdx).map (fun o => (lo + o.2, (e.1 : Int) + o.1)))
  | .lookupswitch d ps => decide ((e.1 : Int) + d = ((jswt e.2.2.2.1).2 : Int)) && decide ((jswt e.2.2.2.1).1.map (fun q => (q.1, (q.2 : Int))) = ps.toList.map (fun o => (o.1, (e.1 : Int) + o.2))) && (ps.toList.zip (ps.toList.drop 1)).all (fun x => decide (x.1.1 < x.2.1))
  | .getfield i => (jhas4 jFL (jown k) i e.2.2.2.1 e.2.2.2.2.1 || jhas4 jFX (jown k) i e.2.2.2.1 e.2.2.2.2.1) && Nat.blt e.2.2.2.1 10 && Nat.beq (jtyc (jFy e.2.2.2.1 e.2.2.2.2.1)) e.2.2.2.2.2.1
  | .putfield i => jhas4 jFL (jown k) i e.2.2.2.1 e.2.2.2.2.1 && Nat.blt e.2.2.2.1 10 && Nat.beq (jtyc (jFy e.2.2.2.1 e.2.2.2.2.1)) e.2.2.2.2.2.1 && (!(jFT e.2.2.2.1 e.2.2.2.2.1).2.2.2 || (Nat.beq (jkd k) 2 && decide ((jFT e.2.2.2.1 e.2.2.2.2.1).1 = jCn (jown k))))
  | .getstatic i => Nat.beq (jown k) 2 && Nat.beq i 7
  | .invokevirtual i => (jhas3 jML (jown k) i e.2.2.2.1 || jhas3 jMN (jown k) i e.2.2.2.1) && jwcall k e.2.2.2.1 0 e.2.2.2.2.1
  | .invokestatic i => (Nat.blt e.2.2.2.1 1000 && (jhas3 jML (jown k) i e.2.2.2.1 || jhas3 jMN (jown k) i e.2.2.2.1) && jwcall k e.2.2.2.1 1 e.2.2.2.2.1) || (Nat.blt 1000 e.2.2.2.1 && jwbui k i e.2.2.2.1)
  | .invokespecial i => (Nat.blt e.2.2.2.1 1000 && (jhas3 jML (jown k) i e.2.2.2.1 || jhas3 jMN (jown k) i e.2.2.2.1) && jwcall k e.2.2.2.1 2 e.2.2.2.2.1) || (Nat.beq e.2.2.2.1 1000 && jwbui k i e.2.2.2.1)
  | .new i => jhas3 jCK (jown k) i e.2.2.2.1 && Nat.blt e.2.2.2.1 10 && Nat.beq e.2.2.2.2.1 (jFN e.2.2.2.1)
  | .newarray t => (match t with
    | .int => Nat.beq e.2.2.2.1 100
    | .long => Nat.beq e.2.2.2.1 101
    | _ => false)
  | .anewarray i => (Nat.beq e.2.2.2.1 102 && jhas3 jCK (jown k) i 3) || (Nat.beq e.2.2.2.1 103 && jhas3 jCK (jown k) i 5) || (Nat.beq e.2.2.2.1 104 && jhas3 jCK (jown k) i 6)
  | .multianewarray i d => Nat.beq (jown k) 10 && Nat.beq i 29 && Nat.beq d 2
  | _ => true)
def jwg (k : Nat) (e : jE) : Bool := jfd (jcode k) e && jwrA k e && jwrB k e
theorem jwf_of {k : Nat} {e : jE} (h : jwg k e = true) : jwf k e = true := by
  have e1 : jwf k e = (decide (decode (jcode k) e.1 = .ok (e.2.1, e.2.2.1)) && jwrA k e && jwrB k e) := rfl
  simp only [jwg, Bool.and_eq_true] at h
  rw [e1, decide_eq_true (jfd_ok h.1.1), h.1.2, h.2]
  rfl
theorem jwg_up {a b : Nat} (h : (List.range' a b).all (fun k => (jtb k).all (jwg k)) = true) : (List.range' a b).all (fun k => (jtb k).all (jwf k)) = true :=
  List.all_eq_true.mpr fun k hk => List.all_eq_true.mpr fun e he => jwf_of (List.all_eq_true.mp (List.all_eq_true.mp h k hk) e he)
end
section
set_option maxRecDepth 100000 in
theorem jwgS0 : (List.range' 0 20).all (fun k => (jtb k).all (jwg k)) = true := by decide +kernel
theorem jwfS0 : (List.range' 0 20).all (fun k => (jtb k).all (jwf k)) = true := jwg_up jwgS0
set_option maxRecDepth 100000 in
theorem jwgS1 : (List.range' 20 20).all (fun k => (jtb k).all (jwg k)) = true := by decide +kernel
theorem jwfS1 : (List.range' 20 20).all (fun k => (jtb k).all (jwf k)) = true := jwg_up jwgS1
set_option maxRecDepth 100000 in
theorem jwgS2 : (List.range' 40 20).all (fun k => (jtb k).all (jwg k)) = true := by decide +kernel
theorem jwfS2 : (List.range' 40 20).all (fun k => (jtb k).all (jwf k)) = true := jwg_up jwgS2
set_option maxRecDepth 100000 in
theorem jwgS3 : (List.range' 60 20).all (fun k => (jtb k).all (jwg k)) = true := by decide +kernel
theorem jwfS3 : (List.range' 60 20).all (fun k => (jtb k).all (jwf k)) = true := jwg_up jwgS3
set_option maxRecDepth 100000 in
theorem jwgS4 : (List.range' 80 20).all (fun k => (jtb k).all (jwg k)) = true := by decide +kernel
theorem jwfS4 : (List.range' 80 20).all (fun k => (jtb k).all (jwf k)) = true := jwg_up jwgS4
set_option maxRecDepth 100000 in
theorem jwgS5 : (List.range' 100 20).all (fun k => (jtb k).all (jwg k)) = true := by decide +kernel
theorem jwfS5 : (List.range' 100 20).all (fun k => (jtb k).all (jwf k)) = true := jwg_up jwgS5
set_option maxRecDepth 100000 in
theorem jwgS6 : (List.range' 120 20).all (fun k => (jtb k).all (jwg k)) = true := by decide +kernel
theorem jwfS6 : (List.range' 120 20).all (fun k => (jtb k).all (jwf k)) = true := jwg_up jwgS6
set_option maxRecDepth 100000 in
theorem jwgS7 : (List.range' 140 20).all (fun k => (jtb k).all (jwg k)) = true := by decide +kernel
theorem jwfS7 : (List.range' 140 20).all (fun k => (jtb k).all (jwf k)) = true := jwg_up jwgS7
set_option maxRecDepth 100000 in
theorem jwgS8 : (List.range' 160 20).all (fun k => (jtb k).all (jwg k)) = true := by decide +kernel
theorem jwfS8 : (List.range' 160 20).all (fun k => (jtb k).all (jwf k)) = true := jwg_up jwgS8
set_option maxRecDepth 100000 in
theorem jwgS9 : (List.range' 180 20).all (fun k => (jtb k).all (jwg k)) = true := by decide +kernel
theorem jwfS9 : (List.range' 180 20).all (fun k => (jtb k).all (jwf k)) = true := jwg_up jwgS9
set_option maxRecDepth 100000 in
theorem jwgS10 : (List.range' 200 20).all (fun k => (jtb k).all (jwg k)) = true := by decide +kernel
theorem jwfS10 : (List.range' 200 20).all (fun k => (jtb k).all (jwf k)) = true := jwg_up jwgS10
set_option maxRecDepth 100000 in
theorem jwgS11 : (List.range' 220 1).all (fun k => (jtb k).all (jwg k)) = true := by decide +kernel
theorem jwfS11 : (List.range' 220 1).all (fun k => (jtb k).all (jwf k)) = true := jwg_up jwgS11
end
