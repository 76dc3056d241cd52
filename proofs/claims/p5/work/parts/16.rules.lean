def jcP (c : Jvm.ClassFile.Cond) (x y : Int) : Prop := match c with
  | .eq => x = y
  | .ne => x ≠ y
  | .lt => x < y
  | .ge => y ≤ x
  | .gt => y < x
  | .le => x ≤ y
def jcn (c : Jvm.ClassFile.Cond) : Jvm.ClassFile.Cond := match c with
  | .eq => .ne
  | .ne => .eq
  | .lt => .ge
  | .ge => .lt
  | .gt => .le
  | .le => .gt
theorem jcP_t {c : Jvm.ClassFile.Cond} {x y : Int} (h : jcb c x y = true) : jcP c x y := by
  cases c <;> (simp only [jcb, decide_eq_true_eq] at h; exact h)
theorem jcP_f {c : Jvm.ClassFile.Cond} {x y : Int} (h : jcb c x y = false) : jcP (jcn c) x y := by
  cases c <;> (simp only [jcb, decide_eq_false_iff_not] at h; simp only [jcP, jcn]; omega)
abbrev jI (x : Int) : jV := .inl x
abbrev jJ (x : Int) : jV := .inr (.inl x)
abbrev jO (a : Nat) : jV := .inr (.inr (some a))
/-- a number written into a cell -/
abbrev jW (w : jS) (a k : Nat) (x : Int) : jS := (jup w.1 a k x, w.2)
section JRU
variable {k : Nat} {T : List jE} {pc pc' : Nat} {l : jF} {st : List jV} {c sl : Nat} {w : jS} {Q : Option jV → jS → Prop} {a o ix r1 r2 r3 n j : Nat} {z x y i : Int}
theorem jWp.one {e : jE} {g : Prop} {l' : jF} {st' : List jV} {w' : jS} (hT : jtb k = T) (hf : jfind T pc = some e) (hs : jstep e l st w = some (g, pc', l', st', w')) (hg : g) (kk : jWp k pc' l' st' c sl w' Q) : jWp k pc l st c sl w Q := by
  obtain ⟨m, v, w2, h1, h2⟩ := kk
  refine ⟨m + 1, v, w2, ?_, h2⟩
  unfold jrun
  rw [hT]
  simp only [hf, hs]
  rw [if_pos hg]
  exact h1
theorem jWp.getI (hT : jtb k = T) (hf : jfind T pc = some (pc, .getfield ix, 3, r1, r2, 0, z)) (hp : pc + 3 = pc') (hk : (w.2.1 a).1 = r1 + 1) (kk : jWp k pc' l (jI (w.1 a r2) :: st) c sl w Q) : jWp k pc l (jO a :: st) c sl w Q := by
  subst hp
  refine jWp.one hT hf rfl ?_ kk
  exact ⟨rfl, hk⟩
theorem jWp.getZ (hT : jtb k = T) (hf : jfind T pc = some (pc, .getfield ix, 3, r1, r2, 3, z)) (hp : pc + 3 = pc') (hk : (w.2.1 a).1 = r1 + 1) (kk : jWp k pc' l (jI (w.1 a r2) :: st) c sl w Q) : jWp k pc l (jO a :: st) c sl w Q := by
  subst hp
  refine jWp.one hT hf rfl ?_ kk
  exact ⟨rfl, hk⟩
theorem jWp.getJ (hT : jtb k = T) (hf : jfind T pc = some (pc, .getfield ix, 3, r1, r2, 1, z)) (hp : pc + 3 = pc') (hk : (w.2.1 a).1 = r1 + 1) (kk : jWp k pc' l (jJ (w.1 a r2) :: st) c sl w Q) : jWp k pc l (jO a :: st) c sl w Q := by
  subst hp
  refine jWp.one hT hf rfl ?_ kk
  exact ⟨rfl, hk⟩
theorem jWp.getR (hT : jtb k = T) (hf : jfind T pc = some (pc, .getfield ix, 3, r1, r2, 2, z)) (hp : pc + 3 = pc') (hk : (w.2.1 a).1 = r1 + 1) (hr : w.2.2.1 a r2 = some o) (kk : jWp k pc' l (jO o :: st) c sl w Q) : jWp k pc l (jO a :: st) c sl w Q := by
  subst hp
  have kk2 : jWp k (pc + 3) l (.inr (.inr (w.2.2.1 a r2)) :: st) c sl w Q := by rw [hr]; exact kk
  refine jWp.one hT hf rfl ?_ kk2
  exact ⟨rfl, hk⟩
theorem jWp.putI (hT : jtb k = T) (hf : jfind T pc = some (pc, .putfield ix, 3, r1, r2, 0, z)) (hp : pc + 3 = pc') (hk : (w.2.1 a).1 = r1 + 1) (kk : jWp k pc' l st c sl (jW w a r2 x) Q) : jWp k pc l (jI x :: jO a :: st) c sl w Q := by
  subst hp
  refine jWp.one hT hf rfl ?_ kk
  exact ⟨hk, rfl⟩
theorem jWp.putZ (hT : jtb k = T) (hf : jfind T pc = some (pc, .putfield ix, 3, r1, r2, 3, z)) (hp : pc + 3 = pc') (hk : (w.2.1 a).1 = r1 + 1) (hx : b32 x = 0 ∨ b32 x = 1) (kk : jWp k pc' l st c sl (jW w a r2 x) Q) : jWp k pc l (jI x :: jO a :: st) c sl w Q := by
  subst hp
  refine jWp.one hT hf rfl ?_ kk
  exact ⟨hk, rfl, hx⟩
theorem jWp.putJ (hT : jtb k = T) (hf : jfind T pc = some (pc, .putfield ix, 3, r1, r2, 1, z)) (hp : pc + 3 = pc') (hk : (w.2.1 a).1 = r1 + 1) (kk : jWp k pc' l st c sl (jW w a r2 x) Q) : jWp k pc l (jJ x :: jO a :: st) c sl w Q := by
  subst hp
  refine jWp.one hT hf rfl ?_ kk
  exact ⟨hk, rfl⟩
theorem jWp.iald (hT : jtb k = T) (hf : jfind T pc = some (pc, .iaload, 1, r1, r2, r3, z)) (hp : pc + 1 = pc') (hk : jird (w.2.1 a)) (hi : b32 i = (j : Int)) (hj : j < (w.2.1 a).2) (kk : jWp k pc' l (jI (w.1 a j) :: st) c sl w Q) : jWp k pc l (jI i :: jO a :: st) c sl w Q := by
  subst hp
  have kk2 : jWp k (pc + 1) l (jI (w.1 a (b32 i).toNat) :: st) c sl w Q := by rw [hi]; exact kk
  refine jWp.one hT hf rfl ?_ kk2
  exact ⟨rfl, hk, by rw [hi]; omega, by rw [hi]; exact Int.ofNat_lt.mpr hj⟩
theorem jWp.lald (hT : jtb k = T) (hf : jfind T pc = some (pc, .laload, 1, r1, r2, r3, z)) (hp : pc + 1 = pc') (hk : (w.2.1 a).1 = 101) (hi : b32 i = (j : Int)) (hj : j < (w.2.1 a).2) (kk : jWp k pc' l (jJ (w.1 a j) :: st) c sl w Q) : jWp k pc l (jI i :: jO a :: st) c sl w Q := by
  subst hp
  have kk2 : jWp k (pc + 1) l (jJ (w.1 a (b32 i).toNat) :: st) c sl w Q := by rw [hi]; exact kk
  refine jWp.one hT hf rfl ?_ kk2
  exact ⟨rfl, hk, by rw [hi]; omega, by rw [hi]; exact Int.ofNat_lt.mpr hj⟩
theorem jWp.aald (hT : jtb k = T) (hf : jfind T pc = some (pc, .aaload, 1, r1, r2, r3, z)) (hp : pc + 1 = pc') (hk : 102 ≤ (w.2.1 a).1 ∧ (w.2.1 a).1 ≤ 105) (hi : b32 i = (j : Int)) (hj : j < (w.2.1 a).2) (hr : w.2.2.1 a j = some o) (kk : jWp k pc' l (jO o :: st) c sl w Q) : jWp k pc l (jI i :: jO a :: st) c sl w Q := by
  subst hp
  have kk2 : jWp k (pc + 1) l (.inr (.inr (w.2.2.1 a (b32 i).toNat)) :: st) c sl w Q := by rw [hi, show ((j : Int)).toNat = j from rfl, hr]; exact kk
  refine jWp.one hT hf rfl ?_ kk2
  exact ⟨rfl, hk, by rw [hi]; omega, by rw [hi]; exact Int.ofNat_lt.mpr hj⟩
theorem jWp.iast (hT : jtb k = T) (hf : jfind T pc = some (pc, .iastore, 1, r1, r2, r3, z)) (hp : pc + 1 = pc') (hk : (w.2.1 a).1 = 100) (hi : b32 i = (j : Int)) (hj : j < (w.2.1 a).2) (kk : jWp k pc' l st c sl (jW w a j x) Q) : jWp k pc l (jI x :: jI i :: jO a :: st) c sl w Q := by
  subst hp
  have kk2 : jWp k (pc + 1) l st c sl (jW w a (b32 i).toNat x) Q := by rw [hi]; exact kk
  refine jWp.one hT hf rfl ?_ kk2
  exact ⟨rfl, hk, by rw [hi]; omega, by rw [hi]; exact Int.ofNat_lt.mpr hj⟩
theorem jWp.last (hT : jtb k = T) (hf : jfind T pc = some (pc, .lastore, 1, r1, r2, r3, z)) (hp : pc + 1 = pc') (hk : (w.2.1 a).1 = 101) (hi : b32 i = (j : Int)) (hj : j < (w.2.1 a).2) (kk : jWp k pc' l st c sl (jW w a j x) Q) : jWp k pc l (jJ x :: jI i :: jO a :: st) c sl w Q := by
  subst hp
  have kk2 : jWp k (pc + 1) l st c sl (jW w a (b32 i).toNat x) Q := by rw [hi]; exact kk
  refine jWp.one hT hf rfl ?_ kk2
  exact ⟨rfl, hk, by rw [hi]; omega, by rw [hi]; exact Int.ofNat_lt.mpr hj⟩
theorem jWp.alen (hT : jtb k = T) (hf : jfind T pc = some (pc, .arraylength, 1, r1, r2, r3, z)) (hp : pc + 1 = pc') (hk : jird (w.2.1 a)) (hn : (w.2.1 a).2 = n) (kk : jWp k pc' l (jI (n : Int) :: st) c sl w Q) : jWp k pc l (jO a :: st) c sl w Q := by
  subst hn
  subst hp
  refine jWp.one hT hf rfl ?_ kk
  exact ⟨rfl, hk⟩
theorem jWp.of_jmp {e : jE} {g : Prop} {st' : List jV} (hT : jtb k = T) (hf : jfind T e.1 = some e) (hs : jstep e l st w = none) (hc : jctl k e st c sl w = some (g, .inl (pc', st'))) (hg : g) (kk : jWp k pc' l st' c sl w Q) : jWp k e.1 l st c sl w Q := by
  subst hT
  exact jWp.of_ctl hf hs hc hg kk
theorem jWp.of_ret {e : jE} {g : Prop} {v : Option jV} (hT : jtb k = T) (hf : jfind T e.1 = some e) (hs : jstep e l st w = none) (hc : jctl k e st c sl w = some (g, .inr (.inl v))) (hg : g) (kk : Q v w) : jWp k e.1 l st c sl w Q := by
  subst hT
  exact jWp.of_ctl hf hs hc hg kk
theorem jWp.of_call {e : jE} {g : Prop} {k' : Nat} {as rest : List jV} (hT : jtb k = T) (hf : jfind T e.1 = some e) (hs : jstep e l st w = none) (hc : jctl k e st c sl w = some (g, .inr (.inr (.inl (k', as, rest))))) (hg : g) (kk : jCall k' as w (fun v w' => jWp k (e.1 + 3) l (v.toList ++ rest) (c + jmc k') (sl + jms k') w' Q)) : jWp k e.1 l st c sl w Q := by
  subst hT
  exact jWp.of_ctl hf hs hc hg kk
theorem jWp.of_new {e : jE} {g : Prop} {st' : List jV} {c' sl' : Nat} {w' : jS} (hT : jtb k = T) (hf : jfind T e.1 = some e) (hs : jstep e l st w = none) (hc : jctl k e st c sl w = some (g, .inr (.inr (.inr (st', c', sl', w'))))) (hg : g) (kk : jWp k (e.1 + e.2.2.1) l st' c' sl' w' Q) : jWp k e.1 l st c sl w Q := by
  subst hT
  exact jWp.of_ctl hf hs hc hg kk
theorem jWp.ifz {cd : Jvm.ClassFile.Cond} {off : Int} {x' : Int} (hT : jtb k = T) (hf : jfind T pc = some (pc, .ifCond cd off, 3, r1, r2, r3, z)) (hp : pc + 3 = pc') (hx : b32 x = x') (h1 : jcP cd x' 0 → jWp k r1 l st c sl w Q) (h2 : jcP (jcn cd) x' 0 → jWp k pc' l st c sl w Q) : jWp k pc l (jI x :: st) c sl w Q := by
  subst hp
  subst hx
  have kk : jWp k (bif jcb cd (b32 x) 0 then r1 else pc + 3) l st c sl w Q := by
    cases hc : jcb cd (b32 x) 0 with
    | true => exact h1 (jcP_t hc)
    | false => exact h2 (jcP_f hc)
  exact jWp.of_jmp (e := (pc, .ifCond cd off, 3, r1, r2, r3, z)) hT hf rfl rfl trivial kk
theorem jWp.icmp {cd : Jvm.ClassFile.Cond} {off : Int} {x' y' : Int} (hT : jtb k = T) (hf : jfind T pc = some (pc, .if_icmp cd off, 3, r1, r2, r3, z)) (hp : pc + 3 = pc') (hx : b32 x = x') (hy : b32 y = y') (h1 : jcP cd x' y' → jWp k r1 l st c sl w Q) (h2 : jcP (jcn cd) x' y' → jWp k pc' l st c sl w Q) : jWp k pc l (jI y :: jI x :: st) c sl w Q := by
  subst hp
  subst hx
  subst hy
  have kk : jWp k (bif jcb cd (b32 x) (b32 y) then r1 else pc + 3) l st c sl w Q := by
    cases hc : jcb cd (b32 x) (b32 y) with
    | true => exact h1 (jcP_t hc)
    | false => exact h2 (jcP_f hc)
  exact jWp.of_jmp (e := (pc, .if_icmp cd off, 3, r1, r2, r3, z)) hT hf rfl rfl trivial kk
/-- a comparison of longs, and the jump behind it -/
theorem jlc_cmp (cd : Jvm.ClassFile.Cond) (x y : Int) : jcb cd (b32 (jlc x y)) 0 = jcb cd x y := by
  have e1 : b32 1 = 1 := by decide
  have e2 : b32 0 = 0 := by decide
  have e3 : b32 (-1) = -1 := by decide
  unfold jlc
  by_cases h1 : y < x
  · rw [if_pos h1, e1]
    cases cd <;> simp [jcb] <;> omega
  · rw [if_neg h1]
    by_cases h2 : x = y
    · rw [if_pos h2, e2]
      cases cd <;> simp [jcb] <;> omega
    · rw [if_neg h2, e3]
      cases cd <;> simp [jcb] <;> omega
theorem jWp.lcmp {cd : Jvm.ClassFile.Cond} {off : Int} {x' y' : Int} {q1 q2 q3 : Nat} {zz : Int} (hT : jtb k = T) (hf : jfind T pc = some (pc, .lcmp, 1, q1, q2, q3, zz)) (hf2 : jfind T (pc + 1) = some (pc + 1, .ifCond cd off, 3, r1, r2, r3, z)) (hp : pc + 4 = pc') (hx : b64 x = x') (hy : b64 y = y') (h1 : jcP cd x' y' → jWp k r1 l st c sl w Q) (h2 : jcP (jcn cd) x' y' → jWp k pc' l st c sl w Q) : jWp k pc l (jJ y :: jJ x :: st) c sl w Q := by
  subst hx
  subst hy
  refine jWp.one (pc' := pc + 1) hT hf rfl trivial ?_
  subst hp
  have kk : jWp k (bif jcb cd (b32 (jlc (b64 x) (b64 y))) 0 then r1 else pc + 1 + 3) l st c sl w Q := by
    rw [jlc_cmp]
    cases hc : jcb cd (b64 x) (b64 y) with
    | true => exact h1 (jcP_t hc)
    | false => exact h2 (jcP_f hc)
  exact jWp.of_jmp (e := (pc + 1, .ifCond cd off, 3, r1, r2, r3, z)) hT hf2 rfl rfl trivial kk
theorem jWp.sw {ins : Instr} {len : Nat} {x' : Int} (hT : jtb k = T) (hf : jfind T pc = some (pc, ins, len, r1, r2, r3, z)) (hi : (∃ a b c d, ins = .tableswitch a b c d) ∨ ∃ a b, ins = .lookupswitch a b) (hx : b32 x = x') (kk : jWp k (jsw (jswt r1).1 (jswt r1).2 x') l st c sl w Q) : jWp k pc l (jI x :: st) c sl w Q := by
  subst hx
  rcases hi with ⟨a1, a2, a3, a4, rfl⟩ | ⟨a1, a2, rfl⟩
  · exact jWp.of_jmp (e := (pc, .tableswitch a1 a2 a3 a4, len, r1, r2, r3, z)) hT hf rfl rfl trivial kk
  · exact jWp.of_jmp (e := (pc, .lookupswitch a1 a2, len, r1, r2, r3, z)) hT hf rfl rfl trivial kk
theorem jWp.ireti (hT : jtb k = T) (hf : jfind T pc = some (pc, .ireturn, 1, r1, r2, r3, z)) (hm : c = jmc k ∧ sl = jms k) (hr : jrc k = 1) (kk : Q (some (jI x)) w) : jWp k pc l [jI x] c sl w Q := by
  refine jWp.of_ret (e := (pc, .ireturn, 1, r1, r2, r3, z)) hT hf rfl rfl ?_ kk
  exact ⟨hm, Or.inl hr⟩
theorem jWp.iretz (hT : jtb k = T) (hf : jfind T pc = some (pc, .ireturn, 1, r1, r2, r3, z)) (hm : c = jmc k ∧ sl = jms k) (hr : jrc k = 2) (hx : x = 0 ∨ x = 1) (kk : Q (some (jI x)) w) : jWp k pc l [jI x] c sl w Q := by
  refine jWp.of_ret (e := (pc, .ireturn, 1, r1, r2, r3, z)) hT hf rfl rfl ?_ kk
  refine ⟨hm, Or.inr ⟨hr, ?_⟩⟩
  rcases hx with rfl | rfl
  · exact Or.inl (by decide)
  · exact Or.inr (by decide)
theorem jWp.lret (hT : jtb k = T) (hf : jfind T pc = some (pc, .lreturn, 1, r1, r2, r3, z)) (hm : c = jmc k ∧ sl = jms k) (hr : jrc k = 3) (kk : Q (some (jJ x)) w) : jWp k pc l [jJ x] c sl w Q := by
  refine jWp.of_ret (e := (pc, .lreturn, 1, r1, r2, r3, z)) hT hf rfl rfl ?_ kk
  exact ⟨hm, hr⟩
theorem jWp.vret (hT : jtb k = T) (hf : jfind T pc = some (pc, .return_, 1, r1, r2, r3, z)) (hm : c = jmc k ∧ sl = jms k) (hr : jrc k = 0) (kk : Q none w) : jWp k pc l [] c sl w Q := by
  refine jWp.of_ret (e := (pc, .return_, 1, r1, r2, r3, z)) hT hf rfl rfl ?_ kk
  exact ⟨hm, hr⟩
theorem jWp.callv {as rest : List jV} (hT : jtb k = T) (hf : jfind T pc = some (pc, .invokevirtual ix, 3, r1, r2, r3, z)) (ht : jtake (r2 + 1) [] st = some (as, rest)) (hg : (Nat.ble (c + jmc r1) (jmc k) && Nat.ble (sl + jms r1) (jms k) && Nat.ble (jlay as).length (jmaxL r1) && Nat.ble (jcats rest) 8) = true) (hr : jrecv r1 as w) (kk : jCall r1 as w (fun v w' => jWp k (pc + 3) l (v.toList ++ rest) (c + jmc r1) (sl + jms r1) w' Q)) : jWp k pc l st c sl w Q := by
  simp only [Bool.and_eq_true, Nat.ble_eq] at hg
  have hc : jctl k (pc, .invokevirtual ix, 3, r1, r2, r3, z) st c sl w = some ((c + jmc r1 ≤ jmc k ∧ sl + jms r1 ≤ jms k) ∧ (jlay as).length ≤ jmaxL r1 ∧ jcats rest ≤ 8 ∧ (true = true → jrecv r1 as w), .inr (.inr (.inl (r1, as, rest)))) := by
    show jinv true k _ st c sl w = _
    unfold jinv
    dsimp only [cond_true]
    rw [ht]
  refine jWp.of_call (e := (pc, .invokevirtual ix, 3, r1, r2, r3, z)) hT hf rfl hc ?_ kk
  exact ⟨⟨hg.1.1.1, hg.1.1.2⟩, hg.1.2, hg.2, fun _ => hr⟩
theorem jWp.calls {as rest : List jV} (hT : jtb k = T) (hf : jfind T pc = some (pc, .invokestatic ix, 3, r1, r2, r3, z)) (h1 : Nat.blt r1 1000 = true) (ht : jtake r2 [] st = some (as, rest)) (hg : (Nat.ble (c + jmc r1) (jmc k) && Nat.ble (sl + jms r1) (jms k) && Nat.ble (jlay as).length (jmaxL r1) && Nat.ble (jcats rest) 8) = true) (kk : jCall r1 as w (fun v w' => jWp k (pc + 3) l (v.toList ++ rest) (c + jmc r1) (sl + jms r1) w' Q)) : jWp k pc l st c sl w Q := by
  simp only [Bool.and_eq_true, Nat.ble_eq] at hg
  have hc : jctl k (pc, .invokestatic ix, 3, r1, r2, r3, z) st c sl w = some ((c + jmc r1 ≤ jmc k ∧ sl + jms r1 ≤ jms k) ∧ (jlay as).length ≤ jmaxL r1 ∧ jcats rest ≤ 8 ∧ (false = true → jrecv r1 as w), .inr (.inr (.inl (r1, as, rest)))) := by
    show jinv false k _ st c sl w = _
    unfold jinv
    dsimp only [cond_false]
    rw [ht]
  refine jWp.of_call (e := (pc, .invokestatic ix, 3, r1, r2, r3, z)) hT hf (jstep_ctl hc (Or.inl (Nat.blt_eq.mp h1))) hc ?_ kk
  exact ⟨⟨hg.1.1.1, hg.1.1.2⟩, hg.1.2, hg.2, fun h => by cases h⟩
theorem jWp.calli {as rest : List jV} (hT : jtb k = T) (hf : jfind T pc = some (pc, .invokespecial ix, 3, r1, r2, r3, z)) (h1 : Nat.blt r1 1000 = true) (ht : jtake (r2 + 1) [] st = some (as, rest)) (hg : (Nat.ble (c + jmc r1) (jmc k) && Nat.ble (sl + jms r1) (jms k) && Nat.ble (jlay as).length (jmaxL r1) && Nat.ble (jcats rest) 8) = true) (hr : jrecv r1 as w) (kk : jCall r1 as w (fun v w' => jWp k (pc + 3) l (v.toList ++ rest) (c + jmc r1) (sl + jms r1) w' Q)) : jWp k pc l st c sl w Q := by
  simp only [Bool.and_eq_true, Nat.ble_eq] at hg
  have hc : jctl k (pc, .invokespecial ix, 3, r1, r2, r3, z) st c sl w = some ((c + jmc r1 ≤ jmc k ∧ sl + jms r1 ≤ jms k) ∧ (jlay as).length ≤ jmaxL r1 ∧ jcats rest ≤ 8 ∧ (true = true → jrecv r1 as w), .inr (.inr (.inl (r1, as, rest)))) := by
    show jinv true k _ st c sl w = _
    unfold jinv
    dsimp only [cond_true]
    rw [ht]
  refine jWp.of_call (e := (pc, .invokespecial ix, 3, r1, r2, r3, z)) hT hf (jstep_ctl hc (Or.inl (Nat.blt_eq.mp h1))) hc ?_ kk
  exact ⟨⟨hg.1.1.1, hg.1.1.2⟩, hg.1.2, hg.2, fun _ => hr⟩
/-- fewer known locals are enough -/
def jle : jF → jF → Prop
  | [], [] => True
  | none :: r, _ :: r' => jle r r'
  | some a :: r, some b :: r' => a = b ∧ jle r r'
  | _, _ => False
end JRU
