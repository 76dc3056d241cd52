theorem jget_le : ∀ {l l' : jF} {i : Nat} {v : jV}, jle l l' → jget l i = some v → jget l' i = some v
  | [], _, _, _, _, h => by simp [jget] at h
  | none :: r, [], _, _, hl, _ => by cases hl
  | some a :: r, [], _, _, hl, _ => by cases hl
  | none :: r, x :: r', 0, v, _, h => by simp [jget] at h
  | none :: r, x :: r', i + 1, v, hl, h => jget_le (l := r) (l' := r') hl h
  | some a :: r, none :: r', _, _, hl, _ => by cases hl
  | some a :: r, some b :: r', 0, v, hl, h => by
    have := hl.1
    subst this
    exact h
  | some a :: r, some b :: r', i + 1, v, hl, h => jget_le (l := r) (l' := r') hl.2 h
theorem jlong_le {x y : Option jV} {r r' : jF} (h : jle (x :: r) (y :: r')) : jle r r' ∧ (x = none ∨ x = y) := by
  cases x with
  | none => exact ⟨h, Or.inl rfl⟩
  | some a => cases y with
    | none => cases h
    | some b => exact ⟨h.2, Or.inr (by rw [h.1])⟩
theorem jle_cons {x y : Option jV} {r r' : jF} (h : jle r r') (hx : x = none ∨ x = y) : jle (x :: r) (y :: r') := by
  rcases hx with rfl | rfl
  · exact h
  · cases x with
    | none => exact h
    | some a => exact ⟨rfl, h⟩
theorem jset_le {v : jV} : ∀ {i : Nat} {l l' : jF}, jle l l' → jle (jset v i l) (jset v i l')
  | i, [], l', h => by
    cases l' with
    | nil => cases i <;> exact trivial
    | cons => cases h
  | i, x :: r, [], h => by cases x <;> cases h
  | 0, x :: r, y :: r', h => by
    obtain ⟨h1, -⟩ := jlong_le h
    unfold jset
    refine jle_cons ?_ (Or.inr rfl)
    cases jlong (some v) with
    | false => exact h1
    | true =>
      show jle (jcut r) (jcut r')
      cases r with
      | nil => cases r' with
        | nil => exact trivial
        | cons => cases h1
      | cons a r => cases r' with
        | nil => cases a <;> cases h1
        | cons b r' => exact jle_cons (jlong_le h1).1 (Or.inl rfl)
  | 1, x :: r, y :: r', h => by
    obtain ⟨h1, h2⟩ := jlong_le h
    unfold jset
    refine jle_cons (jset_le h1) ?_
    rcases h2 with rfl | rfl
    · exact Or.inl (by cases hb : jlong none <;> rfl)
    · exact Or.inr rfl
  | i + 2, x :: r, y :: r', h => by
    obtain ⟨h1, h2⟩ := jlong_le h
    unfold jset
    exact jle_cons (jset_le h1) h2
theorem jput_l {t k p : Nat} {l : jF} {st : List jV} {w : jS} : jput t k p l st w = (jput t k p [] st w).map (fun x => (x.1, x.2.1, l, x.2.2.2)) := by
  rcases t with _ | _ | _ | _ | t <;> rcases st with _ | ⟨x | x | x, _ | ⟨y | y | y, st⟩⟩ <;> rfl
theorem jstep_le {e : jE} {l l' : jF} {st st1 : List jV} {w w1 : jS} {g : Prop} {pc1 : Nat} {l1 : jF} (hl : jle l l') (h : jstep e l st w = some (g, pc1, l1, st1, w1)) : ∃ l1', jstep e l' st w = some (g, pc1, l1', st1, w1) ∧ jle l1 l1' := by
  obtain ⟨pc, ins, len, r1, r2, r3, z⟩ := e
  have ld : ∀ (t i p : Nat), jldv t (jget l i) p l st w = some (g, pc1, l1, st1, w1) → ∃ l1', jldv t (jget l' i) p l' st w = some (g, pc1, l1', st1, w1) ∧ jle l1 l1' := by
    intro t i p h
    cases hv : jget l i with
    | none => rw [hv] at h; unfold jldv at h; split at h <;> simp_all
    | some v =>
      rw [jget_le hl hv]
      rw [hv] at h
      refine ⟨l', ?_, ?_⟩
      · unfold jldv at h ⊢; split at h <;> simp_all
      · unfold jldv at h; split at h <;> simp_all
  have sv : ∀ (t i p : Nat), jstv t i p l st w = some (g, pc1, l1, st1, w1) → ∃ l1', jstv t i p l' st w = some (g, pc1, l1', st1, w1) ∧ jle l1 l1' := by
    intro t i p h
    unfold jstv at h
    split at h <;> first
      | (cases h; done)
      | (simp only [Option.some.injEq, Prod.mk.injEq] at h
         obtain ⟨rfl, rfl, rfl, rfl, rfl⟩ := h
         exact ⟨_, rfl, jset_le hl⟩)
  have same : ∀ {f : jF → jR}, (∀ x y, f x = none → f y = none) → True := fun _ => trivial
  cases ins <;> first
    | exact ld _ _ _ h
    | exact sv _ _ _ h
    | (simp only [jstep] at h; cases h; done)
    | (simp only [jstep, Option.some.injEq, Prod.mk.injEq] at h
       obtain ⟨rfl, rfl, rfl, rfl, rfl⟩ := h
       exact ⟨l', rfl, hl⟩)
    | (simp only [jstep, jbin, jbinL] at h ⊢
       split at h <;> first
         | (cases h; done)
         | (simp only [Option.some.injEq, Prod.mk.injEq] at h
            obtain ⟨rfl, rfl, rfl, rfl, rfl⟩ := h
            exact ⟨l', rfl, hl⟩))
    | (simp only [jstep, jbui] at h ⊢
       split at h <;> first
         | (cases h; done)
         | (simp only [Option.some.injEq, Prod.mk.injEq] at h
            obtain ⟨rfl, rfl, rfl, rfl, rfl⟩ := h
            exact ⟨l', rfl, hl⟩))
    | skip
  case iinc i n =>
    simp only [jstep] at h ⊢
    cases hv : jget l i with
    | none => rw [hv] at h; cases h
    | some v =>
      rw [jget_le hl hv]
      rw [hv] at h
      rcases v with x | x | x <;> simp only at h ⊢ <;> first
        | (cases h; done)
        | (simp only [Option.some.injEq, Prod.mk.injEq] at h
           obtain ⟨rfl, rfl, rfl, rfl, rfl⟩ := h
           exact ⟨_, rfl, jset_le hl⟩)
  case putfield i =>
    simp only [jstep] at h ⊢
    rcases st with _ | ⟨x, _ | ⟨y | y | y, st⟩⟩ <;> simp only at h ⊢ <;> (try (cases h; done))
    rw [jput_l] at h
    rw [jput_l]
    cases hj : jput r3 r2 (pc + len) [] (x :: .inr (.inr y) :: st) w with
    | none => rw [hj] at h; cases h
    | some q =>
      obtain ⟨q1, q2, q3, q4, q5⟩ := q
      rw [hj] at h
      simp only [Option.map_some, Option.some.injEq, Prod.mk.injEq] at h ⊢
      obtain ⟨rfl, rfl, rfl, rfl, rfl⟩ := h
      exact ⟨l', ⟨rfl, rfl, rfl, rfl, rfl⟩, hl⟩
theorem jstep_le0 {e : jE} {l l' : jF} {st : List jV} {c sl k : Nat} {w : jS} {q} (hs : jstep e l st w = none) (hc : jctl k e st c sl w = some q) : jstep e l' st w = none := by
  obtain ⟨pc, ins, len, r1, r2, r3, z⟩ := e
  have hb : ∀ p, jbui r1 p l st w = none → jbui r1 p l' st w = none := by
    intro p h
    unfold jbui at h ⊢
    split at h <;> first | (cases h; done) | rfl
  cases ins <;> first
    | (simp only [jctl] at hc; cases hc; done)
    | rfl
    | exact hb _ hs
theorem jrun_le : ∀ {n k pc : Nat} {l l' : jF} {st : List jV} {c sl : Nat} {w : jS} {x : Option jV × jS}, jle l l' → jrun n k pc l st c sl w = some x → jrun n k pc l' st c sl w = some x
  | 0, _, _, _, _, _, _, _, _, _, _, h => by cases h
  | n + 1, k, pc, l, l', st, c, sl, w, x, hl, h => by
    unfold jrun at h ⊢
    cases hf : jfind (jtb k) pc with
    | none => rw [hf] at h; cases h
    | some e =>
      rw [hf] at h
      cases hs : jstep e l st w with
      | some q =>
        obtain ⟨g, pc', l1, st', w'⟩ := q
        obtain ⟨l1', h1, h2⟩ := jstep_le hl hs
        simp only [hs] at h
        simp only [h1]
        by_cases hg : g
        · rw [if_pos hg] at h ⊢
          exact jrun_le h2 h
        · rw [if_neg hg] at h
          cases h
      | none =>
        simp only [hs] at h
        cases hc : jctl k e st c sl w with
        | none => rw [hc] at h; cases h
        | some q =>
          simp only [jstep_le0 (l' := l') hs hc]
          obtain ⟨g, y⟩ := q
          simp only [hc] at h ⊢
          by_cases hg : g
          · rw [if_pos hg] at h ⊢
            rcases y with ⟨pc', st'⟩ | v | ⟨k', as, rest⟩ | ⟨st', c', sl', w'⟩
            · exact jrun_le hl h
            · exact h
            · dsimp only at h ⊢
              cases hr : jrun n k' 0 (jent (jmaxL k') as) [] 0 0 w with
              | none => rw [hr] at h; cases h
              | some q =>
                obtain ⟨v, w'⟩ := q
                simp only [hr] at h ⊢
                exact jrun_le hl h
            · exact jrun_le hl h
          · rw [if_neg hg] at h
            cases h
theorem jWp.le {k pc : Nat} {l l' : jF} {st : List jV} {c sl : Nat} {w : jS} {Q : Option jV → jS → Prop} (hl : jle l l') (h : jWp k pc l st c sl w Q) : jWp k pc l' st c sl w Q := by
  obtain ⟨n, v, w', h1, h2⟩ := h
  exact ⟨n, v, w', jrun_le hl h1, h2⟩
def jabs (x : Int) : Int := if 0 ≤ x then x else 0 - x
def jmx (x y : Int) : Int := if x < y then y else x
theorem jlt {p : Nat × Nat} {t n j : Nat} (h : p = (t, n)) (hj : j < n) : j < p.2 := by rw [h]; exact hj
theorem jtg {p : Nat × Nat} {t n : Nat} (h : p = (t, n)) : p.1 = t := by rw [h]
theorem jird_of {p : Nat × Nat} {n : Nat} (h : p = (100, n)) : jird p := by rw [h]; exact Or.inl rfl
section JRV
variable {k : Nat} {T : List jE} {pc pc' : Nat} {l : jF} {st : List jV} {c sl : Nat} {w : jS} {Q : Option jV → jS → Prop} {a o ix r1 r2 r3 n j len : Nat} {z x y i x' y' : Int}
theorem jWp.i2l (hT : jtb k = T) (hf : jfind T pc = some (pc, .i2l, 1, r1, r2, r3, z)) (hp : pc + 1 = pc') (hx : b32 x = x') (kk : jWp k pc' l (jJ x' :: st) c sl w Q) : jWp k pc l (jI x :: st) c sl w Q := by
  subst hx
  subst hp
  exact jWp.one hT hf rfl trivial kk
theorem jWp.absI (hT : jtb k = T) (hf : jfind T pc = some (pc, .invokestatic ix, 3, 1001, r2, r3, z)) (hp : pc + 3 = pc') (h8 : Nat.ble (jcats st) 8 = true) (hx : b32 x = x') (kk : jWp k pc' l (jI (jabs x') :: st) c sl w Q) : jWp k pc l (jI x :: st) c sl w Q := by
  subst hx
  subst hp
  exact jWp.one hT hf rfl (Nat.le_of_ble_eq_true h8) kk
theorem jWp.absJ (hT : jtb k = T) (hf : jfind T pc = some (pc, .invokestatic ix, 3, 1002, r2, r3, z)) (hp : pc + 3 = pc') (h8 : Nat.ble (jcats st) 8 = true) (hx : b64 x = x') (kk : jWp k pc' l (jJ (jabs x') :: st) c sl w Q) : jWp k pc l (jJ x :: st) c sl w Q := by
  subst hx
  subst hp
  exact jWp.one hT hf rfl (Nat.le_of_ble_eq_true h8) kk
theorem jWp.maxI (hT : jtb k = T) (hf : jfind T pc = some (pc, .invokestatic ix, 3, 1003, r2, r3, z)) (hp : pc + 3 = pc') (h8 : Nat.ble (jcats st) 8 = true) (hx : b32 x = x') (hy : b32 y = y') (kk : jWp k pc' l (jI (jmx x' y') :: st) c sl w Q) : jWp k pc l (jI y :: jI x :: st) c sl w Q := by
  subst hx
  subst hy
  subst hp
  exact jWp.one hT hf rfl (Nat.le_of_ble_eq_true h8) kk
theorem jWp.idiv (hT : jtb k = T) (hf : jfind T pc = some (pc, .idiv, 1, r1, r2, r3, z)) (hp : pc + 1 = pc') (hx : b32 x = x') (hy : b32 y = y') (h0 : y' ≠ 0) (kk : jWp k pc' l (jI (x'.tdiv y') :: st) c sl w Q) : jWp k pc l (jI y :: jI x :: st) c sl w Q := by
  subst hx
  subst hy
  subst hp
  exact jWp.one hT hf rfl h0 kk
theorem jWp.irem (hT : jtb k = T) (hf : jfind T pc = some (pc, .irem, 1, r1, r2, r3, z)) (hp : pc + 1 = pc') (hx : b32 x = x') (hy : b32 y = y') (h0 : y' ≠ 0) (kk : jWp k pc' l (jI (x'.tmod y') :: st) c sl w Q) : jWp k pc l (jI y :: jI x :: st) c sl w Q := by
  subst hx
  subst hy
  subst hp
  exact jWp.one hT hf rfl h0 kk
theorem jWp.ldiv (hT : jtb k = T) (hf : jfind T pc = some (pc, .ldiv, 1, r1, r2, r3, z)) (hp : pc + 1 = pc') (hx : b64 x = x') (hy : b64 y = y') (h0 : y' ≠ 0) (kk : jWp k pc' l (jJ (x'.tdiv y') :: st) c sl w Q) : jWp k pc l (jJ y :: jJ x :: st) c sl w Q := by
  subst hx
  subst hy
  subst hp
  exact jWp.one hT hf rfl h0 kk
theorem jWp.lrem (hT : jtb k = T) (hf : jfind T pc = some (pc, .lrem, 1, r1, r2, r3, z)) (hp : pc + 1 = pc') (hx : b64 x = x') (hy : b64 y = y') (h0 : y' ≠ 0) (kk : jWp k pc' l (jJ (x'.tmod y') :: st) c sl w Q) : jWp k pc l (jJ y :: jJ x :: st) c sl w Q := by
  subst hx
  subst hy
  subst hp
  exact jWp.one hT hf rfl h0 kk
/-- a jump on a number that is known -/
theorem jWp.ifc {cd : Jvm.ClassFile.Cond} {off : Int} {b : Bool} (hT : jtb k = T) (hf : jfind T pc = some (pc, .ifCond cd off, 3, r1, r2, r3, z)) (hb : jcb cd (b32 x) 0 = b) (hp : (bif b then r1 else pc + 3) = pc') (kk : jWp k pc' l st c sl w Q) : jWp k pc l (jI x :: st) c sl w Q := by
  subst hp
  subst hb
  exact jWp.of_jmp (e := (pc, .ifCond cd off, 3, r1, r2, r3, z)) hT hf rfl rfl trivial kk
theorem jWp.copy {d s' m : Int} {a0 jd js jm : Nat} (hT : jtb k = T) (hf : jfind T pc = some (pc, .invokestatic ix, 3, 1004, r2, r3, z)) (hp : pc + 3 = pc') (h8 : Nat.ble (jcats st) 8 = true) (ha : (w.2.1 a).1 = 100) (ha0 : (w.2.1 a0).1 = 100) (h1 : b32 m = (jm : Int)) (h2 : b32 d = (jd : Int)) (h3 : b32 s' = (js : Int)) (h4 : js + jm ≤ (w.2.1 a0).2) (h5 : jd + jm ≤ (w.2.1 a).2)
    (kk : jWp k pc' l st c sl (jcpy w.1 a0 js a jd jm, w.2) Q) : jWp k pc l (jI m :: jI d :: jO a :: jI s' :: jO a0 :: st) c sl w Q := by
  subst hp
  have kk2 : jWp k (pc + 3) l st c sl (jcpy w.1 a0 (b32 s').toNat a (b32 d).toNat (b32 m).toNat, w.2) Q := by
    rw [h1, h2, h3]
    exact kk
  refine jWp.one hT hf rfl ?_ kk2
  exact ⟨Nat.le_of_ble_eq_true h8, ⟨rfl, rfl, ha, ha0⟩, ⟨by rw [h1]; omega, by rw [h2]; omega, by rw [h3]; omega⟩, by rw [h1, h3]; show (js : Int) + jm ≤ ((w.2.1 a0).2 : Int); omega, by rw [h1, h2]; show (jd : Int) + jm ≤ ((w.2.1 a).2 : Int); omega⟩
theorem jWp.new (hT : jtb k = T) (hf : jfind T pc = some (pc, .new ix, 3, r1, r2, r3, z)) (hp : pc + 3 = pc') (hg : (Nat.ble (c + 1) (jmc k) && Nat.ble (sl + r2) (jms k)) = true) (kk : jWp k pc' l (jO w.2.2.2.1 :: st) (c + 1) (sl + r2) (jnewo w (r1 + 1) 0) Q) : jWp k pc l st c sl w Q := by
  subst hp
  simp only [Bool.and_eq_true, Nat.ble_eq] at hg
  exact jWp.of_new (e := (pc, .new ix, 3, r1, r2, r3, z)) hT hf rfl rfl hg kk
theorem jWp.newa {t : ArrayType} {jn : Nat} (hT : jtb k = T) (hf : jfind T pc = some (pc, .newarray t, 2, r1, r2, r3, z)) (hp : pc + 2 = pc') (hx : b32 x = (jn : Int)) (hg : (Nat.ble jn 1000 && Nat.ble (c + 1) (jmc k) && Nat.ble (sl + jn) (jms k)) = true) (kk : jWp k pc' l (jO w.2.2.2.1 :: st) (c + 1) (sl + jn) (jnewo w r1 jn) Q) : jWp k pc l (jI x :: st) c sl w Q := by
  subst hp
  simp only [Bool.and_eq_true, Nat.ble_eq] at hg
  have e : (b32 x).toNat = jn := by rw [hx]; rfl
  have kk2 : jWp k (pc + 2) l (jO w.2.2.2.1 :: st) (c + 1) (sl + (b32 x).toNat) (jnewo w r1 (b32 x).toNat) Q := by rw [e]; exact kk
  refine jWp.of_new (e := (pc, .newarray t, 2, r1, r2, r3, z)) hT hf rfl rfl ?_ kk2
  exact ⟨⟨by rw [hx]; omega, by rw [hx]; have := hg.1.1; omega⟩, hg.1.2, by rw [e]; exact hg.2⟩
theorem jWp.newq {jn : Nat} (hT : jtb k = T) (hf : jfind T pc = some (pc, .anewarray ix, 3, r1, r2, r3, z)) (hp : pc + 3 = pc') (hx : b32 x = (jn : Int)) (hg : (Nat.ble jn 1000 && Nat.ble (c + 1) (jmc k) && Nat.ble (sl + jn) (jms k)) = true) (kk : jWp k pc' l (jO w.2.2.2.1 :: st) (c + 1) (sl + jn) (jnewo w r1 jn) Q) : jWp k pc l (jI x :: st) c sl w Q := by
  subst hp
  simp only [Bool.and_eq_true, Nat.ble_eq] at hg
  have e : (b32 x).toNat = jn := by rw [hx]; rfl
  have kk2 : jWp k (pc + 3) l (jO w.2.2.2.1 :: st) (c + 1) (sl + (b32 x).toNat) (jnewo w r1 (b32 x).toNat) Q := by rw [e]; exact kk
  refine jWp.of_new (e := (pc, .anewarray ix, 3, r1, r2, r3, z)) hT hf rfl rfl ?_ kk2
  exact ⟨⟨by rw [hx]; omega, by rw [hx]; have := hg.1.1; omega⟩, hg.1.2, by rw [e]; exact hg.2⟩
end JRV
