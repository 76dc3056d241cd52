/-! what the machine does, as a condition ahead of it -/
theorem jrun_mono : ∀ {n k pc : Nat} {l : jF} {st : List jV} {c sl : Nat} {w : jS} {x : Option jV × jS} {m : Nat}, jrun n k pc l st c sl w = some x → n ≤ m → jrun m k pc l st c sl w = some x
  | 0, _, _, _, _, _, _, _, _, _, h, _ => by cases h
  | n + 1, k, pc, l, st, c, sl, w, x, 0, _, hm => by omega
  | n + 1, k, pc, l, st, c, sl, w, x, m + 1, h, hm => by
    have hm : n ≤ m := by omega
    unfold jrun at h ⊢
    cases hf : jfind (jtb k) pc with
    | none => rw [hf] at h; cases h
    | some e =>
      rw [hf] at h
      cases hs : jstep e l st w with
      | some q =>
        obtain ⟨g, pc', l', st', w'⟩ := q
        simp only [hs] at h ⊢
        by_cases hg : g
        · rw [if_pos hg] at h ⊢
          exact jrun_mono h hm
        · rw [if_neg hg] at h
          cases h
      | none =>
        simp only [hs] at h ⊢
        cases hc : jctl k e st c sl w with
        | none => rw [hc] at h; cases h
        | some q =>
          obtain ⟨g, y⟩ := q
          simp only [hc] at h ⊢
          by_cases hg : g
          · rw [if_pos hg] at h ⊢
            rcases y with ⟨pc', st'⟩ | v | ⟨k', as, rest⟩ | ⟨st', c', sl', w'⟩
            · exact jrun_mono h hm
            · exact h
            · dsimp only at h ⊢
              cases hr : jrun n k' 0 (jent (jmaxL k') as) [] 0 0 w with
              | none => rw [hr] at h; cases h
              | some q =>
                obtain ⟨v, w'⟩ := q
                rw [jrun_mono hr hm]
                simp only [hr] at h
                exact jrun_mono h hm
            · exact jrun_mono h hm
          · rw [if_neg hg] at h
            cases h
def jWp (k pc : Nat) (l : jF) (st : List jV) (c sl : Nat) (w : jS) (Q : Option jV → jS → Prop) : Prop := ∃ (n : Nat) (v : Option jV) (w' : jS), jrun n k pc l st c sl w = some (v, w') ∧ Q v w'
/-- a call of a method: its arguments, the receiver first -/
def jCall (k : Nat) (as : List jV) (w : jS) (Q : Option jV → jS → Prop) : Prop := jWp k 0 (jent (jmaxL k) as) [] 0 0 w Q
theorem jWp.mono {k pc : Nat} {l : jF} {st : List jV} {c sl : Nat} {w : jS} {Q Q' : Option jV → jS → Prop} (h : jWp k pc l st c sl w Q) (hq : ∀ v w', Q v w' → Q' v w') : jWp k pc l st c sl w Q' := by
  obtain ⟨n, v, w', h1, h2⟩ := h
  exact ⟨n, v, w', h1, hq _ _ h2⟩
theorem jCall.mono {k : Nat} {as : List jV} {w : jS} {Q Q' : Option jV → jS → Prop} (h : jCall k as w Q) (hq : ∀ v w', Q v w' → Q' v w') : jCall k as w Q' := jWp.mono h hq
theorem jstep_ctl {e : jE} {k : Nat} {l : jF} {st : List jV} {c sl : Nat} {w : jS} {q} (h : jctl k e st c sl w = some q) (hb : e.2.2.2.1 < 1000 ∨ (∀ i, e.2.1 ≠ .invokestatic i) ∧ (∀ i, e.2.1 ≠ .invokespecial i)) : jstep e l st w = none := by
  obtain ⟨pc, ins, len, r1, r2, r3, z⟩ := e
  have hbui : r1 < 1000 → ∀ p, jbui r1 p l st w = none := by
    intro hr p
    cases hx : jbui r1 p l st w with
    | none => rfl
    | some y => have := jbui_lo hx; omega
  cases ins <;> first
    | (simp only [jctl] at h; cases h; done)
    | rfl
    | (rcases hb with hb | ⟨h1, h2⟩
       · exact hbui hb _
       · first | exact absurd rfl (h1 _) | exact absurd rfl (h2 _))
theorem jWp.of_ctl {k : Nat} {e : jE} {l : jF} {st : List jV} {c sl : Nat} {w : jS} {Q : Option jV → jS → Prop} {g : Prop} {y : jC} (hf : jfind (jtb k) e.1 = some e) (hs : jstep e l st w = none) (hc : jctl k e st c sl w = some (g, y)) (hg : g)
    (kk : match y with
      | .inl (pc', st') => jWp k pc' l st' c sl w Q
      | .inr (.inl v) => Q v w
      | .inr (.inr (.inl (k', as, rest))) => jCall k' as w (fun v w' => jWp k (e.1 + 3) l (v.toList ++ rest) (c + jmc k') (sl + jms k') w' Q)
      | .inr (.inr (.inr (st', c', sl', w'))) => jWp k (e.1 + e.2.2.1) l st' c' sl' w' Q) : jWp k e.1 l st c sl w Q := by
  rcases y with ⟨pc', st'⟩ | v | ⟨k', as, rest⟩ | ⟨st', c', sl', w'⟩
  · obtain ⟨n, v, w', h1, h2⟩ := kk
    refine ⟨n + 1, v, w', ?_, h2⟩
    unfold jrun
    simp only [hf, hs, hc]
    rw [if_pos hg]
    exact h1
  · refine ⟨1, v, w, ?_, kk⟩
    unfold jrun
    simp only [hf, hs, hc]
    rw [if_pos hg]
  · obtain ⟨n1, v1, w1, h1, n2, v2, w2, h2, h3⟩ := kk
    refine ⟨n1 + n2 + 1, v2, w2, ?_, h3⟩
    unfold jrun
    simp only [hf, hs, hc]
    rw [if_pos hg]
    rw [jrun_mono h1 (by omega)]
    exact jrun_mono h2 (by omega)
  · obtain ⟨n, v, w2, h1, h2⟩ := kk
    refine ⟨n + 1, v, w2, ?_, h2⟩
    unfold jrun
    simp only [hf, hs, hc]
    rw [if_pos hg]
    exact h1
/-- instructions that ask nothing -/
def jnog : Instr → Bool
  | .iload _ => true
  | .iload_n _ => true
  | .lload _ => true
  | .lload_n _ => true
  | .istore _ => true
  | .istore_n _ => true
  | .lstore _ => true
  | .lstore_n _ => true
  | .iconst _ => true
  | .bipush _ => true
  | .sipush _ => true
  | .lconst _ => true
  | .ldc _ => true
  | .ldc_w _ => true
  | .ldc2_w _ => true
  | .iadd => true
  | .isub => true
  | .imul => true
  | .iand => true
  | .ior => true
  | .ishl => true
  | .ladd => true
  | .lsub => true
  | .lmul => true
  | .ineg => true
  | .lneg => true
  | .i2l => true
  | .l2i => true
  | .lcmp => true
  | .iinc _ _ => true
  | .pop => true
  | .goto _ => true
  | .getstatic _ => true
  | _ => false
theorem jnog_ok {e : jE} {l : jF} {st : List jV} {w : jS} {g : Prop} {x} (hn : jnog e.2.1 = true) (h : jstep e l st w = some (g, x)) : g := by
  obtain ⟨pc, ins, len, r1, r2, r3, z⟩ := e
  cases ins <;> first
    | (cases hn; done)
    | (simp only [jstep, Option.some.injEq, Prod.mk.injEq] at h; rw [← h.1]; trivial)
    | (simp only [jstep] at h; unfold jldv at h; split at h <;> first | (cases h; done) | (simp only [Option.some.injEq, Prod.mk.injEq] at h; rw [← h.1]; trivial) | (rename_i e1; exact absurd e1 (by decide)) | simp_all)
    | (simp only [jstep] at h; unfold jstv at h; split at h <;> first | (cases h; done) | (simp only [Option.some.injEq, Prod.mk.injEq] at h; rw [← h.1]; trivial) | (rename_i e1; exact absurd e1 (by decide)) | simp_all)
    | (simp only [jstep, jbin, jbinL] at h; split at h <;> first | (cases h; done) | (simp only [Option.some.injEq, Prod.mk.injEq] at h; rw [← h.1]; trivial))
/-- so many steps, what they ask on the way, and what comes then -/
def jgo : Nat → List jE → Nat → jF → List jV → jS → (Nat → jF → List jV → jS → Prop) → Prop
  | 0, _, pc, l, st, w, K => K pc l st w
  | n + 1, T, pc, l, st, w, K =>
    match jfind T pc with
    | none => False
    | some e =>
      match jstep e l st w with
      | none => False
      | some (g, pc', l', st', w') => bif jnog e.2.1 then jgo n T pc' l' st' w' K else (g ∧ jgo n T pc' l' st' w' K)
theorem jWp.blk {k : Nat} {T : List jE} (hT : jtb k = T) {c sl : Nat} {Q : Option jV → jS → Prop} : ∀ (n : Nat) {pc : Nat} {l : jF} {st : List jV} {w : jS}, jgo n T pc l st w (fun pc l st w => jWp k pc l st c sl w Q) → jWp k pc l st c sl w Q
  | 0, pc, l, st, w, h => h
  | n + 1, pc, l, st, w, h => by
    unfold jgo at h
    cases hf : jfind T pc with
    | none => rw [hf] at h; cases h
    | some e =>
      rw [hf] at h
      cases hs : jstep e l st w with
      | none => simp only [hs] at h
      | some q =>
        obtain ⟨g, pc', l', st', w'⟩ := q
        simp only [hs] at h
        have key : g ∧ jgo n T pc' l' st' w' (fun pc l st w => jWp k pc l st c sl w Q) := by
          cases hn : jnog e.2.1 with
          | true => rw [hn] at h; exact ⟨jnog_ok hn hs, h⟩
          | false => rw [hn] at h; exact h
        obtain ⟨m, v, w2, h1, h2⟩ := jWp.blk hT n key.2
        refine ⟨m + 1, v, w2, ?_, h2⟩
        unfold jrun
        rw [hT]
        simp only [hf, hs]
        rw [if_pos key.1]
        exact h1
