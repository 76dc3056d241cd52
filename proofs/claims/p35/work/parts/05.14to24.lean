section
theorem jtb_big {k : Nat} (h : 221 ≤ k) : jtb k = [] := by
  have : Nat.blt k 221 = false := by
    rw [Bool.eq_false_iff]
    intro q
    have := Nat.blt_eq.mp q
    omega
  unfold jtb
  rw [this]
  rfl
theorem jrun_big {n k pc c sl : Nat} {l : jF} {st : List jV} {w : jS} {x} (h : jrun n k pc l st c sl w = some x) : k < 221 := by
  rcases Nat.lt_or_ge k 221 with q | q
  · exact q
  · exfalso
    cases n with
    | zero => cases h
    | succ n =>
      unfold jrun at h
      rw [jtb_big q] at h
      cases h
theorem jmt {below : List Frame} {Qc : Array Value → State → Outcome → State → Prop} {a : Array Value} {s : State} {mc ms mc' ms' : Nat} {free : Addr → Prop} (h1 : mc = mc') (h2 : ms = ms') : MQ below Qc a s mc ms free = MQ below Qc a s mc' ms' free := by rw [h1, h2]
theorem jret1 {k : Nat} (h : jrc k = 1) : jret k = some .int := by unfold jret; rw [h]; rfl
theorem jret2 {k : Nat} (h : jrc k = 2) : jret k = some .boolean := by unfold jret; rw [h]; rfl
theorem jret3 {k : Nat} (h : jrc k = 3) : jret k = some .long := by unfold jret; rw [h]; rfl
theorem jret0 {k : Nat} (h : jrc k = 0) : jret k = none := by unfold jret; rw [h]; rfl
theorem j_bool {x : Int} (h : b32 x = 0 ∨ b32 x = 1) : narrow .boolean (.int (Int32.ofInt x)) = .int (Int32.ofInt x) := by
  have h01 : Int32.ofInt x = 0 ∨ Int32.ofInt x = 1 := by
    rcases h with e | e
    · exact Or.inl ((j32_nz x).mpr e)
    · exact Or.inr (by rw [show (1 : Int32) = Int32.ofInt 1 from rfl, j32_eq, e]; decide)
  rcases h01 with e | e <;> rw [e] <;> decide
theorem jsound (l : Launch) (D : va_G) (cA : Nat → ClassId) (z0 ao : Nat) : ∀ n, jSnd l D cA z0 ao n
  | 0 => by
    intro k pc lc st cells slots w v w' hk h
    cases h
  | n + 1 => by
    intro k pc lc st cells slots w v w' hk h p ev R s m args below meth c H locs ls hC hG hS hz hcs hls
    have IH := jsound l D cA z0 ao n
    unfold jrun at h
    cases hf : jfind (jtb k) pc with
    | none => rw [hf] at h; cases h
    | some e =>
      rw [hf] at h
      obtain ⟨hmem, rfl⟩ := jfind_ok hf
      have hwf := jwf_at hk hmem
      cases hs : jstep e lc st w with
      | some q =>
        obtain ⟨g, pc', l', st', w2⟩ := q
        simp only [hs] at h
        by_cases hg : g
        · rw [if_pos hg] at h
          exact jstep_ok hC hG hS hz hcs hls hwf hs hg (fun H1 locs1 ls1 hG1 hS1 hz1 hl1 => IH k pc' l' st' cells slots w2 v w' hk h hC hG1 hS1 (hz1.trans hz) hcs hl1)
        · rw [if_neg hg] at h
          cases h
      | none =>
        simp only [hs] at h
        cases hc : jctl k e st cells slots w with
        | none => rw [hc] at h; cases h
        | some q =>
          obtain ⟨g, x⟩ := q
          simp only [hc] at h
          by_cases hg : g
          · rw [if_pos hg] at h
            have hC0 := hC
            obtain ⟨hx, hb, hml, hrt, hlocks, hown, -, hts, rfl, hK, -⟩ := hC
            obtain ⟨pc, ins, len, r1, r2, r3, z⟩ := e
            have hwf0 := hwf
            have fin : ∀ (v : Option jV) (t : State), t.heap = H → s.WarmedH t.vm → cells = jmc k → jQ D cA z0 ao v w (jmc k) args s (.returned (v.map jg)) t := fun v t ht hW hc => ⟨rfl, by rw [ht]; exact hG, jK.moved hW ht hS.2.1 hK, hS.F ht, by rw [ht, hz, hc]⟩
            cases ins <;> (try (simp only [jctl] at hc; cases hc; done))
            case ifCond cd off =>
              simp only [jwf, jlen, Bool.and_eq_true, decide_eq_true_eq, Nat.beq_eq] at hwf
              obtain ⟨⟨hd, rfl⟩, ht⟩ := hwf
              simp only [jctl] at hc
              rcases st with _ | ⟨x | x | r, st⟩ <;> (try (simp only at hc; cases hc; done))
              simp only [Option.some.injEq, Prod.mk.injEq] at hc
              obtain ⟨-, rfl⟩ := hc
              exact j_if hx hb hd ht (IH k _ lc st cells slots w v w' hk h hC0 hG hS hz hcs hls)
            case if_icmp cd off =>
              simp only [jwf, jlen, Bool.and_eq_true, decide_eq_true_eq, Nat.beq_eq] at hwf
              obtain ⟨⟨hd, rfl⟩, ht⟩ := hwf
              simp only [jctl] at hc
              rcases st with _ | ⟨y | y | r, _ | ⟨x | x | r, st⟩⟩ <;> (try (simp only at hc; cases hc; done))
              simp only [Option.some.injEq, Prod.mk.injEq] at hc
              obtain ⟨-, rfl⟩ := hc
              exact j_icmp hx hb hd ht (IH k _ lc st cells slots w v w' hk h hC0 hG hS hz hcs hls)
            case tableswitch d lo hi offs =>
              simp only [jctl] at hc
              rcases st with _ | ⟨x | x | r, st⟩ <;> (try (simp only at hc; cases hc; done))
              simp only [Option.some.injEq, Prod.mk.injEq] at hc
              obtain ⟨-, rfl⟩ := hc
              exact j_tsw hC0 hwf0 (IH k _ lc st cells slots w v w' hk h hC0 hG hS hz hcs hls)
            case lookupswitch d ps =>
              simp only [jctl] at hc
              rcases st with _ | ⟨x | x | r, st⟩ <;> (try (simp only at hc; cases hc; done))
              simp only [Option.some.injEq, Prod.mk.injEq] at hc
              obtain ⟨-, rfl⟩ := hc
              exact j_lsw hC0 hwf0 (IH k _ lc st cells slots w v w' hk h hC0 hG hS hz hcs hls)
            case ireturn =>
              simp only [jwf, jlen, Bool.and_eq_true, decide_eq_true_eq, Nat.beq_eq] at hwf
              obtain ⟨⟨hd, rfl⟩, -⟩ := hwf
              simp only [jctl] at hc
              rcases st with _ | ⟨x | x | r, _ | ⟨y, st⟩⟩ <;> (try (simp only at hc; cases hc; done))
              simp only [Option.some.injEq, Prod.mk.injEq] at hc
              obtain ⟨rfl, rfl⟩ := hc
              simp only [Option.some.injEq, Prod.mk.injEq] at h
              obtain ⟨rfl, rfl⟩ := h
              obtain ⟨⟨hc1, hs1⟩, hr⟩ := hg
              rw [jmt (mc := jmc k) (ms := jms k) (mc' := cells) (ms' := slots) hc1.symm hs1.symm]
              rcases hr with hr | ⟨hr, h01⟩
              · exact W.iret hx hb (hrt.trans (jret1 hr)) (fun t ht hW => fin _ t ht hW hc1) hS.2.2 hd
              · exact W.zret hx hb (hrt.trans (jret2 hr)) (j_bool h01) (fun t ht hW => fin _ t ht hW hc1) hS.2.2 hd
            case lreturn =>
              simp only [jwf, jlen, Bool.and_eq_true, decide_eq_true_eq, Nat.beq_eq] at hwf
              obtain ⟨⟨hd, rfl⟩, -⟩ := hwf
              simp only [jctl] at hc
              rcases st with _ | ⟨x | x | r, _ | ⟨y, st⟩⟩ <;> (try (simp only at hc; cases hc; done))
              simp only [Option.some.injEq, Prod.mk.injEq] at hc
              obtain ⟨rfl, rfl⟩ := hc
              simp only [Option.some.injEq, Prod.mk.injEq] at h
              obtain ⟨rfl, rfl⟩ := h
              obtain ⟨⟨hc1, hs1⟩, hr⟩ := hg
              rw [jmt (mc := jmc k) (ms := jms k) (mc' := cells) (ms' := slots) hc1.symm hs1.symm]
              exact W.lret hx hb (hrt.trans (jret3 hr)) (fun t ht hW => fin _ t ht hW hc1) hS.2.2 hd
            case return_ =>
              simp only [jwf, jlen, Bool.and_eq_true, decide_eq_true_eq, Nat.beq_eq] at hwf
              obtain ⟨⟨hd, rfl⟩, -⟩ := hwf
              simp only [jctl] at hc
              rcases st with _ | ⟨y, st⟩ <;> (try (simp only at hc; cases hc; done))
              simp only [Option.some.injEq, Prod.mk.injEq] at hc
              obtain ⟨rfl, rfl⟩ := hc
              simp only [Option.some.injEq, Prod.mk.injEq] at h
              obtain ⟨rfl, rfl⟩ := h
              obtain ⟨⟨hc1, hs1⟩, hr⟩ := hg
              rw [jmt (mc := jmc k) (ms := jms k) (mc' := cells) (ms' := slots) hc1.symm hs1.symm]
              exact W.vret hx hb (hrt.trans (jret0 hr)) (fun t ht hW => fin _ t ht hW hc1) hS.2.2 hd
            case invokevirtual i =>
              simp only [jwf, jlen, Bool.and_eq_true, decide_eq_true_eq, Nat.beq_eq, Bool.or_eq_true] at hwf
              obtain ⟨⟨hd, rfl⟩, hlk, hw⟩ := hwf
              simp only [jctl, jinv, cond_true] at hc
              cases htk : jtake (r2 + 1) [] st with
              | none => rw [htk] at hc; cases hc
              | some q =>
                obtain ⟨as, rest⟩ := q
                simp only [htk, Option.some.injEq, Prod.mk.injEq] at hc
                obtain ⟨rfl, rfl⟩ := hc
                obtain ⟨⟨g1, g2⟩, g3, g4, g5⟩ := hg
                dsimp only at h
                cases hr : jrun n r1 0 (jent (jmaxL r1) as) [] 0 0 w with
                | none => rw [hr] at h; cases h
                | some q =>
                  obtain ⟨v1, w1⟩ := q
                  simp only [hr] at h
                  have hk' : r1 < 221 := by simp only [jwcall, Bool.and_eq_true, Nat.blt_eq] at hw; exact hw.1.1.1.1
                  exact j_virt hC0 hG hS hz hls.1 hd hlk hw htk g1 g2 g4 (g5 trivial) (jmet IH hk' hr g3) (fun H1 locs1 hG1 hS1 hz1 => IH k _ lc _ _ _ w1 v w' hk h hC0 hG1 hS1 hz1 ⟨g1, g2⟩ hls)
            case invokespecial i =>
              simp only [jwf, jlen, Bool.and_eq_true, decide_eq_true_eq, Nat.beq_eq, Bool.or_eq_true, Nat.blt_eq] at hwf
              obtain ⟨⟨hd, rfl⟩, hlw⟩ := hwf
              simp only [jctl, jinv, cond_true] at hc
              cases htk : jtake (r2 + 1) [] st with
              | none => rw [htk] at hc; cases hc
              | some q =>
                obtain ⟨as, rest⟩ := q
                simp only [htk, Option.some.injEq, Prod.mk.injEq] at hc
                obtain ⟨rfl, rfl⟩ := hc
                obtain ⟨⟨g1, g2⟩, g3, g4, g5⟩ := hg
                dsimp only at h
                cases hr : jrun n r1 0 (jent (jmaxL r1) as) [] 0 0 w with
                | none => rw [hr] at h; cases h
                | some q =>
                  obtain ⟨v1, w1⟩ := q
                  simp only [hr] at h
                  rcases hlw with ⟨⟨-, hlk⟩, hw⟩ | ⟨rfl, -⟩
                  · have hk' : r1 < 221 := by simp only [jwcall, Bool.and_eq_true, Nat.blt_eq] at hw; exact hw.1.1.1.1
                    exact j_spec hC0 hG hS hz hls.1 hd hlk hw htk g1 g2 g4 (g5 trivial) (jmet IH hk' hr g3) (fun H1 locs1 hG1 hS1 hz1 => IH k _ lc _ _ _ w1 v w' hk h hC0 hG1 hS1 hz1 ⟨g1, g2⟩ hls)
                  · exact absurd (jrun_big hr) (by decide)
            case invokestatic i =>
              simp only [jwf, jlen, Bool.and_eq_true, decide_eq_true_eq, Nat.beq_eq, Bool.or_eq_true, Nat.blt_eq] at hwf
              obtain ⟨⟨hd, rfl⟩, hlw⟩ := hwf
              simp only [jctl, jinv, cond_false] at hc
              cases htk : jtake r2 [] st with
              | none => rw [htk] at hc; cases hc
              | some q =>
                obtain ⟨as, rest⟩ := q
                simp only [htk, Option.some.injEq, Prod.mk.injEq] at hc
                obtain ⟨rfl, rfl⟩ := hc
                obtain ⟨⟨g1, g2⟩, g3, g4, g5⟩ := hg
                dsimp only at h
                cases hr : jrun n r1 0 (jent (jmaxL r1) as) [] 0 0 w with
                | none => rw [hr] at h; cases h
                | some q =>
                  obtain ⟨v1, w1⟩ := q
                  simp only [hr] at h
                  rcases hlw with ⟨⟨-, hlk⟩, hw⟩ | ⟨hbig, -⟩
                  · have hk' : r1 < 221 := by simp only [jwcall, Bool.and_eq_true, Nat.blt_eq] at hw; exact hw.1.1.1.1
                    exact j_stat hC0 hG hS hz hls.1 hd hlk hw htk g1 g2 g4 (jmet IH hk' hr g3) (fun H1 locs1 hG1 hS1 hz1 => IH k _ lc _ _ _ w1 v w' hk h hC0 hG1 hS1 hz1 ⟨g1, g2⟩ hls)
                  · exact absurd (jrun_big hr) (by omega)
            case new i =>
              simp only [jctl, Option.some.injEq, Prod.mk.injEq] at hc
              obtain ⟨rfl, rfl⟩ := hc
              obtain ⟨g1, g2⟩ := hg
              exact j_new hC0 hG hS hz hwf0 g1 g2 (fun H1 hG1 hS1 hz1 => IH k _ lc _ _ _ _ v w' hk h hC0 hG1 hS1 hz1 ⟨g1, g2⟩ hls)
            case newarray t =>
              simp only [jctl] at hc
              rcases st with _ | ⟨x | x | r, st⟩ <;> (try (simp only at hc; cases hc; done))
              simp only [Option.some.injEq, Prod.mk.injEq] at hc
              obtain ⟨rfl, rfl⟩ := hc
              obtain ⟨g0, g1, g2⟩ := hg
              exact j_newa hC0 hG hS hz hwf0 g0 g1 g2 (fun H1 hG1 hS1 hz1 => IH k _ lc _ _ _ _ v w' hk h hC0 hG1 hS1 hz1 ⟨g1, g2⟩ hls)
            case anewarray i =>
              simp only [jctl] at hc
              rcases st with _ | ⟨x | x | r, st⟩ <;> (try (simp only at hc; cases hc; done))
              simp only [Option.some.injEq, Prod.mk.injEq] at hc
              obtain ⟨rfl, rfl⟩ := hc
              obtain ⟨g0, g1, g2⟩ := hg
              exact j_newq hC0 hG hS hz hwf0 g0 g1 g2 (fun H1 hG1 hS1 hz1 => IH k _ lc _ _ _ _ v w' hk h hC0 hG1 hS1 hz1 ⟨g1, g2⟩ hls)
            case multianewarray i d =>
              simp only [jctl] at hc
              rcases st with _ | ⟨y | y | r, _ | ⟨x | x | r, st⟩⟩ <;> (try (simp only at hc; cases hc; done))
              simp only [Option.some.injEq, Prod.mk.injEq] at hc
              obtain ⟨rfl, rfl⟩ := hc
              obtain ⟨g0, g1, g2⟩ := hg
              exact j_mna hC0 hG hS hz hwf0 g0 g1 g2 (fun H1 hG1 hS1 hz1 => IH k _ lc _ _ _ _ v w' hk h hC0 hG1 hS1 hz1 ⟨by omega, by omega⟩ hls)
          · rw [if_neg hg] at h
            cases h
end
section
/-! what the machine does, as a condition ahead of it -/
theorem jrun_mono : ∀ {n k pc : Nat} {l : jF} {st : List jV} {c sl : Nat} {w : jS} {x : Option jV × jS} {m : Nat}, jrun n k pc l st c sl w = some x → n ≤ m → jrun m k pc l st c sl w = some x
  | 0, _, _, _, _, _, _, _, _, _, h, _ => by cases h
  | n + 1, k, pc, l, st, c, sl, w, x, 0, _, hm => by omega
  | n + 1, k, pc, l, st, c, sl, w, x, m + 1, h, hm => by
    have hm : n ≤ m := by omega
    unfold jrun at h ⊢
    cases hf : jfind (jtb k) pc with
    | none => rw [hf] at h; cases h
    | some e =>
      rw [hf] at h
      cases hs : jstep e l st w with
      | some q =>
        obtain ⟨g, pc', l', st', w'⟩ := q
        simp only [hs] at h ⊢
        by_cases hg : g
        · rw [if_pos hg] at h ⊢
          exact jrun_mono h hm
        · rw [if_neg hg] at h
          cases h
      | none =>
        simp only [hs] at h ⊢
        cases hc : jctl k e st c sl w with
        | none => rw [hc] at h; cases h
        | some q =>
          obtain ⟨g, y⟩ := q
          simp only [hc] at h ⊢
          by_cases hg : g
          · rw [if_pos hg] at h ⊢
            rcases y with ⟨pc', st'⟩ | v | ⟨k', as, rest⟩ | ⟨st', c', sl', w'⟩
            · exact jrun_mono h hm
            · exact h
            · dsimp only at h ⊢
              cases hr : jrun n k' 0 (jent (jmaxL k') as) [] 0 0 w with
              | none => rw [hr] at h; cases h
              | some q =>
                obtain ⟨v, w'⟩ := q
                rw [jrun_mono hr hm]
                simp only [hr] at h
                exact jrun_mono h hm
            · exact jrun_mono h hm
          · rw [if_neg hg] at h
            cases h
def jWp (k pc : Nat) (l : jF) (st : List jV) (c sl : Nat) (w : jS) (Q : Option jV → jS → Prop) : Prop := ∃ (n : Nat) (v : Option jV) (w' : jS), jrun n k pc l st c sl w = some (v, w') ∧ Q v w'
/-- a call of a method: its arguments, the receiver first -/
def jCall (k : Nat) (as : List jV) (w : jS) (Q : Option jV → jS → Prop) : Prop := jWp k 0 (jent (jmaxL k) as) [] 0 0 w Q
theorem jWp.mono {k pc : Nat} {l : jF} {st : List jV} {c sl : Nat} {w : jS} {Q Q' : Option jV → jS → Prop} (h : jWp k pc l st c sl w Q) (hq : ∀ v w', Q v w' → Q' v w') : jWp k pc l st c sl w Q' := by
  obtain ⟨n, v, w', h1, h2⟩ := h
  exact ⟨n, v, w', h1, hq _ _ h2⟩
theorem jCall.mono {k : Nat} {as : List jV} {w : jS} {Q Q' : Option jV → jS → Prop} (h : jCall k as w Q) (hq : ∀ v w', Q v w' → Q' v w') : jCall k as w Q' := jWp.mono h hq
theorem jstep_ctl {e : jE} {k : Nat} {l : jF} {st : List jV} {c sl : Nat} {w : jS} {q} (h : jctl k e st c sl w = some q) (hb : e.2.2.2.1 < 1000 ∨ (∀ i, e.2.1 ≠ .invokestatic i) ∧ (∀ i, e.2.1 ≠ .invokespecial i)) : jstep e l st w = none := by
  obtain ⟨pc, ins, len, r1, r2, r3, z⟩ := e
  have hbui : r1 < 1000 → ∀ p, jbui r1 p l st w = none := by
    intro hr p
    cases hx : jbui r1 p l st w with
    | none => rfl
    | some y => have := jbui_lo hx; omega
  cases ins <;> first
    | (simp only [jctl] at h; cases h; done)
    | rfl
    | (rcases hb with hb | ⟨h1, h2⟩
       · exact hbui hb _
       · first | exact absurd rfl (h1 _) | exact absurd rfl (h2 _))
theorem jWp.of_ctl {k : Nat} {e : jE} {l : jF} {st : List jV} {c sl : Nat} {w : jS} {Q : Option jV → jS → Prop} {g : Prop} {y : jC} (hf : jfind (jtb k) e.1 = some e) (hs : jstep e l st w = none) (hc : jctl k e st c sl w = some (g, y)) (hg : g)
    (kk : match y with
      | .inl (pc', st') => jWp k pc' l st' c sl w Q
      | .inr (.inl v) => Q v w
      | .inr (.inr (.inl (k', as, rest))) => jCall k' as w (fun v w' => jWp k (e.1 + 3) l (v.toList ++ rest) (c + jmc k') (sl + jms k') w' Q)
      | .inr (.inr (.inr (st', c', sl', w'))) => jWp k (e.1 + e.2.2.1) l st' c' sl' w' Q) : jWp k e.1 l st c sl w Q := by
  rcases y with ⟨pc', st'⟩ | v | ⟨k', as, rest⟩ | ⟨st', c', sl', w'⟩
  · obtain ⟨n, v, w', h1, h2⟩ := kk
    refine ⟨n + 1, v, w', ?_, h2⟩
    unfold jrun
    simp only [hf, hs, hc]
    rw [if_pos hg]
    exact h1
  · refine ⟨1, v, w, ?_, kk⟩
    unfold jrun
    simp only [hf, hs, hc]
    rw [if_pos hg]
  · obtain ⟨n1, v1, w1, h1, n2, v2, w2, h2, h3⟩ := kk
    refine ⟨n1 + n2 + 1, v2, w2, ?_, h3⟩
    unfold jrun
    simp only [hf, hs, hc]
    rw [if_pos hg]
    rw [jrun_mono h1 (by omega)]
    exact jrun_mono h2 (by omega)
  · obtain ⟨n, v, w2, h1, h2⟩ := kk
    refine ⟨n + 1, v, w2, ?_, h2⟩
    unfold jrun
    simp only [hf, hs, hc]
    rw [if_pos hg]
    exact h1
/-- instructions that ask nothing -/
def jnog : Instr → Bool
  | .iload _ => true
  | .iload_n _ => true
  | .lload _ => true
  | .lload_n _ => true
  | .istore _ => true
  | .istore_n _ => true
  | .lstore _ => true
  | .lstore_n _ => true
  | .iconst _ => true
  | .bipush _ => true
  | .sipush _ => true
  | .lconst _ => true
  | .ldc _ => true
  | .ldc_w _ => true
  | .ldc2_w _ => true
  | .iadd => true
  | .isub => true
  | .imul => true
  | .iand => true
  | .ior => true
  | .ishl => true
  | .ladd => true
  | .lsub => true
  | .lmul => true
  | .ineg => true
  | .lneg => true
  | .i2l => true
  | .l2i => true
  | .lcmp => true
  | .iinc _ _ => true
  | .pop => true
  | .goto _ => true
  | .getstatic _ => true
  | _ => false
theorem jnog_ok {e : jE} {l : jF} {st : List jV} {w : jS} {g : Prop} {x} (hn : jnog e.2.1 = true) (h : jstep e l st w = some (g, x)) : g := by
  obtain ⟨pc, ins, len, r1, r2, r3, z⟩ := e
  cases ins <;> first
    | (cases hn; done)
    | (simp only [jstep, Option.some.injEq, Prod.mk.injEq] at h; rw [← h.1]; trivial)
    | (simp only [jstep] at h; unfold jldv at h; split at h <;> first | (cases h; done) | (simp only [Option.some.injEq, Prod.mk.injEq] at h; rw [← h.1]; trivial) | (rename_i e1; exact absurd e1 (by decide)) | simp_all)
    | (simp only [jstep] at h; unfold jstv at h; split at h <;> first | (cases h; done) | (simp only [Option.some.injEq, Prod.mk.injEq] at h; rw [← h.1]; trivial) | (rename_i e1; exact absurd e1 (by decide)) | simp_all)
    | (simp only [jstep, jbin, jbinL] at h; split at h <;> first | (cases h; done) | (simp only [Option.some.injEq, Prod.mk.injEq] at h; rw [← h.1]; trivial))
/-- so many steps, what they ask on the way, and what comes then -/
def jgo : Nat → List jE → Nat → jF → List jV → jS → (Nat → jF → List jV → jS → Prop) → Prop
  | 0, _, pc, l, st, w, K => K pc l st w
  | n + 1, T, pc, l, st, w, K =>
    match jfind T pc with
    | none => False
    | some e =>
      match jstep e l st w with
      | none => False
      | some (g, pc', l', st', w') => bif jnog e.2.1 then jgo n T pc' l' st' w' K else (g ∧ jgo n T pc' l' st' w' K)
theorem jWp.blk {k : Nat} {T : List jE} (hT : jtb k = T) {c sl : Nat} {Q : Option jV → jS → Prop} : ∀ (n : Nat) {pc : Nat} {l : jF} {st : List jV} {w : jS}, jgo n T pc l st w (fun pc l st w => jWp k pc l st c sl w Q) → jWp k pc l st c sl w Q
  | 0, pc, l, st, w, h => h
  | n + 1, pc, l, st, w, h => by
    unfold jgo at h
    cases hf : jfind T pc with
    | none => rw [hf] at h; cases h
    | some e =>
      rw [hf] at h
      cases hs : jstep e l st w with
      | none => simp only [hs] at h
      | some q =>
        obtain ⟨g, pc', l', st', w'⟩ := q
        simp only [hs] at h
        have key : g ∧ jgo n T pc' l' st' w' (fun pc l st w => jWp k pc l st c sl w Q) := by
          cases hn : jnog e.2.1 with
          | true => rw [hn] at h; exact ⟨jnog_ok hn hs, h⟩
          | false => rw [hn] at h; exact h
        obtain ⟨m, v, w2, h1, h2⟩ := jWp.blk hT n key.2
        refine ⟨m + 1, v, w2, ?_, h2⟩
        unfold jrun
        rw [hT]
        simp only [hf, hs]
        rw [if_pos key.1]
        exact h1
end
section
def jcP (c : Jvm.ClassFile.Cond) (x y : Int) : Prop := match c with
  | .eq => x = y
  | .ne => x ≠ y
  | .lt => x < y
  | .ge => y ≤ x
  | .gt => y < x
  | .le => x ≤ y
def jcn (c : Jvm.ClassFile.Cond) : Jvm.ClassFile.Cond := match c with
  | .eq => .ne
  | .ne => .eq
  | .lt => .ge
  | .ge => .lt
  | .gt => .le
  | .le => .gt
theorem jcP_t {c : Jvm.ClassFile.Cond} {x y : Int} (h : jcb c x y = true) : jcP c x y := by
  cases c <;> (simp only [jcb, decide_eq_true_eq] at h; exact h)
theorem jcP_f {c : Jvm.ClassFile.Cond} {x y : Int} (h : jcb c x y = false) : jcP (jcn c) x y := by
  cases c <;> (simp only [jcb, decide_eq_false_iff_not] at h; simp only [jcP, jcn]; omega)
abbrev jI (x : Int) : jV := .inl x
abbrev jJ (x : Int) : jV := .inr (.inl x)
abbrev jO (a : Nat) : jV := .inr (.inr (some a))
/-- a number written into a cell -/
abbrev jW (w : jS) (a k : Nat) (x : Int) : jS := (jup w.1 a k x, w.2)
section JRU
variable {k : Nat} {T : List jE} {pc pc' : Nat} {l : jF} {st : List jV} {c sl : Nat} {w : jS} {Q : Option jV → jS → Prop} {a o ix r1 r2 r3 n j : Nat} {z x y i : Int}
theorem jWp.one {e : jE} {g : Prop} {l' : jF} {st' : List jV} {w' : jS} (hT : jtb k = T) (hf : jfind T pc = some e) (hs : jstep e l st w = some (g, pc', l', st', w')) (hg : g) (kk : jWp k pc' l' st' c sl w' Q) : jWp k pc l st c sl w Q := by
  obtain ⟨m, v, w2, h1, h2⟩ := kk
  refine ⟨m + 1, v, w2, ?_, h2⟩
  unfold jrun
  rw [hT]
  simp only [hf, hs]
  rw [if_pos hg]
  exact h1
theorem jWp.getI (hT : jtb k = T) (hf : jfind T pc = some (pc, .getfield ix, 3, r1, r2, 0, z)) (hp : pc + 3 = pc') (hk : (w.2.1 a).1 = r1 + 1) (kk : jWp k pc' l (jI (w.1 a r2) :: st) c sl w Q) : jWp k pc l (jO a :: st) c sl w Q := by
  subst hp
  refine jWp.one hT hf rfl ?_ kk
  exact ⟨rfl, hk⟩
theorem jWp.getZ (hT : jtb k = T) (hf : jfind T pc = some (pc, .getfield ix, 3, r1, r2, 3, z)) (hp : pc + 3 = pc') (hk : (w.2.1 a).1 = r1 + 1) (kk : jWp k pc' l (jI (w.1 a r2) :: st) c sl w Q) : jWp k pc l (jO a :: st) c sl w Q := by
  subst hp
  refine jWp.one hT hf rfl ?_ kk
  exact ⟨rfl, hk⟩
theorem jWp.getJ (hT : jtb k = T) (hf : jfind T pc = some (pc, .getfield ix, 3, r1, r2, 1, z)) (hp : pc + 3 = pc') (hk : (w.2.1 a).1 = r1 + 1) (kk : jWp k pc' l (jJ (w.1 a r2) :: st) c sl w Q) : jWp k pc l (jO a :: st) c sl w Q := by
  subst hp
  refine jWp.one hT hf rfl ?_ kk
  exact ⟨rfl, hk⟩
theorem jWp.getR (hT : jtb k = T) (hf : jfind T pc = some (pc, .getfield ix, 3, r1, r2, 2, z)) (hp : pc + 3 = pc') (hk : (w.2.1 a).1 = r1 + 1) (hr : w.2.2.1 a r2 = some o) (kk : jWp k pc' l (jO o :: st) c sl w Q) : jWp k pc l (jO a :: st) c sl w Q := by
  subst hp
  have kk2 : jWp k (pc + 3) l (.inr (.inr (w.2.2.1 a r2)) :: st) c sl w Q := by rw [hr]; exact kk
  refine jWp.one hT hf rfl ?_ kk2
  exact ⟨rfl, hk⟩
theorem jWp.putI (hT : jtb k = T) (hf : jfind T pc = some (pc, .putfield ix, 3, r1, r2, 0, z)) (hp : pc + 3 = pc') (hk : (w.2.1 a).1 = r1 + 1) (kk : jWp k pc' l st c sl (jW w a r2 x) Q) : jWp k pc l (jI x :: jO a :: st) c sl w Q := by
  subst hp
  refine jWp.one hT hf rfl ?_ kk
  exact ⟨hk, rfl⟩
theorem jWp.putZ (hT : jtb k = T) (hf : jfind T pc = some (pc, .putfield ix, 3, r1, r2, 3, z)) (hp : pc + 3 = pc') (hk : (w.2.1 a).1 = r1 + 1) (hx : b32 x = 0 ∨ b32 x = 1) (kk : jWp k pc' l st c sl (jW w a r2 x) Q) : jWp k pc l (jI x :: jO a :: st) c sl w Q := by
  subst hp
  refine jWp.one hT hf rfl ?_ kk
  exact ⟨hk, rfl, hx⟩
theorem jWp.putJ (hT : jtb k = T) (hf : jfind T pc = some (pc, .putfield ix, 3, r1, r2, 1, z)) (hp : pc + 3 = pc') (hk : (w.2.1 a).1 = r1 + 1) (kk : jWp k pc' l st c sl (jW w a r2 x) Q) : jWp k pc l (jJ x :: jO a :: st) c sl w Q := by
  subst hp
  refine jWp.one hT hf rfl ?_ kk
  exact ⟨hk, rfl⟩
theorem jWp.iald (hT : jtb k = T) (hf : jfind T pc = some (pc, .iaload, 1, r1, r2, r3, z)) (hp : pc + 1 = pc') (hk : jird (w.2.1 a)) (hi : b32 i = (j : Int)) (hj : j < (w.2.1 a).2) (kk : jWp k pc' l (jI (w.1 a j) :: st) c sl w Q) : jWp k pc l (jI i :: jO a :: st) c sl w Q := by
  subst hp
  have kk2 : jWp k (pc + 1) l (jI (w.1 a (b32 i).toNat) :: st) c sl w Q := by rw [hi]; exact kk
  refine jWp.one hT hf rfl ?_ kk2
  exact ⟨rfl, hk, by rw [hi]; omega, by rw [hi]; exact Int.ofNat_lt.mpr hj⟩
theorem jWp.lald (hT : jtb k = T) (hf : jfind T pc = some (pc, .laload, 1, r1, r2, r3, z)) (hp : pc + 1 = pc') (hk : (w.2.1 a).1 = 101) (hi : b32 i = (j : Int)) (hj : j < (w.2.1 a).2) (kk : jWp k pc' l (jJ (w.1 a j) :: st) c sl w Q) : jWp k pc l (jI i :: jO a :: st) c sl w Q := by
  subst hp
  have kk2 : jWp k (pc + 1) l (jJ (w.1 a (b32 i).toNat) :: st) c sl w Q := by rw [hi]; exact kk
  refine jWp.one hT hf rfl ?_ kk2
  exact ⟨rfl, hk, by rw [hi]; omega, by rw [hi]; exact Int.ofNat_lt.mpr hj⟩
theorem jWp.aald (hT : jtb k = T) (hf : jfind T pc = some (pc, .aaload, 1, r1, r2, r3, z)) (hp : pc + 1 = pc') (hk : 102 ≤ (w.2.1 a).1 ∧ (w.2.1 a).1 ≤ 105) (hi : b32 i = (j : Int)) (hj : j < (w.2.1 a).2) (hr : w.2.2.1 a j = some o) (kk : jWp k pc' l (jO o :: st) c sl w Q) : jWp k pc l (jI i :: jO a :: st) c sl w Q := by
  subst hp
  have kk2 : jWp k (pc + 1) l (.inr (.inr (w.2.2.1 a (b32 i).toNat)) :: st) c sl w Q := by rw [hi, show ((j : Int)).toNat = j from rfl, hr]; exact kk
  refine jWp.one hT hf rfl ?_ kk2
  exact ⟨rfl, hk, by rw [hi]; omega, by rw [hi]; exact Int.ofNat_lt.mpr hj⟩
theorem jWp.iast (hT : jtb k = T) (hf : jfind T pc = some (pc, .iastore, 1, r1, r2, r3, z)) (hp : pc + 1 = pc') (hk : (w.2.1 a).1 = 100) (hi : b32 i = (j : Int)) (hj : j < (w.2.1 a).2) (kk : jWp k pc' l st c sl (jW w a j x) Q) : jWp k pc l (jI x :: jI i :: jO a :: st) c sl w Q := by
  subst hp
  have kk2 : jWp k (pc + 1) l st c sl (jW w a (b32 i).toNat x) Q := by rw [hi]; exact kk
  refine jWp.one hT hf rfl ?_ kk2
  exact ⟨rfl, hk, by rw [hi]; omega, by rw [hi]; exact Int.ofNat_lt.mpr hj⟩
theorem jWp.last (hT : jtb k = T) (hf : jfind T pc = some (pc, .lastore, 1, r1, r2, r3, z)) (hp : pc + 1 = pc') (hk : (w.2.1 a).1 = 101) (hi : b32 i = (j : Int)) (hj : j < (w.2.1 a).2) (kk : jWp k pc' l st c sl (jW w a j x) Q) : jWp k pc l (jJ x :: jI i :: jO a :: st) c sl w Q := by
  subst hp
  have kk2 : jWp k (pc + 1) l st c sl (jW w a (b32 i).toNat x) Q := by rw [hi]; exact kk
  refine jWp.one hT hf rfl ?_ kk2
  exact ⟨rfl, hk, by rw [hi]; omega, by rw [hi]; exact Int.ofNat_lt.mpr hj⟩
theorem jWp.alen (hT : jtb k = T) (hf : jfind T pc = some (pc, .arraylength, 1, r1, r2, r3, z)) (hp : pc + 1 = pc') (hk : jird (w.2.1 a)) (hn : (w.2.1 a).2 = n) (kk : jWp k pc' l (jI (n : Int) :: st) c sl w Q) : jWp k pc l (jO a :: st) c sl w Q := by
  subst hn
  subst hp
  refine jWp.one hT hf rfl ?_ kk
  exact ⟨rfl, hk⟩
theorem jWp.of_jmp {e : jE} {g : Prop} {st' : List jV} (hT : jtb k = T) (hf : jfind T e.1 = some e) (hs : jstep e l st w = none) (hc : jctl k e st c sl w = some (g, .inl (pc', st'))) (hg : g) (kk : jWp k pc' l st' c sl w Q) : jWp k e.1 l st c sl w Q := by
  subst hT
  exact jWp.of_ctl hf hs hc hg kk
theorem jWp.of_ret {e : jE} {g : Prop} {v : Option jV} (hT : jtb k = T) (hf : jfind T e.1 = some e) (hs : jstep e l st w = none) (hc : jctl k e st c sl w = some (g, .inr (.inl v))) (hg : g) (kk : Q v w) : jWp k e.1 l st c sl w Q := by
  subst hT
  exact jWp.of_ctl hf hs hc hg kk
theorem jWp.of_call {e : jE} {g : Prop} {k' : Nat} {as rest : List jV} (hT : jtb k = T) (hf : jfind T e.1 = some e) (hs : jstep e l st w = none) (hc : jctl k e st c sl w = some (g, .inr (.inr (.inl (k', as, rest))))) (hg : g) (kk : jCall k' as w (fun v w' => jWp k (e.1 + 3) l (v.toList ++ rest) (c + jmc k') (sl + jms k') w' Q)) : jWp k e.1 l st c sl w Q := by
  subst hT
  exact jWp.of_ctl hf hs hc hg kk
theorem jWp.of_new {e : jE} {g : Prop} {st' : List jV} {c' sl' : Nat} {w' : jS} (hT : jtb k = T) (hf : jfind T e.1 = some e) (hs : jstep e l st w = none) (hc : jctl k e st c sl w = some (g, .inr (.inr (.inr (st', c', sl', w'))))) (hg : g) (kk : jWp k (e.1 + e.2.2.1) l st' c' sl' w' Q) : jWp k e.1 l st c sl w Q := by
  subst hT
  exact jWp.of_ctl hf hs hc hg kk
theorem jWp.ifz {cd : Jvm.ClassFile.Cond} {off : Int} {x' : Int} (hT : jtb k = T) (hf : jfind T pc = some (pc, .ifCond cd off, 3, r1, r2, r3, z)) (hp : pc + 3 = pc') (hx : b32 x = x') (h1 : jcP cd x' 0 → jWp k r1 l st c sl w Q) (h2 : jcP (jcn cd) x' 0 → jWp k pc' l st c sl w Q) : jWp k pc l (jI x :: st) c sl w Q := by
  subst hp
  subst hx
  have kk : jWp k (bif jcb cd (b32 x) 0 then r1 else pc + 3) l st c sl w Q := by
    cases hc : jcb cd (b32 x) 0 with
    | true => exact h1 (jcP_t hc)
    | false => exact h2 (jcP_f hc)
  exact jWp.of_jmp (e := (pc, .ifCond cd off, 3, r1, r2, r3, z)) hT hf rfl rfl trivial kk
theorem jWp.icmp {cd : Jvm.ClassFile.Cond} {off : Int} {x' y' : Int} (hT : jtb k = T) (hf : jfind T pc = some (pc, .if_icmp cd off, 3, r1, r2, r3, z)) (hp : pc + 3 = pc') (hx : b32 x = x') (hy : b32 y = y') (h1 : jcP cd x' y' → jWp k r1 l st c sl w Q) (h2 : jcP (jcn cd) x' y' → jWp k pc' l st c sl w Q) : jWp k pc l (jI y :: jI x :: st) c sl w Q := by
  subst hp
  subst hx
  subst hy
  have kk : jWp k (bif jcb cd (b32 x) (b32 y) then r1 else pc + 3) l st c sl w Q := by
    cases hc : jcb cd (b32 x) (b32 y) with
    | true => exact h1 (jcP_t hc)
    | false => exact h2 (jcP_f hc)
  exact jWp.of_jmp (e := (pc, .if_icmp cd off, 3, r1, r2, r3, z)) hT hf rfl rfl trivial kk
/-- a comparison of longs, and the jump behind it -/
theorem jlc_cmp (cd : Jvm.ClassFile.Cond) (x y : Int) : jcb cd (b32 (jlc x y)) 0 = jcb cd x y := by
  have e1 : b32 1 = 1 := by decide
  have e2 : b32 0 = 0 := by decide
  have e3 : b32 (-1) = -1 := by decide
  unfold jlc
  by_cases h1 : y < x
  · rw [if_pos h1, e1]
    cases cd <;> simp [jcb] <;> omega
  · rw [if_neg h1]
    by_cases h2 : x = y
    · rw [if_pos h2, e2]
      cases cd <;> simp [jcb] <;> omega
    · rw [if_neg h2, e3]
      cases cd <;> simp [jcb] <;> omega
theorem jWp.lcmp {cd : Jvm.ClassFile.Cond} {off : Int} {x' y' : Int} {q1 q2 q3 : Nat} {zz : Int} (hT : jtb k = T) (hf : jfind T pc = some (pc, .lcmp, 1, q1, q2, q3, zz)) (hf2 : jfind T (pc + 1) = some (pc + 1, .ifCond cd off, 3, r1, r2, r3, z)) (hp : pc + 4 = pc') (hx : b64 x = x') (hy : b64 y = y') (h1 : jcP cd x' y' → jWp k r1 l st c sl w Q) (h2 : jcP (jcn cd) x' y' → jWp k pc' l st c sl w Q) : jWp k pc l (jJ y :: jJ x :: st) c sl w Q := by
  subst hx
  subst hy
  refine jWp.one (pc' := pc + 1) hT hf rfl trivial ?_
  subst hp
  have kk : jWp k (bif jcb cd (b32 (jlc (b64 x) (b64 y))) 0 then r1 else pc + 1 + 3) l st c sl w Q := by
    rw [jlc_cmp]
    cases hc : jcb cd (b64 x) (b64 y) with
    | true => exact h1 (jcP_t hc)
    | false => exact h2 (jcP_f hc)
  exact jWp.of_jmp (e := (pc + 1, .ifCond cd off, 3, r1, r2, r3, z)) hT hf2 rfl rfl trivial kk
theorem jWp.sw {ins : Instr} {len : Nat} {x' : Int} (hT : jtb k = T) (hf : jfind T pc = some (pc, ins, len, r1, r2, r3, z)) (hi : (∃ a b c d, ins = .tableswitch a b c d) ∨ ∃ a b, ins = .lookupswitch a b) (hx : b32 x = x') (kk : jWp k (jsw (jswt r1).1 (jswt r1).2 x') l st c sl w Q) : jWp k pc l (jI x :: st) c sl w Q := by
  subst hx
  rcases hi with ⟨a1, a2, a3, a4, rfl⟩ | ⟨a1, a2, rfl⟩
  · exact jWp.of_jmp (e := (pc, .tableswitch a1 a2 a3 a4, len, r1, r2, r3, z)) hT hf rfl rfl trivial kk
  · exact jWp.of_jmp (e := (pc, .lookupswitch a1 a2, len, r1, r2, r3, z)) hT hf rfl rfl trivial kk
theorem jWp.ireti (hT : jtb k = T) (hf : jfind T pc = some (pc, .ireturn, 1, r1, r2, r3, z)) (hm : c = jmc k ∧ sl = jms k) (hr : jrc k = 1) (kk : Q (some (jI x)) w) : jWp k pc l [jI x] c sl w Q := by
  refine jWp.of_ret (e := (pc, .ireturn, 1, r1, r2, r3, z)) hT hf rfl rfl ?_ kk
  exact ⟨hm, Or.inl hr⟩
theorem jWp.iretz (hT : jtb k = T) (hf : jfind T pc = some (pc, .ireturn, 1, r1, r2, r3, z)) (hm : c = jmc k ∧ sl = jms k) (hr : jrc k = 2) (hx : x = 0 ∨ x = 1) (kk : Q (some (jI x)) w) : jWp k pc l [jI x] c sl w Q := by
  refine jWp.of_ret (e := (pc, .ireturn, 1, r1, r2, r3, z)) hT hf rfl rfl ?_ kk
  refine ⟨hm, Or.inr ⟨hr, ?_⟩⟩
  rcases hx with rfl | rfl
  · exact Or.inl (by decide)
  · exact Or.inr (by decide)
theorem jWp.lret (hT : jtb k = T) (hf : jfind T pc = some (pc, .lreturn, 1, r1, r2, r3, z)) (hm : c = jmc k ∧ sl = jms k) (hr : jrc k = 3) (kk : Q (some (jJ x)) w) : jWp k pc l [jJ x] c sl w Q := by
  refine jWp.of_ret (e := (pc, .lreturn, 1, r1, r2, r3, z)) hT hf rfl rfl ?_ kk
  exact ⟨hm, hr⟩
theorem jWp.vret (hT : jtb k = T) (hf : jfind T pc = some (pc, .return_, 1, r1, r2, r3, z)) (hm : c = jmc k ∧ sl = jms k) (hr : jrc k = 0) (kk : Q none w) : jWp k pc l [] c sl w Q := by
  refine jWp.of_ret (e := (pc, .return_, 1, r1, r2, r3, z)) hT hf rfl rfl ?_ kk
  exact ⟨hm, hr⟩
theorem jWp.callv {as rest : List jV} (hT : jtb k = T) (hf : jfind T pc = some (pc, .invokevirtual ix, 3, r1, r2, r3, z)) (ht : jtake (r2 + 1) [] st = some (as, rest)) (hg : (Nat.ble (c + jmc r1) (jmc k) && Nat.ble (sl + jms r1) (jms k) && Nat.ble (jlay as).length (jmaxL r1) && Nat.ble (jcats rest) 8) = true) (hr : jrecv r1 as w) (kk : jCall r1 as w (fun v w' => jWp k (pc + 3) l (v.toList ++ rest) (c + jmc r1) (sl + jms r1) w' Q)) : jWp k pc l st c sl w Q := by
  simp only [Bool.and_eq_true, Nat.ble_eq] at hg
  have hc : jctl k (pc, .invokevirtual ix, 3, r1, r2, r3, z) st c sl w = some ((c + jmc r1 ≤ jmc k ∧ sl + jms r1 ≤ jms k) ∧ (jlay as).length ≤ jmaxL r1 ∧ jcats rest ≤ 8 ∧ (true = true → jrecv r1 as w), .inr (.inr (.inl (r1, as, rest)))) := by
    show jinv true k _ st c sl w = _
    unfold jinv
    dsimp only [cond_true]
    rw [ht]
  refine jWp.of_call (e := (pc, .invokevirtual ix, 3, r1, r2, r3, z)) hT hf rfl hc ?_ kk
  exact ⟨⟨hg.1.1.1, hg.1.1.2⟩, hg.1.2, hg.2, fun _ => hr⟩
theorem jWp.calls {as rest : List jV} (hT : jtb k = T) (hf : jfind T pc = some (pc, .invokestatic ix, 3, r1, r2, r3, z)) (h1 : Nat.blt r1 1000 = true) (ht : jtake r2 [] st = some (as, rest)) (hg : (Nat.ble (c + jmc r1) (jmc k) && Nat.ble (sl + jms r1) (jms k) && Nat.ble (jlay as).length (jmaxL r1) && Nat.ble (jcats rest) 8) = true) (kk : jCall r1 as w (fun v w' => jWp k (pc + 3) l (v.toList ++ rest) (c + jmc r1) (sl + jms r1) w' Q)) : jWp k pc l st c sl w Q := by
  simp only [Bool.and_eq_true, Nat.ble_eq] at hg
  have hc : jctl k (pc, .invokestatic ix, 3, r1, r2, r3, z) st c sl w = some ((c + jmc r1 ≤ jmc k ∧ sl + jms r1 ≤ jms k) ∧ (jlay as).length ≤ jmaxL r1 ∧ jcats rest ≤ 8 ∧ (false = true → jrecv r1 as w), .inr (.inr (.inl (r1, as, rest)))) := by
    show jinv false k _ st c sl w = _
    unfold jinv
    dsimp only [cond_false]
    rw [ht]
  refine jWp.of_call (e := (pc, .invokestatic ix, 3, r1, r2, r3, z)) hT hf (jstep_ctl hc (Or.inl (Nat.blt_eq.mp h1))) hc ?_ kk
  exact ⟨⟨hg.1.1.1, hg.1.1.2⟩, hg.1.2, hg.2, fun h => by cases h⟩
theorem jWp.calli {as rest : List jV} (hT : jtb k = T) (hf : jfind T pc = some (pc, .invokespecial ix, 3, r1, r2, r3, z)) (h1 : Nat.blt r1 1000 = true) (ht : jtake (r2 + 1) [] st = some (as, rest)) (hg : (Nat.ble (c + jmc r1) (jmc k) && Nat.ble (sl + jms r1) (jms k) && Nat.ble (jlay as).length (jmaxL r1) && Nat.ble (jcats rest) 8) = true) (hr : jrecv r1 as w) (kk : jCall r1 as w (fun v w' => jWp k (pc + 3) l (v.toList ++ rest) (c + jmc r1) (sl + jms r1) w' Q)) : jWp k pc l st c sl w Q := by
  simp only [Bool.and_eq_true, Nat.ble_eq] at hg
  have hc : jctl k (pc, .invokespecial ix, 3, r1, r2, r3, z) st c sl w = some ((c + jmc r1 ≤ jmc k ∧ sl + jms r1 ≤ jms k) ∧ (jlay as).length ≤ jmaxL r1 ∧ jcats rest ≤ 8 ∧ (true = true → jrecv r1 as w), .inr (.inr (.inl (r1, as, rest)))) := by
    show jinv true k _ st c sl w = _
    unfold jinv
    dsimp only [cond_true]
    rw [ht]
  refine jWp.of_call (e := (pc, .invokespecial ix, 3, r1, r2, r3, z)) hT hf (jstep_ctl hc (Or.inl (Nat.blt_eq.mp h1))) hc ?_ kk
  exact ⟨⟨hg.1.1.1, hg.1.1.2⟩, hg.1.2, hg.2, fun _ => hr⟩
/-- fewer known locals are enough -/
def jle : jF → jF → Prop
  | [], [] => True
  | none :: r, _ :: r' => jle r r'
  | some a :: r, some b :: r' => a = b ∧ jle r r'
  | _, _ => False
end JRU
end
section
theorem jget_le : ∀ {l l' : jF} {i : Nat} {v : jV}, jle l l' → jget l i = some v → jget l' i = some v
  | [], _, _, _, _, h => by simp [jget] at h
  | none :: r, [], _, _, hl, _ => by cases hl
  | some a :: r, [], _, _, hl, _ => by cases hl
  | none :: r, x :: r', 0, v, _, h => by simp [jget] at h
  | none :: r, x :: r', i + 1, v, hl, h => jget_le (l := r) (l' := r') hl h
  | some a :: r, none :: r', _, _, hl, _ => by cases hl
  | some a :: r, some b :: r', 0, v, hl, h => by
    have := hl.1
    subst this
    exact h
  | some a :: r, some b :: r', i + 1, v, hl, h => jget_le (l := r) (l' := r') hl.2 h
theorem jlong_le {x y : Option jV} {r r' : jF} (h : jle (x :: r) (y :: r')) : jle r r' ∧ (x = none ∨ x = y) := by
  cases x with
  | none => exact ⟨h, Or.inl rfl⟩
  | some a => cases y with
    | none => cases h
    | some b => exact ⟨h.2, Or.inr (by rw [h.1])⟩
theorem jle_cons {x y : Option jV} {r r' : jF} (h : jle r r') (hx : x = none ∨ x = y) : jle (x :: r) (y :: r') := by
  rcases hx with rfl | rfl
  · exact h
  · cases x with
    | none => exact h
    | some a => exact ⟨rfl, h⟩
theorem jset_le {v : jV} : ∀ {i : Nat} {l l' : jF}, jle l l' → jle (jset v i l) (jset v i l')
  | i, [], l', h => by
    cases l' with
    | nil => cases i <;> exact trivial
    | cons => cases h
  | i, x :: r, [], h => by cases x <;> cases h
  | 0, x :: r, y :: r', h => by
    obtain ⟨h1, -⟩ := jlong_le h
    unfold jset
    refine jle_cons ?_ (Or.inr rfl)
    cases jlong (some v) with
    | false => exact h1
    | true =>
      show jle (jcut r) (jcut r')
      cases r with
      | nil => cases r' with
        | nil => exact trivial
        | cons => cases h1
      | cons a r => cases r' with
        | nil => cases a <;> cases h1
        | cons b r' => exact jle_cons (jlong_le h1).1 (Or.inl rfl)
  | 1, x :: r, y :: r', h => by
    obtain ⟨h1, h2⟩ := jlong_le h
    unfold jset
    refine jle_cons (jset_le h1) ?_
    rcases h2 with rfl | rfl
    · exact Or.inl (by cases hb : jlong none <;> rfl)
    · exact Or.inr rfl
  | i + 2, x :: r, y :: r', h => by
    obtain ⟨h1, h2⟩ := jlong_le h
    unfold jset
    exact jle_cons (jset_le h1) h2
theorem jput_l {t k p : Nat} {l : jF} {st : List jV} {w : jS} : jput t k p l st w = (jput t k p [] st w).map (fun x => (x.1, x.2.1, l, x.2.2.2)) := by
  rcases t with _ | _ | _ | _ | t <;> rcases st with _ | ⟨x | x | x, _ | ⟨y | y | y, st⟩⟩ <;> rfl
theorem jstep_le {e : jE} {l l' : jF} {st st1 : List jV} {w w1 : jS} {g : Prop} {pc1 : Nat} {l1 : jF} (hl : jle l l') (h : jstep e l st w = some (g, pc1, l1, st1, w1)) : ∃ l1', jstep e l' st w = some (g, pc1, l1', st1, w1) ∧ jle l1 l1' := by
  obtain ⟨pc, ins, len, r1, r2, r3, z⟩ := e
  have ld : ∀ (t i p : Nat), jldv t (jget l i) p l st w = some (g, pc1, l1, st1, w1) → ∃ l1', jldv t (jget l' i) p l' st w = some (g, pc1, l1', st1, w1) ∧ jle l1 l1' := by
    intro t i p h
    cases hv : jget l i with
    | none => rw [hv] at h; unfold jldv at h; split at h <;> simp_all
    | some v =>
      rw [jget_le hl hv]
      rw [hv] at h
      refine ⟨l', ?_, ?_⟩
      · unfold jldv at h ⊢; split at h <;> simp_all
      · unfold jldv at h; split at h <;> simp_all
  have sv : ∀ (t i p : Nat), jstv t i p l st w = some (g, pc1, l1, st1, w1) → ∃ l1', jstv t i p l' st w = some (g, pc1, l1', st1, w1) ∧ jle l1 l1' := by
    intro t i p h
    unfold jstv at h
    split at h <;> first
      | (cases h; done)
      | (simp only [Option.some.injEq, Prod.mk.injEq] at h
         obtain ⟨rfl, rfl, rfl, rfl, rfl⟩ := h
         exact ⟨_, rfl, jset_le hl⟩)
  have same : ∀ {f : jF → jR}, (∀ x y, f x = none → f y = none) → True := fun _ => trivial
  cases ins <;> first
    | exact ld _ _ _ h
    | exact sv _ _ _ h
    | (simp only [jstep] at h; cases h; done)
    | (simp only [jstep, Option.some.injEq, Prod.mk.injEq] at h
       obtain ⟨rfl, rfl, rfl, rfl, rfl⟩ := h
       exact ⟨l', rfl, hl⟩)
    | (simp only [jstep, jbin, jbinL] at h ⊢
       split at h <;> first
         | (cases h; done)
         | (simp only [Option.some.injEq, Prod.mk.injEq] at h
            obtain ⟨rfl, rfl, rfl, rfl, rfl⟩ := h
            exact ⟨l', rfl, hl⟩))
    | (simp only [jstep, jbui] at h ⊢
       split at h <;> first
         | (cases h; done)
         | (simp only [Option.some.injEq, Prod.mk.injEq] at h
            obtain ⟨rfl, rfl, rfl, rfl, rfl⟩ := h
            exact ⟨l', rfl, hl⟩))
    | skip
  case iinc i n =>
    simp only [jstep] at h ⊢
    cases hv : jget l i with
    | none => rw [hv] at h; cases h
    | some v =>
      rw [jget_le hl hv]
      rw [hv] at h
      rcases v with x | x | x <;> simp only at h ⊢ <;> first
        | (cases h; done)
        | (simp only [Option.some.injEq, Prod.mk.injEq] at h
           obtain ⟨rfl, rfl, rfl, rfl, rfl⟩ := h
           exact ⟨_, rfl, jset_le hl⟩)
  case putfield i =>
    simp only [jstep] at h ⊢
    rcases st with _ | ⟨x, _ | ⟨y | y | y, st⟩⟩ <;> simp only at h ⊢ <;> (try (cases h; done))
    rw [jput_l] at h
    rw [jput_l]
    cases hj : jput r3 r2 (pc + len) [] (x :: .inr (.inr y) :: st) w with
    | none => rw [hj] at h; cases h
    | some q =>
      obtain ⟨q1, q2, q3, q4, q5⟩ := q
      rw [hj] at h
      simp only [Option.map_some, Option.some.injEq, Prod.mk.injEq] at h ⊢
      obtain ⟨rfl, rfl, rfl, rfl, rfl⟩ := h
      exact ⟨l', ⟨rfl, rfl, rfl, rfl, rfl⟩, hl⟩
theorem jstep_le0 {e : jE} {l l' : jF} {st : List jV} {c sl k : Nat} {w : jS} {q} (hs : jstep e l st w = none) (hc : jctl k e st c sl w = some q) : jstep e l' st w = none := by
  obtain ⟨pc, ins, len, r1, r2, r3, z⟩ := e
  have hb : ∀ p, jbui r1 p l st w = none → jbui r1 p l' st w = none := by
    intro p h
    unfold jbui at h ⊢
    split at h <;> first | (cases h; done) | rfl
  cases ins <;> first
    | (simp only [jctl] at hc; cases hc; done)
    | rfl
    | exact hb _ hs
theorem jrun_le : ∀ {n k pc : Nat} {l l' : jF} {st : List jV} {c sl : Nat} {w : jS} {x : Option jV × jS}, jle l l' → jrun n k pc l st c sl w = some x → jrun n k pc l' st c sl w = some x
  | 0, _, _, _, _, _, _, _, _, _, _, h => by cases h
  | n + 1, k, pc, l, l', st, c, sl, w, x, hl, h => by
    unfold jrun at h ⊢
    cases hf : jfind (jtb k) pc with
    | none => rw [hf] at h; cases h
    | some e =>
      rw [hf] at h
      cases hs : jstep e l st w with
      | some q =>
        obtain ⟨g, pc', l1, st', w'⟩ := q
        obtain ⟨l1', h1, h2⟩ := jstep_le hl hs
        simp only [hs] at h
        simp only [h1]
        by_cases hg : g
        · rw [if_pos hg] at h ⊢
          exact jrun_le h2 h
        · rw [if_neg hg] at h
          cases h
      | none =>
        simp only [hs] at h
        cases hc : jctl k e st c sl w with
        | none => rw [hc] at h; cases h
        | some q =>
          simp only [jstep_le0 (l' := l') hs hc]
          obtain ⟨g, y⟩ := q
          simp only [hc] at h ⊢
          by_cases hg : g
          · rw [if_pos hg] at h ⊢
            rcases y with ⟨pc', st'⟩ | v | ⟨k', as, rest⟩ | ⟨st', c', sl', w'⟩
            · exact jrun_le hl h
            · exact h
            · dsimp only at h ⊢
              cases hr : jrun n k' 0 (jent (jmaxL k') as) [] 0 0 w with
              | none => rw [hr] at h; cases h
              | some q =>
                obtain ⟨v, w'⟩ := q
                simp only [hr] at h ⊢
                exact jrun_le hl h
            · exact jrun_le hl h
          · rw [if_neg hg] at h
            cases h
theorem jWp.le {k pc : Nat} {l l' : jF} {st : List jV} {c sl : Nat} {w : jS} {Q : Option jV → jS → Prop} (hl : jle l l') (h : jWp k pc l st c sl w Q) : jWp k pc l' st c sl w Q := by
  obtain ⟨n, v, w', h1, h2⟩ := h
  exact ⟨n, v, w', jrun_le hl h1, h2⟩
def jabs (x : Int) : Int := if 0 ≤ x then x else 0 - x
def jmx (x y : Int) : Int := if x < y then y else x
theorem jlt {p : Nat × Nat} {t n j : Nat} (h : p = (t, n)) (hj : j < n) : j < p.2 := by rw [h]; exact hj
theorem jtg {p : Nat × Nat} {t n : Nat} (h : p = (t, n)) : p.1 = t := by rw [h]
theorem jird_of {p : Nat × Nat} {n : Nat} (h : p = (100, n)) : jird p := by rw [h]; exact Or.inl rfl
section JRV
variable {k : Nat} {T : List jE} {pc pc' : Nat} {l : jF} {st : List jV} {c sl : Nat} {w : jS} {Q : Option jV → jS → Prop} {a o ix r1 r2 r3 n j len : Nat} {z x y i x' y' : Int}
theorem jWp.i2l (hT : jtb k = T) (hf : jfind T pc = some (pc, .i2l, 1, r1, r2, r3, z)) (hp : pc + 1 = pc') (hx : b32 x = x') (kk : jWp k pc' l (jJ x' :: st) c sl w Q) : jWp k pc l (jI x :: st) c sl w Q := by
  subst hx
  subst hp
  exact jWp.one hT hf rfl trivial kk
theorem jWp.absI (hT : jtb k = T) (hf : jfind T pc = some (pc, .invokestatic ix, 3, 1001, r2, r3, z)) (hp : pc + 3 = pc') (h8 : Nat.ble (jcats st) 8 = true) (hx : b32 x = x') (kk : jWp k pc' l (jI (jabs x') :: st) c sl w Q) : jWp k pc l (jI x :: st) c sl w Q := by
  subst hx
  subst hp
  exact jWp.one hT hf rfl (Nat.le_of_ble_eq_true h8) kk
theorem jWp.absJ (hT : jtb k = T) (hf : jfind T pc = some (pc, .invokestatic ix, 3, 1002, r2, r3, z)) (hp : pc + 3 = pc') (h8 : Nat.ble (jcats st) 8 = true) (hx : b64 x = x') (kk : jWp k pc' l (jJ (jabs x') :: st) c sl w Q) : jWp k pc l (jJ x :: st) c sl w Q := by
  subst hx
  subst hp
  exact jWp.one hT hf rfl (Nat.le_of_ble_eq_true h8) kk
theorem jWp.maxI (hT : jtb k = T) (hf : jfind T pc = some (pc, .invokestatic ix, 3, 1003, r2, r3, z)) (hp : pc + 3 = pc') (h8 : Nat.ble (jcats st) 8 = true) (hx : b32 x = x') (hy : b32 y = y') (kk : jWp k pc' l (jI (jmx x' y') :: st) c sl w Q) : jWp k pc l (jI y :: jI x :: st) c sl w Q := by
  subst hx
  subst hy
  subst hp
  exact jWp.one hT hf rfl (Nat.le_of_ble_eq_true h8) kk
theorem jWp.idiv (hT : jtb k = T) (hf : jfind T pc = some (pc, .idiv, 1, r1, r2, r3, z)) (hp : pc + 1 = pc') (hx : b32 x = x') (hy : b32 y = y') (h0 : y' ≠ 0) (kk : jWp k pc' l (jI (x'.tdiv y') :: st) c sl w Q) : jWp k pc l (jI y :: jI x :: st) c sl w Q := by
  subst hx
  subst hy
  subst hp
  exact jWp.one hT hf rfl h0 kk
theorem jWp.irem (hT : jtb k = T) (hf : jfind T pc = some (pc, .irem, 1, r1, r2, r3, z)) (hp : pc + 1 = pc') (hx : b32 x = x') (hy : b32 y = y') (h0 : y' ≠ 0) (kk : jWp k pc' l (jI (x'.tmod y') :: st) c sl w Q) : jWp k pc l (jI y :: jI x :: st) c sl w Q := by
  subst hx
  subst hy
  subst hp
  exact jWp.one hT hf rfl h0 kk
theorem jWp.ldiv (hT : jtb k = T) (hf : jfind T pc = some (pc, .ldiv, 1, r1, r2, r3, z)) (hp : pc + 1 = pc') (hx : b64 x = x') (hy : b64 y = y') (h0 : y' ≠ 0) (kk : jWp k pc' l (jJ (x'.tdiv y') :: st) c sl w Q) : jWp k pc l (jJ y :: jJ x :: st) c sl w Q := by
  subst hx
  subst hy
  subst hp
  exact jWp.one hT hf rfl h0 kk
theorem jWp.lrem (hT : jtb k = T) (hf : jfind T pc = some (pc, .lrem, 1, r1, r2, r3, z)) (hp : pc + 1 = pc') (hx : b64 x = x') (hy : b64 y = y') (h0 : y' ≠ 0) (kk : jWp k pc' l (jJ (x'.tmod y') :: st) c sl w Q) : jWp k pc l (jJ y :: jJ x :: st) c sl w Q := by
  subst hx
  subst hy
  subst hp
  exact jWp.one hT hf rfl h0 kk
/-- a jump on a number that is known -/
theorem jWp.ifc {cd : Jvm.ClassFile.Cond} {off : Int} {b : Bool} (hT : jtb k = T) (hf : jfind T pc = some (pc, .ifCond cd off, 3, r1, r2, r3, z)) (hb : jcb cd (b32 x) 0 = b) (hp : (bif b then r1 else pc + 3) = pc') (kk : jWp k pc' l st c sl w Q) : jWp k pc l (jI x :: st) c sl w Q := by
  subst hp
  subst hb
  exact jWp.of_jmp (e := (pc, .ifCond cd off, 3, r1, r2, r3, z)) hT hf rfl rfl trivial kk
theorem jWp.copy {d s' m : Int} {a0 jd js jm : Nat} (hT : jtb k = T) (hf : jfind T pc = some (pc, .invokestatic ix, 3, 1004, r2, r3, z)) (hp : pc + 3 = pc') (h8 : Nat.ble (jcats st) 8 = true) (ha : (w.2.1 a).1 = 100) (ha0 : (w.2.1 a0).1 = 100) (h1 : b32 m = (jm : Int)) (h2 : b32 d = (jd : Int)) (h3 : b32 s' = (js : Int)) (h4 : js + jm ≤ (w.2.1 a0).2) (h5 : jd + jm ≤ (w.2.1 a).2)
    (kk : jWp k pc' l st c sl (jcpy w.1 a0 js a jd jm, w.2) Q) : jWp k pc l (jI m :: jI d :: jO a :: jI s' :: jO a0 :: st) c sl w Q := by
  subst hp
  have kk2 : jWp k (pc + 3) l st c sl (jcpy w.1 a0 (b32 s').toNat a (b32 d).toNat (b32 m).toNat, w.2) Q := by
    rw [h1, h2, h3]
    exact kk
  refine jWp.one hT hf rfl ?_ kk2
  exact ⟨Nat.le_of_ble_eq_true h8, ⟨rfl, rfl, ha, ha0⟩, ⟨by rw [h1]; omega, by rw [h2]; omega, by rw [h3]; omega⟩, by rw [h1, h3]; show (js : Int) + jm ≤ ((w.2.1 a0).2 : Int); omega, by rw [h1, h2]; show (jd : Int) + jm ≤ ((w.2.1 a).2 : Int); omega⟩
theorem jWp.new (hT : jtb k = T) (hf : jfind T pc = some (pc, .new ix, 3, r1, r2, r3, z)) (hp : pc + 3 = pc') (hg : (Nat.ble (c + 1) (jmc k) && Nat.ble (sl + r2) (jms k)) = true) (kk : jWp k pc' l (jO w.2.2.2.1 :: st) (c + 1) (sl + r2) (jnewo w (r1 + 1) 0) Q) : jWp k pc l st c sl w Q := by
  subst hp
  simp only [Bool.and_eq_true, Nat.ble_eq] at hg
  exact jWp.of_new (e := (pc, .new ix, 3, r1, r2, r3, z)) hT hf rfl rfl hg kk
theorem jWp.newa {t : ArrayType} {jn : Nat} (hT : jtb k = T) (hf : jfind T pc = some (pc, .newarray t, 2, r1, r2, r3, z)) (hp : pc + 2 = pc') (hx : b32 x = (jn : Int)) (hg : (Nat.ble jn 1000 && Nat.ble (c + 1) (jmc k) && Nat.ble (sl + jn) (jms k)) = true) (kk : jWp k pc' l (jO w.2.2.2.1 :: st) (c + 1) (sl + jn) (jnewo w r1 jn) Q) : jWp k pc l (jI x :: st) c sl w Q := by
  subst hp
  simp only [Bool.and_eq_true, Nat.ble_eq] at hg
  have e : (b32 x).toNat = jn := by rw [hx]; rfl
  have kk2 : jWp k (pc + 2) l (jO w.2.2.2.1 :: st) (c + 1) (sl + (b32 x).toNat) (jnewo w r1 (b32 x).toNat) Q := by rw [e]; exact kk
  refine jWp.of_new (e := (pc, .newarray t, 2, r1, r2, r3, z)) hT hf rfl rfl ?_ kk2
  exact ⟨⟨by rw [hx]; omega, by rw [hx]; have := hg.1.1; omega⟩, hg.1.2, by rw [e]; exact hg.2⟩
theorem jWp.newq {jn : Nat} (hT : jtb k = T) (hf : jfind T pc = some (pc, .anewarray ix, 3, r1, r2, r3, z)) (hp : pc + 3 = pc') (hx : b32 x = (jn : Int)) (hg : (Nat.ble jn 1000 && Nat.ble (c + 1) (jmc k) && Nat.ble (sl + jn) (jms k)) = true) (kk : jWp k pc' l (jO w.2.2.2.1 :: st) (c + 1) (sl + jn) (jnewo w r1 jn) Q) : jWp k pc l (jI x :: st) c sl w Q := by
  subst hp
  simp only [Bool.and_eq_true, Nat.ble_eq] at hg
  have e : (b32 x).toNat = jn := by rw [hx]; rfl
  have kk2 : jWp k (pc + 3) l (jO w.2.2.2.1 :: st) (c + 1) (sl + (b32 x).toNat) (jnewo w r1 (b32 x).toNat) Q := by rw [e]; exact kk
  refine jWp.of_new (e := (pc, .anewarray ix, 3, r1, r2, r3, z)) hT hf rfl rfl ?_ kk2
  exact ⟨⟨by rw [hx]; omega, by rw [hx]; have := hg.1.1; omega⟩, hg.1.2, by rw [e]; exact hg.2⟩
end JRV
end
section
/-- answers: a number, nothing, yes or no; the heap stays -/
def jvi (x : Int) (w : jS) : Option jV → jS → Prop := fun v w1 => v = some (jI x) ∧ w1 = w
def jvj (x : Int) (w : jS) : Option jV → jS → Prop := fun v w1 => v = some (jJ x) ∧ w1 = w
def jvv (w : jS) : Option jV → jS → Prop := fun v w1 => v = none ∧ w1 = w
def jvb (p : Prop) (w : jS) : Option jV → jS → Prop := fun v w1 => (v = some (jI 1) ∧ w1 = w ∧ p) ∨ (v = some (jI 0) ∧ w1 = w ∧ ¬ p)
def jOK (w : jS) : Prop := w.2.1 w.2.2.2.2 = (99, 7) ∧ ∀ j, w.1 w.2.2.2.2 j = jord j
def zO (law : Int) : Int := if law < 2 then 2 else if law < 6 then law + 1 else 8
theorem zO_ord {law : Int} (h0 : 0 ≤ law) (h6 : law ≤ 6) : jord law.toNat = zO law := by
  rcases (show law = 0 ∨ law = 1 ∨ law = 2 ∨ law = 3 ∨ law = 4 ∨ law = 5 ∨ law = 6 by omega) with rfl | rfl | rfl | rfl | rfl | rfl | rfl <;> decide
theorem zO_b {law : Int} (h0 : 0 ≤ law) (h6 : law ≤ 6) : 2 ≤ zO law ∧ zO law ≤ 8 := by
  unfold zO
  split
  · omega
  · split <;> omega
/-- what number n is by a law, above the line, and what it is divided by -/
def zP (law f : Int) (t : Nat → Int) (n : Nat) : Int :=
  if law = 0 then f * t (n - 1) - t (n - 2)
  else if law = 1 then t (n - 1) * t (n - 1) + f
  else if law = 2 then t (n - 1) * t (n - 2) + f
  else if law = 3 then t (n - 1) * t (n - 3) + f * t (n - 2) * t (n - 2)
  else if law = 4 then t (n - 1) * t (n - 4) + f * t (n - 2) * t (n - 3)
  else if law = 5 then t (n - 1) * t (n - 5) + f * t (n - 2) * t (n - 4) + t (n - 3) * t (n - 3)
  else t (n - 1) * t (n - 7) + t (n - 2) * t (n - 6) + f * t (n - 3) * t (n - 5) + t (n - 4) * t (n - 4)
def zD (law : Int) (t : Nat → Int) (n : Nat) : Int := if law = 0 then 1 else t (n - (zO law).toNat)
def r32 (x : Int) : Prop := -2147483648 ≤ x ∧ x < 2147483648
theorem r32_b {x : Int} (h : r32 x) : b32 x = x := b32_id h.1 h.2
theorem r32_64 {x : Int} (h : r32 x) : b64 x = x := b64_id (by have := h.1; omega) (by have := h.2; omega)
set_option maxHeartbeats 4000000 in
set_option maxRecDepth 20000 in
theorem E_orderOf {w : jS} {law : Int} (hO : jOK w) (h0 : 0 ≤ law) (h6 : law ≤ 6) : jCall 6 [jI law] w (jvi (zO law) w) := by
  have mt : jtb 6 = jT6 := rfl
  show jWp 6 0 [some (jI law)] [] 0 0 w _
  refine jWp.blk mt 1 ?_
  show jWp 6 1 [some (jI law)] [jI law] 0 0 w _
  refine jWp.ifz (pc' := 4) mt rfl rfl (b32_id (by omega) (by omega)) (fun h1 => ?_) (fun h1 => ?_)
  · have h1 : law < 0 := h1
    exfalso; omega
  · have h1 : 0 ≤ law := h1
    refine jWp.blk mt 2 ?_
    show jWp 6 8 [some (jI law)] [jO w.2.2.2.2, jI law] 0 0 w _
    refine jWp.alen (pc' := 9) (n := 7) mt rfl rfl (by rw [hO.1]; exact Or.inr rfl) (by rw [hO.1]) ?_
    show jWp 6 9 [some (jI law)] [jI 7, jI law] 0 0 w _
    refine jWp.icmp (pc' := 12) mt rfl rfl (b32_id (by omega) (by omega)) (show b32 7 = 7 by decide) (fun h2 => ?_) (fun h2 => ?_)
    · have h2 : 7 ≤ law := h2
      exfalso; omega
    · have h2 : law < 7 := h2
      refine jWp.blk mt 2 ?_
      show jWp 6 16 [some (jI law)] [jI law, jO w.2.2.2.2] 0 0 w _
      refine jWp.iald (pc' := 17) (j := law.toNat) mt rfl rfl (by rw [hO.1]; exact Or.inr rfl) (by rw [b32_id (by omega) (by omega)]; omega) (by rw [hO.1]; show law.toNat < 7; omega) ?_
      show jWp 6 17 [some (jI law)] [jI (w.1 w.2.2.2.2 law.toNat)] 0 0 w _
      refine jWp.blk mt 1 ?_
      show jWp 6 21 [some (jI law)] [jI (w.1 w.2.2.2.2 law.toNat)] 0 0 w _
      refine jWp.ireti mt rfl ⟨rfl, rfl⟩ rfl ?_
      exact ⟨by rw [hO.2, zO_ord h0 h6], rfl⟩
set_option maxHeartbeats 4000000 in
set_option maxRecDepth 20000 in
theorem E_back {w : jS} {a n s len : Nat} (ha : w.2.1 a = (100, len)) (hs : s ≤ n) (hl : n - s < len) (hn : n < 1000) (hln : len < 1000) (hv : r32 (w.1 a (n - s))) : jCall 9 [jO a, jI (n : Int), jI (s : Int)] w (jvj (w.1 a (n - s)) w) := by
  have mt : jtb 9 = jT9 := rfl
  show jWp 9 0 [some (jO a), some (jI (n : Int)), some (jI (s : Int)), none] [] 0 0 w _
  refine jWp.blk mt 5 ?_
  show jWp 9 5 [some (jO a), some (jI (n : Int)), some (jI (s : Int)), some (jI ((n : Int) - (s : Int)))] [jI ((n : Int) - (s : Int))] 0 0 w _
  refine jWp.ifz (pc' := 8) mt rfl rfl (b32_id (by omega) (by omega)) (fun h1 => ?_) (fun h1 => ?_)
  · have h1 : ((n : Int) - (s : Int)) < 0 := h1
    exfalso; omega
  · have h1 : 0 ≤ ((n : Int) - (s : Int)) := h1
    refine jWp.blk mt 2 ?_
    show _ ∧ jWp 9 10 [some (jO a), some (jI (n : Int)), some (jI (s : Int)), some (jI ((n : Int) - (s : Int)))] [jO a, jI ((n : Int) - (s : Int))] 0 0 w _
    refine ⟨rfl, ?_⟩
    refine jWp.alen (pc' := 11) (n := len) mt rfl rfl (jird_of ha) (by rw [ha]) ?_
    show jWp 9 11 [some (jO a), some (jI (n : Int)), some (jI (s : Int)), some (jI ((n : Int) - (s : Int)))] [jI (len : Int), jI ((n : Int) - (s : Int))] 0 0 w _
    refine jWp.icmp (pc' := 14) mt rfl rfl (b32_id (by omega) (by omega)) (b32_id (by omega) (by omega)) (fun h2 => ?_) (fun h2 => ?_)
    · have h2 : (len : Int) ≤ ((n : Int) - (s : Int)) := h2
      exfalso; omega
    · have h2 : ((n : Int) - (s : Int)) < (len : Int) := h2
      refine jWp.blk mt 2 ?_
      show _ ∧ jWp 9 16 [some (jO a), some (jI (n : Int)), some (jI (s : Int)), some (jI ((n : Int) - (s : Int)))] [jI ((n : Int) - (s : Int)), jO a] 0 0 w _
      refine ⟨rfl, ?_⟩
      refine jWp.iald (pc' := 17) (j := (n - s)) mt rfl rfl (jird_of ha) (by rw [b32_id (by omega) (by omega)]; omega) (jlt ha (by omega)) ?_
      show jWp 9 17 [some (jO a), some (jI (n : Int)), some (jI (s : Int)), some (jI ((n : Int) - (s : Int)))] [jI (w.1 a (n - s))] 0 0 w _
      refine jWp.i2l (pc' := 18) mt rfl rfl (r32_b hv) ?_
      show jWp 9 18 [some (jO a), some (jI (n : Int)), some (jI (s : Int)), some (jI ((n : Int) - (s : Int)))] [jJ (w.1 a (n - s))] 0 0 w _
      refine jWp.blk mt 1 ?_
      show jWp 9 22 [some (jO a), some (jI (n : Int)), some (jI (s : Int)), some (jI ((n : Int) - (s : Int)))] [jJ (w.1 a (n - s))] 0 0 w _
      refine jWp.lret mt rfl ⟨rfl, rfl⟩ rfl ?_
      exact ⟨rfl, rfl⟩
theorem zO_q {law : Int} {n : Nat} (hq : (zO law).toNat ≤ n) : 2 ≤ n ∧ (law = 2 → 3 ≤ n) ∧ (law = 3 → 4 ≤ n) ∧ (law = 4 → 5 ≤ n) ∧ (law = 5 → 6 ≤ n) ∧ (6 ≤ law → 8 ≤ n) := by
  unfold zO at hq
  split at hq
  · omega
  · split at hq <;> omega
set_option maxHeartbeats 4000000 in
set_option maxRecDepth 20000 in
theorem E_product {w : jS} {a n len : Nat} {law f : Int} (ha : w.2.1 a = (100, len)) (h0 : 0 ≤ law) (h6 : law ≤ 6) (hq : (zO law).toNat ≤ n) (hl : n ≤ len) (hln : len < 1000) (hf : r32 f) (ht : ∀ j, j < n → r32 (w.1 a j)) : jCall 7 [jI law, jI f, jO a, jI (n : Int)] w (jvj (zP law f (w.1 a) n) w) := by
  have mt : jtb 7 = jT7 := rfl
  have hz := zO_q hq
  show jWp 7 0 [some (jI law), some (jI f), some (jO a), some (jI (n : Int)), none, none] [] 0 0 w _
  refine jWp.blk mt 1 ?_
  show jWp 7 1 [some (jI law), some (jI f), some (jO a), some (jI (n : Int)), none, none] [jI f] 0 0 w _
  refine jWp.i2l (pc' := 2) mt rfl rfl (r32_b hf) ?_
  show jWp 7 2 [some (jI law), some (jI f), some (jO a), some (jI (n : Int)), none, none] [jJ f] 0 0 w _
  refine jWp.blk mt 2 ?_
  show jWp 7 5 [some (jI law), some (jI f), some (jO a), some (jI (n : Int)), some (jJ f), none] [jI law] 0 0 w _
  refine jWp.sw mt rfl (Or.inl ⟨_, _, _, _, rfl⟩) (b32_id (by omega) (by omega)) ?_
  show jWp 7 (jsw [(0, 44), (1, 61), (2, 78), (3, 95), (4, 126), (5, 157)] 202 law) [some (jI law), some (jI f), some (jO a), some (jI (n : Int)), some (jJ f), none] [] 0 0 w _
  unfold jsw; by_cases h1 : 0 = law
  · rw [if_pos h1]
    refine jWp.blk mt 4 ?_
    show _ ∧ jWp 7 49 [some (jI law), some (jI f), some (jO a), some (jI (n : Int)), some (jJ f), none] [jI 1, jI (n : Int), jO a, jJ f] 0 0 w _
    refine ⟨rfl, ?_⟩
    refine jWp.calls (as := [jO a, jI (n : Int), jI 1]) (rest := [jJ f]) mt rfl rfl rfl rfl ?_
    refine jCall.mono (E_back (n := n) (s := 1) ha (by omega) (by omega) (by omega) (by omega) (ht _ (by omega))) (fun v9 w9 h9 => ?_)
    obtain ⟨rfl, h9⟩ := h9
    subst w9
    show jWp 7 52 [some (jI law), some (jI f), some (jO a), some (jI (n : Int)), some (jJ f), none] [jJ (w.1 a (n - 1)), jJ f] 0 0 w _
    refine jWp.blk mt 4 ?_
    show _ ∧ jWp 7 56 [some (jI law), some (jI f), some (jO a), some (jI (n : Int)), some (jJ f), none] [jI 2, jI (n : Int), jO a, jJ (f * (w.1 a (n - 1)))] 0 0 w _
    refine ⟨rfl, ?_⟩
    refine jWp.calls (as := [jO a, jI (n : Int), jI 2]) (rest := [jJ (f * (w.1 a (n - 1)))]) mt rfl rfl rfl rfl ?_
    refine jCall.mono (E_back (n := n) (s := 2) ha (by omega) (by omega) (by omega) (by omega) (ht _ (by omega))) (fun v9 w9 h9 => ?_)
    obtain ⟨rfl, h9⟩ := h9
    subst w9
    show jWp 7 59 [some (jI law), some (jI f), some (jO a), some (jI (n : Int)), some (jJ f), none] [jJ (w.1 a (n - 2)), jJ (f * (w.1 a (n - 1)))] 0 0 w _
    refine jWp.blk mt 1 ?_
    show jWp 7 60 [some (jI law), some (jI f), some (jO a), some (jI (n : Int)), some (jJ f), none] [jJ ((f * (w.1 a (n - 1))) - (w.1 a (n - 2)))] 0 0 w _
    refine jWp.lret mt rfl ⟨rfl, rfl⟩ rfl ?_
    first
    | (have e : law = 0 := by omega
       subst e
       exact ⟨rfl, rfl⟩)
    | (have e : law = 1 := by omega
       subst e
       exact ⟨rfl, rfl⟩)
    | (have e : law = 2 := by omega
       subst e
       exact ⟨rfl, rfl⟩)
    | (have e : law = 3 := by omega
       subst e
       exact ⟨rfl, rfl⟩)
    | (have e : law = 4 := by omega
       subst e
       exact ⟨rfl, rfl⟩)
    | (have e : law = 5 := by omega
       subst e
       exact ⟨rfl, rfl⟩)
    | (have e : law = 6 := by omega
       subst e
       exact ⟨rfl, rfl⟩)
  · rw [if_neg h1]
    unfold jsw; by_cases h2 : 1 = law
    · rw [if_pos h2]
      refine jWp.blk mt 3 ?_
      show _ ∧ jWp 7 64 [some (jI law), some (jI f), some (jO a), some (jI (n : Int)), some (jJ f), none] [jI 1, jI (n : Int), jO a] 0 0 w _
      refine ⟨rfl, ?_⟩
      refine jWp.calls (as := [jO a, jI (n : Int), jI 1]) (rest := []) mt rfl rfl rfl rfl ?_
      refine jCall.mono (E_back (n := n) (s := 1) ha (by omega) (by omega) (by omega) (by omega) (ht _ (by omega))) (fun v9 w9 h9 => ?_)
      obtain ⟨rfl, h9⟩ := h9
      subst w9
      show jWp 7 67 [some (jI law), some (jI f), some (jO a), some (jI (n : Int)), some (jJ f), none] [jJ (w.1 a (n - 1))] 0 0 w _
      refine jWp.blk mt 3 ?_
      show _ ∧ jWp 7 70 [some (jI law), some (jI f), some (jO a), some (jI (n : Int)), some (jJ f), none] [jI 1, jI (n : Int), jO a, jJ (w.1 a (n - 1))] 0 0 w _
      refine ⟨rfl, ?_⟩
      refine jWp.calls (as := [jO a, jI (n : Int), jI 1]) (rest := [jJ (w.1 a (n - 1))]) mt rfl rfl rfl rfl ?_
      refine jCall.mono (E_back (n := n) (s := 1) ha (by omega) (by omega) (by omega) (by omega) (ht _ (by omega))) (fun v9 w9 h9 => ?_)
      obtain ⟨rfl, h9⟩ := h9
      subst w9
      show jWp 7 73 [some (jI law), some (jI f), some (jO a), some (jI (n : Int)), some (jJ f), none] [jJ (w.1 a (n - 1)), jJ (w.1 a (n - 1))] 0 0 w _
      refine jWp.blk mt 3 ?_
      show jWp 7 77 [some (jI law), some (jI f), some (jO a), some (jI (n : Int)), some (jJ f), none] [jJ (((w.1 a (n - 1)) * (w.1 a (n - 1))) + f)] 0 0 w _
      refine jWp.lret mt rfl ⟨rfl, rfl⟩ rfl ?_
      first
      | (have e : law = 0 := by omega
         subst e
         exact ⟨rfl, rfl⟩)
      | (have e : law = 1 := by omega
         subst e
         exact ⟨rfl, rfl⟩)
      | (have e : law = 2 := by omega
         subst e
         exact ⟨rfl, rfl⟩)
      | (have e : law = 3 := by omega
         subst e
         exact ⟨rfl, rfl⟩)
      | (have e : law = 4 := by omega
         subst e
         exact ⟨rfl, rfl⟩)
      | (have e : law = 5 := by omega
         subst e
         exact ⟨rfl, rfl⟩)
      | (have e : law = 6 := by omega
         subst e
         exact ⟨rfl, rfl⟩)
    · rw [if_neg h2]
      unfold jsw; by_cases h3 : 2 = law
      · rw [if_pos h3]
        refine jWp.blk mt 3 ?_
        show _ ∧ jWp 7 81 [some (jI law), some (jI f), some (jO a), some (jI (n : Int)), some (jJ f), none] [jI 1, jI (n : Int), jO a] 0 0 w _
        refine ⟨rfl, ?_⟩
        refine jWp.calls (as := [jO a, jI (n : Int), jI 1]) (rest := []) mt rfl rfl rfl rfl ?_
        refine jCall.mono (E_back (n := n) (s := 1) ha (by omega) (by omega) (by omega) (by omega) (ht _ (by omega))) (fun v9 w9 h9 => ?_)
        obtain ⟨rfl, h9⟩ := h9
        subst w9
        show jWp 7 84 [some (jI law), some (jI f), some (jO a), some (jI (n : Int)), some (jJ f), none] [jJ (w.1 a (n - 1))] 0 0 w _
        refine jWp.blk mt 3 ?_
        show _ ∧ jWp 7 87 [some (jI law), some (jI f), some (jO a), some (jI (n : Int)), some (jJ f), none] [jI 2, jI (n : Int), jO a, jJ (w.1 a (n - 1))] 0 0 w _
        refine ⟨rfl, ?_⟩
        refine jWp.calls (as := [jO a, jI (n : Int), jI 2]) (rest := [jJ (w.1 a (n - 1))]) mt rfl rfl rfl rfl ?_
        refine jCall.mono (E_back (n := n) (s := 2) ha (by omega) (by omega) (by omega) (by omega) (ht _ (by omega))) (fun v9 w9 h9 => ?_)
        obtain ⟨rfl, h9⟩ := h9
        subst w9
        show jWp 7 90 [some (jI law), some (jI f), some (jO a), some (jI (n : Int)), some (jJ f), none] [jJ (w.1 a (n - 2)), jJ (w.1 a (n - 1))] 0 0 w _
        refine jWp.blk mt 3 ?_
        show jWp 7 94 [some (jI law), some (jI f), some (jO a), some (jI (n : Int)), some (jJ f), none] [jJ (((w.1 a (n - 1)) * (w.1 a (n - 2))) + f)] 0 0 w _
        refine jWp.lret mt rfl ⟨rfl, rfl⟩ rfl ?_
        first
        | (have e : law = 0 := by omega
           subst e
           exact ⟨rfl, rfl⟩)
        | (have e : law = 1 := by omega
           subst e
           exact ⟨rfl, rfl⟩)
        | (have e : law = 2 := by omega
           subst e
           exact ⟨rfl, rfl⟩)
        | (have e : law = 3 := by omega
           subst e
           exact ⟨rfl, rfl⟩)
        | (have e : law = 4 := by omega
           subst e
           exact ⟨rfl, rfl⟩)
        | (have e : law = 5 := by omega
           subst e
           exact ⟨rfl, rfl⟩)
        | (have e : law = 6 := by omega
           subst e
           exact ⟨rfl, rfl⟩)
      · rw [if_neg h3]
        unfold jsw; by_cases h4 : 3 = law
        · rw [if_pos h4]
          refine jWp.blk mt 3 ?_
          show _ ∧ jWp 7 98 [some (jI law), some (jI f), some (jO a), some (jI (n : Int)), some (jJ f), none] [jI 1, jI (n : Int), jO a] 0 0 w _
          refine ⟨rfl, ?_⟩
          refine jWp.calls (as := [jO a, jI (n : Int), jI 1]) (rest := []) mt rfl rfl rfl rfl ?_
          refine jCall.mono (E_back (n := n) (s := 1) ha (by omega) (by omega) (by omega) (by omega) (ht _ (by omega))) (fun v9 w9 h9 => ?_)
          obtain ⟨rfl, h9⟩ := h9
          subst w9
          show jWp 7 101 [some (jI law), some (jI f), some (jO a), some (jI (n : Int)), some (jJ f), none] [jJ (w.1 a (n - 1))] 0 0 w _
          refine jWp.blk mt 3 ?_
          show _ ∧ jWp 7 104 [some (jI law), some (jI f), some (jO a), some (jI (n : Int)), some (jJ f), none] [jI 3, jI (n : Int), jO a, jJ (w.1 a (n - 1))] 0 0 w _
          refine ⟨rfl, ?_⟩
          refine jWp.calls (as := [jO a, jI (n : Int), jI 3]) (rest := [jJ (w.1 a (n - 1))]) mt rfl rfl rfl rfl ?_
          refine jCall.mono (E_back (n := n) (s := 3) ha (by omega) (by omega) (by omega) (by omega) (ht _ (by omega))) (fun v9 w9 h9 => ?_)
          obtain ⟨rfl, h9⟩ := h9
          subst w9
          show jWp 7 107 [some (jI law), some (jI f), some (jO a), some (jI (n : Int)), some (jJ f), none] [jJ (w.1 a (n - 3)), jJ (w.1 a (n - 1))] 0 0 w _
          refine jWp.blk mt 5 ?_
          show _ ∧ jWp 7 113 [some (jI law), some (jI f), some (jO a), some (jI (n : Int)), some (jJ f), none] [jI 2, jI (n : Int), jO a, jJ f, jJ ((w.1 a (n - 1)) * (w.1 a (n - 3)))] 0 0 w _
          refine ⟨rfl, ?_⟩
          refine jWp.calls (as := [jO a, jI (n : Int), jI 2]) (rest := [jJ f, jJ ((w.1 a (n - 1)) * (w.1 a (n - 3)))]) mt rfl rfl rfl rfl ?_
          refine jCall.mono (E_back (n := n) (s := 2) ha (by omega) (by omega) (by omega) (by omega) (ht _ (by omega))) (fun v9 w9 h9 => ?_)
          obtain ⟨rfl, h9⟩ := h9
          subst w9
          show jWp 7 116 [some (jI law), some (jI f), some (jO a), some (jI (n : Int)), some (jJ f), none] [jJ (w.1 a (n - 2)), jJ f, jJ ((w.1 a (n - 1)) * (w.1 a (n - 3)))] 0 0 w _
          refine jWp.blk mt 4 ?_
          show _ ∧ jWp 7 120 [some (jI law), some (jI f), some (jO a), some (jI (n : Int)), some (jJ f), none] [jI 2, jI (n : Int), jO a, jJ (f * (w.1 a (n - 2))), jJ ((w.1 a (n - 1)) * (w.1 a (n - 3)))] 0 0 w _
          refine ⟨rfl, ?_⟩
          refine jWp.calls (as := [jO a, jI (n : Int), jI 2]) (rest := [jJ (f * (w.1 a (n - 2))), jJ ((w.1 a (n - 1)) * (w.1 a (n - 3)))]) mt rfl rfl rfl rfl ?_
          refine jCall.mono (E_back (n := n) (s := 2) ha (by omega) (by omega) (by omega) (by omega) (ht _ (by omega))) (fun v9 w9 h9 => ?_)
          obtain ⟨rfl, h9⟩ := h9
          subst w9
          show jWp 7 123 [some (jI law), some (jI f), some (jO a), some (jI (n : Int)), some (jJ f), none] [jJ (w.1 a (n - 2)), jJ (f * (w.1 a (n - 2))), jJ ((w.1 a (n - 1)) * (w.1 a (n - 3)))] 0 0 w _
          refine jWp.blk mt 2 ?_
          show jWp 7 125 [some (jI law), some (jI f), some (jO a), some (jI (n : Int)), some (jJ f), none] [jJ (((w.1 a (n - 1)) * (w.1 a (n - 3))) + ((f * (w.1 a (n - 2))) * (w.1 a (n - 2))))] 0 0 w _
          refine jWp.lret mt rfl ⟨rfl, rfl⟩ rfl ?_
          first
          | (have e : law = 0 := by omega
             subst e
             exact ⟨rfl, rfl⟩)
          | (have e : law = 1 := by omega
             subst e
             exact ⟨rfl, rfl⟩)
          | (have e : law = 2 := by omega
             subst e
             exact ⟨rfl, rfl⟩)
          | (have e : law = 3 := by omega
             subst e
             exact ⟨rfl, rfl⟩)
          | (have e : law = 4 := by omega
             subst e
             exact ⟨rfl, rfl⟩)
          | (have e : law = 5 := by omega
             subst e
             exact ⟨rfl, rfl⟩)
          | (have e : law = 6 := by omega
             subst e
             exact ⟨rfl, rfl⟩)
        · rw [if_neg h4]
          unfold jsw; by_cases h5 : 4 = law
          · rw [if_pos h5]
            refine jWp.blk mt 3 ?_
            show _ ∧ jWp 7 129 [some (jI law), some (jI f), some (jO a), some (jI (n : Int)), some (jJ f), none] [jI 1, jI (n : Int), jO a] 0 0 w _
            refine ⟨rfl, ?_⟩
            refine jWp.calls (as := [jO a, jI (n : Int), jI 1]) (rest := []) mt rfl rfl rfl rfl ?_
            refine jCall.mono (E_back (n := n) (s := 1) ha (by omega) (by omega) (by omega) (by omega) (ht _ (by omega))) (fun v9 w9 h9 => ?_)
            obtain ⟨rfl, h9⟩ := h9
            subst w9
            show jWp 7 132 [some (jI law), some (jI f), some (jO a), some (jI (n : Int)), some (jJ f), none] [jJ (w.1 a (n - 1))] 0 0 w _
            refine jWp.blk mt 3 ?_
            show _ ∧ jWp 7 135 [some (jI law), some (jI f), some (jO a), some (jI (n : Int)), some (jJ f), none] [jI 4, jI (n : Int), jO a, jJ (w.1 a (n - 1))] 0 0 w _
            refine ⟨rfl, ?_⟩
            refine jWp.calls (as := [jO a, jI (n : Int), jI 4]) (rest := [jJ (w.1 a (n - 1))]) mt rfl rfl rfl rfl ?_
            refine jCall.mono (E_back (n := n) (s := 4) ha (by omega) (by omega) (by omega) (by omega) (ht _ (by omega))) (fun v9 w9 h9 => ?_)
            obtain ⟨rfl, h9⟩ := h9
            subst w9
            show jWp 7 138 [some (jI law), some (jI f), some (jO a), some (jI (n : Int)), some (jJ f), none] [jJ (w.1 a (n - 4)), jJ (w.1 a (n - 1))] 0 0 w _
            refine jWp.blk mt 5 ?_
            show _ ∧ jWp 7 144 [some (jI law), some (jI f), some (jO a), some (jI (n : Int)), some (jJ f), none] [jI 2, jI (n : Int), jO a, jJ f, jJ ((w.1 a (n - 1)) * (w.1 a (n - 4)))] 0 0 w _
            refine ⟨rfl, ?_⟩
            refine jWp.calls (as := [jO a, jI (n : Int), jI 2]) (rest := [jJ f, jJ ((w.1 a (n - 1)) * (w.1 a (n - 4)))]) mt rfl rfl rfl rfl ?_
            refine jCall.mono (E_back (n := n) (s := 2) ha (by omega) (by omega) (by omega) (by omega) (ht _ (by omega))) (fun v9 w9 h9 => ?_)
            obtain ⟨rfl, h9⟩ := h9
            subst w9
            show jWp 7 147 [some (jI law), some (jI f), some (jO a), some (jI (n : Int)), some (jJ f), none] [jJ (w.1 a (n - 2)), jJ f, jJ ((w.1 a (n - 1)) * (w.1 a (n - 4)))] 0 0 w _
            refine jWp.blk mt 4 ?_
            show _ ∧ jWp 7 151 [some (jI law), some (jI f), some (jO a), some (jI (n : Int)), some (jJ f), none] [jI 3, jI (n : Int), jO a, jJ (f * (w.1 a (n - 2))), jJ ((w.1 a (n - 1)) * (w.1 a (n - 4)))] 0 0 w _
            refine ⟨rfl, ?_⟩
            refine jWp.calls (as := [jO a, jI (n : Int), jI 3]) (rest := [jJ (f * (w.1 a (n - 2))), jJ ((w.1 a (n - 1)) * (w.1 a (n - 4)))]) mt rfl rfl rfl rfl ?_
            refine jCall.mono (E_back (n := n) (s := 3) ha (by omega) (by omega) (by omega) (by omega) (ht _ (by omega))) (fun v9 w9 h9 => ?_)
            obtain ⟨rfl, h9⟩ := h9
            subst w9
            show jWp 7 154 [some (jI law), some (jI f), some (jO a), some (jI (n : Int)), some (jJ f), none] [jJ (w.1 a (n - 3)), jJ (f * (w.1 a (n - 2))), jJ ((w.1 a (n - 1)) * (w.1 a (n - 4)))] 0 0 w _
            refine jWp.blk mt 2 ?_
            show jWp 7 156 [some (jI law), some (jI f), some (jO a), some (jI (n : Int)), some (jJ f), none] [jJ (((w.1 a (n - 1)) * (w.1 a (n - 4))) + ((f * (w.1 a (n - 2))) * (w.1 a (n - 3))))] 0 0 w _
            refine jWp.lret mt rfl ⟨rfl, rfl⟩ rfl ?_
            first
            | (have e : law = 0 := by omega
               subst e
               exact ⟨rfl, rfl⟩)
            | (have e : law = 1 := by omega
               subst e
               exact ⟨rfl, rfl⟩)
            | (have e : law = 2 := by omega
               subst e
               exact ⟨rfl, rfl⟩)
            | (have e : law = 3 := by omega
               subst e
               exact ⟨rfl, rfl⟩)
            | (have e : law = 4 := by omega
               subst e
               exact ⟨rfl, rfl⟩)
            | (have e : law = 5 := by omega
               subst e
               exact ⟨rfl, rfl⟩)
            | (have e : law = 6 := by omega
               subst e
               exact ⟨rfl, rfl⟩)
          · rw [if_neg h5]
            unfold jsw; by_cases h6 : 5 = law
            · rw [if_pos h6]
              refine jWp.blk mt 3 ?_
              show _ ∧ jWp 7 160 [some (jI law), some (jI f), some (jO a), some (jI (n : Int)), some (jJ f), none] [jI 1, jI (n : Int), jO a] 0 0 w _
              refine ⟨rfl, ?_⟩
              refine jWp.calls (as := [jO a, jI (n : Int), jI 1]) (rest := []) mt rfl rfl rfl rfl ?_
              refine jCall.mono (E_back (n := n) (s := 1) ha (by omega) (by omega) (by omega) (by omega) (ht _ (by omega))) (fun v9 w9 h9 => ?_)
              obtain ⟨rfl, h9⟩ := h9
              subst w9
              show jWp 7 163 [some (jI law), some (jI f), some (jO a), some (jI (n : Int)), some (jJ f), none] [jJ (w.1 a (n - 1))] 0 0 w _
              refine jWp.blk mt 3 ?_
              show _ ∧ jWp 7 166 [some (jI law), some (jI f), some (jO a), some (jI (n : Int)), some (jJ f), none] [jI 5, jI (n : Int), jO a, jJ (w.1 a (n - 1))] 0 0 w _
              refine ⟨rfl, ?_⟩
              refine jWp.calls (as := [jO a, jI (n : Int), jI 5]) (rest := [jJ (w.1 a (n - 1))]) mt rfl rfl rfl rfl ?_
              refine jCall.mono (E_back (n := n) (s := 5) ha (by omega) (by omega) (by omega) (by omega) (ht _ (by omega))) (fun v9 w9 h9 => ?_)
              obtain ⟨rfl, h9⟩ := h9
              subst w9
              show jWp 7 169 [some (jI law), some (jI f), some (jO a), some (jI (n : Int)), some (jJ f), none] [jJ (w.1 a (n - 5)), jJ (w.1 a (n - 1))] 0 0 w _
              refine jWp.blk mt 5 ?_
              show _ ∧ jWp 7 175 [some (jI law), some (jI f), some (jO a), some (jI (n : Int)), some (jJ f), none] [jI 2, jI (n : Int), jO a, jJ f, jJ ((w.1 a (n - 1)) * (w.1 a (n - 5)))] 0 0 w _
              refine ⟨rfl, ?_⟩
              refine jWp.calls (as := [jO a, jI (n : Int), jI 2]) (rest := [jJ f, jJ ((w.1 a (n - 1)) * (w.1 a (n - 5)))]) mt rfl rfl rfl rfl ?_
              refine jCall.mono (E_back (n := n) (s := 2) ha (by omega) (by omega) (by omega) (by omega) (ht _ (by omega))) (fun v9 w9 h9 => ?_)
              obtain ⟨rfl, h9⟩ := h9
              subst w9
              show jWp 7 178 [some (jI law), some (jI f), some (jO a), some (jI (n : Int)), some (jJ f), none] [jJ (w.1 a (n - 2)), jJ f, jJ ((w.1 a (n - 1)) * (w.1 a (n - 5)))] 0 0 w _
              refine jWp.blk mt 4 ?_
              show _ ∧ jWp 7 182 [some (jI law), some (jI f), some (jO a), some (jI (n : Int)), some (jJ f), none] [jI 4, jI (n : Int), jO a, jJ (f * (w.1 a (n - 2))), jJ ((w.1 a (n - 1)) * (w.1 a (n - 5)))] 0 0 w _
              refine ⟨rfl, ?_⟩
              refine jWp.calls (as := [jO a, jI (n : Int), jI 4]) (rest := [jJ (f * (w.1 a (n - 2))), jJ ((w.1 a (n - 1)) * (w.1 a (n - 5)))]) mt rfl rfl rfl rfl ?_
              refine jCall.mono (E_back (n := n) (s := 4) ha (by omega) (by omega) (by omega) (by omega) (ht _ (by omega))) (fun v9 w9 h9 => ?_)
              obtain ⟨rfl, h9⟩ := h9
              subst w9
              show jWp 7 185 [some (jI law), some (jI f), some (jO a), some (jI (n : Int)), some (jJ f), none] [jJ (w.1 a (n - 4)), jJ (f * (w.1 a (n - 2))), jJ ((w.1 a (n - 1)) * (w.1 a (n - 5)))] 0 0 w _
              refine jWp.blk mt 5 ?_
              show _ ∧ jWp 7 190 [some (jI law), some (jI f), some (jO a), some (jI (n : Int)), some (jJ f), none] [jI 3, jI (n : Int), jO a, jJ (((w.1 a (n - 1)) * (w.1 a (n - 5))) + ((f * (w.1 a (n - 2))) * (w.1 a (n - 4))))] 0 0 w _
              refine ⟨rfl, ?_⟩
              refine jWp.calls (as := [jO a, jI (n : Int), jI 3]) (rest := [jJ (((w.1 a (n - 1)) * (w.1 a (n - 5))) + ((f * (w.1 a (n - 2))) * (w.1 a (n - 4))))]) mt rfl rfl rfl rfl ?_
              refine jCall.mono (E_back (n := n) (s := 3) ha (by omega) (by omega) (by omega) (by omega) (ht _ (by omega))) (fun v9 w9 h9 => ?_)
              obtain ⟨rfl, h9⟩ := h9
              subst w9
              show jWp 7 193 [some (jI law), some (jI f), some (jO a), some (jI (n : Int)), some (jJ f), none] [jJ (w.1 a (n - 3)), jJ (((w.1 a (n - 1)) * (w.1 a (n - 5))) + ((f * (w.1 a (n - 2))) * (w.1 a (n - 4))))] 0 0 w _
              refine jWp.blk mt 3 ?_
              show _ ∧ jWp 7 196 [some (jI law), some (jI f), some (jO a), some (jI (n : Int)), some (jJ f), none] [jI 3, jI (n : Int), jO a, jJ (w.1 a (n - 3)), jJ (((w.1 a (n - 1)) * (w.1 a (n - 5))) + ((f * (w.1 a (n - 2))) * (w.1 a (n - 4))))] 0 0 w _
              refine ⟨rfl, ?_⟩
              refine jWp.calls (as := [jO a, jI (n : Int), jI 3]) (rest := [jJ (w.1 a (n - 3)), jJ (((w.1 a (n - 1)) * (w.1 a (n - 5))) + ((f * (w.1 a (n - 2))) * (w.1 a (n - 4))))]) mt rfl rfl rfl rfl ?_
              refine jCall.mono (E_back (n := n) (s := 3) ha (by omega) (by omega) (by omega) (by omega) (ht _ (by omega))) (fun v9 w9 h9 => ?_)
              obtain ⟨rfl, h9⟩ := h9
              subst w9
              show jWp 7 199 [some (jI law), some (jI f), some (jO a), some (jI (n : Int)), some (jJ f), none] [jJ (w.1 a (n - 3)), jJ (w.1 a (n - 3)), jJ (((w.1 a (n - 1)) * (w.1 a (n - 5))) + ((f * (w.1 a (n - 2))) * (w.1 a (n - 4))))] 0 0 w _
              refine jWp.blk mt 2 ?_
              show jWp 7 201 [some (jI law), some (jI f), some (jO a), some (jI (n : Int)), some (jJ f), none] [jJ ((((w.1 a (n - 1)) * (w.1 a (n - 5))) + ((f * (w.1 a (n - 2))) * (w.1 a (n - 4)))) + ((w.1 a (n - 3)) * (w.1 a (n - 3))))] 0 0 w _
              refine jWp.lret mt rfl ⟨rfl, rfl⟩ rfl ?_
              first
              | (have e : law = 0 := by omega
                 subst e
                 exact ⟨rfl, rfl⟩)
              | (have e : law = 1 := by omega
                 subst e
                 exact ⟨rfl, rfl⟩)
              | (have e : law = 2 := by omega
                 subst e
                 exact ⟨rfl, rfl⟩)
              | (have e : law = 3 := by omega
                 subst e
                 exact ⟨rfl, rfl⟩)
              | (have e : law = 4 := by omega
                 subst e
                 exact ⟨rfl, rfl⟩)
              | (have e : law = 5 := by omega
                 subst e
                 exact ⟨rfl, rfl⟩)
              | (have e : law = 6 := by omega
                 subst e
                 exact ⟨rfl, rfl⟩)
            · rw [if_neg h6]
              unfold jsw
              refine jWp.blk mt 3 ?_
              show _ ∧ jWp 7 205 [some (jI law), some (jI f), some (jO a), some (jI (n : Int)), some (jJ f), none] [jI 1, jI (n : Int), jO a] 0 0 w _
              refine ⟨rfl, ?_⟩
              refine jWp.calls (as := [jO a, jI (n : Int), jI 1]) (rest := []) mt rfl rfl rfl rfl ?_
              refine jCall.mono (E_back (n := n) (s := 1) ha (by omega) (by omega) (by omega) (by omega) (ht _ (by omega))) (fun v9 w9 h9 => ?_)
              obtain ⟨rfl, h9⟩ := h9
              subst w9
              show jWp 7 208 [some (jI law), some (jI f), some (jO a), some (jI (n : Int)), some (jJ f), none] [jJ (w.1 a (n - 1))] 0 0 w _
              refine jWp.blk mt 3 ?_
              show _ ∧ jWp 7 212 [some (jI law), some (jI f), some (jO a), some (jI (n : Int)), some (jJ f), none] [jI 7, jI (n : Int), jO a, jJ (w.1 a (n - 1))] 0 0 w _
              refine ⟨rfl, ?_⟩
              refine jWp.calls (as := [jO a, jI (n : Int), jI 7]) (rest := [jJ (w.1 a (n - 1))]) mt rfl rfl rfl rfl ?_
              refine jCall.mono (E_back (n := n) (s := 7) ha (by omega) (by omega) (by omega) (by omega) (ht _ (by omega))) (fun v9 w9 h9 => ?_)
              obtain ⟨rfl, h9⟩ := h9
              subst w9
              show jWp 7 215 [some (jI law), some (jI f), some (jO a), some (jI (n : Int)), some (jJ f), none] [jJ (w.1 a (n - 7)), jJ (w.1 a (n - 1))] 0 0 w _
              refine jWp.blk mt 4 ?_
              show _ ∧ jWp 7 219 [some (jI law), some (jI f), some (jO a), some (jI (n : Int)), some (jJ f), none] [jI 2, jI (n : Int), jO a, jJ ((w.1 a (n - 1)) * (w.1 a (n - 7)))] 0 0 w _
              refine ⟨rfl, ?_⟩
              refine jWp.calls (as := [jO a, jI (n : Int), jI 2]) (rest := [jJ ((w.1 a (n - 1)) * (w.1 a (n - 7)))]) mt rfl rfl rfl rfl ?_
              refine jCall.mono (E_back (n := n) (s := 2) ha (by omega) (by omega) (by omega) (by omega) (ht _ (by omega))) (fun v9 w9 h9 => ?_)
              obtain ⟨rfl, h9⟩ := h9
              subst w9
              show jWp 7 222 [some (jI law), some (jI f), some (jO a), some (jI (n : Int)), some (jJ f), none] [jJ (w.1 a (n - 2)), jJ ((w.1 a (n - 1)) * (w.1 a (n - 7)))] 0 0 w _
              refine jWp.blk mt 3 ?_
              show _ ∧ jWp 7 226 [some (jI law), some (jI f), some (jO a), some (jI (n : Int)), some (jJ f), none] [jI 6, jI (n : Int), jO a, jJ (w.1 a (n - 2)), jJ ((w.1 a (n - 1)) * (w.1 a (n - 7)))] 0 0 w _
              refine ⟨rfl, ?_⟩
              refine jWp.calls (as := [jO a, jI (n : Int), jI 6]) (rest := [jJ (w.1 a (n - 2)), jJ ((w.1 a (n - 1)) * (w.1 a (n - 7)))]) mt rfl rfl rfl rfl ?_
              refine jCall.mono (E_back (n := n) (s := 6) ha (by omega) (by omega) (by omega) (by omega) (ht _ (by omega))) (fun v9 w9 h9 => ?_)
              obtain ⟨rfl, h9⟩ := h9
              subst w9
              show jWp 7 229 [some (jI law), some (jI f), some (jO a), some (jI (n : Int)), some (jJ f), none] [jJ (w.1 a (n - 6)), jJ (w.1 a (n - 2)), jJ ((w.1 a (n - 1)) * (w.1 a (n - 7)))] 0 0 w _
              refine jWp.blk mt 6 ?_
              show _ ∧ jWp 7 236 [some (jI law), some (jI f), some (jO a), some (jI (n : Int)), some (jJ f), none] [jI 3, jI (n : Int), jO a, jJ f, jJ (((w.1 a (n - 1)) * (w.1 a (n - 7))) + ((w.1 a (n - 2)) * (w.1 a (n - 6))))] 0 0 w _
              refine ⟨rfl, ?_⟩
              refine jWp.calls (as := [jO a, jI (n : Int), jI 3]) (rest := [jJ f, jJ (((w.1 a (n - 1)) * (w.1 a (n - 7))) + ((w.1 a (n - 2)) * (w.1 a (n - 6))))]) mt rfl rfl rfl rfl ?_
              refine jCall.mono (E_back (n := n) (s := 3) ha (by omega) (by omega) (by omega) (by omega) (ht _ (by omega))) (fun v9 w9 h9 => ?_)
              obtain ⟨rfl, h9⟩ := h9
              subst w9
              show jWp 7 239 [some (jI law), some (jI f), some (jO a), some (jI (n : Int)), some (jJ f), none] [jJ (w.1 a (n - 3)), jJ f, jJ (((w.1 a (n - 1)) * (w.1 a (n - 7))) + ((w.1 a (n - 2)) * (w.1 a (n - 6))))] 0 0 w _
              refine jWp.blk mt 4 ?_
              show _ ∧ jWp 7 243 [some (jI law), some (jI f), some (jO a), some (jI (n : Int)), some (jJ f), none] [jI 5, jI (n : Int), jO a, jJ (f * (w.1 a (n - 3))), jJ (((w.1 a (n - 1)) * (w.1 a (n - 7))) + ((w.1 a (n - 2)) * (w.1 a (n - 6))))] 0 0 w _
              refine ⟨rfl, ?_⟩
              refine jWp.calls (as := [jO a, jI (n : Int), jI 5]) (rest := [jJ (f * (w.1 a (n - 3))), jJ (((w.1 a (n - 1)) * (w.1 a (n - 7))) + ((w.1 a (n - 2)) * (w.1 a (n - 6))))]) mt rfl rfl rfl rfl ?_
              refine jCall.mono (E_back (n := n) (s := 5) ha (by omega) (by omega) (by omega) (by omega) (ht _ (by omega))) (fun v9 w9 h9 => ?_)
              obtain ⟨rfl, h9⟩ := h9
              subst w9
              show jWp 7 246 [some (jI law), some (jI f), some (jO a), some (jI (n : Int)), some (jJ f), none] [jJ (w.1 a (n - 5)), jJ (f * (w.1 a (n - 3))), jJ (((w.1 a (n - 1)) * (w.1 a (n - 7))) + ((w.1 a (n - 2)) * (w.1 a (n - 6))))] 0 0 w _
              refine jWp.blk mt 5 ?_
              show _ ∧ jWp 7 251 [some (jI law), some (jI f), some (jO a), some (jI (n : Int)), some (jJ f), none] [jI 4, jI (n : Int), jO a, jJ ((((w.1 a (n - 1)) * (w.1 a (n - 7))) + ((w.1 a (n - 2)) * (w.1 a (n - 6)))) + ((f * (w.1 a (n - 3))) * (w.1 a (n - 5))))] 0 0 w _
              refine ⟨rfl, ?_⟩
              refine jWp.calls (as := [jO a, jI (n : Int), jI 4]) (rest := [jJ ((((w.1 a (n - 1)) * (w.1 a (n - 7))) + ((w.1 a (n - 2)) * (w.1 a (n - 6)))) + ((f * (w.1 a (n - 3))) * (w.1 a (n - 5))))]) mt rfl rfl rfl rfl ?_
              refine jCall.mono (E_back (n := n) (s := 4) ha (by omega) (by omega) (by omega) (by omega) (ht _ (by omega))) (fun v9 w9 h9 => ?_)
              obtain ⟨rfl, h9⟩ := h9
              subst w9
              show jWp 7 254 [some (jI law), some (jI f), some (jO a), some (jI (n : Int)), some (jJ f), none] [jJ (w.1 a (n - 4)), jJ ((((w.1 a (n - 1)) * (w.1 a (n - 7))) + ((w.1 a (n - 2)) * (w.1 a (n - 6)))) + ((f * (w.1 a (n - 3))) * (w.1 a (n - 5))))] 0 0 w _
              refine jWp.blk mt 3 ?_
              show _ ∧ jWp 7 257 [some (jI law), some (jI f), some (jO a), some (jI (n : Int)), some (jJ f), none] [jI 4, jI (n : Int), jO a, jJ (w.1 a (n - 4)), jJ ((((w.1 a (n - 1)) * (w.1 a (n - 7))) + ((w.1 a (n - 2)) * (w.1 a (n - 6)))) + ((f * (w.1 a (n - 3))) * (w.1 a (n - 5))))] 0 0 w _
              refine ⟨rfl, ?_⟩
              refine jWp.calls (as := [jO a, jI (n : Int), jI 4]) (rest := [jJ (w.1 a (n - 4)), jJ ((((w.1 a (n - 1)) * (w.1 a (n - 7))) + ((w.1 a (n - 2)) * (w.1 a (n - 6)))) + ((f * (w.1 a (n - 3))) * (w.1 a (n - 5))))]) mt rfl rfl rfl rfl ?_
              refine jCall.mono (E_back (n := n) (s := 4) ha (by omega) (by omega) (by omega) (by omega) (ht _ (by omega))) (fun v9 w9 h9 => ?_)
              obtain ⟨rfl, h9⟩ := h9
              subst w9
              show jWp 7 260 [some (jI law), some (jI f), some (jO a), some (jI (n : Int)), some (jJ f), none] [jJ (w.1 a (n - 4)), jJ (w.1 a (n - 4)), jJ ((((w.1 a (n - 1)) * (w.1 a (n - 7))) + ((w.1 a (n - 2)) * (w.1 a (n - 6)))) + ((f * (w.1 a (n - 3))) * (w.1 a (n - 5))))] 0 0 w _
              refine jWp.blk mt 2 ?_
              show jWp 7 262 [some (jI law), some (jI f), some (jO a), some (jI (n : Int)), some (jJ f), none] [jJ (((((w.1 a (n - 1)) * (w.1 a (n - 7))) + ((w.1 a (n - 2)) * (w.1 a (n - 6)))) + ((f * (w.1 a (n - 3))) * (w.1 a (n - 5)))) + ((w.1 a (n - 4)) * (w.1 a (n - 4))))] 0 0 w _
              refine jWp.lret mt rfl ⟨rfl, rfl⟩ rfl ?_
              first
              | (have e : law = 0 := by omega
                 subst e
                 exact ⟨rfl, rfl⟩)
              | (have e : law = 1 := by omega
                 subst e
                 exact ⟨rfl, rfl⟩)
              | (have e : law = 2 := by omega
                 subst e
                 exact ⟨rfl, rfl⟩)
              | (have e : law = 3 := by omega
                 subst e
                 exact ⟨rfl, rfl⟩)
              | (have e : law = 4 := by omega
                 subst e
                 exact ⟨rfl, rfl⟩)
              | (have e : law = 5 := by omega
                 subst e
                 exact ⟨rfl, rfl⟩)
              | (have e : law = 6 := by omega
                 subst e
                 exact ⟨rfl, rfl⟩)
set_option maxHeartbeats 4000000 in
set_option maxRecDepth 20000 in
theorem E_divisor {w : jS} {a n len : Nat} {law : Int} (hO : jOK w) (ha : w.2.1 a = (100, len)) (h0 : 0 ≤ law) (h6 : law ≤ 6) (hq : (zO law).toNat ≤ n) (hl : n ≤ len) (hln : len < 1000) (ht : ∀ j, j < n → r32 (w.1 a j)) : jCall 8 [jI law, jO a, jI (n : Int)] w (jvj (zD law (w.1 a) n) w) := by
  have mt : jtb 8 = jT8 := rfl
  have hz := zO_q hq
  have hb := zO_b h0 h6
  obtain ⟨m, hm⟩ : ∃ m : Nat, (m : Int) = zO law := ⟨(zO law).toNat, by omega⟩
  show jWp 8 0 [some (jI law), some (jO a), some (jI (n : Int))] [] 0 0 w _
  refine jWp.blk mt 1 ?_
  show jWp 8 1 [some (jI law), some (jO a), some (jI (n : Int))] [jI law] 0 0 w _
  refine jWp.ifz (pc' := 4) mt rfl rfl (b32_id (by omega) (by omega)) (fun h1 => ?_) (fun h1 => ?_)
  · have h1 : law ≠ 0 := h1
    refine jWp.blk mt 3 ?_
    show _ ∧ jWp 8 11 [some (jI law), some (jO a), some (jI (n : Int))] [jI law, jI (n : Int), jO a] 0 0 w _
    refine ⟨rfl, ?_⟩
    refine jWp.calls (as := [jI law]) (rest := [jI (n : Int), jO a]) mt rfl rfl rfl rfl ?_
    refine jCall.mono (E_orderOf hO (by omega) (by omega)) (fun v9 w9 h9 => ?_)
    obtain ⟨rfl, h9⟩ := h9
    subst w9
    show jWp 8 14 [some (jI law), some (jO a), some (jI (n : Int))] [jI (zO law), jI (n : Int), jO a] 0 0 w _
    refine jWp.calls (as := [jO a, jI (n : Int), jI (zO law)]) (rest := []) mt rfl rfl rfl rfl ?_
    refine jCall.mono ((show jCall 9 [jO a, jI (n : Int), jI (zO law)] w (jvj (w.1 a (n - m)) w) from by rw [← hm]; exact E_back (n := n) (s := m) ha (by omega) (by omega) (by omega) (by omega) (ht _ (by omega)))) (fun v9 w9 h9 => ?_)
    obtain ⟨rfl, h9⟩ := h9
    subst w9
    show jWp 8 17 [some (jI law), some (jO a), some (jI (n : Int))] [jJ (w.1 a (n - m))] 0 0 w _
    refine jWp.lret mt rfl ⟨rfl, rfl⟩ rfl ?_
    refine ⟨?_, rfl⟩
    unfold zD
    rw [if_neg (by omega), ← hm]
    rfl
  · have h1 : law = 0 := h1
    refine jWp.blk mt 2 ?_
    show jWp 8 17 [some (jI law), some (jO a), some (jI (n : Int))] [jJ 1] 0 0 w _
    refine jWp.lret mt rfl ⟨rfl, rfl⟩ rfl ?_
    have e : law = 0 := by omega
    subst e
    exact ⟨rfl, rfl⟩
set_option maxHeartbeats 4000000 in
set_option maxRecDepth 20000 in
theorem E_in {w : jS} {v a b : Int} (hv : b64 v = v) (ha : b64 a = a) (hb : b64 b = b) : jCall 135 [jJ v, jJ a, jJ b] w (jvb (a ≤ v ∧ v ≤ b) w) := by
  have mt : jtb 135 = jT135 := rfl
  show jWp 135 0 [some (jJ v), none, some (jJ a), none, some (jJ b), none] [] 0 0 w _
  refine jWp.blk mt 2 ?_
  show jWp 135 2 [some (jJ v), none, some (jJ a), none, some (jJ b), none] [jJ a, jJ v] 0 0 w _
  refine jWp.lcmp (pc' := 6) mt rfl rfl rfl hv ha (fun h1 => ?_) (fun h1 => ?_)
  · have h1 : v < a := h1
    refine jWp.blk mt 1 ?_
    show jWp 135 18 [some (jJ v), none, some (jJ a), none, some (jJ b), none] [jI 0] 0 0 w _
    refine jWp.iretz mt rfl ⟨rfl, rfl⟩ rfl (Or.inl rfl) ?_
    exact Or.inr ⟨rfl, rfl, by omega⟩
  · have h1 : a ≤ v := h1
    refine jWp.blk mt 2 ?_
    show jWp 135 9 [some (jJ v), none, some (jJ a), none, some (jJ b), none] [jJ b, jJ v] 0 0 w _
    refine jWp.lcmp (pc' := 13) mt rfl rfl rfl hv hb (fun h2 => ?_) (fun h2 => ?_)
    · have h2 : b < v := h2
      refine jWp.blk mt 1 ?_
      show jWp 135 18 [some (jJ v), none, some (jJ a), none, some (jJ b), none] [jI 0] 0 0 w _
      refine jWp.iretz mt rfl ⟨rfl, rfl⟩ rfl (Or.inl rfl) ?_
      exact Or.inr ⟨rfl, rfl, by omega⟩
    · have h2 : v ≤ b := h2
      refine jWp.blk mt 2 ?_
      show jWp 135 18 [some (jJ v), none, some (jJ a), none, some (jJ b), none] [jI 1] 0 0 w _
      refine jWp.iretz mt rfl ⟨rfl, rfl⟩ rfl (Or.inr rfl) ?_
      exact Or.inl ⟨rfl, rfl, by omega⟩
set_option maxHeartbeats 4000000 in
set_option maxRecDepth 20000 in
theorem E_order {w : jS} {law : Int} (h0 : 0 ≤ law) (h6 : law ≤ 6) : jCall 141 [jI law] w (jvi (zO law) w) := by
  have mt : jtb 141 = jT141 := rfl
  show jWp 141 0 [some (jI law)] [] 0 0 w _
  refine jWp.blk mt 2 ?_
  show jWp 141 2 [some (jI law)] [jI 2, jI law] 0 0 w _
  refine jWp.icmp (pc' := 5) mt rfl rfl (b32_id (by omega) (by omega)) (show b32 2 = 2 by decide) (fun h1 => ?_) (fun h1 => ?_)
  · have h1 : 2 ≤ law := h1
    refine jWp.blk mt 2 ?_
    show jWp 141 12 [some (jI law)] [jI 6, jI law] 0 0 w _
    refine jWp.icmp (pc' := 15) mt rfl rfl (b32_id (by omega) (by omega)) (show b32 6 = 6 by decide) (fun h2 => ?_) (fun h2 => ?_)
    · have h2 : 6 ≤ law := h2
      refine jWp.blk mt 1 ?_
      show jWp 141 23 [some (jI law)] [jI 8] 0 0 w _
      refine jWp.ireti mt rfl ⟨rfl, rfl⟩ rfl ?_
      refine ⟨?_, rfl⟩
      unfold zO
      rw [if_neg (by omega), if_neg (by omega)]
    · have h2 : law < 6 := h2
      refine jWp.blk mt 4 ?_
      show jWp 141 23 [some (jI law)] [jI (law + 1)] 0 0 w _
      refine jWp.ireti mt rfl ⟨rfl, rfl⟩ rfl ?_
      refine ⟨?_, rfl⟩
      unfold zO
      rw [if_neg (by omega), if_pos (by omega)]
  · have h1 : law < 2 := h1
    refine jWp.blk mt 2 ?_
    show jWp 141 23 [some (jI law)] [jI 2] 0 0 w _
    refine jWp.ireti mt rfl ⟨rfl, rfl⟩ rfl ?_
    refine ⟨?_, rfl⟩
    unfold zO
    rw [if_pos (by omega)]
set_option maxHeartbeats 4000000 in
set_option maxRecDepth 20000 in
theorem E_above {w : jS} {a n len : Nat} {law f : Int} (ha : w.2.1 a = (101, len)) (h0 : 0 ≤ law) (h6 : law ≤ 6) (hq : (zO law).toNat ≤ n) (hl : n ≤ len) (hln : len < 1000) : jCall 144 [jO a, jI law, jJ f, jI (n : Int)] w (jvj (zP law f (w.1 a) n) w) := by
  have mt : jtb 144 = jT144 := rfl
  have hz := zO_q hq
  show jWp 144 0 [some (jO a), some (jI law), some (jJ f), none, some (jI (n : Int))] [] 0 0 w _
  refine jWp.blk mt 1 ?_
  show jWp 144 1 [some (jO a), some (jI law), some (jJ f), none, some (jI (n : Int))] [jI law] 0 0 w _
  refine jWp.sw mt rfl (Or.inl ⟨_, _, _, _, rfl⟩) (b32_id (by omega) (by omega)) ?_
  show jWp 144 (jsw [(0, 40), (1, 56), (2, 72), (3, 88), (4, 118), (5, 148)] 192 law) [some (jO a), some (jI law), some (jJ f), none, some (jI (n : Int))] [] 0 0 w _
  unfold jsw; by_cases h1 : 0 = law
  · rw [if_pos h1]
    refine jWp.blk mt 5 ?_
    show _ ∧ jWp 144 46 [some (jO a), some (jI law), some (jJ f), none, some (jI (n : Int))] [jI ((n : Int) - 1), jO a, jJ f] 0 0 w _
    refine ⟨rfl, ?_⟩
    refine jWp.lald (pc' := 47) (j := (n - 1)) mt rfl rfl (jtg ha) (by rw [b32_id (by omega) (by omega)]; omega) (jlt ha (by omega)) ?_
    show jWp 144 47 [some (jO a), some (jI law), some (jJ f), none, some (jI (n : Int))] [jJ (w.1 a (n - 1)), jJ f] 0 0 w _
    refine jWp.blk mt 5 ?_
    show _ ∧ jWp 144 53 [some (jO a), some (jI law), some (jJ f), none, some (jI (n : Int))] [jI ((n : Int) - 2), jO a, jJ (f * (w.1 a (n - 1)))] 0 0 w _
    refine ⟨rfl, ?_⟩
    refine jWp.lald (pc' := 54) (j := (n - 2)) mt rfl rfl (jtg ha) (by rw [b32_id (by omega) (by omega)]; omega) (jlt ha (by omega)) ?_
    show jWp 144 54 [some (jO a), some (jI law), some (jJ f), none, some (jI (n : Int))] [jJ (w.1 a (n - 2)), jJ (f * (w.1 a (n - 1)))] 0 0 w _
    refine jWp.blk mt 1 ?_
    show jWp 144 55 [some (jO a), some (jI law), some (jJ f), none, some (jI (n : Int))] [jJ ((f * (w.1 a (n - 1))) - (w.1 a (n - 2)))] 0 0 w _
    refine jWp.lret mt rfl ⟨rfl, rfl⟩ rfl ?_
    first
    | (have e : law = 0 := by omega
       subst e
       exact ⟨rfl, rfl⟩)
    | (have e : law = 1 := by omega
       subst e
       exact ⟨rfl, rfl⟩)
    | (have e : law = 2 := by omega
       subst e
       exact ⟨rfl, rfl⟩)
    | (have e : law = 3 := by omega
       subst e
       exact ⟨rfl, rfl⟩)
    | (have e : law = 4 := by omega
       subst e
       exact ⟨rfl, rfl⟩)
    | (have e : law = 5 := by omega
       subst e
       exact ⟨rfl, rfl⟩)
    | (have e : law = 6 := by omega
       subst e
       exact ⟨rfl, rfl⟩)
  · rw [if_neg h1]
    unfold jsw; by_cases h2 : 1 = law
    · rw [if_pos h2]
      refine jWp.blk mt 4 ?_
      show _ ∧ jWp 144 61 [some (jO a), some (jI law), some (jJ f), none, some (jI (n : Int))] [jI ((n : Int) - 1), jO a] 0 0 w _
      refine ⟨rfl, ?_⟩
      refine jWp.lald (pc' := 62) (j := (n - 1)) mt rfl rfl (jtg ha) (by rw [b32_id (by omega) (by omega)]; omega) (jlt ha (by omega)) ?_
      show jWp 144 62 [some (jO a), some (jI law), some (jJ f), none, some (jI (n : Int))] [jJ (w.1 a (n - 1))] 0 0 w _
      refine jWp.blk mt 4 ?_
      show _ ∧ jWp 144 67 [some (jO a), some (jI law), some (jJ f), none, some (jI (n : Int))] [jI ((n : Int) - 1), jO a, jJ (w.1 a (n - 1))] 0 0 w _
      refine ⟨rfl, ?_⟩
      refine jWp.lald (pc' := 68) (j := (n - 1)) mt rfl rfl (jtg ha) (by rw [b32_id (by omega) (by omega)]; omega) (jlt ha (by omega)) ?_
      show jWp 144 68 [some (jO a), some (jI law), some (jJ f), none, some (jI (n : Int))] [jJ (w.1 a (n - 1)), jJ (w.1 a (n - 1))] 0 0 w _
      refine jWp.blk mt 3 ?_
      show jWp 144 71 [some (jO a), some (jI law), some (jJ f), none, some (jI (n : Int))] [jJ (((w.1 a (n - 1)) * (w.1 a (n - 1))) + f)] 0 0 w _
      refine jWp.lret mt rfl ⟨rfl, rfl⟩ rfl ?_
      first
      | (have e : law = 0 := by omega
         subst e
         exact ⟨rfl, rfl⟩)
      | (have e : law = 1 := by omega
         subst e
         exact ⟨rfl, rfl⟩)
      | (have e : law = 2 := by omega
         subst e
         exact ⟨rfl, rfl⟩)
      | (have e : law = 3 := by omega
         subst e
         exact ⟨rfl, rfl⟩)
      | (have e : law = 4 := by omega
         subst e
         exact ⟨rfl, rfl⟩)
      | (have e : law = 5 := by omega
         subst e
         exact ⟨rfl, rfl⟩)
      | (have e : law = 6 := by omega
         subst e
         exact ⟨rfl, rfl⟩)
    · rw [if_neg h2]
      unfold jsw; by_cases h3 : 2 = law
      · rw [if_pos h3]
        refine jWp.blk mt 4 ?_
        show _ ∧ jWp 144 77 [some (jO a), some (jI law), some (jJ f), none, some (jI (n : Int))] [jI ((n : Int) - 1), jO a] 0 0 w _
        refine ⟨rfl, ?_⟩
        refine jWp.lald (pc' := 78) (j := (n - 1)) mt rfl rfl (jtg ha) (by rw [b32_id (by omega) (by omega)]; omega) (jlt ha (by omega)) ?_
        show jWp 144 78 [some (jO a), some (jI law), some (jJ f), none, some (jI (n : Int))] [jJ (w.1 a (n - 1))] 0 0 w _
        refine jWp.blk mt 4 ?_
        show _ ∧ jWp 144 83 [some (jO a), some (jI law), some (jJ f), none, some (jI (n : Int))] [jI ((n : Int) - 2), jO a, jJ (w.1 a (n - 1))] 0 0 w _
        refine ⟨rfl, ?_⟩
        refine jWp.lald (pc' := 84) (j := (n - 2)) mt rfl rfl (jtg ha) (by rw [b32_id (by omega) (by omega)]; omega) (jlt ha (by omega)) ?_
        show jWp 144 84 [some (jO a), some (jI law), some (jJ f), none, some (jI (n : Int))] [jJ (w.1 a (n - 2)), jJ (w.1 a (n - 1))] 0 0 w _
        refine jWp.blk mt 3 ?_
        show jWp 144 87 [some (jO a), some (jI law), some (jJ f), none, some (jI (n : Int))] [jJ (((w.1 a (n - 1)) * (w.1 a (n - 2))) + f)] 0 0 w _
        refine jWp.lret mt rfl ⟨rfl, rfl⟩ rfl ?_
        first
        | (have e : law = 0 := by omega
           subst e
           exact ⟨rfl, rfl⟩)
        | (have e : law = 1 := by omega
           subst e
           exact ⟨rfl, rfl⟩)
        | (have e : law = 2 := by omega
           subst e
           exact ⟨rfl, rfl⟩)
        | (have e : law = 3 := by omega
           subst e
           exact ⟨rfl, rfl⟩)
        | (have e : law = 4 := by omega
           subst e
           exact ⟨rfl, rfl⟩)
        | (have e : law = 5 := by omega
           subst e
           exact ⟨rfl, rfl⟩)
        | (have e : law = 6 := by omega
           subst e
           exact ⟨rfl, rfl⟩)
      · rw [if_neg h3]
        unfold jsw; by_cases h4 : 3 = law
        · rw [if_pos h4]
          refine jWp.blk mt 4 ?_
          show _ ∧ jWp 144 93 [some (jO a), some (jI law), some (jJ f), none, some (jI (n : Int))] [jI ((n : Int) - 1), jO a] 0 0 w _
          refine ⟨rfl, ?_⟩
          refine jWp.lald (pc' := 94) (j := (n - 1)) mt rfl rfl (jtg ha) (by rw [b32_id (by omega) (by omega)]; omega) (jlt ha (by omega)) ?_
          show jWp 144 94 [some (jO a), some (jI law), some (jJ f), none, some (jI (n : Int))] [jJ (w.1 a (n - 1))] 0 0 w _
          refine jWp.blk mt 4 ?_
          show _ ∧ jWp 144 99 [some (jO a), some (jI law), some (jJ f), none, some (jI (n : Int))] [jI ((n : Int) - 3), jO a, jJ (w.1 a (n - 1))] 0 0 w _
          refine ⟨rfl, ?_⟩
          refine jWp.lald (pc' := 100) (j := (n - 3)) mt rfl rfl (jtg ha) (by rw [b32_id (by omega) (by omega)]; omega) (jlt ha (by omega)) ?_
          show jWp 144 100 [some (jO a), some (jI law), some (jJ f), none, some (jI (n : Int))] [jJ (w.1 a (n - 3)), jJ (w.1 a (n - 1))] 0 0 w _
          refine jWp.blk mt 6 ?_
          show _ ∧ jWp 144 107 [some (jO a), some (jI law), some (jJ f), none, some (jI (n : Int))] [jI ((n : Int) - 2), jO a, jJ f, jJ ((w.1 a (n - 1)) * (w.1 a (n - 3)))] 0 0 w _
          refine ⟨rfl, ?_⟩
          refine jWp.lald (pc' := 108) (j := (n - 2)) mt rfl rfl (jtg ha) (by rw [b32_id (by omega) (by omega)]; omega) (jlt ha (by omega)) ?_
          show jWp 144 108 [some (jO a), some (jI law), some (jJ f), none, some (jI (n : Int))] [jJ (w.1 a (n - 2)), jJ f, jJ ((w.1 a (n - 1)) * (w.1 a (n - 3)))] 0 0 w _
          refine jWp.blk mt 5 ?_
          show _ ∧ jWp 144 114 [some (jO a), some (jI law), some (jJ f), none, some (jI (n : Int))] [jI ((n : Int) - 2), jO a, jJ (f * (w.1 a (n - 2))), jJ ((w.1 a (n - 1)) * (w.1 a (n - 3)))] 0 0 w _
          refine ⟨rfl, ?_⟩
          refine jWp.lald (pc' := 115) (j := (n - 2)) mt rfl rfl (jtg ha) (by rw [b32_id (by omega) (by omega)]; omega) (jlt ha (by omega)) ?_
          show jWp 144 115 [some (jO a), some (jI law), some (jJ f), none, some (jI (n : Int))] [jJ (w.1 a (n - 2)), jJ (f * (w.1 a (n - 2))), jJ ((w.1 a (n - 1)) * (w.1 a (n - 3)))] 0 0 w _
          refine jWp.blk mt 2 ?_
          show jWp 144 117 [some (jO a), some (jI law), some (jJ f), none, some (jI (n : Int))] [jJ (((w.1 a (n - 1)) * (w.1 a (n - 3))) + ((f * (w.1 a (n - 2))) * (w.1 a (n - 2))))] 0 0 w _
          refine jWp.lret mt rfl ⟨rfl, rfl⟩ rfl ?_
          first
          | (have e : law = 0 := by omega
             subst e
             exact ⟨rfl, rfl⟩)
          | (have e : law = 1 := by omega
             subst e
             exact ⟨rfl, rfl⟩)
          | (have e : law = 2 := by omega
             subst e
             exact ⟨rfl, rfl⟩)
          | (have e : law = 3 := by omega
             subst e
             exact ⟨rfl, rfl⟩)
          | (have e : law = 4 := by omega
             subst e
             exact ⟨rfl, rfl⟩)
          | (have e : law = 5 := by omega
             subst e
             exact ⟨rfl, rfl⟩)
          | (have e : law = 6 := by omega
             subst e
             exact ⟨rfl, rfl⟩)
        · rw [if_neg h4]
          unfold jsw; by_cases h5 : 4 = law
          · rw [if_pos h5]
            refine jWp.blk mt 4 ?_
            show _ ∧ jWp 144 123 [some (jO a), some (jI law), some (jJ f), none, some (jI (n : Int))] [jI ((n : Int) - 1), jO a] 0 0 w _
            refine ⟨rfl, ?_⟩
            refine jWp.lald (pc' := 124) (j := (n - 1)) mt rfl rfl (jtg ha) (by rw [b32_id (by omega) (by omega)]; omega) (jlt ha (by omega)) ?_
            show jWp 144 124 [some (jO a), some (jI law), some (jJ f), none, some (jI (n : Int))] [jJ (w.1 a (n - 1))] 0 0 w _
            refine jWp.blk mt 4 ?_
            show _ ∧ jWp 144 129 [some (jO a), some (jI law), some (jJ f), none, some (jI (n : Int))] [jI ((n : Int) - 4), jO a, jJ (w.1 a (n - 1))] 0 0 w _
            refine ⟨rfl, ?_⟩
            refine jWp.lald (pc' := 130) (j := (n - 4)) mt rfl rfl (jtg ha) (by rw [b32_id (by omega) (by omega)]; omega) (jlt ha (by omega)) ?_
            show jWp 144 130 [some (jO a), some (jI law), some (jJ f), none, some (jI (n : Int))] [jJ (w.1 a (n - 4)), jJ (w.1 a (n - 1))] 0 0 w _
            refine jWp.blk mt 6 ?_
            show _ ∧ jWp 144 137 [some (jO a), some (jI law), some (jJ f), none, some (jI (n : Int))] [jI ((n : Int) - 2), jO a, jJ f, jJ ((w.1 a (n - 1)) * (w.1 a (n - 4)))] 0 0 w _
            refine ⟨rfl, ?_⟩
            refine jWp.lald (pc' := 138) (j := (n - 2)) mt rfl rfl (jtg ha) (by rw [b32_id (by omega) (by omega)]; omega) (jlt ha (by omega)) ?_
            show jWp 144 138 [some (jO a), some (jI law), some (jJ f), none, some (jI (n : Int))] [jJ (w.1 a (n - 2)), jJ f, jJ ((w.1 a (n - 1)) * (w.1 a (n - 4)))] 0 0 w _
            refine jWp.blk mt 5 ?_
            show _ ∧ jWp 144 144 [some (jO a), some (jI law), some (jJ f), none, some (jI (n : Int))] [jI ((n : Int) - 3), jO a, jJ (f * (w.1 a (n - 2))), jJ ((w.1 a (n - 1)) * (w.1 a (n - 4)))] 0 0 w _
            refine ⟨rfl, ?_⟩
            refine jWp.lald (pc' := 145) (j := (n - 3)) mt rfl rfl (jtg ha) (by rw [b32_id (by omega) (by omega)]; omega) (jlt ha (by omega)) ?_
            show jWp 144 145 [some (jO a), some (jI law), some (jJ f), none, some (jI (n : Int))] [jJ (w.1 a (n - 3)), jJ (f * (w.1 a (n - 2))), jJ ((w.1 a (n - 1)) * (w.1 a (n - 4)))] 0 0 w _
            refine jWp.blk mt 2 ?_
            show jWp 144 147 [some (jO a), some (jI law), some (jJ f), none, some (jI (n : Int))] [jJ (((w.1 a (n - 1)) * (w.1 a (n - 4))) + ((f * (w.1 a (n - 2))) * (w.1 a (n - 3))))] 0 0 w _
            refine jWp.lret mt rfl ⟨rfl, rfl⟩ rfl ?_
            first
            | (have e : law = 0 := by omega
               subst e
               exact ⟨rfl, rfl⟩)
            | (have e : law = 1 := by omega
               subst e
               exact ⟨rfl, rfl⟩)
            | (have e : law = 2 := by omega
               subst e
               exact ⟨rfl, rfl⟩)
            | (have e : law = 3 := by omega
               subst e
               exact ⟨rfl, rfl⟩)
            | (have e : law = 4 := by omega
               subst e
               exact ⟨rfl, rfl⟩)
            | (have e : law = 5 := by omega
               subst e
               exact ⟨rfl, rfl⟩)
            | (have e : law = 6 := by omega
               subst e
               exact ⟨rfl, rfl⟩)
          · rw [if_neg h5]
            unfold jsw; by_cases h6 : 5 = law
            · rw [if_pos h6]
              refine jWp.blk mt 4 ?_
              show _ ∧ jWp 144 153 [some (jO a), some (jI law), some (jJ f), none, some (jI (n : Int))] [jI ((n : Int) - 1), jO a] 0 0 w _
              refine ⟨rfl, ?_⟩
              refine jWp.lald (pc' := 154) (j := (n - 1)) mt rfl rfl (jtg ha) (by rw [b32_id (by omega) (by omega)]; omega) (jlt ha (by omega)) ?_
              show jWp 144 154 [some (jO a), some (jI law), some (jJ f), none, some (jI (n : Int))] [jJ (w.1 a (n - 1))] 0 0 w _
              refine jWp.blk mt 4 ?_
              show _ ∧ jWp 144 159 [some (jO a), some (jI law), some (jJ f), none, some (jI (n : Int))] [jI ((n : Int) - 5), jO a, jJ (w.1 a (n - 1))] 0 0 w _
              refine ⟨rfl, ?_⟩
              refine jWp.lald (pc' := 160) (j := (n - 5)) mt rfl rfl (jtg ha) (by rw [b32_id (by omega) (by omega)]; omega) (jlt ha (by omega)) ?_
              show jWp 144 160 [some (jO a), some (jI law), some (jJ f), none, some (jI (n : Int))] [jJ (w.1 a (n - 5)), jJ (w.1 a (n - 1))] 0 0 w _
              refine jWp.blk mt 6 ?_
              show _ ∧ jWp 144 167 [some (jO a), some (jI law), some (jJ f), none, some (jI (n : Int))] [jI ((n : Int) - 2), jO a, jJ f, jJ ((w.1 a (n - 1)) * (w.1 a (n - 5)))] 0 0 w _
              refine ⟨rfl, ?_⟩
              refine jWp.lald (pc' := 168) (j := (n - 2)) mt rfl rfl (jtg ha) (by rw [b32_id (by omega) (by omega)]; omega) (jlt ha (by omega)) ?_
              show jWp 144 168 [some (jO a), some (jI law), some (jJ f), none, some (jI (n : Int))] [jJ (w.1 a (n - 2)), jJ f, jJ ((w.1 a (n - 1)) * (w.1 a (n - 5)))] 0 0 w _
              refine jWp.blk mt 5 ?_
              show _ ∧ jWp 144 174 [some (jO a), some (jI law), some (jJ f), none, some (jI (n : Int))] [jI ((n : Int) - 4), jO a, jJ (f * (w.1 a (n - 2))), jJ ((w.1 a (n - 1)) * (w.1 a (n - 5)))] 0 0 w _
              refine ⟨rfl, ?_⟩
              refine jWp.lald (pc' := 175) (j := (n - 4)) mt rfl rfl (jtg ha) (by rw [b32_id (by omega) (by omega)]; omega) (jlt ha (by omega)) ?_
              show jWp 144 175 [some (jO a), some (jI law), some (jJ f), none, some (jI (n : Int))] [jJ (w.1 a (n - 4)), jJ (f * (w.1 a (n - 2))), jJ ((w.1 a (n - 1)) * (w.1 a (n - 5)))] 0 0 w _
              refine jWp.blk mt 6 ?_
              show _ ∧ jWp 144 182 [some (jO a), some (jI law), some (jJ f), none, some (jI (n : Int))] [jI ((n : Int) - 3), jO a, jJ (((w.1 a (n - 1)) * (w.1 a (n - 5))) + ((f * (w.1 a (n - 2))) * (w.1 a (n - 4))))] 0 0 w _
              refine ⟨rfl, ?_⟩
              refine jWp.lald (pc' := 183) (j := (n - 3)) mt rfl rfl (jtg ha) (by rw [b32_id (by omega) (by omega)]; omega) (jlt ha (by omega)) ?_
              show jWp 144 183 [some (jO a), some (jI law), some (jJ f), none, some (jI (n : Int))] [jJ (w.1 a (n - 3)), jJ (((w.1 a (n - 1)) * (w.1 a (n - 5))) + ((f * (w.1 a (n - 2))) * (w.1 a (n - 4))))] 0 0 w _
              refine jWp.blk mt 4 ?_
              show _ ∧ jWp 144 188 [some (jO a), some (jI law), some (jJ f), none, some (jI (n : Int))] [jI ((n : Int) - 3), jO a, jJ (w.1 a (n - 3)), jJ (((w.1 a (n - 1)) * (w.1 a (n - 5))) + ((f * (w.1 a (n - 2))) * (w.1 a (n - 4))))] 0 0 w _
              refine ⟨rfl, ?_⟩
              refine jWp.lald (pc' := 189) (j := (n - 3)) mt rfl rfl (jtg ha) (by rw [b32_id (by omega) (by omega)]; omega) (jlt ha (by omega)) ?_
              show jWp 144 189 [some (jO a), some (jI law), some (jJ f), none, some (jI (n : Int))] [jJ (w.1 a (n - 3)), jJ (w.1 a (n - 3)), jJ (((w.1 a (n - 1)) * (w.1 a (n - 5))) + ((f * (w.1 a (n - 2))) * (w.1 a (n - 4))))] 0 0 w _
              refine jWp.blk mt 2 ?_
              show jWp 144 191 [some (jO a), some (jI law), some (jJ f), none, some (jI (n : Int))] [jJ ((((w.1 a (n - 1)) * (w.1 a (n - 5))) + ((f * (w.1 a (n - 2))) * (w.1 a (n - 4)))) + ((w.1 a (n - 3)) * (w.1 a (n - 3))))] 0 0 w _
              refine jWp.lret mt rfl ⟨rfl, rfl⟩ rfl ?_
              first
              | (have e : law = 0 := by omega
                 subst e
                 exact ⟨rfl, rfl⟩)
              | (have e : law = 1 := by omega
                 subst e
                 exact ⟨rfl, rfl⟩)
              | (have e : law = 2 := by omega
                 subst e
                 exact ⟨rfl, rfl⟩)
              | (have e : law = 3 := by omega
                 subst e
                 exact ⟨rfl, rfl⟩)
              | (have e : law = 4 := by omega
                 subst e
                 exact ⟨rfl, rfl⟩)
              | (have e : law = 5 := by omega
                 subst e
                 exact ⟨rfl, rfl⟩)
              | (have e : law = 6 := by omega
                 subst e
                 exact ⟨rfl, rfl⟩)
            · rw [if_neg h6]
              unfold jsw
              refine jWp.blk mt 4 ?_
              show _ ∧ jWp 144 197 [some (jO a), some (jI law), some (jJ f), none, some (jI (n : Int))] [jI ((n : Int) - 1), jO a] 0 0 w _
              refine ⟨rfl, ?_⟩
              refine jWp.lald (pc' := 198) (j := (n - 1)) mt rfl rfl (jtg ha) (by rw [b32_id (by omega) (by omega)]; omega) (jlt ha (by omega)) ?_
              show jWp 144 198 [some (jO a), some (jI law), some (jJ f), none, some (jI (n : Int))] [jJ (w.1 a (n - 1))] 0 0 w _
              refine jWp.blk mt 4 ?_
              show _ ∧ jWp 144 204 [some (jO a), some (jI law), some (jJ f), none, some (jI (n : Int))] [jI ((n : Int) - 7), jO a, jJ (w.1 a (n - 1))] 0 0 w _
              refine ⟨rfl, ?_⟩
              refine jWp.lald (pc' := 205) (j := (n - 7)) mt rfl rfl (jtg ha) (by rw [b32_id (by omega) (by omega)]; omega) (jlt ha (by omega)) ?_
              show jWp 144 205 [some (jO a), some (jI law), some (jJ f), none, some (jI (n : Int))] [jJ (w.1 a (n - 7)), jJ (w.1 a (n - 1))] 0 0 w _
              refine jWp.blk mt 5 ?_
              show _ ∧ jWp 144 211 [some (jO a), some (jI law), some (jJ f), none, some (jI (n : Int))] [jI ((n : Int) - 2), jO a, jJ ((w.1 a (n - 1)) * (w.1 a (n - 7)))] 0 0 w _
              refine ⟨rfl, ?_⟩
              refine jWp.lald (pc' := 212) (j := (n - 2)) mt rfl rfl (jtg ha) (by rw [b32_id (by omega) (by omega)]; omega) (jlt ha (by omega)) ?_
              show jWp 144 212 [some (jO a), some (jI law), some (jJ f), none, some (jI (n : Int))] [jJ (w.1 a (n - 2)), jJ ((w.1 a (n - 1)) * (w.1 a (n - 7)))] 0 0 w _
              refine jWp.blk mt 4 ?_
              show _ ∧ jWp 144 218 [some (jO a), some (jI law), some (jJ f), none, some (jI (n : Int))] [jI ((n : Int) - 6), jO a, jJ (w.1 a (n - 2)), jJ ((w.1 a (n - 1)) * (w.1 a (n - 7)))] 0 0 w _
              refine ⟨rfl, ?_⟩
              refine jWp.lald (pc' := 219) (j := (n - 6)) mt rfl rfl (jtg ha) (by rw [b32_id (by omega) (by omega)]; omega) (jlt ha (by omega)) ?_
              show jWp 144 219 [some (jO a), some (jI law), some (jJ f), none, some (jI (n : Int))] [jJ (w.1 a (n - 6)), jJ (w.1 a (n - 2)), jJ ((w.1 a (n - 1)) * (w.1 a (n - 7)))] 0 0 w _
              refine jWp.blk mt 7 ?_
              show _ ∧ jWp 144 227 [some (jO a), some (jI law), some (jJ f), none, some (jI (n : Int))] [jI ((n : Int) - 3), jO a, jJ f, jJ (((w.1 a (n - 1)) * (w.1 a (n - 7))) + ((w.1 a (n - 2)) * (w.1 a (n - 6))))] 0 0 w _
              refine ⟨rfl, ?_⟩
              refine jWp.lald (pc' := 228) (j := (n - 3)) mt rfl rfl (jtg ha) (by rw [b32_id (by omega) (by omega)]; omega) (jlt ha (by omega)) ?_
              show jWp 144 228 [some (jO a), some (jI law), some (jJ f), none, some (jI (n : Int))] [jJ (w.1 a (n - 3)), jJ f, jJ (((w.1 a (n - 1)) * (w.1 a (n - 7))) + ((w.1 a (n - 2)) * (w.1 a (n - 6))))] 0 0 w _
              refine jWp.blk mt 5 ?_
              show _ ∧ jWp 144 234 [some (jO a), some (jI law), some (jJ f), none, some (jI (n : Int))] [jI ((n : Int) - 5), jO a, jJ (f * (w.1 a (n - 3))), jJ (((w.1 a (n - 1)) * (w.1 a (n - 7))) + ((w.1 a (n - 2)) * (w.1 a (n - 6))))] 0 0 w _
              refine ⟨rfl, ?_⟩
              refine jWp.lald (pc' := 235) (j := (n - 5)) mt rfl rfl (jtg ha) (by rw [b32_id (by omega) (by omega)]; omega) (jlt ha (by omega)) ?_
              show jWp 144 235 [some (jO a), some (jI law), some (jJ f), none, some (jI (n : Int))] [jJ (w.1 a (n - 5)), jJ (f * (w.1 a (n - 3))), jJ (((w.1 a (n - 1)) * (w.1 a (n - 7))) + ((w.1 a (n - 2)) * (w.1 a (n - 6))))] 0 0 w _
              refine jWp.blk mt 6 ?_
              show _ ∧ jWp 144 242 [some (jO a), some (jI law), some (jJ f), none, some (jI (n : Int))] [jI ((n : Int) - 4), jO a, jJ ((((w.1 a (n - 1)) * (w.1 a (n - 7))) + ((w.1 a (n - 2)) * (w.1 a (n - 6)))) + ((f * (w.1 a (n - 3))) * (w.1 a (n - 5))))] 0 0 w _
              refine ⟨rfl, ?_⟩
              refine jWp.lald (pc' := 243) (j := (n - 4)) mt rfl rfl (jtg ha) (by rw [b32_id (by omega) (by omega)]; omega) (jlt ha (by omega)) ?_
              show jWp 144 243 [some (jO a), some (jI law), some (jJ f), none, some (jI (n : Int))] [jJ (w.1 a (n - 4)), jJ ((((w.1 a (n - 1)) * (w.1 a (n - 7))) + ((w.1 a (n - 2)) * (w.1 a (n - 6)))) + ((f * (w.1 a (n - 3))) * (w.1 a (n - 5))))] 0 0 w _
              refine jWp.blk mt 4 ?_
              show _ ∧ jWp 144 248 [some (jO a), some (jI law), some (jJ f), none, some (jI (n : Int))] [jI ((n : Int) - 4), jO a, jJ (w.1 a (n - 4)), jJ ((((w.1 a (n - 1)) * (w.1 a (n - 7))) + ((w.1 a (n - 2)) * (w.1 a (n - 6)))) + ((f * (w.1 a (n - 3))) * (w.1 a (n - 5))))] 0 0 w _
              refine ⟨rfl, ?_⟩
              refine jWp.lald (pc' := 249) (j := (n - 4)) mt rfl rfl (jtg ha) (by rw [b32_id (by omega) (by omega)]; omega) (jlt ha (by omega)) ?_
              show jWp 144 249 [some (jO a), some (jI law), some (jJ f), none, some (jI (n : Int))] [jJ (w.1 a (n - 4)), jJ (w.1 a (n - 4)), jJ ((((w.1 a (n - 1)) * (w.1 a (n - 7))) + ((w.1 a (n - 2)) * (w.1 a (n - 6)))) + ((f * (w.1 a (n - 3))) * (w.1 a (n - 5))))] 0 0 w _
              refine jWp.blk mt 2 ?_
              show jWp 144 251 [some (jO a), some (jI law), some (jJ f), none, some (jI (n : Int))] [jJ (((((w.1 a (n - 1)) * (w.1 a (n - 7))) + ((w.1 a (n - 2)) * (w.1 a (n - 6)))) + ((f * (w.1 a (n - 3))) * (w.1 a (n - 5)))) + ((w.1 a (n - 4)) * (w.1 a (n - 4))))] 0 0 w _
              refine jWp.lret mt rfl ⟨rfl, rfl⟩ rfl ?_
              first
              | (have e : law = 0 := by omega
                 subst e
                 exact ⟨rfl, rfl⟩)
              | (have e : law = 1 := by omega
                 subst e
                 exact ⟨rfl, rfl⟩)
              | (have e : law = 2 := by omega
                 subst e
                 exact ⟨rfl, rfl⟩)
              | (have e : law = 3 := by omega
                 subst e
                 exact ⟨rfl, rfl⟩)
              | (have e : law = 4 := by omega
                 subst e
                 exact ⟨rfl, rfl⟩)
              | (have e : law = 5 := by omega
                 subst e
                 exact ⟨rfl, rfl⟩)
              | (have e : law = 6 := by omega
                 subst e
                 exact ⟨rfl, rfl⟩)
set_option maxHeartbeats 4000000 in
set_option maxRecDepth 20000 in
theorem E_below {w : jS} {a n len : Nat} {law : Int} (ha : w.2.1 a = (101, len)) (h0 : 0 ≤ law) (h6 : law ≤ 6) (hq : (zO law).toNat ≤ n) (hl : n ≤ len) (hln : len < 1000) : jCall 145 [jO a, jI law, jI (n : Int)] w (jvj (zD law (w.1 a) n) w) := by
  have mt : jtb 145 = jT145 := rfl
  have hz := zO_q hq
  have hb := zO_b h0 h6
  obtain ⟨m, hm⟩ : ∃ m : Nat, (m : Int) = zO law := ⟨(zO law).toNat, by omega⟩
  show jWp 145 0 [some (jO a), some (jI law), some (jI (n : Int))] [] 0 0 w _
  refine jWp.blk mt 1 ?_
  show jWp 145 1 [some (jO a), some (jI law), some (jI (n : Int))] [jI law] 0 0 w _
  refine jWp.ifz (pc' := 4) mt rfl rfl (b32_id (by omega) (by omega)) (fun h1 => ?_) (fun h1 => ?_)
  · have h1 : law ≠ 0 := h1
    refine jWp.blk mt 3 ?_
    show _ ∧ jWp 145 11 [some (jO a), some (jI law), some (jI (n : Int))] [jI law, jI (n : Int), jO a] 0 0 w _
    refine ⟨rfl, ?_⟩
    refine jWp.calls (as := [jI law]) (rest := [jI (n : Int), jO a]) mt rfl rfl rfl rfl ?_
    refine jCall.mono (E_order (by omega) (by omega)) (fun v9 w9 h9 => ?_)
    obtain ⟨rfl, h9⟩ := h9
    subst w9
    show jWp 145 14 [some (jO a), some (jI law), some (jI (n : Int))] [jI (zO law), jI (n : Int), jO a] 0 0 w _
    refine jWp.blk mt 1 ?_
    show jWp 145 15 [some (jO a), some (jI law), some (jI (n : Int))] [jI ((n : Int) - (zO law)), jO a] 0 0 w _
    refine jWp.lald (pc' := 16) (j := (n - m)) mt rfl rfl (jtg ha) (by rw [b32_id (by omega) (by omega)]; omega) (jlt ha (by omega)) ?_
    show jWp 145 16 [some (jO a), some (jI law), some (jI (n : Int))] [jJ (w.1 a (n - m))] 0 0 w _
    refine jWp.lret mt rfl ⟨rfl, rfl⟩ rfl ?_
    refine ⟨?_, rfl⟩
    unfold zD
    rw [if_neg (by omega), ← hm]
    rfl
  · have h1 : law = 0 := h1
    refine jWp.blk mt 2 ?_
    show jWp 145 16 [some (jO a), some (jI law), some (jI (n : Int))] [jJ 1] 0 0 w _
    refine jWp.lret mt rfl ⟨rfl, rfl⟩ rfl ?_
    have e : law = 0 := by omega
    subst e
    exact ⟨rfl, rfl⟩
end
section
theorem zg_step {X Y i : Nat} (hy : 0 < Y) (hx1 : X < 9223372036854775808) (hy1 : Y < 9223372036854775808) (hP : i = 0 ∨ (Y ≤ X ∧ X * Y < 2 ^ (127 - i))) : X % Y ≤ Y ∧ Y * (X % Y) < 2 ^ (127 - (i + 1)) := by
  have hr : X % Y < Y := Nat.mod_lt _ hy
  refine ⟨Nat.le_of_lt hr, ?_⟩
  rcases hP with rfl | ⟨h1, h2⟩
  · have h3 : Y * (X % Y) ≤ Y * Y := Nat.mul_le_mul_left _ (Nat.le_of_lt hr)
    have h4 : Y * Y < 9223372036854775808 * 9223372036854775808 := Nat.mul_lt_mul_of_lt_of_lt hy1 hy1
    have e : (2 : Nat) ^ (127 - (0 + 1)) = 9223372036854775808 * 9223372036854775808 := by decide
    omega
  · have hq : 1 ≤ X / Y := (Nat.le_div_iff_mul_le hy).mpr (by omega)
    have hd : Y * (X / Y) + X % Y = X := Nat.div_add_mod X Y
    have h3 : Y ≤ Y * (X / Y) := Nat.le_mul_of_pos_right _ hq
    have h4 : 2 * (X % Y) < X := by omega
    have h5 : Y * (2 * (X % Y)) < Y * X := Nat.mul_lt_mul_of_pos_left h4 hy
    have h6 : Y * (2 * (X % Y)) = 2 * (Y * (X % Y)) := Nat.mul_left_comm _ _ _
    have h7 : Y * X = X * Y := Nat.mul_comm _ _
    rcases Nat.lt_or_ge i 127 with h | h
    · have e : (2 : Nat) ^ (127 - i) = 2 * 2 ^ (127 - (i + 1)) := by
        rw [show 127 - i = (127 - (i + 1)) + 1 by omega, Nat.pow_succ, Nat.mul_comm]
      omega
    · rw [show 127 - i = 0 by omega] at h2
      have : 0 < X * Y := Nat.mul_pos (by omega) hy
      omega
def zg (a b : Int) : Int := (Int.gcd a b : Int)
theorem zabs (x : Int) : jabs x = (x.natAbs : Int) := by
  unfold jabs
  split <;> omega
theorem ztm (X Y : Nat) : Int.tmod (X : Int) (Y : Int) = ((X % Y : Nat) : Int) := rfl
set_option maxHeartbeats 4000000 in
set_option maxRecDepth 20000 in
theorem E_gcd {w : jS} {a b : Int} (ha : -9223372036854775808 < a ∧ a < 9223372036854775808) (hb : -9223372036854775808 < b ∧ b < 9223372036854775808) : jCall 133 [jJ a, jJ b] w (jvj (zg a b) w) := by
  have mt : jtb 133 = jT133 := rfl
  show jWp 133 0 [some (jJ a), none, some (jJ b), none, none, none, none, none, none, none, none] [] 0 0 w _
  refine jWp.blk mt 1 ?_
  show jWp 133 1 [some (jJ a), none, some (jJ b), none, none, none, none, none, none, none, none] [jJ a] 0 0 w _
  refine jWp.absJ (pc' := 4) mt rfl rfl rfl (b64_id (by omega) (by omega)) ?_
  show jWp 133 4 [some (jJ a), none, some (jJ b), none, none, none, none, none, none, none, none] [jJ (jabs a)] 0 0 w _
  refine jWp.blk mt 2 ?_
  show jWp 133 7 [some (jJ a), none, some (jJ b), none, some (jJ (jabs a)), none, none, none, none, none, none] [jJ b] 0 0 w _
  refine jWp.absJ (pc' := 10) mt rfl rfl rfl (b64_id (by omega) (by omega)) ?_
  show jWp 133 10 [some (jJ a), none, some (jJ b), none, some (jJ (jabs a)), none, none, none, none, none, none] [jJ (jabs b)] 0 0 w _
  refine jWp.blk mt 3 ?_
  show jWp 133 15 [some (jJ a), none, some (jJ b), none, some (jJ (jabs a)), none, some (jJ (jabs b)), none, some (jI 0), none, none] [] 0 0 w _
  have lp1 : ∀ (N : Nat) (i X Y : Nat) (hg : Nat.gcd X Y = Int.gcd a b) (hX : X < 9223372036854775808) (hY : Y < 9223372036854775808) (hP : i = 0 ∨ (Y ≤ X ∧ X * Y < 2 ^ (127 - i))) (hi : i ≤ 200), 200 - i < N → jWp 133 15 [none, none, none, none, some (jJ (X : Int)), none, some (jJ (Y : Int)), none, some (jI (i : Int)), none, none] [] 0 0 w (jvj (zg a b) w) := by
    intro N
    induction N with
    | zero => intro i X Y hg hX hY hP hi hm; omega
    | succ N ih2 =>
      intro i X Y hg hX hY hP hi hm
      refine jWp.blk mt 2 ?_
      show jWp 133 20 [none, none, none, none, some (jJ (X : Int)), none, some (jJ (Y : Int)), none, some (jI (i : Int)), none, none] [jI 200, jI (i : Int)] 0 0 w _
      refine jWp.icmp (pc' := 23) mt rfl rfl (b32_id (by omega) (by omega)) (show b32 200 = 200 by decide) (fun h3 => ?_) (fun h3 => ?_)
      · have h3 : 200 ≤ (i : Int) := h3
        refine jWp.blk mt 1 ?_
        show jWp 133 53 [none, none, none, none, some (jJ (X : Int)), none, some (jJ (Y : Int)), none, some (jI (i : Int)), none, none] [jJ (X : Int)] 0 0 w _
        refine jWp.lret mt rfl ⟨rfl, rfl⟩ rfl ?_
        refine ⟨?_, rfl⟩
        have hz : Y = 0 := by
          first
          | omega
          | (rcases hP with e | ⟨e1, e2⟩
             · omega
             · rw [show 127 - i = 0 by omega] at e2
               rcases Nat.eq_zero_or_pos Y with e | e
               · exact e
               · have : 0 < X * Y := Nat.mul_pos (by omega) e
                 omega)
        subst hz
        show some (jJ (X : Int)) = some (jJ ((Int.gcd a b : Nat) : Int))
        rw [← hg, Nat.gcd_zero_right]
      · have h3 : (i : Int) < 200 := h3
        refine jWp.blk mt 2 ?_
        show jWp 133 26 [none, none, none, none, some (jJ (X : Int)), none, some (jJ (Y : Int)), none, some (jI (i : Int)), none, none] [jJ 0, jJ (Y : Int)] 0 0 w _
        refine jWp.lcmp (pc' := 30) mt rfl rfl rfl (b64_id (by omega) (by omega)) (show b64 0 = 0 by decide) (fun h4 => ?_) (fun h4 => ?_)
        · have h4 : (Y : Int) = 0 := h4
          refine jWp.blk mt 1 ?_
          show jWp 133 53 [none, none, none, none, some (jJ (X : Int)), none, some (jJ (Y : Int)), none, some (jI (i : Int)), none, none] [jJ (X : Int)] 0 0 w _
          refine jWp.lret mt rfl ⟨rfl, rfl⟩ rfl ?_
          refine ⟨?_, rfl⟩
          have hz : Y = 0 := by
            first
            | omega
            | (rcases hP with e | ⟨e1, e2⟩
               · omega
               · rw [show 127 - i = 0 by omega] at e2
                 rcases Nat.eq_zero_or_pos Y with e | e
                 · exact e
                 · have : 0 < X * Y := Nat.mul_pos (by omega) e
                   omega)
          subst hz
          show some (jJ (X : Int)) = some (jJ ((Int.gcd a b : Nat) : Int))
          rw [← hg, Nat.gcd_zero_right]
        · have h4 : (Y : Int) ≠ 0 := h4
          refine jWp.blk mt 2 ?_
          show jWp 133 34 [none, none, none, none, some (jJ (X : Int)), none, some (jJ (Y : Int)), none, some (jI (i : Int)), none, none] [jJ (Y : Int), jJ (X : Int)] 0 0 w _
          refine jWp.lrem (pc' := 35) mt rfl rfl (b64_id (by omega) (by omega)) (b64_id (by omega) (by omega)) (by omega) ?_
          show jWp 133 35 [none, none, none, none, some (jJ (X : Int)), none, some (jJ (Y : Int)), none, some (jI (i : Int)), none, none] [jJ (Int.tmod (X : Int) (Y : Int))] 0 0 w _
          refine jWp.blk mt 7 ?_
          show jWp 133 15 [none, none, none, none, some (jJ (Y : Int)), none, some (jJ (Int.tmod (X : Int) (Y : Int))), none, some (jI ((i : Int) + 1)), some (jJ (Int.tmod (X : Int) (Y : Int))), none] [] 0 0 w _
          refine jWp.le (l := [none, none, none, none, some (jJ (Y : Int)), none, some (jJ (Int.tmod (X : Int) (Y : Int))), none, some (jI ((i : Int) + 1)), none, none]) (by exact ⟨rfl, rfl, rfl, trivial⟩) ?_
          exact ih2 (i + 1) Y (X % Y) (by rw [← hg, Nat.gcd_comm X Y, Nat.gcd_rec Y X, Nat.gcd_comm]) hY (by have := (zg_step (by omega) hX hY hP).1; omega) (Or.inr (zg_step (by omega) hX hY hP)) (by omega) (by omega)
  refine jWp.le (l := [none, none, none, none, some (jJ (jabs a)), none, some (jJ (jabs b)), none, some (jI 0), none, none]) (by exact ⟨rfl, rfl, rfl, trivial⟩) ?_
  rw [zabs, zabs]
  exact lp1 _ 0 a.natAbs b.natAbs rfl (by omega) (by omega) (Or.inl rfl) (by omega) (Nat.lt_succ_self _)
end
section
theorem jW_s {w : jS} {a k : Nat} {x : Int} : (jW w a k x).1 a k = x := if_pos ⟨rfl, rfl⟩
theorem jW_k {w : jS} {a k k' : Nat} {x : Int} (h : k' ≠ k) : (jW w a k x).1 a k' = w.1 a k' := if_neg (fun e => h e.2)
theorem jW_a {w : jS} {a a' k k' : Nat} {x : Int} (h : a' ≠ a) : (jW w a k x).1 a' k' = w.1 a' k' := if_neg (fun e => h e.1)
theorem zg_pos {a b : Int} (hb : 0 < b) : 0 < zg a b := by
  unfold zg
  have : 0 < Int.gcd a b := Int.gcd_pos_of_ne_zero_right a (by omega)
  omega
theorem zg_le {a b : Int} (hb : 0 < b) : zg a b ≤ b := by
  unfold zg
  exact Int.le_of_dvd hb (Int.gcd_dvd_right a b)
def zu (a b : Int) : Int := Int.tdiv a (zg a b)
def zv (a b : Int) : Int := Int.tdiv b (zg a b)
theorem zu_b {a b : Int} (ha : 0 ≤ a) (hb : 0 < b) : 0 ≤ zu a b ∧ zu a b ≤ a := by
  have hg := zg_pos (a := a) hb
  unfold zu
  rw [Int.tdiv_eq_ediv_of_nonneg ha]
  exact ⟨Int.ediv_nonneg ha (by omega), Int.ediv_le_self _ ha⟩
theorem zu_p {a b : Int} (ha : 0 < a) (hb : 0 < b) : 1 ≤ zu a b := by
  have hg := zg_pos (a := a) hb
  unfold zu
  rw [Int.tdiv_eq_ediv_of_nonneg (by omega)]
  have : zg a b ≤ a := Int.le_of_dvd ha (Int.gcd_dvd_left a b)
  exact (Int.le_ediv_iff_mul_le hg).mpr (by omega)
theorem zv_b {a b : Int} (hb : 0 < b) : 1 ≤ zv a b ∧ zv a b ≤ b := by
  have hg := zg_pos (a := a) hb
  have hl := zg_le (a := a) hb
  unfold zv
  rw [Int.tdiv_eq_ediv_of_nonneg (by omega)]
  exact ⟨(Int.le_ediv_iff_mul_le hg).mpr (by omega), Int.ediv_le_self _ (by omega)⟩
set_option maxHeartbeats 4000000 in
set_option maxRecDepth 20000 in
theorem E_div {w : jS} {a b : Int} (ha : -9223372036854775808 < a ∧ a < 9223372036854775808) (hb : -9223372036854775808 < b ∧ b < 9223372036854775808) : jCall 139 [jJ a, jJ b] w (jvj (zg a b) w) := by
  have mt : jtb 139 = jT139 := rfl
  show jWp 139 0 [some (jJ a), none, some (jJ b), none, none, none, none, none, none, none] [] 0 0 w _
  refine jWp.blk mt 2 ?_
  show jWp 139 2 [some (jJ a), none, some (jJ b), none, none, none, none, none, none, none] [jJ 0, jJ a] 0 0 w _
  refine jWp.lcmp (pc' := 6) mt rfl rfl rfl (b64_id (by omega) (by omega)) (show b64 0 = 0 by decide) (fun h1 => ?_) (fun h1 => ?_)
  · have h1 : 0 ≤ a := h1
    refine jWp.blk mt 4 ?_
    show jWp 139 16 [some (jJ a), none, some (jJ b), none, some (jJ a), none, none, none, none, none] [jJ 0, jJ b] 0 0 w _
    refine jWp.lcmp (pc' := 20) mt rfl rfl rfl (b64_id (by omega) (by omega)) (show b64 0 = 0 by decide) (fun h2 => ?_) (fun h2 => ?_)
    · have h2 : 0 ≤ b := h2
      refine jWp.blk mt 2 ?_
      show jWp 139 28 [some (jJ a), none, some (jJ b), none, some (jJ a), none, some (jJ b), none, none, none] [] 0 0 w _
      have lp3 : ∀ (N : Nat) (X Y : Nat) (hg : Nat.gcd X Y = Int.gcd a b) (hX : X < 9223372036854775808) (hY : Y < 9223372036854775808), Y < N → jWp 139 28 [none, none, none, none, some (jJ (X : Int)), none, some (jJ (Y : Int)), none, none, none] [] 0 0 w (jvj (zg a b) w) := by
        intro N
        induction N with
        | zero => intro X Y hg hX hY hm; omega
        | succ N ih4 =>
          intro X Y hg hX hY hm
          refine jWp.blk mt 2 ?_
          show jWp 139 31 [none, none, none, none, some (jJ (X : Int)), none, some (jJ (Y : Int)), none, none, none] [jJ 0, jJ (Y : Int)] 0 0 w _
          refine jWp.lcmp (pc' := 35) mt rfl rfl rfl (b64_id (by omega) (by omega)) (show b64 0 = 0 by decide) (fun h5 => ?_) (fun h5 => ?_)
          · have h5 : (Y : Int) = 0 := h5
            refine jWp.blk mt 1 ?_
            show jWp 139 55 [none, none, none, none, some (jJ (X : Int)), none, some (jJ (Y : Int)), none, none, none] [jJ (X : Int)] 0 0 w _
            refine jWp.lret mt rfl ⟨rfl, rfl⟩ rfl ?_
            refine ⟨?_, rfl⟩
            have hz : Y = 0 := by omega
            subst hz
            show some (jJ (X : Int)) = some (jJ ((Int.gcd a b : Nat) : Int))
            rw [← hg, Nat.gcd_zero_right]
          · have h5 : (Y : Int) ≠ 0 := h5
            refine jWp.blk mt 2 ?_
            show jWp 139 39 [none, none, none, none, some (jJ (X : Int)), none, some (jJ (Y : Int)), none, none, none] [jJ (Y : Int), jJ (X : Int)] 0 0 w _
            refine jWp.lrem (pc' := 40) mt rfl rfl (b64_id (by omega) (by omega)) (b64_id (by omega) (by omega)) (by omega) ?_
            show jWp 139 40 [none, none, none, none, some (jJ (X : Int)), none, some (jJ (Y : Int)), none, none, none] [jJ (Int.tmod (X : Int) (Y : Int))] 0 0 w _
            refine jWp.blk mt 6 ?_
            show jWp 139 28 [none, none, none, none, some (jJ (Y : Int)), none, some (jJ (Int.tmod (X : Int) (Y : Int))), none, some (jJ (Int.tmod (X : Int) (Y : Int))), none] [] 0 0 w _
            refine jWp.le (l := [none, none, none, none, some (jJ (Y : Int)), none, some (jJ (Int.tmod (X : Int) (Y : Int))), none, none, none]) (by exact ⟨rfl, rfl, trivial⟩) ?_
            exact ih4 Y (X % Y) (by rw [← hg, Nat.gcd_comm X Y, Nat.gcd_rec Y X, Nat.gcd_comm]) hY (by have := Nat.mod_lt X (y := Y) (by omega); omega) (by have := Nat.mod_lt X (y := Y) (by omega); omega)
      refine jWp.le (l := [none, none, none, none, some (jJ a), none, some (jJ b), none, none, none]) (by exact ⟨rfl, rfl, trivial⟩) ?_
      rw [show a = (a.natAbs : Int) by omega, show b = (b.natAbs : Int) by omega]
      exact lp3 _ a.natAbs b.natAbs rfl (by omega) (by omega) (Nat.lt_succ_self _)
    · have h2 : b < 0 := h2
      refine jWp.blk mt 4 ?_
      show jWp 139 28 [some (jJ a), none, some (jJ b), none, some (jJ a), none, some (jJ (-b)), none, none, none] [] 0 0 w _
      have lp6 : ∀ (N : Nat) (X Y : Nat) (hg : Nat.gcd X Y = Int.gcd a b) (hX : X < 9223372036854775808) (hY : Y < 9223372036854775808), Y < N → jWp 139 28 [none, none, none, none, some (jJ (X : Int)), none, some (jJ (Y : Int)), none, none, none] [] 0 0 w (jvj (zg a b) w) := by
        intro N
        induction N with
        | zero => intro X Y hg hX hY hm; omega
        | succ N ih7 =>
          intro X Y hg hX hY hm
          refine jWp.blk mt 2 ?_
          show jWp 139 31 [none, none, none, none, some (jJ (X : Int)), none, some (jJ (Y : Int)), none, none, none] [jJ 0, jJ (Y : Int)] 0 0 w _
          refine jWp.lcmp (pc' := 35) mt rfl rfl rfl (b64_id (by omega) (by omega)) (show b64 0 = 0 by decide) (fun h8 => ?_) (fun h8 => ?_)
          · have h8 : (Y : Int) = 0 := h8
            refine jWp.blk mt 1 ?_
            show jWp 139 55 [none, none, none, none, some (jJ (X : Int)), none, some (jJ (Y : Int)), none, none, none] [jJ (X : Int)] 0 0 w _
            refine jWp.lret mt rfl ⟨rfl, rfl⟩ rfl ?_
            refine ⟨?_, rfl⟩
            have hz : Y = 0 := by omega
            subst hz
            show some (jJ (X : Int)) = some (jJ ((Int.gcd a b : Nat) : Int))
            rw [← hg, Nat.gcd_zero_right]
          · have h8 : (Y : Int) ≠ 0 := h8
            refine jWp.blk mt 2 ?_
            show jWp 139 39 [none, none, none, none, some (jJ (X : Int)), none, some (jJ (Y : Int)), none, none, none] [jJ (Y : Int), jJ (X : Int)] 0 0 w _
            refine jWp.lrem (pc' := 40) mt rfl rfl (b64_id (by omega) (by omega)) (b64_id (by omega) (by omega)) (by omega) ?_
            show jWp 139 40 [none, none, none, none, some (jJ (X : Int)), none, some (jJ (Y : Int)), none, none, none] [jJ (Int.tmod (X : Int) (Y : Int))] 0 0 w _
            refine jWp.blk mt 6 ?_
            show jWp 139 28 [none, none, none, none, some (jJ (Y : Int)), none, some (jJ (Int.tmod (X : Int) (Y : Int))), none, some (jJ (Int.tmod (X : Int) (Y : Int))), none] [] 0 0 w _
            refine jWp.le (l := [none, none, none, none, some (jJ (Y : Int)), none, some (jJ (Int.tmod (X : Int) (Y : Int))), none, none, none]) (by exact ⟨rfl, rfl, trivial⟩) ?_
            exact ih7 Y (X % Y) (by rw [← hg, Nat.gcd_comm X Y, Nat.gcd_rec Y X, Nat.gcd_comm]) hY (by have := Nat.mod_lt X (y := Y) (by omega); omega) (by have := Nat.mod_lt X (y := Y) (by omega); omega)
      refine jWp.le (l := [none, none, none, none, some (jJ a), none, some (jJ (-b)), none, none, none]) (by exact ⟨rfl, rfl, trivial⟩) ?_
      rw [show a = (a.natAbs : Int) by omega, show (-b) = (b.natAbs : Int) by omega]
      exact lp6 _ a.natAbs b.natAbs rfl (by omega) (by omega) (Nat.lt_succ_self _)
  · have h1 : a < 0 := h1
    refine jWp.blk mt 6 ?_
    show jWp 139 16 [some (jJ a), none, some (jJ b), none, some (jJ (-a)), none, none, none, none, none] [jJ 0, jJ b] 0 0 w _
    refine jWp.lcmp (pc' := 20) mt rfl rfl rfl (b64_id (by omega) (by omega)) (show b64 0 = 0 by decide) (fun h9 => ?_) (fun h9 => ?_)
    · have h9 : 0 ≤ b := h9
      refine jWp.blk mt 2 ?_
      show jWp 139 28 [some (jJ a), none, some (jJ b), none, some (jJ (-a)), none, some (jJ b), none, none, none] [] 0 0 w _
      have lp10 : ∀ (N : Nat) (X Y : Nat) (hg : Nat.gcd X Y = Int.gcd a b) (hX : X < 9223372036854775808) (hY : Y < 9223372036854775808), Y < N → jWp 139 28 [none, none, none, none, some (jJ (X : Int)), none, some (jJ (Y : Int)), none, none, none] [] 0 0 w (jvj (zg a b) w) := by
        intro N
        induction N with
        | zero => intro X Y hg hX hY hm; omega
        | succ N ih11 =>
          intro X Y hg hX hY hm
          refine jWp.blk mt 2 ?_
          show jWp 139 31 [none, none, none, none, some (jJ (X : Int)), none, some (jJ (Y : Int)), none, none, none] [jJ 0, jJ (Y : Int)] 0 0 w _
          refine jWp.lcmp (pc' := 35) mt rfl rfl rfl (b64_id (by omega) (by omega)) (show b64 0 = 0 by decide) (fun h12 => ?_) (fun h12 => ?_)
          · have h12 : (Y : Int) = 0 := h12
            refine jWp.blk mt 1 ?_
            show jWp 139 55 [none, none, none, none, some (jJ (X : Int)), none, some (jJ (Y : Int)), none, none, none] [jJ (X : Int)] 0 0 w _
            refine jWp.lret mt rfl ⟨rfl, rfl⟩ rfl ?_
            refine ⟨?_, rfl⟩
            have hz : Y = 0 := by omega
            subst hz
            show some (jJ (X : Int)) = some (jJ ((Int.gcd a b : Nat) : Int))
            rw [← hg, Nat.gcd_zero_right]
          · have h12 : (Y : Int) ≠ 0 := h12
            refine jWp.blk mt 2 ?_
            show jWp 139 39 [none, none, none, none, some (jJ (X : Int)), none, some (jJ (Y : Int)), none, none, none] [jJ (Y : Int), jJ (X : Int)] 0 0 w _
            refine jWp.lrem (pc' := 40) mt rfl rfl (b64_id (by omega) (by omega)) (b64_id (by omega) (by omega)) (by omega) ?_
            show jWp 139 40 [none, none, none, none, some (jJ (X : Int)), none, some (jJ (Y : Int)), none, none, none] [jJ (Int.tmod (X : Int) (Y : Int))] 0 0 w _
            refine jWp.blk mt 6 ?_
            show jWp 139 28 [none, none, none, none, some (jJ (Y : Int)), none, some (jJ (Int.tmod (X : Int) (Y : Int))), none, some (jJ (Int.tmod (X : Int) (Y : Int))), none] [] 0 0 w _
            refine jWp.le (l := [none, none, none, none, some (jJ (Y : Int)), none, some (jJ (Int.tmod (X : Int) (Y : Int))), none, none, none]) (by exact ⟨rfl, rfl, trivial⟩) ?_
            exact ih11 Y (X % Y) (by rw [← hg, Nat.gcd_comm X Y, Nat.gcd_rec Y X, Nat.gcd_comm]) hY (by have := Nat.mod_lt X (y := Y) (by omega); omega) (by have := Nat.mod_lt X (y := Y) (by omega); omega)
      refine jWp.le (l := [none, none, none, none, some (jJ (-a)), none, some (jJ b), none, none, none]) (by exact ⟨rfl, rfl, trivial⟩) ?_
      rw [show (-a) = (a.natAbs : Int) by omega, show b = (b.natAbs : Int) by omega]
      exact lp10 _ a.natAbs b.natAbs rfl (by omega) (by omega) (Nat.lt_succ_self _)
    · have h9 : b < 0 := h9
      refine jWp.blk mt 4 ?_
      show jWp 139 28 [some (jJ a), none, some (jJ b), none, some (jJ (-a)), none, some (jJ (-b)), none, none, none] [] 0 0 w _
      have lp13 : ∀ (N : Nat) (X Y : Nat) (hg : Nat.gcd X Y = Int.gcd a b) (hX : X < 9223372036854775808) (hY : Y < 9223372036854775808), Y < N → jWp 139 28 [none, none, none, none, some (jJ (X : Int)), none, some (jJ (Y : Int)), none, none, none] [] 0 0 w (jvj (zg a b) w) := by
        intro N
        induction N with
        | zero => intro X Y hg hX hY hm; omega
        | succ N ih14 =>
          intro X Y hg hX hY hm
          refine jWp.blk mt 2 ?_
          show jWp 139 31 [none, none, none, none, some (jJ (X : Int)), none, some (jJ (Y : Int)), none, none, none] [jJ 0, jJ (Y : Int)] 0 0 w _
          refine jWp.lcmp (pc' := 35) mt rfl rfl rfl (b64_id (by omega) (by omega)) (show b64 0 = 0 by decide) (fun h15 => ?_) (fun h15 => ?_)
          · have h15 : (Y : Int) = 0 := h15
            refine jWp.blk mt 1 ?_
            show jWp 139 55 [none, none, none, none, some (jJ (X : Int)), none, some (jJ (Y : Int)), none, none, none] [jJ (X : Int)] 0 0 w _
            refine jWp.lret mt rfl ⟨rfl, rfl⟩ rfl ?_
            refine ⟨?_, rfl⟩
            have hz : Y = 0 := by omega
            subst hz
            show some (jJ (X : Int)) = some (jJ ((Int.gcd a b : Nat) : Int))
            rw [← hg, Nat.gcd_zero_right]
          · have h15 : (Y : Int) ≠ 0 := h15
            refine jWp.blk mt 2 ?_
            show jWp 139 39 [none, none, none, none, some (jJ (X : Int)), none, some (jJ (Y : Int)), none, none, none] [jJ (Y : Int), jJ (X : Int)] 0 0 w _
            refine jWp.lrem (pc' := 40) mt rfl rfl (b64_id (by omega) (by omega)) (b64_id (by omega) (by omega)) (by omega) ?_
            show jWp 139 40 [none, none, none, none, some (jJ (X : Int)), none, some (jJ (Y : Int)), none, none, none] [jJ (Int.tmod (X : Int) (Y : Int))] 0 0 w _
            refine jWp.blk mt 6 ?_
            show jWp 139 28 [none, none, none, none, some (jJ (Y : Int)), none, some (jJ (Int.tmod (X : Int) (Y : Int))), none, some (jJ (Int.tmod (X : Int) (Y : Int))), none] [] 0 0 w _
            refine jWp.le (l := [none, none, none, none, some (jJ (Y : Int)), none, some (jJ (Int.tmod (X : Int) (Y : Int))), none, none, none]) (by exact ⟨rfl, rfl, trivial⟩) ?_
            exact ih14 Y (X % Y) (by rw [← hg, Nat.gcd_comm X Y, Nat.gcd_rec Y X, Nat.gcd_comm]) hY (by have := Nat.mod_lt X (y := Y) (by omega); omega) (by have := Nat.mod_lt X (y := Y) (by omega); omega)
      refine jWp.le (l := [none, none, none, none, some (jJ (-a)), none, some (jJ (-b)), none, none, none]) (by exact ⟨rfl, rfl, trivial⟩) ?_
      rw [show (-a) = (a.natAbs : Int) by omega, show (-b) = (b.natAbs : Int) by omega]
      exact lp13 _ a.natAbs b.natAbs rfl (by omega) (by omega) (Nat.lt_succ_self _)
set_option maxHeartbeats 4000000 in
set_option maxRecDepth 20000 in
theorem E_small {w : jS} {m L : Nat} {a b : Int} (hm : w.2.1 m = (10, L)) (ha : 0 ≤ a ∧ a < 9223372036854775808) (hb : 0 < b ∧ b < 9223372036854775808) : jCall 173 [jO m, jJ a, jJ b] w (jvb (zu a b ≤ 1000000000 ∧ zv a b ≤ 1000000000) (jW (jW w m 11 (zu a b)) m 12 (zv a b))) := by
  have mt : jtb 173 = jT173 := rfl
  have hg := zg_pos (a := a) hb.1
  have hl := zg_le (a := a) hb.1
  have hu := zu_b ha.1 hb.1
  have hv := zv_b (a := a) hb.1
  unfold zu at hu
  unfold zv at hv
  show jWp 173 0 [some (jO m), some (jJ a), none, some (jJ b), none, none, none] [] 0 0 w _
  refine jWp.blk mt 2 ?_
  show jWp 173 2 [some (jO m), some (jJ a), none, some (jJ b), none, none, none] [jJ b, jJ a] 0 0 w _
  refine jWp.calls (as := [jJ a, jJ b]) (rest := []) mt rfl rfl rfl rfl ?_
  refine jCall.mono (E_div (by omega) (by omega)) (fun v9 w9 h9 => ?_)
  obtain ⟨rfl, h9⟩ := h9
  subst w9
  show jWp 173 5 [some (jO m), some (jJ a), none, some (jJ b), none, none, none] [jJ (zg a b)] 0 0 w _
  refine jWp.blk mt 4 ?_
  show _ ∧ jWp 173 11 [some (jO m), some (jJ a), none, some (jJ b), none, some (jJ (zg a b)), none] [jJ (zg a b), jJ a, jO m] 0 0 w _
  refine ⟨rfl, ?_⟩
  refine jWp.ldiv (pc' := 12) mt rfl rfl (b64_id (by omega) (by omega)) (b64_id (by omega) (by omega)) (by omega) ?_
  show jWp 173 12 [some (jO m), some (jJ a), none, some (jJ b), none, some (jJ (zg a b)), none] [jJ (Int.tdiv a (zg a b)), jO m] 0 0 w _
  refine jWp.putJ (pc' := 15) mt rfl rfl (jtg hm) ?_
  show jWp 173 15 [some (jO m), some (jJ a), none, some (jJ b), none, some (jJ (zg a b)), none] [] 0 0 (jW w m 11 (Int.tdiv a (zg a b))) _
  refine jWp.blk mt 3 ?_
  show _ ∧ jWp 173 19 [some (jO m), some (jJ a), none, some (jJ b), none, some (jJ (zg a b)), none] [jJ (zg a b), jJ b, jO m] 0 0 (jW w m 11 (Int.tdiv a (zg a b))) _
  refine ⟨rfl, ?_⟩
  refine jWp.ldiv (pc' := 20) mt rfl rfl (b64_id (by omega) (by omega)) (b64_id (by omega) (by omega)) (by omega) ?_
  show jWp 173 20 [some (jO m), some (jJ a), none, some (jJ b), none, some (jJ (zg a b)), none] [jJ (Int.tdiv b (zg a b)), jO m] 0 0 (jW w m 11 (Int.tdiv a (zg a b))) _
  refine jWp.putJ (pc' := 23) mt rfl rfl (jtg hm) ?_
  show jWp 173 23 [some (jO m), some (jJ a), none, some (jJ b), none, some (jJ (zg a b)), none] [] 0 0 (jW (jW w m 11 (Int.tdiv a (zg a b))) m 12 (Int.tdiv b (zg a b))) _
  refine jWp.blk mt 1 ?_
  show _ ∧ jWp 173 24 [some (jO m), some (jJ a), none, some (jJ b), none, some (jJ (zg a b)), none] [jO m] 0 0 (jW (jW w m 11 (Int.tdiv a (zg a b))) m 12 (Int.tdiv b (zg a b))) _
  refine ⟨rfl, ?_⟩
  refine jWp.getJ (pc' := 27) mt rfl rfl (jtg hm) ?_
  rw [show ((jW (jW w m 11 (Int.tdiv a (zg a b))) m 12 (Int.tdiv b (zg a b))).1 m 11) = (Int.tdiv a (zg a b)) from (jW_k (by decide)).trans (jW_s)]
  show jWp 173 27 [some (jO m), some (jJ a), none, some (jJ b), none, some (jJ (zg a b)), none] [jJ (Int.tdiv a (zg a b))] 0 0 (jW (jW w m 11 (Int.tdiv a (zg a b))) m 12 (Int.tdiv b (zg a b))) _
  refine jWp.blk mt 1 ?_
  show jWp 173 30 [some (jO m), some (jJ a), none, some (jJ b), none, some (jJ (zg a b)), none] [jJ 1000000000, jJ (Int.tdiv a (zg a b))] 0 0 (jW (jW w m 11 (Int.tdiv a (zg a b))) m 12 (Int.tdiv b (zg a b))) _
  refine jWp.lcmp (pc' := 34) mt rfl rfl rfl (b64_id (by omega) (by omega)) (show b64 1000000000 = 1000000000 by decide) (fun h1 => ?_) (fun h1 => ?_)
  · have h1 : 1000000000 < (Int.tdiv a (zg a b)) := h1
    refine jWp.blk mt 1 ?_
    show jWp 173 50 [some (jO m), some (jJ a), none, some (jJ b), none, some (jJ (zg a b)), none] [jI 0] 0 0 (jW (jW w m 11 (Int.tdiv a (zg a b))) m 12 (Int.tdiv b (zg a b))) _
    refine jWp.iretz mt rfl ⟨rfl, rfl⟩ rfl (Or.inl rfl) ?_
    exact Or.inr ⟨rfl, rfl, by unfold zu zv; omega⟩
  · have h1 : (Int.tdiv a (zg a b)) ≤ 1000000000 := h1
    refine jWp.blk mt 1 ?_
    show _ ∧ jWp 173 35 [some (jO m), some (jJ a), none, some (jJ b), none, some (jJ (zg a b)), none] [jO m] 0 0 (jW (jW w m 11 (Int.tdiv a (zg a b))) m 12 (Int.tdiv b (zg a b))) _
    refine ⟨rfl, ?_⟩
    refine jWp.getJ (pc' := 38) mt rfl rfl (jtg hm) ?_
    rw [show ((jW (jW w m 11 (Int.tdiv a (zg a b))) m 12 (Int.tdiv b (zg a b))).1 m 12) = (Int.tdiv b (zg a b)) from (jW_s)]
    show jWp 173 38 [some (jO m), some (jJ a), none, some (jJ b), none, some (jJ (zg a b)), none] [jJ (Int.tdiv b (zg a b))] 0 0 (jW (jW w m 11 (Int.tdiv a (zg a b))) m 12 (Int.tdiv b (zg a b))) _
    refine jWp.blk mt 1 ?_
    show jWp 173 41 [some (jO m), some (jJ a), none, some (jJ b), none, some (jJ (zg a b)), none] [jJ 1000000000, jJ (Int.tdiv b (zg a b))] 0 0 (jW (jW w m 11 (Int.tdiv a (zg a b))) m 12 (Int.tdiv b (zg a b))) _
    refine jWp.lcmp (pc' := 45) mt rfl rfl rfl (b64_id (by omega) (by omega)) (show b64 1000000000 = 1000000000 by decide) (fun h2 => ?_) (fun h2 => ?_)
    · have h2 : 1000000000 < (Int.tdiv b (zg a b)) := h2
      refine jWp.blk mt 1 ?_
      show jWp 173 50 [some (jO m), some (jJ a), none, some (jJ b), none, some (jJ (zg a b)), none] [jI 0] 0 0 (jW (jW w m 11 (Int.tdiv a (zg a b))) m 12 (Int.tdiv b (zg a b))) _
      refine jWp.iretz mt rfl ⟨rfl, rfl⟩ rfl (Or.inl rfl) ?_
      exact Or.inr ⟨rfl, rfl, by unfold zu zv; omega⟩
    · have h2 : (Int.tdiv b (zg a b)) ≤ 1000000000 := h2
      refine jWp.blk mt 2 ?_
      show jWp 173 50 [some (jO m), some (jJ a), none, some (jJ b), none, some (jJ (zg a b)), none] [jI 1] 0 0 (jW (jW w m 11 (Int.tdiv a (zg a b))) m 12 (Int.tdiv b (zg a b))) _
      refine jWp.iretz mt rfl ⟨rfl, rfl⟩ rfl (Or.inr rfl) ?_
      exact Or.inl ⟨rfl, rfl, by unfold zu zv; omega⟩
set_option maxHeartbeats 4000000 in
set_option maxRecDepth 20000 in
theorem E_set {w : jS} {m L : Nat} {a b : Int} (hm : w.2.1 m = (2, L)) (ha : 0 ≤ a ∧ a < 9223372036854775808) (hb : 0 < b ∧ b < 9223372036854775808) : jCall 4 [jO m, jJ a, jJ b] w (jvb (zu a b ≤ 1000000000 ∧ zv a b ≤ 1000000000) (jW (jW w m 0 (zu a b)) m 1 (zv a b))) := by
  have mt : jtb 4 = jT4 := rfl
  have hg := zg_pos (a := a) hb.1
  have hl := zg_le (a := a) hb.1
  have hu := zu_b ha.1 hb.1
  have hv := zv_b (a := a) hb.1
  unfold zu at hu
  unfold zv at hv
  have hj : jabs (Int.tdiv a (zg a b)) = Int.tdiv a (zg a b) := if_pos hu.1
  show jWp 4 0 [some (jO m), some (jJ a), none, some (jJ b), none, none, none] [] 0 0 w _
  refine jWp.blk mt 2 ?_
  show jWp 4 2 [some (jO m), some (jJ a), none, some (jJ b), none, none, none] [jJ b, jJ a] 0 0 w _
  refine jWp.calls (as := [jJ a, jJ b]) (rest := []) mt rfl rfl rfl rfl ?_
  refine jCall.mono (E_gcd (by omega) (by omega)) (fun v9 w9 h9 => ?_)
  obtain ⟨rfl, h9⟩ := h9
  subst w9
  show jWp 4 5 [some (jO m), some (jJ a), none, some (jJ b), none, none, none] [jJ (zg a b)] 0 0 w _
  refine jWp.blk mt 3 ?_
  show jWp 4 10 [some (jO m), some (jJ a), none, some (jJ b), none, some (jJ (zg a b)), none] [jJ 0, jJ (zg a b)] 0 0 w _
  refine jWp.lcmp (pc' := 14) mt rfl rfl rfl (b64_id (by omega) (by omega)) (show b64 0 = 0 by decide) (fun h1 => ?_) (fun h1 => ?_)
  · have h1 : (zg a b) ≠ 0 := h1
    refine jWp.blk mt 3 ?_
    show _ ∧ jWp 4 30 [some (jO m), some (jJ a), none, some (jJ b), none, some (jJ (zg a b)), none] [jJ (zg a b), jJ a, jO m] 0 0 w _
    refine ⟨rfl, ?_⟩
    refine jWp.ldiv (pc' := 31) mt rfl rfl (b64_id (by omega) (by omega)) (b64_id (by omega) (by omega)) (by omega) ?_
    show jWp 4 31 [some (jO m), some (jJ a), none, some (jJ b), none, some (jJ (zg a b)), none] [jJ (Int.tdiv a (zg a b)), jO m] 0 0 w _
    refine jWp.putJ (pc' := 34) mt rfl rfl (jtg hm) ?_
    show jWp 4 34 [some (jO m), some (jJ a), none, some (jJ b), none, some (jJ (zg a b)), none] [] 0 0 (jW w m 0 (Int.tdiv a (zg a b))) _
    refine jWp.blk mt 3 ?_
    show _ ∧ jWp 4 38 [some (jO m), some (jJ a), none, some (jJ b), none, some (jJ (zg a b)), none] [jJ (zg a b), jJ b, jO m] 0 0 (jW w m 0 (Int.tdiv a (zg a b))) _
    refine ⟨rfl, ?_⟩
    refine jWp.ldiv (pc' := 39) mt rfl rfl (b64_id (by omega) (by omega)) (b64_id (by omega) (by omega)) (by omega) ?_
    show jWp 4 39 [some (jO m), some (jJ a), none, some (jJ b), none, some (jJ (zg a b)), none] [jJ (Int.tdiv b (zg a b)), jO m] 0 0 (jW w m 0 (Int.tdiv a (zg a b))) _
    refine jWp.putJ (pc' := 42) mt rfl rfl (jtg hm) ?_
    show jWp 4 42 [some (jO m), some (jJ a), none, some (jJ b), none, some (jJ (zg a b)), none] [] 0 0 (jW (jW w m 0 (Int.tdiv a (zg a b))) m 1 (Int.tdiv b (zg a b))) _
    refine jWp.blk mt 1 ?_
    show _ ∧ jWp 4 43 [some (jO m), some (jJ a), none, some (jJ b), none, some (jJ (zg a b)), none] [jO m] 0 0 (jW (jW w m 0 (Int.tdiv a (zg a b))) m 1 (Int.tdiv b (zg a b))) _
    refine ⟨rfl, ?_⟩
    refine jWp.getJ (pc' := 46) mt rfl rfl (jtg hm) ?_
    rw [show ((jW (jW w m 0 (Int.tdiv a (zg a b))) m 1 (Int.tdiv b (zg a b))).1 m 0) = (Int.tdiv a (zg a b)) from (jW_k (by decide)).trans (jW_s)]
    show jWp 4 46 [some (jO m), some (jJ a), none, some (jJ b), none, some (jJ (zg a b)), none] [jJ (Int.tdiv a (zg a b))] 0 0 (jW (jW w m 0 (Int.tdiv a (zg a b))) m 1 (Int.tdiv b (zg a b))) _
    refine jWp.absJ (pc' := 49) mt rfl rfl rfl (b64_id (by omega) (by omega)) ?_
    show jWp 4 49 [some (jO m), some (jJ a), none, some (jJ b), none, some (jJ (zg a b)), none] [jJ (jabs (Int.tdiv a (zg a b)))] 0 0 (jW (jW w m 0 (Int.tdiv a (zg a b))) m 1 (Int.tdiv b (zg a b))) _
    refine jWp.blk mt 1 ?_
    show jWp 4 52 [some (jO m), some (jJ a), none, some (jJ b), none, some (jJ (zg a b)), none] [jJ 1000000000, jJ (jabs (Int.tdiv a (zg a b)))] 0 0 (jW (jW w m 0 (Int.tdiv a (zg a b))) m 1 (Int.tdiv b (zg a b))) _
    refine jWp.lcmp (pc' := 56) mt rfl rfl rfl (b64_id (by omega) (by omega)) (show b64 1000000000 = 1000000000 by decide) (fun h2 => ?_) (fun h2 => ?_)
    · have h2 : 1000000000 < (jabs (Int.tdiv a (zg a b))) := h2
      refine jWp.blk mt 1 ?_
      show jWp 4 72 [some (jO m), some (jJ a), none, some (jJ b), none, some (jJ (zg a b)), none] [jI 0] 0 0 (jW (jW w m 0 (Int.tdiv a (zg a b))) m 1 (Int.tdiv b (zg a b))) _
      refine jWp.iretz mt rfl ⟨rfl, rfl⟩ rfl (Or.inl rfl) ?_
      exact Or.inr ⟨rfl, rfl, by unfold zu zv; omega⟩
    · have h2 : (jabs (Int.tdiv a (zg a b))) ≤ 1000000000 := h2
      refine jWp.blk mt 1 ?_
      show _ ∧ jWp 4 57 [some (jO m), some (jJ a), none, some (jJ b), none, some (jJ (zg a b)), none] [jO m] 0 0 (jW (jW w m 0 (Int.tdiv a (zg a b))) m 1 (Int.tdiv b (zg a b))) _
      refine ⟨rfl, ?_⟩
      refine jWp.getJ (pc' := 60) mt rfl rfl (jtg hm) ?_
      rw [show ((jW (jW w m 0 (Int.tdiv a (zg a b))) m 1 (Int.tdiv b (zg a b))).1 m 1) = (Int.tdiv b (zg a b)) from (jW_s)]
      show jWp 4 60 [some (jO m), some (jJ a), none, some (jJ b), none, some (jJ (zg a b)), none] [jJ (Int.tdiv b (zg a b))] 0 0 (jW (jW w m 0 (Int.tdiv a (zg a b))) m 1 (Int.tdiv b (zg a b))) _
      refine jWp.blk mt 1 ?_
      show jWp 4 63 [some (jO m), some (jJ a), none, some (jJ b), none, some (jJ (zg a b)), none] [jJ 1000000000, jJ (Int.tdiv b (zg a b))] 0 0 (jW (jW w m 0 (Int.tdiv a (zg a b))) m 1 (Int.tdiv b (zg a b))) _
      refine jWp.lcmp (pc' := 67) mt rfl rfl rfl (b64_id (by omega) (by omega)) (show b64 1000000000 = 1000000000 by decide) (fun h3 => ?_) (fun h3 => ?_)
      · have h3 : 1000000000 < (Int.tdiv b (zg a b)) := h3
        refine jWp.blk mt 1 ?_
        show jWp 4 72 [some (jO m), some (jJ a), none, some (jJ b), none, some (jJ (zg a b)), none] [jI 0] 0 0 (jW (jW w m 0 (Int.tdiv a (zg a b))) m 1 (Int.tdiv b (zg a b))) _
        refine jWp.iretz mt rfl ⟨rfl, rfl⟩ rfl (Or.inl rfl) ?_
        exact Or.inr ⟨rfl, rfl, by unfold zu zv; omega⟩
      · have h3 : (Int.tdiv b (zg a b)) ≤ 1000000000 := h3
        refine jWp.blk mt 2 ?_
        show jWp 4 72 [some (jO m), some (jJ a), none, some (jJ b), none, some (jJ (zg a b)), none] [jI 1] 0 0 (jW (jW w m 0 (Int.tdiv a (zg a b))) m 1 (Int.tdiv b (zg a b))) _
        refine jWp.iretz mt rfl ⟨rfl, rfl⟩ rfl (Or.inr rfl) ?_
        exact Or.inl ⟨rfl, rfl, by unfold zu zv; omega⟩
  · have h1 : (zg a b) = 0 := h1
    exfalso; omega
end
section
/-- the reference's fraction at hand -/
def jF2 (w : jS) (m : Nat) (u v : Int) : jS := jW (jW w m 11 u) m 12 v
theorem jF2_u {w : jS} {m : Nat} {u v x : Int} : jW (jF2 w m u v) m 11 x = jF2 w m x v := by
  unfold jF2 jW jup
  congr 1
  funext b j
  by_cases hb : b = m <;> by_cases h1 : j = 11 <;> by_cases h2 : j = 12 <;> simp [hb, h1, h2]
theorem jF2_v {w : jS} {m : Nat} {u v x : Int} : jW (jF2 w m u v) m 12 x = jF2 w m u x := by
  unfold jF2 jW jup
  congr 1
  funext b j
  by_cases hb : b = m <;> by_cases h1 : j = 11 <;> by_cases h2 : j = 12 <;> simp [hb, h1, h2]
theorem jF2_2 {w : jS} {m : Nat} {u v x y : Int} : jW (jW (jF2 w m u v) m 11 x) m 12 y = jF2 w m x y := by rw [jF2_u, jF2_v]
theorem jF2_F {w : jS} {m : Nat} {u v x y : Int} : jF2 (jF2 w m u v) m x y = jF2 w m x y := jF2_2
theorem jF2_11 {w : jS} {m : Nat} {u v : Int} : (jF2 w m u v).1 m 11 = u := (jW_k (by decide)).trans jW_s
theorem jF2_12 {w : jS} {m : Nat} {u v : Int} : (jF2 w m u v).1 m 12 = v := jW_s
theorem jF2_a {w : jS} {m a j : Nat} {u v : Int} (h : a ≠ m) : (jF2 w m u v).1 a j = w.1 a j := (jW_a h).trans (jW_a h)
theorem jF2_k {w : jS} {m j : Nat} {u v : Int} (h1 : j ≠ 11) (h2 : j ≠ 12) : (jF2 w m u v).1 m j = w.1 m j := (jW_k h2).trans (jW_k h1)
/-- a fraction that is small, and its products -/
abbrev zsm (p : Int × Int) : Prop := 1 ≤ p.1 ∧ p.1 ≤ 1000000000 ∧ 1 ≤ p.2 ∧ p.2 ≤ 1000000000
abbrev zok (a b : Int) : Prop := zu a b ≤ 1000000000 ∧ zv a b ≤ 1000000000
theorem zmul_b {x y : Int} (hx : 1 ≤ x) (hx' : x ≤ 1000000000) (hy : 1 ≤ y) (hy' : y ≤ 1000000000) : 1 ≤ x * y ∧ x * y ≤ 1000000000000000000 := by
  have h1 : 1 * 1 ≤ x * y := Int.mul_le_mul hx hy (by decide) (by omega)
  have h2 : x * y ≤ 1000000000 * 1000000000 := Int.mul_le_mul hx' hy' (by omega) (by decide)
  omega
theorem zok_sm {a b : Int} (ha : 1 ≤ a) (hb : 1 ≤ b) (h : zok a b) : zsm (zu a b, zv a b) := ⟨zu_p (by omega) (by omega), h.1, (zv_b (by omega)).1, h.2⟩
/-- so many times -/
def zmt (x y : Int) : Nat → Int × Int → Option (Int × Int)
  | 0, p => some p
  | t + 1, p => if zok (p.1 * x) (p.2 * y) then zmt x y t (zu (p.1 * x) (p.2 * y), zv (p.1 * x) (p.2 * y)) else none
/-- all values, each so many times: so many letters, from this one on -/
def zml (up dn tm : Nat → Int) : Nat → Nat → Int × Int → Option (Int × Int)
  | 0, _, p => some p
  | r + 1, i, p => (zmt (up i) (dn i) (tm i).toNat p).bind (zml up dn tm r (i + 1))
theorem zml_s (up dn tm : Nat → Int) {n i : Nat} (h : i < n) (p : Int × Int) : zml up dn tm (n - i) i p = (zmt (up i) (dn i) (tm i).toNat p).bind (zml up dn tm (n - (i + 1)) (i + 1)) := by
  rw [show n - i = (n - (i + 1)) + 1 by omega]
  rfl
theorem zmt_s {x y : Int} {t : Int} (h : 0 < t) (p : Int × Int) : zmt x y t.toNat p = if zok (p.1 * x) (p.2 * y) then zmt x y (t - 1).toNat (zu (p.1 * x) (p.2 * y), zv (p.1 * x) (p.2 * y)) else none := by
  rw [show t.toNat = (t - 1).toNat + 1 by omega]
  rfl
theorem zmt_0 {x y : Int} {t : Int} (h : t ≤ 0) (p : Int × Int) : zmt x y t.toNat p = some p := by
  rw [show t.toNat = 0 by omega]
  rfl
set_option maxHeartbeats 4000000 in
set_option maxRecDepth 20000 in
theorem E_b {w : jS} {q i k L : Nat} (hq : w.2.1 q = (101, L)) (hL : 17 ≤ L) (hi : i < 4) (hk : k < 4) : jCall 163 [jO q, jI (i : Int), jI (k : Int)] w (jvj (w.1 q (1 + (4 * i + k))) w) := by
  have mt : jtb 163 = jT163 := rfl
  show jWp 163 0 [some (jO q), some (jI (i : Int)), some (jI (k : Int))] [] 0 0 w _
  refine jWp.blk mt 8 ?_
  show _ ∧ jWp 163 8 [some (jO q), some (jI (i : Int)), some (jI (k : Int))] [jI ((1 + (4 * (i : Int))) + (k : Int)), jO q] 0 0 w _
  refine ⟨rfl, ?_⟩
  refine jWp.lald (pc' := 9) (j := (1 + (4 * i + k))) mt rfl rfl (jtg hq) (by rw [b32_id (by omega) (by omega)]; omega) (jlt hq (by omega)) ?_
  show jWp 163 9 [some (jO q), some (jI (i : Int)), some (jI (k : Int))] [jJ (w.1 q (1 + (4 * i + k)))] 0 0 w _
  refine jWp.lret mt rfl ⟨rfl, rfl⟩ rfl ?_
  exact ⟨rfl, rfl⟩
set_option maxHeartbeats 4000000 in
set_option maxRecDepth 20000 in
theorem E_multiplies {w : jS} {m q L k n : Nat} (hM : w.2.1 m = (10, L)) (hq : w.2.1 q = (101, 45)) (hqm : q ≠ m) (hR : w.1 q 0 = (n : Int)) (hn : n ≤ 4) (hk : k < 4) (hv : ∀ i, i < 4 → zsm (w.1 q (21 + i), w.1 q (25 + i))) (hb : ∀ j, j < 16 → -9 ≤ w.1 q (1 + j) ∧ w.1 q (1 + j) ≤ 9) {sg : Int} (hs : sg = 1 ∨ sg = -1) : jCall 174 [jO m, jO q, jI (k : Int), jJ sg] w (fun v w1 => ∃ x y, w1 = jF2 w m x y ∧ ((v = some (jI 1) ∧ zml (fun i => w.1 q (21 + i)) (fun i => w.1 q (25 + i)) (fun i => sg * w.1 q (1 + (4 * i + k))) n 0 (1, 1) = some (x, y) ∧ zsm (x, y)) ∨ (v = some (jI 0) ∧ zml (fun i => w.1 q (21 + i)) (fun i => w.1 q (25 + i)) (fun i => sg * w.1 q (1 + (4 * i + k))) n 0 (1, 1) = none))) := by
  have mt : jtb 174 = jT174 := rfl
  show jWp 174 0 [some (jO m), some (jO q), some (jI (k : Int)), some (jJ sg), none, none, none, none] [] 0 0 w _
  refine jWp.blk mt 2 ?_
  show _ ∧ jWp 174 2 [some (jO m), some (jO q), some (jI (k : Int)), some (jJ sg), none, none, none, none] [jJ 1, jO m] 0 0 w _
  refine ⟨rfl, ?_⟩
  refine jWp.putJ (pc' := 5) mt rfl rfl (jtg hM) ?_
  show jWp 174 5 [some (jO m), some (jO q), some (jI (k : Int)), some (jJ sg), none, none, none, none] [] 0 0 (jW w m 11 1) _
  refine jWp.blk mt 2 ?_
  show _ ∧ jWp 174 7 [some (jO m), some (jO q), some (jI (k : Int)), some (jJ sg), none, none, none, none] [jJ 1, jO m] 0 0 (jW w m 11 1) _
  refine ⟨rfl, ?_⟩
  refine jWp.putJ (pc' := 10) mt rfl rfl (jtg hM) ?_
  rw [show jW (jW w m 11 1) m 12 1 = (jF2 w m 1 1) from rfl]
  show jWp 174 10 [some (jO m), some (jO q), some (jI (k : Int)), some (jJ sg), none, none, none, none] [] 0 0 (jF2 w m 1 1) _
  refine jWp.blk mt 2 ?_
  show jWp 174 13 [some (jO m), some (jO q), some (jI (k : Int)), some (jJ sg), none, some (jI 0), none, none] [] 0 0 (jF2 w m 1 1) _
  have lp1 : ∀ (N : Nat) (i : Nat) (u v : Int) (hi : i ≤ n) (hu : zsm (u, v)) (hT : zml (fun i => w.1 q (21 + i)) (fun i => w.1 q (25 + i)) (fun i => sg * w.1 q (1 + (4 * i + k))) (n - i) i (u, v) = zml (fun i => w.1 q (21 + i)) (fun i => w.1 q (25 + i)) (fun i => sg * w.1 q (1 + (4 * i + k))) n 0 (1, 1)), n - i < N → jWp 174 13 [some (jO m), some (jO q), some (jI (k : Int)), some (jJ sg), none, some (jI (i : Int)), none, none] [] 0 0 (jF2 w m u v) (fun v w1 => ∃ x y, w1 = jF2 w m x y ∧ ((v = some (jI 1) ∧ zml (fun i => w.1 q (21 + i)) (fun i => w.1 q (25 + i)) (fun i => sg * w.1 q (1 + (4 * i + k))) n 0 (1, 1) = some (x, y) ∧ zsm (x, y)) ∨ (v = some (jI 0) ∧ zml (fun i => w.1 q (21 + i)) (fun i => w.1 q (25 + i)) (fun i => sg * w.1 q (1 + (4 * i + k))) n 0 (1, 1) = none))) := by
    intro N
    induction N with
    | zero => intro i u v hi hu hT hm; omega
    | succ N ih2 =>
      intro i u v hi hu hT hm
      have hu1 : 1 ≤ u ∧ u ≤ 1000000000 ∧ 1 ≤ v ∧ v ≤ 1000000000 := hu
      refine jWp.blk mt 1 ?_
      show jWp 174 15 [some (jO m), some (jO q), some (jI (k : Int)), some (jJ sg), none, some (jI (i : Int)), none, none] [jI (i : Int)] 0 0 (jF2 w m u v) _
      refine jWp.i2l (pc' := 16) mt rfl rfl (b32_id (by omega) (by omega)) ?_
      show jWp 174 16 [some (jO m), some (jO q), some (jI (k : Int)), some (jJ sg), none, some (jI (i : Int)), none, none] [jJ (i : Int)] 0 0 (jF2 w m u v) _
      refine jWp.blk mt 2 ?_
      show _ ∧ jWp 174 18 [some (jO m), some (jO q), some (jI (k : Int)), some (jJ sg), none, some (jI (i : Int)), none, none] [jI 0, jO q, jJ (i : Int)] 0 0 (jF2 w m u v) _
      refine ⟨rfl, ?_⟩
      refine jWp.lald (pc' := 19) (j := 0) mt rfl rfl (jtg hq) (by decide) (jlt hq (by decide)) ?_
      rw [show ((jF2 w m u v).1 q 0) = (n : Int) from ((jF2_a hqm).trans hR)]
      show jWp 174 19 [some (jO m), some (jO q), some (jI (k : Int)), some (jJ sg), none, some (jI (i : Int)), none, none] [jJ (n : Int), jJ (i : Int)] 0 0 (jF2 w m u v) _
      refine jWp.lcmp (pc' := 23) mt rfl rfl rfl (b64_id (by omega) (by omega)) (b64_id (by omega) (by omega)) (fun h3 => ?_) (fun h3 => ?_)
      · have h3 : (n : Int) ≤ (i : Int) := h3
        refine jWp.blk mt 1 ?_
        show jWp 174 90 [some (jO m), some (jO q), some (jI (k : Int)), some (jJ sg), none, some (jI (i : Int)), none, none] [jI 1] 0 0 (jF2 w m u v) _
        refine jWp.iretz mt rfl ⟨rfl, rfl⟩ rfl (Or.inr rfl) ?_
        refine ⟨u, v, rfl, Or.inl ⟨rfl, ?_, hu⟩⟩
        rw [← hT, show n - i = 0 by omega]
        rfl
      · have h3 : (i : Int) < (n : Int) := h3
        refine jWp.blk mt 4 ?_
        show _ ∧ jWp 174 28 [some (jO m), some (jO q), some (jI (k : Int)), some (jJ sg), none, some (jI (i : Int)), none, none] [jI (k : Int), jI (i : Int), jO q, jJ sg] 0 0 (jF2 w m u v) _
        refine ⟨rfl, ?_⟩
        refine jWp.calls (as := [jO q, jI (i : Int), jI (k : Int)]) (rest := [jJ sg]) mt rfl rfl rfl rfl ?_
        refine jCall.mono ((show jCall 163 [jO q, jI (i : Int), jI (k : Int)] (jF2 w m u v) (jvj (w.1 q (1 + (4 * i + k))) (jF2 w m u v)) from by have h := E_b (w := (jF2 w m u v)) (i := i) (k := k) hq (by omega) (by omega) (by omega); rw [jF2_a hqm] at h; exact h)) (fun v9 w9 h9 => ?_)
        obtain ⟨rfl, h9⟩ := h9
        subst w9
        show jWp 174 31 [some (jO m), some (jO q), some (jI (k : Int)), some (jJ sg), none, some (jI (i : Int)), none, none] [jJ (w.1 q (1 + (4 * i + k))), jJ sg] 0 0 (jF2 w m u v) _
        refine jWp.blk mt 2 ?_
        show jWp 174 34 [some (jO m), some (jO q), some (jI (k : Int)), some (jJ sg), none, some (jI (i : Int)), some (jJ (sg * (w.1 q (1 + (4 * i + k))))), none] [] 0 0 (jF2 w m u v) _
        have lp4 : ∀ (N : Nat) (u v t : Int) (ht : -9 ≤ t ∧ t ≤ 9) (hu : zsm (u, v)) (hT : (zmt (w.1 q (21 + i)) (w.1 q (25 + i)) t.toNat (u, v)).bind (zml (fun i => w.1 q (21 + i)) (fun i => w.1 q (25 + i)) (fun i => sg * w.1 q (1 + (4 * i + k))) (n - (i + 1)) (i + 1)) = zml (fun i => w.1 q (21 + i)) (fun i => w.1 q (25 + i)) (fun i => sg * w.1 q (1 + (4 * i + k))) n 0 (1, 1)), t.toNat < N → jWp 174 34 [some (jO m), some (jO q), some (jI (k : Int)), some (jJ sg), none, some (jI (i : Int)), some (jJ t), none] [] 0 0 (jF2 w m u v) (fun v w1 => ∃ x y, w1 = jF2 w m x y ∧ ((v = some (jI 1) ∧ zml (fun i => w.1 q (21 + i)) (fun i => w.1 q (25 + i)) (fun i => sg * w.1 q (1 + (4 * i + k))) n 0 (1, 1) = some (x, y) ∧ zsm (x, y)) ∨ (v = some (jI 0) ∧ zml (fun i => w.1 q (21 + i)) (fun i => w.1 q (25 + i)) (fun i => sg * w.1 q (1 + (4 * i + k))) n 0 (1, 1) = none))) := by
          intro N
          induction N with
          | zero => intro u v t ht hu hT hm; omega
          | succ N ih5 =>
            intro u v t ht hu hT hm
            have hu1 : 1 ≤ u ∧ u ≤ 1000000000 ∧ 1 ≤ v ∧ v ≤ 1000000000 := hu
            have hi4 : i < n := by omega
            have hvi : 1 ≤ w.1 q (21 + i) ∧ w.1 q (21 + i) ≤ 1000000000 ∧ 1 ≤ w.1 q (25 + i) ∧ w.1 q (25 + i) ≤ 1000000000 := hv i (by omega)
            have hm1 := zmul_b hu1.1 hu1.2.1 hvi.1 hvi.2.1
            have hm2 := zmul_b hu1.2.2.1 hu1.2.2.2 hvi.2.2.1 hvi.2.2.2
            refine jWp.blk mt 2 ?_
            show jWp 174 37 [some (jO m), some (jO q), some (jI (k : Int)), some (jJ sg), none, some (jI (i : Int)), some (jJ t), none] [jJ 0, jJ t] 0 0 (jF2 w m u v) _
            refine jWp.lcmp (pc' := 41) mt rfl rfl rfl (b64_id (by omega) (by omega)) (show b64 0 = 0 by decide) (fun h6 => ?_) (fun h6 => ?_)
            · have h6 : t ≤ 0 := h6
              refine jWp.blk mt 2 ?_
              show jWp 174 13 [some (jO m), some (jO q), some (jI (k : Int)), some (jJ sg), none, some (jI ((i : Int) + 1)), some (jJ t), none] [] 0 0 (jF2 w m u v) _
              refine jWp.le (l := [some (jO m), some (jO q), some (jI (k : Int)), some (jJ sg), none, some (jI ((i : Int) + 1)), none, none]) (by exact ⟨rfl, rfl, rfl, rfl, rfl, trivial⟩) ?_
              exact ih2 (i + 1) u v (by omega) hu (by rw [zmt_0 (by omega)] at hT; exact hT) (by omega)
            · have h6 : 0 < t := h6
              refine jWp.blk mt 2 ?_
              show _ ∧ _ ∧ jWp 174 43 [some (jO m), some (jO q), some (jI (k : Int)), some (jJ sg), none, some (jI (i : Int)), some (jJ t), none] [jO m, jO m] 0 0 (jF2 w m u v) _
              refine ⟨rfl, rfl, ?_⟩
              refine jWp.getJ (pc' := 46) mt rfl rfl (jtg hM) ?_
              rw [show ((jF2 w m u v).1 m 11) = u from jF2_11]
              show jWp 174 46 [some (jO m), some (jO q), some (jI (k : Int)), some (jJ sg), none, some (jI (i : Int)), some (jJ t), none] [jJ u, jO m] 0 0 (jF2 w m u v) _
              refine jWp.blk mt 4 ?_
              show _ ∧ jWp 174 52 [some (jO m), some (jO q), some (jI (k : Int)), some (jJ sg), none, some (jI (i : Int)), some (jJ t), none] [jI (21 + (i : Int)), jO q, jJ u, jO m] 0 0 (jF2 w m u v) _
              refine ⟨rfl, ?_⟩
              refine jWp.lald (pc' := 53) (j := (21 + i)) mt rfl rfl (jtg hq) (by rw [b32_id (by omega) (by omega)]; omega) (jlt hq (by omega)) ?_
              rw [show ((jF2 w m u v).1 q (21 + i)) = (w.1 q (21 + i)) from (jF2_a hqm)]
              show jWp 174 53 [some (jO m), some (jO q), some (jI (k : Int)), some (jJ sg), none, some (jI (i : Int)), some (jJ t), none] [jJ (w.1 q (21 + i)), jJ u, jO m] 0 0 (jF2 w m u v) _
              refine jWp.blk mt 2 ?_
              show _ ∧ jWp 174 55 [some (jO m), some (jO q), some (jI (k : Int)), some (jJ sg), none, some (jI (i : Int)), some (jJ t), none] [jO m, jJ (u * (w.1 q (21 + i))), jO m] 0 0 (jF2 w m u v) _
              refine ⟨rfl, ?_⟩
              refine jWp.getJ (pc' := 58) mt rfl rfl (jtg hM) ?_
              rw [show ((jF2 w m u v).1 m 12) = v from jF2_12]
              show jWp 174 58 [some (jO m), some (jO q), some (jI (k : Int)), some (jJ sg), none, some (jI (i : Int)), some (jJ t), none] [jJ v, jJ (u * (w.1 q (21 + i))), jO m] 0 0 (jF2 w m u v) _
              refine jWp.blk mt 4 ?_
              show _ ∧ jWp 174 64 [some (jO m), some (jO q), some (jI (k : Int)), some (jJ sg), none, some (jI (i : Int)), some (jJ t), none] [jI (25 + (i : Int)), jO q, jJ v, jJ (u * (w.1 q (21 + i))), jO m] 0 0 (jF2 w m u v) _
              refine ⟨rfl, ?_⟩
              refine jWp.lald (pc' := 65) (j := (25 + i)) mt rfl rfl (jtg hq) (by rw [b32_id (by omega) (by omega)]; omega) (jlt hq (by omega)) ?_
              rw [show ((jF2 w m u v).1 q (25 + i)) = (w.1 q (25 + i)) from (jF2_a hqm)]
              show jWp 174 65 [some (jO m), some (jO q), some (jI (k : Int)), some (jJ sg), none, some (jI (i : Int)), some (jJ t), none] [jJ (w.1 q (25 + i)), jJ v, jJ (u * (w.1 q (21 + i))), jO m] 0 0 (jF2 w m u v) _
              refine jWp.blk mt 1 ?_
              show jWp 174 66 [some (jO m), some (jO q), some (jI (k : Int)), some (jJ sg), none, some (jI (i : Int)), some (jJ t), none] [jJ (v * (w.1 q (25 + i))), jJ (u * (w.1 q (21 + i))), jO m] 0 0 (jF2 w m u v) _
              refine jWp.callv (as := [jO m, jJ (u * (w.1 q (21 + i))), jJ (v * (w.1 q (25 + i)))]) (rest := []) mt rfl rfl rfl ⟨rfl, jtg hM⟩ ?_
              refine jCall.mono (E_small hM (show 0 ≤ (u * (w.1 q (21 + i))) ∧ (u * (w.1 q (21 + i))) < 9223372036854775808 by skip; omega) (show 0 < (v * (w.1 q (25 + i))) ∧ (v * (w.1 q (25 + i))) < 9223372036854775808 by skip; omega)) (fun v9 w9 h9 => ?_)
              rcases h9 with ⟨rfl, h9, h7⟩ | ⟨rfl, h9, h7⟩ <;> subst w9
              · have h7 : zok (u * (w.1 q (21 + i))) (v * (w.1 q (25 + i))) := h7
                show jWp 174 69 [some (jO m), some (jO q), some (jI (k : Int)), some (jJ sg), none, some (jI (i : Int)), some (jJ t), none] [jI 1] 0 0 (jW (jW (jF2 w m u v) m 11 (zu (u * (w.1 q (21 + i))) (v * (w.1 q (25 + i))))) m 12 (zv (u * (w.1 q (21 + i))) (v * (w.1 q (25 + i))))) _
                rw [show jW (jW (jF2 w m u v) m 11 (zu (u * (w.1 q (21 + i))) (v * (w.1 q (25 + i))))) m 12 (zv (u * (w.1 q (21 + i))) (v * (w.1 q (25 + i)))) = (jF2 w m (zu (u * (w.1 q (21 + i))) (v * (w.1 q (25 + i)))) (zv (u * (w.1 q (21 + i))) (v * (w.1 q (25 + i))))) from jF2_2]
                show jWp 174 69 [some (jO m), some (jO q), some (jI (k : Int)), some (jJ sg), none, some (jI (i : Int)), some (jJ t), none] [jI 1] 0 0 (jF2 w m (zu (u * (w.1 q (21 + i))) (v * (w.1 q (25 + i)))) (zv (u * (w.1 q (21 + i))) (v * (w.1 q (25 + i))))) _
                refine jWp.ifc (b := true) mt rfl (by decide) rfl ?_
                show jWp 174 74 [some (jO m), some (jO q), some (jI (k : Int)), some (jJ sg), none, some (jI (i : Int)), some (jJ t), none] [] 0 0 (jF2 w m (zu (u * (w.1 q (21 + i))) (v * (w.1 q (25 + i)))) (zv (u * (w.1 q (21 + i))) (v * (w.1 q (25 + i))))) _
                refine jWp.blk mt 5 ?_
                show jWp 174 34 [some (jO m), some (jO q), some (jI (k : Int)), some (jJ sg), none, some (jI (i : Int)), some (jJ (t - 1)), none] [] 0 0 (jF2 w m (zu (u * (w.1 q (21 + i))) (v * (w.1 q (25 + i)))) (zv (u * (w.1 q (21 + i))) (v * (w.1 q (25 + i))))) _
                refine jWp.le (l := [some (jO m), some (jO q), some (jI (k : Int)), some (jJ sg), none, some (jI (i : Int)), some (jJ (t - 1)), none]) (by exact ⟨rfl, rfl, rfl, rfl, rfl, rfl, trivial⟩) ?_
                exact ih5 (zu (u * (w.1 q (21 + i))) (v * (w.1 q (25 + i)))) (zv (u * (w.1 q (21 + i))) (v * (w.1 q (25 + i)))) (t - 1) (by omega) (zok_sm (by omega) (by omega) h7) (by rw [zmt_s (by omega), if_pos h7] at hT; exact hT) (by omega)
              · have h7 : ¬ (zok (u * (w.1 q (21 + i))) (v * (w.1 q (25 + i)))) := h7
                show jWp 174 69 [some (jO m), some (jO q), some (jI (k : Int)), some (jJ sg), none, some (jI (i : Int)), some (jJ t), none] [jI 0] 0 0 (jW (jW (jF2 w m u v) m 11 (zu (u * (w.1 q (21 + i))) (v * (w.1 q (25 + i))))) m 12 (zv (u * (w.1 q (21 + i))) (v * (w.1 q (25 + i))))) _
                rw [show jW (jW (jF2 w m u v) m 11 (zu (u * (w.1 q (21 + i))) (v * (w.1 q (25 + i))))) m 12 (zv (u * (w.1 q (21 + i))) (v * (w.1 q (25 + i)))) = (jF2 w m (zu (u * (w.1 q (21 + i))) (v * (w.1 q (25 + i)))) (zv (u * (w.1 q (21 + i))) (v * (w.1 q (25 + i))))) from jF2_2]
                show jWp 174 69 [some (jO m), some (jO q), some (jI (k : Int)), some (jJ sg), none, some (jI (i : Int)), some (jJ t), none] [jI 0] 0 0 (jF2 w m (zu (u * (w.1 q (21 + i))) (v * (w.1 q (25 + i)))) (zv (u * (w.1 q (21 + i))) (v * (w.1 q (25 + i))))) _
                refine jWp.ifc (b := false) mt rfl (by decide) rfl ?_
                show jWp 174 72 [some (jO m), some (jO q), some (jI (k : Int)), some (jJ sg), none, some (jI (i : Int)), some (jJ t), none] [] 0 0 (jF2 w m (zu (u * (w.1 q (21 + i))) (v * (w.1 q (25 + i)))) (zv (u * (w.1 q (21 + i))) (v * (w.1 q (25 + i))))) _
                refine jWp.blk mt 1 ?_
                show jWp 174 73 [some (jO m), some (jO q), some (jI (k : Int)), some (jJ sg), none, some (jI (i : Int)), some (jJ t), none] [jI 0] 0 0 (jF2 w m (zu (u * (w.1 q (21 + i))) (v * (w.1 q (25 + i)))) (zv (u * (w.1 q (21 + i))) (v * (w.1 q (25 + i))))) _
                refine jWp.iretz mt rfl ⟨rfl, rfl⟩ rfl (Or.inl rfl) ?_
                refine ⟨_, _, rfl, Or.inr ⟨rfl, ?_⟩⟩
                rw [← hT, zmt_s (by omega), if_neg h7]
                rfl
        refine jWp.le (l := [some (jO m), some (jO q), some (jI (k : Int)), some (jJ sg), none, some (jI (i : Int)), some (jJ (sg * (w.1 q (1 + (4 * i + k))))), none]) (by exact ⟨rfl, rfl, rfl, rfl, rfl, rfl, trivial⟩) ?_
        have hbb := hb (4 * i + k) (by omega)
        exact lp4 _ u v _ (by rcases hs with rfl | rfl <;> omega) hu (by rw [zml_s _ _ _ (by omega)] at hT; exact hT) (Nat.lt_succ_self _)
  refine jWp.le (l := [some (jO m), some (jO q), some (jI (k : Int)), some (jJ sg), none, some (jI 0), none, none]) (by exact ⟨rfl, rfl, rfl, rfl, rfl, trivial⟩) ?_
  exact lp1 _ 0 1 1 (by omega) (by decide) rfl (Nat.lt_succ_self _)
end
section
/-- an array told anew -/
def kA (w : jS) (a : Nat) (T : Nat → Int) : jS := (fun b j => if b = a then T j else w.1 b j, w.2)
def zset (T : Nat → Int) (k : Nat) (x : Int) : Nat → Int := fun j => if j = k then x else T j
theorem kA_s {w : jS} {a j : Nat} {T : Nat → Int} : (kA w a T).1 a j = T j := if_pos rfl
theorem kA_a {w : jS} {a b j : Nat} {T : Nat → Int} (h : b ≠ a) : (kA w a T).1 b j = w.1 b j := if_neg h
theorem kA_W {w : jS} {a k : Nat} {T : Nat → Int} {x : Int} : jW (kA w a T) a k x = kA w a (zset T k x) := by
  unfold kA jW jup zset
  congr 1
  funext b j
  by_cases hb : b = a <;> by_cases hj : j = k <;> simp [hb, hj]
theorem kA_self {w : jS} {a : Nat} : kA w a (w.1 a) = w := by
  unfold kA
  show (_, w.2) = (w.1, w.2)
  congr 1
  funext b j
  by_cases hb : b = a <;> simp [hb]
theorem kA_A {w : jS} {a : Nat} {T S : Nat → Int} : kA (kA w a T) a S = kA w a S := by
  unfold kA
  congr 1
  funext b j
  by_cases hb : b = a <;> simp [hb]
theorem zset_s {T : Nat → Int} {k : Nat} {x : Int} : zset T k x k = x := if_pos rfl
theorem zset_n {T : Nat → Int} {k j : Nat} {x : Int} (h : j ≠ k) : zset T k x j = T j := if_neg h
theorem zp9 {x y : Int} (hx : -9 ≤ x ∧ x ≤ 9) (hy : -9 ≤ y ∧ y ≤ 9) : -81 ≤ x * y ∧ x * y ≤ 81 := by
  have h : (x * y).natAbs ≤ 9 * 9 := by rw [Int.natAbs_mul]; exact Nat.mul_le_mul (by omega) (by omega)
  omega
theorem zmore {x y : Int} (hx : -9 ≤ x ∧ x ≤ 9) (hy : -9 ≤ y ∧ y ≤ 9) : (-81 ≤ jabs x * y ∧ jabs x * y ≤ 81) ∧ (-81 ≤ x * jabs y ∧ x * jabs y ≤ 81) ∧ (-81 ≤ Int.tdiv (jabs x * y + x * jabs y) 2 ∧ Int.tdiv (jabs x * y + x * jabs y) 2 ≤ 81) := by
  have hx' : -9 ≤ jabs x ∧ jabs x ≤ 9 := by unfold jabs; split <;> omega
  have hy' : -9 ≤ jabs y ∧ jabs y ≤ 9 := by unfold jabs; split <;> omega
  have h1 := zp9 hx' hy
  have h2 := zp9 hx hy'
  refine ⟨h1, h2, ?_⟩
  have h3 : (Int.tdiv (jabs x * y + x * jabs y) 2).natAbs = (jabs x * y + x * jabs y).natAbs / 2 := Int.natAbs_tdiv _ _
  omega
/-- the table behind an exchange -/
def zxb (f : Nat → Int) (k i j : Nat) : Int := if i = k ∨ j = k then -(f (4 * i + j)) else f (4 * i + j) + Int.tdiv (jabs (f (4 * i + k)) * f (4 * k + j) + f (4 * i + k) * jabs (f (4 * k + j))) 2
def zxe (f : Nat → Int) (k e : Nat) : Int := zxb f k (e / 4) (e % 4)
theorem zxe_at (f : Nat → Int) (k i j : Nat) (h : j < 4) : zxe f k (4 * i + j) = zxb f k i j := by
  unfold zxe
  rw [show (4 * i + j) / 4 = i by omega, show (4 * i + j) % 4 = j by omega]
def zxt (f : Nat → Int) (k : Nat) : Prop := ∀ e, e < 16 → -9 ≤ zxe f k e ∧ zxe f k e ≤ 9
set_option maxHeartbeats 4000000 in
set_option maxRecDepth 20000 in
theorem E_positive {w : jS} {v : Int} (hv : -9223372036854775808 < v ∧ v < 9223372036854775808) : jCall 175 [jJ v] w (jvj (jabs v) w) := by
  have mt : jtb 175 = jT175 := rfl
  show jWp 175 0 [some (jJ v), none] [] 0 0 w _
  refine jWp.blk mt 2 ?_
  show jWp 175 2 [some (jJ v), none] [jJ 0, jJ v] 0 0 w _
  refine jWp.lcmp (pc' := 6) mt rfl rfl rfl (b64_id (by omega) (by omega)) (show b64 0 = 0 by decide) (fun h1 => ?_) (fun h1 => ?_)
  · have h1 : 0 ≤ v := h1
    refine jWp.blk mt 1 ?_
    show jWp 175 12 [some (jJ v), none] [jJ v] 0 0 w _
    refine jWp.lret mt rfl ⟨rfl, rfl⟩ rfl ?_
    refine ⟨?_, rfl⟩
    unfold jabs
    rw [if_pos (by omega)]
  · have h1 : v < 0 := h1
    refine jWp.blk mt 3 ?_
    show jWp 175 12 [some (jJ v), none] [jJ (-v)] 0 0 w _
    refine jWp.lret mt rfl ⟨rfl, rfl⟩ rfl ?_
    refine ⟨?_, rfl⟩
    unfold jabs
    rw [if_neg (by omega), Int.zero_sub]
set_option maxHeartbeats 4000000 in
set_option maxRecDepth 20000 in
theorem E_isTable {w : jS} {m q tb L k : Nat} (hM : w.2.1 m = (10, L)) (ht : w.2.2.1 m 13 = some tb) (hq : w.2.1 q = (101, 45)) (htb : w.2.1 tb = (101, 16)) (hqt : q ≠ tb) (hk : k < 4) (hb : ∀ j, j < 16 → -9 ≤ w.1 q (1 + j) ∧ w.1 q (1 + j) ≤ 9) : jCall 176 [jO m, jO q, jI (k : Int)] w (fun v w1 => ∃ T, w1 = kA w tb T ∧ ((v = some (jI 1) ∧ ∀ e, e < 16 → T e = zxe (fun e => w.1 q (1 + e)) k e ∧ -9 ≤ T e ∧ T e ≤ 9) ∨ (v = some (jI 0) ∧ ¬ zxt (fun e => w.1 q (1 + e)) k))) := by
  have mt : jtb 176 = jT176 := rfl
  show jWp 176 0 [some (jO m), some (jO q), some (jI (k : Int)), none, none, none, none, none, none] [] 0 0 w _
  refine jWp.blk mt 2 ?_
  show jWp 176 2 [some (jO m), some (jO q), some (jI (k : Int)), some (jI 0), none, none, none, none, none] [] 0 0 w _
  have lp1 : ∀ (N : Nat) (i : Nat) (T : Nat → Int) (hi : i ≤ 4) (hT : ∀ e, e < 4 * i → T e = zxe (fun e => w.1 q (1 + e)) k e ∧ -9 ≤ T e ∧ T e ≤ 9), 4 - i < N → jWp 176 2 [some (jO m), some (jO q), some (jI (k : Int)), some (jI (i : Int)), none, none, none, none, none] [] 0 0 (kA w tb T) (fun v w1 => ∃ T, w1 = kA w tb T ∧ ((v = some (jI 1) ∧ ∀ e, e < 16 → T e = zxe (fun e => w.1 q (1 + e)) k e ∧ -9 ≤ T e ∧ T e ≤ 9) ∨ (v = some (jI 0) ∧ ¬ zxt (fun e => w.1 q (1 + e)) k))) := by
    intro N
    induction N with
    | zero => intro i T hi hT hm; omega
    | succ N ih2 =>
      intro i T hi hT hm
      refine jWp.blk mt 2 ?_
      show jWp 176 4 [some (jO m), some (jO q), some (jI (k : Int)), some (jI (i : Int)), none, none, none, none, none] [jI 4, jI (i : Int)] 0 0 (kA w tb T) _
      refine jWp.icmp (pc' := 7) mt rfl rfl (b32_id (by omega) (by omega)) (show b32 4 = 4 by decide) (fun h3 => ?_) (fun h3 => ?_)
      · have h3 : 4 ≤ (i : Int) := h3
        refine jWp.blk mt 1 ?_
        show jWp 176 133 [some (jO m), some (jO q), some (jI (k : Int)), some (jI (i : Int)), none, none, none, none, none] [jI 1] 0 0 (kA w tb T) _
        refine jWp.iretz mt rfl ⟨rfl, rfl⟩ rfl (Or.inr rfl) ?_
        exact ⟨T, rfl, Or.inl ⟨rfl, fun e he => hT e (by omega)⟩⟩
      · have h3 : (i : Int) < 4 := h3
        refine jWp.blk mt 2 ?_
        show jWp 176 10 [some (jO m), some (jO q), some (jI (k : Int)), some (jI (i : Int)), some (jI 0), none, none, none, none] [] 0 0 (kA w tb T) _
        have lp4 : ∀ (N : Nat) (j : Nat) (T : Nat → Int) (hj : j ≤ 4) (hT : ∀ e, e < 4 * i + j → T e = zxe (fun e => w.1 q (1 + e)) k e ∧ -9 ≤ T e ∧ T e ≤ 9), 4 - j < N → jWp 176 10 [some (jO m), some (jO q), some (jI (k : Int)), some (jI (i : Int)), some (jI (j : Int)), none, none, none, none] [] 0 0 (kA w tb T) (fun v w1 => ∃ T, w1 = kA w tb T ∧ ((v = some (jI 1) ∧ ∀ e, e < 16 → T e = zxe (fun e => w.1 q (1 + e)) k e ∧ -9 ≤ T e ∧ T e ≤ 9) ∨ (v = some (jI 0) ∧ ¬ zxt (fun e => w.1 q (1 + e)) k))) := by
          intro N
          induction N with
          | zero => intro j T hj hT hm; omega
          | succ N ih5 =>
            intro j T hj hT hm
            have hi4 : i < 4 := by omega
            have b1 := hb (4 * i + k) (by omega)
            have hf : j < 4 → _ := fun hj4 => (And.intro (hb (4 * k + j) (by omega)) (And.intro (hb (4 * i + j) (by omega)) (zmore b1 (hb (4 * k + j) (by omega)))))
            refine jWp.blk mt 2 ?_
            show jWp 176 13 [some (jO m), some (jO q), some (jI (k : Int)), some (jI (i : Int)), some (jI (j : Int)), none, none, none, none] [jI 4, jI (j : Int)] 0 0 (kA w tb T) _
            refine jWp.icmp (pc' := 16) mt rfl rfl (b32_id (by omega) (by omega)) (show b32 4 = 4 by decide) (fun h6 => ?_) (fun h6 => ?_)
            · have h6 : 4 ≤ (j : Int) := h6
              refine jWp.blk mt 2 ?_
              show jWp 176 2 [some (jO m), some (jO q), some (jI (k : Int)), some (jI ((i : Int) + 1)), some (jI (j : Int)), none, none, none, none] [] 0 0 (kA w tb T) _
              refine jWp.le (l := [some (jO m), some (jO q), some (jI (k : Int)), some (jI ((i : Int) + 1)), none, none, none, none, none]) (by exact ⟨rfl, rfl, rfl, rfl, trivial⟩) ?_
              exact ih2 (i + 1) T (by omega) (fun e he => hT e (by omega)) (by omega)
            · have h6 : (j : Int) < 4 := h6
              refine jWp.blk mt 3 ?_
              show _ ∧ jWp 176 19 [some (jO m), some (jO q), some (jI (k : Int)), some (jI (i : Int)), some (jI (j : Int)), none, none, none, none] [jI (k : Int), jI (i : Int), jO q] 0 0 (kA w tb T) _
              refine ⟨rfl, ?_⟩
              refine jWp.calls (as := [jO q, jI (i : Int), jI (k : Int)]) (rest := []) mt rfl rfl rfl rfl ?_
              refine jCall.mono ((show jCall 163 [jO q, jI (i : Int), jI (k : Int)] (kA w tb T) (jvj (w.1 q (1 + (4 * i + k))) (kA w tb T)) from by have h := E_b (w := (kA w tb T)) (i := i) (k := k) hq (by omega) (by omega) (by omega); rw [kA_a hqt] at h; exact h)) (fun v9 w9 h9 => ?_)
              obtain ⟨rfl, h9⟩ := h9
              subst w9
              show jWp 176 22 [some (jO m), some (jO q), some (jI (k : Int)), some (jI (i : Int)), some (jI (j : Int)), none, none, none, none] [jJ (w.1 q (1 + (4 * i + k)))] 0 0 (kA w tb T) _
              refine jWp.calls (as := [jJ (w.1 q (1 + (4 * i + k)))]) (rest := []) mt rfl rfl rfl rfl ?_
              refine jCall.mono (E_positive (by omega)) (fun v9 w9 h9 => ?_)
              obtain ⟨rfl, h9⟩ := h9
              subst w9
              show jWp 176 25 [some (jO m), some (jO q), some (jI (k : Int)), some (jI (i : Int)), some (jI (j : Int)), none, none, none, none] [jJ (jabs (w.1 q (1 + (4 * i + k))))] 0 0 (kA w tb T) _
              refine jWp.blk mt 3 ?_
              show _ ∧ jWp 176 29 [some (jO m), some (jO q), some (jI (k : Int)), some (jI (i : Int)), some (jI (j : Int)), none, none, none, none] [jI (j : Int), jI (k : Int), jO q, jJ (jabs (w.1 q (1 + (4 * i + k))))] 0 0 (kA w tb T) _
              refine ⟨rfl, ?_⟩
              refine jWp.calls (as := [jO q, jI (k : Int), jI (j : Int)]) (rest := [jJ (jabs (w.1 q (1 + (4 * i + k))))]) mt rfl rfl rfl rfl ?_
              refine jCall.mono ((show jCall 163 [jO q, jI (k : Int), jI (j : Int)] (kA w tb T) (jvj (w.1 q (1 + (4 * k + j))) (kA w tb T)) from by have h := E_b (w := (kA w tb T)) (i := k) (k := j) hq (by omega) (by omega) (by omega); rw [kA_a hqt] at h; exact h)) (fun v9 w9 h9 => ?_)
              obtain ⟨rfl, h9⟩ := h9
              subst w9
              show jWp 176 32 [some (jO m), some (jO q), some (jI (k : Int)), some (jI (i : Int)), some (jI (j : Int)), none, none, none, none] [jJ (w.1 q (1 + (4 * k + j))), jJ (jabs (w.1 q (1 + (4 * i + k))))] 0 0 (kA w tb T) _
              refine jWp.blk mt 4 ?_
              show _ ∧ jWp 176 36 [some (jO m), some (jO q), some (jI (k : Int)), some (jI (i : Int)), some (jI (j : Int)), none, none, none, none] [jI (k : Int), jI (i : Int), jO q, jJ ((jabs (w.1 q (1 + (4 * i + k)))) * (w.1 q (1 + (4 * k + j))))] 0 0 (kA w tb T) _
              refine ⟨rfl, ?_⟩
              refine jWp.calls (as := [jO q, jI (i : Int), jI (k : Int)]) (rest := [jJ ((jabs (w.1 q (1 + (4 * i + k)))) * (w.1 q (1 + (4 * k + j))))]) mt rfl rfl rfl rfl ?_
              refine jCall.mono ((show jCall 163 [jO q, jI (i : Int), jI (k : Int)] (kA w tb T) (jvj (w.1 q (1 + (4 * i + k))) (kA w tb T)) from by have h := E_b (w := (kA w tb T)) (i := i) (k := k) hq (by omega) (by omega) (by omega); rw [kA_a hqt] at h; exact h)) (fun v9 w9 h9 => ?_)
              obtain ⟨rfl, h9⟩ := h9
              subst w9
              show jWp 176 39 [some (jO m), some (jO q), some (jI (k : Int)), some (jI (i : Int)), some (jI (j : Int)), none, none, none, none] [jJ (w.1 q (1 + (4 * i + k))), jJ ((jabs (w.1 q (1 + (4 * i + k)))) * (w.1 q (1 + (4 * k + j))))] 0 0 (kA w tb T) _
              refine jWp.blk mt 3 ?_
              show _ ∧ jWp 176 43 [some (jO m), some (jO q), some (jI (k : Int)), some (jI (i : Int)), some (jI (j : Int)), none, none, none, none] [jI (j : Int), jI (k : Int), jO q, jJ (w.1 q (1 + (4 * i + k))), jJ ((jabs (w.1 q (1 + (4 * i + k)))) * (w.1 q (1 + (4 * k + j))))] 0 0 (kA w tb T) _
              refine ⟨rfl, ?_⟩
              refine jWp.calls (as := [jO q, jI (k : Int), jI (j : Int)]) (rest := [jJ (w.1 q (1 + (4 * i + k))), jJ ((jabs (w.1 q (1 + (4 * i + k)))) * (w.1 q (1 + (4 * k + j))))]) mt rfl rfl rfl rfl ?_
              refine jCall.mono ((show jCall 163 [jO q, jI (k : Int), jI (j : Int)] (kA w tb T) (jvj (w.1 q (1 + (4 * k + j))) (kA w tb T)) from by have h := E_b (w := (kA w tb T)) (i := k) (k := j) hq (by omega) (by omega) (by omega); rw [kA_a hqt] at h; exact h)) (fun v9 w9 h9 => ?_)
              obtain ⟨rfl, h9⟩ := h9
              subst w9
              show jWp 176 46 [some (jO m), some (jO q), some (jI (k : Int)), some (jI (i : Int)), some (jI (j : Int)), none, none, none, none] [jJ (w.1 q (1 + (4 * k + j))), jJ (w.1 q (1 + (4 * i + k))), jJ ((jabs (w.1 q (1 + (4 * i + k)))) * (w.1 q (1 + (4 * k + j))))] 0 0 (kA w tb T) _
              refine jWp.calls (as := [jJ (w.1 q (1 + (4 * k + j)))]) (rest := [jJ (w.1 q (1 + (4 * i + k))), jJ ((jabs (w.1 q (1 + (4 * i + k)))) * (w.1 q (1 + (4 * k + j))))]) mt rfl rfl rfl rfl ?_
              refine jCall.mono (E_positive (by omega)) (fun v9 w9 h9 => ?_)
              obtain ⟨rfl, h9⟩ := h9
              subst w9
              show jWp 176 49 [some (jO m), some (jO q), some (jI (k : Int)), some (jI (i : Int)), some (jI (j : Int)), none, none, none, none] [jJ (jabs (w.1 q (1 + (4 * k + j)))), jJ (w.1 q (1 + (4 * i + k))), jJ ((jabs (w.1 q (1 + (4 * i + k)))) * (w.1 q (1 + (4 * k + j))))] 0 0 (kA w tb T) _
              refine jWp.blk mt 3 ?_
              show jWp 176 54 [some (jO m), some (jO q), some (jI (k : Int)), some (jI (i : Int)), some (jI (j : Int)), none, none, none, none] [jJ 2, jJ (((jabs (w.1 q (1 + (4 * i + k)))) * (w.1 q (1 + (4 * k + j)))) + ((w.1 q (1 + (4 * i + k))) * (jabs (w.1 q (1 + (4 * k + j))))))] 0 0 (kA w tb T) _
              refine jWp.ldiv (pc' := 55) mt rfl rfl (b64_id (by omega) (by omega)) (show b64 2 = 2 by decide) (by decide) ?_
              show jWp 176 55 [some (jO m), some (jO q), some (jI (k : Int)), some (jI (i : Int)), some (jI (j : Int)), none, none, none, none] [jJ (Int.tdiv (((jabs (w.1 q (1 + (4 * i + k)))) * (w.1 q (1 + (4 * k + j)))) + ((w.1 q (1 + (4 * i + k))) * (jabs (w.1 q (1 + (4 * k + j)))))) 2)] 0 0 (kA w tb T) _
              refine jWp.blk mt 3 ?_
              show jWp 176 59 [some (jO m), some (jO q), some (jI (k : Int)), some (jI (i : Int)), some (jI (j : Int)), some (jJ (Int.tdiv (((jabs (w.1 q (1 + (4 * i + k)))) * (w.1 q (1 + (4 * k + j)))) + ((w.1 q (1 + (4 * i + k))) * (jabs (w.1 q (1 + (4 * k + j)))))) 2)), none, none, none] [jI (k : Int), jI (i : Int)] 0 0 (kA w tb T) _
              refine jWp.icmp (pc' := 62) mt rfl rfl (b32_id (by omega) (by omega)) (b32_id (by omega) (by omega)) (fun h7 => ?_) (fun h7 => ?_)
              · have h7 : (i : Int) = (k : Int) := h7
                refine jWp.blk mt 3 ?_
                show _ ∧ jWp 176 72 [some (jO m), some (jO q), some (jI (k : Int)), some (jI (i : Int)), some (jI (j : Int)), some (jJ (Int.tdiv (((jabs (w.1 q (1 + (4 * i + k)))) * (w.1 q (1 + (4 * k + j)))) + ((w.1 q (1 + (4 * i + k))) * (jabs (w.1 q (1 + (4 * k + j)))))) 2)), none, none, none] [jI (j : Int), jI (i : Int), jO q] 0 0 (kA w tb T) _
                refine ⟨rfl, ?_⟩
                refine jWp.calls (as := [jO q, jI (i : Int), jI (j : Int)]) (rest := []) mt rfl rfl rfl rfl ?_
                refine jCall.mono ((show jCall 163 [jO q, jI (i : Int), jI (j : Int)] (kA w tb T) (jvj (w.1 q (1 + (4 * i + j))) (kA w tb T)) from by have h := E_b (w := (kA w tb T)) (i := i) (k := j) hq (by omega) (by omega) (by omega); rw [kA_a hqt] at h; exact h)) (fun v9 w9 h9 => ?_)
                obtain ⟨rfl, h9⟩ := h9
                subst w9
                show jWp 176 75 [some (jO m), some (jO q), some (jI (k : Int)), some (jI (i : Int)), some (jI (j : Int)), some (jJ (Int.tdiv (((jabs (w.1 q (1 + (4 * i + k)))) * (w.1 q (1 + (4 * k + j)))) + ((w.1 q (1 + (4 * i + k))) * (jabs (w.1 q (1 + (4 * k + j)))))) 2)), none, none, none] [jJ (w.1 q (1 + (4 * i + j)))] 0 0 (kA w tb T) _
                refine jWp.blk mt 4 ?_
                show _ ∧ jWp 176 92 [some (jO m), some (jO q), some (jI (k : Int)), some (jI (i : Int)), some (jI (j : Int)), some (jJ (Int.tdiv (((jabs (w.1 q (1 + (4 * i + k)))) * (w.1 q (1 + (4 * k + j)))) + ((w.1 q (1 + (4 * i + k))) * (jabs (w.1 q (1 + (4 * k + j)))))) 2)), none, some (jJ (-(w.1 q (1 + (4 * i + j))))), none] [jO m] 0 0 (kA w tb T) _
                refine ⟨rfl, ?_⟩
                refine jWp.getR (pc' := 95) (o := tb) mt rfl rfl (jtg hM) ht ?_
                show jWp 176 95 [some (jO m), some (jO q), some (jI (k : Int)), some (jI (i : Int)), some (jI (j : Int)), some (jJ (Int.tdiv (((jabs (w.1 q (1 + (4 * i + k)))) * (w.1 q (1 + (4 * k + j)))) + ((w.1 q (1 + (4 * i + k))) * (jabs (w.1 q (1 + (4 * k + j)))))) 2)), none, some (jJ (-(w.1 q (1 + (4 * i + j))))), none] [jO tb] 0 0 (kA w tb T) _
                refine jWp.blk mt 6 ?_
                show jWp 176 103 [some (jO m), some (jO q), some (jI (k : Int)), some (jI (i : Int)), some (jI (j : Int)), some (jJ (Int.tdiv (((jabs (w.1 q (1 + (4 * i + k)))) * (w.1 q (1 + (4 * k + j)))) + ((w.1 q (1 + (4 * i + k))) * (jabs (w.1 q (1 + (4 * k + j)))))) 2)), none, some (jJ (-(w.1 q (1 + (4 * i + j))))), none] [jJ (-(w.1 q (1 + (4 * i + j)))), jI ((4 * (i : Int)) + (j : Int)), jO tb] 0 0 (kA w tb T) _
                refine jWp.last (pc' := 104) (j := (4 * i + j)) mt rfl rfl (jtg htb) (by rw [b32_id (by omega) (by omega)]; omega) (jlt htb (by omega)) ?_
                rw [show jW (kA w tb T) tb (4 * i + j) (-(w.1 q (1 + (4 * i + j)))) = (kA w tb (zset T (4 * i + j) (-(w.1 q (1 + (4 * i + j)))))) from kA_W]
                show jWp 176 104 [some (jO m), some (jO q), some (jI (k : Int)), some (jI (i : Int)), some (jI (j : Int)), some (jJ (Int.tdiv (((jabs (w.1 q (1 + (4 * i + k)))) * (w.1 q (1 + (4 * k + j)))) + ((w.1 q (1 + (4 * i + k))) * (jabs (w.1 q (1 + (4 * k + j)))))) 2)), none, some (jJ (-(w.1 q (1 + (4 * i + j))))), none] [] 0 0 (kA w tb (zset T (4 * i + j) (-(w.1 q (1 + (4 * i + j)))))) _
                refine jWp.blk mt 3 ?_
                show jWp 176 112 [some (jO m), some (jO q), some (jI (k : Int)), some (jI (i : Int)), some (jI (j : Int)), some (jJ (Int.tdiv (((jabs (w.1 q (1 + (4 * i + k)))) * (w.1 q (1 + (4 * k + j)))) + ((w.1 q (1 + (4 * i + k))) * (jabs (w.1 q (1 + (4 * k + j)))))) 2)), none, some (jJ (-(w.1 q (1 + (4 * i + j))))), none] [jJ 9, jJ (-9), jJ (-(w.1 q (1 + (4 * i + j))))] 0 0 (kA w tb (zset T (4 * i + j) (-(w.1 q (1 + (4 * i + j)))))) _
                refine jWp.calls (as := [jJ (-(w.1 q (1 + (4 * i + j)))), jJ (-9), jJ 9]) (rest := []) mt rfl rfl rfl rfl ?_
                refine jCall.mono (E_in (b64_id (by omega) (by omega)) (show b64 (-9) = (-9) by decide) (show b64 9 = 9 by decide)) (fun v9 w9 h9 => ?_)
                rcases h9 with ⟨rfl, h9, h8⟩ | ⟨rfl, h9, h8⟩ <;> subst w9
                · have h8 : (-9) ≤ (-(w.1 q (1 + (4 * i + j)))) ∧ (-(w.1 q (1 + (4 * i + j)))) ≤ 9 := h8
                  show jWp 176 115 [some (jO m), some (jO q), some (jI (k : Int)), some (jI (i : Int)), some (jI (j : Int)), some (jJ (Int.tdiv (((jabs (w.1 q (1 + (4 * i + k)))) * (w.1 q (1 + (4 * k + j)))) + ((w.1 q (1 + (4 * i + k))) * (jabs (w.1 q (1 + (4 * k + j)))))) 2)), none, some (jJ (-(w.1 q (1 + (4 * i + j))))), none] [jI 1] 0 0 (kA w tb (zset T (4 * i + j) (-(w.1 q (1 + (4 * i + j)))))) _
                  have hT9 : ∀ e, e < 4 * i + (j + 1) → zset T (4 * i + j) (-(w.1 q (1 + (4 * i + j)))) e = zxe (fun e => w.1 q (1 + e)) k e ∧ -9 ≤ zset T (4 * i + j) (-(w.1 q (1 + (4 * i + j)))) e ∧ zset T (4 * i + j) (-(w.1 q (1 + (4 * i + j)))) e ≤ 9 := by
                    intro e he
                    by_cases h : e = 4 * i + j
                    · subst h; rw [zset_s, zxe_at _ _ _ _ (by omega)]
                      refine ⟨?_, h8⟩
                      unfold zxb
                      first | rw [if_pos (Or.inl (by omega))] | rw [if_pos (Or.inr (by omega))] | rw [if_neg (by omega)]
                    · rw [zset_n h]; exact hT e (by omega)
                  refine jWp.ifc (b := true) mt rfl (by decide) rfl ?_
                  show jWp 176 120 [some (jO m), some (jO q), some (jI (k : Int)), some (jI (i : Int)), some (jI (j : Int)), some (jJ (Int.tdiv (((jabs (w.1 q (1 + (4 * i + k)))) * (w.1 q (1 + (4 * k + j)))) + ((w.1 q (1 + (4 * i + k))) * (jabs (w.1 q (1 + (4 * k + j)))))) 2)), none, some (jJ (-(w.1 q (1 + (4 * i + j))))), none] [] 0 0 (kA w tb (zset T (4 * i + j) (-(w.1 q (1 + (4 * i + j)))))) _
                  refine jWp.blk mt 2 ?_
                  show jWp 176 10 [some (jO m), some (jO q), some (jI (k : Int)), some (jI (i : Int)), some (jI ((j : Int) + 1)), some (jJ (Int.tdiv (((jabs (w.1 q (1 + (4 * i + k)))) * (w.1 q (1 + (4 * k + j)))) + ((w.1 q (1 + (4 * i + k))) * (jabs (w.1 q (1 + (4 * k + j)))))) 2)), none, some (jJ (-(w.1 q (1 + (4 * i + j))))), none] [] 0 0 (kA w tb (zset T (4 * i + j) (-(w.1 q (1 + (4 * i + j)))))) _
                  refine jWp.le (l := [some (jO m), some (jO q), some (jI (k : Int)), some (jI (i : Int)), some (jI ((j : Int) + 1)), none, none, none, none]) (by exact ⟨rfl, rfl, rfl, rfl, rfl, trivial⟩) ?_
                  exact ih5 (j + 1) _ (by omega) hT9 (by omega)
                · have h8 : ¬ ((-9) ≤ (-(w.1 q (1 + (4 * i + j)))) ∧ (-(w.1 q (1 + (4 * i + j)))) ≤ 9) := h8
                  show jWp 176 115 [some (jO m), some (jO q), some (jI (k : Int)), some (jI (i : Int)), some (jI (j : Int)), some (jJ (Int.tdiv (((jabs (w.1 q (1 + (4 * i + k)))) * (w.1 q (1 + (4 * k + j)))) + ((w.1 q (1 + (4 * i + k))) * (jabs (w.1 q (1 + (4 * k + j)))))) 2)), none, some (jJ (-(w.1 q (1 + (4 * i + j))))), none] [jI 0] 0 0 (kA w tb (zset T (4 * i + j) (-(w.1 q (1 + (4 * i + j)))))) _
                  refine jWp.ifc (b := false) mt rfl (by decide) rfl ?_
                  show jWp 176 118 [some (jO m), some (jO q), some (jI (k : Int)), some (jI (i : Int)), some (jI (j : Int)), some (jJ (Int.tdiv (((jabs (w.1 q (1 + (4 * i + k)))) * (w.1 q (1 + (4 * k + j)))) + ((w.1 q (1 + (4 * i + k))) * (jabs (w.1 q (1 + (4 * k + j)))))) 2)), none, some (jJ (-(w.1 q (1 + (4 * i + j))))), none] [] 0 0 (kA w tb (zset T (4 * i + j) (-(w.1 q (1 + (4 * i + j)))))) _
                  refine jWp.blk mt 1 ?_
                  show jWp 176 119 [some (jO m), some (jO q), some (jI (k : Int)), some (jI (i : Int)), some (jI (j : Int)), some (jJ (Int.tdiv (((jabs (w.1 q (1 + (4 * i + k)))) * (w.1 q (1 + (4 * k + j)))) + ((w.1 q (1 + (4 * i + k))) * (jabs (w.1 q (1 + (4 * k + j)))))) 2)), none, some (jJ (-(w.1 q (1 + (4 * i + j))))), none] [jI 0] 0 0 (kA w tb (zset T (4 * i + j) (-(w.1 q (1 + (4 * i + j)))))) _
                  refine jWp.iretz mt rfl ⟨rfl, rfl⟩ rfl (Or.inl rfl) ?_
                  refine ⟨_, rfl, Or.inr ⟨rfl, fun hz => ?_⟩⟩
                  have hz := hz (4 * i + j) (by omega)
                  rw [zxe_at _ _ _ _ (by omega)] at hz
                  unfold zxb at hz
                  first
                  | (rw [if_pos (Or.inl (by omega))] at hz; contradiction)
                  | (rw [if_pos (Or.inr (by omega))] at hz; contradiction)
                  | (rw [if_neg (by omega)] at hz; contradiction)
              · have h7 : (i : Int) ≠ (k : Int) := h7
                refine jWp.blk mt 2 ?_
                show jWp 176 65 [some (jO m), some (jO q), some (jI (k : Int)), some (jI (i : Int)), some (jI (j : Int)), some (jJ (Int.tdiv (((jabs (w.1 q (1 + (4 * i + k)))) * (w.1 q (1 + (4 * k + j)))) + ((w.1 q (1 + (4 * i + k))) * (jabs (w.1 q (1 + (4 * k + j)))))) 2)), none, none, none] [jI (k : Int), jI (j : Int)] 0 0 (kA w tb T) _
                refine jWp.icmp (pc' := 68) mt rfl rfl (b32_id (by omega) (by omega)) (b32_id (by omega) (by omega)) (fun h9 => ?_) (fun h9 => ?_)
                · have h9 : (j : Int) ≠ (k : Int) := h9
                  refine jWp.blk mt 3 ?_
                  show _ ∧ jWp 176 83 [some (jO m), some (jO q), some (jI (k : Int)), some (jI (i : Int)), some (jI (j : Int)), some (jJ (Int.tdiv (((jabs (w.1 q (1 + (4 * i + k)))) * (w.1 q (1 + (4 * k + j)))) + ((w.1 q (1 + (4 * i + k))) * (jabs (w.1 q (1 + (4 * k + j)))))) 2)), none, none, none] [jI (j : Int), jI (i : Int), jO q] 0 0 (kA w tb T) _
                  refine ⟨rfl, ?_⟩
                  refine jWp.calls (as := [jO q, jI (i : Int), jI (j : Int)]) (rest := []) mt rfl rfl rfl rfl ?_
                  refine jCall.mono ((show jCall 163 [jO q, jI (i : Int), jI (j : Int)] (kA w tb T) (jvj (w.1 q (1 + (4 * i + j))) (kA w tb T)) from by have h := E_b (w := (kA w tb T)) (i := i) (k := j) hq (by omega) (by omega) (by omega); rw [kA_a hqt] at h; exact h)) (fun v9 w9 h9 => ?_)
                  obtain ⟨rfl, h9⟩ := h9
                  subst w9
                  show jWp 176 86 [some (jO m), some (jO q), some (jI (k : Int)), some (jI (i : Int)), some (jI (j : Int)), some (jJ (Int.tdiv (((jabs (w.1 q (1 + (4 * i + k)))) * (w.1 q (1 + (4 * k + j)))) + ((w.1 q (1 + (4 * i + k))) * (jabs (w.1 q (1 + (4 * k + j)))))) 2)), none, none, none] [jJ (w.1 q (1 + (4 * i + j)))] 0 0 (kA w tb T) _
                  refine jWp.blk mt 4 ?_
                  show _ ∧ jWp 176 92 [some (jO m), some (jO q), some (jI (k : Int)), some (jI (i : Int)), some (jI (j : Int)), some (jJ (Int.tdiv (((jabs (w.1 q (1 + (4 * i + k)))) * (w.1 q (1 + (4 * k + j)))) + ((w.1 q (1 + (4 * i + k))) * (jabs (w.1 q (1 + (4 * k + j)))))) 2)), none, some (jJ ((w.1 q (1 + (4 * i + j))) + (Int.tdiv (((jabs (w.1 q (1 + (4 * i + k)))) * (w.1 q (1 + (4 * k + j)))) + ((w.1 q (1 + (4 * i + k))) * (jabs (w.1 q (1 + (4 * k + j)))))) 2))), none] [jO m] 0 0 (kA w tb T) _
                  refine ⟨rfl, ?_⟩
                  refine jWp.getR (pc' := 95) (o := tb) mt rfl rfl (jtg hM) ht ?_
                  show jWp 176 95 [some (jO m), some (jO q), some (jI (k : Int)), some (jI (i : Int)), some (jI (j : Int)), some (jJ (Int.tdiv (((jabs (w.1 q (1 + (4 * i + k)))) * (w.1 q (1 + (4 * k + j)))) + ((w.1 q (1 + (4 * i + k))) * (jabs (w.1 q (1 + (4 * k + j)))))) 2)), none, some (jJ ((w.1 q (1 + (4 * i + j))) + (Int.tdiv (((jabs (w.1 q (1 + (4 * i + k)))) * (w.1 q (1 + (4 * k + j)))) + ((w.1 q (1 + (4 * i + k))) * (jabs (w.1 q (1 + (4 * k + j)))))) 2))), none] [jO tb] 0 0 (kA w tb T) _
                  refine jWp.blk mt 6 ?_
                  show jWp 176 103 [some (jO m), some (jO q), some (jI (k : Int)), some (jI (i : Int)), some (jI (j : Int)), some (jJ (Int.tdiv (((jabs (w.1 q (1 + (4 * i + k)))) * (w.1 q (1 + (4 * k + j)))) + ((w.1 q (1 + (4 * i + k))) * (jabs (w.1 q (1 + (4 * k + j)))))) 2)), none, some (jJ ((w.1 q (1 + (4 * i + j))) + (Int.tdiv (((jabs (w.1 q (1 + (4 * i + k)))) * (w.1 q (1 + (4 * k + j)))) + ((w.1 q (1 + (4 * i + k))) * (jabs (w.1 q (1 + (4 * k + j)))))) 2))), none] [jJ ((w.1 q (1 + (4 * i + j))) + (Int.tdiv (((jabs (w.1 q (1 + (4 * i + k)))) * (w.1 q (1 + (4 * k + j)))) + ((w.1 q (1 + (4 * i + k))) * (jabs (w.1 q (1 + (4 * k + j)))))) 2)), jI ((4 * (i : Int)) + (j : Int)), jO tb] 0 0 (kA w tb T) _
                  refine jWp.last (pc' := 104) (j := (4 * i + j)) mt rfl rfl (jtg htb) (by rw [b32_id (by omega) (by omega)]; omega) (jlt htb (by omega)) ?_
                  rw [show jW (kA w tb T) tb (4 * i + j) ((w.1 q (1 + (4 * i + j))) + (Int.tdiv (((jabs (w.1 q (1 + (4 * i + k)))) * (w.1 q (1 + (4 * k + j)))) + ((w.1 q (1 + (4 * i + k))) * (jabs (w.1 q (1 + (4 * k + j)))))) 2)) = (kA w tb (zset T (4 * i + j) ((w.1 q (1 + (4 * i + j))) + (Int.tdiv (((jabs (w.1 q (1 + (4 * i + k)))) * (w.1 q (1 + (4 * k + j)))) + ((w.1 q (1 + (4 * i + k))) * (jabs (w.1 q (1 + (4 * k + j)))))) 2)))) from kA_W]
                  show jWp 176 104 [some (jO m), some (jO q), some (jI (k : Int)), some (jI (i : Int)), some (jI (j : Int)), some (jJ (Int.tdiv (((jabs (w.1 q (1 + (4 * i + k)))) * (w.1 q (1 + (4 * k + j)))) + ((w.1 q (1 + (4 * i + k))) * (jabs (w.1 q (1 + (4 * k + j)))))) 2)), none, some (jJ ((w.1 q (1 + (4 * i + j))) + (Int.tdiv (((jabs (w.1 q (1 + (4 * i + k)))) * (w.1 q (1 + (4 * k + j)))) + ((w.1 q (1 + (4 * i + k))) * (jabs (w.1 q (1 + (4 * k + j)))))) 2))), none] [] 0 0 (kA w tb (zset T (4 * i + j) ((w.1 q (1 + (4 * i + j))) + (Int.tdiv (((jabs (w.1 q (1 + (4 * i + k)))) * (w.1 q (1 + (4 * k + j)))) + ((w.1 q (1 + (4 * i + k))) * (jabs (w.1 q (1 + (4 * k + j)))))) 2)))) _
                  refine jWp.blk mt 3 ?_
                  show jWp 176 112 [some (jO m), some (jO q), some (jI (k : Int)), some (jI (i : Int)), some (jI (j : Int)), some (jJ (Int.tdiv (((jabs (w.1 q (1 + (4 * i + k)))) * (w.1 q (1 + (4 * k + j)))) + ((w.1 q (1 + (4 * i + k))) * (jabs (w.1 q (1 + (4 * k + j)))))) 2)), none, some (jJ ((w.1 q (1 + (4 * i + j))) + (Int.tdiv (((jabs (w.1 q (1 + (4 * i + k)))) * (w.1 q (1 + (4 * k + j)))) + ((w.1 q (1 + (4 * i + k))) * (jabs (w.1 q (1 + (4 * k + j)))))) 2))), none] [jJ 9, jJ (-9), jJ ((w.1 q (1 + (4 * i + j))) + (Int.tdiv (((jabs (w.1 q (1 + (4 * i + k)))) * (w.1 q (1 + (4 * k + j)))) + ((w.1 q (1 + (4 * i + k))) * (jabs (w.1 q (1 + (4 * k + j)))))) 2))] 0 0 (kA w tb (zset T (4 * i + j) ((w.1 q (1 + (4 * i + j))) + (Int.tdiv (((jabs (w.1 q (1 + (4 * i + k)))) * (w.1 q (1 + (4 * k + j)))) + ((w.1 q (1 + (4 * i + k))) * (jabs (w.1 q (1 + (4 * k + j)))))) 2)))) _
                  refine jWp.calls (as := [jJ ((w.1 q (1 + (4 * i + j))) + (Int.tdiv (((jabs (w.1 q (1 + (4 * i + k)))) * (w.1 q (1 + (4 * k + j)))) + ((w.1 q (1 + (4 * i + k))) * (jabs (w.1 q (1 + (4 * k + j)))))) 2)), jJ (-9), jJ 9]) (rest := []) mt rfl rfl rfl rfl ?_
                  refine jCall.mono (E_in (b64_id (by omega) (by omega)) (show b64 (-9) = (-9) by decide) (show b64 9 = 9 by decide)) (fun v9 w9 h9 => ?_)
                  rcases h9 with ⟨rfl, h9, h10⟩ | ⟨rfl, h9, h10⟩ <;> subst w9
                  · have h10 : (-9) ≤ ((w.1 q (1 + (4 * i + j))) + (Int.tdiv (((jabs (w.1 q (1 + (4 * i + k)))) * (w.1 q (1 + (4 * k + j)))) + ((w.1 q (1 + (4 * i + k))) * (jabs (w.1 q (1 + (4 * k + j)))))) 2)) ∧ ((w.1 q (1 + (4 * i + j))) + (Int.tdiv (((jabs (w.1 q (1 + (4 * i + k)))) * (w.1 q (1 + (4 * k + j)))) + ((w.1 q (1 + (4 * i + k))) * (jabs (w.1 q (1 + (4 * k + j)))))) 2)) ≤ 9 := h10
                    show jWp 176 115 [some (jO m), some (jO q), some (jI (k : Int)), some (jI (i : Int)), some (jI (j : Int)), some (jJ (Int.tdiv (((jabs (w.1 q (1 + (4 * i + k)))) * (w.1 q (1 + (4 * k + j)))) + ((w.1 q (1 + (4 * i + k))) * (jabs (w.1 q (1 + (4 * k + j)))))) 2)), none, some (jJ ((w.1 q (1 + (4 * i + j))) + (Int.tdiv (((jabs (w.1 q (1 + (4 * i + k)))) * (w.1 q (1 + (4 * k + j)))) + ((w.1 q (1 + (4 * i + k))) * (jabs (w.1 q (1 + (4 * k + j)))))) 2))), none] [jI 1] 0 0 (kA w tb (zset T (4 * i + j) ((w.1 q (1 + (4 * i + j))) + (Int.tdiv (((jabs (w.1 q (1 + (4 * i + k)))) * (w.1 q (1 + (4 * k + j)))) + ((w.1 q (1 + (4 * i + k))) * (jabs (w.1 q (1 + (4 * k + j)))))) 2)))) _
                    have hT9 : ∀ e, e < 4 * i + (j + 1) → zset T (4 * i + j) ((w.1 q (1 + (4 * i + j))) + (Int.tdiv (((jabs (w.1 q (1 + (4 * i + k)))) * (w.1 q (1 + (4 * k + j)))) + ((w.1 q (1 + (4 * i + k))) * (jabs (w.1 q (1 + (4 * k + j)))))) 2)) e = zxe (fun e => w.1 q (1 + e)) k e ∧ -9 ≤ zset T (4 * i + j) ((w.1 q (1 + (4 * i + j))) + (Int.tdiv (((jabs (w.1 q (1 + (4 * i + k)))) * (w.1 q (1 + (4 * k + j)))) + ((w.1 q (1 + (4 * i + k))) * (jabs (w.1 q (1 + (4 * k + j)))))) 2)) e ∧ zset T (4 * i + j) ((w.1 q (1 + (4 * i + j))) + (Int.tdiv (((jabs (w.1 q (1 + (4 * i + k)))) * (w.1 q (1 + (4 * k + j)))) + ((w.1 q (1 + (4 * i + k))) * (jabs (w.1 q (1 + (4 * k + j)))))) 2)) e ≤ 9 := by
                      intro e he
                      by_cases h : e = 4 * i + j
                      · subst h; rw [zset_s, zxe_at _ _ _ _ (by omega)]
                        refine ⟨?_, h10⟩
                        unfold zxb
                        first | rw [if_pos (Or.inl (by omega))] | rw [if_pos (Or.inr (by omega))] | rw [if_neg (by omega)]
                      · rw [zset_n h]; exact hT e (by omega)
                    refine jWp.ifc (b := true) mt rfl (by decide) rfl ?_
                    show jWp 176 120 [some (jO m), some (jO q), some (jI (k : Int)), some (jI (i : Int)), some (jI (j : Int)), some (jJ (Int.tdiv (((jabs (w.1 q (1 + (4 * i + k)))) * (w.1 q (1 + (4 * k + j)))) + ((w.1 q (1 + (4 * i + k))) * (jabs (w.1 q (1 + (4 * k + j)))))) 2)), none, some (jJ ((w.1 q (1 + (4 * i + j))) + (Int.tdiv (((jabs (w.1 q (1 + (4 * i + k)))) * (w.1 q (1 + (4 * k + j)))) + ((w.1 q (1 + (4 * i + k))) * (jabs (w.1 q (1 + (4 * k + j)))))) 2))), none] [] 0 0 (kA w tb (zset T (4 * i + j) ((w.1 q (1 + (4 * i + j))) + (Int.tdiv (((jabs (w.1 q (1 + (4 * i + k)))) * (w.1 q (1 + (4 * k + j)))) + ((w.1 q (1 + (4 * i + k))) * (jabs (w.1 q (1 + (4 * k + j)))))) 2)))) _
                    refine jWp.blk mt 2 ?_
                    show jWp 176 10 [some (jO m), some (jO q), some (jI (k : Int)), some (jI (i : Int)), some (jI ((j : Int) + 1)), some (jJ (Int.tdiv (((jabs (w.1 q (1 + (4 * i + k)))) * (w.1 q (1 + (4 * k + j)))) + ((w.1 q (1 + (4 * i + k))) * (jabs (w.1 q (1 + (4 * k + j)))))) 2)), none, some (jJ ((w.1 q (1 + (4 * i + j))) + (Int.tdiv (((jabs (w.1 q (1 + (4 * i + k)))) * (w.1 q (1 + (4 * k + j)))) + ((w.1 q (1 + (4 * i + k))) * (jabs (w.1 q (1 + (4 * k + j)))))) 2))), none] [] 0 0 (kA w tb (zset T (4 * i + j) ((w.1 q (1 + (4 * i + j))) + (Int.tdiv (((jabs (w.1 q (1 + (4 * i + k)))) * (w.1 q (1 + (4 * k + j)))) + ((w.1 q (1 + (4 * i + k))) * (jabs (w.1 q (1 + (4 * k + j)))))) 2)))) _
                    refine jWp.le (l := [some (jO m), some (jO q), some (jI (k : Int)), some (jI (i : Int)), some (jI ((j : Int) + 1)), none, none, none, none]) (by exact ⟨rfl, rfl, rfl, rfl, rfl, trivial⟩) ?_
                    exact ih5 (j + 1) _ (by omega) hT9 (by omega)
                  · have h10 : ¬ ((-9) ≤ ((w.1 q (1 + (4 * i + j))) + (Int.tdiv (((jabs (w.1 q (1 + (4 * i + k)))) * (w.1 q (1 + (4 * k + j)))) + ((w.1 q (1 + (4 * i + k))) * (jabs (w.1 q (1 + (4 * k + j)))))) 2)) ∧ ((w.1 q (1 + (4 * i + j))) + (Int.tdiv (((jabs (w.1 q (1 + (4 * i + k)))) * (w.1 q (1 + (4 * k + j)))) + ((w.1 q (1 + (4 * i + k))) * (jabs (w.1 q (1 + (4 * k + j)))))) 2)) ≤ 9) := h10
                    show jWp 176 115 [some (jO m), some (jO q), some (jI (k : Int)), some (jI (i : Int)), some (jI (j : Int)), some (jJ (Int.tdiv (((jabs (w.1 q (1 + (4 * i + k)))) * (w.1 q (1 + (4 * k + j)))) + ((w.1 q (1 + (4 * i + k))) * (jabs (w.1 q (1 + (4 * k + j)))))) 2)), none, some (jJ ((w.1 q (1 + (4 * i + j))) + (Int.tdiv (((jabs (w.1 q (1 + (4 * i + k)))) * (w.1 q (1 + (4 * k + j)))) + ((w.1 q (1 + (4 * i + k))) * (jabs (w.1 q (1 + (4 * k + j)))))) 2))), none] [jI 0] 0 0 (kA w tb (zset T (4 * i + j) ((w.1 q (1 + (4 * i + j))) + (Int.tdiv (((jabs (w.1 q (1 + (4 * i + k)))) * (w.1 q (1 + (4 * k + j)))) + ((w.1 q (1 + (4 * i + k))) * (jabs (w.1 q (1 + (4 * k + j)))))) 2)))) _
                    refine jWp.ifc (b := false) mt rfl (by decide) rfl ?_
                    show jWp 176 118 [some (jO m), some (jO q), some (jI (k : Int)), some (jI (i : Int)), some (jI (j : Int)), some (jJ (Int.tdiv (((jabs (w.1 q (1 + (4 * i + k)))) * (w.1 q (1 + (4 * k + j)))) + ((w.1 q (1 + (4 * i + k))) * (jabs (w.1 q (1 + (4 * k + j)))))) 2)), none, some (jJ ((w.1 q (1 + (4 * i + j))) + (Int.tdiv (((jabs (w.1 q (1 + (4 * i + k)))) * (w.1 q (1 + (4 * k + j)))) + ((w.1 q (1 + (4 * i + k))) * (jabs (w.1 q (1 + (4 * k + j)))))) 2))), none] [] 0 0 (kA w tb (zset T (4 * i + j) ((w.1 q (1 + (4 * i + j))) + (Int.tdiv (((jabs (w.1 q (1 + (4 * i + k)))) * (w.1 q (1 + (4 * k + j)))) + ((w.1 q (1 + (4 * i + k))) * (jabs (w.1 q (1 + (4 * k + j)))))) 2)))) _
                    refine jWp.blk mt 1 ?_
                    show jWp 176 119 [some (jO m), some (jO q), some (jI (k : Int)), some (jI (i : Int)), some (jI (j : Int)), some (jJ (Int.tdiv (((jabs (w.1 q (1 + (4 * i + k)))) * (w.1 q (1 + (4 * k + j)))) + ((w.1 q (1 + (4 * i + k))) * (jabs (w.1 q (1 + (4 * k + j)))))) 2)), none, some (jJ ((w.1 q (1 + (4 * i + j))) + (Int.tdiv (((jabs (w.1 q (1 + (4 * i + k)))) * (w.1 q (1 + (4 * k + j)))) + ((w.1 q (1 + (4 * i + k))) * (jabs (w.1 q (1 + (4 * k + j)))))) 2))), none] [jI 0] 0 0 (kA w tb (zset T (4 * i + j) ((w.1 q (1 + (4 * i + j))) + (Int.tdiv (((jabs (w.1 q (1 + (4 * i + k)))) * (w.1 q (1 + (4 * k + j)))) + ((w.1 q (1 + (4 * i + k))) * (jabs (w.1 q (1 + (4 * k + j)))))) 2)))) _
                    refine jWp.iretz mt rfl ⟨rfl, rfl⟩ rfl (Or.inl rfl) ?_
                    refine ⟨_, rfl, Or.inr ⟨rfl, fun hz => ?_⟩⟩
                    have hz := hz (4 * i + j) (by omega)
                    rw [zxe_at _ _ _ _ (by omega)] at hz
                    unfold zxb at hz
                    first
                    | (rw [if_pos (Or.inl (by omega))] at hz; contradiction)
                    | (rw [if_pos (Or.inr (by omega))] at hz; contradiction)
                    | (rw [if_neg (by omega)] at hz; contradiction)
                · have h9 : (j : Int) = (k : Int) := h9
                  refine jWp.blk mt 3 ?_
                  show _ ∧ jWp 176 72 [some (jO m), some (jO q), some (jI (k : Int)), some (jI (i : Int)), some (jI (j : Int)), some (jJ (Int.tdiv (((jabs (w.1 q (1 + (4 * i + k)))) * (w.1 q (1 + (4 * k + j)))) + ((w.1 q (1 + (4 * i + k))) * (jabs (w.1 q (1 + (4 * k + j)))))) 2)), none, none, none] [jI (j : Int), jI (i : Int), jO q] 0 0 (kA w tb T) _
                  refine ⟨rfl, ?_⟩
                  refine jWp.calls (as := [jO q, jI (i : Int), jI (j : Int)]) (rest := []) mt rfl rfl rfl rfl ?_
                  refine jCall.mono ((show jCall 163 [jO q, jI (i : Int), jI (j : Int)] (kA w tb T) (jvj (w.1 q (1 + (4 * i + j))) (kA w tb T)) from by have h := E_b (w := (kA w tb T)) (i := i) (k := j) hq (by omega) (by omega) (by omega); rw [kA_a hqt] at h; exact h)) (fun v9 w9 h9 => ?_)
                  obtain ⟨rfl, h9⟩ := h9
                  subst w9
                  show jWp 176 75 [some (jO m), some (jO q), some (jI (k : Int)), some (jI (i : Int)), some (jI (j : Int)), some (jJ (Int.tdiv (((jabs (w.1 q (1 + (4 * i + k)))) * (w.1 q (1 + (4 * k + j)))) + ((w.1 q (1 + (4 * i + k))) * (jabs (w.1 q (1 + (4 * k + j)))))) 2)), none, none, none] [jJ (w.1 q (1 + (4 * i + j)))] 0 0 (kA w tb T) _
                  refine jWp.blk mt 4 ?_
                  show _ ∧ jWp 176 92 [some (jO m), some (jO q), some (jI (k : Int)), some (jI (i : Int)), some (jI (j : Int)), some (jJ (Int.tdiv (((jabs (w.1 q (1 + (4 * i + k)))) * (w.1 q (1 + (4 * k + j)))) + ((w.1 q (1 + (4 * i + k))) * (jabs (w.1 q (1 + (4 * k + j)))))) 2)), none, some (jJ (-(w.1 q (1 + (4 * i + j))))), none] [jO m] 0 0 (kA w tb T) _
                  refine ⟨rfl, ?_⟩
                  refine jWp.getR (pc' := 95) (o := tb) mt rfl rfl (jtg hM) ht ?_
                  show jWp 176 95 [some (jO m), some (jO q), some (jI (k : Int)), some (jI (i : Int)), some (jI (j : Int)), some (jJ (Int.tdiv (((jabs (w.1 q (1 + (4 * i + k)))) * (w.1 q (1 + (4 * k + j)))) + ((w.1 q (1 + (4 * i + k))) * (jabs (w.1 q (1 + (4 * k + j)))))) 2)), none, some (jJ (-(w.1 q (1 + (4 * i + j))))), none] [jO tb] 0 0 (kA w tb T) _
                  refine jWp.blk mt 6 ?_
                  show jWp 176 103 [some (jO m), some (jO q), some (jI (k : Int)), some (jI (i : Int)), some (jI (j : Int)), some (jJ (Int.tdiv (((jabs (w.1 q (1 + (4 * i + k)))) * (w.1 q (1 + (4 * k + j)))) + ((w.1 q (1 + (4 * i + k))) * (jabs (w.1 q (1 + (4 * k + j)))))) 2)), none, some (jJ (-(w.1 q (1 + (4 * i + j))))), none] [jJ (-(w.1 q (1 + (4 * i + j)))), jI ((4 * (i : Int)) + (j : Int)), jO tb] 0 0 (kA w tb T) _
                  refine jWp.last (pc' := 104) (j := (4 * i + j)) mt rfl rfl (jtg htb) (by rw [b32_id (by omega) (by omega)]; omega) (jlt htb (by omega)) ?_
                  rw [show jW (kA w tb T) tb (4 * i + j) (-(w.1 q (1 + (4 * i + j)))) = (kA w tb (zset T (4 * i + j) (-(w.1 q (1 + (4 * i + j)))))) from kA_W]
                  show jWp 176 104 [some (jO m), some (jO q), some (jI (k : Int)), some (jI (i : Int)), some (jI (j : Int)), some (jJ (Int.tdiv (((jabs (w.1 q (1 + (4 * i + k)))) * (w.1 q (1 + (4 * k + j)))) + ((w.1 q (1 + (4 * i + k))) * (jabs (w.1 q (1 + (4 * k + j)))))) 2)), none, some (jJ (-(w.1 q (1 + (4 * i + j))))), none] [] 0 0 (kA w tb (zset T (4 * i + j) (-(w.1 q (1 + (4 * i + j)))))) _
                  refine jWp.blk mt 3 ?_
                  show jWp 176 112 [some (jO m), some (jO q), some (jI (k : Int)), some (jI (i : Int)), some (jI (j : Int)), some (jJ (Int.tdiv (((jabs (w.1 q (1 + (4 * i + k)))) * (w.1 q (1 + (4 * k + j)))) + ((w.1 q (1 + (4 * i + k))) * (jabs (w.1 q (1 + (4 * k + j)))))) 2)), none, some (jJ (-(w.1 q (1 + (4 * i + j))))), none] [jJ 9, jJ (-9), jJ (-(w.1 q (1 + (4 * i + j))))] 0 0 (kA w tb (zset T (4 * i + j) (-(w.1 q (1 + (4 * i + j)))))) _
                  refine jWp.calls (as := [jJ (-(w.1 q (1 + (4 * i + j)))), jJ (-9), jJ 9]) (rest := []) mt rfl rfl rfl rfl ?_
                  refine jCall.mono (E_in (b64_id (by omega) (by omega)) (show b64 (-9) = (-9) by decide) (show b64 9 = 9 by decide)) (fun v9 w9 h9 => ?_)
                  rcases h9 with ⟨rfl, h9, h11⟩ | ⟨rfl, h9, h11⟩ <;> subst w9
                  · have h11 : (-9) ≤ (-(w.1 q (1 + (4 * i + j)))) ∧ (-(w.1 q (1 + (4 * i + j)))) ≤ 9 := h11
                    show jWp 176 115 [some (jO m), some (jO q), some (jI (k : Int)), some (jI (i : Int)), some (jI (j : Int)), some (jJ (Int.tdiv (((jabs (w.1 q (1 + (4 * i + k)))) * (w.1 q (1 + (4 * k + j)))) + ((w.1 q (1 + (4 * i + k))) * (jabs (w.1 q (1 + (4 * k + j)))))) 2)), none, some (jJ (-(w.1 q (1 + (4 * i + j))))), none] [jI 1] 0 0 (kA w tb (zset T (4 * i + j) (-(w.1 q (1 + (4 * i + j)))))) _
                    have hT9 : ∀ e, e < 4 * i + (j + 1) → zset T (4 * i + j) (-(w.1 q (1 + (4 * i + j)))) e = zxe (fun e => w.1 q (1 + e)) k e ∧ -9 ≤ zset T (4 * i + j) (-(w.1 q (1 + (4 * i + j)))) e ∧ zset T (4 * i + j) (-(w.1 q (1 + (4 * i + j)))) e ≤ 9 := by
                      intro e he
                      by_cases h : e = 4 * i + j
                      · subst h; rw [zset_s, zxe_at _ _ _ _ (by omega)]
                        refine ⟨?_, h11⟩
                        unfold zxb
                        first | rw [if_pos (Or.inl (by omega))] | rw [if_pos (Or.inr (by omega))] | rw [if_neg (by omega)]
                      · rw [zset_n h]; exact hT e (by omega)
                    refine jWp.ifc (b := true) mt rfl (by decide) rfl ?_
                    show jWp 176 120 [some (jO m), some (jO q), some (jI (k : Int)), some (jI (i : Int)), some (jI (j : Int)), some (jJ (Int.tdiv (((jabs (w.1 q (1 + (4 * i + k)))) * (w.1 q (1 + (4 * k + j)))) + ((w.1 q (1 + (4 * i + k))) * (jabs (w.1 q (1 + (4 * k + j)))))) 2)), none, some (jJ (-(w.1 q (1 + (4 * i + j))))), none] [] 0 0 (kA w tb (zset T (4 * i + j) (-(w.1 q (1 + (4 * i + j)))))) _
                    refine jWp.blk mt 2 ?_
                    show jWp 176 10 [some (jO m), some (jO q), some (jI (k : Int)), some (jI (i : Int)), some (jI ((j : Int) + 1)), some (jJ (Int.tdiv (((jabs (w.1 q (1 + (4 * i + k)))) * (w.1 q (1 + (4 * k + j)))) + ((w.1 q (1 + (4 * i + k))) * (jabs (w.1 q (1 + (4 * k + j)))))) 2)), none, some (jJ (-(w.1 q (1 + (4 * i + j))))), none] [] 0 0 (kA w tb (zset T (4 * i + j) (-(w.1 q (1 + (4 * i + j)))))) _
                    refine jWp.le (l := [some (jO m), some (jO q), some (jI (k : Int)), some (jI (i : Int)), some (jI ((j : Int) + 1)), none, none, none, none]) (by exact ⟨rfl, rfl, rfl, rfl, rfl, trivial⟩) ?_
                    exact ih5 (j + 1) _ (by omega) hT9 (by omega)
                  · have h11 : ¬ ((-9) ≤ (-(w.1 q (1 + (4 * i + j)))) ∧ (-(w.1 q (1 + (4 * i + j)))) ≤ 9) := h11
                    show jWp 176 115 [some (jO m), some (jO q), some (jI (k : Int)), some (jI (i : Int)), some (jI (j : Int)), some (jJ (Int.tdiv (((jabs (w.1 q (1 + (4 * i + k)))) * (w.1 q (1 + (4 * k + j)))) + ((w.1 q (1 + (4 * i + k))) * (jabs (w.1 q (1 + (4 * k + j)))))) 2)), none, some (jJ (-(w.1 q (1 + (4 * i + j))))), none] [jI 0] 0 0 (kA w tb (zset T (4 * i + j) (-(w.1 q (1 + (4 * i + j)))))) _
                    refine jWp.ifc (b := false) mt rfl (by decide) rfl ?_
                    show jWp 176 118 [some (jO m), some (jO q), some (jI (k : Int)), some (jI (i : Int)), some (jI (j : Int)), some (jJ (Int.tdiv (((jabs (w.1 q (1 + (4 * i + k)))) * (w.1 q (1 + (4 * k + j)))) + ((w.1 q (1 + (4 * i + k))) * (jabs (w.1 q (1 + (4 * k + j)))))) 2)), none, some (jJ (-(w.1 q (1 + (4 * i + j))))), none] [] 0 0 (kA w tb (zset T (4 * i + j) (-(w.1 q (1 + (4 * i + j)))))) _
                    refine jWp.blk mt 1 ?_
                    show jWp 176 119 [some (jO m), some (jO q), some (jI (k : Int)), some (jI (i : Int)), some (jI (j : Int)), some (jJ (Int.tdiv (((jabs (w.1 q (1 + (4 * i + k)))) * (w.1 q (1 + (4 * k + j)))) + ((w.1 q (1 + (4 * i + k))) * (jabs (w.1 q (1 + (4 * k + j)))))) 2)), none, some (jJ (-(w.1 q (1 + (4 * i + j))))), none] [jI 0] 0 0 (kA w tb (zset T (4 * i + j) (-(w.1 q (1 + (4 * i + j)))))) _
                    refine jWp.iretz mt rfl ⟨rfl, rfl⟩ rfl (Or.inl rfl) ?_
                    refine ⟨_, rfl, Or.inr ⟨rfl, fun hz => ?_⟩⟩
                    have hz := hz (4 * i + j) (by omega)
                    rw [zxe_at _ _ _ _ (by omega)] at hz
                    unfold zxb at hz
                    first
                    | (rw [if_pos (Or.inl (by omega))] at hz; contradiction)
                    | (rw [if_pos (Or.inr (by omega))] at hz; contradiction)
                    | (rw [if_neg (by omega)] at hz; contradiction)
        refine jWp.le (l := [some (jO m), some (jO q), some (jI (k : Int)), some (jI (i : Int)), some (jI 0), none, none, none, none]) (by exact ⟨rfl, rfl, rfl, rfl, rfl, trivial⟩) ?_
        exact lp4 _ 0 T (by omega) (fun e he => hT e (by omega)) (Nat.lt_succ_self _)
  refine jWp.le (l := [some (jO m), some (jO q), some (jI (k : Int)), some (jI 0), none, none, none, none, none]) (by exact ⟨rfl, rfl, rfl, rfl, trivial⟩) ?_
  have key := lp1 _ 0 (w.1 tb) (by omega) (fun e he => absurd he (by omega)) (Nat.lt_succ_self _)
  rw [kA_self] at key
  exact key
end
section
/-- the two sums of a degree's rule, over the first letters; and what a degree becomes -/
def zdu (q : Nat → Int) (k c : Nat) : Nat → Int
  | 0 => 0
  | i + 1 => zdu q k c i + if 0 < q (1 + (4 * i + k)) then q (1 + (4 * i + k)) * q (29 + 4 * i + c) else 0
def zdw (q : Nat → Int) (k c : Nat) : Nat → Int
  | 0 => 0
  | i + 1 => zdw q k c i + if q (1 + (4 * i + k)) < 0 then -(q (1 + (4 * i + k))) * q (29 + 4 * i + c) else 0
theorem zdu_t {q : Nat → Int} {k c i : Nat} (h : 0 < q (1 + (4 * i + k))) : zdu q k c (i + 1) = zdu q k c i + q (1 + (4 * i + k)) * q (29 + 4 * i + c) := by
  show _ + (if _ then _ else _) = _
  rw [if_pos h]
theorem zdu_f {q : Nat → Int} {k c i : Nat} (h : ¬ 0 < q (1 + (4 * i + k))) : zdu q k c (i + 1) = zdu q k c i + 0 := by
  show _ + (if _ then _ else _) = _
  rw [if_neg h]
theorem zdw_t {q : Nat → Int} {k c i : Nat} (h : q (1 + (4 * i + k)) < 0) : zdw q k c (i + 1) = zdw q k c i + -(q (1 + (4 * i + k))) * q (29 + 4 * i + c) := by
  show _ + (if _ then _ else _) = _
  rw [if_pos h]
theorem zdw_f {q : Nat → Int} {k c i : Nat} (h : ¬ q (1 + (4 * i + k)) < 0) : zdw q k c (i + 1) = zdw q k c i + 0 := by
  show _ + (if _ then _ else _) = _
  rw [if_neg h]
def zdn (q : Nat → Int) (n k c : Nat) : Int := (if b64 (zdw q k c n) < b64 (zdu q k c n) then zdu q k c n else zdw q k c n) - q (29 + 4 * k + c)
theorem zdu_c {q S : Nat → Int} {k c : Nat} (hk : k < 4) (hc : c < 4) : ∀ i, i ≤ 4 → (∀ j, j < 45 → (1 ≤ j ∧ j < 17 ∨ 29 ≤ j) → S j = q j) → zdu S k c i = zdu q k c i
  | 0, _, _ => rfl
  | i + 1, hi, h => by
    unfold zdu
    rw [zdu_c hk hc i (by omega) h, h (1 + (4 * i + k)) (by omega) (by omega), h (29 + 4 * i + c) (by omega) (by omega)]
theorem zdw_c {q S : Nat → Int} {k c : Nat} (hk : k < 4) (hc : c < 4) : ∀ i, i ≤ 4 → (∀ j, j < 45 → (1 ≤ j ∧ j < 17 ∨ 29 ≤ j) → S j = q j) → zdw S k c i = zdw q k c i
  | 0, _, _ => rfl
  | i + 1, hi, h => by
    unfold zdw
    rw [zdw_c hk hc i (by omega) h, h (1 + (4 * i + k)) (by omega) (by omega), h (29 + 4 * i + c) (by omega) (by omega)]
theorem zdn_c {q S : Nat → Int} {n k c : Nat} (hn : n ≤ 4) (hk : k < 4) (hc : c < 4) (h : ∀ j, j < 45 → (1 ≤ j ∧ j < 17 ∨ 29 ≤ j) → S j = q j) : zdn S n k c = zdn q n k c := by
  unfold zdn
  rw [zdu_c hk hc n hn h, zdw_c hk hc n hn h, h (29 + 4 * k + c) (by omega) (by omega)]
/-- the degrees behind an exchange -/
def zdg (q T : Nat → Int) (n k : Nat) : Prop := (∀ c, c < 4 → T (29 + 4 * k + c) = zdn q n k c) ∧ ∀ i c, i < 4 → c < 4 → i ≠ k → T (29 + 4 * i + c) = q (29 + 4 * i + c)
set_option maxHeartbeats 4000000 in
set_option maxRecDepth 20000 in
theorem E_degrees {w : jS} {m q k n : Nat} (hq : w.2.1 q = (101, 45)) (hR : w.1 q 0 = (n : Int)) (hn : n ≤ 4) (hk : k < 4) (hb : ∀ j, j < 16 → -9 ≤ w.1 q (1 + j) ∧ w.1 q (1 + j) ≤ 9) : jCall 177 [jO m, jO q, jI (k : Int)] w (fun v w1 => v = none ∧ ∃ T, w1 = kA w q T ∧ (∀ j, j < 29 → T j = w.1 q j) ∧ zdg (w.1 q) T n k) := by
  have mt : jtb 177 = jT177 := rfl
  show jWp 177 0 [some (jO m), some (jO q), some (jI (k : Int)), none, none, none, none, none, none, none, none] [] 0 0 w _
  refine jWp.blk mt 2 ?_
  show jWp 177 2 [some (jO m), some (jO q), some (jI (k : Int)), some (jI 0), none, none, none, none, none, none, none] [] 0 0 w _
  have lp1 : ∀ (N : Nat) (c : Nat) (T : Nat → Int) (hc : c ≤ 4) (hT : ∀ j, j < 29 → T j = w.1 q j) (hD : (∀ x, x < c → T (29 + 4 * k + x) = zdn (w.1 q) n k x) ∧ ∀ j, 29 ≤ j → (∀ x, x < c → j ≠ 29 + 4 * k + x) → T j = w.1 q j), 4 - c < N → jWp 177 2 [some (jO m), some (jO q), some (jI (k : Int)), some (jI (c : Int)), none, none, none, none, none, none, none] [] 0 0 (kA w q T) (fun v w1 => v = none ∧ ∃ T, w1 = kA w q T ∧ (∀ j, j < 29 → T j = w.1 q j) ∧ zdg (w.1 q) T n k) := by
    intro N
    induction N with
    | zero => intro c T hc hT hD hm; omega
    | succ N ih2 =>
      intro c T hc hT hD hm
      refine jWp.blk mt 2 ?_
      show jWp 177 4 [some (jO m), some (jO q), some (jI (k : Int)), some (jI (c : Int)), none, none, none, none, none, none, none] [jI 4, jI (c : Int)] 0 0 (kA w q T) _
      refine jWp.icmp (pc' := 7) mt rfl rfl (b32_id (by omega) (by omega)) (show b32 4 = 4 by decide) (fun h3 => ?_) (fun h3 => ?_)
      · have h3 : 4 ≤ (c : Int) := h3
        refine jWp.vret mt rfl ⟨rfl, rfl⟩ rfl ?_
        exact ⟨rfl, T, rfl, hT, fun x hx => hD.1 x (by omega), fun i x hi hx hik => hD.2 _ (by omega) (fun y hy => by omega)⟩
      · have h3 : (c : Int) < 4 := h3
        refine jWp.blk mt 6 ?_
        show jWp 177 16 [some (jO m), some (jO q), some (jI (k : Int)), some (jI (c : Int)), some (jJ 0), none, some (jJ 0), none, some (jI 0), none, none] [] 0 0 (kA w q T) _
        have lp4 : ∀ (N : Nat) (i : Nat) (x y : Int) (hi : i ≤ n) (hx1 : x = zdu (w.1 q) k c i) (hy1 : y = zdw (w.1 q) k c i), n - i < N → jWp 177 16 [some (jO m), some (jO q), some (jI (k : Int)), some (jI (c : Int)), some (jJ x), none, some (jJ y), none, some (jI (i : Int)), none, none] [] 0 0 (kA w q T) (fun v w1 => v = none ∧ ∃ T, w1 = kA w q T ∧ (∀ j, j < 29 → T j = w.1 q j) ∧ zdg (w.1 q) T n k) := by
          intro N
          induction N with
          | zero => intro i x y hi hx1 hy1 hm; omega
          | succ N ih5 =>
            intro i x y hi hx1 hy1 hm
            have hf : i < n → _ := fun h => hb (4 * i + k) (by omega)
            have hc4 : c < 4 := by omega
            refine jWp.blk mt 1 ?_
            show jWp 177 18 [some (jO m), some (jO q), some (jI (k : Int)), some (jI (c : Int)), some (jJ x), none, some (jJ y), none, some (jI (i : Int)), none, none] [jI (i : Int)] 0 0 (kA w q T) _
            refine jWp.i2l (pc' := 19) mt rfl rfl (b32_id (by omega) (by omega)) ?_
            show jWp 177 19 [some (jO m), some (jO q), some (jI (k : Int)), some (jI (c : Int)), some (jJ x), none, some (jJ y), none, some (jI (i : Int)), none, none] [jJ (i : Int)] 0 0 (kA w q T) _
            refine jWp.blk mt 2 ?_
            show _ ∧ jWp 177 21 [some (jO m), some (jO q), some (jI (k : Int)), some (jI (c : Int)), some (jJ x), none, some (jJ y), none, some (jI (i : Int)), none, none] [jI 0, jO q, jJ (i : Int)] 0 0 (kA w q T) _
            refine ⟨rfl, ?_⟩
            refine jWp.lald (pc' := 22) (j := 0) mt rfl rfl (jtg hq) (by decide) (jlt hq (by decide)) ?_
            rw [show ((kA w q T).1 q 0) = (n : Int) from (kA_s.trans ((hT 0 (by decide)).trans hR))]
            show jWp 177 22 [some (jO m), some (jO q), some (jI (k : Int)), some (jI (c : Int)), some (jJ x), none, some (jJ y), none, some (jI (i : Int)), none, none] [jJ (n : Int), jJ (i : Int)] 0 0 (kA w q T) _
            refine jWp.lcmp (pc' := 26) mt rfl rfl rfl (b64_id (by omega) (by omega)) (b64_id (by omega) (by omega)) (fun h6 => ?_) (fun h6 => ?_)
            · have h6 : (n : Int) ≤ (i : Int) := h6
              refine jWp.blk mt 10 ?_
              show _ ∧ jWp 177 115 [some (jO m), some (jO q), some (jI (k : Int)), some (jI (c : Int)), some (jJ x), none, some (jJ y), none, some (jI (i : Int)), none, none] [jJ y, jJ x, jI ((29 + (4 * (k : Int))) + (c : Int)), jO q] 0 0 (kA w q T) _
              refine ⟨rfl, ?_⟩
              refine jWp.lcmp (pc' := 119) mt rfl rfl rfl rfl rfl (fun h7 => ?_) (fun h7 => ?_)
              · have h7 : (b64 x) ≤ (b64 y) := h7
                refine jWp.blk mt 9 ?_
                show _ ∧ jWp 177 135 [some (jO m), some (jO q), some (jI (k : Int)), some (jI (c : Int)), some (jJ x), none, some (jJ y), none, some (jI (i : Int)), none, none] [jI ((29 + (4 * (k : Int))) + (c : Int)), jO q, jJ y, jI ((29 + (4 * (k : Int))) + (c : Int)), jO q] 0 0 (kA w q T) _
                refine ⟨rfl, ?_⟩
                refine jWp.lald (pc' := 136) (j := (29 + 4 * k + c)) mt rfl rfl (jtg hq) (by rw [b32_id (by omega) (by omega)]; omega) (jlt hq (by omega)) ?_
                rw [show ((kA w q T).1 q (29 + 4 * k + c)) = (T (29 + 4 * k + c)) from kA_s]
                show jWp 177 136 [some (jO m), some (jO q), some (jI (k : Int)), some (jI (c : Int)), some (jJ x), none, some (jJ y), none, some (jI (i : Int)), none, none] [jJ (T (29 + 4 * k + c)), jJ y, jI ((29 + (4 * (k : Int))) + (c : Int)), jO q] 0 0 (kA w q T) _
                refine jWp.blk mt 1 ?_
                show jWp 177 137 [some (jO m), some (jO q), some (jI (k : Int)), some (jI (c : Int)), some (jJ x), none, some (jJ y), none, some (jI (i : Int)), none, none] [jJ (y - (T (29 + 4 * k + c))), jI ((29 + (4 * (k : Int))) + (c : Int)), jO q] 0 0 (kA w q T) _
                refine jWp.last (pc' := 138) (j := (29 + 4 * k + c)) mt rfl rfl (jtg hq) (by rw [b32_id (by omega) (by omega)]; omega) (jlt hq (by omega)) ?_
                rw [show jW (kA w q T) q (29 + 4 * k + c) (y - (T (29 + 4 * k + c))) = (kA w q (zset T (29 + 4 * k + c) (y - (T (29 + 4 * k + c))))) from kA_W]
                show jWp 177 138 [some (jO m), some (jO q), some (jI (k : Int)), some (jI (c : Int)), some (jJ x), none, some (jJ y), none, some (jI (i : Int)), none, none] [] 0 0 (kA w q (zset T (29 + 4 * k + c) (y - (T (29 + 4 * k + c))))) _
                refine jWp.blk mt 2 ?_
                show jWp 177 2 [some (jO m), some (jO q), some (jI (k : Int)), some (jI ((c : Int) + 1)), some (jJ x), none, some (jJ y), none, some (jI (i : Int)), none, none] [] 0 0 (kA w q (zset T (29 + 4 * k + c) (y - (T (29 + 4 * k + c))))) _
                refine jWp.le (l := [some (jO m), some (jO q), some (jI (k : Int)), some (jI ((c : Int) + 1)), none, none, none, none, none, none, none]) (by exact ⟨rfl, rfl, rfl, rfl, trivial⟩) ?_
                exact ih2 (c + 1) _ (by omega) (fun j hj => by rw [zset_n (by omega)]; exact hT j hj) ⟨fun x hx => by rcases Nat.lt_or_ge x c with e | e; rw [zset_n (by omega)]; exact hD.1 x e; rw [show x = c by omega, zset_s]; unfold zdn; rw [← show i = n by omega, ← hx1, ← hy1, hD.2 (29 + 4 * k + c) (by omega) (fun x hx => by omega)]; first | rw [if_pos (by omega)] | rw [if_neg (by omega)], fun j h1 h2 => by rw [zset_n (h2 c (by omega))]; exact hD.2 j h1 (fun x hx => h2 x (by omega))⟩ (by omega)
              · have h7 : (b64 y) < (b64 x) := h7
                refine jWp.blk mt 10 ?_
                show _ ∧ jWp 177 135 [some (jO m), some (jO q), some (jI (k : Int)), some (jI (c : Int)), some (jJ x), none, some (jJ y), none, some (jI (i : Int)), none, none] [jI ((29 + (4 * (k : Int))) + (c : Int)), jO q, jJ x, jI ((29 + (4 * (k : Int))) + (c : Int)), jO q] 0 0 (kA w q T) _
                refine ⟨rfl, ?_⟩
                refine jWp.lald (pc' := 136) (j := (29 + 4 * k + c)) mt rfl rfl (jtg hq) (by rw [b32_id (by omega) (by omega)]; omega) (jlt hq (by omega)) ?_
                rw [show ((kA w q T).1 q (29 + 4 * k + c)) = (T (29 + 4 * k + c)) from kA_s]
                show jWp 177 136 [some (jO m), some (jO q), some (jI (k : Int)), some (jI (c : Int)), some (jJ x), none, some (jJ y), none, some (jI (i : Int)), none, none] [jJ (T (29 + 4 * k + c)), jJ x, jI ((29 + (4 * (k : Int))) + (c : Int)), jO q] 0 0 (kA w q T) _
                refine jWp.blk mt 1 ?_
                show jWp 177 137 [some (jO m), some (jO q), some (jI (k : Int)), some (jI (c : Int)), some (jJ x), none, some (jJ y), none, some (jI (i : Int)), none, none] [jJ (x - (T (29 + 4 * k + c))), jI ((29 + (4 * (k : Int))) + (c : Int)), jO q] 0 0 (kA w q T) _
                refine jWp.last (pc' := 138) (j := (29 + 4 * k + c)) mt rfl rfl (jtg hq) (by rw [b32_id (by omega) (by omega)]; omega) (jlt hq (by omega)) ?_
                rw [show jW (kA w q T) q (29 + 4 * k + c) (x - (T (29 + 4 * k + c))) = (kA w q (zset T (29 + 4 * k + c) (x - (T (29 + 4 * k + c))))) from kA_W]
                show jWp 177 138 [some (jO m), some (jO q), some (jI (k : Int)), some (jI (c : Int)), some (jJ x), none, some (jJ y), none, some (jI (i : Int)), none, none] [] 0 0 (kA w q (zset T (29 + 4 * k + c) (x - (T (29 + 4 * k + c))))) _
                refine jWp.blk mt 2 ?_
                show jWp 177 2 [some (jO m), some (jO q), some (jI (k : Int)), some (jI ((c : Int) + 1)), some (jJ x), none, some (jJ y), none, some (jI (i : Int)), none, none] [] 0 0 (kA w q (zset T (29 + 4 * k + c) (x - (T (29 + 4 * k + c))))) _
                refine jWp.le (l := [some (jO m), some (jO q), some (jI (k : Int)), some (jI ((c : Int) + 1)), none, none, none, none, none, none, none]) (by exact ⟨rfl, rfl, rfl, rfl, trivial⟩) ?_
                exact ih2 (c + 1) _ (by omega) (fun j hj => by rw [zset_n (by omega)]; exact hT j hj) ⟨fun x hx => by rcases Nat.lt_or_ge x c with e | e; rw [zset_n (by omega)]; exact hD.1 x e; rw [show x = c by omega, zset_s]; unfold zdn; rw [← show i = n by omega, ← hx1, ← hy1, hD.2 (29 + 4 * k + c) (by omega) (fun x hx => by omega)]; first | rw [if_pos (by omega)] | rw [if_neg (by omega)], fun j h1 h2 => by rw [zset_n (h2 c (by omega))]; exact hD.2 j h1 (fun x hx => h2 x (by omega))⟩ (by omega)
            · have h6 : (i : Int) < (n : Int) := h6
              refine jWp.blk mt 3 ?_
              show _ ∧ jWp 177 30 [some (jO m), some (jO q), some (jI (k : Int)), some (jI (c : Int)), some (jJ x), none, some (jJ y), none, some (jI (i : Int)), none, none] [jI (k : Int), jI (i : Int), jO q] 0 0 (kA w q T) _
              refine ⟨rfl, ?_⟩
              refine jWp.calls (as := [jO q, jI (i : Int), jI (k : Int)]) (rest := []) mt rfl rfl rfl rfl ?_
              refine jCall.mono ((show jCall 163 [jO q, jI (i : Int), jI (k : Int)] (kA w q T) (jvj (w.1 q (1 + (4 * i + k))) (kA w q T)) from by have h := E_b (w := (kA w q T)) (i := i) (k := k) hq (by omega) (by omega) (by omega); rw [kA_s, hT _ (by omega)] at h; exact h)) (fun v9 w9 h9 => ?_)
              obtain ⟨rfl, h9⟩ := h9
              subst w9
              show jWp 177 33 [some (jO m), some (jO q), some (jI (k : Int)), some (jI (c : Int)), some (jJ x), none, some (jJ y), none, some (jI (i : Int)), none, none] [jJ (w.1 q (1 + (4 * i + k)))] 0 0 (kA w q T) _
              refine jWp.blk mt 4 ?_
              show jWp 177 40 [some (jO m), some (jO q), some (jI (k : Int)), some (jI (c : Int)), some (jJ x), none, some (jJ y), none, some (jI (i : Int)), some (jJ (w.1 q (1 + (4 * i + k)))), none] [jJ 0, jJ (w.1 q (1 + (4 * i + k))), jJ x] 0 0 (kA w q T) _
              refine jWp.lcmp (pc' := 44) mt rfl rfl rfl (b64_id (by omega) (by omega)) (show b64 0 = 0 by decide) (fun h8 => ?_) (fun h8 => ?_)
              · have h8 : (w.1 q (1 + (4 * i + k))) ≤ 0 := h8
                refine jWp.blk mt 6 ?_
                show jWp 177 70 [some (jO m), some (jO q), some (jI (k : Int)), some (jI (c : Int)), some (jJ (x + 0)), none, some (jJ y), none, some (jI (i : Int)), some (jJ (w.1 q (1 + (4 * i + k)))), none] [jJ 0, jJ (w.1 q (1 + (4 * i + k))), jJ y] 0 0 (kA w q T) _
                refine jWp.lcmp (pc' := 74) mt rfl rfl rfl (b64_id (by omega) (by omega)) (show b64 0 = 0 by decide) (fun h9 => ?_) (fun h9 => ?_)
                · have h9 : 0 ≤ (w.1 q (1 + (4 * i + k))) := h9
                  refine jWp.blk mt 5 ?_
                  show jWp 177 16 [some (jO m), some (jO q), some (jI (k : Int)), some (jI (c : Int)), some (jJ (x + 0)), none, some (jJ (y + 0)), none, some (jI ((i : Int) + 1)), some (jJ (w.1 q (1 + (4 * i + k)))), none] [] 0 0 (kA w q T) _
                  refine jWp.le (l := [some (jO m), some (jO q), some (jI (k : Int)), some (jI (c : Int)), some (jJ (x + 0)), none, some (jJ (y + 0)), none, some (jI ((i : Int) + 1)), none, none]) (by exact ⟨rfl, rfl, rfl, rfl, rfl, rfl, rfl, trivial⟩) ?_
                  exact ih5 (i + 1) _ _ (by omega) (by rw [hx1]; first | (rw [zdu_f (by omega)]; done) | (rw [zdu_t (by omega), hD.2 (29 + 4 * i + c) (by omega) (fun x hx => by omega)]; done)) (by rw [hy1]; first | (rw [zdw_f (by omega)]; done) | (rw [zdw_t (by omega), hD.2 (29 + 4 * i + c) (by omega) (fun x hx => by omega)]; done)) (by omega)
                · have h9 : (w.1 q (1 + (4 * i + k))) < 0 := h9
                  refine jWp.blk mt 10 ?_
                  show _ ∧ jWp 177 87 [some (jO m), some (jO q), some (jI (k : Int)), some (jI (c : Int)), some (jJ (x + 0)), none, some (jJ y), none, some (jI (i : Int)), some (jJ (w.1 q (1 + (4 * i + k)))), none] [jI ((29 + (4 * (i : Int))) + (c : Int)), jO q, jJ (-(w.1 q (1 + (4 * i + k)))), jJ y] 0 0 (kA w q T) _
                  refine ⟨rfl, ?_⟩
                  refine jWp.lald (pc' := 88) (j := (29 + 4 * i + c)) mt rfl rfl (jtg hq) (by rw [b32_id (by omega) (by omega)]; omega) (jlt hq (by omega)) ?_
                  rw [show ((kA w q T).1 q (29 + 4 * i + c)) = (T (29 + 4 * i + c)) from kA_s]
                  show jWp 177 88 [some (jO m), some (jO q), some (jI (k : Int)), some (jI (c : Int)), some (jJ (x + 0)), none, some (jJ y), none, some (jI (i : Int)), some (jJ (w.1 q (1 + (4 * i + k)))), none] [jJ (T (29 + 4 * i + c)), jJ (-(w.1 q (1 + (4 * i + k)))), jJ y] 0 0 (kA w q T) _
                  refine jWp.blk mt 6 ?_
                  show jWp 177 16 [some (jO m), some (jO q), some (jI (k : Int)), some (jI (c : Int)), some (jJ (x + 0)), none, some (jJ (y + ((-(w.1 q (1 + (4 * i + k)))) * (T (29 + 4 * i + c))))), none, some (jI ((i : Int) + 1)), some (jJ (w.1 q (1 + (4 * i + k)))), none] [] 0 0 (kA w q T) _
                  refine jWp.le (l := [some (jO m), some (jO q), some (jI (k : Int)), some (jI (c : Int)), some (jJ (x + 0)), none, some (jJ (y + ((-(w.1 q (1 + (4 * i + k)))) * (T (29 + 4 * i + c))))), none, some (jI ((i : Int) + 1)), none, none]) (by exact ⟨rfl, rfl, rfl, rfl, rfl, rfl, rfl, trivial⟩) ?_
                  exact ih5 (i + 1) _ _ (by omega) (by rw [hx1]; first | (rw [zdu_f (by omega)]; done) | (rw [zdu_t (by omega), hD.2 (29 + 4 * i + c) (by omega) (fun x hx => by omega)]; done)) (by rw [hy1]; first | (rw [zdw_f (by omega)]; done) | (rw [zdw_t (by omega), hD.2 (29 + 4 * i + c) (by omega) (fun x hx => by omega)]; done)) (by omega)
              · have h8 : 0 < (w.1 q (1 + (4 * i + k))) := h8
                refine jWp.blk mt 9 ?_
                show _ ∧ jWp 177 56 [some (jO m), some (jO q), some (jI (k : Int)), some (jI (c : Int)), some (jJ x), none, some (jJ y), none, some (jI (i : Int)), some (jJ (w.1 q (1 + (4 * i + k)))), none] [jI ((29 + (4 * (i : Int))) + (c : Int)), jO q, jJ (w.1 q (1 + (4 * i + k))), jJ x] 0 0 (kA w q T) _
                refine ⟨rfl, ?_⟩
                refine jWp.lald (pc' := 57) (j := (29 + 4 * i + c)) mt rfl rfl (jtg hq) (by rw [b32_id (by omega) (by omega)]; omega) (jlt hq (by omega)) ?_
                rw [show ((kA w q T).1 q (29 + 4 * i + c)) = (T (29 + 4 * i + c)) from kA_s]
                show jWp 177 57 [some (jO m), some (jO q), some (jI (k : Int)), some (jI (c : Int)), some (jJ x), none, some (jJ y), none, some (jI (i : Int)), some (jJ (w.1 q (1 + (4 * i + k)))), none] [jJ (T (29 + 4 * i + c)), jJ (w.1 q (1 + (4 * i + k))), jJ x] 0 0 (kA w q T) _
                refine jWp.blk mt 7 ?_
                show jWp 177 70 [some (jO m), some (jO q), some (jI (k : Int)), some (jI (c : Int)), some (jJ (x + ((w.1 q (1 + (4 * i + k))) * (T (29 + 4 * i + c))))), none, some (jJ y), none, some (jI (i : Int)), some (jJ (w.1 q (1 + (4 * i + k)))), none] [jJ 0, jJ (w.1 q (1 + (4 * i + k))), jJ y] 0 0 (kA w q T) _
                refine jWp.lcmp (pc' := 74) mt rfl rfl rfl (b64_id (by omega) (by omega)) (show b64 0 = 0 by decide) (fun h10 => ?_) (fun h10 => ?_)
                · have h10 : 0 ≤ (w.1 q (1 + (4 * i + k))) := h10
                  refine jWp.blk mt 5 ?_
                  show jWp 177 16 [some (jO m), some (jO q), some (jI (k : Int)), some (jI (c : Int)), some (jJ (x + ((w.1 q (1 + (4 * i + k))) * (T (29 + 4 * i + c))))), none, some (jJ (y + 0)), none, some (jI ((i : Int) + 1)), some (jJ (w.1 q (1 + (4 * i + k)))), none] [] 0 0 (kA w q T) _
                  refine jWp.le (l := [some (jO m), some (jO q), some (jI (k : Int)), some (jI (c : Int)), some (jJ (x + ((w.1 q (1 + (4 * i + k))) * (T (29 + 4 * i + c))))), none, some (jJ (y + 0)), none, some (jI ((i : Int) + 1)), none, none]) (by exact ⟨rfl, rfl, rfl, rfl, rfl, rfl, rfl, trivial⟩) ?_
                  exact ih5 (i + 1) _ _ (by omega) (by rw [hx1]; first | (rw [zdu_f (by omega)]; done) | (rw [zdu_t (by omega), hD.2 (29 + 4 * i + c) (by omega) (fun x hx => by omega)]; done)) (by rw [hy1]; first | (rw [zdw_f (by omega)]; done) | (rw [zdw_t (by omega), hD.2 (29 + 4 * i + c) (by omega) (fun x hx => by omega)]; done)) (by omega)
                · have h10 : (w.1 q (1 + (4 * i + k))) < 0 := h10
                  refine jWp.blk mt 10 ?_
                  show _ ∧ jWp 177 87 [some (jO m), some (jO q), some (jI (k : Int)), some (jI (c : Int)), some (jJ (x + ((w.1 q (1 + (4 * i + k))) * (T (29 + 4 * i + c))))), none, some (jJ y), none, some (jI (i : Int)), some (jJ (w.1 q (1 + (4 * i + k)))), none] [jI ((29 + (4 * (i : Int))) + (c : Int)), jO q, jJ (-(w.1 q (1 + (4 * i + k)))), jJ y] 0 0 (kA w q T) _
                  refine ⟨rfl, ?_⟩
                  refine jWp.lald (pc' := 88) (j := (29 + 4 * i + c)) mt rfl rfl (jtg hq) (by rw [b32_id (by omega) (by omega)]; omega) (jlt hq (by omega)) ?_
                  rw [show ((kA w q T).1 q (29 + 4 * i + c)) = (T (29 + 4 * i + c)) from kA_s]
                  show jWp 177 88 [some (jO m), some (jO q), some (jI (k : Int)), some (jI (c : Int)), some (jJ (x + ((w.1 q (1 + (4 * i + k))) * (T (29 + 4 * i + c))))), none, some (jJ y), none, some (jI (i : Int)), some (jJ (w.1 q (1 + (4 * i + k)))), none] [jJ (T (29 + 4 * i + c)), jJ (-(w.1 q (1 + (4 * i + k)))), jJ y] 0 0 (kA w q T) _
                  refine jWp.blk mt 6 ?_
                  show jWp 177 16 [some (jO m), some (jO q), some (jI (k : Int)), some (jI (c : Int)), some (jJ (x + ((w.1 q (1 + (4 * i + k))) * (T (29 + 4 * i + c))))), none, some (jJ (y + ((-(w.1 q (1 + (4 * i + k)))) * (T (29 + 4 * i + c))))), none, some (jI ((i : Int) + 1)), some (jJ (w.1 q (1 + (4 * i + k)))), none] [] 0 0 (kA w q T) _
                  refine jWp.le (l := [some (jO m), some (jO q), some (jI (k : Int)), some (jI (c : Int)), some (jJ (x + ((w.1 q (1 + (4 * i + k))) * (T (29 + 4 * i + c))))), none, some (jJ (y + ((-(w.1 q (1 + (4 * i + k)))) * (T (29 + 4 * i + c))))), none, some (jI ((i : Int) + 1)), none, none]) (by exact ⟨rfl, rfl, rfl, rfl, rfl, rfl, rfl, trivial⟩) ?_
                  exact ih5 (i + 1) _ _ (by omega) (by rw [hx1]; first | (rw [zdu_f (by omega)]; done) | (rw [zdu_t (by omega), hD.2 (29 + 4 * i + c) (by omega) (fun x hx => by omega)]; done)) (by rw [hy1]; first | (rw [zdw_f (by omega)]; done) | (rw [zdw_t (by omega), hD.2 (29 + 4 * i + c) (by omega) (fun x hx => by omega)]; done)) (by omega)
        refine jWp.le (l := [some (jO m), some (jO q), some (jI (k : Int)), some (jI (c : Int)), some (jJ 0), none, some (jJ 0), none, some (jI 0), none, none]) (by exact ⟨rfl, rfl, rfl, rfl, rfl, rfl, rfl, trivial⟩) ?_
        exact lp4 _ 0 0 0 (by omega) rfl rfl (Nat.lt_succ_self _)
  refine jWp.le (l := [some (jO m), some (jO q), some (jI (k : Int)), some (jI 0), none, none, none, none, none, none, none]) (by exact ⟨rfl, rfl, rfl, rfl, trivial⟩) ?_
  have key := lp1 _ 0 (w.1 q) (by omega) (fun e he => rfl) ⟨fun x hx => absurd hx (by omega), fun j _ _ => rfl⟩ (Nat.lt_succ_self _)
  rw [kA_self] at key
  exact key
theorem jF2_f {w : jS} {m a : Nat} {u v : Int} (h : a ≠ m) : (jF2 w m u v).1 a = w.1 a := funext fun _ => jF2_a h
theorem kA_f {w : jS} {a b : Nat} {T : Nat → Int} (h : b ≠ a) : (kA w a T).1 b = w.1 b := funext fun _ => kA_a h
theorem kne {G : Nat → Nat × Nat} {a b t t' n n' : Nat} (ha : G a = (t, n)) (hb : G b = (t', n')) (h : t ≠ t') : a ≠ b := fun e => h (by rw [e, hb] at ha; exact (congrArg Prod.fst ha).symm)
theorem kne2 {G : Nat → Nat × Nat} {a b t t' n n' : Nat} (ha : G a = (t, n)) (hb : G b = (t', n')) (h : n ≠ n') : a ≠ b := fun e => h (by rw [e, hb] at ha; exact (congrArg Prod.snd ha).symm)
def zmk (q : Nat → Int) (n k : Nat) (sg : Int) : Option (Int × Int) := zml (fun i => q (21 + i)) (fun i => q (25 + i)) (fun i => sg * q (1 + (4 * i + k))) n 0 (1, 1)
/-- what a value becomes -/
def zxv (q : Nat → Int) (n k : Nat) : Option (Int × Int) :=
  match zmk q n k 1 with
  | none => none
  | some p =>
    match zmk q n k (-1) with
    | none => none
    | some r =>
      if zok (p.1 * r.2 + r.1 * p.2) (p.2 * r.2) then
        if zok (zu (p.1 * r.2 + r.1 * p.2) (p.2 * r.2) * q (25 + k)) (zv (p.1 * r.2 + r.1 * p.2) (p.2 * r.2) * q (21 + k)) then
          some (zu (zu (p.1 * r.2 + r.1 * p.2) (p.2 * r.2) * q (25 + k)) (zv (p.1 * r.2 + r.1 * p.2) (p.2 * r.2) * q (21 + k)), zv (zu (p.1 * r.2 + r.1 * p.2) (p.2 * r.2) * q (25 + k)) (zv (p.1 * r.2 + r.1 * p.2) (p.2 * r.2) * q (21 + k)))
        else none
      else none
/-- a seed of the reference: so many letters, small values, small entries -/
def zS (q : Nat → Int) (n : Nat) : Prop := q 0 = (n : Int) ∧ 2 ≤ n ∧ n ≤ 4 ∧ (∀ i, i < 4 → zsm (q (21 + i), q (25 + i))) ∧ (∀ j, j < 16 → -9 ≤ q (1 + j) ∧ q (1 + j) ≤ 9)
theorem zS.n0 {q : Nat → Int} {n : Nat} (h : zS q n) : q 0 = (n : Int) := h.1
theorem zS.n2 {q : Nat → Int} {n : Nat} (h : zS q n) : 2 ≤ n := h.2.1
theorem zS.n4 {q : Nat → Int} {n : Nat} (h : zS q n) : n ≤ 4 := h.2.2.1
theorem zS.v {q : Nat → Int} {n : Nat} (h : zS q n) : ∀ i, i < 4 → zsm (q (21 + i), q (25 + i)) := h.2.2.2.1
theorem zS.b {q : Nat → Int} {n : Nat} (h : zS q n) : ∀ j, j < 16 → -9 ≤ q (1 + j) ∧ q (1 + j) ≤ 9 := h.2.2.2.2
theorem E_mulk {w : jS} {m q L k n : Nat} {x y : Int} (hM : w.2.1 m = (10, L)) (hq : w.2.1 q = (101, 45)) (hS : zS (w.1 q) n) (hk : k < 4) {sg : Int} (hs : sg = 1 ∨ sg = -1) : jCall 174 [jO m, jO q, jI (k : Int), jJ sg] (jF2 w m x y) (fun v w1 => ∃ x y, w1 = jF2 w m x y ∧ ((v = some (jI 1) ∧ zmk (w.1 q) n k sg = some (x, y) ∧ zsm (x, y)) ∨ (v = some (jI 0) ∧ zmk (w.1 q) n k sg = none))) := by
  have hqm : q ≠ m := kne hq hM (by decide)
  have e : (jF2 w m x y).1 q = w.1 q := jF2_f hqm
  have h := E_multiplies (w := jF2 w m x y) hM hq hqm (by rw [e]; exact hS.n0) hS.n4 hk (by rw [e]; exact hS.v) (by rw [e]; exact hS.b) hs
  refine jCall.mono h (fun v w1 h => ?_)
  obtain ⟨x1, y1, h1, h2⟩ := h
  rw [jF2_F] at h1
  rw [e] at h2
  exact ⟨x1, y1, h1, h2⟩
theorem E_tabk {w : jS} {m q tb L k n : Nat} {x y : Int} (hM : w.2.1 m = (10, L)) (ht : w.2.2.1 m 13 = some tb) (hq : w.2.1 q = (101, 45)) (htb : w.2.1 tb = (101, 16)) (hS : zS (w.1 q) n) (hk : k < 4) : jCall 176 [jO m, jO q, jI (k : Int)] (jF2 w m x y) (fun v w1 => ∃ T, w1 = kA (jF2 w m x y) tb T ∧ ((v = some (jI 1) ∧ (∀ e, e < 16 → T e = zxe (fun e => w.1 q (1 + e)) k e) ∧ zxt (fun e => w.1 q (1 + e)) k) ∨ (v = some (jI 0) ∧ ¬ zxt (fun e => w.1 q (1 + e)) k))) := by
  have hqm : q ≠ m := kne hq hM (by decide)
  have e : (jF2 w m x y).1 q = w.1 q := jF2_f hqm
  have h := E_isTable (w := jF2 w m x y) hM ht hq htb (kne2 hq htb (by decide)) hk (by rw [e]; exact hS.b)
  refine jCall.mono h (fun v w1 h => ?_)
  rw [e] at h
  obtain ⟨T, h1, h2⟩ := h
  refine ⟨T, h1, ?_⟩
  rcases h2 with ⟨h2, h3⟩ | h2
  · exact Or.inl ⟨h2, fun e he => (h3 e he).1, fun e he => by rw [← (h3 e he).1]; exact (h3 e he).2⟩
  · exact Or.inr h2
def jX (w : jS) (m tb q : Nat) (u v : Int) (T S : Nat → Int) : jS := kA (kA (jF2 w m u v) tb T) q S
theorem jX_0 {w : jS} {m tb q : Nat} {u v : Int} {T : Nat → Int} (h1 : q ≠ m) (h2 : q ≠ tb) : kA (jF2 w m u v) tb T = jX w m tb q u v T (w.1 q) := by
  unfold jX
  have e : (kA (jF2 w m u v) tb T).1 q = w.1 q := (kA_f h2).trans (jF2_f h1)
  rw [← e, kA_self]
theorem jX_W {w : jS} {m tb q k : Nat} {u v x : Int} {T S : Nat → Int} : jW (jX w m tb q u v T S) q k x = jX w m tb q u v T (zset S k x) := kA_W
theorem jX_q {w : jS} {m tb q j : Nat} {u v : Int} {T S : Nat → Int} : (jX w m tb q u v T S).1 q j = S j := kA_s
theorem jX_t {w : jS} {m tb q j : Nat} {u v : Int} {T S : Nat → Int} (h : q ≠ tb) : (jX w m tb q u v T S).1 tb j = T j := (kA_a (Ne.symm h)).trans kA_s
theorem jX_u {w : jS} {m tb q : Nat} {u v : Int} {T S : Nat → Int} (h1 : q ≠ m) (h2 : tb ≠ m) : (jX w m tb q u v T S).1 m 11 = u := (kA_a (Ne.symm h1)).trans ((kA_a (Ne.symm h2)).trans jF2_11)
theorem jX_v {w : jS} {m tb q : Nat} {u v : Int} {T S : Nat → Int} (h1 : q ≠ m) (h2 : tb ≠ m) : (jX w m tb q u v T S).1 m 12 = v := (kA_a (Ne.symm h1)).trans ((kA_a (Ne.symm h2)).trans jF2_12)
theorem jF2_0 {w : jS} {m : Nat} : jF2 w m (w.1 m 11) (w.1 m 12) = w := by
  unfold jF2 jW jup
  show (_, w.2) = (w.1, w.2)
  congr 1
  funext b j
  by_cases hb : b = m <;> by_cases h1 : j = 11 <;> by_cases h2 : j = 12 <;> simp [hb, h1, h2]
theorem jX_1 {w : jS} {m tb q : Nat} {u v : Int} (h1 : q ≠ m) (h2 : q ≠ tb) (h3 : tb ≠ m) : jF2 w m u v = jX w m tb q u v (w.1 tb) (w.1 q) := by
  rw [← jX_0 h1 h2]
  have e : (jF2 w m u v).1 tb = w.1 tb := jF2_f h3
  rw [← e, kA_self]
set_option maxHeartbeats 4000000 in
set_option maxRecDepth 20000 in
theorem E_exchanges {w : jS} {m q tb L k n : Nat} (hM : w.2.1 m = (10, L)) (ht : w.2.2.1 m 13 = some tb) (hq : w.2.1 q = (101, 45)) (htb : w.2.1 tb = (101, 16)) (hS : zS (w.1 q) n) (hk : k < 4) : jCall 178 [jO m, jO q, jI (k : Int)] w (fun v w1 => ∃ x y T S, w1 = jX w m tb q x y T S ∧ ((v = some (jI 1) ∧ zxv (w.1 q) n k = some (x, y) ∧ zxt (fun e => w.1 q (1 + e)) k ∧ (∀ e, e < 16 → S (1 + e) = zxe (fun e => w.1 q (1 + e)) k e) ∧ S (21 + k) = x ∧ S (25 + k) = y ∧ (∀ j, j < 29 → (j < 1 ∨ 17 ≤ j) → j ≠ 21 + k → j ≠ 25 + k → S j = w.1 q j) ∧ zdg (w.1 q) S n k) ∨ (v = some (jI 0) ∧ S = w.1 q ∧ ¬ (zxt (fun e => w.1 q (1 + e)) k ∧ (zxv (w.1 q) n k).isSome)))) := by
  have mt : jtb 178 = jT178 := rfl
  have hqm : q ≠ m := kne hq hM (by decide)
  have hqt : q ≠ tb := kne2 hq htb (by decide)
  have htm : tb ≠ m := kne htb hM (by decide)
  have hvk : 1 ≤ w.1 q (21 + k) ∧ w.1 q (21 + k) ≤ 1000000000 ∧ 1 ≤ w.1 q (25 + k) ∧ w.1 q (25 + k) ≤ 1000000000 := hS.v k hk
  show jWp 178 0 [some (jO m), some (jO q), some (jI (k : Int)), none, none, none, none, none] [] 0 0 w _
  refine jWp.blk mt 4 ?_
  show _ ∧ _ ∧ jWp 178 4 [some (jO m), some (jO q), some (jI (k : Int)), none, none, none, none, none] [jJ 1, jI (k : Int), jO q, jO m] 0 0 w _
  refine ⟨rfl, rfl, ?_⟩
  refine jWp.callv (as := [jO m, jO q, jI (k : Int), jJ 1]) (rest := []) mt rfl rfl rfl ⟨rfl, jtg hM⟩ ?_
  refine jCall.mono ((by have h := E_mulk (x := w.1 m 11) (y := w.1 m 12) hM hq hS hk (Or.inl rfl); rw [jF2_0] at h; exact h)) (fun v9 w9 h9 => ?_)
  obtain ⟨x1, y1, h9, hh⟩ := h9
  subst h9
  rcases hh with ⟨rfl, e1, s1⟩ | ⟨rfl, e1⟩
  · have s1' := s1
    have s1 : 1 ≤ x1 ∧ x1 ≤ 1000000000 ∧ 1 ≤ y1 ∧ y1 ≤ 1000000000 := s1'
    show jWp 178 7 [some (jO m), some (jO q), some (jI (k : Int)), none, none, none, none, none] [jI 1] 0 0 (jF2 w m x1 y1) _
    refine jWp.ifc (b := true) mt rfl (by decide) rfl ?_
    show jWp 178 12 [some (jO m), some (jO q), some (jI (k : Int)), none, none, none, none, none] [] 0 0 (jF2 w m x1 y1) _
    refine jWp.blk mt 1 ?_
    show _ ∧ jWp 178 13 [some (jO m), some (jO q), some (jI (k : Int)), none, none, none, none, none] [jO m] 0 0 (jF2 w m x1 y1) _
    refine ⟨rfl, ?_⟩
    refine jWp.getJ (pc' := 16) mt rfl rfl (jtg hM) ?_
    rw [show ((jF2 w m x1 y1).1 m 11) = x1 from jF2_11]
    show jWp 178 16 [some (jO m), some (jO q), some (jI (k : Int)), none, none, none, none, none] [jJ x1] 0 0 (jF2 w m x1 y1) _
    refine jWp.blk mt 2 ?_
    show _ ∧ jWp 178 18 [some (jO m), some (jO q), some (jI (k : Int)), some (jJ x1), none, none, none, none] [jO m] 0 0 (jF2 w m x1 y1) _
    refine ⟨rfl, ?_⟩
    refine jWp.getJ (pc' := 21) mt rfl rfl (jtg hM) ?_
    rw [show ((jF2 w m x1 y1).1 m 12) = y1 from jF2_12]
    show jWp 178 21 [some (jO m), some (jO q), some (jI (k : Int)), some (jJ x1), none, none, none, none] [jJ y1] 0 0 (jF2 w m x1 y1) _
    refine jWp.blk mt 5 ?_
    show _ ∧ _ ∧ jWp 178 29 [some (jO m), some (jO q), some (jI (k : Int)), some (jJ x1), none, some (jJ y1), none, none] [jJ (-1), jI (k : Int), jO q, jO m] 0 0 (jF2 w m x1 y1) _
    refine ⟨rfl, rfl, ?_⟩
    refine jWp.callv (as := [jO m, jO q, jI (k : Int), jJ (-1)]) (rest := []) mt rfl rfl rfl ⟨rfl, jtg hM⟩ ?_
    refine jCall.mono (E_mulk hM hq hS hk (Or.inr rfl)) (fun v9 w9 h9 => ?_)
    obtain ⟨x2, y2, h9, hh⟩ := h9
    subst h9
    rcases hh with ⟨rfl, e2, s2⟩ | ⟨rfl, e2⟩
    · have s2' := s2
      have s2 : 1 ≤ x2 ∧ x2 ≤ 1000000000 ∧ 1 ≤ y2 ∧ y2 ≤ 1000000000 := s2'
      show jWp 178 32 [some (jO m), some (jO q), some (jI (k : Int)), some (jJ x1), none, some (jJ y1), none, none] [jI 1] 0 0 (jF2 w m x2 y2) _
      refine jWp.ifc (b := true) mt rfl (by decide) rfl ?_
      show jWp 178 37 [some (jO m), some (jO q), some (jI (k : Int)), some (jJ x1), none, some (jJ y1), none, none] [] 0 0 (jF2 w m x2 y2) _
      refine jWp.blk mt 3 ?_
      show _ ∧ _ ∧ jWp 178 40 [some (jO m), some (jO q), some (jI (k : Int)), some (jJ x1), none, some (jJ y1), none, none] [jO m, jJ x1, jO m] 0 0 (jF2 w m x2 y2) _
      refine ⟨rfl, rfl, ?_⟩
      refine jWp.getJ (pc' := 43) mt rfl rfl (jtg hM) ?_
      rw [show ((jF2 w m x2 y2).1 m 12) = y2 from jF2_12]
      show jWp 178 43 [some (jO m), some (jO q), some (jI (k : Int)), some (jJ x1), none, some (jJ y1), none, none] [jJ y2, jJ x1, jO m] 0 0 (jF2 w m x2 y2) _
      refine jWp.blk mt 2 ?_
      show _ ∧ jWp 178 45 [some (jO m), some (jO q), some (jI (k : Int)), some (jJ x1), none, some (jJ y1), none, none] [jO m, jJ (x1 * y2), jO m] 0 0 (jF2 w m x2 y2) _
      refine ⟨rfl, ?_⟩
      refine jWp.getJ (pc' := 48) mt rfl rfl (jtg hM) ?_
      rw [show ((jF2 w m x2 y2).1 m 11) = x2 from jF2_11]
      show jWp 178 48 [some (jO m), some (jO q), some (jI (k : Int)), some (jJ x1), none, some (jJ y1), none, none] [jJ x2, jJ (x1 * y2), jO m] 0 0 (jF2 w m x2 y2) _
      refine jWp.blk mt 5 ?_
      show _ ∧ jWp 178 55 [some (jO m), some (jO q), some (jI (k : Int)), some (jJ x1), none, some (jJ y1), none, none] [jO m, jJ y1, jJ ((x1 * y2) + (x2 * y1)), jO m] 0 0 (jF2 w m x2 y2) _
      refine ⟨rfl, ?_⟩
      refine jWp.getJ (pc' := 58) mt rfl rfl (jtg hM) ?_
      rw [show ((jF2 w m x2 y2).1 m 12) = y2 from jF2_12]
      show jWp 178 58 [some (jO m), some (jO q), some (jI (k : Int)), some (jJ x1), none, some (jJ y1), none, none] [jJ y2, jJ y1, jJ ((x1 * y2) + (x2 * y1)), jO m] 0 0 (jF2 w m x2 y2) _
      refine jWp.blk mt 1 ?_
      show jWp 178 59 [some (jO m), some (jO q), some (jI (k : Int)), some (jJ x1), none, some (jJ y1), none, none] [jJ (y1 * y2), jJ ((x1 * y2) + (x2 * y1)), jO m] 0 0 (jF2 w m x2 y2) _
      refine jWp.callv (as := [jO m, jJ ((x1 * y2) + (x2 * y1)), jJ (y1 * y2)]) (rest := []) mt rfl rfl rfl ⟨rfl, jtg hM⟩ ?_
      refine jCall.mono (E_small hM (show 0 ≤ ((x1 * y2) + (x2 * y1)) ∧ ((x1 * y2) + (x2 * y1)) < 9223372036854775808 by have q1 := zmul_b s1.1 s1.2.1 s2.2.2.1 s2.2.2.2; have q2 := zmul_b s2.1 s2.2.1 s1.2.2.1 s1.2.2.2; have q3 := zmul_b s1.2.2.1 s1.2.2.2 s2.2.2.1 s2.2.2.2; omega) (show 0 < (y1 * y2) ∧ (y1 * y2) < 9223372036854775808 by have q1 := zmul_b s1.1 s1.2.1 s2.2.2.1 s2.2.2.2; have q2 := zmul_b s2.1 s2.2.1 s1.2.2.1 s1.2.2.2; have q3 := zmul_b s1.2.2.1 s1.2.2.2 s2.2.2.1 s2.2.2.2; omega)) (fun v9 w9 h9 => ?_)
      rcases h9 with ⟨rfl, h9, h1⟩ | ⟨rfl, h9, h1⟩ <;> subst w9
      · have h1 : zok ((x1 * y2) + (x2 * y1)) (y1 * y2) := h1
        show jWp 178 62 [some (jO m), some (jO q), some (jI (k : Int)), some (jJ x1), none, some (jJ y1), none, none] [jI 1] 0 0 (jW (jW (jF2 w m x2 y2) m 11 (zu ((x1 * y2) + (x2 * y1)) (y1 * y2))) m 12 (zv ((x1 * y2) + (x2 * y1)) (y1 * y2))) _
        rw [show jW (jW (jF2 w m x2 y2) m 11 (zu ((x1 * y2) + (x2 * y1)) (y1 * y2))) m 12 (zv ((x1 * y2) + (x2 * y1)) (y1 * y2)) = (jF2 w m (zu ((x1 * y2) + (x2 * y1)) (y1 * y2)) (zv ((x1 * y2) + (x2 * y1)) (y1 * y2))) from jF2_2]
        show jWp 178 62 [some (jO m), some (jO q), some (jI (k : Int)), some (jJ x1), none, some (jJ y1), none, none] [jI 1] 0 0 (jF2 w m (zu ((x1 * y2) + (x2 * y1)) (y1 * y2)) (zv ((x1 * y2) + (x2 * y1)) (y1 * y2))) _
        have q1 := zmul_b s1.1 s1.2.1 s2.2.2.1 s2.2.2.2; have q2 := zmul_b s2.1 s2.2.1 s1.2.2.1 s1.2.2.2; have q3 := zmul_b s1.2.2.1 s1.2.2.2 s2.2.2.1 s2.2.2.2
        have g1 := zok_sm (by omega) (by omega) h1
        have g2 : 1 ≤ zu ((x1 * y2) + (x2 * y1)) (y1 * y2) * (w.1 q (25 + k)) ∧ zu ((x1 * y2) + (x2 * y1)) (y1 * y2) * (w.1 q (25 + k)) ≤ 1000000000000000000 := zmul_b g1.1 g1.2.1 hvk.2.2.1 hvk.2.2.2
        have g3 : 1 ≤ zv ((x1 * y2) + (x2 * y1)) (y1 * y2) * (w.1 q (21 + k)) ∧ zv ((x1 * y2) + (x2 * y1)) (y1 * y2) * (w.1 q (21 + k)) ≤ 1000000000000000000 := zmul_b g1.2.2.1 g1.2.2.2 hvk.1 hvk.2.1
        have z2 := h1
        refine jWp.ifc (b := false) mt rfl (by decide) rfl ?_
        show jWp 178 65 [some (jO m), some (jO q), some (jI (k : Int)), some (jJ x1), none, some (jJ y1), none, none] [] 0 0 (jF2 w m (zu ((x1 * y2) + (x2 * y1)) (y1 * y2)) (zv ((x1 * y2) + (x2 * y1)) (y1 * y2))) _
        refine jWp.blk mt 2 ?_
        show _ ∧ _ ∧ jWp 178 67 [some (jO m), some (jO q), some (jI (k : Int)), some (jJ x1), none, some (jJ y1), none, none] [jO m, jO m] 0 0 (jF2 w m (zu ((x1 * y2) + (x2 * y1)) (y1 * y2)) (zv ((x1 * y2) + (x2 * y1)) (y1 * y2))) _
        refine ⟨rfl, rfl, ?_⟩
        refine jWp.getJ (pc' := 70) mt rfl rfl (jtg hM) ?_
        rw [show ((jF2 w m (zu ((x1 * y2) + (x2 * y1)) (y1 * y2)) (zv ((x1 * y2) + (x2 * y1)) (y1 * y2))).1 m 11) = (zu ((x1 * y2) + (x2 * y1)) (y1 * y2)) from jF2_11]
        show jWp 178 70 [some (jO m), some (jO q), some (jI (k : Int)), some (jJ x1), none, some (jJ y1), none, none] [jJ (zu ((x1 * y2) + (x2 * y1)) (y1 * y2)), jO m] 0 0 (jF2 w m (zu ((x1 * y2) + (x2 * y1)) (y1 * y2)) (zv ((x1 * y2) + (x2 * y1)) (y1 * y2))) _
        refine jWp.blk mt 4 ?_
        show _ ∧ jWp 178 75 [some (jO m), some (jO q), some (jI (k : Int)), some (jJ x1), none, some (jJ y1), none, none] [jI (25 + (k : Int)), jO q, jJ (zu ((x1 * y2) + (x2 * y1)) (y1 * y2)), jO m] 0 0 (jF2 w m (zu ((x1 * y2) + (x2 * y1)) (y1 * y2)) (zv ((x1 * y2) + (x2 * y1)) (y1 * y2))) _
        refine ⟨rfl, ?_⟩
        refine jWp.lald (pc' := 76) (j := (25 + k)) mt rfl rfl (jtg hq) (by rw [b32_id (by omega) (by omega)] <;> omega) (jlt hq (by omega)) ?_
        rw [show ((jF2 w m (zu ((x1 * y2) + (x2 * y1)) (y1 * y2)) (zv ((x1 * y2) + (x2 * y1)) (y1 * y2))).1 q (25 + k)) = (w.1 q (25 + k)) from (jF2_a hqm)]
        show jWp 178 76 [some (jO m), some (jO q), some (jI (k : Int)), some (jJ x1), none, some (jJ y1), none, none] [jJ (w.1 q (25 + k)), jJ (zu ((x1 * y2) + (x2 * y1)) (y1 * y2)), jO m] 0 0 (jF2 w m (zu ((x1 * y2) + (x2 * y1)) (y1 * y2)) (zv ((x1 * y2) + (x2 * y1)) (y1 * y2))) _
        refine jWp.blk mt 2 ?_
        show _ ∧ jWp 178 78 [some (jO m), some (jO q), some (jI (k : Int)), some (jJ x1), none, some (jJ y1), none, none] [jO m, jJ ((zu ((x1 * y2) + (x2 * y1)) (y1 * y2)) * (w.1 q (25 + k))), jO m] 0 0 (jF2 w m (zu ((x1 * y2) + (x2 * y1)) (y1 * y2)) (zv ((x1 * y2) + (x2 * y1)) (y1 * y2))) _
        refine ⟨rfl, ?_⟩
        refine jWp.getJ (pc' := 81) mt rfl rfl (jtg hM) ?_
        rw [show ((jF2 w m (zu ((x1 * y2) + (x2 * y1)) (y1 * y2)) (zv ((x1 * y2) + (x2 * y1)) (y1 * y2))).1 m 12) = (zv ((x1 * y2) + (x2 * y1)) (y1 * y2)) from jF2_12]
        show jWp 178 81 [some (jO m), some (jO q), some (jI (k : Int)), some (jJ x1), none, some (jJ y1), none, none] [jJ (zv ((x1 * y2) + (x2 * y1)) (y1 * y2)), jJ ((zu ((x1 * y2) + (x2 * y1)) (y1 * y2)) * (w.1 q (25 + k))), jO m] 0 0 (jF2 w m (zu ((x1 * y2) + (x2 * y1)) (y1 * y2)) (zv ((x1 * y2) + (x2 * y1)) (y1 * y2))) _
        refine jWp.blk mt 4 ?_
        show _ ∧ jWp 178 86 [some (jO m), some (jO q), some (jI (k : Int)), some (jJ x1), none, some (jJ y1), none, none] [jI (21 + (k : Int)), jO q, jJ (zv ((x1 * y2) + (x2 * y1)) (y1 * y2)), jJ ((zu ((x1 * y2) + (x2 * y1)) (y1 * y2)) * (w.1 q (25 + k))), jO m] 0 0 (jF2 w m (zu ((x1 * y2) + (x2 * y1)) (y1 * y2)) (zv ((x1 * y2) + (x2 * y1)) (y1 * y2))) _
        refine ⟨rfl, ?_⟩
        refine jWp.lald (pc' := 87) (j := (21 + k)) mt rfl rfl (jtg hq) (by rw [b32_id (by omega) (by omega)] <;> omega) (jlt hq (by omega)) ?_
        rw [show ((jF2 w m (zu ((x1 * y2) + (x2 * y1)) (y1 * y2)) (zv ((x1 * y2) + (x2 * y1)) (y1 * y2))).1 q (21 + k)) = (w.1 q (21 + k)) from (jF2_a hqm)]
        show jWp 178 87 [some (jO m), some (jO q), some (jI (k : Int)), some (jJ x1), none, some (jJ y1), none, none] [jJ (w.1 q (21 + k)), jJ (zv ((x1 * y2) + (x2 * y1)) (y1 * y2)), jJ ((zu ((x1 * y2) + (x2 * y1)) (y1 * y2)) * (w.1 q (25 + k))), jO m] 0 0 (jF2 w m (zu ((x1 * y2) + (x2 * y1)) (y1 * y2)) (zv ((x1 * y2) + (x2 * y1)) (y1 * y2))) _
        refine jWp.blk mt 1 ?_
        show jWp 178 88 [some (jO m), some (jO q), some (jI (k : Int)), some (jJ x1), none, some (jJ y1), none, none] [jJ ((zv ((x1 * y2) + (x2 * y1)) (y1 * y2)) * (w.1 q (21 + k))), jJ ((zu ((x1 * y2) + (x2 * y1)) (y1 * y2)) * (w.1 q (25 + k))), jO m] 0 0 (jF2 w m (zu ((x1 * y2) + (x2 * y1)) (y1 * y2)) (zv ((x1 * y2) + (x2 * y1)) (y1 * y2))) _
        refine jWp.callv (as := [jO m, jJ ((zu ((x1 * y2) + (x2 * y1)) (y1 * y2)) * (w.1 q (25 + k))), jJ ((zv ((x1 * y2) + (x2 * y1)) (y1 * y2)) * (w.1 q (21 + k)))]) (rest := []) mt rfl rfl rfl ⟨rfl, jtg hM⟩ ?_
        refine jCall.mono (E_small hM (show 0 ≤ ((zu ((x1 * y2) + (x2 * y1)) (y1 * y2)) * (w.1 q (25 + k))) ∧ ((zu ((x1 * y2) + (x2 * y1)) (y1 * y2)) * (w.1 q (25 + k))) < 9223372036854775808 by omega) (show 0 < ((zv ((x1 * y2) + (x2 * y1)) (y1 * y2)) * (w.1 q (21 + k))) ∧ ((zv ((x1 * y2) + (x2 * y1)) (y1 * y2)) * (w.1 q (21 + k))) < 9223372036854775808 by omega)) (fun v9 w9 h9 => ?_)
        rcases h9 with ⟨rfl, h9, h2⟩ | ⟨rfl, h9, h2⟩ <;> subst w9
        · have h2 : zok ((zu ((x1 * y2) + (x2 * y1)) (y1 * y2)) * (w.1 q (25 + k))) ((zv ((x1 * y2) + (x2 * y1)) (y1 * y2)) * (w.1 q (21 + k))) := h2
          show jWp 178 91 [some (jO m), some (jO q), some (jI (k : Int)), some (jJ x1), none, some (jJ y1), none, none] [jI 1] 0 0 (jW (jW (jF2 w m (zu ((x1 * y2) + (x2 * y1)) (y1 * y2)) (zv ((x1 * y2) + (x2 * y1)) (y1 * y2))) m 11 (zu ((zu ((x1 * y2) + (x2 * y1)) (y1 * y2)) * (w.1 q (25 + k))) ((zv ((x1 * y2) + (x2 * y1)) (y1 * y2)) * (w.1 q (21 + k))))) m 12 (zv ((zu ((x1 * y2) + (x2 * y1)) (y1 * y2)) * (w.1 q (25 + k))) ((zv ((x1 * y2) + (x2 * y1)) (y1 * y2)) * (w.1 q (21 + k))))) _
          rw [show jW (jW (jF2 w m (zu ((x1 * y2) + (x2 * y1)) (y1 * y2)) (zv ((x1 * y2) + (x2 * y1)) (y1 * y2))) m 11 (zu ((zu ((x1 * y2) + (x2 * y1)) (y1 * y2)) * (w.1 q (25 + k))) ((zv ((x1 * y2) + (x2 * y1)) (y1 * y2)) * (w.1 q (21 + k))))) m 12 (zv ((zu ((x1 * y2) + (x2 * y1)) (y1 * y2)) * (w.1 q (25 + k))) ((zv ((x1 * y2) + (x2 * y1)) (y1 * y2)) * (w.1 q (21 + k)))) = (jF2 w m (zu ((zu ((x1 * y2) + (x2 * y1)) (y1 * y2)) * (w.1 q (25 + k))) ((zv ((x1 * y2) + (x2 * y1)) (y1 * y2)) * (w.1 q (21 + k)))) (zv ((zu ((x1 * y2) + (x2 * y1)) (y1 * y2)) * (w.1 q (25 + k))) ((zv ((x1 * y2) + (x2 * y1)) (y1 * y2)) * (w.1 q (21 + k))))) from jF2_2]
          show jWp 178 91 [some (jO m), some (jO q), some (jI (k : Int)), some (jJ x1), none, some (jJ y1), none, none] [jI 1] 0 0 (jF2 w m (zu ((zu ((x1 * y2) + (x2 * y1)) (y1 * y2)) * (w.1 q (25 + k))) ((zv ((x1 * y2) + (x2 * y1)) (y1 * y2)) * (w.1 q (21 + k)))) (zv ((zu ((x1 * y2) + (x2 * y1)) (y1 * y2)) * (w.1 q (25 + k))) ((zv ((x1 * y2) + (x2 * y1)) (y1 * y2)) * (w.1 q (21 + k))))) _
          have z3 := h2
          refine jWp.ifc (b := false) mt rfl (by decide) rfl ?_
          show jWp 178 94 [some (jO m), some (jO q), some (jI (k : Int)), some (jJ x1), none, some (jJ y1), none, none] [] 0 0 (jF2 w m (zu ((zu ((x1 * y2) + (x2 * y1)) (y1 * y2)) * (w.1 q (25 + k))) ((zv ((x1 * y2) + (x2 * y1)) (y1 * y2)) * (w.1 q (21 + k)))) (zv ((zu ((x1 * y2) + (x2 * y1)) (y1 * y2)) * (w.1 q (25 + k))) ((zv ((x1 * y2) + (x2 * y1)) (y1 * y2)) * (w.1 q (21 + k))))) _
          refine jWp.blk mt 3 ?_
          show _ ∧ _ ∧ jWp 178 97 [some (jO m), some (jO q), some (jI (k : Int)), some (jJ x1), none, some (jJ y1), none, none] [jI (k : Int), jO q, jO m] 0 0 (jF2 w m (zu ((zu ((x1 * y2) + (x2 * y1)) (y1 * y2)) * (w.1 q (25 + k))) ((zv ((x1 * y2) + (x2 * y1)) (y1 * y2)) * (w.1 q (21 + k)))) (zv ((zu ((x1 * y2) + (x2 * y1)) (y1 * y2)) * (w.1 q (25 + k))) ((zv ((x1 * y2) + (x2 * y1)) (y1 * y2)) * (w.1 q (21 + k))))) _
          refine ⟨rfl, rfl, ?_⟩
          refine jWp.callv (as := [jO m, jO q, jI (k : Int)]) (rest := []) mt rfl rfl rfl ⟨rfl, jtg hM⟩ ?_
          refine jCall.mono (E_tabk hM ht hq htb hS hk) (fun v9 w9 h9 => ?_)
          obtain ⟨T, h9, hh⟩ := h9
          subst h9
          rcases hh with ⟨rfl, hTe, htt⟩ | ⟨rfl, htt⟩
          · have htt' := htt
            rw [show kA (jF2 w m (zu ((zu ((x1 * y2) + (x2 * y1)) (y1 * y2)) * (w.1 q (25 + k))) ((zv ((x1 * y2) + (x2 * y1)) (y1 * y2)) * (w.1 q (21 + k)))) (zv ((zu ((x1 * y2) + (x2 * y1)) (y1 * y2)) * (w.1 q (25 + k))) ((zv ((x1 * y2) + (x2 * y1)) (y1 * y2)) * (w.1 q (21 + k))))) tb T = jX w m tb q (zu ((zu ((x1 * y2) + (x2 * y1)) (y1 * y2)) * (w.1 q (25 + k))) ((zv ((x1 * y2) + (x2 * y1)) (y1 * y2)) * (w.1 q (21 + k)))) (zv ((zu ((x1 * y2) + (x2 * y1)) (y1 * y2)) * (w.1 q (25 + k))) ((zv ((x1 * y2) + (x2 * y1)) (y1 * y2)) * (w.1 q (21 + k)))) T (w.1 q) from jX_0 hqm hqt]
            show jWp 178 100 [some (jO m), some (jO q), some (jI (k : Int)), some (jJ x1), none, some (jJ y1), none, none] [jI 1] 0 0 (jX w m tb q (zu ((zu ((x1 * y2) + (x2 * y1)) (y1 * y2)) * (w.1 q (25 + k))) ((zv ((x1 * y2) + (x2 * y1)) (y1 * y2)) * (w.1 q (21 + k)))) (zv ((zu ((x1 * y2) + (x2 * y1)) (y1 * y2)) * (w.1 q (25 + k))) ((zv ((x1 * y2) + (x2 * y1)) (y1 * y2)) * (w.1 q (21 + k)))) T (w.1 q)) _
            refine jWp.ifc (b := true) mt rfl (by decide) rfl ?_
            show jWp 178 105 [some (jO m), some (jO q), some (jI (k : Int)), some (jJ x1), none, some (jJ y1), none, none] [] 0 0 (jX w m tb q (zu ((zu ((x1 * y2) + (x2 * y1)) (y1 * y2)) * (w.1 q (25 + k))) ((zv ((x1 * y2) + (x2 * y1)) (y1 * y2)) * (w.1 q (21 + k)))) (zv ((zu ((x1 * y2) + (x2 * y1)) (y1 * y2)) * (w.1 q (25 + k))) ((zv ((x1 * y2) + (x2 * y1)) (y1 * y2)) * (w.1 q (21 + k)))) T (w.1 q)) _
            refine jWp.blk mt 5 ?_
            show _ ∧ _ ∧ jWp 178 111 [some (jO m), some (jO q), some (jI (k : Int)), some (jJ x1), none, some (jJ y1), none, none] [jO m, jI (21 + (k : Int)), jO q] 0 0 (jX w m tb q (zu ((zu ((x1 * y2) + (x2 * y1)) (y1 * y2)) * (w.1 q (25 + k))) ((zv ((x1 * y2) + (x2 * y1)) (y1 * y2)) * (w.1 q (21 + k)))) (zv ((zu ((x1 * y2) + (x2 * y1)) (y1 * y2)) * (w.1 q (25 + k))) ((zv ((x1 * y2) + (x2 * y1)) (y1 * y2)) * (w.1 q (21 + k)))) T (w.1 q)) _
            refine ⟨rfl, rfl, ?_⟩
            refine jWp.getJ (pc' := 114) mt rfl rfl (jtg hM) ?_
            rw [show ((jX w m tb q (zu ((zu ((x1 * y2) + (x2 * y1)) (y1 * y2)) * (w.1 q (25 + k))) ((zv ((x1 * y2) + (x2 * y1)) (y1 * y2)) * (w.1 q (21 + k)))) (zv ((zu ((x1 * y2) + (x2 * y1)) (y1 * y2)) * (w.1 q (25 + k))) ((zv ((x1 * y2) + (x2 * y1)) (y1 * y2)) * (w.1 q (21 + k)))) T (w.1 q)).1 m 11) = (zu ((zu ((x1 * y2) + (x2 * y1)) (y1 * y2)) * (w.1 q (25 + k))) ((zv ((x1 * y2) + (x2 * y1)) (y1 * y2)) * (w.1 q (21 + k)))) from (jX_u hqm htm)]
            show jWp 178 114 [some (jO m), some (jO q), some (jI (k : Int)), some (jJ x1), none, some (jJ y1), none, none] [jJ (zu ((zu ((x1 * y2) + (x2 * y1)) (y1 * y2)) * (w.1 q (25 + k))) ((zv ((x1 * y2) + (x2 * y1)) (y1 * y2)) * (w.1 q (21 + k)))), jI (21 + (k : Int)), jO q] 0 0 (jX w m tb q (zu ((zu ((x1 * y2) + (x2 * y1)) (y1 * y2)) * (w.1 q (25 + k))) ((zv ((x1 * y2) + (x2 * y1)) (y1 * y2)) * (w.1 q (21 + k)))) (zv ((zu ((x1 * y2) + (x2 * y1)) (y1 * y2)) * (w.1 q (25 + k))) ((zv ((x1 * y2) + (x2 * y1)) (y1 * y2)) * (w.1 q (21 + k)))) T (w.1 q)) _
            refine jWp.last (pc' := 115) (j := (21 + k)) mt rfl rfl (jtg hq) (by rw [b32_id (by omega) (by omega)] <;> omega) (jlt hq (by omega)) ?_
            rw [show jW (jX w m tb q (zu ((zu ((x1 * y2) + (x2 * y1)) (y1 * y2)) * (w.1 q (25 + k))) ((zv ((x1 * y2) + (x2 * y1)) (y1 * y2)) * (w.1 q (21 + k)))) (zv ((zu ((x1 * y2) + (x2 * y1)) (y1 * y2)) * (w.1 q (25 + k))) ((zv ((x1 * y2) + (x2 * y1)) (y1 * y2)) * (w.1 q (21 + k)))) T (w.1 q)) q (21 + k) (zu ((zu ((x1 * y2) + (x2 * y1)) (y1 * y2)) * (w.1 q (25 + k))) ((zv ((x1 * y2) + (x2 * y1)) (y1 * y2)) * (w.1 q (21 + k)))) = (jX w m tb q (zu ((zu ((x1 * y2) + (x2 * y1)) (y1 * y2)) * (w.1 q (25 + k))) ((zv ((x1 * y2) + (x2 * y1)) (y1 * y2)) * (w.1 q (21 + k)))) (zv ((zu ((x1 * y2) + (x2 * y1)) (y1 * y2)) * (w.1 q (25 + k))) ((zv ((x1 * y2) + (x2 * y1)) (y1 * y2)) * (w.1 q (21 + k)))) T (zset (w.1 q) (21 + k) (zu ((zu ((x1 * y2) + (x2 * y1)) (y1 * y2)) * (w.1 q (25 + k))) ((zv ((x1 * y2) + (x2 * y1)) (y1 * y2)) * (w.1 q (21 + k)))))) from jX_W]
            show jWp 178 115 [some (jO m), some (jO q), some (jI (k : Int)), some (jJ x1), none, some (jJ y1), none, none] [] 0 0 (jX w m tb q (zu ((zu ((x1 * y2) + (x2 * y1)) (y1 * y2)) * (w.1 q (25 + k))) ((zv ((x1 * y2) + (x2 * y1)) (y1 * y2)) * (w.1 q (21 + k)))) (zv ((zu ((x1 * y2) + (x2 * y1)) (y1 * y2)) * (w.1 q (25 + k))) ((zv ((x1 * y2) + (x2 * y1)) (y1 * y2)) * (w.1 q (21 + k)))) T (zset (w.1 q) (21 + k) (zu ((zu ((x1 * y2) + (x2 * y1)) (y1 * y2)) * (w.1 q (25 + k))) ((zv ((x1 * y2) + (x2 * y1)) (y1 * y2)) * (w.1 q (21 + k)))))) _
            refine jWp.blk mt 5 ?_
            show _ ∧ _ ∧ jWp 178 121 [some (jO m), some (jO q), some (jI (k : Int)), some (jJ x1), none, some (jJ y1), none, none] [jO m, jI (25 + (k : Int)), jO q] 0 0 (jX w m tb q (zu ((zu ((x1 * y2) + (x2 * y1)) (y1 * y2)) * (w.1 q (25 + k))) ((zv ((x1 * y2) + (x2 * y1)) (y1 * y2)) * (w.1 q (21 + k)))) (zv ((zu ((x1 * y2) + (x2 * y1)) (y1 * y2)) * (w.1 q (25 + k))) ((zv ((x1 * y2) + (x2 * y1)) (y1 * y2)) * (w.1 q (21 + k)))) T (zset (w.1 q) (21 + k) (zu ((zu ((x1 * y2) + (x2 * y1)) (y1 * y2)) * (w.1 q (25 + k))) ((zv ((x1 * y2) + (x2 * y1)) (y1 * y2)) * (w.1 q (21 + k)))))) _
            refine ⟨rfl, rfl, ?_⟩
            refine jWp.getJ (pc' := 124) mt rfl rfl (jtg hM) ?_
            rw [show ((jX w m tb q (zu ((zu ((x1 * y2) + (x2 * y1)) (y1 * y2)) * (w.1 q (25 + k))) ((zv ((x1 * y2) + (x2 * y1)) (y1 * y2)) * (w.1 q (21 + k)))) (zv ((zu ((x1 * y2) + (x2 * y1)) (y1 * y2)) * (w.1 q (25 + k))) ((zv ((x1 * y2) + (x2 * y1)) (y1 * y2)) * (w.1 q (21 + k)))) T (zset (w.1 q) (21 + k) (zu ((zu ((x1 * y2) + (x2 * y1)) (y1 * y2)) * (w.1 q (25 + k))) ((zv ((x1 * y2) + (x2 * y1)) (y1 * y2)) * (w.1 q (21 + k)))))).1 m 12) = (zv ((zu ((x1 * y2) + (x2 * y1)) (y1 * y2)) * (w.1 q (25 + k))) ((zv ((x1 * y2) + (x2 * y1)) (y1 * y2)) * (w.1 q (21 + k)))) from (jX_v hqm htm)]
            show jWp 178 124 [some (jO m), some (jO q), some (jI (k : Int)), some (jJ x1), none, some (jJ y1), none, none] [jJ (zv ((zu ((x1 * y2) + (x2 * y1)) (y1 * y2)) * (w.1 q (25 + k))) ((zv ((x1 * y2) + (x2 * y1)) (y1 * y2)) * (w.1 q (21 + k)))), jI (25 + (k : Int)), jO q] 0 0 (jX w m tb q (zu ((zu ((x1 * y2) + (x2 * y1)) (y1 * y2)) * (w.1 q (25 + k))) ((zv ((x1 * y2) + (x2 * y1)) (y1 * y2)) * (w.1 q (21 + k)))) (zv ((zu ((x1 * y2) + (x2 * y1)) (y1 * y2)) * (w.1 q (25 + k))) ((zv ((x1 * y2) + (x2 * y1)) (y1 * y2)) * (w.1 q (21 + k)))) T (zset (w.1 q) (21 + k) (zu ((zu ((x1 * y2) + (x2 * y1)) (y1 * y2)) * (w.1 q (25 + k))) ((zv ((x1 * y2) + (x2 * y1)) (y1 * y2)) * (w.1 q (21 + k)))))) _
            refine jWp.last (pc' := 125) (j := (25 + k)) mt rfl rfl (jtg hq) (by rw [b32_id (by omega) (by omega)] <;> omega) (jlt hq (by omega)) ?_
            rw [show jW (jX w m tb q (zu ((zu ((x1 * y2) + (x2 * y1)) (y1 * y2)) * (w.1 q (25 + k))) ((zv ((x1 * y2) + (x2 * y1)) (y1 * y2)) * (w.1 q (21 + k)))) (zv ((zu ((x1 * y2) + (x2 * y1)) (y1 * y2)) * (w.1 q (25 + k))) ((zv ((x1 * y2) + (x2 * y1)) (y1 * y2)) * (w.1 q (21 + k)))) T (zset (w.1 q) (21 + k) (zu ((zu ((x1 * y2) + (x2 * y1)) (y1 * y2)) * (w.1 q (25 + k))) ((zv ((x1 * y2) + (x2 * y1)) (y1 * y2)) * (w.1 q (21 + k)))))) q (25 + k) (zv ((zu ((x1 * y2) + (x2 * y1)) (y1 * y2)) * (w.1 q (25 + k))) ((zv ((x1 * y2) + (x2 * y1)) (y1 * y2)) * (w.1 q (21 + k)))) = (jX w m tb q (zu ((zu ((x1 * y2) + (x2 * y1)) (y1 * y2)) * (w.1 q (25 + k))) ((zv ((x1 * y2) + (x2 * y1)) (y1 * y2)) * (w.1 q (21 + k)))) (zv ((zu ((x1 * y2) + (x2 * y1)) (y1 * y2)) * (w.1 q (25 + k))) ((zv ((x1 * y2) + (x2 * y1)) (y1 * y2)) * (w.1 q (21 + k)))) T (zset (zset (w.1 q) (21 + k) (zu ((zu ((x1 * y2) + (x2 * y1)) (y1 * y2)) * (w.1 q (25 + k))) ((zv ((x1 * y2) + (x2 * y1)) (y1 * y2)) * (w.1 q (21 + k))))) (25 + k) (zv ((zu ((x1 * y2) + (x2 * y1)) (y1 * y2)) * (w.1 q (25 + k))) ((zv ((x1 * y2) + (x2 * y1)) (y1 * y2)) * (w.1 q (21 + k)))))) from jX_W]
            show jWp 178 125 [some (jO m), some (jO q), some (jI (k : Int)), some (jJ x1), none, some (jJ y1), none, none] [] 0 0 (jX w m tb q (zu ((zu ((x1 * y2) + (x2 * y1)) (y1 * y2)) * (w.1 q (25 + k))) ((zv ((x1 * y2) + (x2 * y1)) (y1 * y2)) * (w.1 q (21 + k)))) (zv ((zu ((x1 * y2) + (x2 * y1)) (y1 * y2)) * (w.1 q (25 + k))) ((zv ((x1 * y2) + (x2 * y1)) (y1 * y2)) * (w.1 q (21 + k)))) T (zset (zset (w.1 q) (21 + k) (zu ((zu ((x1 * y2) + (x2 * y1)) (y1 * y2)) * (w.1 q (25 + k))) ((zv ((x1 * y2) + (x2 * y1)) (y1 * y2)) * (w.1 q (21 + k))))) (25 + k) (zv ((zu ((x1 * y2) + (x2 * y1)) (y1 * y2)) * (w.1 q (25 + k))) ((zv ((x1 * y2) + (x2 * y1)) (y1 * y2)) * (w.1 q (21 + k)))))) _
            refine jWp.blk mt 3 ?_
            show _ ∧ _ ∧ jWp 178 128 [some (jO m), some (jO q), some (jI (k : Int)), some (jJ x1), none, some (jJ y1), none, none] [jI (k : Int), jO q, jO m] 0 0 (jX w m tb q (zu ((zu ((x1 * y2) + (x2 * y1)) (y1 * y2)) * (w.1 q (25 + k))) ((zv ((x1 * y2) + (x2 * y1)) (y1 * y2)) * (w.1 q (21 + k)))) (zv ((zu ((x1 * y2) + (x2 * y1)) (y1 * y2)) * (w.1 q (25 + k))) ((zv ((x1 * y2) + (x2 * y1)) (y1 * y2)) * (w.1 q (21 + k)))) T (zset (zset (w.1 q) (21 + k) (zu ((zu ((x1 * y2) + (x2 * y1)) (y1 * y2)) * (w.1 q (25 + k))) ((zv ((x1 * y2) + (x2 * y1)) (y1 * y2)) * (w.1 q (21 + k))))) (25 + k) (zv ((zu ((x1 * y2) + (x2 * y1)) (y1 * y2)) * (w.1 q (25 + k))) ((zv ((x1 * y2) + (x2 * y1)) (y1 * y2)) * (w.1 q (21 + k)))))) _
            refine ⟨rfl, rfl, ?_⟩
            refine jWp.callv (as := [jO m, jO q, jI (k : Int)]) (rest := []) mt rfl rfl rfl ⟨rfl, jtg hM⟩ ?_
            refine jCall.mono (E_degrees (w := (jX w m tb q (zu ((zu ((x1 * y2) + (x2 * y1)) (y1 * y2)) * (w.1 q (25 + k))) ((zv ((x1 * y2) + (x2 * y1)) (y1 * y2)) * (w.1 q (21 + k)))) (zv ((zu ((x1 * y2) + (x2 * y1)) (y1 * y2)) * (w.1 q (25 + k))) ((zv ((x1 * y2) + (x2 * y1)) (y1 * y2)) * (w.1 q (21 + k)))) T (zset (zset (w.1 q) (21 + k) (zu ((zu ((x1 * y2) + (x2 * y1)) (y1 * y2)) * (w.1 q (25 + k))) ((zv ((x1 * y2) + (x2 * y1)) (y1 * y2)) * (w.1 q (21 + k))))) (25 + k) (zv ((zu ((x1 * y2) + (x2 * y1)) (y1 * y2)) * (w.1 q (25 + k))) ((zv ((x1 * y2) + (x2 * y1)) (y1 * y2)) * (w.1 q (21 + k))))))) (n := n) hq (by rw [jX_q, zset_n (by omega), zset_n (by omega)]; exact hS.n0) hS.n4 hk (by intro j hj; rw [jX_q, zset_n (by omega), zset_n (by omega)]; exact hS.b j hj)) (fun v9 w9 h9 => ?_)
            obtain ⟨rfl, S9, h9, hS9, hG9⟩ := h9
            subst h9
            rw [show kA (jX w m tb q (zu ((zu ((x1 * y2) + (x2 * y1)) (y1 * y2)) * (w.1 q (25 + k))) ((zv ((x1 * y2) + (x2 * y1)) (y1 * y2)) * (w.1 q (21 + k)))) (zv ((zu ((x1 * y2) + (x2 * y1)) (y1 * y2)) * (w.1 q (25 + k))) ((zv ((x1 * y2) + (x2 * y1)) (y1 * y2)) * (w.1 q (21 + k)))) T (zset (zset (w.1 q) (21 + k) (zu ((zu ((x1 * y2) + (x2 * y1)) (y1 * y2)) * (w.1 q (25 + k))) ((zv ((x1 * y2) + (x2 * y1)) (y1 * y2)) * (w.1 q (21 + k))))) (25 + k) (zv ((zu ((x1 * y2) + (x2 * y1)) (y1 * y2)) * (w.1 q (25 + k))) ((zv ((x1 * y2) + (x2 * y1)) (y1 * y2)) * (w.1 q (21 + k)))))) q S9 = jX w m tb q (zu ((zu ((x1 * y2) + (x2 * y1)) (y1 * y2)) * (w.1 q (25 + k))) ((zv ((x1 * y2) + (x2 * y1)) (y1 * y2)) * (w.1 q (21 + k)))) (zv ((zu ((x1 * y2) + (x2 * y1)) (y1 * y2)) * (w.1 q (25 + k))) ((zv ((x1 * y2) + (x2 * y1)) (y1 * y2)) * (w.1 q (21 + k)))) T S9 from kA_A]
            have hS9 : ∀ j, j < 29 → S9 j = (zset (zset (w.1 q) (21 + k) (zu ((zu ((x1 * y2) + (x2 * y1)) (y1 * y2)) * (w.1 q (25 + k))) ((zv ((x1 * y2) + (x2 * y1)) (y1 * y2)) * (w.1 q (21 + k))))) (25 + k) (zv ((zu ((x1 * y2) + (x2 * y1)) (y1 * y2)) * (w.1 q (25 + k))) ((zv ((x1 * y2) + (x2 * y1)) (y1 * y2)) * (w.1 q (21 + k))))) j := fun j hj => (hS9 j hj).trans jX_q
            have eq9 : (jX w m tb q (zu ((zu ((x1 * y2) + (x2 * y1)) (y1 * y2)) * (w.1 q (25 + k))) ((zv ((x1 * y2) + (x2 * y1)) (y1 * y2)) * (w.1 q (21 + k)))) (zv ((zu ((x1 * y2) + (x2 * y1)) (y1 * y2)) * (w.1 q (25 + k))) ((zv ((x1 * y2) + (x2 * y1)) (y1 * y2)) * (w.1 q (21 + k)))) T (zset (zset (w.1 q) (21 + k) (zu ((zu ((x1 * y2) + (x2 * y1)) (y1 * y2)) * (w.1 q (25 + k))) ((zv ((x1 * y2) + (x2 * y1)) (y1 * y2)) * (w.1 q (21 + k))))) (25 + k) (zv ((zu ((x1 * y2) + (x2 * y1)) (y1 * y2)) * (w.1 q (25 + k))) ((zv ((x1 * y2) + (x2 * y1)) (y1 * y2)) * (w.1 q (21 + k)))))).1 q = (zset (zset (w.1 q) (21 + k) (zu ((zu ((x1 * y2) + (x2 * y1)) (y1 * y2)) * (w.1 q (25 + k))) ((zv ((x1 * y2) + (x2 * y1)) (y1 * y2)) * (w.1 q (21 + k))))) (25 + k) (zv ((zu ((x1 * y2) + (x2 * y1)) (y1 * y2)) * (w.1 q (25 + k))) ((zv ((x1 * y2) + (x2 * y1)) (y1 * y2)) * (w.1 q (21 + k))))) := funext fun _ => jX_q
            rw [eq9] at hG9
            show jWp 178 131 [some (jO m), some (jO q), some (jI (k : Int)), some (jJ x1), none, some (jJ y1), none, none] [] 0 0 (jX w m tb q (zu ((zu ((x1 * y2) + (x2 * y1)) (y1 * y2)) * (w.1 q (25 + k))) ((zv ((x1 * y2) + (x2 * y1)) (y1 * y2)) * (w.1 q (21 + k)))) (zv ((zu ((x1 * y2) + (x2 * y1)) (y1 * y2)) * (w.1 q (25 + k))) ((zv ((x1 * y2) + (x2 * y1)) (y1 * y2)) * (w.1 q (21 + k)))) T S9) _
            refine jWp.blk mt 2 ?_
            show jWp 178 134 [some (jO m), some (jO q), some (jI (k : Int)), some (jJ x1), none, some (jJ y1), none, some (jI 0)] [] 0 0 (jX w m tb q (zu ((zu ((x1 * y2) + (x2 * y1)) (y1 * y2)) * (w.1 q (25 + k))) ((zv ((x1 * y2) + (x2 * y1)) (y1 * y2)) * (w.1 q (21 + k)))) (zv ((zu ((x1 * y2) + (x2 * y1)) (y1 * y2)) * (w.1 q (25 + k))) ((zv ((x1 * y2) + (x2 * y1)) (y1 * y2)) * (w.1 q (21 + k)))) T S9) _
            have lp3 : ∀ (N : Nat) (t : Nat) (S : Nat → Int) (ht16 : t ≤ 16) (hSS : (∀ e, e < t → S (1 + e) = T e) ∧ (∀ j, j < 45 → (j < 1 ∨ 17 ≤ j) → S j = S9 j)), 16 - t < N → jWp 178 134 [some (jO m), some (jO q), none, none, none, none, none, some (jI (t : Int))] [] 0 0 (jX w m tb q (zu ((zu ((x1 * y2) + (x2 * y1)) (y1 * y2)) * (w.1 q (25 + k))) ((zv ((x1 * y2) + (x2 * y1)) (y1 * y2)) * (w.1 q (21 + k)))) (zv ((zu ((x1 * y2) + (x2 * y1)) (y1 * y2)) * (w.1 q (25 + k))) ((zv ((x1 * y2) + (x2 * y1)) (y1 * y2)) * (w.1 q (21 + k)))) T S) (fun v w1 => ∃ x y T S, w1 = jX w m tb q x y T S ∧ ((v = some (jI 1) ∧ zxv (w.1 q) n k = some (x, y) ∧ zxt (fun e => w.1 q (1 + e)) k ∧ (∀ e, e < 16 → S (1 + e) = zxe (fun e => w.1 q (1 + e)) k e) ∧ S (21 + k) = x ∧ S (25 + k) = y ∧ (∀ j, j < 29 → (j < 1 ∨ 17 ≤ j) → j ≠ 21 + k → j ≠ 25 + k → S j = w.1 q j) ∧ zdg (w.1 q) S n k) ∨ (v = some (jI 0) ∧ S = w.1 q ∧ ¬ (zxt (fun e => w.1 q (1 + e)) k ∧ (zxv (w.1 q) n k).isSome)))) := by
              intro N
              induction N with
              | zero => intro t S ht16 hSS hm; omega
              | succ N ih4 =>
                intro t S ht16 hSS hm
                refine jWp.blk mt 2 ?_
                show jWp 178 138 [some (jO m), some (jO q), none, none, none, none, none, some (jI (t : Int))] [jI 16, jI (t : Int)] 0 0 (jX w m tb q (zu ((zu ((x1 * y2) + (x2 * y1)) (y1 * y2)) * (w.1 q (25 + k))) ((zv ((x1 * y2) + (x2 * y1)) (y1 * y2)) * (w.1 q (21 + k)))) (zv ((zu ((x1 * y2) + (x2 * y1)) (y1 * y2)) * (w.1 q (25 + k))) ((zv ((x1 * y2) + (x2 * y1)) (y1 * y2)) * (w.1 q (21 + k)))) T S) _
                refine jWp.icmp (pc' := 141) mt rfl rfl (b32_id (by omega) (by omega)) (show b32 16 = 16 by decide) (fun h5 => ?_) (fun h5 => ?_)
                · have h5 : 16 ≤ (t : Int) := h5
                  refine jWp.blk mt 1 ?_
                  show jWp 178 161 [some (jO m), some (jO q), none, none, none, none, none, some (jI (t : Int))] [jI 1] 0 0 (jX w m tb q (zu ((zu ((x1 * y2) + (x2 * y1)) (y1 * y2)) * (w.1 q (25 + k))) ((zv ((x1 * y2) + (x2 * y1)) (y1 * y2)) * (w.1 q (21 + k)))) (zv ((zu ((x1 * y2) + (x2 * y1)) (y1 * y2)) * (w.1 q (25 + k))) ((zv ((x1 * y2) + (x2 * y1)) (y1 * y2)) * (w.1 q (21 + k)))) T S) _
                  refine jWp.iretz mt rfl ⟨rfl, rfl⟩ rfl (Or.inr rfl) ?_
                  refine ⟨_, _, T, S, rfl, Or.inl ⟨rfl, ?_, htt, ?_, ?_, ?_, ?_, fun c hc => ?_, fun i c hi hc hik => ?_⟩⟩
                  · unfold zxv
                    rw [e1, e2]
                    dsimp only
                    rw [if_pos z2, if_pos z3]
                  · exact fun e he => (hSS.1 e (by omega)).trans (hTe e he)
                  · rw [hSS.2 _ (by omega) (by omega), hS9 _ (by omega), zset_n (by omega), zset_s]
                  · rw [hSS.2 _ (by omega) (by omega), hS9 _ (by omega), zset_s]
                  · exact fun j hj hj2 h1 h2 => by rw [hSS.2 j (by omega) hj2, hS9 j hj, zset_n h2, zset_n h1]
                  · rw [hSS.2 _ (by omega) (by omega), hG9.1 c hc]
                    exact zdn_c hS.n4 hk hc (fun j hj h => by rw [zset_n (by omega), zset_n (by omega)])
                  · rw [hSS.2 _ (by omega) (by omega), hG9.2 i c hi hc hik, zset_n (by omega), zset_n (by omega)]
                · have h5 : (t : Int) < 16 := h5
                  refine jWp.blk mt 5 ?_
                  show _ ∧ _ ∧ jWp 178 147 [some (jO m), some (jO q), none, none, none, none, none, some (jI (t : Int))] [jO m, jI (1 + (t : Int)), jO q] 0 0 (jX w m tb q (zu ((zu ((x1 * y2) + (x2 * y1)) (y1 * y2)) * (w.1 q (25 + k))) ((zv ((x1 * y2) + (x2 * y1)) (y1 * y2)) * (w.1 q (21 + k)))) (zv ((zu ((x1 * y2) + (x2 * y1)) (y1 * y2)) * (w.1 q (25 + k))) ((zv ((x1 * y2) + (x2 * y1)) (y1 * y2)) * (w.1 q (21 + k)))) T S) _
                  refine ⟨rfl, rfl, ?_⟩
                  refine jWp.getR (pc' := 150) (o := tb) mt rfl rfl (jtg hM) ht ?_
                  show jWp 178 150 [some (jO m), some (jO q), none, none, none, none, none, some (jI (t : Int))] [jO tb, jI (1 + (t : Int)), jO q] 0 0 (jX w m tb q (zu ((zu ((x1 * y2) + (x2 * y1)) (y1 * y2)) * (w.1 q (25 + k))) ((zv ((x1 * y2) + (x2 * y1)) (y1 * y2)) * (w.1 q (21 + k)))) (zv ((zu ((x1 * y2) + (x2 * y1)) (y1 * y2)) * (w.1 q (25 + k))) ((zv ((x1 * y2) + (x2 * y1)) (y1 * y2)) * (w.1 q (21 + k)))) T S) _
                  refine jWp.blk mt 1 ?_
                  show jWp 178 152 [some (jO m), some (jO q), none, none, none, none, none, some (jI (t : Int))] [jI (t : Int), jO tb, jI (1 + (t : Int)), jO q] 0 0 (jX w m tb q (zu ((zu ((x1 * y2) + (x2 * y1)) (y1 * y2)) * (w.1 q (25 + k))) ((zv ((x1 * y2) + (x2 * y1)) (y1 * y2)) * (w.1 q (21 + k)))) (zv ((zu ((x1 * y2) + (x2 * y1)) (y1 * y2)) * (w.1 q (25 + k))) ((zv ((x1 * y2) + (x2 * y1)) (y1 * y2)) * (w.1 q (21 + k)))) T S) _
                  refine jWp.lald (pc' := 153) (j := t) mt rfl rfl (jtg htb) (by rw [b32_id (by omega) (by omega)] <;> omega) (jlt htb (by omega)) ?_
                  rw [show ((jX w m tb q (zu ((zu ((x1 * y2) + (x2 * y1)) (y1 * y2)) * (w.1 q (25 + k))) ((zv ((x1 * y2) + (x2 * y1)) (y1 * y2)) * (w.1 q (21 + k)))) (zv ((zu ((x1 * y2) + (x2 * y1)) (y1 * y2)) * (w.1 q (25 + k))) ((zv ((x1 * y2) + (x2 * y1)) (y1 * y2)) * (w.1 q (21 + k)))) T S).1 tb t) = (T t) from (jX_t hqt)]
                  show jWp 178 153 [some (jO m), some (jO q), none, none, none, none, none, some (jI (t : Int))] [jJ (T t), jI (1 + (t : Int)), jO q] 0 0 (jX w m tb q (zu ((zu ((x1 * y2) + (x2 * y1)) (y1 * y2)) * (w.1 q (25 + k))) ((zv ((x1 * y2) + (x2 * y1)) (y1 * y2)) * (w.1 q (21 + k)))) (zv ((zu ((x1 * y2) + (x2 * y1)) (y1 * y2)) * (w.1 q (25 + k))) ((zv ((x1 * y2) + (x2 * y1)) (y1 * y2)) * (w.1 q (21 + k)))) T S) _
                  refine jWp.last (pc' := 154) (j := (1 + t)) mt rfl rfl (jtg hq) (by rw [b32_id (by omega) (by omega)] <;> omega) (jlt hq (by omega)) ?_
                  rw [show jW (jX w m tb q (zu ((zu ((x1 * y2) + (x2 * y1)) (y1 * y2)) * (w.1 q (25 + k))) ((zv ((x1 * y2) + (x2 * y1)) (y1 * y2)) * (w.1 q (21 + k)))) (zv ((zu ((x1 * y2) + (x2 * y1)) (y1 * y2)) * (w.1 q (25 + k))) ((zv ((x1 * y2) + (x2 * y1)) (y1 * y2)) * (w.1 q (21 + k)))) T S) q (1 + t) (T t) = (jX w m tb q (zu ((zu ((x1 * y2) + (x2 * y1)) (y1 * y2)) * (w.1 q (25 + k))) ((zv ((x1 * y2) + (x2 * y1)) (y1 * y2)) * (w.1 q (21 + k)))) (zv ((zu ((x1 * y2) + (x2 * y1)) (y1 * y2)) * (w.1 q (25 + k))) ((zv ((x1 * y2) + (x2 * y1)) (y1 * y2)) * (w.1 q (21 + k)))) T (zset S (1 + t) (T t))) from jX_W]
                  show jWp 178 154 [some (jO m), some (jO q), none, none, none, none, none, some (jI (t : Int))] [] 0 0 (jX w m tb q (zu ((zu ((x1 * y2) + (x2 * y1)) (y1 * y2)) * (w.1 q (25 + k))) ((zv ((x1 * y2) + (x2 * y1)) (y1 * y2)) * (w.1 q (21 + k)))) (zv ((zu ((x1 * y2) + (x2 * y1)) (y1 * y2)) * (w.1 q (25 + k))) ((zv ((x1 * y2) + (x2 * y1)) (y1 * y2)) * (w.1 q (21 + k)))) T (zset S (1 + t) (T t))) _
                  refine jWp.blk mt 2 ?_
                  show jWp 178 134 [some (jO m), some (jO q), none, none, none, none, none, some (jI ((t : Int) + 1))] [] 0 0 (jX w m tb q (zu ((zu ((x1 * y2) + (x2 * y1)) (y1 * y2)) * (w.1 q (25 + k))) ((zv ((x1 * y2) + (x2 * y1)) (y1 * y2)) * (w.1 q (21 + k)))) (zv ((zu ((x1 * y2) + (x2 * y1)) (y1 * y2)) * (w.1 q (25 + k))) ((zv ((x1 * y2) + (x2 * y1)) (y1 * y2)) * (w.1 q (21 + k)))) T (zset S (1 + t) (T t))) _
                  refine jWp.le (l := [some (jO m), some (jO q), none, none, none, none, none, some (jI ((t : Int) + 1))]) (by exact ⟨rfl, rfl, rfl, trivial⟩) ?_
                  exact ih4 (t + 1) _ (by omega) ⟨fun e he => by
            by_cases h : 1 + e = 1 + t
            · have h0 : e = t := by omega
              rw [h, zset_s, h0]
            · rw [zset_n h]; exact hSS.1 e (by omega), fun j hj hj2 => by rw [zset_n (by omega)]; exact hSS.2 j hj hj2⟩ (by omega)
            refine jWp.le (l := [some (jO m), some (jO q), none, none, none, none, none, some (jI 0)]) (by exact ⟨rfl, rfl, rfl, trivial⟩) ?_
            exact lp3 _ 0 S9 (by omega) ⟨fun e he => absurd he (by omega), fun j _ _ => rfl⟩ (Nat.lt_succ_self _)
          · have htt' := htt
            rw [show kA (jF2 w m (zu ((zu ((x1 * y2) + (x2 * y1)) (y1 * y2)) * (w.1 q (25 + k))) ((zv ((x1 * y2) + (x2 * y1)) (y1 * y2)) * (w.1 q (21 + k)))) (zv ((zu ((x1 * y2) + (x2 * y1)) (y1 * y2)) * (w.1 q (25 + k))) ((zv ((x1 * y2) + (x2 * y1)) (y1 * y2)) * (w.1 q (21 + k))))) tb T = jX w m tb q (zu ((zu ((x1 * y2) + (x2 * y1)) (y1 * y2)) * (w.1 q (25 + k))) ((zv ((x1 * y2) + (x2 * y1)) (y1 * y2)) * (w.1 q (21 + k)))) (zv ((zu ((x1 * y2) + (x2 * y1)) (y1 * y2)) * (w.1 q (25 + k))) ((zv ((x1 * y2) + (x2 * y1)) (y1 * y2)) * (w.1 q (21 + k)))) T (w.1 q) from jX_0 hqm hqt]
            show jWp 178 100 [some (jO m), some (jO q), some (jI (k : Int)), some (jJ x1), none, some (jJ y1), none, none] [jI 0] 0 0 (jX w m tb q (zu ((zu ((x1 * y2) + (x2 * y1)) (y1 * y2)) * (w.1 q (25 + k))) ((zv ((x1 * y2) + (x2 * y1)) (y1 * y2)) * (w.1 q (21 + k)))) (zv ((zu ((x1 * y2) + (x2 * y1)) (y1 * y2)) * (w.1 q (25 + k))) ((zv ((x1 * y2) + (x2 * y1)) (y1 * y2)) * (w.1 q (21 + k)))) T (w.1 q)) _
            refine jWp.ifc (b := false) mt rfl (by decide) rfl ?_
            show jWp 178 103 [some (jO m), some (jO q), some (jI (k : Int)), some (jJ x1), none, some (jJ y1), none, none] [] 0 0 (jX w m tb q (zu ((zu ((x1 * y2) + (x2 * y1)) (y1 * y2)) * (w.1 q (25 + k))) ((zv ((x1 * y2) + (x2 * y1)) (y1 * y2)) * (w.1 q (21 + k)))) (zv ((zu ((x1 * y2) + (x2 * y1)) (y1 * y2)) * (w.1 q (25 + k))) ((zv ((x1 * y2) + (x2 * y1)) (y1 * y2)) * (w.1 q (21 + k)))) T (w.1 q)) _
            refine jWp.blk mt 1 ?_
            show jWp 178 104 [some (jO m), some (jO q), some (jI (k : Int)), some (jJ x1), none, some (jJ y1), none, none] [jI 0] 0 0 (jX w m tb q (zu ((zu ((x1 * y2) + (x2 * y1)) (y1 * y2)) * (w.1 q (25 + k))) ((zv ((x1 * y2) + (x2 * y1)) (y1 * y2)) * (w.1 q (21 + k)))) (zv ((zu ((x1 * y2) + (x2 * y1)) (y1 * y2)) * (w.1 q (25 + k))) ((zv ((x1 * y2) + (x2 * y1)) (y1 * y2)) * (w.1 q (21 + k)))) T (w.1 q)) _
            refine jWp.iretz mt rfl ⟨rfl, rfl⟩ rfl (Or.inl rfl) ?_
            exact ⟨_, _, _, _, rfl, Or.inr ⟨rfl, rfl, fun h => htt h.1⟩⟩
        · have h2 : ¬ (zok ((zu ((x1 * y2) + (x2 * y1)) (y1 * y2)) * (w.1 q (25 + k))) ((zv ((x1 * y2) + (x2 * y1)) (y1 * y2)) * (w.1 q (21 + k)))) := h2
          show jWp 178 91 [some (jO m), some (jO q), some (jI (k : Int)), some (jJ x1), none, some (jJ y1), none, none] [jI 0] 0 0 (jW (jW (jF2 w m (zu ((x1 * y2) + (x2 * y1)) (y1 * y2)) (zv ((x1 * y2) + (x2 * y1)) (y1 * y2))) m 11 (zu ((zu ((x1 * y2) + (x2 * y1)) (y1 * y2)) * (w.1 q (25 + k))) ((zv ((x1 * y2) + (x2 * y1)) (y1 * y2)) * (w.1 q (21 + k))))) m 12 (zv ((zu ((x1 * y2) + (x2 * y1)) (y1 * y2)) * (w.1 q (25 + k))) ((zv ((x1 * y2) + (x2 * y1)) (y1 * y2)) * (w.1 q (21 + k))))) _
          rw [show jW (jW (jF2 w m (zu ((x1 * y2) + (x2 * y1)) (y1 * y2)) (zv ((x1 * y2) + (x2 * y1)) (y1 * y2))) m 11 (zu ((zu ((x1 * y2) + (x2 * y1)) (y1 * y2)) * (w.1 q (25 + k))) ((zv ((x1 * y2) + (x2 * y1)) (y1 * y2)) * (w.1 q (21 + k))))) m 12 (zv ((zu ((x1 * y2) + (x2 * y1)) (y1 * y2)) * (w.1 q (25 + k))) ((zv ((x1 * y2) + (x2 * y1)) (y1 * y2)) * (w.1 q (21 + k)))) = (jF2 w m (zu ((zu ((x1 * y2) + (x2 * y1)) (y1 * y2)) * (w.1 q (25 + k))) ((zv ((x1 * y2) + (x2 * y1)) (y1 * y2)) * (w.1 q (21 + k)))) (zv ((zu ((x1 * y2) + (x2 * y1)) (y1 * y2)) * (w.1 q (25 + k))) ((zv ((x1 * y2) + (x2 * y1)) (y1 * y2)) * (w.1 q (21 + k))))) from jF2_2]
          show jWp 178 91 [some (jO m), some (jO q), some (jI (k : Int)), some (jJ x1), none, some (jJ y1), none, none] [jI 0] 0 0 (jF2 w m (zu ((zu ((x1 * y2) + (x2 * y1)) (y1 * y2)) * (w.1 q (25 + k))) ((zv ((x1 * y2) + (x2 * y1)) (y1 * y2)) * (w.1 q (21 + k)))) (zv ((zu ((x1 * y2) + (x2 * y1)) (y1 * y2)) * (w.1 q (25 + k))) ((zv ((x1 * y2) + (x2 * y1)) (y1 * y2)) * (w.1 q (21 + k))))) _
          refine jWp.ifc (b := true) mt rfl (by decide) rfl ?_
          show jWp 178 103 [some (jO m), some (jO q), some (jI (k : Int)), some (jJ x1), none, some (jJ y1), none, none] [] 0 0 (jF2 w m (zu ((zu ((x1 * y2) + (x2 * y1)) (y1 * y2)) * (w.1 q (25 + k))) ((zv ((x1 * y2) + (x2 * y1)) (y1 * y2)) * (w.1 q (21 + k)))) (zv ((zu ((x1 * y2) + (x2 * y1)) (y1 * y2)) * (w.1 q (25 + k))) ((zv ((x1 * y2) + (x2 * y1)) (y1 * y2)) * (w.1 q (21 + k))))) _
          refine jWp.blk mt 1 ?_
          show jWp 178 104 [some (jO m), some (jO q), some (jI (k : Int)), some (jJ x1), none, some (jJ y1), none, none] [jI 0] 0 0 (jF2 w m (zu ((zu ((x1 * y2) + (x2 * y1)) (y1 * y2)) * (w.1 q (25 + k))) ((zv ((x1 * y2) + (x2 * y1)) (y1 * y2)) * (w.1 q (21 + k)))) (zv ((zu ((x1 * y2) + (x2 * y1)) (y1 * y2)) * (w.1 q (25 + k))) ((zv ((x1 * y2) + (x2 * y1)) (y1 * y2)) * (w.1 q (21 + k))))) _
          refine jWp.iretz mt rfl ⟨rfl, rfl⟩ rfl (Or.inl rfl) ?_
          refine ⟨_, _, _, _, jX_1 hqm hqt htm, Or.inr ⟨rfl, rfl, fun h => ?_⟩⟩
          have h := h.2
          unfold zxv at h
          first
          | (rw [e1] at h; cases h; done)
          | (rw [e1, e2] at h; cases h; done)
          | (rw [e1, e2] at h; dsimp only at h; rw [if_neg h2] at h; cases h; done)
          | (rw [e1, e2] at h; dsimp only at h; rw [if_pos z2, if_neg h2] at h; cases h; done)
      · have h1 : ¬ (zok ((x1 * y2) + (x2 * y1)) (y1 * y2)) := h1
        show jWp 178 62 [some (jO m), some (jO q), some (jI (k : Int)), some (jJ x1), none, some (jJ y1), none, none] [jI 0] 0 0 (jW (jW (jF2 w m x2 y2) m 11 (zu ((x1 * y2) + (x2 * y1)) (y1 * y2))) m 12 (zv ((x1 * y2) + (x2 * y1)) (y1 * y2))) _
        rw [show jW (jW (jF2 w m x2 y2) m 11 (zu ((x1 * y2) + (x2 * y1)) (y1 * y2))) m 12 (zv ((x1 * y2) + (x2 * y1)) (y1 * y2)) = (jF2 w m (zu ((x1 * y2) + (x2 * y1)) (y1 * y2)) (zv ((x1 * y2) + (x2 * y1)) (y1 * y2))) from jF2_2]
        show jWp 178 62 [some (jO m), some (jO q), some (jI (k : Int)), some (jJ x1), none, some (jJ y1), none, none] [jI 0] 0 0 (jF2 w m (zu ((x1 * y2) + (x2 * y1)) (y1 * y2)) (zv ((x1 * y2) + (x2 * y1)) (y1 * y2))) _
        refine jWp.ifc (b := true) mt rfl (by decide) rfl ?_
        show jWp 178 103 [some (jO m), some (jO q), some (jI (k : Int)), some (jJ x1), none, some (jJ y1), none, none] [] 0 0 (jF2 w m (zu ((x1 * y2) + (x2 * y1)) (y1 * y2)) (zv ((x1 * y2) + (x2 * y1)) (y1 * y2))) _
        refine jWp.blk mt 1 ?_
        show jWp 178 104 [some (jO m), some (jO q), some (jI (k : Int)), some (jJ x1), none, some (jJ y1), none, none] [jI 0] 0 0 (jF2 w m (zu ((x1 * y2) + (x2 * y1)) (y1 * y2)) (zv ((x1 * y2) + (x2 * y1)) (y1 * y2))) _
        refine jWp.iretz mt rfl ⟨rfl, rfl⟩ rfl (Or.inl rfl) ?_
        refine ⟨_, _, _, _, jX_1 hqm hqt htm, Or.inr ⟨rfl, rfl, fun h => ?_⟩⟩
        have h := h.2
        unfold zxv at h
        first
        | (rw [e1] at h; cases h; done)
        | (rw [e1, e2] at h; cases h; done)
        | (rw [e1, e2] at h; dsimp only at h; rw [if_neg h1] at h; cases h; done)
        | (rw [e1, e2] at h; dsimp only at h; rw [if_pos z2, if_neg h1] at h; cases h; done)
    · have e2' := e2
      show jWp 178 32 [some (jO m), some (jO q), some (jI (k : Int)), some (jJ x1), none, some (jJ y1), none, none] [jI 0] 0 0 (jF2 w m x2 y2) _
      refine jWp.ifc (b := false) mt rfl (by decide) rfl ?_
      show jWp 178 35 [some (jO m), some (jO q), some (jI (k : Int)), some (jJ x1), none, some (jJ y1), none, none] [] 0 0 (jF2 w m x2 y2) _
      refine jWp.blk mt 1 ?_
      show jWp 178 36 [some (jO m), some (jO q), some (jI (k : Int)), some (jJ x1), none, some (jJ y1), none, none] [jI 0] 0 0 (jF2 w m x2 y2) _
      refine jWp.iretz mt rfl ⟨rfl, rfl⟩ rfl (Or.inl rfl) ?_
      refine ⟨_, _, _, _, jX_1 hqm hqt htm, Or.inr ⟨rfl, rfl, fun h => ?_⟩⟩
      have h := h.2
      unfold zxv at h
      first
      | (rw [e1] at h; cases h; done)
      | (rw [e1, e2] at h; cases h; done)
      | (rw [e1, e2] at h; dsimp only at h; rw [if_neg h1] at h; cases h; done)
      | (rw [e1, e2] at h; dsimp only at h; rw [if_pos z2, if_neg h1] at h; cases h; done)
  · have e1' := e1
    show jWp 178 7 [some (jO m), some (jO q), some (jI (k : Int)), none, none, none, none, none] [jI 0] 0 0 (jF2 w m x1 y1) _
    refine jWp.ifc (b := false) mt rfl (by decide) rfl ?_
    show jWp 178 10 [some (jO m), some (jO q), some (jI (k : Int)), none, none, none, none, none] [] 0 0 (jF2 w m x1 y1) _
    refine jWp.blk mt 1 ?_
    show jWp 178 11 [some (jO m), some (jO q), some (jI (k : Int)), none, none, none, none, none] [jI 0] 0 0 (jF2 w m x1 y1) _
    refine jWp.iretz mt rfl ⟨rfl, rfl⟩ rfl (Or.inl rfl) ?_
    refine ⟨_, _, _, _, jX_1 hqm hqt htm, Or.inr ⟨rfl, rfl, fun h => ?_⟩⟩
    have h := h.2
    unfold zxv at h
    first
    | (rw [e1] at h; cases h; done)
    | (rw [e1, e2] at h; cases h; done)
    | (rw [e1, e2] at h; dsimp only at h; rw [if_neg h1] at h; cases h; done)
    | (rw [e1, e2] at h; dsimp only at h; rw [if_pos z2, if_neg h1] at h; cases h; done)
end
section
theorem kA_W0 {w : jS} {a k : Nat} {x : Int} : jW w a k x = kA w a (zset (w.1 a) k x) := by
  rw [← kA_W, kA_self]
/-- what a seed is when it begins -/
def zbg (q S : Nat → Int) : Prop := (∀ j, j < 21 → S j = q j) ∧ (∀ i, i < 4 → S (21 + i) = q (17 + i) ∧ S (25 + i) = 1) ∧ (∀ i c, i < 4 → c < 4 → S (29 + 4 * i + c) = if i = c then -1 else 0)
set_option maxHeartbeats 4000000 in
set_option maxRecDepth 20000 in
theorem E_copies {w : jS} {a q : Nat} (ha : w.2.1 a = (101, 45)) (hq : w.2.1 q = (101, 45)) (haq : a ≠ q) : jCall 162 [jO a, jO q] w (fun v w1 => v = none ∧ ∃ T, w1 = kA w q T ∧ ∀ j, j < 45 → T j = w.1 a j) := by
  have mt : jtb 162 = jT162 := rfl
  show jWp 162 0 [some (jO a), some (jO q), none] [] 0 0 w _
  refine jWp.blk mt 2 ?_
  show jWp 162 2 [some (jO a), some (jO q), some (jI 0)] [] 0 0 w _
  have lp1 : ∀ (N : Nat) (c : Nat) (T : Nat → Int) (hc : c ≤ 45) (hT : ∀ j, j < c → T j = w.1 a j), 45 - c < N → jWp 162 2 [some (jO a), some (jO q), some (jI (c : Int))] [] 0 0 (kA w q T) (fun v w1 => v = none ∧ ∃ T, w1 = kA w q T ∧ ∀ j, j < 45 → T j = w.1 a j) := by
    intro N
    induction N with
    | zero => intro c T hc hT hm; omega
    | succ N ih2 =>
      intro c T hc hT hm
      refine jWp.blk mt 2 ?_
      show jWp 162 5 [some (jO a), some (jO q), some (jI (c : Int))] [jI 45, jI (c : Int)] 0 0 (kA w q T) _
      refine jWp.icmp (pc' := 8) mt rfl rfl (b32_id (by omega) (by omega)) (show b32 45 = 45 by decide) (fun h3 => ?_) (fun h3 => ?_)
      · have h3 : 45 ≤ (c : Int) := h3
        refine jWp.vret mt rfl ⟨rfl, rfl⟩ rfl ?_
        exact ⟨rfl, T, rfl, fun j hj => hT j (by omega)⟩
      · have h3 : (c : Int) < 45 := h3
        refine jWp.blk mt 4 ?_
        show _ ∧ _ ∧ jWp 162 12 [some (jO a), some (jO q), some (jI (c : Int))] [jI (c : Int), jO a, jI (c : Int), jO q] 0 0 (kA w q T) _
        refine ⟨rfl, rfl, ?_⟩
        refine jWp.lald (pc' := 13) (j := c) mt rfl rfl (jtg ha) (by rw [b32_id (by omega) (by omega)] <;> omega) (jlt ha (by omega)) ?_
        rw [show ((kA w q T).1 a c) = (w.1 a c) from (kA_a haq)]
        show jWp 162 13 [some (jO a), some (jO q), some (jI (c : Int))] [jJ (w.1 a c), jI (c : Int), jO q] 0 0 (kA w q T) _
        refine jWp.last (pc' := 14) (j := c) mt rfl rfl (jtg hq) (by rw [b32_id (by omega) (by omega)] <;> omega) (jlt hq (by omega)) ?_
        rw [show jW (kA w q T) q c (w.1 a c) = (kA w q (zset T c (w.1 a c))) from kA_W]
        show jWp 162 14 [some (jO a), some (jO q), some (jI (c : Int))] [] 0 0 (kA w q (zset T c (w.1 a c))) _
        refine jWp.blk mt 2 ?_
        show jWp 162 2 [some (jO a), some (jO q), some (jI ((c : Int) + 1))] [] 0 0 (kA w q (zset T c (w.1 a c))) _
        refine jWp.le (l := [some (jO a), some (jO q), some (jI ((c : Int) + 1))]) (by exact ⟨rfl, rfl, rfl, trivial⟩) ?_
        exact ih2 (c + 1) _ (by omega) (fun j hj => by rcases Nat.lt_or_ge j c with h | h; rw [zset_n (by omega)]; exact hT j h; rw [show j = c by omega, zset_s]) (by omega)
  refine jWp.le (l := [some (jO a), some (jO q), some (jI 0)]) (by exact ⟨rfl, rfl, rfl, trivial⟩) ?_
  have key := lp1 _ 0 (w.1 q) (by omega) (fun j hj => absurd hj (by omega)) (Nat.lt_succ_self _)
  rw [kA_self] at key
  exact key
set_option maxHeartbeats 4000000 in
set_option maxRecDepth 20000 in
theorem E_begun {w : jS} {m q : Nat} (hq : w.2.1 q = (101, 45)) : jCall 159 [jO m, jO q] w (fun v w1 => v = none ∧ ∃ S, w1 = kA w q S ∧ zbg (w.1 q) S) := by
  have mt : jtb 159 = jT159 := rfl
  show jWp 159 0 [some (jO m), some (jO q), none, none] [] 0 0 w _
  refine jWp.blk mt 2 ?_
  show jWp 159 2 [some (jO m), some (jO q), some (jI 0), none] [] 0 0 w _
  have lp1 : ∀ (N : Nat) (i : Nat) (T : Nat → Int) (hi : i ≤ 4) (hb : ∀ j, j < 21 → T j = w.1 q j) (hu : ∀ x, x < i → T (21 + x) = w.1 q (17 + x) ∧ T (25 + x) = 1) (hd : ∀ x c, x < i → c < 4 → T (29 + 4 * x + c) = if x = c then -1 else 0), 4 - i < N → jWp 159 2 [none, some (jO q), some (jI (i : Int)), none] [] 0 0 (kA w q T) (fun v w1 => v = none ∧ ∃ S, w1 = kA w q S ∧ zbg (w.1 q) S) := by
    intro N
    induction N with
    | zero => intro i T hi hb hu hd hm; omega
    | succ N ih2 =>
      intro i T hi hb hu hd hm
      refine jWp.blk mt 2 ?_
      show jWp 159 4 [none, some (jO q), some (jI (i : Int)), none] [jI 4, jI (i : Int)] 0 0 (kA w q T) _
      refine jWp.icmp (pc' := 7) mt rfl rfl (b32_id (by omega) (by omega)) (show b32 4 = 4 by decide) (fun h3 => ?_) (fun h3 => ?_)
      · have h3 : 4 ≤ (i : Int) := h3
        refine jWp.vret mt rfl ⟨rfl, rfl⟩ rfl ?_
        exact ⟨rfl, T, rfl, hb, fun i hi => hu i (by omega), fun i c hi hc => hd i c (by omega) hc⟩
      · have h3 : (i : Int) < 4 := h3
        refine jWp.blk mt 8 ?_
        show _ ∧ _ ∧ jWp 159 17 [none, some (jO q), some (jI (i : Int)), none] [jI (17 + (i : Int)), jO q, jI (21 + (i : Int)), jO q] 0 0 (kA w q T) _
        refine ⟨rfl, rfl, ?_⟩
        refine jWp.lald (pc' := 18) (j := (17 + i)) mt rfl rfl (jtg hq) (by rw [b32_id (by omega) (by omega)] <;> omega) (jlt hq (by omega)) ?_
        rw [show ((kA w q T).1 q (17 + i)) = (w.1 q (17 + i)) from (kA_s.trans (hb _ (by omega)))]
        show jWp 159 18 [none, some (jO q), some (jI (i : Int)), none] [jJ (w.1 q (17 + i)), jI (21 + (i : Int)), jO q] 0 0 (kA w q T) _
        refine jWp.last (pc' := 19) (j := (21 + i)) mt rfl rfl (jtg hq) (by rw [b32_id (by omega) (by omega)] <;> omega) (jlt hq (by omega)) ?_
        rw [show jW (kA w q T) q (21 + i) (w.1 q (17 + i)) = (kA w q (zset T (21 + i) (w.1 q (17 + i)))) from kA_W]
        show jWp 159 19 [none, some (jO q), some (jI (i : Int)), none] [] 0 0 (kA w q (zset T (21 + i) (w.1 q (17 + i)))) _
        refine jWp.blk mt 5 ?_
        show _ ∧ jWp 159 25 [none, some (jO q), some (jI (i : Int)), none] [jJ 1, jI (25 + (i : Int)), jO q] 0 0 (kA w q (zset T (21 + i) (w.1 q (17 + i)))) _
        refine ⟨rfl, ?_⟩
        refine jWp.last (pc' := 26) (j := (25 + i)) mt rfl rfl (jtg hq) (by rw [b32_id (by omega) (by omega)] <;> omega) (jlt hq (by omega)) ?_
        rw [show jW (kA w q (zset T (21 + i) (w.1 q (17 + i)))) q (25 + i) 1 = (kA w q (zset (zset T (21 + i) (w.1 q (17 + i))) (25 + i) 1)) from kA_W]
        show jWp 159 26 [none, some (jO q), some (jI (i : Int)), none] [] 0 0 (kA w q (zset (zset T (21 + i) (w.1 q (17 + i))) (25 + i) 1)) _
        refine jWp.blk mt 2 ?_
        show jWp 159 28 [none, some (jO q), some (jI (i : Int)), some (jI 0)] [] 0 0 (kA w q (zset (zset T (21 + i) (w.1 q (17 + i))) (25 + i) 1)) _
        have lp4 : ∀ (N : Nat) (c : Nat) (T : Nat → Int) (hc : c ≤ 4) (hb : ∀ j, j < 21 → T j = w.1 q j) (hu : ∀ x, x < i + 1 → T (21 + x) = w.1 q (17 + x) ∧ T (25 + x) = 1) (hd : ∀ x c, x < i → c < 4 → T (29 + 4 * x + c) = if x = c then -1 else 0) (he : ∀ x, x < c → T (29 + 4 * i + x) = if i = x then -1 else 0), 4 - c < N → jWp 159 28 [none, some (jO q), some (jI (i : Int)), some (jI (c : Int))] [] 0 0 (kA w q T) (fun v w1 => v = none ∧ ∃ S, w1 = kA w q S ∧ zbg (w.1 q) S) := by
          intro N
          induction N with
          | zero => intro c T hc hb hu hd he hm; omega
          | succ N ih5 =>
            intro c T hc hb hu hd he hm
            have hi4 : i < 4 := by omega
            refine jWp.blk mt 2 ?_
            show jWp 159 30 [none, some (jO q), some (jI (i : Int)), some (jI (c : Int))] [jI 4, jI (c : Int)] 0 0 (kA w q T) _
            refine jWp.icmp (pc' := 33) mt rfl rfl (b32_id (by omega) (by omega)) (show b32 4 = 4 by decide) (fun h6 => ?_) (fun h6 => ?_)
            · have h6 : 4 ≤ (c : Int) := h6
              refine jWp.blk mt 2 ?_
              show jWp 159 2 [none, some (jO q), some (jI ((i : Int) + 1)), some (jI (c : Int))] [] 0 0 (kA w q T) _
              refine jWp.le (l := [none, some (jO q), some (jI ((i : Int) + 1)), none]) (by exact ⟨rfl, rfl, trivial⟩) ?_
              exact ih2 (i + 1) T (by omega) hb hu (fun x c hx hc => by rcases Nat.lt_or_ge x i with h | h; exact hd x c h hc; rw [show x = i by omega]; exact he c (by omega)) (by omega)
            · have h6 : (c : Int) < 4 := h6
              refine jWp.blk mt 10 ?_
              show _ ∧ jWp 159 44 [none, some (jO q), some (jI (i : Int)), some (jI (c : Int))] [jI (c : Int), jI (i : Int), jI ((29 + (4 * (i : Int))) + (c : Int)), jO q] 0 0 (kA w q T) _
              refine ⟨rfl, ?_⟩
              refine jWp.icmp (pc' := 47) mt rfl rfl (b32_id (by omega) (by omega)) (b32_id (by omega) (by omega)) (fun h7 => ?_) (fun h7 => ?_)
              · have h7 : (i : Int) ≠ (c : Int) := h7
                refine jWp.blk mt 1 ?_
                show jWp 159 54 [none, some (jO q), some (jI (i : Int)), some (jI (c : Int))] [jJ 0, jI ((29 + (4 * (i : Int))) + (c : Int)), jO q] 0 0 (kA w q T) _
                refine jWp.last (pc' := 55) (j := (29 + 4 * i + c)) mt rfl rfl (jtg hq) (by rw [b32_id (by omega) (by omega)]; omega) (jlt hq (by omega)) ?_
                rw [show jW (kA w q T) q (29 + 4 * i + c) 0 = (kA w q (zset T (29 + 4 * i + c) 0)) from kA_W]
                show jWp 159 55 [none, some (jO q), some (jI (i : Int)), some (jI (c : Int))] [] 0 0 (kA w q (zset T (29 + 4 * i + c) 0)) _
                refine jWp.blk mt 2 ?_
                show jWp 159 28 [none, some (jO q), some (jI (i : Int)), some (jI ((c : Int) + 1))] [] 0 0 (kA w q (zset T (29 + 4 * i + c) 0)) _
                refine jWp.le (l := [none, some (jO q), some (jI (i : Int)), some (jI ((c : Int) + 1))]) (by exact ⟨rfl, rfl, rfl, trivial⟩) ?_
                exact ih5 (c + 1) _ (by omega) (fun j hj => by rw [zset_n (by omega)]; exact hb j hj) (fun x hx => by rw [zset_n (by omega), zset_n (by omega)]; exact hu x hx) (fun x c hx hc => by rw [zset_n (by omega)]; exact hd x c hx hc) (fun x hx => by rcases Nat.lt_or_ge x c with h | h; rw [zset_n (by omega)]; exact he x h; rw [show x = c by omega, zset_s]; first | rw [if_pos (by omega)] | rw [if_neg (by omega)]) (by omega)
              · have h7 : (i : Int) = (c : Int) := h7
                refine jWp.blk mt 2 ?_
                show jWp 159 54 [none, some (jO q), some (jI (i : Int)), some (jI (c : Int))] [jJ (-1), jI ((29 + (4 * (i : Int))) + (c : Int)), jO q] 0 0 (kA w q T) _
                refine jWp.last (pc' := 55) (j := (29 + 4 * i + c)) mt rfl rfl (jtg hq) (by rw [b32_id (by omega) (by omega)]; omega) (jlt hq (by omega)) ?_
                rw [show jW (kA w q T) q (29 + 4 * i + c) (-1) = (kA w q (zset T (29 + 4 * i + c) (-1))) from kA_W]
                show jWp 159 55 [none, some (jO q), some (jI (i : Int)), some (jI (c : Int))] [] 0 0 (kA w q (zset T (29 + 4 * i + c) (-1))) _
                refine jWp.blk mt 2 ?_
                show jWp 159 28 [none, some (jO q), some (jI (i : Int)), some (jI ((c : Int) + 1))] [] 0 0 (kA w q (zset T (29 + 4 * i + c) (-1))) _
                refine jWp.le (l := [none, some (jO q), some (jI (i : Int)), some (jI ((c : Int) + 1))]) (by exact ⟨rfl, rfl, rfl, trivial⟩) ?_
                exact ih5 (c + 1) _ (by omega) (fun j hj => by rw [zset_n (by omega)]; exact hb j hj) (fun x hx => by rw [zset_n (by omega), zset_n (by omega)]; exact hu x hx) (fun x c hx hc => by rw [zset_n (by omega)]; exact hd x c hx hc) (fun x hx => by rcases Nat.lt_or_ge x c with h | h; rw [zset_n (by omega)]; exact he x h; rw [show x = c by omega, zset_s]; first | rw [if_pos (by omega)] | rw [if_neg (by omega)]) (by omega)
        refine jWp.le (l := [none, some (jO q), some (jI (i : Int)), some (jI 0)]) (by exact ⟨rfl, rfl, rfl, trivial⟩) ?_
        exact lp4 _ 0 _ (by omega) (fun j hj => by rw [zset_n (by omega), zset_n (by omega)]; exact hb j hj) (fun x hx => by rcases Nat.lt_or_ge x i with h | h; rw [zset_n (by omega), zset_n (by omega), zset_n (by omega), zset_n (by omega)]; exact hu x h; rw [show x = i by omega]; exact ⟨by rw [zset_n (by omega), zset_s], zset_s⟩) (fun x c hx hc => by rw [zset_n (by omega), zset_n (by omega)]; exact hd x c hx hc) (fun x hx => absurd hx (by omega)) (Nat.lt_succ_self _)
  refine jWp.le (l := [none, some (jO q), some (jI 0), none]) (by exact ⟨rfl, rfl, trivial⟩) ?_
  have key := lp1 _ 0 (w.1 q) (by omega) (fun j hj => rfl) (fun j hj => absurd hj (by omega)) (fun j c hj => absurd hj (by omega)) (Nat.lt_succ_self _)
  rw [kA_self] at key
  exact key
set_option maxHeartbeats 4000000 in
set_option maxRecDepth 20000 in
theorem E_tells {w : jS} {m q n : Nat} {M0 : Nat × Nat} (hM : w.2.1 m = (10, M0.1)) (hq : w.2.1 q = (101, 45)) (hn : n ≤ 4) : jCall 160 [jO m, jO q, jI (n : Int)] w (fun v w1 => v = none ∧ ∃ S, w1 = kA w q S ∧ S 0 = (n : Int) ∧ (∀ j, j < 16 → S (1 + j) = 0) ∧ (∀ i, i < 4 → S (17 + i) = 1 ∧ S (21 + i) = 1 ∧ S (25 + i) = 1) ∧ (∀ i c, i < 4 → c < 4 → S (29 + 4 * i + c) = if i = c then -1 else 0)) := by
  have mt : jtb 160 = jT160 := rfl
  show jWp 160 0 [some (jO m), some (jO q), some (jI (n : Int)), none] [] 0 0 w _
  refine jWp.blk mt 2 ?_
  show jWp 160 2 [some (jO m), some (jO q), some (jI (n : Int)), some (jI 0)] [] 0 0 w _
  have lp1 : ∀ (N : Nat) (c : Nat) (T : Nat → Int) (hc : c ≤ 45) (hT : ∀ j, j < c → T j = 0), 45 - c < N → jWp 160 2 [some (jO m), some (jO q), some (jI (n : Int)), some (jI (c : Int))] [] 0 0 (kA w q T) (fun v w1 => v = none ∧ ∃ S, w1 = kA w q S ∧ S 0 = (n : Int) ∧ (∀ j, j < 16 → S (1 + j) = 0) ∧ (∀ i, i < 4 → S (17 + i) = 1 ∧ S (21 + i) = 1 ∧ S (25 + i) = 1) ∧ (∀ i c, i < 4 → c < 4 → S (29 + 4 * i + c) = if i = c then -1 else 0)) := by
    intro N
    induction N with
    | zero => intro c T hc hT hm; omega
    | succ N ih2 =>
      intro c T hc hT hm
      refine jWp.blk mt 2 ?_
      show jWp 160 5 [some (jO m), some (jO q), some (jI (n : Int)), some (jI (c : Int))] [jI 45, jI (c : Int)] 0 0 (kA w q T) _
      refine jWp.icmp (pc' := 8) mt rfl rfl (b32_id (by omega) (by omega)) (show b32 45 = 45 by decide) (fun h3 => ?_) (fun h3 => ?_)
      · have h3 : 45 ≤ (c : Int) := h3
        refine jWp.blk mt 3 ?_
        show _ ∧ jWp 160 21 [some (jO m), some (jO q), some (jI (n : Int)), some (jI (c : Int))] [jI (n : Int), jI 0, jO q] 0 0 (kA w q T) _
        refine ⟨rfl, ?_⟩
        refine jWp.i2l (pc' := 22) mt rfl rfl (b32_id (by omega) (by omega)) ?_
        show jWp 160 22 [some (jO m), some (jO q), some (jI (n : Int)), some (jI (c : Int))] [jJ (n : Int), jI 0, jO q] 0 0 (kA w q T) _
        refine jWp.last (pc' := 23) (j := 0) mt rfl rfl (jtg hq) (by decide) (jlt hq (by decide)) ?_
        rw [show jW (kA w q T) q 0 (n : Int) = (kA w q (zset T 0 (n : Int))) from kA_W]
        show jWp 160 23 [some (jO m), some (jO q), some (jI (n : Int)), some (jI (c : Int))] [] 0 0 (kA w q (zset T 0 (n : Int))) _
        refine jWp.blk mt 2 ?_
        show jWp 160 25 [some (jO m), some (jO q), some (jI (n : Int)), some (jI 0)] [] 0 0 (kA w q (zset T 0 (n : Int))) _
        have lp4 : ∀ (N : Nat) (i : Nat) (T : Nat → Int) (hi : i ≤ 4) (h0 : T 0 = (n : Int)) (hz : ∀ j, j < 16 → T (1 + j) = 0) (hu : ∀ x, x < i → T (17 + x) = 1), 4 - i < N → jWp 160 25 [some (jO m), some (jO q), none, some (jI (i : Int))] [] 0 0 (kA w q T) (fun v w1 => v = none ∧ ∃ S, w1 = kA w q S ∧ S 0 = (n : Int) ∧ (∀ j, j < 16 → S (1 + j) = 0) ∧ (∀ i, i < 4 → S (17 + i) = 1 ∧ S (21 + i) = 1 ∧ S (25 + i) = 1) ∧ (∀ i c, i < 4 → c < 4 → S (29 + 4 * i + c) = if i = c then -1 else 0)) := by
          intro N
          induction N with
          | zero => intro i T hi h0 hz hu hm; omega
          | succ N ih5 =>
            intro i T hi h0 hz hu hm
            refine jWp.blk mt 2 ?_
            show jWp 160 27 [some (jO m), some (jO q), none, some (jI (i : Int))] [jI 4, jI (i : Int)] 0 0 (kA w q T) _
            refine jWp.icmp (pc' := 30) mt rfl rfl (b32_id (by omega) (by omega)) (show b32 4 = 4 by decide) (fun h6 => ?_) (fun h6 => ?_)
            · have h6 : 4 ≤ (i : Int) := h6
              refine jWp.blk mt 2 ?_
              show _ ∧ _ ∧ jWp 160 45 [some (jO m), some (jO q), none, some (jI (i : Int))] [jO q, jO m] 0 0 (kA w q T) _
              refine ⟨rfl, rfl, ?_⟩
              refine jWp.callv (as := [jO m, jO q]) (rest := []) mt rfl rfl rfl ⟨rfl, jtg hM⟩ ?_
              refine jCall.mono (E_begun (w := (kA w q T)) hq) (fun v9 w9 h9 => ?_)
              obtain ⟨rfl, S9, h9, hS9⟩ := h9
              subst h9
              rw [show kA (kA w q T) q S9 = kA w q S9 from kA_A]
              have hS9 : zbg T S9 := by have e : (kA w q T).1 q = T := funext fun _ => kA_s; rw [e] at hS9; exact hS9
              show jWp 160 48 [some (jO m), some (jO q), none, some (jI (i : Int))] [] 0 0 (kA w q S9) _
              refine jWp.vret mt rfl ⟨rfl, rfl⟩ rfl ?_
              refine ⟨rfl, S9, rfl, (hS9.1 0 (by decide)).trans h0, fun j hj => (hS9.1 (1 + j) (by omega)).trans (hz j hj), fun i hi => ⟨(hS9.1 (17 + i) (by omega)).trans (hu i (by omega)), (hS9.2.1 i hi).1.trans (hu i (by omega)), (hS9.2.1 i hi).2⟩, hS9.2.2⟩
            · have h6 : (i : Int) < 4 := h6
              refine jWp.blk mt 5 ?_
              show _ ∧ jWp 160 36 [some (jO m), some (jO q), none, some (jI (i : Int))] [jJ 1, jI (17 + (i : Int)), jO q] 0 0 (kA w q T) _
              refine ⟨rfl, ?_⟩
              refine jWp.last (pc' := 37) (j := (17 + i)) mt rfl rfl (jtg hq) (by rw [b32_id (by omega) (by omega)] <;> omega) (jlt hq (by omega)) ?_
              rw [show jW (kA w q T) q (17 + i) 1 = (kA w q (zset T (17 + i) 1)) from kA_W]
              show jWp 160 37 [some (jO m), some (jO q), none, some (jI (i : Int))] [] 0 0 (kA w q (zset T (17 + i) 1)) _
              refine jWp.blk mt 2 ?_
              show jWp 160 25 [some (jO m), some (jO q), none, some (jI ((i : Int) + 1))] [] 0 0 (kA w q (zset T (17 + i) 1)) _
              refine jWp.le (l := [some (jO m), some (jO q), none, some (jI ((i : Int) + 1))]) (by exact ⟨rfl, rfl, rfl, trivial⟩) ?_
              exact ih5 (i + 1) _ (by omega) (by rw [zset_n (by omega)]; exact h0) (fun j hj => by rw [zset_n (by omega)]; exact hz j hj) (fun x hx => by rcases Nat.lt_or_ge x i with h | h; rw [zset_n (by omega)]; exact hu x h; rw [show x = i by omega, zset_s]) (by omega)
        refine jWp.le (l := [some (jO m), some (jO q), none, some (jI 0)]) (by exact ⟨rfl, rfl, rfl, trivial⟩) ?_
        exact lp4 _ 0 _ (by omega) zset_s (fun j hj => by rw [zset_n (by omega)]; exact hT _ (by omega)) (fun x hx => absurd hx (by omega)) (Nat.lt_succ_self _)
      · have h3 : (c : Int) < 45 := h3
        refine jWp.blk mt 3 ?_
        show _ ∧ jWp 160 11 [some (jO m), some (jO q), some (jI (n : Int)), some (jI (c : Int))] [jJ 0, jI (c : Int), jO q] 0 0 (kA w q T) _
        refine ⟨rfl, ?_⟩
        refine jWp.last (pc' := 12) (j := c) mt rfl rfl (jtg hq) (by rw [b32_id (by omega) (by omega)] <;> omega) (jlt hq (by omega)) ?_
        rw [show jW (kA w q T) q c 0 = (kA w q (zset T c 0)) from kA_W]
        show jWp 160 12 [some (jO m), some (jO q), some (jI (n : Int)), some (jI (c : Int))] [] 0 0 (kA w q (zset T c 0)) _
        refine jWp.blk mt 2 ?_
        show jWp 160 2 [some (jO m), some (jO q), some (jI (n : Int)), some (jI ((c : Int) + 1))] [] 0 0 (kA w q (zset T c 0)) _
        refine jWp.le (l := [some (jO m), some (jO q), some (jI (n : Int)), some (jI ((c : Int) + 1))]) (by exact ⟨rfl, rfl, rfl, rfl, trivial⟩) ?_
        exact ih2 (c + 1) _ (by omega) (fun j hj => by rcases Nat.lt_or_ge j c with h | h; rw [zset_n (by omega)]; exact hT j h; rw [show j = c by omega, zset_s]) (by omega)
  refine jWp.le (l := [some (jO m), some (jO q), some (jI (n : Int)), some (jI 0)]) (by exact ⟨rfl, rfl, rfl, rfl, trivial⟩) ?_
  have key := lp1 _ 0 (w.1 q) (by omega) (fun j hj => absurd hj (by omega)) (Nat.lt_succ_self _)
  rw [kA_self] at key
  exact key
set_option maxHeartbeats 4000000 in
set_option maxRecDepth 20000 in
theorem E_isIn {w : jS} {q n : Nat} {i : Int} (hq : w.2.1 q = (101, 45)) (hR : w.1 q 0 = (n : Int)) (hn : n ≤ 4) (hi : r32 i) : jCall 164 [jO q, jI i] w (jvb (0 ≤ i ∧ i < (n : Int)) w) := by
  have mt : jtb 164 = jT164 := rfl
  have hi1 : -2147483648 ≤ i ∧ i < 2147483648 := hi
  show jWp 164 0 [some (jO q), some (jI i)] [] 0 0 w _
  refine jWp.blk mt 1 ?_
  show jWp 164 1 [some (jO q), some (jI i)] [jI i] 0 0 w _
  refine jWp.i2l (pc' := 2) mt rfl rfl (b32_id (by omega) (by omega)) ?_
  show jWp 164 2 [some (jO q), some (jI i)] [jJ i] 0 0 w _
  refine jWp.blk mt 3 ?_
  show _ ∧ jWp 164 5 [some (jO q), some (jI i)] [jI 0, jO q, jJ 0, jJ i] 0 0 w _
  refine ⟨rfl, ?_⟩
  refine jWp.lald (pc' := 6) (j := 0) mt rfl rfl (jtg hq) (by decide) (jlt hq (by decide)) ?_
  rw [show (w.1 q 0) = (n : Int) from hR]
  show jWp 164 6 [some (jO q), some (jI i)] [jJ (n : Int), jJ 0, jJ i] 0 0 w _
  refine jWp.blk mt 3 ?_
  show jWp 164 9 [some (jO q), some (jI i)] [jI ((n : Int) - 1), jJ 0, jJ i] 0 0 w _
  refine jWp.i2l (pc' := 10) mt rfl rfl (b32_id (by omega) (by omega)) ?_
  show jWp 164 10 [some (jO q), some (jI i)] [jJ ((n : Int) - 1), jJ 0, jJ i] 0 0 w _
  refine jWp.calls (as := [jJ i, jJ 0, jJ ((n : Int) - 1)]) (rest := []) mt rfl rfl rfl rfl ?_
  refine jCall.mono (E_in (b64_id (by omega) (by omega)) (show b64 0 = 0 by decide) (b64_id (by omega) (by omega))) (fun v9 w9 h9 => ?_)
  rcases h9 with ⟨rfl, h9, h1⟩ | ⟨rfl, h9, h1⟩ <;> subst w9
  · have h1 : 0 ≤ i ∧ i ≤ ((n : Int) - 1) := h1
    show jWp 164 13 [some (jO q), some (jI i)] [jI 1] 0 0 w _
    refine jWp.iretz mt rfl ⟨rfl, rfl⟩ rfl (Or.inr rfl) ?_
    exact Or.inl ⟨rfl, rfl, by omega⟩
  · have h1 : ¬ (0 ≤ i ∧ i ≤ ((n : Int) - 1)) := h1
    show jWp 164 13 [some (jO q), some (jI i)] [jI 0] 0 0 w _
    refine jWp.iretz mt rfl ⟨rfl, rfl⟩ rfl (Or.inl rfl) ?_
    exact Or.inr ⟨rfl, rfl, by omega⟩
set_option maxHeartbeats 4000000 in
set_option maxRecDepth 20000 in
theorem E_puts {w : jS} {m q i j L : Nat} {v : Int} (hM : w.2.1 m = (10, L)) (hq : w.2.1 q = (101, 45)) (hi : i < 4) (hj : j < 4) (hv : -9 ≤ v ∧ v ≤ 9) : jCall 167 [jO m, jO q, jI (i : Int), jI (j : Int), jI v] w (fun x w1 => x = none ∧ ∃ S, w1 = kA w q S ∧ zbg (zset (zset (w.1 q) (1 + (4 * i + j)) v) (1 + (4 * j + i)) (-v)) S) := by
  have mt : jtb 167 = jT167 := rfl
  show jWp 167 0 [some (jO m), some (jO q), some (jI (i : Int)), some (jI (j : Int)), some (jI v)] [] 0 0 w _
  refine jWp.blk mt 9 ?_
  show _ ∧ jWp 167 10 [some (jO m), some (jO q), some (jI (i : Int)), some (jI (j : Int)), some (jI v)] [jI v, jI ((1 + (4 * (i : Int))) + (j : Int)), jO q] 0 0 w _
  refine ⟨rfl, ?_⟩
  refine jWp.i2l (pc' := 11) mt rfl rfl (b32_id (by omega) (by omega)) ?_
  show jWp 167 11 [some (jO m), some (jO q), some (jI (i : Int)), some (jI (j : Int)), some (jI v)] [jJ v, jI ((1 + (4 * (i : Int))) + (j : Int)), jO q] 0 0 w _
  refine jWp.last (pc' := 12) (j := (1 + (4 * i + j))) mt rfl rfl (jtg hq) (by rw [b32_id (by omega) (by omega)]; omega) (jlt hq (by omega)) ?_
  rw [show jW w q (1 + (4 * i + j)) v = (kA w q (zset (w.1 q) (1 + (4 * i + j)) v)) from kA_W0]
  show jWp 167 12 [some (jO m), some (jO q), some (jI (i : Int)), some (jI (j : Int)), some (jI v)] [] 0 0 (kA w q (zset (w.1 q) (1 + (4 * i + j)) v)) _
  refine jWp.blk mt 10 ?_
  show _ ∧ jWp 167 23 [some (jO m), some (jO q), some (jI (i : Int)), some (jI (j : Int)), some (jI v)] [jI (-v), jI ((1 + (4 * (j : Int))) + (i : Int)), jO q] 0 0 (kA w q (zset (w.1 q) (1 + (4 * i + j)) v)) _
  refine ⟨rfl, ?_⟩
  refine jWp.i2l (pc' := 24) mt rfl rfl (b32_id (by omega) (by omega)) ?_
  show jWp 167 24 [some (jO m), some (jO q), some (jI (i : Int)), some (jI (j : Int)), some (jI v)] [jJ (-v), jI ((1 + (4 * (j : Int))) + (i : Int)), jO q] 0 0 (kA w q (zset (w.1 q) (1 + (4 * i + j)) v)) _
  refine jWp.last (pc' := 25) (j := (1 + (4 * j + i))) mt rfl rfl (jtg hq) (by rw [b32_id (by omega) (by omega)]; omega) (jlt hq (by omega)) ?_
  rw [show jW (kA w q (zset (w.1 q) (1 + (4 * i + j)) v)) q (1 + (4 * j + i)) (-v) = (kA w q (zset (zset (w.1 q) (1 + (4 * i + j)) v) (1 + (4 * j + i)) (-v))) from kA_W]
  show jWp 167 25 [some (jO m), some (jO q), some (jI (i : Int)), some (jI (j : Int)), some (jI v)] [] 0 0 (kA w q (zset (zset (w.1 q) (1 + (4 * i + j)) v) (1 + (4 * j + i)) (-v))) _
  refine jWp.blk mt 2 ?_
  show _ ∧ _ ∧ jWp 167 27 [some (jO m), some (jO q), some (jI (i : Int)), some (jI (j : Int)), some (jI v)] [jO q, jO m] 0 0 (kA w q (zset (zset (w.1 q) (1 + (4 * i + j)) v) (1 + (4 * j + i)) (-v))) _
  refine ⟨rfl, rfl, ?_⟩
  refine jWp.callv (as := [jO m, jO q]) (rest := []) mt rfl rfl rfl ⟨rfl, jtg hM⟩ ?_
  refine jCall.mono (E_begun (w := (kA w q (zset (zset (w.1 q) (1 + (4 * i + j)) v) (1 + (4 * j + i)) (-v)))) hq) (fun v9 w9 h9 => ?_)
  obtain ⟨rfl, S9, h9, hS9⟩ := h9
  subst h9
  rw [show kA (kA w q (zset (zset (w.1 q) (1 + (4 * i + j)) v) (1 + (4 * j + i)) (-v))) q S9 = kA w q S9 from kA_A]
  have hS9 : zbg (zset (zset (w.1 q) (1 + (4 * i + j)) v) (1 + (4 * j + i)) (-v)) S9 := by have e : (kA w q (zset (zset (w.1 q) (1 + (4 * i + j)) v) (1 + (4 * j + i)) (-v))).1 q = (zset (zset (w.1 q) (1 + (4 * i + j)) v) (1 + (4 * j + i)) (-v)) := funext fun _ => kA_s; rw [e] at hS9; exact hS9
  show jWp 167 30 [some (jO m), some (jO q), some (jI (i : Int)), some (jI (j : Int)), some (jI v)] [] 0 0 (kA w q S9) _
  refine jWp.vret mt rfl ⟨rfl, rfl⟩ rfl ?_
  exact ⟨rfl, S9, rfl, hS9⟩
set_option maxHeartbeats 4000000 in
set_option maxRecDepth 20000 in
theorem E_changes {w : jS} {q x y : Nat} (hq : w.2.1 q = (101, 45)) (hx : x < 45) (hy : y < 45) : jCall 203 [jO q, jI (x : Int), jI (y : Int)] w (fun v w1 => v = none ∧ w1 = kA w q (zset (zset (w.1 q) x (w.1 q y)) y (w.1 q x))) := by
  have mt : jtb 203 = jT203 := rfl
  show jWp 203 0 [some (jO q), some (jI (x : Int)), some (jI (y : Int)), none, none] [] 0 0 w _
  refine jWp.blk mt 2 ?_
  show _ ∧ jWp 203 2 [some (jO q), some (jI (x : Int)), some (jI (y : Int)), none, none] [jI (x : Int), jO q] 0 0 w _
  refine ⟨rfl, ?_⟩
  refine jWp.lald (pc' := 3) (j := x) mt rfl rfl (jtg hq) (by rw [b32_id (by omega) (by omega)] <;> omega) (jlt hq (by omega)) ?_
  show jWp 203 3 [some (jO q), some (jI (x : Int)), some (jI (y : Int)), none, none] [jJ (w.1 q x)] 0 0 w _
  refine jWp.blk mt 5 ?_
  show _ ∧ _ ∧ jWp 203 8 [some (jO q), some (jI (x : Int)), some (jI (y : Int)), some (jJ (w.1 q x)), none] [jI (y : Int), jO q, jI (x : Int), jO q] 0 0 w _
  refine ⟨rfl, rfl, ?_⟩
  refine jWp.lald (pc' := 9) (j := y) mt rfl rfl (jtg hq) (by rw [b32_id (by omega) (by omega)] <;> omega) (jlt hq (by omega)) ?_
  show jWp 203 9 [some (jO q), some (jI (x : Int)), some (jI (y : Int)), some (jJ (w.1 q x)), none] [jJ (w.1 q y), jI (x : Int), jO q] 0 0 w _
  refine jWp.last (pc' := 10) (j := x) mt rfl rfl (jtg hq) (by rw [b32_id (by omega) (by omega)] <;> omega) (jlt hq (by omega)) ?_
  rw [show jW w q x (w.1 q y) = (kA w q (zset (w.1 q) x (w.1 q y))) from kA_W0]
  show jWp 203 10 [some (jO q), some (jI (x : Int)), some (jI (y : Int)), some (jJ (w.1 q x)), none] [] 0 0 (kA w q (zset (w.1 q) x (w.1 q y))) _
  refine jWp.blk mt 3 ?_
  show _ ∧ jWp 203 13 [some (jO q), some (jI (x : Int)), some (jI (y : Int)), some (jJ (w.1 q x)), none] [jJ (w.1 q x), jI (y : Int), jO q] 0 0 (kA w q (zset (w.1 q) x (w.1 q y))) _
  refine ⟨rfl, ?_⟩
  refine jWp.last (pc' := 14) (j := y) mt rfl rfl (jtg hq) (by rw [b32_id (by omega) (by omega)] <;> omega) (jlt hq (by omega)) ?_
  rw [show jW (kA w q (zset (w.1 q) x (w.1 q y))) q y (w.1 q x) = (kA w q (zset (zset (w.1 q) x (w.1 q y)) y (w.1 q x))) from kA_W]
  show jWp 203 14 [some (jO q), some (jI (x : Int)), some (jI (y : Int)), some (jJ (w.1 q x)), none] [] 0 0 (kA w q (zset (zset (w.1 q) x (w.1 q y)) y (w.1 q x))) _
  refine jWp.vret mt rfl ⟨rfl, rfl⟩ rfl ?_
  exact ⟨rfl, rfl⟩
end
