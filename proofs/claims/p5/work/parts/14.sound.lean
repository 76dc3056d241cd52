theorem jtb_big {k : Nat} (h : 221 ≤ k) : jtb k = [] := by
  have : Nat.blt k 221 = false := by
    rw [Bool.eq_false_iff]
    intro q
    have := Nat.blt_eq.mp q
    omega
  unfold jtb
  rw [this]
  rfl
theorem jrun_big {n k pc c sl : Nat} {l : jF} {st : List jV} {w : jS} {x} (h : jrun n k pc l st c sl w = some x) : k < 221 := by
  rcases Nat.lt_or_ge k 221 with q | q
  · exact q
  · exfalso
    cases n with
    | zero => cases h
    | succ n =>
      unfold jrun at h
      rw [jtb_big q] at h
      cases h
theorem jmt {below : List Frame} {Qc : Array Value → State → Outcome → State → Prop} {a : Array Value} {s : State} {mc ms mc' ms' : Nat} {free : Addr → Prop} (h1 : mc = mc') (h2 : ms = ms') : MQ below Qc a s mc ms free = MQ below Qc a s mc' ms' free := by rw [h1, h2]
theorem jret1 {k : Nat} (h : jrc k = 1) : jret k = some .int := by unfold jret; rw [h]; rfl
theorem jret2 {k : Nat} (h : jrc k = 2) : jret k = some .boolean := by unfold jret; rw [h]; rfl
theorem jret3 {k : Nat} (h : jrc k = 3) : jret k = some .long := by unfold jret; rw [h]; rfl
theorem jret0 {k : Nat} (h : jrc k = 0) : jret k = none := by unfold jret; rw [h]; rfl
theorem j_bool {x : Int} (h : b32 x = 0 ∨ b32 x = 1) : narrow .boolean (.int (Int32.ofInt x)) = .int (Int32.ofInt x) := by
  have h01 : Int32.ofInt x = 0 ∨ Int32.ofInt x = 1 := by
    rcases h with e | e
    · exact Or.inl ((j32_nz x).mpr e)
    · exact Or.inr (by rw [show (1 : Int32) = Int32.ofInt 1 from rfl, j32_eq, e]; decide)
  rcases h01 with e | e <;> rw [e] <;> decide
theorem jsound (l : Launch) (D : va_G) (cA : Nat → ClassId) (z0 ao : Nat) : ∀ n, jSnd l D cA z0 ao n
  | 0 => by
    intro k pc lc st cells slots w v w' hk h
    cases h
  | n + 1 => by
    intro k pc lc st cells slots w v w' hk h p ev R s m args below meth c H locs ls hC hG hS hz hcs hls
    have IH := jsound l D cA z0 ao n
    unfold jrun at h
    cases hf : jfind (jtb k) pc with
    | none => rw [hf] at h; cases h
    | some e =>
      rw [hf] at h
      obtain ⟨hmem, rfl⟩ := jfind_ok hf
      have hwf := jwf_at hk hmem
      cases hs : jstep e lc st w with
      | some q =>
        obtain ⟨g, pc', l', st', w2⟩ := q
        simp only [hs] at h
        by_cases hg : g
        · rw [if_pos hg] at h
          exact jstep_ok hC hG hS hz hcs hls hwf hs hg (fun H1 locs1 ls1 hG1 hS1 hz1 hl1 => IH k pc' l' st' cells slots w2 v w' hk h hC hG1 hS1 (hz1.trans hz) hcs hl1)
        · rw [if_neg hg] at h
          cases h
      | none =>
        simp only [hs] at h
        cases hc : jctl k e st cells slots w with
        | none => rw [hc] at h; cases h
        | some q =>
          obtain ⟨g, x⟩ := q
          simp only [hc] at h
          by_cases hg : g
          · rw [if_pos hg] at h
            have hC0 := hC
            obtain ⟨hx, hb, hml, hrt, hlocks, hown, -, hts, rfl, hK, -⟩ := hC
            obtain ⟨pc, ins, len, r1, r2, r3, z⟩ := e
            have hwf0 := hwf
            have fin : ∀ (v : Option jV) (t : State), t.heap = H → s.WarmedH t.vm → cells = jmc k → jQ D cA z0 ao v w (jmc k) args s (.returned (v.map jg)) t := fun v t ht hW hc => ⟨rfl, by rw [ht]; exact hG, jK.moved hW ht hS.2.1 hK, hS.F ht, by rw [ht, hz, hc]⟩
            cases ins <;> (try (simp only [jctl] at hc; cases hc; done))
            case ifCond cd off =>
              simp only [jwf, jlen, Bool.and_eq_true, decide_eq_true_eq, Nat.beq_eq] at hwf
              obtain ⟨⟨hd, rfl⟩, ht⟩ := hwf
              simp only [jctl] at hc
              rcases st with _ | ⟨x | x | r, st⟩ <;> (try (simp only at hc; cases hc; done))
              simp only [Option.some.injEq, Prod.mk.injEq] at hc
              obtain ⟨-, rfl⟩ := hc
              exact j_if hx hb hd ht (IH k _ lc st cells slots w v w' hk h hC0 hG hS hz hcs hls)
            case if_icmp cd off =>
              simp only [jwf, jlen, Bool.and_eq_true, decide_eq_true_eq, Nat.beq_eq] at hwf
              obtain ⟨⟨hd, rfl⟩, ht⟩ := hwf
              simp only [jctl] at hc
              rcases st with _ | ⟨y | y | r, _ | ⟨x | x | r, st⟩⟩ <;> (try (simp only at hc; cases hc; done))
              simp only [Option.some.injEq, Prod.mk.injEq] at hc
              obtain ⟨-, rfl⟩ := hc
              exact j_icmp hx hb hd ht (IH k _ lc st cells slots w v w' hk h hC0 hG hS hz hcs hls)
            case tableswitch d lo hi offs =>
              simp only [jctl] at hc
              rcases st with _ | ⟨x | x | r, st⟩ <;> (try (simp only at hc; cases hc; done))
              simp only [Option.some.injEq, Prod.mk.injEq] at hc
              obtain ⟨-, rfl⟩ := hc
              exact j_tsw hC0 hwf0 (IH k _ lc st cells slots w v w' hk h hC0 hG hS hz hcs hls)
            case lookupswitch d ps =>
              simp only [jctl] at hc
              rcases st with _ | ⟨x | x | r, st⟩ <;> (try (simp only at hc; cases hc; done))
              simp only [Option.some.injEq, Prod.mk.injEq] at hc
              obtain ⟨-, rfl⟩ := hc
              exact j_lsw hC0 hwf0 (IH k _ lc st cells slots w v w' hk h hC0 hG hS hz hcs hls)
            case ireturn =>
              simp only [jwf, jlen, Bool.and_eq_true, decide_eq_true_eq, Nat.beq_eq] at hwf
              obtain ⟨⟨hd, rfl⟩, -⟩ := hwf
              simp only [jctl] at hc
              rcases st with _ | ⟨x | x | r, _ | ⟨y, st⟩⟩ <;> (try (simp only at hc; cases hc; done))
              simp only [Option.some.injEq, Prod.mk.injEq] at hc
              obtain ⟨rfl, rfl⟩ := hc
              simp only [Option.some.injEq, Prod.mk.injEq] at h
              obtain ⟨rfl, rfl⟩ := h
              obtain ⟨⟨hc1, hs1⟩, hr⟩ := hg
              rw [jmt (mc := jmc k) (ms := jms k) (mc' := cells) (ms' := slots) hc1.symm hs1.symm]
              rcases hr with hr | ⟨hr, h01⟩
              · exact W.iret hx hb (hrt.trans (jret1 hr)) (fun t ht hW => fin _ t ht hW hc1) hS.2.2 hd
              · exact W.zret hx hb (hrt.trans (jret2 hr)) (j_bool h01) (fun t ht hW => fin _ t ht hW hc1) hS.2.2 hd
            case lreturn =>
              simp only [jwf, jlen, Bool.and_eq_true, decide_eq_true_eq, Nat.beq_eq] at hwf
              obtain ⟨⟨hd, rfl⟩, -⟩ := hwf
              simp only [jctl] at hc
              rcases st with _ | ⟨x | x | r, _ | ⟨y, st⟩⟩ <;> (try (simp only at hc; cases hc; done))
              simp only [Option.some.injEq, Prod.mk.injEq] at hc
              obtain ⟨rfl, rfl⟩ := hc
              simp only [Option.some.injEq, Prod.mk.injEq] at h
              obtain ⟨rfl, rfl⟩ := h
              obtain ⟨⟨hc1, hs1⟩, hr⟩ := hg
              rw [jmt (mc := jmc k) (ms := jms k) (mc' := cells) (ms' := slots) hc1.symm hs1.symm]
              exact W.lret hx hb (hrt.trans (jret3 hr)) (fun t ht hW => fin _ t ht hW hc1) hS.2.2 hd
            case return_ =>
              simp only [jwf, jlen, Bool.and_eq_true, decide_eq_true_eq, Nat.beq_eq] at hwf
              obtain ⟨⟨hd, rfl⟩, -⟩ := hwf
              simp only [jctl] at hc
              rcases st with _ | ⟨y, st⟩ <;> (try (simp only at hc; cases hc; done))
              simp only [Option.some.injEq, Prod.mk.injEq] at hc
              obtain ⟨rfl, rfl⟩ := hc
              simp only [Option.some.injEq, Prod.mk.injEq] at h
              obtain ⟨rfl, rfl⟩ := h
              obtain ⟨⟨hc1, hs1⟩, hr⟩ := hg
              rw [jmt (mc := jmc k) (ms := jms k) (mc' := cells) (ms' := slots) hc1.symm hs1.symm]
              exact W.vret hx hb (hrt.trans (jret0 hr)) (fun t ht hW => fin _ t ht hW hc1) hS.2.2 hd
            case invokevirtual i =>
              simp only [jwf, jlen, Bool.and_eq_true, decide_eq_true_eq, Nat.beq_eq, Bool.or_eq_true] at hwf
              obtain ⟨⟨hd, rfl⟩, hlk, hw⟩ := hwf
              simp only [jctl, jinv, cond_true] at hc
              cases htk : jtake (r2 + 1) [] st with
              | none => rw [htk] at hc; cases hc
              | some q =>
                obtain ⟨as, rest⟩ := q
                simp only [htk, Option.some.injEq, Prod.mk.injEq] at hc
                obtain ⟨rfl, rfl⟩ := hc
                obtain ⟨⟨g1, g2⟩, g3, g4, g5⟩ := hg
                dsimp only at h
                cases hr : jrun n r1 0 (jent (jmaxL r1) as) [] 0 0 w with
                | none => rw [hr] at h; cases h
                | some q =>
                  obtain ⟨v1, w1⟩ := q
                  simp only [hr] at h
                  have hk' : r1 < 221 := by simp only [jwcall, Bool.and_eq_true, Nat.blt_eq] at hw; exact hw.1.1.1.1
                  exact j_virt hC0 hG hS hz hls.1 hd hlk hw htk g1 g2 g4 (g5 trivial) (jmet IH hk' hr g3) (fun H1 locs1 hG1 hS1 hz1 => IH k _ lc _ _ _ w1 v w' hk h hC0 hG1 hS1 hz1 ⟨g1, g2⟩ hls)
            case invokespecial i =>
              simp only [jwf, jlen, Bool.and_eq_true, decide_eq_true_eq, Nat.beq_eq, Bool.or_eq_true, Nat.blt_eq] at hwf
              obtain ⟨⟨hd, rfl⟩, hlw⟩ := hwf
              simp only [jctl, jinv, cond_true] at hc
              cases htk : jtake (r2 + 1) [] st with
              | none => rw [htk] at hc; cases hc
              | some q =>
                obtain ⟨as, rest⟩ := q
                simp only [htk, Option.some.injEq, Prod.mk.injEq] at hc
                obtain ⟨rfl, rfl⟩ := hc
                obtain ⟨⟨g1, g2⟩, g3, g4, g5⟩ := hg
                dsimp only at h
                cases hr : jrun n r1 0 (jent (jmaxL r1) as) [] 0 0 w with
                | none => rw [hr] at h; cases h
                | some q =>
                  obtain ⟨v1, w1⟩ := q
                  simp only [hr] at h
                  rcases hlw with ⟨⟨-, hlk⟩, hw⟩ | ⟨rfl, -⟩
                  · have hk' : r1 < 221 := by simp only [jwcall, Bool.and_eq_true, Nat.blt_eq] at hw; exact hw.1.1.1.1
                    exact j_spec hC0 hG hS hz hls.1 hd hlk hw htk g1 g2 g4 (g5 trivial) (jmet IH hk' hr g3) (fun H1 locs1 hG1 hS1 hz1 => IH k _ lc _ _ _ w1 v w' hk h hC0 hG1 hS1 hz1 ⟨g1, g2⟩ hls)
                  · exact absurd (jrun_big hr) (by decide)
            case invokestatic i =>
              simp only [jwf, jlen, Bool.and_eq_true, decide_eq_true_eq, Nat.beq_eq, Bool.or_eq_true, Nat.blt_eq] at hwf
              obtain ⟨⟨hd, rfl⟩, hlw⟩ := hwf
              simp only [jctl, jinv, cond_false] at hc
              cases htk : jtake r2 [] st with
              | none => rw [htk] at hc; cases hc
              | some q =>
                obtain ⟨as, rest⟩ := q
                simp only [htk, Option.some.injEq, Prod.mk.injEq] at hc
                obtain ⟨rfl, rfl⟩ := hc
                obtain ⟨⟨g1, g2⟩, g3, g4, g5⟩ := hg
                dsimp only at h
                cases hr : jrun n r1 0 (jent (jmaxL r1) as) [] 0 0 w with
                | none => rw [hr] at h; cases h
                | some q =>
                  obtain ⟨v1, w1⟩ := q
                  simp only [hr] at h
                  rcases hlw with ⟨⟨-, hlk⟩, hw⟩ | ⟨hbig, -⟩
                  · have hk' : r1 < 221 := by simp only [jwcall, Bool.and_eq_true, Nat.blt_eq] at hw; exact hw.1.1.1.1
                    exact j_stat hC0 hG hS hz hls.1 hd hlk hw htk g1 g2 g4 (jmet IH hk' hr g3) (fun H1 locs1 hG1 hS1 hz1 => IH k _ lc _ _ _ w1 v w' hk h hC0 hG1 hS1 hz1 ⟨g1, g2⟩ hls)
                  · exact absurd (jrun_big hr) (by omega)
            case new i =>
              simp only [jctl, Option.some.injEq, Prod.mk.injEq] at hc
              obtain ⟨rfl, rfl⟩ := hc
              obtain ⟨g1, g2⟩ := hg
              exact j_new hC0 hG hS hz hwf0 g1 g2 (fun H1 hG1 hS1 hz1 => IH k _ lc _ _ _ _ v w' hk h hC0 hG1 hS1 hz1 ⟨g1, g2⟩ hls)
            case newarray t =>
              simp only [jctl] at hc
              rcases st with _ | ⟨x | x | r, st⟩ <;> (try (simp only at hc; cases hc; done))
              simp only [Option.some.injEq, Prod.mk.injEq] at hc
              obtain ⟨rfl, rfl⟩ := hc
              obtain ⟨g0, g1, g2⟩ := hg
              exact j_newa hC0 hG hS hz hwf0 g0 g1 g2 (fun H1 hG1 hS1 hz1 => IH k _ lc _ _ _ _ v w' hk h hC0 hG1 hS1 hz1 ⟨g1, g2⟩ hls)
            case anewarray i =>
              simp only [jctl] at hc
              rcases st with _ | ⟨x | x | r, st⟩ <;> (try (simp only at hc; cases hc; done))
              simp only [Option.some.injEq, Prod.mk.injEq] at hc
              obtain ⟨rfl, rfl⟩ := hc
              obtain ⟨g0, g1, g2⟩ := hg
              exact j_newq hC0 hG hS hz hwf0 g0 g1 g2 (fun H1 hG1 hS1 hz1 => IH k _ lc _ _ _ _ v w' hk h hC0 hG1 hS1 hz1 ⟨g1, g2⟩ hls)
            case multianewarray i d =>
              simp only [jctl] at hc
              rcases st with _ | ⟨y | y | r, _ | ⟨x | x | r, st⟩⟩ <;> (try (simp only at hc; cases hc; done))
              simp only [Option.some.injEq, Prod.mk.injEq] at hc
              obtain ⟨rfl, rfl⟩ := hc
              obtain ⟨g0, g1, g2⟩ := hg
              exact j_mna hC0 hG hS hz hwf0 g0 g1 g2 (fun H1 hG1 hS1 hz1 => IH k _ lc _ _ _ _ v w' hk h hC0 hG1 hS1 hz1 ⟨by omega, by omega⟩ hls)
          · rw [if_neg hg] at h
            cases h
