theorem zw1_b {τ : Nat → Int} {F : Nat} : ∀ f p k, p ≤ F → -1 - ((F + 5 : Nat) : Int) ≤ zw1 τ F f p k ∧ zw1 τ F f p k ≤ ((k + f : Nat) : Int)
  | 0, p, k, _ => ⟨by show _ ≤ (k : Int); omega, by show (k : Int) ≤ _; omega⟩
  | f + 1, p, k, hp => by
    have h1 := zbh_p (τ := τ) (F := F) (p := p)
    rcases Int.lt_or_le (zbh τ F p) 0 with c | c
    · rw [zw1_n c]
      omega
    · obtain ⟨b, hb⟩ : ∃ b : Nat, zbh τ F p = (b : Int) := ⟨_, (Int.toNat_of_nonneg c).symm⟩
      rcases Nat.lt_or_ge b F with g | g
      · rw [zw1_g hb g]
        have := zw1_b (τ := τ) (F := F) f b (k + 1) (by omega)
        omega
      · rw [zw1_e hb g]
        omega
theorem zw2_b {τ : Nat → Int} {F : Nat} : ∀ (f p : Nat) (q : Nat → Int) (b : Nat), zw2 τ F f p q = .inr b → b < F
  | 0, p, q, b, h => by
    have h : (Sum.inl q : (Nat → Int) ⊕ Nat) = .inr b := h
    cases h
  | f + 1, p, q, b, h => by
    by_cases c : F ≤ p
    · rw [zw2_e c] at h
      cases h
    · rcases Int.lt_or_le (zbh τ F p) 0 with g | g
      · rw [zw2_n c g] at h
        cases h
        omega
      · cases d : zdo (zlt τ F p) (zfg (zlt τ F (p + 1))) (zfg (zlt τ F (p + 2))) (znm τ F (p + 3)) q with
        | none =>
          rw [zw2_f c (by omega) d] at h
          cases h
          omega
        | some q' =>
          rw [zw2_g c (Int.toNat_of_nonneg g).symm d] at h
          exact zw2_b f _ _ _ h
set_option maxHeartbeats 4000000 in
set_option maxRecDepth 20000 in
theorem C_walk {w : jS} {x : Nat} (hX : CW w.2 x) {n : Nat} {q : Nat → Int} {g : Prop} (hQ : zQ q n) (hn0 : w.1 (x + 3) 0 = (n : Int)) (hRR : cR g (w.1 (x + 4)) q n) {u : Nat} (hu : w.1 (x + 341) 0 = (u : Int)) (hu8 : u ≤ 8) {F : Nat} {τ : Nat → Int} (hF : w.1 (x + 339) 0 = (F : Int)) (hF72 : F ≤ 72) (hτ : w.1 (x + 340) = τ) (hL : ∀ j, j < F → 0 ≤ τ j ∧ τ j ≤ 255) : jCall 108 [jO x] w (fun v w1 => ((zw1 τ F 73 0 0) < 0 → v = some (jI (-999 + (zw1 τ F 73 0 0))) ∧ ∃ w2, cq w x w2 ∧ w1 = jW w2 (x + 339) 0 0) ∧ (0 ≤ (zw1 τ F 73 0 0) → (∀ b, (zw2 τ F 73 0 q) = .inr b → v = some (jI (-2000 - (b : Int))) ∧ ∃ w2, cq w x w2 ∧ w1 = jW w2 (x + 339) 0 0) ∧ ∀ q', (zw2 τ F 73 0 q) = .inl q' → v = some (jI (zw1 τ F 73 0 0)) ∧ w1.2 = w.2 ∧ (∀ b, b ≠ x + 3 → b ≠ x + 4 → b ≠ x + 339 → (b < x + 7 ∨ x + 12 ≤ b) → (b < x + 341 ∨ x + 359 ≤ b) → w1.1 b = w.1 b) ∧ w1.1 (x + 339) 0 = 0 ∧ (∃ n', zQ q' n' ∧ w1.1 (x + 3) 0 = ((n' : Nat) : Int) ∧ cR False (w1.1 (x + 4)) q' n') ∧ cpst w x u w1)) := by
  have mt : jtb 108 = jT108 := rfl
  have hn2 := hQ.S.n2
  have hn4 := hQ.S.n4
  have hz1b := zw1_b (τ := τ) (F := F) 73 0 0 (Nat.zero_le F)
  show jWp 108 0 [some (jO x), none, none, none] [] 0 0 w _
  refine jWp.blk mt 1 ?_
  show _ ∧ jWp 108 1 [some (jO x), none, none, none] [jO x] 0 0 w _
  refine ⟨rfl, ?_⟩
  refine jWp.getR (pc' := 4) (o := (x + 339)) mt rfl rfl (jtg hX.X0) hX.R9 ?_
  show jWp 108 4 [some (jO x), none, none, none] [jO (x + 339)] 0 0 w _
  refine jWp.callv (as := [jO (x + 339)]) (rest := []) mt rfl rfl rfl ⟨rfl, jtg hX.X339⟩ ?_
  refine jCall.mono (C_misplaced (w := w) (t := x + 339) (tl := x + 340) (F := F) (τ := τ) hX.X339 hX.X340 hX.Rl hF hF72 hτ hL) (fun v9 w9 h9 => ?_)
  obtain ⟨hw9, hm1, hm2⟩ := h9
  subst w9
  rcases Int.lt_or_le (zw1 τ F 73 0 0) 0 with hz | hz
  · obtain rfl := hm1 hz
    show jWp 108 7 [some (jO x), none, none, none] [jI (-1 - (zw1 τ F 73 0 0))] 0 0 w _
    refine jWp.blk mt 2 ?_
    show _ ∧ jWp 108 9 [some (jO x), some (jI (-1 - (zw1 τ F 73 0 0))), none, none] [jO x] 0 0 w _
    refine ⟨rfl, ?_⟩
    refine jWp.getR (pc' := 12) (o := (x + 7)) mt rfl rfl (jtg hX.X0) hX.R6 ?_
    show jWp 108 12 [some (jO x), some (jI (-1 - (zw1 τ F 73 0 0))), none, none] [jO (x + 7)] 0 0 w _
    refine jWp.blk mt 1 ?_
    show _ ∧ jWp 108 13 [some (jO x), some (jI (-1 - (zw1 τ F 73 0 0))), none, none] [jO x, jO (x + 7)] 0 0 w _
    refine ⟨rfl, ?_⟩
    refine jWp.getR (pc' := 16) (o := (x + 3)) mt rfl rfl (jtg hX.X0) hX.R4 ?_
    show jWp 108 16 [some (jO x), some (jI (-1 - (zw1 τ F 73 0 0))), none, none] [jO (x + 3), jO (x + 7)] 0 0 w _
    refine jWp.callv (as := [jO (x + 7), jO (x + 3)]) (rest := []) mt rfl rfl rfl ⟨rfl, jtg hX.X7⟩ ?_
    refine jCall.mono (C_become (w := w) (s := x + 7) (sc := x + 8) hX.X7 hX.X8 hX.Rt (s2 := x + 3) (sc2 := x + 4) hX.X3 hX.X4 hX.Rc hn0) (fun v9 w9 h9 => ?_)
    obtain ⟨rfl, hbf, hn0', hc0⟩ := h9
    obtain ⟨M0, G9⟩ := w9
    have hg : G9 = w.2 := hbf.1
    subst hg
    have hf0 : ∀ b, (b < x + 7 ∨ x + 12 ≤ b) → M0 b = w.1 b := fun b hb => hbf.2 b (by omega) (by omega)
    have hR0 : cR g (M0 (x + 8)) q n := cR_C hc0 hRR
    show jWp 108 19 [some (jO x), some (jI (-1 - (zw1 τ F 73 0 0))), none, none] [] 0 0 (M0, w.2) _
    refine jWp.blk mt 1 ?_
    show jWp 108 20 [some (jO x), some (jI (-1 - (zw1 τ F 73 0 0))), none, none] [jI (-1 - (zw1 τ F 73 0 0))] 0 0 (M0, w.2) _
    refine jWp.ifz (pc' := 23) mt rfl rfl (b32_id (by omega) (by omega)) (fun h1 => ?_) (fun h1 => ?_)
    · have h1 : 0 ≤ (-1 - (zw1 τ F 73 0 0)) := h1
      refine jWp.blk mt 3 ?_
      show _ ∧ jWp 108 44 [some (jO x), some (jI (-1 - (zw1 τ F 73 0 0))), some (jI (-1)), none] [jO x] 0 0 (M0, w.2) _
      refine ⟨rfl, ?_⟩
      refine jWp.getR (pc' := 47) (o := (x + 339)) mt rfl rfl (jtg hX.X0) hX.R9 ?_
      show jWp 108 47 [some (jO x), some (jI (-1 - (zw1 τ F 73 0 0))), some (jI (-1)), none] [jO (x + 339)] 0 0 (M0, w.2) _
      refine jWp.callv (as := [jO (x + 339)]) (rest := []) mt rfl rfl rfl ⟨rfl, jtg hX.X339⟩ ?_
      refine jCall.mono (C_statements (w := (M0, w.2)) (t := x + 339) (tl := x + 340) (F := F) (τ := τ) hX.X339 hX.X340 hX.Rl ((congrFun (hf0 (x + 339) (by omega)) 0).trans hF) hF72 ((hf0 (x + 340) (by omega)).trans hτ) hL) (fun v9 w9 h9 => ?_)
      obtain ⟨rfl, h9⟩ := h9
      subst w9
      show jWp 108 50 [some (jO x), some (jI (-1 - (zw1 τ F 73 0 0))), some (jI (-1)), none] [jI (zct τ F)] 0 0 (M0, w.2) _
      refine jWp.blk mt 2 ?_
      show _ ∧ jWp 108 52 [some (jO x), some (jI (-1 - (zw1 τ F 73 0 0))), some (jI (-1)), some (jI (zct τ F))] [jO x] 0 0 (M0, w.2) _
      refine ⟨rfl, ?_⟩
      refine jWp.getR (pc' := 55) (o := (x + 339)) mt rfl rfl (jtg hX.X0) hX.R9 ?_
      show jWp 108 55 [some (jO x), some (jI (-1 - (zw1 τ F 73 0 0))), some (jI (-1)), some (jI (zct τ F))] [jO (x + 339)] 0 0 (M0, w.2) _
      refine jWp.callv (as := [jO (x + 339)]) (rest := []) mt rfl rfl rfl ⟨rfl, jtg hX.X339⟩ ?_
      refine jCall.mono (C_tforget (w := (M0, w.2)) (t := x + 339) hX.X339) (fun v9 w9 h9 => ?_)
      obtain ⟨rfl, hw9⟩ := h9
      subst hw9
      show jWp 108 58 [some (jO x), some (jI (-1 - (zw1 τ F 73 0 0))), some (jI (-1)), some (jI (zct τ F))] [] 0 0 (jW (M0, w.2) (x + 339) 0 0) _
      refine jWp.blk mt 1 ?_
      show jWp 108 59 [some (jO x), some (jI (-1 - (zw1 τ F 73 0 0))), some (jI (-1)), some (jI (zct τ F))] [jI (-1 - (zw1 τ F 73 0 0))] 0 0 (jW (M0, w.2) (x + 339) 0 0) _
      refine jWp.ifz (pc' := 62) mt rfl rfl (b32_id (by omega) (by omega)) (fun h2 => ?_) (fun h2 => ?_)
      · have h2 : (-1 - (zw1 τ F 73 0 0)) < 0 := h2
        exfalso; omega
      · have h2 : 0 ≤ (-1 - (zw1 τ F 73 0 0)) := h2
        refine jWp.blk mt 3 ?_
        show jWp 108 67 [some (jO x), some (jI (-1 - (zw1 τ F 73 0 0))), some (jI (-1)), some (jI (zct τ F))] [jI ((-1000) - (-1 - (zw1 τ F 73 0 0)))] 0 0 (jW (M0, w.2) (x + 339) 0 0) _
        refine jWp.ireti mt rfl ⟨rfl, rfl⟩ rfl ?_
        refine ⟨fun _ => ⟨?_, (M0, w.2), cq_f hf0, rfl⟩, fun z => absurd z (by omega)⟩
        rw [show (-1000 - (-1 - (zw1 τ F 73 0 0)) : Int) = -999 + (zw1 τ F 73 0 0) by omega]
    · have h1 : (-1 - (zw1 τ F 73 0 0)) < 0 := h1
      exfalso; omega
  · obtain rfl := hm2 hz
    show jWp 108 7 [some (jO x), none, none, none] [jI (-1)] 0 0 w _
    refine jWp.blk mt 2 ?_
    show _ ∧ jWp 108 9 [some (jO x), some (jI (-1)), none, none] [jO x] 0 0 w _
    refine ⟨rfl, ?_⟩
    refine jWp.getR (pc' := 12) (o := (x + 7)) mt rfl rfl (jtg hX.X0) hX.R6 ?_
    show jWp 108 12 [some (jO x), some (jI (-1)), none, none] [jO (x + 7)] 0 0 w _
    refine jWp.blk mt 1 ?_
    show _ ∧ jWp 108 13 [some (jO x), some (jI (-1)), none, none] [jO x, jO (x + 7)] 0 0 w _
    refine ⟨rfl, ?_⟩
    refine jWp.getR (pc' := 16) (o := (x + 3)) mt rfl rfl (jtg hX.X0) hX.R4 ?_
    show jWp 108 16 [some (jO x), some (jI (-1)), none, none] [jO (x + 3), jO (x + 7)] 0 0 w _
    refine jWp.callv (as := [jO (x + 7), jO (x + 3)]) (rest := []) mt rfl rfl rfl ⟨rfl, jtg hX.X7⟩ ?_
    refine jCall.mono (C_become (w := w) (s := x + 7) (sc := x + 8) hX.X7 hX.X8 hX.Rt (s2 := x + 3) (sc2 := x + 4) hX.X3 hX.X4 hX.Rc hn0) (fun v9 w9 h9 => ?_)
    obtain ⟨rfl, hbf, hn0', hc0⟩ := h9
    obtain ⟨M0, G9⟩ := w9
    have hg : G9 = w.2 := hbf.1
    subst hg
    have hf0 : ∀ b, (b < x + 7 ∨ x + 12 ≤ b) → M0 b = w.1 b := fun b hb => hbf.2 b (by omega) (by omega)
    have hR0 : cR g (M0 (x + 8)) q n := cR_C hc0 hRR
    show jWp 108 19 [some (jO x), some (jI (-1)), none, none] [] 0 0 (M0, w.2) _
    refine jWp.blk mt 1 ?_
    show jWp 108 20 [some (jO x), some (jI (-1)), none, none] [jI (-1)] 0 0 (M0, w.2) _
    refine jWp.ifc (b := false) mt rfl (by decide) rfl ?_
    show jWp 108 23 [some (jO x), some (jI (-1)), none, none] [] 0 0 (M0, w.2) _
    refine jWp.blk mt 1 ?_
    show _ ∧ jWp 108 24 [some (jO x), some (jI (-1)), none, none] [jO x] 0 0 (M0, w.2) _
    refine ⟨rfl, ?_⟩
    refine jWp.getR (pc' := 27) (o := (x + 339)) mt rfl rfl (jtg hX.X0) hX.R9 ?_
    show jWp 108 27 [some (jO x), some (jI (-1)), none, none] [jO (x + 339)] 0 0 (M0, w.2) _
    refine jWp.blk mt 1 ?_
    show _ ∧ jWp 108 28 [some (jO x), some (jI (-1)), none, none] [jO x, jO (x + 339)] 0 0 (M0, w.2) _
    refine ⟨rfl, ?_⟩
    refine jWp.getR (pc' := 31) (o := (x + 7)) mt rfl rfl (jtg hX.X0) hX.R6 ?_
    show jWp 108 31 [some (jO x), some (jI (-1)), none, none] [jO (x + 7), jO (x + 339)] 0 0 (M0, w.2) _
    refine jWp.blk mt 1 ?_
    show _ ∧ jWp 108 32 [some (jO x), some (jI (-1)), none, none] [jO x, jO (x + 7), jO (x + 339)] 0 0 (M0, w.2) _
    refine ⟨rfl, ?_⟩
    refine jWp.getR (pc' := 35) (o := (x + 9)) mt rfl rfl (jtg hX.X0) hX.R7 ?_
    show jWp 108 35 [some (jO x), some (jI (-1)), none, none] [jO (x + 9), jO (x + 7), jO (x + 339)] 0 0 (M0, w.2) _
    refine jWp.callv (as := [jO (x + 339), jO (x + 7), jO (x + 9)]) (rest := []) mt rfl rfl rfl ⟨rfl, jtg hX.X339⟩ ?_
    refine jCall.mono (C_impossible (w := (M0, w.2)) (t := x + 339) (tl := x + 340) (F := F) (τ := τ) hX.X339 hX.X340 hX.Rl ((congrFun (hf0 (x + 339) (by omega)) 0).trans hF) hF72 ((hf0 (x + 340) (by omega)).trans hτ) hL (s := x + 7) (sc := x + 8) (e := x + 9) (f1 := x + 10) (f2 := x + 11) (n := n) (q0 := q) hX.X7 hX.X8 hX.Rt hn0' hX.X9 hX.Ru hX.Rd hX.X10 hX.X11 (by omega) hQ (cR_F hR0) hz) (fun v9 w9 h9 => ?_)
    obtain ⟨hbf, hi1, hi2⟩ := h9
    obtain ⟨M1, G9⟩ := w9
    have hg : G9 = w.2 := hbf.1
    subst hg
    have hf1 : ∀ b, (b < x + 7 ∨ x + 12 ≤ b) → M1 b = w.1 b := fun b hb => (hbf.2 b (by omega) (by omega) (by omega) (by omega)).trans (hf0 b hb)
    rcases hzz : (zw2 τ F 73 0 q) with q' | b
    · obtain ⟨rfl, n', hQ', hn', hR'⟩ := hi2 q' hzz
      show jWp 108 38 [some (jO x), some (jI (-1)), none, none] [jI (-1)] 0 0 (M1, w.2) _
      refine jWp.blk mt 3 ?_
      show _ ∧ jWp 108 44 [some (jO x), some (jI (-1)), some (jI (-1)), none] [jO x] 0 0 (M1, w.2) _
      refine ⟨rfl, ?_⟩
      refine jWp.getR (pc' := 47) (o := (x + 339)) mt rfl rfl (jtg hX.X0) hX.R9 ?_
      show jWp 108 47 [some (jO x), some (jI (-1)), some (jI (-1)), none] [jO (x + 339)] 0 0 (M1, w.2) _
      refine jWp.callv (as := [jO (x + 339)]) (rest := []) mt rfl rfl rfl ⟨rfl, jtg hX.X339⟩ ?_
      refine jCall.mono (C_statements (w := (M1, w.2)) (t := x + 339) (tl := x + 340) (F := F) (τ := τ) hX.X339 hX.X340 hX.Rl ((congrFun (hf1 (x + 339) (by omega)) 0).trans hF) hF72 ((hf1 (x + 340) (by omega)).trans hτ) hL) (fun v9 w9 h9 => ?_)
      obtain ⟨rfl, h9⟩ := h9
      subst w9
      show jWp 108 50 [some (jO x), some (jI (-1)), some (jI (-1)), none] [jI (zct τ F)] 0 0 (M1, w.2) _
      refine jWp.blk mt 2 ?_
      show _ ∧ jWp 108 52 [some (jO x), some (jI (-1)), some (jI (-1)), some (jI (zct τ F))] [jO x] 0 0 (M1, w.2) _
      refine ⟨rfl, ?_⟩
      refine jWp.getR (pc' := 55) (o := (x + 339)) mt rfl rfl (jtg hX.X0) hX.R9 ?_
      show jWp 108 55 [some (jO x), some (jI (-1)), some (jI (-1)), some (jI (zct τ F))] [jO (x + 339)] 0 0 (M1, w.2) _
      refine jWp.callv (as := [jO (x + 339)]) (rest := []) mt rfl rfl rfl ⟨rfl, jtg hX.X339⟩ ?_
      refine jCall.mono (C_tforget (w := (M1, w.2)) (t := x + 339) hX.X339) (fun v9 w9 h9 => ?_)
      obtain ⟨rfl, hw9⟩ := h9
      subst hw9
      show jWp 108 58 [some (jO x), some (jI (-1)), some (jI (-1)), some (jI (zct τ F))] [] 0 0 (jW (M1, w.2) (x + 339) 0 0) _
      refine jWp.blk mt 1 ?_
      show jWp 108 59 [some (jO x), some (jI (-1)), some (jI (-1)), some (jI (zct τ F))] [jI (-1)] 0 0 (jW (M1, w.2) (x + 339) 0 0) _
      refine jWp.ifc (b := true) mt rfl (by decide) rfl ?_
      show jWp 108 68 [some (jO x), some (jI (-1)), some (jI (-1)), some (jI (zct τ F))] [] 0 0 (jW (M1, w.2) (x + 339) 0 0) _
      refine jWp.blk mt 1 ?_
      show jWp 108 69 [some (jO x), some (jI (-1)), some (jI (-1)), some (jI (zct τ F))] [jI (-1)] 0 0 (jW (M1, w.2) (x + 339) 0 0) _
      refine jWp.ifc (b := true) mt rfl (by decide) rfl ?_
      show jWp 108 78 [some (jO x), some (jI (-1)), some (jI (-1)), some (jI (zct τ F))] [] 0 0 (jW (M1, w.2) (x + 339) 0 0) _
      refine jWp.blk mt 1 ?_
      show _ ∧ jWp 108 79 [some (jO x), some (jI (-1)), some (jI (-1)), some (jI (zct τ F))] [jO x] 0 0 (jW (M1, w.2) (x + 339) 0 0) _
      refine ⟨rfl, ?_⟩
      refine jWp.getR (pc' := 82) (o := (x + 341)) mt rfl rfl (jtg hX.X0) hX.R10 ?_
      show jWp 108 82 [some (jO x), some (jI (-1)), some (jI (-1)), some (jI (zct τ F))] [jO (x + 341)] 0 0 (jW (M1, w.2) (x + 339) 0 0) _
      refine jWp.blk mt 1 ?_
      show _ ∧ jWp 108 83 [some (jO x), some (jI (-1)), some (jI (-1)), some (jI (zct τ F))] [jO x, jO (x + 341)] 0 0 (jW (M1, w.2) (x + 339) 0 0) _
      refine ⟨rfl, ?_⟩
      refine jWp.getR (pc' := 86) (o := (x + 3)) mt rfl rfl (jtg hX.X0) hX.R4 ?_
      show jWp 108 86 [some (jO x), some (jI (-1)), some (jI (-1)), some (jI (zct τ F))] [jO (x + 3), jO (x + 341)] 0 0 (jW (M1, w.2) (x + 339) 0 0) _
      refine jWp.callv (as := [jO (x + 341), jO (x + 3)]) (rest := []) mt rfl rfl rfl ⟨rfl, jtg hX.XP.1⟩ ?_
      refine jCall.mono (C_pkeep (w := (jW (M1, w.2) (x + 339) 0 0)) (pa := x + 341) hX.XP (s := x + 3) (sc := x + 4) hX.X3 hX.X4 hX.Rc (u := u) ((jW_a (by omega)).trans ((congrFun (hf1 (x + 341) (by omega)) 0).trans hu)) hu8 (by omega) (by omega) (fun y hy => by omega) (fun y hy => by omega)) (fun v9 w9 h9 => ?_)
      obtain ⟨rfl, hg3, hf3, hp3⟩ := h9
      obtain ⟨M3, G9⟩ := w9
      have hg : G9 = w.2 := hg3
      subst hg
      have hf03 : ∀ b, b ≠ x + 339 → (b < x + 7 ∨ x + 12 ≤ b) → (b < x + 341 ∨ x + 359 ≤ b) → M3 b = w.1 b := fun b h1 hb h2 => (hf3 b (by omega) (fun y hy => by omega)).trans ((jW_f h1).trans (hf1 b hb))
      have h39 : M3 (x + 339) 0 = 0 := (congrFun (hf3 (x + 339) (by omega) (fun y hy => by omega)) 0).trans jW_s
      have hp3' : cpst (jW (M1, w.2) (x + 339) 0 0) x u ((M3, w.2) : jS) := hp3
      have hn3 : M3 (x + 7) 0 = ((n' : Nat) : Int) := (congrFun ((hf3 (x + 7) (by omega) (fun y hy => by omega)).trans (jW_f (by omega))) 0).trans hn'
      have e38 : M3 (x + 8) = M1 (x + 8) := (hf3 (x + 8) (by omega) (fun y hy => by omega)).trans (jW_f (by omega))
      have hcr3 : cR False (M3 (x + 8)) q' n' := by rw [e38]; exact hR'
      show jWp 108 89 [some (jO x), some (jI (-1)), some (jI (-1)), some (jI (zct τ F))] [] 0 0 (M3, w.2) _
      refine jWp.blk mt 1 ?_
      show _ ∧ jWp 108 90 [some (jO x), some (jI (-1)), some (jI (-1)), some (jI (zct τ F))] [jO x] 0 0 (M3, w.2) _
      refine ⟨rfl, ?_⟩
      refine jWp.getR (pc' := 93) (o := (x + 3)) mt rfl rfl (jtg hX.X0) hX.R4 ?_
      show jWp 108 93 [some (jO x), some (jI (-1)), some (jI (-1)), some (jI (zct τ F))] [jO (x + 3)] 0 0 (M3, w.2) _
      refine jWp.blk mt 1 ?_
      show _ ∧ jWp 108 94 [some (jO x), some (jI (-1)), some (jI (-1)), some (jI (zct τ F))] [jO x, jO (x + 3)] 0 0 (M3, w.2) _
      refine ⟨rfl, ?_⟩
      refine jWp.getR (pc' := 97) (o := (x + 7)) mt rfl rfl (jtg hX.X0) hX.R6 ?_
      show jWp 108 97 [some (jO x), some (jI (-1)), some (jI (-1)), some (jI (zct τ F))] [jO (x + 7), jO (x + 3)] 0 0 (M3, w.2) _
      refine jWp.callv (as := [jO (x + 3), jO (x + 7)]) (rest := []) mt rfl rfl rfl ⟨rfl, jtg hX.X3⟩ ?_
      refine jCall.mono (C_become (w := (M3, w.2)) (s := x + 3) (sc := x + 4) hX.X3 hX.X4 hX.Rc (s2 := x + 7) (sc2 := x + 8) hX.X7 hX.X8 hX.Rt hn3) (fun v9 w9 h9 => ?_)
      obtain ⟨rfl, hbf, hn4', hc4⟩ := h9
      obtain ⟨M4, G9⟩ := w9
      have hg : G9 = w.2 := hbf.1
      subst hg
      have hf4 := hbf.2
      have hcr4 : cR False (M4 (x + 4)) q' n' := cR_C hc4 hcr3
      show jWp 108 100 [some (jO x), some (jI (-1)), some (jI (-1)), some (jI (zct τ F))] [] 0 0 (M4, w.2) _
      refine jWp.blk mt 1 ?_
      show jWp 108 101 [some (jO x), some (jI (-1)), some (jI (-1)), some (jI (zct τ F))] [jI (zct τ F)] 0 0 (M4, w.2) _
      refine jWp.ireti mt rfl ⟨rfl, rfl⟩ rfl ?_
      refine ⟨fun z => absurd z (by omega), fun _ => ⟨fun b' hb' => ?_, fun q9 hq9 => ?_⟩⟩
      · cases hb'
      · cases hq9
        have e : (zw1 τ F 73 0 0) = zct τ F := by
          have e1 := zw1_c (τ := τ) (F := F) 73 0 0 (by omega) (by omega) hz
          have e2 : zct τ 0 = 0 := rfl
          omega
        refine ⟨by rw [e], rfl, fun b g1 g2 g3 g4 g5 => (hf4 b g1 g2).trans (hf03 b g3 g4 g5), (congrFun (hf4 (x + 339) (by omega) (by omega)) 0).trans h39, ⟨n', hQ', hn4', hcr4⟩, cpst_k hp3' (fun b hb => (jW_f (by omega)).trans (hf1 b (by omega))) (fun b hb => hf4 b (by omega) (by omega)) hu8⟩
    · obtain rfl := hi1 b hzz
      have hb9 := zw2_b 73 0 q b hzz
      show jWp 108 38 [some (jO x), some (jI (-1)), none, none] [jI (b : Int)] 0 0 (M1, w.2) _
      refine jWp.blk mt 3 ?_
      show _ ∧ jWp 108 44 [some (jO x), some (jI (-1)), some (jI (b : Int)), none] [jO x] 0 0 (M1, w.2) _
      refine ⟨rfl, ?_⟩
      refine jWp.getR (pc' := 47) (o := (x + 339)) mt rfl rfl (jtg hX.X0) hX.R9 ?_
      show jWp 108 47 [some (jO x), some (jI (-1)), some (jI (b : Int)), none] [jO (x + 339)] 0 0 (M1, w.2) _
      refine jWp.callv (as := [jO (x + 339)]) (rest := []) mt rfl rfl rfl ⟨rfl, jtg hX.X339⟩ ?_
      refine jCall.mono (C_statements (w := (M1, w.2)) (t := x + 339) (tl := x + 340) (F := F) (τ := τ) hX.X339 hX.X340 hX.Rl ((congrFun (hf1 (x + 339) (by omega)) 0).trans hF) hF72 ((hf1 (x + 340) (by omega)).trans hτ) hL) (fun v9 w9 h9 => ?_)
      obtain ⟨rfl, h9⟩ := h9
      subst w9
      show jWp 108 50 [some (jO x), some (jI (-1)), some (jI (b : Int)), none] [jI (zct τ F)] 0 0 (M1, w.2) _
      refine jWp.blk mt 2 ?_
      show _ ∧ jWp 108 52 [some (jO x), some (jI (-1)), some (jI (b : Int)), some (jI (zct τ F))] [jO x] 0 0 (M1, w.2) _
      refine ⟨rfl, ?_⟩
      refine jWp.getR (pc' := 55) (o := (x + 339)) mt rfl rfl (jtg hX.X0) hX.R9 ?_
      show jWp 108 55 [some (jO x), some (jI (-1)), some (jI (b : Int)), some (jI (zct τ F))] [jO (x + 339)] 0 0 (M1, w.2) _
      refine jWp.callv (as := [jO (x + 339)]) (rest := []) mt rfl rfl rfl ⟨rfl, jtg hX.X339⟩ ?_
      refine jCall.mono (C_tforget (w := (M1, w.2)) (t := x + 339) hX.X339) (fun v9 w9 h9 => ?_)
      obtain ⟨rfl, hw9⟩ := h9
      subst hw9
      show jWp 108 58 [some (jO x), some (jI (-1)), some (jI (b : Int)), some (jI (zct τ F))] [] 0 0 (jW (M1, w.2) (x + 339) 0 0) _
      refine jWp.blk mt 1 ?_
      show jWp 108 59 [some (jO x), some (jI (-1)), some (jI (b : Int)), some (jI (zct τ F))] [jI (-1)] 0 0 (jW (M1, w.2) (x + 339) 0 0) _
      refine jWp.ifc (b := true) mt rfl (by decide) rfl ?_
      show jWp 108 68 [some (jO x), some (jI (-1)), some (jI (b : Int)), some (jI (zct τ F))] [] 0 0 (jW (M1, w.2) (x + 339) 0 0) _
      refine jWp.blk mt 1 ?_
      show jWp 108 69 [some (jO x), some (jI (-1)), some (jI (b : Int)), some (jI (zct τ F))] [jI (b : Int)] 0 0 (jW (M1, w.2) (x + 339) 0 0) _
      refine jWp.ifz (pc' := 72) mt rfl rfl (b32_id (by omega) (by omega)) (fun h3 => ?_) (fun h3 => ?_)
      · have h3 : (b : Int) < 0 := h3
        exfalso; omega
      · have h3 : 0 ≤ (b : Int) := h3
        refine jWp.blk mt 3 ?_
        show jWp 108 77 [some (jO x), some (jI (-1)), some (jI (b : Int)), some (jI (zct τ F))] [jI ((-2000) - (b : Int))] 0 0 (jW (M1, w.2) (x + 339) 0 0) _
        refine jWp.ireti mt rfl ⟨rfl, rfl⟩ rfl ?_
        refine ⟨fun z => absurd z (by omega), fun _ => ⟨fun b' hb' => ?_, fun q9 hq9 => ?_⟩⟩
        · cases hb'
          exact ⟨rfl, (M1, w.2), cq_f hf1, rfl⟩
        · cases hq9
