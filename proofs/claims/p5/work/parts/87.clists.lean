set_option maxHeartbeats 4000000 in
set_option maxRecDepth 20000 in
theorem C_on0 {w : jS} {x : Nat} (hX : CW w.2 x) (hI : w.1 x 3 = -1) : jCall 126 [jO x] w (cno w x 2 (jI (-3))) := by
  have mt : jtb 126 = jT126 := rfl
  show jWp 126 0 [some (jO x), none] [] 0 0 w _
  refine jWp.blk mt 1 ?_
  show _ ∧ jWp 126 1 [some (jO x), none] [jO x] 0 0 w _
  refine ⟨rfl, ?_⟩
  refine jWp.getI (pc' := 4) mt rfl rfl (jtg hX.X0) ?_
  rw [show (w.1 x 3) = (-1 : Int) from hI]
  show jWp 126 4 [some (jO x), none] [jI (-1 : Int)] 0 0 w _
  refine jWp.ifz (pc' := 7) mt rfl rfl (b32_id (by omega) (by omega)) (fun h1 => ?_) (fun h1 => ?_)
  · have h1 : 0 ≤ (-1 : Int) := h1
    exfalso; omega
  · have h1 : (-1 : Int) < 0 := h1
    refine jWp.blk mt 2 ?_
    show _ ∧ jWp 126 10 [some (jO x), none] [jI (-3), jO x] 0 0 w _
    refine ⟨rfl, ?_⟩
    refine jWp.callv (as := [jO x, jI (-3)]) (rest := []) mt rfl rfl rfl ⟨rfl, jtg hX.X0⟩ ?_
    refine jCall.mono (C_refuse (w := w) (j := 2) hX (by decide) (by decide)) (fun v9 w9 h9 => ?_)
    obtain ⟨rfl, h9⟩ := h9
    subst h9
    show jWp 126 13 [some (jO x), none] [jI (-3)] 0 0 (jW w (x + 362) 2 ((w.1 (x + 362) 2) + 1)) _
    refine jWp.ireti mt rfl ⟨rfl, rfl⟩ rfl ?_
    exact ⟨rfl, rfl⟩
set_option maxHeartbeats 4000000 in
set_option maxRecDepth 20000 in
theorem C_on {w : jS} {x : Nat} (hX : CW w.2 x) {k : Nat} {R : Nat → Int} (hI : w.1 x 3 = (k : Int)) (hR : zRw R k) (hIW : ∀ i, i < k → cRo w (x + (366 + 6 * i)) (x + (367 + 6 * i)) (x + (368 + 6 * i)) (R (1 + 10 * i)) (R (2 + 10 * i)) (fun z => R (3 + 10 * i + z))) (hO : jOK w) (hao : w.2.2.2.2 < x ∨ x + 392 ≤ w.2.2.2.2) : jCall 126 [jO x] w (fun v w1 => v = some (jI (k : Int)) ∧ w1.2 = w.2 ∧ (∀ b, b ≠ x → b ≠ x + 3 → b ≠ x + 4 → b ≠ x + 341 → (∀ y, y < 4 → b ≠ x + (363 + 6 * y) ∧ b ≠ x + (364 + 6 * y) ∧ b ≠ x + (365 + 6 * y)) → w1.1 b = w.1 b) ∧ (∀ j, j ≠ 1 → w1.1 x j = w.1 x j) ∧ cRW w1 x R k ∧ cpy w1.1 (x + 3) (x + 4) w.1 (x + 5) (x + 6) ∧ w1.1 (x + 341) 0 = 0) := by
  have mt : jtb 126 = jT126 := rfl
  have hc4 := hR.2.1
  show jWp 126 0 [some (jO x), none] [] 0 0 w _
  refine jWp.blk mt 1 ?_
  show _ ∧ jWp 126 1 [some (jO x), none] [jO x] 0 0 w _
  refine ⟨rfl, ?_⟩
  refine jWp.getI (pc' := 4) mt rfl rfl (jtg hX.X0) ?_
  rw [show (w.1 x 3) = (k : Int) from hI]
  show jWp 126 4 [some (jO x), none] [jI (k : Int)] 0 0 w _
  refine jWp.ifz (pc' := 7) mt rfl rfl (b32_id (by omega) (by omega)) (fun h1 => ?_) (fun h1 => ?_)
  · have h1 : 0 ≤ (k : Int) := h1
    refine jWp.blk mt 2 ?_
    show jWp 126 16 [some (jO x), some (jI 0)] [] 0 0 w _
    have lp2 : ∀ (N : Nat) (i : Nat) (M1 : Nat → Nat → Int) (hi : i ≤ k) (hfr : ∀ b, (∀ y, y < 4 → b ≠ x + (363 + 6 * y) ∧ b ≠ x + (364 + 6 * y) ∧ b ≠ x + (365 + 6 * y)) → M1 b = w.1 b) (hdn : ∀ y, y < i → cRo ((M1, w.2) : jS) (x + (363 + 6 * y)) (x + (364 + 6 * y)) (x + (365 + 6 * y)) (R (1 + 10 * y)) (R (2 + 10 * y)) (fun z => R (3 + 10 * y + z))), k - i < N → jWp 126 16 [some (jO x), some (jI (i : Int))] [] 0 0 (M1, w.2) (fun v w1 => v = some (jI (k : Int)) ∧ w1.2 = w.2 ∧ (∀ b, b ≠ x → b ≠ x + 3 → b ≠ x + 4 → b ≠ x + 341 → (∀ y, y < 4 → b ≠ x + (363 + 6 * y) ∧ b ≠ x + (364 + 6 * y) ∧ b ≠ x + (365 + 6 * y)) → w1.1 b = w.1 b) ∧ (∀ j, j ≠ 1 → w1.1 x j = w.1 x j) ∧ cRW w1 x R k ∧ cpy w1.1 (x + 3) (x + 4) w.1 (x + 5) (x + 6) ∧ w1.1 (x + 341) 0 = 0) := by
      intro N
      induction N with
      | zero => intro i M1 hi hfr hdn hm; omega
      | succ N ih3 =>
        intro i M1 hi hfr hdn hm
        have hri := fun h : i < k => hIW i h
        have hRi := fun h : i < k => hR.2.2 i h
        refine jWp.blk mt 2 ?_
        show _ ∧ jWp 126 18 [some (jO x), some (jI (i : Int))] [jO x, jI (i : Int)] 0 0 (M1, w.2) _
        refine ⟨rfl, ?_⟩
        refine jWp.getI (pc' := 21) mt rfl rfl (jtg hX.X0) ?_
        rw [show ((M1, w.2).1 x 3) = (k : Int) from ((congrFun (hfr x (fun y hy => by omega)) 3).trans hI)]
        show jWp 126 21 [some (jO x), some (jI (i : Int))] [jI (k : Int), jI (i : Int)] 0 0 (M1, w.2) _
        refine jWp.icmp (pc' := 24) mt rfl rfl (b32_id (by omega) (by omega)) (b32_id (by omega) (by omega)) (fun h4 => ?_) (fun h4 => ?_)
        · have h4 : (k : Int) ≤ (i : Int) := h4
          refine jWp.blk mt 2 ?_
          show _ ∧ _ ∧ jWp 126 52 [some (jO x), some (jI (i : Int))] [jO x, jO x] 0 0 (M1, w.2) _
          refine ⟨rfl, rfl, ?_⟩
          refine jWp.getI (pc' := 55) mt rfl rfl (jtg hX.X0) ?_
          rw [show ((M1, w.2).1 x 3) = (k : Int) from ((congrFun (hfr x (fun y hy => by omega)) 3).trans hI)]
          show jWp 126 55 [some (jO x), some (jI (i : Int))] [jI (k : Int), jO x] 0 0 (M1, w.2) _
          refine jWp.putI (pc' := 58) mt rfl rfl (jtg hX.X0) ?_
          show jWp 126 58 [some (jO x), some (jI (i : Int))] [] 0 0 (jW (M1, w.2) x 1 (k : Int)) _
          refine jWp.blk mt 1 ?_
          show _ ∧ jWp 126 59 [some (jO x), some (jI (i : Int))] [jO x] 0 0 (jW (M1, w.2) x 1 (k : Int)) _
          refine ⟨rfl, ?_⟩
          refine jWp.getR (pc' := 62) (o := (x + 3)) mt rfl rfl (jtg hX.X0) hX.R4 ?_
          show jWp 126 62 [some (jO x), some (jI (i : Int))] [jO (x + 3)] 0 0 (jW (M1, w.2) x 1 (k : Int)) _
          refine jWp.blk mt 1 ?_
          show _ ∧ jWp 126 63 [some (jO x), some (jI (i : Int))] [jO x, jO (x + 3)] 0 0 (jW (M1, w.2) x 1 (k : Int)) _
          refine ⟨rfl, ?_⟩
          refine jWp.getR (pc' := 66) (o := (x + 5)) mt rfl rfl (jtg hX.X0) hX.R5 ?_
          show jWp 126 66 [some (jO x), some (jI (i : Int))] [jO (x + 5), jO (x + 3)] 0 0 (jW (M1, w.2) x 1 (k : Int)) _
          refine jWp.callv (as := [jO (x + 3), jO (x + 5)]) (rest := []) mt rfl rfl rfl ⟨rfl, jtg hX.X3⟩ ?_
          refine jCall.mono (C_become (w := (jW (M1, w.2) x 1 (k : Int))) (s := x + 3) (sc := x + 4) hX.X3 hX.X4 hX.Rc (s2 := x + 5) (sc2 := x + 6) hX.X5 hX.X6 hX.Ri rfl) (fun v9 w9 h9 => ?_)
          obtain ⟨rfl, hbf, hn3, hc3⟩ := h9
          obtain ⟨M3, G9⟩ := w9
          have hg : G9 = w.2 := hbf.1
          subst hg
          have hf3 := hbf.2
          show jWp 126 69 [some (jO x), some (jI (i : Int))] [] 0 0 (M3, w.2) _
          refine jWp.blk mt 1 ?_
          show _ ∧ jWp 126 70 [some (jO x), some (jI (i : Int))] [jO x] 0 0 (M3, w.2) _
          refine ⟨rfl, ?_⟩
          refine jWp.getR (pc' := 73) (o := (x + 341)) mt rfl rfl (jtg hX.X0) hX.R10 ?_
          show jWp 126 73 [some (jO x), some (jI (i : Int))] [jO (x + 341)] 0 0 (M3, w.2) _
          refine jWp.callv (as := [jO (x + 341)]) (rest := []) mt rfl rfl rfl ⟨rfl, jtg hX.XP.1⟩ ?_
          refine jCall.mono (C_pforget (w := (M3, w.2)) (pa := x + 341) hX.XP.1) (fun v9 w9 h9 => ?_)
          obtain ⟨rfl, h9⟩ := h9
          subst h9
          show jWp 126 76 [some (jO x), some (jI (i : Int))] [] 0 0 (jW (M3, w.2) (x + 341) 0 0) _
          refine jWp.blk mt 1 ?_
          show _ ∧ jWp 126 77 [some (jO x), some (jI (i : Int))] [jO x] 0 0 (jW (M3, w.2) (x + 341) 0 0) _
          refine ⟨rfl, ?_⟩
          refine jWp.getI (pc' := 80) mt rfl rfl (jtg hX.X0) ?_
          rw [show ((jW (M3, w.2) (x + 341) 0 0).1 x 1) = (k : Int) from (((jW_a (by omega)).trans rfl).trans ((congrFun (hf3 x (by omega) (by omega)) 1).trans jW_s))]
          show jWp 126 80 [some (jO x), some (jI (i : Int))] [jI (k : Int)] 0 0 (jW (M3, w.2) (x + 341) 0 0) _
          refine jWp.ireti mt rfl ⟨rfl, rfl⟩ rfl ?_
          have hfx : ∀ b, b ≠ x → b ≠ x + 3 → b ≠ x + 4 → b ≠ x + 341 → (jW (M3, w.2) (x + 341) 0 0).1 b = M1 b := fun b g0 g1 g2 g3 => (jW_f g3).trans ((hf3 b g1 g2).trans (jW_f g0))
          refine ⟨rfl, rfl, fun b g0 g1 g2 g3 g4 => (hfx b g0 g1 g2 g3).trans (hfr b g4), fun j hj => (jW_a (by omega)).trans ((congrFun (hf3 x (by omega) (by omega)) j).trans ((jW_k hj).trans (congrFun (hfr x (fun y hy => by omega)) j))), ⟨(jW_a (by omega)).trans ((congrFun (hf3 x (by omega) (by omega)) 1).trans jW_s), fun y hy => cRo_k (hfx _ (by omega) (by omega) (by omega) (by omega)) (hfx _ (by omega) (by omega) (by omega) (by omega)) (hfx _ (by omega) (by omega) (by omega) (by omega)) (hdn y (by omega))⟩, ⟨?_, fun j hj => ?_⟩, jW_s⟩
          · exact (jW_a (by omega)).trans (hn3.trans ((jW_a (by omega)).trans (congrFun (hfr (x + 5) (fun y hy => by omega)) 0)))
          · exact (jW_a (by omega)).trans ((hc3 j hj).trans ((jW_a (by omega)).trans (congrFun (hfr (x + 6) (fun y hy => by omega)) j)))
        · have h4 : (i : Int) < (k : Int) := h4
          refine jWp.blk mt 2 ?_
          show jWp 126 26 [some (jO x), some (jI (i : Int))] [jI 4, jI (i : Int)] 0 0 (M1, w.2) _
          refine jWp.icmp (pc' := 29) mt rfl rfl (b32_id (by omega) (by omega)) (show b32 4 = 4 by decide) (fun h5 => ?_) (fun h5 => ?_)
          · have h5 : 4 ≤ (i : Int) := h5
            refine jWp.blk mt 2 ?_
            show _ ∧ _ ∧ jWp 126 52 [some (jO x), some (jI (i : Int))] [jO x, jO x] 0 0 (M1, w.2) _
            refine ⟨rfl, rfl, ?_⟩
            refine jWp.getI (pc' := 55) mt rfl rfl (jtg hX.X0) ?_
            rw [show ((M1, w.2).1 x 3) = (k : Int) from ((congrFun (hfr x (fun y hy => by omega)) 3).trans hI)]
            show jWp 126 55 [some (jO x), some (jI (i : Int))] [jI (k : Int), jO x] 0 0 (M1, w.2) _
            refine jWp.putI (pc' := 58) mt rfl rfl (jtg hX.X0) ?_
            show jWp 126 58 [some (jO x), some (jI (i : Int))] [] 0 0 (jW (M1, w.2) x 1 (k : Int)) _
            refine jWp.blk mt 1 ?_
            show _ ∧ jWp 126 59 [some (jO x), some (jI (i : Int))] [jO x] 0 0 (jW (M1, w.2) x 1 (k : Int)) _
            refine ⟨rfl, ?_⟩
            refine jWp.getR (pc' := 62) (o := (x + 3)) mt rfl rfl (jtg hX.X0) hX.R4 ?_
            show jWp 126 62 [some (jO x), some (jI (i : Int))] [jO (x + 3)] 0 0 (jW (M1, w.2) x 1 (k : Int)) _
            refine jWp.blk mt 1 ?_
            show _ ∧ jWp 126 63 [some (jO x), some (jI (i : Int))] [jO x, jO (x + 3)] 0 0 (jW (M1, w.2) x 1 (k : Int)) _
            refine ⟨rfl, ?_⟩
            refine jWp.getR (pc' := 66) (o := (x + 5)) mt rfl rfl (jtg hX.X0) hX.R5 ?_
            show jWp 126 66 [some (jO x), some (jI (i : Int))] [jO (x + 5), jO (x + 3)] 0 0 (jW (M1, w.2) x 1 (k : Int)) _
            refine jWp.callv (as := [jO (x + 3), jO (x + 5)]) (rest := []) mt rfl rfl rfl ⟨rfl, jtg hX.X3⟩ ?_
            refine jCall.mono (C_become (w := (jW (M1, w.2) x 1 (k : Int))) (s := x + 3) (sc := x + 4) hX.X3 hX.X4 hX.Rc (s2 := x + 5) (sc2 := x + 6) hX.X5 hX.X6 hX.Ri rfl) (fun v9 w9 h9 => ?_)
            obtain ⟨rfl, hbf, hn3, hc3⟩ := h9
            obtain ⟨M3, G9⟩ := w9
            have hg : G9 = w.2 := hbf.1
            subst hg
            have hf3 := hbf.2
            show jWp 126 69 [some (jO x), some (jI (i : Int))] [] 0 0 (M3, w.2) _
            refine jWp.blk mt 1 ?_
            show _ ∧ jWp 126 70 [some (jO x), some (jI (i : Int))] [jO x] 0 0 (M3, w.2) _
            refine ⟨rfl, ?_⟩
            refine jWp.getR (pc' := 73) (o := (x + 341)) mt rfl rfl (jtg hX.X0) hX.R10 ?_
            show jWp 126 73 [some (jO x), some (jI (i : Int))] [jO (x + 341)] 0 0 (M3, w.2) _
            refine jWp.callv (as := [jO (x + 341)]) (rest := []) mt rfl rfl rfl ⟨rfl, jtg hX.XP.1⟩ ?_
            refine jCall.mono (C_pforget (w := (M3, w.2)) (pa := x + 341) hX.XP.1) (fun v9 w9 h9 => ?_)
            obtain ⟨rfl, h9⟩ := h9
            subst h9
            show jWp 126 76 [some (jO x), some (jI (i : Int))] [] 0 0 (jW (M3, w.2) (x + 341) 0 0) _
            refine jWp.blk mt 1 ?_
            show _ ∧ jWp 126 77 [some (jO x), some (jI (i : Int))] [jO x] 0 0 (jW (M3, w.2) (x + 341) 0 0) _
            refine ⟨rfl, ?_⟩
            refine jWp.getI (pc' := 80) mt rfl rfl (jtg hX.X0) ?_
            rw [show ((jW (M3, w.2) (x + 341) 0 0).1 x 1) = (k : Int) from (((jW_a (by omega)).trans rfl).trans ((congrFun (hf3 x (by omega) (by omega)) 1).trans jW_s))]
            show jWp 126 80 [some (jO x), some (jI (i : Int))] [jI (k : Int)] 0 0 (jW (M3, w.2) (x + 341) 0 0) _
            refine jWp.ireti mt rfl ⟨rfl, rfl⟩ rfl ?_
            have hfx : ∀ b, b ≠ x → b ≠ x + 3 → b ≠ x + 4 → b ≠ x + 341 → (jW (M3, w.2) (x + 341) 0 0).1 b = M1 b := fun b g0 g1 g2 g3 => (jW_f g3).trans ((hf3 b g1 g2).trans (jW_f g0))
            refine ⟨rfl, rfl, fun b g0 g1 g2 g3 g4 => (hfx b g0 g1 g2 g3).trans (hfr b g4), fun j hj => (jW_a (by omega)).trans ((congrFun (hf3 x (by omega) (by omega)) j).trans ((jW_k hj).trans (congrFun (hfr x (fun y hy => by omega)) j))), ⟨(jW_a (by omega)).trans ((congrFun (hf3 x (by omega) (by omega)) 1).trans jW_s), fun y hy => cRo_k (hfx _ (by omega) (by omega) (by omega) (by omega)) (hfx _ (by omega) (by omega) (by omega) (by omega)) (hfx _ (by omega) (by omega) (by omega) (by omega)) (hdn y (by omega))⟩, ⟨?_, fun j hj => ?_⟩, jW_s⟩
            · exact (jW_a (by omega)).trans (hn3.trans ((jW_a (by omega)).trans (congrFun (hfr (x + 5) (fun y hy => by omega)) 0)))
            · exact (jW_a (by omega)).trans ((hc3 j hj).trans ((jW_a (by omega)).trans (congrFun (hfr (x + 6) (fun y hy => by omega)) j)))
          · have h5 : (i : Int) < 4 := h5
            refine jWp.blk mt 1 ?_
            show _ ∧ jWp 126 30 [some (jO x), some (jI (i : Int))] [jO x] 0 0 (M1, w.2) _
            refine ⟨rfl, ?_⟩
            refine jWp.getR (pc' := 33) (o := (x + 1)) mt rfl rfl (jtg hX.X0) hX.R0 ?_
            show jWp 126 33 [some (jO x), some (jI (i : Int))] [jO (x + 1)] 0 0 (M1, w.2) _
            refine jWp.blk mt 1 ?_
            show jWp 126 34 [some (jO x), some (jI (i : Int))] [jI (i : Int), jO (x + 1)] 0 0 (M1, w.2) _
            refine jWp.aald (pc' := 35) (j := i) (o := (x + (363 + 6 * i))) mt rfl rfl (jrg hX.X1 (by decide) (by decide)) (b32_id (by omega) (by omega)) (jlt hX.X1 (by omega)) (hX.RR i (by omega)) ?_
            show jWp 126 35 [some (jO x), some (jI (i : Int))] [jO (x + (363 + 6 * i))] 0 0 (M1, w.2) _
            refine jWp.blk mt 1 ?_
            show _ ∧ jWp 126 36 [some (jO x), some (jI (i : Int))] [jO x, jO (x + (363 + 6 * i))] 0 0 (M1, w.2) _
            refine ⟨rfl, ?_⟩
            refine jWp.getR (pc' := 39) (o := (x + 2)) mt rfl rfl (jtg hX.X0) hX.R2 ?_
            show jWp 126 39 [some (jO x), some (jI (i : Int))] [jO (x + 2), jO (x + (363 + 6 * i))] 0 0 (M1, w.2) _
            refine jWp.blk mt 1 ?_
            show jWp 126 40 [some (jO x), some (jI (i : Int))] [jI (i : Int), jO (x + 2), jO (x + (363 + 6 * i))] 0 0 (M1, w.2) _
            refine jWp.aald (pc' := 41) (j := i) (o := (x + (366 + 6 * i))) mt rfl rfl (jrg hX.X2 (by decide) (by decide)) (b32_id (by omega) (by omega)) (jlt hX.X2 (by omega)) (hX.RI i (by omega)) ?_
            show jWp 126 41 [some (jO x), some (jI (i : Int))] [jO (x + (366 + 6 * i)), jO (x + (363 + 6 * i))] 0 0 (M1, w.2) _
            refine jWp.callv (as := [jO (x + (363 + 6 * i)), jO (x + (366 + 6 * i))]) (rest := []) mt rfl rfl rfl ⟨rfl, jtg (hX.KR i (by omega))⟩ ?_
            refine jCall.mono (C_rbecome (w := (M1, w.2)) (r := x + (363 + 6 * i)) (rs := x + (364 + 6 * i)) (rt := x + (365 + 6 * i)) (hX.KR i (by omega)) (hX.KRs i (by omega)) (hX.KRt i (by omega)) (hX.RRs i (by omega)) (hX.RRt i (by omega)) (jOK_M hO (hfr _ (fun y hy => by omega))) (r2 := x + (366 + 6 * i)) (rs2 := x + (367 + 6 * i)) (rt2 := x + (368 + 6 * i)) (hX.KI i (by omega)) (hX.KIs i (by omega)) (hX.RIs i (by omega)) (hRi (by omega)).1.1 (hRi (by omega)).1.2 (hRi (by omega)).2.1 (s := fun z => R (3 + 10 * i + z)) (hRi (by omega)).2.2 (by omega) ((congrFun (hfr (x + (366 + 6 * i)) (fun y hy => by omega)) 0).trans (hri (by omega)).1) ((congrFun (hfr (x + (366 + 6 * i)) (fun y hy => by omega)) 1).trans (hri (by omega)).2.1) (fun z hz => (congrFun (hfr (x + (367 + 6 * i)) (fun y hy => by omega)) z).trans ((hri (by omega)).2.2.1 z hz))) (fun v9 w9 h9 => ?_)
            obtain ⟨rfl, hbf, hcr⟩ := h9
            obtain ⟨M2, G9⟩ := w9
            have hg : G9 = w.2 := hbf.1
            subst hg
            have hf2 := hbf.2
            show jWp 126 44 [some (jO x), some (jI (i : Int))] [] 0 0 (M2, w.2) _
            refine jWp.blk mt 2 ?_
            show jWp 126 16 [some (jO x), some (jI ((i : Int) + 1))] [] 0 0 (M2, w.2) _
            refine jWp.le (l := [some (jO x), some (jI ((i : Int) + 1))]) (by exact ⟨rfl, rfl, trivial⟩) ?_
            exact ih3 (i + 1) M2 (by omega) (fun b hb => (hf2 b (hb i (by omega)).1 (hb i (by omega)).2.1 (hb i (by omega)).2.2).trans (hfr b hb)) (fun y hy => by
                rcases Nat.lt_or_ge y i with e | e
                · exact cRo_k (hf2 _ (by omega) (by omega) (by omega)) (hf2 _ (by omega) (by omega) (by omega)) (hf2 _ (by omega) (by omega) (by omega)) (hdn y e)
                · rw [show y = i by omega]
                  exact hcr) (by omega)
    refine jWp.le (l := [some (jO x), some (jI 0)]) (by exact ⟨rfl, rfl, trivial⟩) ?_
    exact lp2 _ 0 w.1 (by omega) (fun b _ => rfl) (fun y hy => absurd hy (by omega)) (Nat.lt_succ_self _)
  · have h1 : (k : Int) < 0 := h1
    exfalso; omega
set_option maxHeartbeats 4000000 in
set_option maxRecDepth 20000 in
theorem C_put {w : jS} {x : Nat} (hX : CW w.2 x) (hz : ∀ y, y < 3 → -1 ≤ w.1 (x + (387 + 2 * y)) 0 ∧ w.1 (x + (387 + 2 * y)) 0 ≤ 40) {l i y : Int} (hrl : r32 l) (hri : r32 i) (hry : r32 y) : jCall 121 [jO x, jI l, jI i, jI y] w (fun v w1 => ((¬ (0 ≤ l ∧ l ≤ 2)) → cno w x 0 (jI (-1)) v w1) ∧ (¬ (¬ (0 ≤ l ∧ l ≤ 2)) → ((w.1 (x + (387 + 2 * l.toNat)) 0) < 0) → v = some (jI (-11)) ∧ w1 = w) ∧ (¬ (¬ (0 ≤ l ∧ l ≤ 2)) → ¬ ((w.1 (x + (387 + 2 * l.toNat)) 0) < 0) → (¬ (0 ≤ i ∧ i < w.1 (x + (387 + 2 * l.toNat)) 0)) → v = some (jI (-13)) ∧ w1 = w) ∧ (¬ (¬ (0 ≤ l ∧ l ≤ 2)) → ¬ ((w.1 (x + (387 + 2 * l.toNat)) 0) < 0) → ¬ (¬ (0 ≤ i ∧ i < w.1 (x + (387 + 2 * l.toNat)) 0)) → v = some (jI 1) ∧ w1 = jW w (x + (388 + 2 * l.toNat)) i.toNat y)) := by
  have mt : jtb 121 = jT121 := rfl
  have hrl1 : -2147483648 ≤ l ∧ l < 2147483648 := hrl
  have hri1 : -2147483648 ≤ i ∧ i < 2147483648 := hri
  show jWp 121 0 [some (jO x), some (jI l), some (jI i), some (jI y)] [] 0 0 w _
  refine jWp.blk mt 2 ?_
  show _ ∧ jWp 121 2 [some (jO x), some (jI l), some (jI i), some (jI y)] [jI l, jO x] 0 0 w _
  refine ⟨rfl, ?_⟩
  refine jWp.callv (as := [jO x, jI l]) (rest := []) mt rfl rfl rfl ⟨rfl, jtg hX.X0⟩ ?_
  refine jCall.mono (C_isList (w := w) hX hrl) (fun v9 w9 h9 => ?_)
  rcases h9 with ⟨rfl, h9, h1⟩ | ⟨rfl, h9, h1⟩ <;> subst w9
  · have h1 : 0 ≤ l ∧ l ≤ 2 := h1
    show jWp 121 5 [some (jO x), some (jI l), some (jI i), some (jI y)] [jI 1] 0 0 w _
    obtain ⟨l1, rfl⟩ : ∃ l1 : Nat, l = (l1 : Int) := ⟨l.toNat, by omega⟩
    show jWp 121 5 [some (jO x), some (jI (l1 : Int)), some (jI i), some (jI y)] [jI 1] 0 0 w _
    have hzl := hz l1 (by omega)
    refine jWp.ifc (b := true) mt rfl (by decide) rfl ?_
    show jWp 121 14 [some (jO x), some (jI (l1 : Int)), some (jI i), some (jI y)] [] 0 0 w _
    refine jWp.blk mt 1 ?_
    show _ ∧ jWp 121 15 [some (jO x), some (jI (l1 : Int)), some (jI i), some (jI y)] [jO x] 0 0 w _
    refine ⟨rfl, ?_⟩
    refine jWp.getR (pc' := 18) (o := (x + 359)) mt rfl rfl (jtg hX.X0) hX.R11 ?_
    show jWp 121 18 [some (jO x), some (jI (l1 : Int)), some (jI i), some (jI y)] [jO (x + 359)] 0 0 w _
    refine jWp.blk mt 1 ?_
    show jWp 121 19 [some (jO x), some (jI (l1 : Int)), some (jI i), some (jI y)] [jI (l1 : Int), jO (x + 359)] 0 0 w _
    refine jWp.aald (pc' := 20) (j := l1) (o := (x + (387 + 2 * l1))) mt rfl rfl (jrg hX.X359 (by decide) (by decide)) (b32_id (by omega) (by omega)) (jlt hX.X359 (by omega)) (hX.RT l1 (by omega)) ?_
    show jWp 121 20 [some (jO x), some (jI (l1 : Int)), some (jI i), some (jI y)] [jO (x + (387 + 2 * l1))] 0 0 w _
    refine jWp.callv (as := [jO (x + (387 + 2 * l1))]) (rest := []) mt rfl rfl rfl ⟨rfl, jtg (hX.KT l1 (by omega))⟩ ?_
    refine jCall.mono (C_isMissing (w := w) (t := x + (387 + 2 * l1)) (tp := x + (388 + 2 * l1)) (hX.KT l1 (by omega)) (hX.KTp l1 (by omega)) (hX.RTp l1 (by omega)) rfl hzl) (fun v9 w9 h9 => ?_)
    rcases h9 with ⟨rfl, h9, h2⟩ | ⟨rfl, h9, h2⟩ <;> subst w9
    · have h2 : (w.1 (x + (387 + 2 * l1)) 0) < 0 := h2
      show jWp 121 23 [some (jO x), some (jI (l1 : Int)), some (jI i), some (jI y)] [jI 1] 0 0 w _
      refine jWp.ifc (b := false) mt rfl (by decide) rfl ?_
      show jWp 121 26 [some (jO x), some (jI (l1 : Int)), some (jI i), some (jI y)] [] 0 0 w _
      refine jWp.blk mt 2 ?_
      show _ ∧ jWp 121 29 [some (jO x), some (jI (l1 : Int)), some (jI i), some (jI y)] [jI (-11), jO x] 0 0 w _
      refine ⟨rfl, ?_⟩
      refine jWp.callv (as := [jO x, jI (-11)]) (rest := []) mt rfl rfl rfl ⟨rfl, jtg hX.X0⟩ ?_
      refine jCall.mono (C_refuse2 (w := w) hX (by decide)) (fun v9 w9 h9 => ?_)
      obtain ⟨rfl, h9⟩ := h9
      subst w9
      show jWp 121 32 [some (jO x), some (jI (l1 : Int)), some (jI i), some (jI y)] [jI (-11)] 0 0 w _
      refine jWp.ireti mt rfl ⟨rfl, rfl⟩ rfl ?_
      try rw [show ((l1 : Nat) : Int).toNat = l1 from rfl]
      refine ⟨fun c0 => ?_, fun c0 c1 => ?_, fun c0 c1 c2 => ?_, fun c0 c1 c2 => ?_⟩
      all_goals first
      | (exfalso; omega)
      | exact ⟨rfl, rfl⟩
    · have h2 : ¬ ((w.1 (x + (387 + 2 * l1)) 0) < 0) := h2
      show jWp 121 23 [some (jO x), some (jI (l1 : Int)), some (jI i), some (jI y)] [jI 0] 0 0 w _
      refine jWp.ifc (b := true) mt rfl (by decide) rfl ?_
      show jWp 121 33 [some (jO x), some (jI (l1 : Int)), some (jI i), some (jI y)] [] 0 0 w _
      refine jWp.blk mt 1 ?_
      show _ ∧ jWp 121 34 [some (jO x), some (jI (l1 : Int)), some (jI i), some (jI y)] [jO x] 0 0 w _
      refine ⟨rfl, ?_⟩
      refine jWp.getR (pc' := 37) (o := (x + 359)) mt rfl rfl (jtg hX.X0) hX.R11 ?_
      show jWp 121 37 [some (jO x), some (jI (l1 : Int)), some (jI i), some (jI y)] [jO (x + 359)] 0 0 w _
      refine jWp.blk mt 1 ?_
      show jWp 121 38 [some (jO x), some (jI (l1 : Int)), some (jI i), some (jI y)] [jI (l1 : Int), jO (x + 359)] 0 0 w _
      refine jWp.aald (pc' := 39) (j := l1) (o := (x + (387 + 2 * l1))) mt rfl rfl (jrg hX.X359 (by decide) (by decide)) (b32_id (by omega) (by omega)) (jlt hX.X359 (by omega)) (hX.RT l1 (by omega)) ?_
      show jWp 121 39 [some (jO x), some (jI (l1 : Int)), some (jI i), some (jI y)] [jO (x + (387 + 2 * l1))] 0 0 w _
      refine jWp.blk mt 1 ?_
      show jWp 121 40 [some (jO x), some (jI (l1 : Int)), some (jI i), some (jI y)] [jI i, jO (x + (387 + 2 * l1))] 0 0 w _
      refine jWp.callv (as := [jO (x + (387 + 2 * l1)), jI i]) (rest := []) mt rfl rfl rfl ⟨rfl, jtg (hX.KT l1 (by omega))⟩ ?_
      refine jCall.mono (C_thas (w := w) (t := x + (387 + 2 * l1)) (tp := x + (388 + 2 * l1)) (hX.KT l1 (by omega)) (hX.KTp l1 (by omega)) (hX.RTp l1 (by omega)) rfl hzl hri) (fun v9 w9 h9 => ?_)
      rcases h9 with ⟨rfl, h9, h3⟩ | ⟨rfl, h9, h3⟩ <;> subst w9
      · have h3 : 0 ≤ i ∧ i < (w.1 (x + (387 + 2 * l1)) 0) := h3
        show jWp 121 43 [some (jO x), some (jI (l1 : Int)), some (jI i), some (jI y)] [jI 1] 0 0 w _
        obtain ⟨i1, rfl⟩ : ∃ i1 : Nat, i = (i1 : Int) := ⟨i.toNat, by omega⟩
        show jWp 121 43 [some (jO x), some (jI (l1 : Int)), some (jI (i1 : Int)), some (jI y)] [jI 1] 0 0 w _
        refine jWp.ifc (b := true) mt rfl (by decide) rfl ?_
        show jWp 121 53 [some (jO x), some (jI (l1 : Int)), some (jI (i1 : Int)), some (jI y)] [] 0 0 w _
        refine jWp.blk mt 1 ?_
        show _ ∧ jWp 121 54 [some (jO x), some (jI (l1 : Int)), some (jI (i1 : Int)), some (jI y)] [jO x] 0 0 w _
        refine ⟨rfl, ?_⟩
        refine jWp.getR (pc' := 57) (o := (x + 359)) mt rfl rfl (jtg hX.X0) hX.R11 ?_
        show jWp 121 57 [some (jO x), some (jI (l1 : Int)), some (jI (i1 : Int)), some (jI y)] [jO (x + 359)] 0 0 w _
        refine jWp.blk mt 1 ?_
        show jWp 121 58 [some (jO x), some (jI (l1 : Int)), some (jI (i1 : Int)), some (jI y)] [jI (l1 : Int), jO (x + 359)] 0 0 w _
        refine jWp.aald (pc' := 59) (j := l1) (o := (x + (387 + 2 * l1))) mt rfl rfl (jrg hX.X359 (by decide) (by decide)) (b32_id (by omega) (by omega)) (jlt hX.X359 (by omega)) (hX.RT l1 (by omega)) ?_
        show jWp 121 59 [some (jO x), some (jI (l1 : Int)), some (jI (i1 : Int)), some (jI y)] [jO (x + (387 + 2 * l1))] 0 0 w _
        refine jWp.blk mt 2 ?_
        show jWp 121 61 [some (jO x), some (jI (l1 : Int)), some (jI (i1 : Int)), some (jI y)] [jI y, jI (i1 : Int), jO (x + (387 + 2 * l1))] 0 0 w _
        refine jWp.callv (as := [jO (x + (387 + 2 * l1)), jI (i1 : Int), jI y]) (rest := []) mt rfl rfl rfl ⟨rfl, jtg (hX.KT l1 (by omega))⟩ ?_
        refine jCall.mono (C_ttell (w := w) (t := x + (387 + 2 * l1)) (tp := x + (388 + 2 * l1)) (hX.KT l1 (by omega)) (hX.KTp l1 (by omega)) (hX.RTp l1 (by omega)) rfl hzl (i := i1) (v := y) (by omega)) (fun v9 w9 h9 => ?_)
        obtain ⟨rfl, hw9⟩ := h9
        subst hw9
        show jWp 121 64 [some (jO x), some (jI (l1 : Int)), some (jI (i1 : Int)), some (jI y)] [] 0 0 (jW w (x + (388 + 2 * l1)) i1 y) _
        refine jWp.blk mt 1 ?_
        show jWp 121 65 [some (jO x), some (jI (l1 : Int)), some (jI (i1 : Int)), some (jI y)] [jI 1] 0 0 (jW w (x + (388 + 2 * l1)) i1 y) _
        refine jWp.ireti mt rfl ⟨rfl, rfl⟩ rfl ?_
        try rw [show ((l1 : Nat) : Int).toNat = l1 from rfl]
        refine ⟨fun c0 => ?_, fun c0 c1 => ?_, fun c0 c1 c2 => ?_, fun c0 c1 c2 => ?_⟩
        all_goals first
        | (exfalso; omega)
        | exact ⟨rfl, rfl⟩
      · have h3 : ¬ (0 ≤ i ∧ i < (w.1 (x + (387 + 2 * l1)) 0)) := h3
        show jWp 121 43 [some (jO x), some (jI (l1 : Int)), some (jI i), some (jI y)] [jI 0] 0 0 w _
        refine jWp.ifc (b := false) mt rfl (by decide) rfl ?_
        show jWp 121 46 [some (jO x), some (jI (l1 : Int)), some (jI i), some (jI y)] [] 0 0 w _
        refine jWp.blk mt 2 ?_
        show _ ∧ jWp 121 49 [some (jO x), some (jI (l1 : Int)), some (jI i), some (jI y)] [jI (-13), jO x] 0 0 w _
        refine ⟨rfl, ?_⟩
        refine jWp.callv (as := [jO x, jI (-13)]) (rest := []) mt rfl rfl rfl ⟨rfl, jtg hX.X0⟩ ?_
        refine jCall.mono (C_refuse2 (w := w) hX (by decide)) (fun v9 w9 h9 => ?_)
        obtain ⟨rfl, h9⟩ := h9
        subst w9
        show jWp 121 52 [some (jO x), some (jI (l1 : Int)), some (jI i), some (jI y)] [jI (-13)] 0 0 w _
        refine jWp.ireti mt rfl ⟨rfl, rfl⟩ rfl ?_
        try rw [show ((l1 : Nat) : Int).toNat = l1 from rfl]
        refine ⟨fun c0 => ?_, fun c0 c1 => ?_, fun c0 c1 c2 => ?_, fun c0 c1 c2 => ?_⟩
        all_goals first
        | (exfalso; omega)
        | exact ⟨rfl, rfl⟩
  · have h1 : ¬ (0 ≤ l ∧ l ≤ 2) := h1
    show jWp 121 5 [some (jO x), some (jI l), some (jI i), some (jI y)] [jI 0] 0 0 w _
    refine jWp.ifc (b := false) mt rfl (by decide) rfl ?_
    show jWp 121 8 [some (jO x), some (jI l), some (jI i), some (jI y)] [] 0 0 w _
    refine jWp.blk mt 2 ?_
    show _ ∧ jWp 121 10 [some (jO x), some (jI l), some (jI i), some (jI y)] [jI (-1), jO x] 0 0 w _
    refine ⟨rfl, ?_⟩
    refine jWp.callv (as := [jO x, jI (-1)]) (rest := []) mt rfl rfl rfl ⟨rfl, jtg hX.X0⟩ ?_
    refine jCall.mono (C_refuse (w := w) (j := 0) hX (by decide) (by decide)) (fun v9 w9 h9 => ?_)
    obtain ⟨rfl, h9⟩ := h9
    subst h9
    show jWp 121 13 [some (jO x), some (jI l), some (jI i), some (jI y)] [jI (-1)] 0 0 (jW w (x + 362) 0 ((w.1 (x + 362) 0) + 1)) _
    refine jWp.ireti mt rfl ⟨rfl, rfl⟩ rfl ?_
    try rw [show ((l1 : Nat) : Int).toNat = l1 from rfl]
    refine ⟨fun c0 => ?_, fun c0 c1 => ?_, fun c0 c1 c2 => ?_, fun c0 c1 c2 => ?_⟩
    all_goals first
    | (exfalso; omega)
    | exact ⟨rfl, rfl⟩
set_option maxHeartbeats 4000000 in
set_option maxRecDepth 20000 in
theorem C_look {w : jS} {x : Nat} (hX : CW w.2 x) (hz : ∀ y, y < 3 → -1 ≤ w.1 (x + (387 + 2 * y)) 0 ∧ w.1 (x + (387 + 2 * y)) 0 ≤ 40) (hI : ∀ y, y < 3 → ∀ j, j < 40 → r32 (w.1 (x + (388 + 2 * y)) j)) {l i : Int} (hrl : r32 l) (hri : r32 i) : jCall 122 [jO x, jI l, jI i] w (fun v w1 => ((¬ (0 ≤ l ∧ l ≤ 2)) → cno w x 0 (jJ (4000000000000000000 - (-1))) v w1) ∧ (¬ (¬ (0 ≤ l ∧ l ≤ 2)) → ((w.1 (x + (387 + 2 * l.toNat)) 0) < 0) → v = some (jJ 4000000000000000011) ∧ w1 = w) ∧ (¬ (¬ (0 ≤ l ∧ l ≤ 2)) → ¬ ((w.1 (x + (387 + 2 * l.toNat)) 0) < 0) → (¬ (0 ≤ i ∧ i < w.1 (x + (387 + 2 * l.toNat)) 0)) → v = some (jJ 4000000000000000013) ∧ w1 = w) ∧ (¬ (¬ (0 ≤ l ∧ l ≤ 2)) → ¬ ((w.1 (x + (387 + 2 * l.toNat)) 0) < 0) → ¬ (¬ (0 ≤ i ∧ i < w.1 (x + (387 + 2 * l.toNat)) 0)) → v = some (jJ (w.1 (x + (388 + 2 * l.toNat)) i.toNat)) ∧ w1 = w)) := by
  have mt : jtb 122 = jT122 := rfl
  have hrl1 : -2147483648 ≤ l ∧ l < 2147483648 := hrl
  have hri1 : -2147483648 ≤ i ∧ i < 2147483648 := hri
  show jWp 122 0 [some (jO x), some (jI l), some (jI i)] [] 0 0 w _
  refine jWp.blk mt 2 ?_
  show _ ∧ jWp 122 2 [some (jO x), some (jI l), some (jI i)] [jI l, jO x] 0 0 w _
  refine ⟨rfl, ?_⟩
  refine jWp.callv (as := [jO x, jI l]) (rest := []) mt rfl rfl rfl ⟨rfl, jtg hX.X0⟩ ?_
  refine jCall.mono (C_isList (w := w) hX hrl) (fun v9 w9 h9 => ?_)
  rcases h9 with ⟨rfl, h9, h1⟩ | ⟨rfl, h9, h1⟩ <;> subst w9
  · have h1 : 0 ≤ l ∧ l ≤ 2 := h1
    show jWp 122 5 [some (jO x), some (jI l), some (jI i)] [jI 1] 0 0 w _
    obtain ⟨l1, rfl⟩ : ∃ l1 : Nat, l = (l1 : Int) := ⟨l.toNat, by omega⟩
    show jWp 122 5 [some (jO x), some (jI (l1 : Int)), some (jI i)] [jI 1] 0 0 w _
    have hzl := hz l1 (by omega)
    refine jWp.ifc (b := true) mt rfl (by decide) rfl ?_
    show jWp 122 14 [some (jO x), some (jI (l1 : Int)), some (jI i)] [] 0 0 w _
    refine jWp.blk mt 1 ?_
    show _ ∧ jWp 122 15 [some (jO x), some (jI (l1 : Int)), some (jI i)] [jO x] 0 0 w _
    refine ⟨rfl, ?_⟩
    refine jWp.getR (pc' := 18) (o := (x + 359)) mt rfl rfl (jtg hX.X0) hX.R11 ?_
    show jWp 122 18 [some (jO x), some (jI (l1 : Int)), some (jI i)] [jO (x + 359)] 0 0 w _
    refine jWp.blk mt 1 ?_
    show jWp 122 19 [some (jO x), some (jI (l1 : Int)), some (jI i)] [jI (l1 : Int), jO (x + 359)] 0 0 w _
    refine jWp.aald (pc' := 20) (j := l1) (o := (x + (387 + 2 * l1))) mt rfl rfl (jrg hX.X359 (by decide) (by decide)) (b32_id (by omega) (by omega)) (jlt hX.X359 (by omega)) (hX.RT l1 (by omega)) ?_
    show jWp 122 20 [some (jO x), some (jI (l1 : Int)), some (jI i)] [jO (x + (387 + 2 * l1))] 0 0 w _
    refine jWp.callv (as := [jO (x + (387 + 2 * l1))]) (rest := []) mt rfl rfl rfl ⟨rfl, jtg (hX.KT l1 (by omega))⟩ ?_
    refine jCall.mono (C_isMissing (w := w) (t := x + (387 + 2 * l1)) (tp := x + (388 + 2 * l1)) (hX.KT l1 (by omega)) (hX.KTp l1 (by omega)) (hX.RTp l1 (by omega)) rfl hzl) (fun v9 w9 h9 => ?_)
    rcases h9 with ⟨rfl, h9, h2⟩ | ⟨rfl, h9, h2⟩ <;> subst w9
    · have h2 : (w.1 (x + (387 + 2 * l1)) 0) < 0 := h2
      show jWp 122 23 [some (jO x), some (jI (l1 : Int)), some (jI i)] [jI 1] 0 0 w _
      refine jWp.ifc (b := false) mt rfl (by decide) rfl ?_
      show jWp 122 26 [some (jO x), some (jI (l1 : Int)), some (jI i)] [] 0 0 w _
      refine jWp.blk mt 2 ?_
      show _ ∧ jWp 122 29 [some (jO x), some (jI (l1 : Int)), some (jI i)] [jI (-11), jO x] 0 0 w _
      refine ⟨rfl, ?_⟩
      refine jWp.callv (as := [jO x, jI (-11)]) (rest := []) mt rfl rfl rfl ⟨rfl, jtg hX.X0⟩ ?_
      refine jCall.mono (C_farther2 (w := w) hX (by decide)) (fun v9 w9 h9 => ?_)
      obtain ⟨rfl, h9⟩ := h9
      subst w9
      show jWp 122 32 [some (jO x), some (jI (l1 : Int)), some (jI i)] [jJ (4000000000000000000 - (-11))] 0 0 w _
      refine jWp.lret mt rfl ⟨rfl, rfl⟩ rfl ?_
      try rw [show ((l1 : Nat) : Int).toNat = l1 from rfl]
      refine ⟨fun c0 => ?_, fun c0 c1 => ?_, fun c0 c1 c2 => ?_, fun c0 c1 c2 => ?_⟩
      all_goals first
      | (exfalso; omega)
      | exact ⟨rfl, rfl⟩
    · have h2 : ¬ ((w.1 (x + (387 + 2 * l1)) 0) < 0) := h2
      show jWp 122 23 [some (jO x), some (jI (l1 : Int)), some (jI i)] [jI 0] 0 0 w _
      refine jWp.ifc (b := true) mt rfl (by decide) rfl ?_
      show jWp 122 33 [some (jO x), some (jI (l1 : Int)), some (jI i)] [] 0 0 w _
      refine jWp.blk mt 1 ?_
      show _ ∧ jWp 122 34 [some (jO x), some (jI (l1 : Int)), some (jI i)] [jO x] 0 0 w _
      refine ⟨rfl, ?_⟩
      refine jWp.getR (pc' := 37) (o := (x + 359)) mt rfl rfl (jtg hX.X0) hX.R11 ?_
      show jWp 122 37 [some (jO x), some (jI (l1 : Int)), some (jI i)] [jO (x + 359)] 0 0 w _
      refine jWp.blk mt 1 ?_
      show jWp 122 38 [some (jO x), some (jI (l1 : Int)), some (jI i)] [jI (l1 : Int), jO (x + 359)] 0 0 w _
      refine jWp.aald (pc' := 39) (j := l1) (o := (x + (387 + 2 * l1))) mt rfl rfl (jrg hX.X359 (by decide) (by decide)) (b32_id (by omega) (by omega)) (jlt hX.X359 (by omega)) (hX.RT l1 (by omega)) ?_
      show jWp 122 39 [some (jO x), some (jI (l1 : Int)), some (jI i)] [jO (x + (387 + 2 * l1))] 0 0 w _
      refine jWp.blk mt 1 ?_
      show jWp 122 40 [some (jO x), some (jI (l1 : Int)), some (jI i)] [jI i, jO (x + (387 + 2 * l1))] 0 0 w _
      refine jWp.callv (as := [jO (x + (387 + 2 * l1)), jI i]) (rest := []) mt rfl rfl rfl ⟨rfl, jtg (hX.KT l1 (by omega))⟩ ?_
      refine jCall.mono (C_thas (w := w) (t := x + (387 + 2 * l1)) (tp := x + (388 + 2 * l1)) (hX.KT l1 (by omega)) (hX.KTp l1 (by omega)) (hX.RTp l1 (by omega)) rfl hzl hri) (fun v9 w9 h9 => ?_)
      rcases h9 with ⟨rfl, h9, h3⟩ | ⟨rfl, h9, h3⟩ <;> subst w9
      · have h3 : 0 ≤ i ∧ i < (w.1 (x + (387 + 2 * l1)) 0) := h3
        show jWp 122 43 [some (jO x), some (jI (l1 : Int)), some (jI i)] [jI 1] 0 0 w _
        obtain ⟨i1, rfl⟩ : ∃ i1 : Nat, i = (i1 : Int) := ⟨i.toNat, by omega⟩
        show jWp 122 43 [some (jO x), some (jI (l1 : Int)), some (jI (i1 : Int))] [jI 1] 0 0 w _
        refine jWp.ifc (b := true) mt rfl (by decide) rfl ?_
        show jWp 122 53 [some (jO x), some (jI (l1 : Int)), some (jI (i1 : Int))] [] 0 0 w _
        refine jWp.blk mt 1 ?_
        show _ ∧ jWp 122 54 [some (jO x), some (jI (l1 : Int)), some (jI (i1 : Int))] [jO x] 0 0 w _
        refine ⟨rfl, ?_⟩
        refine jWp.getR (pc' := 57) (o := (x + 359)) mt rfl rfl (jtg hX.X0) hX.R11 ?_
        show jWp 122 57 [some (jO x), some (jI (l1 : Int)), some (jI (i1 : Int))] [jO (x + 359)] 0 0 w _
        refine jWp.blk mt 1 ?_
        show jWp 122 58 [some (jO x), some (jI (l1 : Int)), some (jI (i1 : Int))] [jI (l1 : Int), jO (x + 359)] 0 0 w _
        refine jWp.aald (pc' := 59) (j := l1) (o := (x + (387 + 2 * l1))) mt rfl rfl (jrg hX.X359 (by decide) (by decide)) (b32_id (by omega) (by omega)) (jlt hX.X359 (by omega)) (hX.RT l1 (by omega)) ?_
        show jWp 122 59 [some (jO x), some (jI (l1 : Int)), some (jI (i1 : Int))] [jO (x + (387 + 2 * l1))] 0 0 w _
        refine jWp.blk mt 1 ?_
        show jWp 122 60 [some (jO x), some (jI (l1 : Int)), some (jI (i1 : Int))] [jI (i1 : Int), jO (x + (387 + 2 * l1))] 0 0 w _
        refine jWp.callv (as := [jO (x + (387 + 2 * l1)), jI (i1 : Int)]) (rest := []) mt rfl rfl rfl ⟨rfl, jtg (hX.KT l1 (by omega))⟩ ?_
        refine jCall.mono (C_tat (w := w) (t := x + (387 + 2 * l1)) (tp := x + (388 + 2 * l1)) (hX.KT l1 (by omega)) (hX.KTp l1 (by omega)) (hX.RTp l1 (by omega)) rfl hzl (i := i1) (by omega)) (fun v9 w9 h9 => ?_)
        obtain ⟨rfl, h9⟩ := h9
        subst w9
        show jWp 122 63 [some (jO x), some (jI (l1 : Int)), some (jI (i1 : Int))] [jI (w.1 (x + (388 + 2 * l1)) i1)] 0 0 w _
        have hr9 : -2147483648 ≤ w.1 (x + (388 + 2 * l1)) i1 ∧ w.1 (x + (388 + 2 * l1)) i1 < 2147483648 := hI l1 (by omega) i1 (by omega)
        refine jWp.i2l (pc' := 64) mt rfl rfl (b32_id (by omega) (by omega)) ?_
        show jWp 122 64 [some (jO x), some (jI (l1 : Int)), some (jI (i1 : Int))] [jJ (w.1 (x + (388 + 2 * l1)) i1)] 0 0 w _
        refine jWp.lret mt rfl ⟨rfl, rfl⟩ rfl ?_
        try rw [show ((l1 : Nat) : Int).toNat = l1 from rfl]
        refine ⟨fun c0 => ?_, fun c0 c1 => ?_, fun c0 c1 c2 => ?_, fun c0 c1 c2 => ?_⟩
        all_goals first
        | (exfalso; omega)
        | exact ⟨rfl, rfl⟩
      · have h3 : ¬ (0 ≤ i ∧ i < (w.1 (x + (387 + 2 * l1)) 0)) := h3
        show jWp 122 43 [some (jO x), some (jI (l1 : Int)), some (jI i)] [jI 0] 0 0 w _
        refine jWp.ifc (b := false) mt rfl (by decide) rfl ?_
        show jWp 122 46 [some (jO x), some (jI (l1 : Int)), some (jI i)] [] 0 0 w _
        refine jWp.blk mt 2 ?_
        show _ ∧ jWp 122 49 [some (jO x), some (jI (l1 : Int)), some (jI i)] [jI (-13), jO x] 0 0 w _
        refine ⟨rfl, ?_⟩
        refine jWp.callv (as := [jO x, jI (-13)]) (rest := []) mt rfl rfl rfl ⟨rfl, jtg hX.X0⟩ ?_
        refine jCall.mono (C_farther2 (w := w) hX (by decide)) (fun v9 w9 h9 => ?_)
        obtain ⟨rfl, h9⟩ := h9
        subst w9
        show jWp 122 52 [some (jO x), some (jI (l1 : Int)), some (jI i)] [jJ (4000000000000000000 - (-13))] 0 0 w _
        refine jWp.lret mt rfl ⟨rfl, rfl⟩ rfl ?_
        try rw [show ((l1 : Nat) : Int).toNat = l1 from rfl]
        refine ⟨fun c0 => ?_, fun c0 c1 => ?_, fun c0 c1 c2 => ?_, fun c0 c1 c2 => ?_⟩
        all_goals first
        | (exfalso; omega)
        | exact ⟨rfl, rfl⟩
  · have h1 : ¬ (0 ≤ l ∧ l ≤ 2) := h1
    show jWp 122 5 [some (jO x), some (jI l), some (jI i)] [jI 0] 0 0 w _
    refine jWp.ifc (b := false) mt rfl (by decide) rfl ?_
    show jWp 122 8 [some (jO x), some (jI l), some (jI i)] [] 0 0 w _
    refine jWp.blk mt 2 ?_
    show _ ∧ jWp 122 10 [some (jO x), some (jI l), some (jI i)] [jI (-1), jO x] 0 0 w _
    refine ⟨rfl, ?_⟩
    refine jWp.callv (as := [jO x, jI (-1)]) (rest := []) mt rfl rfl rfl ⟨rfl, jtg hX.X0⟩ ?_
    refine jCall.mono (C_farther (w := w) (j := 0) hX (by decide) (by decide)) (fun v9 w9 h9 => ?_)
    obtain ⟨rfl, h9⟩ := h9
    subst h9
    show jWp 122 13 [some (jO x), some (jI l), some (jI i)] [jJ (4000000000000000000 - (-1))] 0 0 (jW w (x + 362) 0 ((w.1 (x + 362) 0) + 1)) _
    refine jWp.lret mt rfl ⟨rfl, rfl⟩ rfl ?_
    try rw [show ((l1 : Nat) : Int).toNat = l1 from rfl]
    refine ⟨fun c0 => ?_, fun c0 c1 => ?_, fun c0 c1 c2 => ?_, fun c0 c1 c2 => ?_⟩
    all_goals first
    | (exfalso; omega)
    | exact ⟨rfl, rfl⟩
set_option maxHeartbeats 4000000 in
set_option maxRecDepth 20000 in
theorem C_list {w : jS} {x : Nat} (hX : CW w.2 x) {l n : Int} (hrl : r32 l) (hrn : r32 n) : jCall 120 [jO x, jI l, jI n] w (fun v w1 => ((¬ (0 ≤ l ∧ l ≤ 2)) → cno w x 0 (jI (-1)) v w1) ∧ (¬ (¬ (0 ≤ l ∧ l ≤ 2)) → (40 < n) → cno w x 5 (jI (-6)) v w1) ∧ (¬ (¬ (0 ≤ l ∧ l ≤ 2)) → ¬ (40 < n) → (n < 0) → v = some (jI (-14)) ∧ w1 = w) ∧ (¬ (¬ (0 ≤ l ∧ l ≤ 2)) → ¬ (40 < n) → ¬ (n < 0) → v = some (jI 1) ∧ w1.2 = w.2 ∧ (∀ b, b ≠ x + (387 + 2 * l.toNat) → b ≠ x + (388 + 2 * l.toNat) → w1.1 b = w.1 b) ∧ w1.1 (x + (387 + 2 * l.toNat)) 0 = n ∧ ∀ j, j < 40 → w1.1 (x + (388 + 2 * l.toNat)) j = 0)) := by
  have mt : jtb 120 = jT120 := rfl
  have hrl1 : -2147483648 ≤ l ∧ l < 2147483648 := hrl
  have hrn1 : -2147483648 ≤ n ∧ n < 2147483648 := hrn
  show jWp 120 0 [some (jO x), some (jI l), some (jI n)] [] 0 0 w _
  refine jWp.blk mt 2 ?_
  show _ ∧ jWp 120 2 [some (jO x), some (jI l), some (jI n)] [jI l, jO x] 0 0 w _
  refine ⟨rfl, ?_⟩
  refine jWp.callv (as := [jO x, jI l]) (rest := []) mt rfl rfl rfl ⟨rfl, jtg hX.X0⟩ ?_
  refine jCall.mono (C_isList (w := w) hX hrl) (fun v9 w9 h9 => ?_)
  rcases h9 with ⟨rfl, h9, h1⟩ | ⟨rfl, h9, h1⟩ <;> subst w9
  · have h1 : 0 ≤ l ∧ l ≤ 2 := h1
    show jWp 120 5 [some (jO x), some (jI l), some (jI n)] [jI 1] 0 0 w _
    obtain ⟨l1, rfl⟩ : ∃ l1 : Nat, l = (l1 : Int) := ⟨l.toNat, by omega⟩
    show jWp 120 5 [some (jO x), some (jI (l1 : Int)), some (jI n)] [jI 1] 0 0 w _
    refine jWp.ifc (b := true) mt rfl (by decide) rfl ?_
    show jWp 120 14 [some (jO x), some (jI (l1 : Int)), some (jI n)] [] 0 0 w _
    refine jWp.blk mt 2 ?_
    show jWp 120 17 [some (jO x), some (jI (l1 : Int)), some (jI n)] [jI 40, jI n] 0 0 w _
    refine jWp.icmp (pc' := 20) mt rfl rfl (b32_id (by omega) (by omega)) (show b32 40 = 40 by decide) (fun h2 => ?_) (fun h2 => ?_)
    · have h2 : n ≤ 40 := h2
      refine jWp.blk mt 1 ?_
      show jWp 120 28 [some (jO x), some (jI (l1 : Int)), some (jI n)] [jI n] 0 0 w _
      refine jWp.ifz (pc' := 31) mt rfl rfl (b32_id (by omega) (by omega)) (fun h3 => ?_) (fun h3 => ?_)
      · have h3 : 0 ≤ n := h3
        refine jWp.blk mt 1 ?_
        show _ ∧ jWp 120 39 [some (jO x), some (jI (l1 : Int)), some (jI n)] [jO x] 0 0 w _
        refine ⟨rfl, ?_⟩
        refine jWp.getR (pc' := 42) (o := (x + 359)) mt rfl rfl (jtg hX.X0) hX.R11 ?_
        show jWp 120 42 [some (jO x), some (jI (l1 : Int)), some (jI n)] [jO (x + 359)] 0 0 w _
        refine jWp.blk mt 1 ?_
        show jWp 120 43 [some (jO x), some (jI (l1 : Int)), some (jI n)] [jI (l1 : Int), jO (x + 359)] 0 0 w _
        refine jWp.aald (pc' := 44) (j := l1) (o := (x + (387 + 2 * l1))) mt rfl rfl (jrg hX.X359 (by decide) (by decide)) (b32_id (by omega) (by omega)) (jlt hX.X359 (by omega)) (hX.RT l1 (by omega)) ?_
        show jWp 120 44 [some (jO x), some (jI (l1 : Int)), some (jI n)] [jO (x + (387 + 2 * l1))] 0 0 w _
        refine jWp.blk mt 1 ?_
        show jWp 120 45 [some (jO x), some (jI (l1 : Int)), some (jI n)] [jI n, jO (x + (387 + 2 * l1))] 0 0 w _
        refine jWp.callv (as := [jO (x + (387 + 2 * l1)), jI n]) (rest := []) mt rfl rfl rfl ⟨rfl, jtg (hX.KT l1 (by omega))⟩ ?_
        refine jCall.mono (C_tclear (w := w) (t := x + (387 + 2 * l1)) (tp := x + (388 + 2 * l1)) (n := n) (hX.KT l1 (by omega)) (hX.KTp l1 (by omega)) (hX.RTp l1 (by omega))) (fun v9 w9 h9 => ?_)
        obtain ⟨rfl, hbf, hz1, hi1⟩ := h9
        obtain ⟨M1, G9⟩ := w9
        have hg : G9 = w.2 := hbf.1
        subst hg
        show jWp 120 48 [some (jO x), some (jI (l1 : Int)), some (jI n)] [] 0 0 (M1, w.2) _
        refine jWp.blk mt 1 ?_
        show jWp 120 49 [some (jO x), some (jI (l1 : Int)), some (jI n)] [jI 1] 0 0 (M1, w.2) _
        refine jWp.ireti mt rfl ⟨rfl, rfl⟩ rfl ?_
        refine ⟨fun c0 => ?_, fun c0 c1 => ?_, fun c0 c1 c2 => ?_, fun c0 c1 c2 => ?_⟩
        all_goals first
        | (exfalso; omega)
        | exact ⟨rfl, rfl⟩
        | exact ⟨rfl, rfl, hbf.2, hz1, hi1⟩
      · have h3 : n < 0 := h3
        refine jWp.blk mt 2 ?_
        show _ ∧ jWp 120 34 [some (jO x), some (jI (l1 : Int)), some (jI n)] [jI (-14), jO x] 0 0 w _
        refine ⟨rfl, ?_⟩
        refine jWp.callv (as := [jO x, jI (-14)]) (rest := []) mt rfl rfl rfl ⟨rfl, jtg hX.X0⟩ ?_
        refine jCall.mono (C_refuse2 (w := w) hX (by decide)) (fun v9 w9 h9 => ?_)
        obtain ⟨rfl, h9⟩ := h9
        subst w9
        show jWp 120 37 [some (jO x), some (jI (l1 : Int)), some (jI n)] [jI (-14)] 0 0 w _
        refine jWp.ireti mt rfl ⟨rfl, rfl⟩ rfl ?_
        refine ⟨fun c0 => ?_, fun c0 c1 => ?_, fun c0 c1 c2 => ?_, fun c0 c1 c2 => ?_⟩
        all_goals first
        | (exfalso; omega)
        | exact ⟨rfl, rfl⟩
        | exact ⟨rfl, rfl, hbf.2, hz1, hi1⟩
    · have h2 : 40 < n := h2
      refine jWp.blk mt 2 ?_
      show _ ∧ jWp 120 23 [some (jO x), some (jI (l1 : Int)), some (jI n)] [jI (-6), jO x] 0 0 w _
      refine ⟨rfl, ?_⟩
      refine jWp.callv (as := [jO x, jI (-6)]) (rest := []) mt rfl rfl rfl ⟨rfl, jtg hX.X0⟩ ?_
      refine jCall.mono (C_refuse (w := w) (j := 5) hX (by decide) (by decide)) (fun v9 w9 h9 => ?_)
      obtain ⟨rfl, h9⟩ := h9
      subst h9
      show jWp 120 26 [some (jO x), some (jI (l1 : Int)), some (jI n)] [jI (-6)] 0 0 (jW w (x + 362) 5 ((w.1 (x + 362) 5) + 1)) _
      refine jWp.ireti mt rfl ⟨rfl, rfl⟩ rfl ?_
      refine ⟨fun c0 => ?_, fun c0 c1 => ?_, fun c0 c1 c2 => ?_, fun c0 c1 c2 => ?_⟩
      all_goals first
      | (exfalso; omega)
      | exact ⟨rfl, rfl⟩
      | exact ⟨rfl, rfl, hbf.2, hz1, hi1⟩
  · have h1 : ¬ (0 ≤ l ∧ l ≤ 2) := h1
    show jWp 120 5 [some (jO x), some (jI l), some (jI n)] [jI 0] 0 0 w _
    refine jWp.ifc (b := false) mt rfl (by decide) rfl ?_
    show jWp 120 8 [some (jO x), some (jI l), some (jI n)] [] 0 0 w _
    refine jWp.blk mt 2 ?_
    show _ ∧ jWp 120 10 [some (jO x), some (jI l), some (jI n)] [jI (-1), jO x] 0 0 w _
    refine ⟨rfl, ?_⟩
    refine jWp.callv (as := [jO x, jI (-1)]) (rest := []) mt rfl rfl rfl ⟨rfl, jtg hX.X0⟩ ?_
    refine jCall.mono (C_refuse (w := w) (j := 0) hX (by decide) (by decide)) (fun v9 w9 h9 => ?_)
    obtain ⟨rfl, h9⟩ := h9
    subst h9
    show jWp 120 13 [some (jO x), some (jI l), some (jI n)] [jI (-1)] 0 0 (jW w (x + 362) 0 ((w.1 (x + 362) 0) + 1)) _
    refine jWp.ireti mt rfl ⟨rfl, rfl⟩ rfl ?_
    refine ⟨fun c0 => ?_, fun c0 c1 => ?_, fun c0 c1 c2 => ?_, fun c0 c1 c2 => ?_⟩
    all_goals first
    | (exfalso; omega)
    | exact ⟨rfl, rfl⟩
    | exact ⟨rfl, rfl, hbf.2, hz1, hi1⟩
set_option maxHeartbeats 4000000 in
set_option maxRecDepth 20000 in
theorem C_laws {w : jS} {x : Nat} (hX : CW w.2 x) (hz : ∀ y, y < 3 → -1 ≤ w.1 (x + (387 + 2 * y)) 0 ∧ w.1 (x + (387 + 2 * y)) 0 ≤ 40) (hI : ∀ y, y < 3 → ∀ j, j < 40 → r32 (w.1 (x + (388 + 2 * y)) j)) (hO : jOK w) {l f : Int} (hrl : r32 l) (hrf : r32 f) : jCall 117 [jO x, jI l, jI f] w (fun v w1 => ((¬ (0 ≤ l ∧ l ≤ 2)) → cno w x 0 (jI (-1)) v w1) ∧ (¬ (¬ (0 ≤ l ∧ l ≤ 2)) → (f < 0) → cno w x 3 (jI (-4)) v w1) ∧ (¬ (¬ (0 ≤ l ∧ l ≤ 2)) → ¬ (f < 0) → (9 < f) → cno w x 5 (jI (-6)) v w1) ∧ (¬ (¬ (0 ≤ l ∧ l ≤ 2)) → ¬ (f < 0) → ¬ (9 < f) → ((w.1 (x + (387 + 2 * l.toNat)) 0) < 0) → v = some (jI (-11)) ∧ w1 = w) ∧ (¬ (¬ (0 ≤ l ∧ l ≤ 2)) → ¬ (f < 0) → ¬ (9 < f) → ¬ ((w.1 (x + (387 + 2 * l.toNat)) 0) < 0) → (¬ zsl (w.1 (x + (388 + 2 * l.toNat))) (w.1 (x + (387 + 2 * l.toNat)) 0).toNat) → cno w x 2 (jI (-3)) v w1) ∧ (¬ (¬ (0 ≤ l ∧ l ≤ 2)) → ¬ (f < 0) → ¬ (9 < f) → ¬ ((w.1 (x + (387 + 2 * l.toNat)) 0) < 0) → ¬ (¬ zsl (w.1 (x + (388 + 2 * l.toNat))) (w.1 (x + (387 + 2 * l.toNat)) 0).toNat) → v = some (jI (zbt (fun z : Nat => zmd (z : Int) f (w.1 (x + (388 + 2 * l.toNat))) (w.1 (x + (387 + 2 * l.toNat)) 0).toNat) 7)) ∧ w1 = w)) := by
  have mt : jtb 117 = jT117 := rfl
  have hrl1 : -2147483648 ≤ l ∧ l < 2147483648 := hrl
  have hrf1 : -2147483648 ≤ f ∧ f < 2147483648 := hrf
  show jWp 117 0 [some (jO x), some (jI l), some (jI f), none, none] [] 0 0 w _
  refine jWp.blk mt 2 ?_
  show _ ∧ jWp 117 2 [some (jO x), some (jI l), some (jI f), none, none] [jI l, jO x] 0 0 w _
  refine ⟨rfl, ?_⟩
  refine jWp.callv (as := [jO x, jI l]) (rest := []) mt rfl rfl rfl ⟨rfl, jtg hX.X0⟩ ?_
  refine jCall.mono (C_isList (w := w) hX hrl) (fun v9 w9 h9 => ?_)
  rcases h9 with ⟨rfl, h9, h1⟩ | ⟨rfl, h9, h1⟩ <;> subst w9
  · have h1 : 0 ≤ l ∧ l ≤ 2 := h1
    show jWp 117 5 [some (jO x), some (jI l), some (jI f), none, none] [jI 1] 0 0 w _
    obtain ⟨l1, rfl⟩ : ∃ l1 : Nat, l = (l1 : Int) := ⟨l.toNat, by omega⟩
    show jWp 117 5 [some (jO x), some (jI (l1 : Int)), some (jI f), none, none] [jI 1] 0 0 w _
    have hzl := hz l1 (by omega)
    refine jWp.ifc (b := true) mt rfl (by decide) rfl ?_
    show jWp 117 14 [some (jO x), some (jI (l1 : Int)), some (jI f), none, none] [] 0 0 w _
    refine jWp.blk mt 1 ?_
    show jWp 117 15 [some (jO x), some (jI (l1 : Int)), some (jI f), none, none] [jI f] 0 0 w _
    refine jWp.ifz (pc' := 18) mt rfl rfl (b32_id (by omega) (by omega)) (fun h2 => ?_) (fun h2 => ?_)
    · have h2 : 0 ≤ f := h2
      refine jWp.blk mt 2 ?_
      show jWp 117 28 [some (jO x), some (jI (l1 : Int)), some (jI f), none, none] [jI 9, jI f] 0 0 w _
      refine jWp.icmp (pc' := 31) mt rfl rfl (b32_id (by omega) (by omega)) (show b32 9 = 9 by decide) (fun h3 => ?_) (fun h3 => ?_)
      · have h3 : f ≤ 9 := h3
        refine jWp.blk mt 1 ?_
        show _ ∧ jWp 117 39 [some (jO x), some (jI (l1 : Int)), some (jI f), none, none] [jO x] 0 0 w _
        refine ⟨rfl, ?_⟩
        refine jWp.getR (pc' := 42) (o := (x + 359)) mt rfl rfl (jtg hX.X0) hX.R11 ?_
        show jWp 117 42 [some (jO x), some (jI (l1 : Int)), some (jI f), none, none] [jO (x + 359)] 0 0 w _
        refine jWp.blk mt 1 ?_
        show jWp 117 43 [some (jO x), some (jI (l1 : Int)), some (jI f), none, none] [jI (l1 : Int), jO (x + 359)] 0 0 w _
        refine jWp.aald (pc' := 44) (j := l1) (o := (x + (387 + 2 * l1))) mt rfl rfl (jrg hX.X359 (by decide) (by decide)) (b32_id (by omega) (by omega)) (jlt hX.X359 (by omega)) (hX.RT l1 (by omega)) ?_
        show jWp 117 44 [some (jO x), some (jI (l1 : Int)), some (jI f), none, none] [jO (x + (387 + 2 * l1))] 0 0 w _
        refine jWp.callv (as := [jO (x + (387 + 2 * l1))]) (rest := []) mt rfl rfl rfl ⟨rfl, jtg (hX.KT l1 (by omega))⟩ ?_
        refine jCall.mono (C_isMissing (w := w) (t := x + (387 + 2 * l1)) (tp := x + (388 + 2 * l1)) (hX.KT l1 (by omega)) (hX.KTp l1 (by omega)) (hX.RTp l1 (by omega)) rfl hzl) (fun v9 w9 h9 => ?_)
        rcases h9 with ⟨rfl, h9, h4⟩ | ⟨rfl, h9, h4⟩ <;> subst w9
        · have h4 : (w.1 (x + (387 + 2 * l1)) 0) < 0 := h4
          show jWp 117 47 [some (jO x), some (jI (l1 : Int)), some (jI f), none, none] [jI 1] 0 0 w _
          refine jWp.ifc (b := false) mt rfl (by decide) rfl ?_
          show jWp 117 50 [some (jO x), some (jI (l1 : Int)), some (jI f), none, none] [] 0 0 w _
          refine jWp.blk mt 2 ?_
          show _ ∧ jWp 117 53 [some (jO x), some (jI (l1 : Int)), some (jI f), none, none] [jI (-11), jO x] 0 0 w _
          refine ⟨rfl, ?_⟩
          refine jWp.callv (as := [jO x, jI (-11)]) (rest := []) mt rfl rfl rfl ⟨rfl, jtg hX.X0⟩ ?_
          refine jCall.mono (C_refuse2 (w := w) hX (by decide)) (fun v9 w9 h9 => ?_)
          obtain ⟨rfl, h9⟩ := h9
          subst w9
          show jWp 117 56 [some (jO x), some (jI (l1 : Int)), some (jI f), none, none] [jI (-11)] 0 0 w _
          refine jWp.ireti mt rfl ⟨rfl, rfl⟩ rfl ?_
          try rw [show ((l1 : Nat) : Int).toNat = l1 from rfl]
          refine ⟨fun c0 => ?_, fun c0 c1 => ?_, fun c0 c1 c2 => ?_, fun c0 c1 c2 c3 => ?_, fun c0 c1 c2 c3 c4 => ?_, fun c0 c1 c2 c3 c4 => ?_⟩
          all_goals first
          | (exfalso; omega)
          | contradiction
          | (exfalso; exact absurd (by assumption) c4)
          | (exfalso; exact absurd (by assumption) c3)
          | exact ⟨rfl, rfl⟩
          | exact ⟨by rw [hb, show k = 7 by omega], rfl⟩
        · have h4 : ¬ ((w.1 (x + (387 + 2 * l1)) 0) < 0) := h4
          show jWp 117 47 [some (jO x), some (jI (l1 : Int)), some (jI f), none, none] [jI 0] 0 0 w _
          refine jWp.ifc (b := true) mt rfl (by decide) rfl ?_
          show jWp 117 57 [some (jO x), some (jI (l1 : Int)), some (jI f), none, none] [] 0 0 w _
          refine jWp.blk mt 1 ?_
          show _ ∧ jWp 117 58 [some (jO x), some (jI (l1 : Int)), some (jI f), none, none] [jO x] 0 0 w _
          refine ⟨rfl, ?_⟩
          refine jWp.getR (pc' := 61) (o := (x + 359)) mt rfl rfl (jtg hX.X0) hX.R11 ?_
          show jWp 117 61 [some (jO x), some (jI (l1 : Int)), some (jI f), none, none] [jO (x + 359)] 0 0 w _
          refine jWp.blk mt 1 ?_
          show jWp 117 62 [some (jO x), some (jI (l1 : Int)), some (jI f), none, none] [jI (l1 : Int), jO (x + 359)] 0 0 w _
          refine jWp.aald (pc' := 63) (j := l1) (o := (x + (387 + 2 * l1))) mt rfl rfl (jrg hX.X359 (by decide) (by decide)) (b32_id (by omega) (by omega)) (jlt hX.X359 (by omega)) (hX.RT l1 (by omega)) ?_
          show jWp 117 63 [some (jO x), some (jI (l1 : Int)), some (jI f), none, none] [jO (x + (387 + 2 * l1))] 0 0 w _
          refine jWp.callv (as := [jO (x + (387 + 2 * l1))]) (rest := []) mt rfl rfl rfl ⟨rfl, jtg (hX.KT l1 (by omega))⟩ ?_
          refine jCall.mono (C_inRange (w := w) (t := x + (387 + 2 * l1)) (tp := x + (388 + 2 * l1)) (hX.KT l1 (by omega)) (hX.KTp l1 (by omega)) (hX.RTp l1 (by omega)) rfl hzl (hI l1 (by omega))) (fun v9 w9 h9 => ?_)
          rcases h9 with ⟨rfl, h9, h5⟩ | ⟨rfl, h9, h5⟩ <;> subst w9
          · have h5 : zsl (w.1 (x + (388 + 2 * l1))) (w.1 (x + (387 + 2 * l1)) 0).toNat := h5
            show jWp 117 66 [some (jO x), some (jI (l1 : Int)), some (jI f), none, none] [jI 1] 0 0 w _
            refine jWp.ifc (b := true) mt rfl (by decide) rfl ?_
            show jWp 117 76 [some (jO x), some (jI (l1 : Int)), some (jI f), none, none] [] 0 0 w _
            refine jWp.blk mt 4 ?_
            show jWp 117 81 [some (jO x), some (jI (l1 : Int)), some (jI f), some (jI 0), some (jI 0)] [] 0 0 w _
            have lp6 : ∀ (N : Nat) (k : Nat) (b : Int) (hk : k ≤ 7) (hb : b = zbt (fun z : Nat => zmd (z : Int) f (w.1 (x + (388 + 2 * l1))) (w.1 (x + (387 + 2 * l1)) 0).toNat) k), 7 - k < N → jWp 117 81 [some (jO x), some (jI (l1 : Int)), some (jI f), some (jI b), some (jI (k : Int))] [] 0 0 w (fun v w1 => ((¬ (0 ≤ (l1 : Int) ∧ (l1 : Int) ≤ 2)) → cno w x 0 (jI (-1)) v w1) ∧ (¬ (¬ (0 ≤ (l1 : Int) ∧ (l1 : Int) ≤ 2)) → (f < 0) → cno w x 3 (jI (-4)) v w1) ∧ (¬ (¬ (0 ≤ (l1 : Int) ∧ (l1 : Int) ≤ 2)) → ¬ (f < 0) → (9 < f) → cno w x 5 (jI (-6)) v w1) ∧ (¬ (¬ (0 ≤ (l1 : Int) ∧ (l1 : Int) ≤ 2)) → ¬ (f < 0) → ¬ (9 < f) → ((w.1 (x + (387 + 2 * (l1 : Int).toNat)) 0) < 0) → v = some (jI (-11)) ∧ w1 = w) ∧ (¬ (¬ (0 ≤ (l1 : Int) ∧ (l1 : Int) ≤ 2)) → ¬ (f < 0) → ¬ (9 < f) → ¬ ((w.1 (x + (387 + 2 * (l1 : Int).toNat)) 0) < 0) → (¬ zsl (w.1 (x + (388 + 2 * (l1 : Int).toNat))) (w.1 (x + (387 + 2 * (l1 : Int).toNat)) 0).toNat) → cno w x 2 (jI (-3)) v w1) ∧ (¬ (¬ (0 ≤ (l1 : Int) ∧ (l1 : Int) ≤ 2)) → ¬ (f < 0) → ¬ (9 < f) → ¬ ((w.1 (x + (387 + 2 * (l1 : Int).toNat)) 0) < 0) → ¬ (¬ zsl (w.1 (x + (388 + 2 * (l1 : Int).toNat))) (w.1 (x + (387 + 2 * (l1 : Int).toNat)) 0).toNat) → v = some (jI (zbt (fun z : Nat => zmd (z : Int) f (w.1 (x + (388 + 2 * (l1 : Int).toNat))) (w.1 (x + (387 + 2 * (l1 : Int).toNat)) 0).toNat) 7)) ∧ w1 = w)) := by
              intro N
              induction N with
              | zero => intro k b hk hb hm; omega
              | succ N ih7 =>
                intro k b hk hb hm
                refine jWp.blk mt 2 ?_
                show jWp 117 85 [some (jO x), some (jI (l1 : Int)), some (jI f), some (jI b), some (jI (k : Int))] [jI 7, jI (k : Int)] 0 0 w _
                refine jWp.icmp (pc' := 88) mt rfl rfl (b32_id (by omega) (by omega)) (show b32 7 = 7 by decide) (fun h8 => ?_) (fun h8 => ?_)
                · have h8 : 7 ≤ (k : Int) := h8
                  refine jWp.blk mt 1 ?_
                  show jWp 117 117 [some (jO x), some (jI (l1 : Int)), some (jI f), some (jI b), some (jI (k : Int))] [jI b] 0 0 w _
                  refine jWp.ireti mt rfl ⟨rfl, rfl⟩ rfl ?_
                  try rw [show ((l1 : Nat) : Int).toNat = l1 from rfl]
                  refine ⟨fun c0 => ?_, fun c0 c1 => ?_, fun c0 c1 c2 => ?_, fun c0 c1 c2 c3 => ?_, fun c0 c1 c2 c3 c4 => ?_, fun c0 c1 c2 c3 c4 => ?_⟩
                  all_goals first
                  | (exfalso; omega)
                  | contradiction
                  | (exfalso; exact absurd (by assumption) c4)
                  | (exfalso; exact absurd (by assumption) c3)
                  | exact ⟨rfl, rfl⟩
                  | exact ⟨by rw [hb, show k = 7 by omega], rfl⟩
                · have h8 : (k : Int) < 7 := h8
                  refine jWp.blk mt 1 ?_
                  show _ ∧ jWp 117 89 [some (jO x), some (jI (l1 : Int)), some (jI f), some (jI b), some (jI (k : Int))] [jO x] 0 0 w _
                  refine ⟨rfl, ?_⟩
                  refine jWp.getR (pc' := 92) (o := (x + 359)) mt rfl rfl (jtg hX.X0) hX.R11 ?_
                  show jWp 117 92 [some (jO x), some (jI (l1 : Int)), some (jI f), some (jI b), some (jI (k : Int))] [jO (x + 359)] 0 0 w _
                  refine jWp.blk mt 1 ?_
                  show jWp 117 93 [some (jO x), some (jI (l1 : Int)), some (jI f), some (jI b), some (jI (k : Int))] [jI (l1 : Int), jO (x + 359)] 0 0 w _
                  refine jWp.aald (pc' := 94) (j := l1) (o := (x + (387 + 2 * l1))) mt rfl rfl (jrg hX.X359 (by decide) (by decide)) (b32_id (by omega) (by omega)) (jlt hX.X359 (by omega)) (hX.RT l1 (by omega)) ?_
                  show jWp 117 94 [some (jO x), some (jI (l1 : Int)), some (jI f), some (jI b), some (jI (k : Int))] [jO (x + (387 + 2 * l1))] 0 0 w _
                  refine jWp.blk mt 2 ?_
                  show jWp 117 97 [some (jO x), some (jI (l1 : Int)), some (jI f), some (jI b), some (jI (k : Int))] [jI f, jI (k : Int), jO (x + (387 + 2 * l1))] 0 0 w _
                  refine jWp.callv (as := [jO (x + (387 + 2 * l1)), jI (k : Int), jI f]) (rest := []) mt rfl rfl rfl ⟨rfl, jtg (hX.KT l1 (by omega))⟩ ?_
                  refine jCall.mono (C_madeBy (w := w) (t := x + (387 + 2 * l1)) (tp := x + (388 + 2 * l1)) (hX.KT l1 (by omega)) (hX.KTp l1 (by omega)) (hX.RTp l1 (by omega)) rfl hzl (hI l1 (by omega)) hO (by omega) (by omega) (by omega) (by assumption)) (fun v9 w9 h9 => ?_)
                  rcases h9 with ⟨rfl, h9, h9⟩ | ⟨rfl, h9, h9⟩ <;> subst w9
                  · have h9 : zmd (k : Int) f (w.1 (x + (388 + 2 * l1))) (w.1 (x + (387 + 2 * l1)) 0).toNat := h9
                    show jWp 117 100 [some (jO x), some (jI (l1 : Int)), some (jI f), some (jI b), some (jI (k : Int))] [jI 1] 0 0 w _
                    refine jWp.ifc (b := false) mt rfl (by decide) rfl ?_
                    show jWp 117 103 [some (jO x), some (jI (l1 : Int)), some (jI f), some (jI b), some (jI (k : Int))] [] 0 0 w _
                    refine jWp.blk mt 8 ?_
                    show jWp 117 81 [some (jO x), some (jI (l1 : Int)), some (jI f), some (jI (jor b (jshl 1 (k : Int)))), some (jI ((k : Int) + 1))] [] 0 0 w _
                    refine jWp.le (l := [some (jO x), some (jI (l1 : Int)), some (jI f), some (jI (jor b (jshl 1 (k : Int)))), some (jI ((k : Int) + 1))]) (by exact ⟨rfl, rfl, rfl, rfl, rfl, trivial⟩) ?_
                    exact ih7 (k + 1) _ (by omega) (by rw [hb, zbt_t (p := (fun z : Nat => zmd (z : Int) f (w.1 (x + (388 + 2 * l1))) (w.1 (x + (387 + 2 * l1)) 0).toNat)) (by assumption)]) (by omega)
                  · have h9 : ¬ (zmd (k : Int) f (w.1 (x + (388 + 2 * l1))) (w.1 (x + (387 + 2 * l1)) 0).toNat) := h9
                    show jWp 117 100 [some (jO x), some (jI (l1 : Int)), some (jI f), some (jI b), some (jI (k : Int))] [jI 0] 0 0 w _
                    refine jWp.ifc (b := true) mt rfl (by decide) rfl ?_
                    show jWp 117 110 [some (jO x), some (jI (l1 : Int)), some (jI f), some (jI b), some (jI (k : Int))] [] 0 0 w _
                    refine jWp.blk mt 2 ?_
                    show jWp 117 81 [some (jO x), some (jI (l1 : Int)), some (jI f), some (jI b), some (jI ((k : Int) + 1))] [] 0 0 w _
                    refine jWp.le (l := [some (jO x), some (jI (l1 : Int)), some (jI f), some (jI b), some (jI ((k : Int) + 1))]) (by exact ⟨rfl, rfl, rfl, rfl, rfl, trivial⟩) ?_
                    exact ih7 (k + 1) _ (by omega) (by rw [hb, zbt_f (p := (fun z : Nat => zmd (z : Int) f (w.1 (x + (388 + 2 * l1))) (w.1 (x + (387 + 2 * l1)) 0).toNat)) (by assumption)]) (by omega)
            refine jWp.le (l := [some (jO x), some (jI (l1 : Int)), some (jI f), some (jI 0), some (jI 0)]) (by exact ⟨rfl, rfl, rfl, rfl, rfl, trivial⟩) ?_
            exact lp6 _ 0 0 (by omega) rfl (Nat.lt_succ_self _)
          · have h5 : ¬ (zsl (w.1 (x + (388 + 2 * l1))) (w.1 (x + (387 + 2 * l1)) 0).toNat) := h5
            show jWp 117 66 [some (jO x), some (jI (l1 : Int)), some (jI f), none, none] [jI 0] 0 0 w _
            refine jWp.ifc (b := false) mt rfl (by decide) rfl ?_
            show jWp 117 69 [some (jO x), some (jI (l1 : Int)), some (jI f), none, none] [] 0 0 w _
            refine jWp.blk mt 2 ?_
            show _ ∧ jWp 117 72 [some (jO x), some (jI (l1 : Int)), some (jI f), none, none] [jI (-3), jO x] 0 0 w _
            refine ⟨rfl, ?_⟩
            refine jWp.callv (as := [jO x, jI (-3)]) (rest := []) mt rfl rfl rfl ⟨rfl, jtg hX.X0⟩ ?_
            refine jCall.mono (C_refuse (w := w) (j := 2) hX (by decide) (by decide)) (fun v9 w9 h9 => ?_)
            obtain ⟨rfl, h9⟩ := h9
            subst h9
            show jWp 117 75 [some (jO x), some (jI (l1 : Int)), some (jI f), none, none] [jI (-3)] 0 0 (jW w (x + 362) 2 ((w.1 (x + 362) 2) + 1)) _
            refine jWp.ireti mt rfl ⟨rfl, rfl⟩ rfl ?_
            try rw [show ((l1 : Nat) : Int).toNat = l1 from rfl]
            refine ⟨fun c0 => ?_, fun c0 c1 => ?_, fun c0 c1 c2 => ?_, fun c0 c1 c2 c3 => ?_, fun c0 c1 c2 c3 c4 => ?_, fun c0 c1 c2 c3 c4 => ?_⟩
            all_goals first
            | (exfalso; omega)
            | contradiction
            | (exfalso; exact absurd (by assumption) c4)
            | (exfalso; exact absurd (by assumption) c3)
            | exact ⟨rfl, rfl⟩
            | exact ⟨by rw [hb, show k = 7 by omega], rfl⟩
      · have h3 : 9 < f := h3
        refine jWp.blk mt 2 ?_
        show _ ∧ jWp 117 34 [some (jO x), some (jI (l1 : Int)), some (jI f), none, none] [jI (-6), jO x] 0 0 w _
        refine ⟨rfl, ?_⟩
        refine jWp.callv (as := [jO x, jI (-6)]) (rest := []) mt rfl rfl rfl ⟨rfl, jtg hX.X0⟩ ?_
        refine jCall.mono (C_refuse (w := w) (j := 5) hX (by decide) (by decide)) (fun v9 w9 h9 => ?_)
        obtain ⟨rfl, h9⟩ := h9
        subst h9
        show jWp 117 37 [some (jO x), some (jI (l1 : Int)), some (jI f), none, none] [jI (-6)] 0 0 (jW w (x + 362) 5 ((w.1 (x + 362) 5) + 1)) _
        refine jWp.ireti mt rfl ⟨rfl, rfl⟩ rfl ?_
        try rw [show ((l1 : Nat) : Int).toNat = l1 from rfl]
        refine ⟨fun c0 => ?_, fun c0 c1 => ?_, fun c0 c1 c2 => ?_, fun c0 c1 c2 c3 => ?_, fun c0 c1 c2 c3 c4 => ?_, fun c0 c1 c2 c3 c4 => ?_⟩
        all_goals first
        | (exfalso; omega)
        | contradiction
        | (exfalso; exact absurd (by assumption) c4)
        | (exfalso; exact absurd (by assumption) c3)
        | exact ⟨rfl, rfl⟩
        | exact ⟨by rw [hb, show k = 7 by omega], rfl⟩
    · have h2 : f < 0 := h2
      refine jWp.blk mt 2 ?_
      show _ ∧ jWp 117 21 [some (jO x), some (jI (l1 : Int)), some (jI f), none, none] [jI (-4), jO x] 0 0 w _
      refine ⟨rfl, ?_⟩
      refine jWp.callv (as := [jO x, jI (-4)]) (rest := []) mt rfl rfl rfl ⟨rfl, jtg hX.X0⟩ ?_
      refine jCall.mono (C_refuse (w := w) (j := 3) hX (by decide) (by decide)) (fun v9 w9 h9 => ?_)
      obtain ⟨rfl, h9⟩ := h9
      subst h9
      show jWp 117 24 [some (jO x), some (jI (l1 : Int)), some (jI f), none, none] [jI (-4)] 0 0 (jW w (x + 362) 3 ((w.1 (x + 362) 3) + 1)) _
      refine jWp.ireti mt rfl ⟨rfl, rfl⟩ rfl ?_
      try rw [show ((l1 : Nat) : Int).toNat = l1 from rfl]
      refine ⟨fun c0 => ?_, fun c0 c1 => ?_, fun c0 c1 c2 => ?_, fun c0 c1 c2 c3 => ?_, fun c0 c1 c2 c3 c4 => ?_, fun c0 c1 c2 c3 c4 => ?_⟩
      all_goals first
      | (exfalso; omega)
      | contradiction
      | (exfalso; exact absurd (by assumption) c4)
      | (exfalso; exact absurd (by assumption) c3)
      | exact ⟨rfl, rfl⟩
      | exact ⟨by rw [hb, show k = 7 by omega], rfl⟩
  · have h1 : ¬ (0 ≤ l ∧ l ≤ 2) := h1
    show jWp 117 5 [some (jO x), some (jI l), some (jI f), none, none] [jI 0] 0 0 w _
    refine jWp.ifc (b := false) mt rfl (by decide) rfl ?_
    show jWp 117 8 [some (jO x), some (jI l), some (jI f), none, none] [] 0 0 w _
    refine jWp.blk mt 2 ?_
    show _ ∧ jWp 117 10 [some (jO x), some (jI l), some (jI f), none, none] [jI (-1), jO x] 0 0 w _
    refine ⟨rfl, ?_⟩
    refine jWp.callv (as := [jO x, jI (-1)]) (rest := []) mt rfl rfl rfl ⟨rfl, jtg hX.X0⟩ ?_
    refine jCall.mono (C_refuse (w := w) (j := 0) hX (by decide) (by decide)) (fun v9 w9 h9 => ?_)
    obtain ⟨rfl, h9⟩ := h9
    subst h9
    show jWp 117 13 [some (jO x), some (jI l), some (jI f), none, none] [jI (-1)] 0 0 (jW w (x + 362) 0 ((w.1 (x + 362) 0) + 1)) _
    refine jWp.ireti mt rfl ⟨rfl, rfl⟩ rfl ?_
    try rw [show ((l1 : Nat) : Int).toNat = l1 from rfl]
    refine ⟨fun c0 => ?_, fun c0 c1 => ?_, fun c0 c1 c2 => ?_, fun c0 c1 c2 c3 => ?_, fun c0 c1 c2 c3 c4 => ?_, fun c0 c1 c2 c3 c4 => ?_⟩
    all_goals first
    | (exfalso; omega)
    | contradiction
    | (exfalso; exact absurd (by assumption) c4)
    | (exfalso; exact absurd (by assumption) c3)
    | exact ⟨rfl, rfl⟩
    | exact ⟨by rw [hb, show k = 7 by omega], rfl⟩
set_option maxHeartbeats 4000000 in
set_option maxRecDepth 20000 in
theorem C_figures {w : jS} {x : Nat} (hX : CW w.2 x) (hz : ∀ y, y < 3 → -1 ≤ w.1 (x + (387 + 2 * y)) 0 ∧ w.1 (x + (387 + 2 * y)) 0 ≤ 40) (hI : ∀ y, y < 3 → ∀ j, j < 40 → r32 (w.1 (x + (388 + 2 * y)) j)) (hO : jOK w) {l a : Int} (hrl : r32 l) (hra : r32 a) : jCall 118 [jO x, jI l, jI a] w (fun v w1 => ((¬ (0 ≤ l ∧ l ≤ 2)) → cno w x 0 (jI (-1)) v w1) ∧ (¬ (¬ (0 ≤ l ∧ l ≤ 2)) → (¬ (0 ≤ a ∧ a ≤ 6)) → cno w x 1 (jI (-2)) v w1) ∧ (¬ (¬ (0 ≤ l ∧ l ≤ 2)) → ¬ (¬ (0 ≤ a ∧ a ≤ 6)) → ((w.1 (x + (387 + 2 * l.toNat)) 0) < 0) → v = some (jI (-11)) ∧ w1 = w) ∧ (¬ (¬ (0 ≤ l ∧ l ≤ 2)) → ¬ (¬ (0 ≤ a ∧ a ≤ 6)) → ¬ ((w.1 (x + (387 + 2 * l.toNat)) 0) < 0) → (¬ zsl (w.1 (x + (388 + 2 * l.toNat))) (w.1 (x + (387 + 2 * l.toNat)) 0).toNat) → cno w x 2 (jI (-3)) v w1) ∧ (¬ (¬ (0 ≤ l ∧ l ≤ 2)) → ¬ (¬ (0 ≤ a ∧ a ≤ 6)) → ¬ ((w.1 (x + (387 + 2 * l.toNat)) 0) < 0) → ¬ (¬ zsl (w.1 (x + (388 + 2 * l.toNat))) (w.1 (x + (387 + 2 * l.toNat)) 0).toNat) → v = some (jI (zbt (fun z : Nat => zmd a (z : Int) (w.1 (x + (388 + 2 * l.toNat))) (w.1 (x + (387 + 2 * l.toNat)) 0).toNat) 10)) ∧ w1 = w)) := by
  have mt : jtb 118 = jT118 := rfl
  have hrl1 : -2147483648 ≤ l ∧ l < 2147483648 := hrl
  have hra1 : -2147483648 ≤ a ∧ a < 2147483648 := hra
  show jWp 118 0 [some (jO x), some (jI l), some (jI a), none, none] [] 0 0 w _
  refine jWp.blk mt 2 ?_
  show _ ∧ jWp 118 2 [some (jO x), some (jI l), some (jI a), none, none] [jI l, jO x] 0 0 w _
  refine ⟨rfl, ?_⟩
  refine jWp.callv (as := [jO x, jI l]) (rest := []) mt rfl rfl rfl ⟨rfl, jtg hX.X0⟩ ?_
  refine jCall.mono (C_isList (w := w) hX hrl) (fun v9 w9 h9 => ?_)
  rcases h9 with ⟨rfl, h9, h1⟩ | ⟨rfl, h9, h1⟩ <;> subst w9
  · have h1 : 0 ≤ l ∧ l ≤ 2 := h1
    show jWp 118 5 [some (jO x), some (jI l), some (jI a), none, none] [jI 1] 0 0 w _
    obtain ⟨l1, rfl⟩ : ∃ l1 : Nat, l = (l1 : Int) := ⟨l.toNat, by omega⟩
    show jWp 118 5 [some (jO x), some (jI (l1 : Int)), some (jI a), none, none] [jI 1] 0 0 w _
    have hzl := hz l1 (by omega)
    refine jWp.ifc (b := true) mt rfl (by decide) rfl ?_
    show jWp 118 14 [some (jO x), some (jI (l1 : Int)), some (jI a), none, none] [] 0 0 w _
    refine jWp.blk mt 1 ?_
    show jWp 118 15 [some (jO x), some (jI (l1 : Int)), some (jI a), none, none] [jI a] 0 0 w _
    refine jWp.ifz (pc' := 18) mt rfl rfl (b32_id (by omega) (by omega)) (fun h2 => ?_) (fun h2 => ?_)
    · have h2 : a < 0 := h2
      refine jWp.blk mt 2 ?_
      show _ ∧ jWp 118 27 [some (jO x), some (jI (l1 : Int)), some (jI a), none, none] [jI (-2), jO x] 0 0 w _
      refine ⟨rfl, ?_⟩
      refine jWp.callv (as := [jO x, jI (-2)]) (rest := []) mt rfl rfl rfl ⟨rfl, jtg hX.X0⟩ ?_
      refine jCall.mono (C_refuse (w := w) (j := 1) hX (by decide) (by decide)) (fun v9 w9 h9 => ?_)
      obtain ⟨rfl, h9⟩ := h9
      subst h9
      show jWp 118 30 [some (jO x), some (jI (l1 : Int)), some (jI a), none, none] [jI (-2)] 0 0 (jW w (x + 362) 1 ((w.1 (x + 362) 1) + 1)) _
      refine jWp.ireti mt rfl ⟨rfl, rfl⟩ rfl ?_
      try rw [show ((l1 : Nat) : Int).toNat = l1 from rfl]
      refine ⟨fun c0 => ?_, fun c0 c1 => ?_, fun c0 c1 c2 => ?_, fun c0 c1 c2 c3 => ?_, fun c0 c1 c2 c3 => ?_⟩
      all_goals first
      | (exfalso; omega)
      | contradiction
      | (exfalso; exact absurd (by assumption) c4)
      | (exfalso; exact absurd (by assumption) c3)
      | exact ⟨rfl, rfl⟩
      | exact ⟨by rw [hb, show k = 10 by omega], rfl⟩
    · have h2 : 0 ≤ a := h2
      refine jWp.blk mt 2 ?_
      show jWp 118 21 [some (jO x), some (jI (l1 : Int)), some (jI a), none, none] [jI 7, jI a] 0 0 w _
      refine jWp.icmp (pc' := 24) mt rfl rfl (b32_id (by omega) (by omega)) (show b32 7 = 7 by decide) (fun h3 => ?_) (fun h3 => ?_)
      · have h3 : a < 7 := h3
        refine jWp.blk mt 1 ?_
        show _ ∧ jWp 118 32 [some (jO x), some (jI (l1 : Int)), some (jI a), none, none] [jO x] 0 0 w _
        refine ⟨rfl, ?_⟩
        refine jWp.getR (pc' := 35) (o := (x + 359)) mt rfl rfl (jtg hX.X0) hX.R11 ?_
        show jWp 118 35 [some (jO x), some (jI (l1 : Int)), some (jI a), none, none] [jO (x + 359)] 0 0 w _
        refine jWp.blk mt 1 ?_
        show jWp 118 36 [some (jO x), some (jI (l1 : Int)), some (jI a), none, none] [jI (l1 : Int), jO (x + 359)] 0 0 w _
        refine jWp.aald (pc' := 37) (j := l1) (o := (x + (387 + 2 * l1))) mt rfl rfl (jrg hX.X359 (by decide) (by decide)) (b32_id (by omega) (by omega)) (jlt hX.X359 (by omega)) (hX.RT l1 (by omega)) ?_
        show jWp 118 37 [some (jO x), some (jI (l1 : Int)), some (jI a), none, none] [jO (x + (387 + 2 * l1))] 0 0 w _
        refine jWp.callv (as := [jO (x + (387 + 2 * l1))]) (rest := []) mt rfl rfl rfl ⟨rfl, jtg (hX.KT l1 (by omega))⟩ ?_
        refine jCall.mono (C_isMissing (w := w) (t := x + (387 + 2 * l1)) (tp := x + (388 + 2 * l1)) (hX.KT l1 (by omega)) (hX.KTp l1 (by omega)) (hX.RTp l1 (by omega)) rfl hzl) (fun v9 w9 h9 => ?_)
        rcases h9 with ⟨rfl, h9, h4⟩ | ⟨rfl, h9, h4⟩ <;> subst w9
        · have h4 : (w.1 (x + (387 + 2 * l1)) 0) < 0 := h4
          show jWp 118 40 [some (jO x), some (jI (l1 : Int)), some (jI a), none, none] [jI 1] 0 0 w _
          refine jWp.ifc (b := false) mt rfl (by decide) rfl ?_
          show jWp 118 43 [some (jO x), some (jI (l1 : Int)), some (jI a), none, none] [] 0 0 w _
          refine jWp.blk mt 2 ?_
          show _ ∧ jWp 118 46 [some (jO x), some (jI (l1 : Int)), some (jI a), none, none] [jI (-11), jO x] 0 0 w _
          refine ⟨rfl, ?_⟩
          refine jWp.callv (as := [jO x, jI (-11)]) (rest := []) mt rfl rfl rfl ⟨rfl, jtg hX.X0⟩ ?_
          refine jCall.mono (C_refuse2 (w := w) hX (by decide)) (fun v9 w9 h9 => ?_)
          obtain ⟨rfl, h9⟩ := h9
          subst w9
          show jWp 118 49 [some (jO x), some (jI (l1 : Int)), some (jI a), none, none] [jI (-11)] 0 0 w _
          refine jWp.ireti mt rfl ⟨rfl, rfl⟩ rfl ?_
          try rw [show ((l1 : Nat) : Int).toNat = l1 from rfl]
          refine ⟨fun c0 => ?_, fun c0 c1 => ?_, fun c0 c1 c2 => ?_, fun c0 c1 c2 c3 => ?_, fun c0 c1 c2 c3 => ?_⟩
          all_goals first
          | (exfalso; omega)
          | contradiction
          | (exfalso; exact absurd (by assumption) c4)
          | (exfalso; exact absurd (by assumption) c3)
          | exact ⟨rfl, rfl⟩
          | exact ⟨by rw [hb, show k = 10 by omega], rfl⟩
        · have h4 : ¬ ((w.1 (x + (387 + 2 * l1)) 0) < 0) := h4
          show jWp 118 40 [some (jO x), some (jI (l1 : Int)), some (jI a), none, none] [jI 0] 0 0 w _
          refine jWp.ifc (b := true) mt rfl (by decide) rfl ?_
          show jWp 118 50 [some (jO x), some (jI (l1 : Int)), some (jI a), none, none] [] 0 0 w _
          refine jWp.blk mt 1 ?_
          show _ ∧ jWp 118 51 [some (jO x), some (jI (l1 : Int)), some (jI a), none, none] [jO x] 0 0 w _
          refine ⟨rfl, ?_⟩
          refine jWp.getR (pc' := 54) (o := (x + 359)) mt rfl rfl (jtg hX.X0) hX.R11 ?_
          show jWp 118 54 [some (jO x), some (jI (l1 : Int)), some (jI a), none, none] [jO (x + 359)] 0 0 w _
          refine jWp.blk mt 1 ?_
          show jWp 118 55 [some (jO x), some (jI (l1 : Int)), some (jI a), none, none] [jI (l1 : Int), jO (x + 359)] 0 0 w _
          refine jWp.aald (pc' := 56) (j := l1) (o := (x + (387 + 2 * l1))) mt rfl rfl (jrg hX.X359 (by decide) (by decide)) (b32_id (by omega) (by omega)) (jlt hX.X359 (by omega)) (hX.RT l1 (by omega)) ?_
          show jWp 118 56 [some (jO x), some (jI (l1 : Int)), some (jI a), none, none] [jO (x + (387 + 2 * l1))] 0 0 w _
          refine jWp.callv (as := [jO (x + (387 + 2 * l1))]) (rest := []) mt rfl rfl rfl ⟨rfl, jtg (hX.KT l1 (by omega))⟩ ?_
          refine jCall.mono (C_inRange (w := w) (t := x + (387 + 2 * l1)) (tp := x + (388 + 2 * l1)) (hX.KT l1 (by omega)) (hX.KTp l1 (by omega)) (hX.RTp l1 (by omega)) rfl hzl (hI l1 (by omega))) (fun v9 w9 h9 => ?_)
          rcases h9 with ⟨rfl, h9, h5⟩ | ⟨rfl, h9, h5⟩ <;> subst w9
          · have h5 : zsl (w.1 (x + (388 + 2 * l1))) (w.1 (x + (387 + 2 * l1)) 0).toNat := h5
            show jWp 118 59 [some (jO x), some (jI (l1 : Int)), some (jI a), none, none] [jI 1] 0 0 w _
            refine jWp.ifc (b := true) mt rfl (by decide) rfl ?_
            show jWp 118 69 [some (jO x), some (jI (l1 : Int)), some (jI a), none, none] [] 0 0 w _
            refine jWp.blk mt 4 ?_
            show jWp 118 74 [some (jO x), some (jI (l1 : Int)), some (jI a), some (jI 0), some (jI 0)] [] 0 0 w _
            have lp6 : ∀ (N : Nat) (k : Nat) (b : Int) (hk : k ≤ 10) (hb : b = zbt (fun z : Nat => zmd a (z : Int) (w.1 (x + (388 + 2 * l1))) (w.1 (x + (387 + 2 * l1)) 0).toNat) k), 10 - k < N → jWp 118 74 [some (jO x), some (jI (l1 : Int)), some (jI a), some (jI b), some (jI (k : Int))] [] 0 0 w (fun v w1 => ((¬ (0 ≤ (l1 : Int) ∧ (l1 : Int) ≤ 2)) → cno w x 0 (jI (-1)) v w1) ∧ (¬ (¬ (0 ≤ (l1 : Int) ∧ (l1 : Int) ≤ 2)) → (¬ (0 ≤ a ∧ a ≤ 6)) → cno w x 1 (jI (-2)) v w1) ∧ (¬ (¬ (0 ≤ (l1 : Int) ∧ (l1 : Int) ≤ 2)) → ¬ (¬ (0 ≤ a ∧ a ≤ 6)) → ((w.1 (x + (387 + 2 * (l1 : Int).toNat)) 0) < 0) → v = some (jI (-11)) ∧ w1 = w) ∧ (¬ (¬ (0 ≤ (l1 : Int) ∧ (l1 : Int) ≤ 2)) → ¬ (¬ (0 ≤ a ∧ a ≤ 6)) → ¬ ((w.1 (x + (387 + 2 * (l1 : Int).toNat)) 0) < 0) → (¬ zsl (w.1 (x + (388 + 2 * (l1 : Int).toNat))) (w.1 (x + (387 + 2 * (l1 : Int).toNat)) 0).toNat) → cno w x 2 (jI (-3)) v w1) ∧ (¬ (¬ (0 ≤ (l1 : Int) ∧ (l1 : Int) ≤ 2)) → ¬ (¬ (0 ≤ a ∧ a ≤ 6)) → ¬ ((w.1 (x + (387 + 2 * (l1 : Int).toNat)) 0) < 0) → ¬ (¬ zsl (w.1 (x + (388 + 2 * (l1 : Int).toNat))) (w.1 (x + (387 + 2 * (l1 : Int).toNat)) 0).toNat) → v = some (jI (zbt (fun z : Nat => zmd a (z : Int) (w.1 (x + (388 + 2 * (l1 : Int).toNat))) (w.1 (x + (387 + 2 * (l1 : Int).toNat)) 0).toNat) 10)) ∧ w1 = w)) := by
              intro N
              induction N with
              | zero => intro k b hk hb hm; omega
              | succ N ih7 =>
                intro k b hk hb hm
                refine jWp.blk mt 2 ?_
                show jWp 118 78 [some (jO x), some (jI (l1 : Int)), some (jI a), some (jI b), some (jI (k : Int))] [jI 9, jI (k : Int)] 0 0 w _
                refine jWp.icmp (pc' := 81) mt rfl rfl (b32_id (by omega) (by omega)) (show b32 9 = 9 by decide) (fun h8 => ?_) (fun h8 => ?_)
                · have h8 : 9 < (k : Int) := h8
                  refine jWp.blk mt 1 ?_
                  show jWp 118 110 [some (jO x), some (jI (l1 : Int)), some (jI a), some (jI b), some (jI (k : Int))] [jI b] 0 0 w _
                  refine jWp.ireti mt rfl ⟨rfl, rfl⟩ rfl ?_
                  try rw [show ((l1 : Nat) : Int).toNat = l1 from rfl]
                  refine ⟨fun c0 => ?_, fun c0 c1 => ?_, fun c0 c1 c2 => ?_, fun c0 c1 c2 c3 => ?_, fun c0 c1 c2 c3 => ?_⟩
                  all_goals first
                  | (exfalso; omega)
                  | contradiction
                  | (exfalso; exact absurd (by assumption) c4)
                  | (exfalso; exact absurd (by assumption) c3)
                  | exact ⟨rfl, rfl⟩
                  | exact ⟨by rw [hb, show k = 10 by omega], rfl⟩
                · have h8 : (k : Int) ≤ 9 := h8
                  refine jWp.blk mt 1 ?_
                  show _ ∧ jWp 118 82 [some (jO x), some (jI (l1 : Int)), some (jI a), some (jI b), some (jI (k : Int))] [jO x] 0 0 w _
                  refine ⟨rfl, ?_⟩
                  refine jWp.getR (pc' := 85) (o := (x + 359)) mt rfl rfl (jtg hX.X0) hX.R11 ?_
                  show jWp 118 85 [some (jO x), some (jI (l1 : Int)), some (jI a), some (jI b), some (jI (k : Int))] [jO (x + 359)] 0 0 w _
                  refine jWp.blk mt 1 ?_
                  show jWp 118 86 [some (jO x), some (jI (l1 : Int)), some (jI a), some (jI b), some (jI (k : Int))] [jI (l1 : Int), jO (x + 359)] 0 0 w _
                  refine jWp.aald (pc' := 87) (j := l1) (o := (x + (387 + 2 * l1))) mt rfl rfl (jrg hX.X359 (by decide) (by decide)) (b32_id (by omega) (by omega)) (jlt hX.X359 (by omega)) (hX.RT l1 (by omega)) ?_
                  show jWp 118 87 [some (jO x), some (jI (l1 : Int)), some (jI a), some (jI b), some (jI (k : Int))] [jO (x + (387 + 2 * l1))] 0 0 w _
                  refine jWp.blk mt 2 ?_
                  show jWp 118 90 [some (jO x), some (jI (l1 : Int)), some (jI a), some (jI b), some (jI (k : Int))] [jI (k : Int), jI a, jO (x + (387 + 2 * l1))] 0 0 w _
                  refine jWp.callv (as := [jO (x + (387 + 2 * l1)), jI a, jI (k : Int)]) (rest := []) mt rfl rfl rfl ⟨rfl, jtg (hX.KT l1 (by omega))⟩ ?_
                  refine jCall.mono (C_madeBy (w := w) (t := x + (387 + 2 * l1)) (tp := x + (388 + 2 * l1)) (hX.KT l1 (by omega)) (hX.KTp l1 (by omega)) (hX.RTp l1 (by omega)) rfl hzl (hI l1 (by omega)) hO (by omega) (by omega) (by omega) (by assumption)) (fun v9 w9 h9 => ?_)
                  rcases h9 with ⟨rfl, h9, h9⟩ | ⟨rfl, h9, h9⟩ <;> subst w9
                  · have h9 : zmd a (k : Int) (w.1 (x + (388 + 2 * l1))) (w.1 (x + (387 + 2 * l1)) 0).toNat := h9
                    show jWp 118 93 [some (jO x), some (jI (l1 : Int)), some (jI a), some (jI b), some (jI (k : Int))] [jI 1] 0 0 w _
                    refine jWp.ifc (b := false) mt rfl (by decide) rfl ?_
                    show jWp 118 96 [some (jO x), some (jI (l1 : Int)), some (jI a), some (jI b), some (jI (k : Int))] [] 0 0 w _
                    refine jWp.blk mt 8 ?_
                    show jWp 118 74 [some (jO x), some (jI (l1 : Int)), some (jI a), some (jI (jor b (jshl 1 (k : Int)))), some (jI ((k : Int) + 1))] [] 0 0 w _
                    refine jWp.le (l := [some (jO x), some (jI (l1 : Int)), some (jI a), some (jI (jor b (jshl 1 (k : Int)))), some (jI ((k : Int) + 1))]) (by exact ⟨rfl, rfl, rfl, rfl, rfl, trivial⟩) ?_
                    exact ih7 (k + 1) _ (by omega) (by rw [hb, zbt_t (p := (fun z : Nat => zmd a (z : Int) (w.1 (x + (388 + 2 * l1))) (w.1 (x + (387 + 2 * l1)) 0).toNat)) (by assumption)]) (by omega)
                  · have h9 : ¬ (zmd a (k : Int) (w.1 (x + (388 + 2 * l1))) (w.1 (x + (387 + 2 * l1)) 0).toNat) := h9
                    show jWp 118 93 [some (jO x), some (jI (l1 : Int)), some (jI a), some (jI b), some (jI (k : Int))] [jI 0] 0 0 w _
                    refine jWp.ifc (b := true) mt rfl (by decide) rfl ?_
                    show jWp 118 103 [some (jO x), some (jI (l1 : Int)), some (jI a), some (jI b), some (jI (k : Int))] [] 0 0 w _
                    refine jWp.blk mt 2 ?_
                    show jWp 118 74 [some (jO x), some (jI (l1 : Int)), some (jI a), some (jI b), some (jI ((k : Int) + 1))] [] 0 0 w _
                    refine jWp.le (l := [some (jO x), some (jI (l1 : Int)), some (jI a), some (jI b), some (jI ((k : Int) + 1))]) (by exact ⟨rfl, rfl, rfl, rfl, rfl, trivial⟩) ?_
                    exact ih7 (k + 1) _ (by omega) (by rw [hb, zbt_f (p := (fun z : Nat => zmd a (z : Int) (w.1 (x + (388 + 2 * l1))) (w.1 (x + (387 + 2 * l1)) 0).toNat)) (by assumption)]) (by omega)
            refine jWp.le (l := [some (jO x), some (jI (l1 : Int)), some (jI a), some (jI 0), some (jI 0)]) (by exact ⟨rfl, rfl, rfl, rfl, rfl, trivial⟩) ?_
            exact lp6 _ 0 0 (by omega) rfl (Nat.lt_succ_self _)
          · have h5 : ¬ (zsl (w.1 (x + (388 + 2 * l1))) (w.1 (x + (387 + 2 * l1)) 0).toNat) := h5
            show jWp 118 59 [some (jO x), some (jI (l1 : Int)), some (jI a), none, none] [jI 0] 0 0 w _
            refine jWp.ifc (b := false) mt rfl (by decide) rfl ?_
            show jWp 118 62 [some (jO x), some (jI (l1 : Int)), some (jI a), none, none] [] 0 0 w _
            refine jWp.blk mt 2 ?_
            show _ ∧ jWp 118 65 [some (jO x), some (jI (l1 : Int)), some (jI a), none, none] [jI (-3), jO x] 0 0 w _
            refine ⟨rfl, ?_⟩
            refine jWp.callv (as := [jO x, jI (-3)]) (rest := []) mt rfl rfl rfl ⟨rfl, jtg hX.X0⟩ ?_
            refine jCall.mono (C_refuse (w := w) (j := 2) hX (by decide) (by decide)) (fun v9 w9 h9 => ?_)
            obtain ⟨rfl, h9⟩ := h9
            subst h9
            show jWp 118 68 [some (jO x), some (jI (l1 : Int)), some (jI a), none, none] [jI (-3)] 0 0 (jW w (x + 362) 2 ((w.1 (x + 362) 2) + 1)) _
            refine jWp.ireti mt rfl ⟨rfl, rfl⟩ rfl ?_
            try rw [show ((l1 : Nat) : Int).toNat = l1 from rfl]
            refine ⟨fun c0 => ?_, fun c0 c1 => ?_, fun c0 c1 c2 => ?_, fun c0 c1 c2 c3 => ?_, fun c0 c1 c2 c3 => ?_⟩
            all_goals first
            | (exfalso; omega)
            | contradiction
            | (exfalso; exact absurd (by assumption) c4)
            | (exfalso; exact absurd (by assumption) c3)
            | exact ⟨rfl, rfl⟩
            | exact ⟨by rw [hb, show k = 10 by omega], rfl⟩
      · have h3 : 7 ≤ a := h3
        refine jWp.blk mt 2 ?_
        show _ ∧ jWp 118 27 [some (jO x), some (jI (l1 : Int)), some (jI a), none, none] [jI (-2), jO x] 0 0 w _
        refine ⟨rfl, ?_⟩
        refine jWp.callv (as := [jO x, jI (-2)]) (rest := []) mt rfl rfl rfl ⟨rfl, jtg hX.X0⟩ ?_
        refine jCall.mono (C_refuse (w := w) (j := 1) hX (by decide) (by decide)) (fun v9 w9 h9 => ?_)
        obtain ⟨rfl, h9⟩ := h9
        subst h9
        show jWp 118 30 [some (jO x), some (jI (l1 : Int)), some (jI a), none, none] [jI (-2)] 0 0 (jW w (x + 362) 1 ((w.1 (x + 362) 1) + 1)) _
        refine jWp.ireti mt rfl ⟨rfl, rfl⟩ rfl ?_
        try rw [show ((l1 : Nat) : Int).toNat = l1 from rfl]
        refine ⟨fun c0 => ?_, fun c0 c1 => ?_, fun c0 c1 c2 => ?_, fun c0 c1 c2 c3 => ?_, fun c0 c1 c2 c3 => ?_⟩
        all_goals first
        | (exfalso; omega)
        | contradiction
        | (exfalso; exact absurd (by assumption) c4)
        | (exfalso; exact absurd (by assumption) c3)
        | exact ⟨rfl, rfl⟩
        | exact ⟨by rw [hb, show k = 10 by omega], rfl⟩
  · have h1 : ¬ (0 ≤ l ∧ l ≤ 2) := h1
    show jWp 118 5 [some (jO x), some (jI l), some (jI a), none, none] [jI 0] 0 0 w _
    refine jWp.ifc (b := false) mt rfl (by decide) rfl ?_
    show jWp 118 8 [some (jO x), some (jI l), some (jI a), none, none] [] 0 0 w _
    refine jWp.blk mt 2 ?_
    show _ ∧ jWp 118 10 [some (jO x), some (jI l), some (jI a), none, none] [jI (-1), jO x] 0 0 w _
    refine ⟨rfl, ?_⟩
    refine jWp.callv (as := [jO x, jI (-1)]) (rest := []) mt rfl rfl rfl ⟨rfl, jtg hX.X0⟩ ?_
    refine jCall.mono (C_refuse (w := w) (j := 0) hX (by decide) (by decide)) (fun v9 w9 h9 => ?_)
    obtain ⟨rfl, h9⟩ := h9
    subst h9
    show jWp 118 13 [some (jO x), some (jI l), some (jI a), none, none] [jI (-1)] 0 0 (jW w (x + 362) 0 ((w.1 (x + 362) 0) + 1)) _
    refine jWp.ireti mt rfl ⟨rfl, rfl⟩ rfl ?_
    try rw [show ((l1 : Nat) : Int).toNat = l1 from rfl]
    refine ⟨fun c0 => ?_, fun c0 c1 => ?_, fun c0 c1 c2 => ?_, fun c0 c1 c2 c3 => ?_, fun c0 c1 c2 c3 => ?_⟩
    all_goals first
    | (exfalso; omega)
    | contradiction
    | (exfalso; exact absurd (by assumption) c4)
    | (exfalso; exact absurd (by assumption) c3)
    | exact ⟨rfl, rfl⟩
    | exact ⟨by rw [hb, show k = 10 by omega], rfl⟩
set_option maxHeartbeats 4000000 in
set_option maxRecDepth 20000 in
theorem C_judge {w : jS} {x : Nat} (hX : CW w.2 x) (hz : ∀ y, y < 3 → -1 ≤ w.1 (x + (387 + 2 * y)) 0 ∧ w.1 (x + (387 + 2 * y)) 0 ≤ 40) (hI : ∀ y, y < 3 → ∀ j, j < 40 → r32 (w.1 (x + (388 + 2 * y)) j)) {c : Nat} {R : Nat → Int} (hR : zRw R c) (hRW : cRW w x R c) {l a : Int} (hrl : r32 l) (hra : r32 a) : jCall 119 [jO x, jI l, jI a] w (fun v w1 => ((¬ (0 ≤ l ∧ l ≤ 2) ∨ ¬ (0 ≤ a ∧ a < (c : Int))) → cno w x 0 (jI (-1)) v w1) ∧ (¬ (¬ (0 ≤ l ∧ l ≤ 2) ∨ ¬ (0 ≤ a ∧ a < (c : Int))) → ((w.1 (x + (387 + 2 * l.toNat)) 0) < 0) → v = some (jI (-11)) ∧ w1 = w) ∧ (¬ (¬ (0 ≤ l ∧ l ≤ 2) ∨ ¬ (0 ≤ a ∧ a < (c : Int))) → ¬ ((w.1 (x + (387 + 2 * l.toNat)) 0) < 0) → ∃ (t : Nat → Int) (len : Nat) (why left : Int), zTR R a.toNat t len why left ∧ v = some (jI (zff (fun k => ¬ k < len ∨ w.1 (x + (388 + 2 * l.toNat)) k ≠ t k) (w.1 (x + (387 + 2 * l.toNat)) 0).toNat 0)) ∧ w1 = w)) := by
  have mt : jtb 119 = jT119 := rfl
  have hc4 := hR.2.1
  have hra1 : -2147483648 ≤ a ∧ a < 2147483648 := hra
  have hrl1 : -2147483648 ≤ l ∧ l < 2147483648 := hrl
  show jWp 119 0 [some (jO x), some (jI l), some (jI a)] [] 0 0 w _
  refine jWp.blk mt 2 ?_
  show _ ∧ jWp 119 2 [some (jO x), some (jI l), some (jI a)] [jI l, jO x] 0 0 w _
  refine ⟨rfl, ?_⟩
  refine jWp.callv (as := [jO x, jI l]) (rest := []) mt rfl rfl rfl ⟨rfl, jtg hX.X0⟩ ?_
  refine jCall.mono (C_isList (w := w) hX hrl) (fun v9 w9 h9 => ?_)
  rcases h9 with ⟨rfl, h9, h1⟩ | ⟨rfl, h9, h1⟩ <;> subst w9
  · have h1 : 0 ≤ l ∧ l ≤ 2 := h1
    show jWp 119 5 [some (jO x), some (jI l), some (jI a)] [jI 1] 0 0 w _
    obtain ⟨l1, rfl⟩ : ∃ l1 : Nat, l = (l1 : Int) := ⟨l.toNat, by omega⟩
    show jWp 119 5 [some (jO x), some (jI (l1 : Int)), some (jI a)] [jI 1] 0 0 w _
    have hzl := hz l1 (by omega)
    refine jWp.ifc (b := false) mt rfl (by decide) rfl ?_
    show jWp 119 8 [some (jO x), some (jI (l1 : Int)), some (jI a)] [] 0 0 w _
    refine jWp.blk mt 2 ?_
    show _ ∧ jWp 119 10 [some (jO x), some (jI (l1 : Int)), some (jI a)] [jI a, jO x] 0 0 w _
    refine ⟨rfl, ?_⟩
    refine jWp.callv (as := [jO x, jI a]) (rest := []) mt rfl rfl rfl ⟨rfl, jtg hX.X0⟩ ?_
    refine jCall.mono (C_isRow (w := w) hX hRW.1 hR.2.1 hra) (fun v9 w9 h9 => ?_)
    rcases h9 with ⟨rfl, h9, h2⟩ | ⟨rfl, h9, h2⟩ <;> subst w9
    · have h2 : 0 ≤ a ∧ a < (c : Int) := h2
      show jWp 119 13 [some (jO x), some (jI (l1 : Int)), some (jI a)] [jI 1] 0 0 w _
      obtain ⟨a1, rfl⟩ : ∃ a1 : Nat, a = (a1 : Int) := ⟨a.toNat, by omega⟩
      show jWp 119 13 [some (jO x), some (jI (l1 : Int)), some (jI (a1 : Int))] [jI 1] 0 0 w _
      obtain ⟨hlaw, hfig, hst, len, why, left, hlen, hwhy, hleft, hgr, hen⟩ := hRW.2 a1 (by omega)
      have hTR : zTR R a1 (w.1 (x + (365 + 6 * a1))) len why left := ⟨hgr, hen⟩
      have hTb := zTR_b hR (by omega) hTR
      have hRl := hR.2.2 a1 (by omega)
      show jWp 119 13 [some (jO x), some (jI (l1 : Int)), some (jI (a1 : Int))] [jI 1] 0 0 w _
      refine jWp.ifc (b := true) mt rfl (by decide) rfl ?_
      show jWp 119 22 [some (jO x), some (jI (l1 : Int)), some (jI (a1 : Int))] [] 0 0 w _
      refine jWp.blk mt 1 ?_
      show _ ∧ jWp 119 23 [some (jO x), some (jI (l1 : Int)), some (jI (a1 : Int))] [jO x] 0 0 w _
      refine ⟨rfl, ?_⟩
      refine jWp.getR (pc' := 26) (o := (x + 359)) mt rfl rfl (jtg hX.X0) hX.R11 ?_
      show jWp 119 26 [some (jO x), some (jI (l1 : Int)), some (jI (a1 : Int))] [jO (x + 359)] 0 0 w _
      refine jWp.blk mt 1 ?_
      show jWp 119 27 [some (jO x), some (jI (l1 : Int)), some (jI (a1 : Int))] [jI (l1 : Int), jO (x + 359)] 0 0 w _
      refine jWp.aald (pc' := 28) (j := l1) (o := (x + (387 + 2 * l1))) mt rfl rfl (jrg hX.X359 (by decide) (by decide)) (b32_id (by omega) (by omega)) (jlt hX.X359 (by omega)) (hX.RT l1 (by omega)) ?_
      show jWp 119 28 [some (jO x), some (jI (l1 : Int)), some (jI (a1 : Int))] [jO (x + (387 + 2 * l1))] 0 0 w _
      refine jWp.callv (as := [jO (x + (387 + 2 * l1))]) (rest := []) mt rfl rfl rfl ⟨rfl, jtg (hX.KT l1 (by omega))⟩ ?_
      refine jCall.mono (C_isMissing (w := w) (t := x + (387 + 2 * l1)) (tp := x + (388 + 2 * l1)) (hX.KT l1 (by omega)) (hX.KTp l1 (by omega)) (hX.RTp l1 (by omega)) rfl hzl) (fun v9 w9 h9 => ?_)
      rcases h9 with ⟨rfl, h9, h3⟩ | ⟨rfl, h9, h3⟩ <;> subst w9
      · have h3 : (w.1 (x + (387 + 2 * l1)) 0) < 0 := h3
        show jWp 119 31 [some (jO x), some (jI (l1 : Int)), some (jI (a1 : Int))] [jI 1] 0 0 w _
        refine jWp.ifc (b := false) mt rfl (by decide) rfl ?_
        show jWp 119 34 [some (jO x), some (jI (l1 : Int)), some (jI (a1 : Int))] [] 0 0 w _
        refine jWp.blk mt 2 ?_
        show _ ∧ jWp 119 37 [some (jO x), some (jI (l1 : Int)), some (jI (a1 : Int))] [jI (-11), jO x] 0 0 w _
        refine ⟨rfl, ?_⟩
        refine jWp.callv (as := [jO x, jI (-11)]) (rest := []) mt rfl rfl rfl ⟨rfl, jtg hX.X0⟩ ?_
        refine jCall.mono (C_refuse2 (w := w) hX (by decide)) (fun v9 w9 h9 => ?_)
        obtain ⟨rfl, h9⟩ := h9
        subst w9
        show jWp 119 40 [some (jO x), some (jI (l1 : Int)), some (jI (a1 : Int))] [jI (-11)] 0 0 w _
        refine jWp.ireti mt rfl ⟨rfl, rfl⟩ rfl ?_
        try rw [show ((l1 : Nat) : Int).toNat = l1 from rfl]
        refine ⟨fun c0 => ?_, fun c0 c1 => ?_, fun c0 c1 => ?_⟩
        all_goals first
        | (exfalso; omega)
        | exact ⟨rfl, rfl⟩
        | exact ⟨_, len, why, left, hTR, rfl, rfl⟩
      · have h3 : ¬ ((w.1 (x + (387 + 2 * l1)) 0) < 0) := h3
        show jWp 119 31 [some (jO x), some (jI (l1 : Int)), some (jI (a1 : Int))] [jI 0] 0 0 w _
        refine jWp.ifc (b := true) mt rfl (by decide) rfl ?_
        show jWp 119 41 [some (jO x), some (jI (l1 : Int)), some (jI (a1 : Int))] [] 0 0 w _
        refine jWp.blk mt 1 ?_
        show _ ∧ jWp 119 42 [some (jO x), some (jI (l1 : Int)), some (jI (a1 : Int))] [jO x] 0 0 w _
        refine ⟨rfl, ?_⟩
        refine jWp.getR (pc' := 45) (o := (x + 359)) mt rfl rfl (jtg hX.X0) hX.R11 ?_
        show jWp 119 45 [some (jO x), some (jI (l1 : Int)), some (jI (a1 : Int))] [jO (x + 359)] 0 0 w _
        refine jWp.blk mt 1 ?_
        show jWp 119 46 [some (jO x), some (jI (l1 : Int)), some (jI (a1 : Int))] [jI (l1 : Int), jO (x + 359)] 0 0 w _
        refine jWp.aald (pc' := 47) (j := l1) (o := (x + (387 + 2 * l1))) mt rfl rfl (jrg hX.X359 (by decide) (by decide)) (b32_id (by omega) (by omega)) (jlt hX.X359 (by omega)) (hX.RT l1 (by omega)) ?_
        show jWp 119 47 [some (jO x), some (jI (l1 : Int)), some (jI (a1 : Int))] [jO (x + (387 + 2 * l1))] 0 0 w _
        refine jWp.blk mt 1 ?_
        show _ ∧ jWp 119 48 [some (jO x), some (jI (l1 : Int)), some (jI (a1 : Int))] [jO x, jO (x + (387 + 2 * l1))] 0 0 w _
        refine ⟨rfl, ?_⟩
        refine jWp.getR (pc' := 51) (o := (x + 1)) mt rfl rfl (jtg hX.X0) hX.R0 ?_
        show jWp 119 51 [some (jO x), some (jI (l1 : Int)), some (jI (a1 : Int))] [jO (x + 1), jO (x + (387 + 2 * l1))] 0 0 w _
        refine jWp.blk mt 1 ?_
        show jWp 119 52 [some (jO x), some (jI (l1 : Int)), some (jI (a1 : Int))] [jI (a1 : Int), jO (x + 1), jO (x + (387 + 2 * l1))] 0 0 w _
        refine jWp.aald (pc' := 53) (j := a1) (o := (x + (363 + 6 * a1))) mt rfl rfl (jrg hX.X1 (by decide) (by decide)) (b32_id (by omega) (by omega)) (jlt hX.X1 (by omega)) (hX.RR a1 (by omega)) ?_
        show jWp 119 53 [some (jO x), some (jI (l1 : Int)), some (jI (a1 : Int))] [jO (x + (363 + 6 * a1)), jO (x + (387 + 2 * l1))] 0 0 w _
        refine jWp.callv (as := [jO (x + (387 + 2 * l1)), jO (x + (363 + 6 * a1))]) (rest := []) mt rfl rfl rfl ⟨rfl, jtg (hX.KT l1 (by omega))⟩ ?_
        refine jCall.mono (C_otherwise (w := w) (t := x + (387 + 2 * l1)) (tp := x + (388 + 2 * l1)) (hX.KT l1 (by omega)) (hX.KTp l1 (by omega)) (hX.RTp l1 (by omega)) rfl hzl (hI l1 (by omega)) (r := x + (363 + 6 * a1)) (rt := x + (365 + 6 * a1)) (len := len) (hX.KR a1 (by omega)) (hX.KRt a1 (by omega)) (hX.RRt a1 (by omega)) hlen (by omega) hTb.2.2) (fun v9 w9 h9 => ?_)
        obtain ⟨rfl, h9⟩ := h9
        subst w9
        show jWp 119 56 [some (jO x), some (jI (l1 : Int)), some (jI (a1 : Int))] [jI (zff (fun k => ¬ k < len ∨ w.1 (x + (388 + 2 * l1)) k ≠ w.1 (x + (365 + 6 * a1)) k) (w.1 (x + (387 + 2 * l1)) 0).toNat 0)] 0 0 w _
        refine jWp.ireti mt rfl ⟨rfl, rfl⟩ rfl ?_
        try rw [show ((l1 : Nat) : Int).toNat = l1 from rfl]
        refine ⟨fun c0 => ?_, fun c0 c1 => ?_, fun c0 c1 => ?_⟩
        all_goals first
        | (exfalso; omega)
        | exact ⟨rfl, rfl⟩
        | exact ⟨_, len, why, left, hTR, rfl, rfl⟩
    · have h2 : ¬ (0 ≤ a ∧ a < (c : Int)) := h2
      show jWp 119 13 [some (jO x), some (jI (l1 : Int)), some (jI a)] [jI 0] 0 0 w _
      refine jWp.ifc (b := false) mt rfl (by decide) rfl ?_
      show jWp 119 16 [some (jO x), some (jI (l1 : Int)), some (jI a)] [] 0 0 w _
      refine jWp.blk mt 2 ?_
      show _ ∧ jWp 119 18 [some (jO x), some (jI (l1 : Int)), some (jI a)] [jI (-1), jO x] 0 0 w _
      refine ⟨rfl, ?_⟩
      refine jWp.callv (as := [jO x, jI (-1)]) (rest := []) mt rfl rfl rfl ⟨rfl, jtg hX.X0⟩ ?_
      refine jCall.mono (C_refuse (w := w) (j := 0) hX (by decide) (by decide)) (fun v9 w9 h9 => ?_)
      obtain ⟨rfl, h9⟩ := h9
      subst h9
      show jWp 119 21 [some (jO x), some (jI (l1 : Int)), some (jI a)] [jI (-1)] 0 0 (jW w (x + 362) 0 ((w.1 (x + 362) 0) + 1)) _
      refine jWp.ireti mt rfl ⟨rfl, rfl⟩ rfl ?_
      try rw [show ((l1 : Nat) : Int).toNat = l1 from rfl]
      refine ⟨fun c0 => ?_, fun c0 c1 => ?_, fun c0 c1 => ?_⟩
      all_goals first
      | (exfalso; omega)
      | exact ⟨rfl, rfl⟩
      | exact ⟨_, len, why, left, hTR, rfl, rfl⟩
  · have h1 : ¬ (0 ≤ l ∧ l ≤ 2) := h1
    show jWp 119 5 [some (jO x), some (jI l), some (jI a)] [jI 0] 0 0 w _
    refine jWp.ifc (b := true) mt rfl (by decide) rfl ?_
    show jWp 119 16 [some (jO x), some (jI l), some (jI a)] [] 0 0 w _
    refine jWp.blk mt 2 ?_
    show _ ∧ jWp 119 18 [some (jO x), some (jI l), some (jI a)] [jI (-1), jO x] 0 0 w _
    refine ⟨rfl, ?_⟩
    refine jWp.callv (as := [jO x, jI (-1)]) (rest := []) mt rfl rfl rfl ⟨rfl, jtg hX.X0⟩ ?_
    refine jCall.mono (C_refuse (w := w) (j := 0) hX (by decide) (by decide)) (fun v9 w9 h9 => ?_)
    obtain ⟨rfl, h9⟩ := h9
    subst h9
    show jWp 119 21 [some (jO x), some (jI l), some (jI a)] [jI (-1)] 0 0 (jW w (x + 362) 0 ((w.1 (x + 362) 0) + 1)) _
    refine jWp.ireti mt rfl ⟨rfl, rfl⟩ rfl ?_
    try rw [show ((l1 : Nat) : Int).toNat = l1 from rfl]
    refine ⟨fun c0 => ?_, fun c0 c1 => ?_, fun c0 c1 => ?_⟩
    all_goals first
    | (exfalso; omega)
    | exact ⟨rfl, rfl⟩
    | exact ⟨_, len, why, left, hTR, rfl, rfl⟩
set_option maxHeartbeats 4000000 in
set_option maxRecDepth 20000 in
theorem C_lays {w : jS} {x : Nat} (hX : CW w.2 x) (hz : ∀ y, y < 3 → -1 ≤ w.1 (x + (387 + 2 * y)) 0 ∧ w.1 (x + (387 + 2 * y)) 0 ≤ 40) (hI : ∀ y, y < 3 → ∀ j, j < 40 → r32 (w.1 (x + (388 + 2 * y)) j)) {c : Nat} {R : Nat → Int} (hR : zRw R c) (hRW : cRW w x R c) {l i a : Int} (hrl : r32 l) (hri : r32 i) (hra : r32 a) : jCall 123 [jO x, jI l, jI i, jI a] w (fun v w1 => ((¬ (0 ≤ l ∧ l ≤ 2) ∨ ¬ (0 ≤ a ∧ a < (c : Int))) → cno w x 0 (jI (-1)) v w1) ∧ (¬ (¬ (0 ≤ l ∧ l ≤ 2) ∨ ¬ (0 ≤ a ∧ a < (c : Int))) → ((w.1 (x + (387 + 2 * l.toNat)) 0) < 0) → v = some (jI (-11)) ∧ w1 = w) ∧ (¬ (¬ (0 ≤ l ∧ l ≤ 2) ∨ ¬ (0 ≤ a ∧ a < (c : Int))) → ¬ ((w.1 (x + (387 + 2 * l.toNat)) 0) < 0) → (¬ (0 ≤ i ∧ i < w.1 (x + (387 + 2 * l.toNat)) 0)) → v = some (jI (-13)) ∧ w1 = w) ∧ (¬ (¬ (0 ≤ l ∧ l ≤ 2) ∨ ¬ (0 ≤ a ∧ a < (c : Int))) → ¬ ((w.1 (x + (387 + 2 * l.toNat)) 0) < 0) → ¬ (¬ (0 ≤ i ∧ i < w.1 (x + (387 + 2 * l.toNat)) 0)) → ∃ (t : Nat → Int) (len : Nat) (why left : Int), zTR R a.toNat t len why left ∧ ∃ (n : Nat) (T : Nat → Int), v = some (jI (n : Int)) ∧ (n ≤ len ∧ i + (n : Int) ≤ w.1 (x + (387 + 2 * l.toNat)) 0 ∧ (n < len → i + (n : Int) = w.1 (x + (387 + 2 * l.toNat)) 0)) ∧ w1 = kA w (x + (388 + 2 * l.toNat)) T ∧ zly (w.1 (x + (388 + 2 * l.toNat))) t T i.toNat n)) := by
  have mt : jtb 123 = jT123 := rfl
  have hc4 := hR.2.1
  have hra1 : -2147483648 ≤ a ∧ a < 2147483648 := hra
  have hrl1 : -2147483648 ≤ l ∧ l < 2147483648 := hrl
  have hri1 : -2147483648 ≤ i ∧ i < 2147483648 := hri
  show jWp 123 0 [some (jO x), some (jI l), some (jI i), some (jI a)] [] 0 0 w _
  refine jWp.blk mt 2 ?_
  show _ ∧ jWp 123 2 [some (jO x), some (jI l), some (jI i), some (jI a)] [jI l, jO x] 0 0 w _
  refine ⟨rfl, ?_⟩
  refine jWp.callv (as := [jO x, jI l]) (rest := []) mt rfl rfl rfl ⟨rfl, jtg hX.X0⟩ ?_
  refine jCall.mono (C_isList (w := w) hX hrl) (fun v9 w9 h9 => ?_)
  rcases h9 with ⟨rfl, h9, h1⟩ | ⟨rfl, h9, h1⟩ <;> subst w9
  · have h1 : 0 ≤ l ∧ l ≤ 2 := h1
    show jWp 123 5 [some (jO x), some (jI l), some (jI i), some (jI a)] [jI 1] 0 0 w _
    obtain ⟨l1, rfl⟩ : ∃ l1 : Nat, l = (l1 : Int) := ⟨l.toNat, by omega⟩
    show jWp 123 5 [some (jO x), some (jI (l1 : Int)), some (jI i), some (jI a)] [jI 1] 0 0 w _
    have hzl := hz l1 (by omega)
    refine jWp.ifc (b := false) mt rfl (by decide) rfl ?_
    show jWp 123 8 [some (jO x), some (jI (l1 : Int)), some (jI i), some (jI a)] [] 0 0 w _
    refine jWp.blk mt 2 ?_
    show _ ∧ jWp 123 10 [some (jO x), some (jI (l1 : Int)), some (jI i), some (jI a)] [jI a, jO x] 0 0 w _
    refine ⟨rfl, ?_⟩
    refine jWp.callv (as := [jO x, jI a]) (rest := []) mt rfl rfl rfl ⟨rfl, jtg hX.X0⟩ ?_
    refine jCall.mono (C_isRow (w := w) hX hRW.1 hR.2.1 hra) (fun v9 w9 h9 => ?_)
    rcases h9 with ⟨rfl, h9, h2⟩ | ⟨rfl, h9, h2⟩ <;> subst w9
    · have h2 : 0 ≤ a ∧ a < (c : Int) := h2
      show jWp 123 13 [some (jO x), some (jI (l1 : Int)), some (jI i), some (jI a)] [jI 1] 0 0 w _
      obtain ⟨a1, rfl⟩ : ∃ a1 : Nat, a = (a1 : Int) := ⟨a.toNat, by omega⟩
      show jWp 123 13 [some (jO x), some (jI (l1 : Int)), some (jI i), some (jI (a1 : Int))] [jI 1] 0 0 w _
      obtain ⟨hlaw, hfig, hst, len, why, left, hlen, hwhy, hleft, hgr, hen⟩ := hRW.2 a1 (by omega)
      have hTR : zTR R a1 (w.1 (x + (365 + 6 * a1))) len why left := ⟨hgr, hen⟩
      have hTb := zTR_b hR (by omega) hTR
      have hRl := hR.2.2 a1 (by omega)
      show jWp 123 13 [some (jO x), some (jI (l1 : Int)), some (jI i), some (jI (a1 : Int))] [jI 1] 0 0 w _
      refine jWp.ifc (b := true) mt rfl (by decide) rfl ?_
      show jWp 123 22 [some (jO x), some (jI (l1 : Int)), some (jI i), some (jI (a1 : Int))] [] 0 0 w _
      refine jWp.blk mt 1 ?_
      show _ ∧ jWp 123 23 [some (jO x), some (jI (l1 : Int)), some (jI i), some (jI (a1 : Int))] [jO x] 0 0 w _
      refine ⟨rfl, ?_⟩
      refine jWp.getR (pc' := 26) (o := (x + 359)) mt rfl rfl (jtg hX.X0) hX.R11 ?_
      show jWp 123 26 [some (jO x), some (jI (l1 : Int)), some (jI i), some (jI (a1 : Int))] [jO (x + 359)] 0 0 w _
      refine jWp.blk mt 1 ?_
      show jWp 123 27 [some (jO x), some (jI (l1 : Int)), some (jI i), some (jI (a1 : Int))] [jI (l1 : Int), jO (x + 359)] 0 0 w _
      refine jWp.aald (pc' := 28) (j := l1) (o := (x + (387 + 2 * l1))) mt rfl rfl (jrg hX.X359 (by decide) (by decide)) (b32_id (by omega) (by omega)) (jlt hX.X359 (by omega)) (hX.RT l1 (by omega)) ?_
      show jWp 123 28 [some (jO x), some (jI (l1 : Int)), some (jI i), some (jI (a1 : Int))] [jO (x + (387 + 2 * l1))] 0 0 w _
      refine jWp.callv (as := [jO (x + (387 + 2 * l1))]) (rest := []) mt rfl rfl rfl ⟨rfl, jtg (hX.KT l1 (by omega))⟩ ?_
      refine jCall.mono (C_isMissing (w := w) (t := x + (387 + 2 * l1)) (tp := x + (388 + 2 * l1)) (hX.KT l1 (by omega)) (hX.KTp l1 (by omega)) (hX.RTp l1 (by omega)) rfl hzl) (fun v9 w9 h9 => ?_)
      rcases h9 with ⟨rfl, h9, h3⟩ | ⟨rfl, h9, h3⟩ <;> subst w9
      · have h3 : (w.1 (x + (387 + 2 * l1)) 0) < 0 := h3
        show jWp 123 31 [some (jO x), some (jI (l1 : Int)), some (jI i), some (jI (a1 : Int))] [jI 1] 0 0 w _
        refine jWp.ifc (b := false) mt rfl (by decide) rfl ?_
        show jWp 123 34 [some (jO x), some (jI (l1 : Int)), some (jI i), some (jI (a1 : Int))] [] 0 0 w _
        refine jWp.blk mt 2 ?_
        show _ ∧ jWp 123 37 [some (jO x), some (jI (l1 : Int)), some (jI i), some (jI (a1 : Int))] [jI (-11), jO x] 0 0 w _
        refine ⟨rfl, ?_⟩
        refine jWp.callv (as := [jO x, jI (-11)]) (rest := []) mt rfl rfl rfl ⟨rfl, jtg hX.X0⟩ ?_
        refine jCall.mono (C_refuse2 (w := w) hX (by decide)) (fun v9 w9 h9 => ?_)
        obtain ⟨rfl, h9⟩ := h9
        subst w9
        show jWp 123 40 [some (jO x), some (jI (l1 : Int)), some (jI i), some (jI (a1 : Int))] [jI (-11)] 0 0 w _
        refine jWp.ireti mt rfl ⟨rfl, rfl⟩ rfl ?_
        try rw [show ((l1 : Nat) : Int).toNat = l1 from rfl]
        refine ⟨fun c0 => ?_, fun c0 c1 => ?_, fun c0 c1 c2 => ?_, fun c0 c1 c2 => ?_⟩
        all_goals first
        | (exfalso; omega)
        | exact ⟨rfl, rfl⟩
        | exact ⟨_, len, why, left, hTR, n, T, rfl, hn9, rfl, hzy⟩
      · have h3 : ¬ ((w.1 (x + (387 + 2 * l1)) 0) < 0) := h3
        show jWp 123 31 [some (jO x), some (jI (l1 : Int)), some (jI i), some (jI (a1 : Int))] [jI 0] 0 0 w _
        refine jWp.ifc (b := true) mt rfl (by decide) rfl ?_
        show jWp 123 41 [some (jO x), some (jI (l1 : Int)), some (jI i), some (jI (a1 : Int))] [] 0 0 w _
        refine jWp.blk mt 1 ?_
        show _ ∧ jWp 123 42 [some (jO x), some (jI (l1 : Int)), some (jI i), some (jI (a1 : Int))] [jO x] 0 0 w _
        refine ⟨rfl, ?_⟩
        refine jWp.getR (pc' := 45) (o := (x + 359)) mt rfl rfl (jtg hX.X0) hX.R11 ?_
        show jWp 123 45 [some (jO x), some (jI (l1 : Int)), some (jI i), some (jI (a1 : Int))] [jO (x + 359)] 0 0 w _
        refine jWp.blk mt 1 ?_
        show jWp 123 46 [some (jO x), some (jI (l1 : Int)), some (jI i), some (jI (a1 : Int))] [jI (l1 : Int), jO (x + 359)] 0 0 w _
        refine jWp.aald (pc' := 47) (j := l1) (o := (x + (387 + 2 * l1))) mt rfl rfl (jrg hX.X359 (by decide) (by decide)) (b32_id (by omega) (by omega)) (jlt hX.X359 (by omega)) (hX.RT l1 (by omega)) ?_
        show jWp 123 47 [some (jO x), some (jI (l1 : Int)), some (jI i), some (jI (a1 : Int))] [jO (x + (387 + 2 * l1))] 0 0 w _
        refine jWp.blk mt 1 ?_
        show jWp 123 48 [some (jO x), some (jI (l1 : Int)), some (jI i), some (jI (a1 : Int))] [jI i, jO (x + (387 + 2 * l1))] 0 0 w _
        refine jWp.callv (as := [jO (x + (387 + 2 * l1)), jI i]) (rest := []) mt rfl rfl rfl ⟨rfl, jtg (hX.KT l1 (by omega))⟩ ?_
        refine jCall.mono (C_thas (w := w) (t := x + (387 + 2 * l1)) (tp := x + (388 + 2 * l1)) (hX.KT l1 (by omega)) (hX.KTp l1 (by omega)) (hX.RTp l1 (by omega)) rfl hzl hri) (fun v9 w9 h9 => ?_)
        rcases h9 with ⟨rfl, h9, h4⟩ | ⟨rfl, h9, h4⟩ <;> subst w9
        · have h4 : 0 ≤ i ∧ i < (w.1 (x + (387 + 2 * l1)) 0) := h4
          show jWp 123 51 [some (jO x), some (jI (l1 : Int)), some (jI i), some (jI (a1 : Int))] [jI 1] 0 0 w _
          obtain ⟨i1, rfl⟩ : ∃ i1 : Nat, i = (i1 : Int) := ⟨i.toNat, by omega⟩
          show jWp 123 51 [some (jO x), some (jI (l1 : Int)), some (jI (i1 : Int)), some (jI (a1 : Int))] [jI 1] 0 0 w _
          refine jWp.ifc (b := true) mt rfl (by decide) rfl ?_
          show jWp 123 61 [some (jO x), some (jI (l1 : Int)), some (jI (i1 : Int)), some (jI (a1 : Int))] [] 0 0 w _
          refine jWp.blk mt 1 ?_
          show _ ∧ jWp 123 62 [some (jO x), some (jI (l1 : Int)), some (jI (i1 : Int)), some (jI (a1 : Int))] [jO x] 0 0 w _
          refine ⟨rfl, ?_⟩
          refine jWp.getR (pc' := 65) (o := (x + 359)) mt rfl rfl (jtg hX.X0) hX.R11 ?_
          show jWp 123 65 [some (jO x), some (jI (l1 : Int)), some (jI (i1 : Int)), some (jI (a1 : Int))] [jO (x + 359)] 0 0 w _
          refine jWp.blk mt 1 ?_
          show jWp 123 66 [some (jO x), some (jI (l1 : Int)), some (jI (i1 : Int)), some (jI (a1 : Int))] [jI (l1 : Int), jO (x + 359)] 0 0 w _
          refine jWp.aald (pc' := 67) (j := l1) (o := (x + (387 + 2 * l1))) mt rfl rfl (jrg hX.X359 (by decide) (by decide)) (b32_id (by omega) (by omega)) (jlt hX.X359 (by omega)) (hX.RT l1 (by omega)) ?_
          show jWp 123 67 [some (jO x), some (jI (l1 : Int)), some (jI (i1 : Int)), some (jI (a1 : Int))] [jO (x + (387 + 2 * l1))] 0 0 w _
          refine jWp.blk mt 1 ?_
          show _ ∧ jWp 123 68 [some (jO x), some (jI (l1 : Int)), some (jI (i1 : Int)), some (jI (a1 : Int))] [jO x, jO (x + (387 + 2 * l1))] 0 0 w _
          refine ⟨rfl, ?_⟩
          refine jWp.getR (pc' := 71) (o := (x + 1)) mt rfl rfl (jtg hX.X0) hX.R0 ?_
          show jWp 123 71 [some (jO x), some (jI (l1 : Int)), some (jI (i1 : Int)), some (jI (a1 : Int))] [jO (x + 1), jO (x + (387 + 2 * l1))] 0 0 w _
          refine jWp.blk mt 1 ?_
          show jWp 123 72 [some (jO x), some (jI (l1 : Int)), some (jI (i1 : Int)), some (jI (a1 : Int))] [jI (a1 : Int), jO (x + 1), jO (x + (387 + 2 * l1))] 0 0 w _
          refine jWp.aald (pc' := 73) (j := a1) (o := (x + (363 + 6 * a1))) mt rfl rfl (jrg hX.X1 (by decide) (by decide)) (b32_id (by omega) (by omega)) (jlt hX.X1 (by omega)) (hX.RR a1 (by omega)) ?_
          show jWp 123 73 [some (jO x), some (jI (l1 : Int)), some (jI (i1 : Int)), some (jI (a1 : Int))] [jO (x + (363 + 6 * a1)), jO (x + (387 + 2 * l1))] 0 0 w _
          refine jWp.blk mt 1 ?_
          show jWp 123 74 [some (jO x), some (jI (l1 : Int)), some (jI (i1 : Int)), some (jI (a1 : Int))] [jI (i1 : Int), jO (x + (363 + 6 * a1)), jO (x + (387 + 2 * l1))] 0 0 w _
          refine jWp.callv (as := [jO (x + (387 + 2 * l1)), jO (x + (363 + 6 * a1)), jI (i1 : Int)]) (rest := []) mt rfl rfl rfl ⟨rfl, jtg (hX.KT l1 (by omega))⟩ ?_
          refine jCall.mono (C_takeFrom (w := w) (t := x + (387 + 2 * l1)) (tp := x + (388 + 2 * l1)) (hX.KT l1 (by omega)) (hX.KTp l1 (by omega)) (hX.RTp l1 (by omega)) rfl hzl (r := x + (363 + 6 * a1)) (rt := x + (365 + 6 * a1)) (len := len) (hX.KR a1 (by omega)) (hX.KRt a1 (by omega)) (hX.RRt a1 (by omega)) hlen (by omega) hTb.2.2 (i := i1) (by omega)) (fun v9 w9 h9 => ?_)
          obtain ⟨n, T, rfl, hn9, hw9, hzy⟩ := h9
          subst hw9
          show jWp 123 77 [some (jO x), some (jI (l1 : Int)), some (jI (i1 : Int)), some (jI (a1 : Int))] [jI (n : Int)] 0 0 (kA w (x + (388 + 2 * l1)) T) _
          refine jWp.ireti mt rfl ⟨rfl, rfl⟩ rfl ?_
          try rw [show ((l1 : Nat) : Int).toNat = l1 from rfl]
          refine ⟨fun c0 => ?_, fun c0 c1 => ?_, fun c0 c1 c2 => ?_, fun c0 c1 c2 => ?_⟩
          all_goals first
          | (exfalso; omega)
          | exact ⟨rfl, rfl⟩
          | exact ⟨_, len, why, left, hTR, n, T, rfl, hn9, rfl, hzy⟩
        · have h4 : ¬ (0 ≤ i ∧ i < (w.1 (x + (387 + 2 * l1)) 0)) := h4
          show jWp 123 51 [some (jO x), some (jI (l1 : Int)), some (jI i), some (jI (a1 : Int))] [jI 0] 0 0 w _
          refine jWp.ifc (b := false) mt rfl (by decide) rfl ?_
          show jWp 123 54 [some (jO x), some (jI (l1 : Int)), some (jI i), some (jI (a1 : Int))] [] 0 0 w _
          refine jWp.blk mt 2 ?_
          show _ ∧ jWp 123 57 [some (jO x), some (jI (l1 : Int)), some (jI i), some (jI (a1 : Int))] [jI (-13), jO x] 0 0 w _
          refine ⟨rfl, ?_⟩
          refine jWp.callv (as := [jO x, jI (-13)]) (rest := []) mt rfl rfl rfl ⟨rfl, jtg hX.X0⟩ ?_
          refine jCall.mono (C_refuse2 (w := w) hX (by decide)) (fun v9 w9 h9 => ?_)
          obtain ⟨rfl, h9⟩ := h9
          subst w9
          show jWp 123 60 [some (jO x), some (jI (l1 : Int)), some (jI i), some (jI (a1 : Int))] [jI (-13)] 0 0 w _
          refine jWp.ireti mt rfl ⟨rfl, rfl⟩ rfl ?_
          try rw [show ((l1 : Nat) : Int).toNat = l1 from rfl]
          refine ⟨fun c0 => ?_, fun c0 c1 => ?_, fun c0 c1 c2 => ?_, fun c0 c1 c2 => ?_⟩
          all_goals first
          | (exfalso; omega)
          | exact ⟨rfl, rfl⟩
          | exact ⟨_, len, why, left, hTR, n, T, rfl, hn9, rfl, hzy⟩
    · have h2 : ¬ (0 ≤ a ∧ a < (c : Int)) := h2
      show jWp 123 13 [some (jO x), some (jI (l1 : Int)), some (jI i), some (jI a)] [jI 0] 0 0 w _
      refine jWp.ifc (b := false) mt rfl (by decide) rfl ?_
      show jWp 123 16 [some (jO x), some (jI (l1 : Int)), some (jI i), some (jI a)] [] 0 0 w _
      refine jWp.blk mt 2 ?_
      show _ ∧ jWp 123 18 [some (jO x), some (jI (l1 : Int)), some (jI i), some (jI a)] [jI (-1), jO x] 0 0 w _
      refine ⟨rfl, ?_⟩
      refine jWp.callv (as := [jO x, jI (-1)]) (rest := []) mt rfl rfl rfl ⟨rfl, jtg hX.X0⟩ ?_
      refine jCall.mono (C_refuse (w := w) (j := 0) hX (by decide) (by decide)) (fun v9 w9 h9 => ?_)
      obtain ⟨rfl, h9⟩ := h9
      subst h9
      show jWp 123 21 [some (jO x), some (jI (l1 : Int)), some (jI i), some (jI a)] [jI (-1)] 0 0 (jW w (x + 362) 0 ((w.1 (x + 362) 0) + 1)) _
      refine jWp.ireti mt rfl ⟨rfl, rfl⟩ rfl ?_
      try rw [show ((l1 : Nat) : Int).toNat = l1 from rfl]
      refine ⟨fun c0 => ?_, fun c0 c1 => ?_, fun c0 c1 c2 => ?_, fun c0 c1 c2 => ?_⟩
      all_goals first
      | (exfalso; omega)
      | exact ⟨rfl, rfl⟩
      | exact ⟨_, len, why, left, hTR, n, T, rfl, hn9, rfl, hzy⟩
  · have h1 : ¬ (0 ≤ l ∧ l ≤ 2) := h1
    show jWp 123 5 [some (jO x), some (jI l), some (jI i), some (jI a)] [jI 0] 0 0 w _
    refine jWp.ifc (b := true) mt rfl (by decide) rfl ?_
    show jWp 123 16 [some (jO x), some (jI l), some (jI i), some (jI a)] [] 0 0 w _
    refine jWp.blk mt 2 ?_
    show _ ∧ jWp 123 18 [some (jO x), some (jI l), some (jI i), some (jI a)] [jI (-1), jO x] 0 0 w _
    refine ⟨rfl, ?_⟩
    refine jWp.callv (as := [jO x, jI (-1)]) (rest := []) mt rfl rfl rfl ⟨rfl, jtg hX.X0⟩ ?_
    refine jCall.mono (C_refuse (w := w) (j := 0) hX (by decide) (by decide)) (fun v9 w9 h9 => ?_)
    obtain ⟨rfl, h9⟩ := h9
    subst h9
    show jWp 123 21 [some (jO x), some (jI l), some (jI i), some (jI a)] [jI (-1)] 0 0 (jW w (x + 362) 0 ((w.1 (x + 362) 0) + 1)) _
    refine jWp.ireti mt rfl ⟨rfl, rfl⟩ rfl ?_
    try rw [show ((l1 : Nat) : Int).toNat = l1 from rfl]
    refine ⟨fun c0 => ?_, fun c0 c1 => ?_, fun c0 c1 c2 => ?_, fun c0 c1 c2 => ?_⟩
    all_goals first
    | (exfalso; omega)
    | exact ⟨rfl, rfl⟩
    | exact ⟨_, len, why, left, hTR, n, T, rfl, hn9, rfl, hzy⟩
