section
theorem cq_f {w : jS} {x : Nat} {M : Nat → Nat → Int} (h : ∀ b, (b < x + 7 ∨ x + 12 ≤ b) → M b = w.1 b) : cq w x (M, w.2) := ⟨rfl, fun b hb _ _ => h b (by omega)⟩
set_option maxHeartbeats 4000000 in
set_option maxRecDepth 20000 in
theorem C_ring {w : jS} {x : Nat} (hX : CW w.2 x) {n : Nat} {q : Nat → Int} {g : Prop} (hQ : zQ q n) (hn0 : w.1 (x + 3) 0 = (n : Int)) (hRR : cR g (w.1 (x + 4)) q n) {i j : Int} (hri : r32 i) (hrj : r32 j) : jCall 112 [jO x, jI i, jI j] w (fun v w1 => ((¬ (0 ≤ i ∧ i < (n : Int)) ∨ ¬ (0 ≤ j ∧ j < (n : Int)) ∨ i = j) → cno w x 0 (jI (-1)) v w1) ∧ (¬ (¬ (0 ≤ i ∧ i < (n : Int)) ∨ ¬ (0 ≤ j ∧ j < (n : Int)) ∨ i = j) → v = some (jI (zrF q n i.toNat j.toNat 20 1 q)) ∧ cq w x w1)) := by
  have mt : jtb 112 = jT112 := rfl
  have hn2 := hQ.S.n2
  have hn4 := hQ.S.n4
  have hri1 : -2147483648 ≤ i ∧ i < 2147483648 := hri
  have hrj1 : -2147483648 ≤ j ∧ j < 2147483648 := hrj
  show jWp 112 0 [some (jO x), some (jI i), some (jI j), none] [] 0 0 w _
  refine jWp.blk mt 1 ?_
  show _ ∧ jWp 112 1 [some (jO x), some (jI i), some (jI j), none] [jO x] 0 0 w _
  refine ⟨rfl, ?_⟩
  refine jWp.getR (pc' := 4) (o := (x + 3)) mt rfl rfl (jtg hX.X0) hX.R4 ?_
  show jWp 112 4 [some (jO x), some (jI i), some (jI j), none] [jO (x + 3)] 0 0 w _
  refine jWp.blk mt 1 ?_
  show jWp 112 5 [some (jO x), some (jI i), some (jI j), none] [jI i, jO (x + 3)] 0 0 w _
  refine jWp.callv (as := [jO (x + 3), jI i]) (rest := []) mt rfl rfl rfl ⟨rfl, jtg hX.X3⟩ ?_
  refine jCall.mono (E_has (w := w) (s := x + 3) (n := n) hX.X3 hn0 hn4 hri) (fun v9 w9 h9 => ?_)
  rcases h9 with ⟨rfl, h9, h1⟩ | ⟨rfl, h9, h1⟩ <;> subst w9
  · have h1 : 0 ≤ i ∧ i < (n : Int) := h1
    show jWp 112 8 [some (jO x), some (jI i), some (jI j), none] [jI 1] 0 0 w _
    obtain ⟨i1, rfl⟩ : ∃ i1 : Nat, i = (i1 : Int) := ⟨i.toNat, by omega⟩
    show jWp 112 8 [some (jO x), some (jI (i1 : Int)), some (jI j), none] [jI 1] 0 0 w _
    refine jWp.ifc (b := false) mt rfl (by decide) rfl ?_
    show jWp 112 11 [some (jO x), some (jI (i1 : Int)), some (jI j), none] [] 0 0 w _
    refine jWp.blk mt 1 ?_
    show _ ∧ jWp 112 12 [some (jO x), some (jI (i1 : Int)), some (jI j), none] [jO x] 0 0 w _
    refine ⟨rfl, ?_⟩
    refine jWp.getR (pc' := 15) (o := (x + 3)) mt rfl rfl (jtg hX.X0) hX.R4 ?_
    show jWp 112 15 [some (jO x), some (jI (i1 : Int)), some (jI j), none] [jO (x + 3)] 0 0 w _
    refine jWp.blk mt 1 ?_
    show jWp 112 16 [some (jO x), some (jI (i1 : Int)), some (jI j), none] [jI j, jO (x + 3)] 0 0 w _
    refine jWp.callv (as := [jO (x + 3), jI j]) (rest := []) mt rfl rfl rfl ⟨rfl, jtg hX.X3⟩ ?_
    refine jCall.mono (E_has (w := w) (s := x + 3) (n := n) hX.X3 hn0 hn4 hrj) (fun v9 w9 h9 => ?_)
    rcases h9 with ⟨rfl, h9, h2⟩ | ⟨rfl, h9, h2⟩ <;> subst w9
    · have h2 : 0 ≤ j ∧ j < (n : Int) := h2
      show jWp 112 19 [some (jO x), some (jI (i1 : Int)), some (jI j), none] [jI 1] 0 0 w _
      obtain ⟨j1, rfl⟩ : ∃ j1 : Nat, j = (j1 : Int) := ⟨j.toNat, by omega⟩
      show jWp 112 19 [some (jO x), some (jI (i1 : Int)), some (jI (j1 : Int)), none] [jI 1] 0 0 w _
      refine jWp.ifc (b := false) mt rfl (by decide) rfl ?_
      show jWp 112 22 [some (jO x), some (jI (i1 : Int)), some (jI (j1 : Int)), none] [] 0 0 w _
      refine jWp.blk mt 2 ?_
      show jWp 112 24 [some (jO x), some (jI (i1 : Int)), some (jI (j1 : Int)), none] [jI (j1 : Int), jI (i1 : Int)] 0 0 w _
      refine jWp.icmp (pc' := 27) mt rfl rfl (b32_id (by omega) (by omega)) (b32_id (by omega) (by omega)) (fun h3 => ?_) (fun h3 => ?_)
      · have h3 : (i1 : Int) ≠ (j1 : Int) := h3
        refine jWp.blk mt 1 ?_
        show _ ∧ jWp 112 34 [some (jO x), some (jI (i1 : Int)), some (jI (j1 : Int)), none] [jO x] 0 0 w _
        refine ⟨rfl, ?_⟩
        refine jWp.getR (pc' := 37) (o := (x + 7)) mt rfl rfl (jtg hX.X0) hX.R6 ?_
        show jWp 112 37 [some (jO x), some (jI (i1 : Int)), some (jI (j1 : Int)), none] [jO (x + 7)] 0 0 w _
        refine jWp.blk mt 1 ?_
        show _ ∧ jWp 112 38 [some (jO x), some (jI (i1 : Int)), some (jI (j1 : Int)), none] [jO x, jO (x + 7)] 0 0 w _
        refine ⟨rfl, ?_⟩
        refine jWp.getR (pc' := 41) (o := (x + 3)) mt rfl rfl (jtg hX.X0) hX.R4 ?_
        show jWp 112 41 [some (jO x), some (jI (i1 : Int)), some (jI (j1 : Int)), none] [jO (x + 3), jO (x + 7)] 0 0 w _
        refine jWp.callv (as := [jO (x + 7), jO (x + 3)]) (rest := []) mt rfl rfl rfl ⟨rfl, jtg hX.X7⟩ ?_
        refine jCall.mono (C_become (w := w) (s := x + 7) (sc := x + 8) hX.X7 hX.X8 hX.Rt (s2 := x + 3) (sc2 := x + 4) hX.X3 hX.X4 hX.Rc hn0) (fun v9 w9 h9 => ?_)
        obtain ⟨rfl, hbf, hn0', hc0⟩ := h9
        obtain ⟨M0, G9⟩ := w9
        have hg : G9 = w.2 := hbf.1
        subst hg
        have hf0 : ∀ b, (b < x + 7 ∨ x + 12 ≤ b) → M0 b = w.1 b := fun b hb => hbf.2 b (by omega) (by omega)
        have hR0 : cR g (M0 (x + 8)) q n := cR_C hc0 hRR
        show jWp 112 44 [some (jO x), some (jI (i1 : Int)), some (jI (j1 : Int)), none] [] 0 0 (M0, w.2) _
        refine jWp.blk mt 2 ?_
        show jWp 112 46 [some (jO x), some (jI (i1 : Int)), some (jI (j1 : Int)), some (jI 1)] [] 0 0 (M0, w.2) _
        have lp4 : ∀ (N : Nat) (t : Nat) (S : Nat → Int) (M1 : Nat → Nat → Int) (ht : 1 ≤ t ∧ t ≤ 21) (hf1 : ∀ b, (b < x + 7 ∨ x + 12 ≤ b) → M1 b = w.1 b) (hn1 : M1 (x + 7) 0 = (n : Int)) (hR1 : cR False (M1 (x + 8)) S n) (hQ1 : zQ S n) (hr : zrF q n i1 j1 (21 - t) t S = zrF q n i1 j1 20 1 q), 21 - t < N → jWp 112 46 [some (jO x), some (jI (i1 : Int)), some (jI (j1 : Int)), some (jI (t : Int))] [] 0 0 (M1, w.2) (fun v w1 => ((¬ (0 ≤ (i1 : Int) ∧ (i1 : Int) < (n : Int)) ∨ ¬ (0 ≤ (j1 : Int) ∧ (j1 : Int) < (n : Int)) ∨ (i1 : Int) = (j1 : Int)) → cno w x 0 (jI (-1)) v w1) ∧ (¬ (¬ (0 ≤ (i1 : Int) ∧ (i1 : Int) < (n : Int)) ∨ ¬ (0 ≤ (j1 : Int) ∧ (j1 : Int) < (n : Int)) ∨ (i1 : Int) = (j1 : Int)) → v = some (jI (zrF q n (i1 : Int).toNat (j1 : Int).toNat 20 1 q)) ∧ cq w x w1)) := by
          intro N
          induction N with
          | zero => intro t S M1 ht hf1 hn1 hR1 hQ1 hr hm; omega
          | succ N ih5 =>
            intro t S M1 ht hf1 hn1 hR1 hQ1 hr hm
            have htm : Int.tmod (t : Int) 2 = ((t % 2 : Nat) : Int) := rfl
            refine jWp.blk mt 2 ?_
            show jWp 112 49 [some (jO x), some (jI (i1 : Int)), some (jI (j1 : Int)), some (jI (t : Int))] [jI 20, jI (t : Int)] 0 0 (M1, w.2) _
            refine jWp.icmp (pc' := 52) mt rfl rfl (b32_id (by omega) (by omega)) (show b32 20 = 20 by decide) (fun h6 => ?_) (fun h6 => ?_)
            · have h6 : 20 < (t : Int) := h6
              refine jWp.blk mt 1 ?_
              show jWp 112 105 [some (jO x), some (jI (i1 : Int)), some (jI (j1 : Int)), some (jI (t : Int))] [jI (-9)] 0 0 (M1, w.2) _
              refine jWp.ireti mt rfl ⟨rfl, rfl⟩ rfl ?_
              try rw [show ((i1 : Nat) : Int).toNat = i1 from rfl, show ((j1 : Nat) : Int).toNat = j1 from rfl]
              refine ⟨fun c0 => ?_, fun c0 => ?_⟩
              all_goals first
              | (exfalso; omega)
              | exact ⟨rfl, rfl⟩
              | exact ⟨by rw [← hr, show 21 - t = 0 by omega]; rfl, cq_f hf1⟩
            · have h6 : (t : Int) ≤ 20 := h6
              refine jWp.blk mt 1 ?_
              show _ ∧ jWp 112 53 [some (jO x), some (jI (i1 : Int)), some (jI (j1 : Int)), some (jI (t : Int))] [jO x] 0 0 (M1, w.2) _
              refine ⟨rfl, ?_⟩
              refine jWp.getR (pc' := 56) (o := (x + 9)) mt rfl rfl (jtg hX.X0) hX.R7 ?_
              show jWp 112 56 [some (jO x), some (jI (i1 : Int)), some (jI (j1 : Int)), some (jI (t : Int))] [jO (x + 9)] 0 0 (M1, w.2) _
              refine jWp.blk mt 1 ?_
              show _ ∧ jWp 112 57 [some (jO x), some (jI (i1 : Int)), some (jI (j1 : Int)), some (jI (t : Int))] [jO x, jO (x + 9)] 0 0 (M1, w.2) _
              refine ⟨rfl, ?_⟩
              refine jWp.getR (pc' := 60) (o := (x + 7)) mt rfl rfl (jtg hX.X0) hX.R6 ?_
              show jWp 112 60 [some (jO x), some (jI (i1 : Int)), some (jI (j1 : Int)), some (jI (t : Int))] [jO (x + 7), jO (x + 9)] 0 0 (M1, w.2) _
              refine jWp.blk mt 2 ?_
              show jWp 112 62 [some (jO x), some (jI (i1 : Int)), some (jI (j1 : Int)), some (jI (t : Int))] [jI 2, jI (t : Int), jO (x + 7), jO (x + 9)] 0 0 (M1, w.2) _
              refine jWp.irem (pc' := 63) mt rfl rfl (b32_id (by omega) (by omega)) (show b32 2 = 2 by decide) (by decide) ?_
              show jWp 112 63 [some (jO x), some (jI (i1 : Int)), some (jI (j1 : Int)), some (jI (t : Int))] [jI (Int.tmod (t : Int) 2), jO (x + 7), jO (x + 9)] 0 0 (M1, w.2) _
              refine jWp.blk mt 1 ?_
              show jWp 112 64 [some (jO x), some (jI (i1 : Int)), some (jI (j1 : Int)), some (jI (t : Int))] [jI 1, jI (Int.tmod (t : Int) 2), jO (x + 7), jO (x + 9)] 0 0 (M1, w.2) _
              refine jWp.icmp (pc' := 67) mt rfl rfl (b32_id (by omega) (by omega)) (show b32 1 = 1 by decide) (fun h7 => ?_) (fun h7 => ?_)
              · have h7 : (Int.tmod (t : Int) 2) ≠ 1 := h7
                refine jWp.blk mt 1 ?_
                show jWp 112 72 [some (jO x), some (jI (i1 : Int)), some (jI (j1 : Int)), some (jI (t : Int))] [jI (j1 : Int), jO (x + 7), jO (x + 9)] 0 0 (M1, w.2) _
                refine jWp.callv (as := [jO (x + 9), jO (x + 7), jI (j1 : Int)]) (rest := []) mt rfl rfl rfl ⟨rfl, jtg hX.X9⟩ ?_
                refine jCall.mono (C_make (w := (M1, w.2)) (s := x + 7) (sc := x + 8) (e := x + 9) (f1 := x + 10) (f2 := x + 11) (n := n) (k := j1) (q := S) (g := False) (G := zNo) hX.X7 hX.X8 hX.Rt hn1 hn4 hX.X9 hX.Ru hX.Rd hX.X10 hX.X11 (by omega) zG_no (fun z => z.elim) hQ1 hR1 (by omega)) (fun v9 w9 h9 => ?_)
                obtain ⟨hbf, hh⟩ := h9
                obtain ⟨M2, G9⟩ := w9
                have hg : G9 = w.2 := hbf.1
                subst hg
                have hf2' := hbf.2
                have hn2' : M2 (x + 7) 0 = (n : Int) := (congrFun (hf2' (x + 7) (by omega) (by omega) (by omega)) 0).trans hn1
                have hf2 : ∀ b, (b < x + 7 ∨ x + 12 ≤ b) → M2 b = w.1 b := fun b hb => (hf2' b (by omega) (by omega) (by omega)).trans (hf1 b hb)
                rcases hh with ⟨rfl, hcan, hcr⟩ | ⟨rfl, hcan, hcr⟩
                · have hcr : cR False (M2 (x + 8)) (zxF S n j1) n := hcr
                  have hQ2 : zQ (zxF S n j1) n := zQ_x hQ1 (by omega) hcan
                  show jWp 112 75 [some (jO x), some (jI (i1 : Int)), some (jI (j1 : Int)), some (jI (t : Int))] [jI 1] 0 0 (M2, w.2) _
                  refine jWp.ifc (b := true) mt rfl (by decide) rfl ?_
                  show jWp 112 81 [some (jO x), some (jI (i1 : Int)), some (jI (j1 : Int)), some (jI (t : Int))] [] 0 0 (M2, w.2) _
                  refine jWp.blk mt 1 ?_
                  show _ ∧ jWp 112 82 [some (jO x), some (jI (i1 : Int)), some (jI (j1 : Int)), some (jI (t : Int))] [jO x] 0 0 (M2, w.2) _
                  refine ⟨rfl, ?_⟩
                  refine jWp.getR (pc' := 85) (o := (x + 7)) mt rfl rfl (jtg hX.X0) hX.R6 ?_
                  show jWp 112 85 [some (jO x), some (jI (i1 : Int)), some (jI (j1 : Int)), some (jI (t : Int))] [jO (x + 7)] 0 0 (M2, w.2) _
                  refine jWp.blk mt 1 ?_
                  show _ ∧ jWp 112 86 [some (jO x), some (jI (i1 : Int)), some (jI (j1 : Int)), some (jI (t : Int))] [jO x, jO (x + 7)] 0 0 (M2, w.2) _
                  refine ⟨rfl, ?_⟩
                  refine jWp.getR (pc' := 89) (o := (x + 3)) mt rfl rfl (jtg hX.X0) hX.R4 ?_
                  show jWp 112 89 [some (jO x), some (jI (i1 : Int)), some (jI (j1 : Int)), some (jI (t : Int))] [jO (x + 3), jO (x + 7)] 0 0 (M2, w.2) _
                  refine jWp.callv (as := [jO (x + 7), jO (x + 3)]) (rest := []) mt rfl rfl rfl ⟨rfl, jtg hX.X7⟩ ?_
                  refine jCall.mono (C_same (w := (M2, w.2)) (s := x + 7) (sc := x + 8) (n := n) (q := zxF S n j1) hX.X7 hX.X8 hX.Rt hn2' hn4 hQ2 hcr.1 (s2 := x + 3) (sc2 := x + 4) (p := q) hX.X3 hX.X4 hX.Rc ((congrFun (hf2 (x + 3) (by omega)) 0).trans hn0) hQ (fun j hj => (congrFun (hf2 (x + 4) (by omega)) j).trans (hRR.1 j hj))) (fun v9 w9 h9 => ?_)
                  rcases h9 with ⟨rfl, h9, h8⟩ | ⟨rfl, h9, h8⟩ <;> subst w9
                  · have h8 : zsame (zxF S n j1) q n := h8
                    show jWp 112 92 [some (jO x), some (jI (i1 : Int)), some (jI (j1 : Int)), some (jI (t : Int))] [jI 1] 0 0 (M2, w.2) _
                    refine jWp.ifc (b := false) mt rfl (by decide) rfl ?_
                    show jWp 112 95 [some (jO x), some (jI (i1 : Int)), some (jI (j1 : Int)), some (jI (t : Int))] [] 0 0 (M2, w.2) _
                    refine jWp.blk mt 1 ?_
                    show jWp 112 96 [some (jO x), some (jI (i1 : Int)), some (jI (j1 : Int)), some (jI (t : Int))] [jI (t : Int)] 0 0 (M2, w.2) _
                    refine jWp.ireti mt rfl ⟨rfl, rfl⟩ rfl ?_
                    try rw [show ((i1 : Nat) : Int).toNat = i1 from rfl, show ((j1 : Nat) : Int).toNat = j1 from rfl]
                    refine ⟨fun c0 => ?_, fun c0 => ?_⟩
                    all_goals first
                    | (exfalso; omega)
                    | exact ⟨rfl, rfl⟩
                    | exact ⟨by rw [← hr, show 21 - t = (20 - t) + 1 by omega, zrF_yes (by first | (rw [if_pos (by omega)]; done) | (rw [if_neg (by omega)]; done)) hcan (zsame_s (by assumption))], cq_f hf2⟩
                  · have h8 : ¬ (zsame (zxF S n j1) q n) := h8
                    show jWp 112 92 [some (jO x), some (jI (i1 : Int)), some (jI (j1 : Int)), some (jI (t : Int))] [jI 0] 0 0 (M2, w.2) _
                    refine jWp.ifc (b := true) mt rfl (by decide) rfl ?_
                    show jWp 112 97 [some (jO x), some (jI (i1 : Int)), some (jI (j1 : Int)), some (jI (t : Int))] [] 0 0 (M2, w.2) _
                    refine jWp.blk mt 2 ?_
                    show jWp 112 46 [some (jO x), some (jI (i1 : Int)), some (jI (j1 : Int)), some (jI ((t : Int) + 1))] [] 0 0 (M2, w.2) _
                    refine jWp.le (l := [some (jO x), some (jI (i1 : Int)), some (jI (j1 : Int)), some (jI ((t : Int) + 1))]) (by exact ⟨rfl, rfl, rfl, rfl, trivial⟩) ?_
                    exact ih5 (t + 1) (zxF S n j1) M2 (by omega) hf2 hn2' hcr hQ2 (by rw [← hr, show 21 - t = (21 - (t + 1)) + 1 by omega, zrF_go (by first | (rw [if_pos (by omega)]; done) | (rw [if_neg (by omega)]; done)) hcan (fun g => absurd (zsame_s g) (by assumption))]) (by omega)
                · have hcr' := hcr
                  show jWp 112 75 [some (jO x), some (jI (i1 : Int)), some (jI (j1 : Int)), some (jI (t : Int))] [jI 0] 0 0 (M2, w.2) _
                  refine jWp.ifc (b := false) mt rfl (by decide) rfl ?_
                  show jWp 112 78 [some (jO x), some (jI (i1 : Int)), some (jI (j1 : Int)), some (jI (t : Int))] [] 0 0 (M2, w.2) _
                  refine jWp.blk mt 1 ?_
                  show jWp 112 80 [some (jO x), some (jI (i1 : Int)), some (jI (j1 : Int)), some (jI (t : Int))] [jI (-9)] 0 0 (M2, w.2) _
                  refine jWp.ireti mt rfl ⟨rfl, rfl⟩ rfl ?_
                  try rw [show ((i1 : Nat) : Int).toNat = i1 from rfl, show ((j1 : Nat) : Int).toNat = j1 from rfl]
                  refine ⟨fun c0 => ?_, fun c0 => ?_⟩
                  all_goals first
                  | (exfalso; omega)
                  | exact ⟨rfl, rfl⟩
                  | exact ⟨by rw [← hr, show 21 - t = (20 - t) + 1 by omega, zrF_no (by first | (rw [if_pos (by omega)]; done) | (rw [if_neg (by omega)]; done)) hcan], cq_f hf2⟩
              · have h7 : (Int.tmod (t : Int) 2) = 1 := h7
                refine jWp.blk mt 2 ?_
                show jWp 112 72 [some (jO x), some (jI (i1 : Int)), some (jI (j1 : Int)), some (jI (t : Int))] [jI (i1 : Int), jO (x + 7), jO (x + 9)] 0 0 (M1, w.2) _
                refine jWp.callv (as := [jO (x + 9), jO (x + 7), jI (i1 : Int)]) (rest := []) mt rfl rfl rfl ⟨rfl, jtg hX.X9⟩ ?_
                refine jCall.mono (C_make (w := (M1, w.2)) (s := x + 7) (sc := x + 8) (e := x + 9) (f1 := x + 10) (f2 := x + 11) (n := n) (k := i1) (q := S) (g := False) (G := zNo) hX.X7 hX.X8 hX.Rt hn1 hn4 hX.X9 hX.Ru hX.Rd hX.X10 hX.X11 (by omega) zG_no (fun z => z.elim) hQ1 hR1 (by omega)) (fun v9 w9 h9 => ?_)
                obtain ⟨hbf, hh⟩ := h9
                obtain ⟨M2, G9⟩ := w9
                have hg : G9 = w.2 := hbf.1
                subst hg
                have hf2' := hbf.2
                have hn2' : M2 (x + 7) 0 = (n : Int) := (congrFun (hf2' (x + 7) (by omega) (by omega) (by omega)) 0).trans hn1
                have hf2 : ∀ b, (b < x + 7 ∨ x + 12 ≤ b) → M2 b = w.1 b := fun b hb => (hf2' b (by omega) (by omega) (by omega)).trans (hf1 b hb)
                rcases hh with ⟨rfl, hcan, hcr⟩ | ⟨rfl, hcan, hcr⟩
                · have hcr : cR False (M2 (x + 8)) (zxF S n i1) n := hcr
                  have hQ2 : zQ (zxF S n i1) n := zQ_x hQ1 (by omega) hcan
                  show jWp 112 75 [some (jO x), some (jI (i1 : Int)), some (jI (j1 : Int)), some (jI (t : Int))] [jI 1] 0 0 (M2, w.2) _
                  refine jWp.ifc (b := true) mt rfl (by decide) rfl ?_
                  show jWp 112 81 [some (jO x), some (jI (i1 : Int)), some (jI (j1 : Int)), some (jI (t : Int))] [] 0 0 (M2, w.2) _
                  refine jWp.blk mt 1 ?_
                  show _ ∧ jWp 112 82 [some (jO x), some (jI (i1 : Int)), some (jI (j1 : Int)), some (jI (t : Int))] [jO x] 0 0 (M2, w.2) _
                  refine ⟨rfl, ?_⟩
                  refine jWp.getR (pc' := 85) (o := (x + 7)) mt rfl rfl (jtg hX.X0) hX.R6 ?_
                  show jWp 112 85 [some (jO x), some (jI (i1 : Int)), some (jI (j1 : Int)), some (jI (t : Int))] [jO (x + 7)] 0 0 (M2, w.2) _
                  refine jWp.blk mt 1 ?_
                  show _ ∧ jWp 112 86 [some (jO x), some (jI (i1 : Int)), some (jI (j1 : Int)), some (jI (t : Int))] [jO x, jO (x + 7)] 0 0 (M2, w.2) _
                  refine ⟨rfl, ?_⟩
                  refine jWp.getR (pc' := 89) (o := (x + 3)) mt rfl rfl (jtg hX.X0) hX.R4 ?_
                  show jWp 112 89 [some (jO x), some (jI (i1 : Int)), some (jI (j1 : Int)), some (jI (t : Int))] [jO (x + 3), jO (x + 7)] 0 0 (M2, w.2) _
                  refine jWp.callv (as := [jO (x + 7), jO (x + 3)]) (rest := []) mt rfl rfl rfl ⟨rfl, jtg hX.X7⟩ ?_
                  refine jCall.mono (C_same (w := (M2, w.2)) (s := x + 7) (sc := x + 8) (n := n) (q := zxF S n i1) hX.X7 hX.X8 hX.Rt hn2' hn4 hQ2 hcr.1 (s2 := x + 3) (sc2 := x + 4) (p := q) hX.X3 hX.X4 hX.Rc ((congrFun (hf2 (x + 3) (by omega)) 0).trans hn0) hQ (fun j hj => (congrFun (hf2 (x + 4) (by omega)) j).trans (hRR.1 j hj))) (fun v9 w9 h9 => ?_)
                  rcases h9 with ⟨rfl, h9, h9⟩ | ⟨rfl, h9, h9⟩ <;> subst w9
                  · have h9 : zsame (zxF S n i1) q n := h9
                    show jWp 112 92 [some (jO x), some (jI (i1 : Int)), some (jI (j1 : Int)), some (jI (t : Int))] [jI 1] 0 0 (M2, w.2) _
                    refine jWp.ifc (b := false) mt rfl (by decide) rfl ?_
                    show jWp 112 95 [some (jO x), some (jI (i1 : Int)), some (jI (j1 : Int)), some (jI (t : Int))] [] 0 0 (M2, w.2) _
                    refine jWp.blk mt 1 ?_
                    show jWp 112 96 [some (jO x), some (jI (i1 : Int)), some (jI (j1 : Int)), some (jI (t : Int))] [jI (t : Int)] 0 0 (M2, w.2) _
                    refine jWp.ireti mt rfl ⟨rfl, rfl⟩ rfl ?_
                    try rw [show ((i1 : Nat) : Int).toNat = i1 from rfl, show ((j1 : Nat) : Int).toNat = j1 from rfl]
                    refine ⟨fun c0 => ?_, fun c0 => ?_⟩
                    all_goals first
                    | (exfalso; omega)
                    | exact ⟨rfl, rfl⟩
                    | exact ⟨by rw [← hr, show 21 - t = (20 - t) + 1 by omega, zrF_yes (by first | (rw [if_pos (by omega)]; done) | (rw [if_neg (by omega)]; done)) hcan (zsame_s (by assumption))], cq_f hf2⟩
                  · have h9 : ¬ (zsame (zxF S n i1) q n) := h9
                    show jWp 112 92 [some (jO x), some (jI (i1 : Int)), some (jI (j1 : Int)), some (jI (t : Int))] [jI 0] 0 0 (M2, w.2) _
                    refine jWp.ifc (b := true) mt rfl (by decide) rfl ?_
                    show jWp 112 97 [some (jO x), some (jI (i1 : Int)), some (jI (j1 : Int)), some (jI (t : Int))] [] 0 0 (M2, w.2) _
                    refine jWp.blk mt 2 ?_
                    show jWp 112 46 [some (jO x), some (jI (i1 : Int)), some (jI (j1 : Int)), some (jI ((t : Int) + 1))] [] 0 0 (M2, w.2) _
                    refine jWp.le (l := [some (jO x), some (jI (i1 : Int)), some (jI (j1 : Int)), some (jI ((t : Int) + 1))]) (by exact ⟨rfl, rfl, rfl, rfl, trivial⟩) ?_
                    exact ih5 (t + 1) (zxF S n i1) M2 (by omega) hf2 hn2' hcr hQ2 (by rw [← hr, show 21 - t = (21 - (t + 1)) + 1 by omega, zrF_go (by first | (rw [if_pos (by omega)]; done) | (rw [if_neg (by omega)]; done)) hcan (fun g => absurd (zsame_s g) (by assumption))]) (by omega)
                · have hcr' := hcr
                  show jWp 112 75 [some (jO x), some (jI (i1 : Int)), some (jI (j1 : Int)), some (jI (t : Int))] [jI 0] 0 0 (M2, w.2) _
                  refine jWp.ifc (b := false) mt rfl (by decide) rfl ?_
                  show jWp 112 78 [some (jO x), some (jI (i1 : Int)), some (jI (j1 : Int)), some (jI (t : Int))] [] 0 0 (M2, w.2) _
                  refine jWp.blk mt 1 ?_
                  show jWp 112 80 [some (jO x), some (jI (i1 : Int)), some (jI (j1 : Int)), some (jI (t : Int))] [jI (-9)] 0 0 (M2, w.2) _
                  refine jWp.ireti mt rfl ⟨rfl, rfl⟩ rfl ?_
                  try rw [show ((i1 : Nat) : Int).toNat = i1 from rfl, show ((j1 : Nat) : Int).toNat = j1 from rfl]
                  refine ⟨fun c0 => ?_, fun c0 => ?_⟩
                  all_goals first
                  | (exfalso; omega)
                  | exact ⟨rfl, rfl⟩
                  | exact ⟨by rw [← hr, show 21 - t = (20 - t) + 1 by omega, zrF_no (by first | (rw [if_pos (by omega)]; done) | (rw [if_neg (by omega)]; done)) hcan], cq_f hf2⟩
        refine jWp.le (l := [some (jO x), some (jI (i1 : Int)), some (jI (j1 : Int)), some (jI 1)]) (by exact ⟨rfl, rfl, rfl, rfl, trivial⟩) ?_
        exact lp4 _ 1 q M0 (by omega) hf0 hn0' (cR_F hR0) hQ rfl (Nat.lt_succ_self _)
      · have h3 : (i1 : Int) = (j1 : Int) := h3
        refine jWp.blk mt 2 ?_
        show _ ∧ jWp 112 29 [some (jO x), some (jI (i1 : Int)), some (jI (j1 : Int)), none] [jI (-1), jO x] 0 0 w _
        refine ⟨rfl, ?_⟩
        refine jWp.callv (as := [jO x, jI (-1)]) (rest := []) mt rfl rfl rfl ⟨rfl, jtg hX.X0⟩ ?_
        refine jCall.mono (C_refuse (w := w) (j := 0) hX (by decide) (by decide)) (fun v9 w9 h9 => ?_)
        obtain ⟨rfl, h9⟩ := h9
        subst h9
        show jWp 112 32 [some (jO x), some (jI (i1 : Int)), some (jI (j1 : Int)), none] [jI (-1)] 0 0 (jW w (x + 362) 0 ((w.1 (x + 362) 0) + 1)) _
        refine jWp.ireti mt rfl ⟨rfl, rfl⟩ rfl ?_
        refine ⟨fun c0 => ?_, fun c0 => ?_⟩
        all_goals first
        | (exfalso; omega)
        | exact ⟨rfl, rfl⟩
    · have h2 : ¬ (0 ≤ j ∧ j < (n : Int)) := h2
      show jWp 112 19 [some (jO x), some (jI (i1 : Int)), some (jI j), none] [jI 0] 0 0 w _
      refine jWp.ifc (b := true) mt rfl (by decide) rfl ?_
      show jWp 112 27 [some (jO x), some (jI (i1 : Int)), some (jI j), none] [] 0 0 w _
      refine jWp.blk mt 2 ?_
      show _ ∧ jWp 112 29 [some (jO x), some (jI (i1 : Int)), some (jI j), none] [jI (-1), jO x] 0 0 w _
      refine ⟨rfl, ?_⟩
      refine jWp.callv (as := [jO x, jI (-1)]) (rest := []) mt rfl rfl rfl ⟨rfl, jtg hX.X0⟩ ?_
      refine jCall.mono (C_refuse (w := w) (j := 0) hX (by decide) (by decide)) (fun v9 w9 h9 => ?_)
      obtain ⟨rfl, h9⟩ := h9
      subst h9
      show jWp 112 32 [some (jO x), some (jI (i1 : Int)), some (jI j), none] [jI (-1)] 0 0 (jW w (x + 362) 0 ((w.1 (x + 362) 0) + 1)) _
      refine jWp.ireti mt rfl ⟨rfl, rfl⟩ rfl ?_
      refine ⟨fun c0 => ?_, fun c0 => ?_⟩
      all_goals first
      | (exfalso; omega)
      | exact ⟨rfl, rfl⟩
  · have h1 : ¬ (0 ≤ i ∧ i < (n : Int)) := h1
    show jWp 112 8 [some (jO x), some (jI i), some (jI j), none] [jI 0] 0 0 w _
    refine jWp.ifc (b := true) mt rfl (by decide) rfl ?_
    show jWp 112 27 [some (jO x), some (jI i), some (jI j), none] [] 0 0 w _
    refine jWp.blk mt 2 ?_
    show _ ∧ jWp 112 29 [some (jO x), some (jI i), some (jI j), none] [jI (-1), jO x] 0 0 w _
    refine ⟨rfl, ?_⟩
    refine jWp.callv (as := [jO x, jI (-1)]) (rest := []) mt rfl rfl rfl ⟨rfl, jtg hX.X0⟩ ?_
    refine jCall.mono (C_refuse (w := w) (j := 0) hX (by decide) (by decide)) (fun v9 w9 h9 => ?_)
    obtain ⟨rfl, h9⟩ := h9
    subst h9
    show jWp 112 32 [some (jO x), some (jI i), some (jI j), none] [jI (-1)] 0 0 (jW w (x + 362) 0 ((w.1 (x + 362) 0) + 1)) _
    refine jWp.ireti mt rfl ⟨rfl, rfl⟩ rfl ?_
    refine ⟨fun c0 => ?_, fun c0 => ?_⟩
    all_goals first
    | (exfalso; omega)
    | exact ⟨rfl, rfl⟩
set_option maxHeartbeats 4000000 in
set_option maxRecDepth 20000 in
theorem C_drawn {w : jS} {x : Nat} (hX : CW w.2 x) {n : Nat} {q : Nat → Int} {g : Prop} (hQ : zQ q n) (hn0 : w.1 (x + 3) 0 = (n : Int)) (hRR : cR g (w.1 (x + 4)) q n) {G : (Nat → Int) → Prop} (hG : zG G) (hgq : g → G q) {K : Nat} {z : Int} (hK9 : K ≤ 30) : jCall 116 [jO x, jI (K : Int), jI z] w (fun v w1 => v = some (jI (zlF n K z q).1) ∧ cq w x w1 ∧ w1.1 (x + 7) 0 = (n : Int) ∧ cR g (w1.1 (x + 8)) (zlF n K z q).2 n ∧ zQ (zlF n K z q).2 n ∧ (g → G (zlF n K z q).2)) := by
  have mt : jtb 116 = jT116 := rfl
  have hn2 := hQ.S.n2
  have hn4 := hQ.S.n4
  show jWp 116 0 [some (jO x), some (jI (K : Int)), some (jI z), none, none, none, none] [] 0 0 w _
  refine jWp.blk mt 1 ?_
  show _ ∧ jWp 116 1 [some (jO x), some (jI (K : Int)), some (jI z), none, none, none, none] [jO x] 0 0 w _
  refine ⟨rfl, ?_⟩
  refine jWp.getR (pc' := 4) (o := (x + 7)) mt rfl rfl (jtg hX.X0) hX.R6 ?_
  show jWp 116 4 [some (jO x), some (jI (K : Int)), some (jI z), none, none, none, none] [jO (x + 7)] 0 0 w _
  refine jWp.blk mt 1 ?_
  show _ ∧ jWp 116 5 [some (jO x), some (jI (K : Int)), some (jI z), none, none, none, none] [jO x, jO (x + 7)] 0 0 w _
  refine ⟨rfl, ?_⟩
  refine jWp.getR (pc' := 8) (o := (x + 3)) mt rfl rfl (jtg hX.X0) hX.R4 ?_
  show jWp 116 8 [some (jO x), some (jI (K : Int)), some (jI z), none, none, none, none] [jO (x + 3), jO (x + 7)] 0 0 w _
  refine jWp.callv (as := [jO (x + 7), jO (x + 3)]) (rest := []) mt rfl rfl rfl ⟨rfl, jtg hX.X7⟩ ?_
  refine jCall.mono (C_become (w := w) (s := x + 7) (sc := x + 8) hX.X7 hX.X8 hX.Rt (s2 := x + 3) (sc2 := x + 4) hX.X3 hX.X4 hX.Rc hn0) (fun v9 w9 h9 => ?_)
  obtain ⟨rfl, hbf, hn0', hc0⟩ := h9
  obtain ⟨M0, G9⟩ := w9
  have hg : G9 = w.2 := hbf.1
  subst hg
  have hf0 : ∀ b, (b < x + 7 ∨ x + 12 ≤ b) → M0 b = w.1 b := fun b hb => hbf.2 b (by omega) (by omega)
  have hR0 : cR g (M0 (x + 8)) q n := cR_C hc0 hRR
  show jWp 116 11 [some (jO x), some (jI (K : Int)), some (jI z), none, none, none, none] [] 0 0 (M0, w.2) _
  refine jWp.blk mt 6 ?_
  show jWp 116 19 [some (jO x), some (jI (K : Int)), some (jI z), some (jI 0), some (jI z), some (jI 0), none] [] 0 0 (M0, w.2) _
  have lp1 : ∀ (N : Nat) (t : Nat) (o z1 : Int) (S : Nat → Int) (M1 : Nat → Nat → Int) (ht : t ≤ K) (ho : 0 ≤ o ∧ o ≤ (t : Int)) (hf1 : ∀ b, (b < x + 7 ∨ x + 12 ≤ b) → M1 b = w.1 b) (hn1 : M1 (x + 7) 0 = (n : Int)) (hR1 : cR g (M1 (x + 8)) S n) (hQ1 : zQ S n) (hgS : g → G S) (hr : o + (zlF n (K - t) z1 S).1 = (zlF n K z q).1 ∧ (zlF n (K - t) z1 S).2 = (zlF n K z q).2), K - t < N → jWp 116 19 [some (jO x), some (jI (K : Int)), some (jI z), some (jI o), some (jI z1), some (jI (t : Int)), none] [] 0 0 (M1, w.2) (fun v w1 => v = some (jI (zlF n K z q).1) ∧ cq w x w1 ∧ w1.1 (x + 7) 0 = (n : Int) ∧ cR g (w1.1 (x + 8)) (zlF n K z q).2 n ∧ zQ (zlF n K z q).2 n ∧ (g → G (zlF n K z q).2)) := by
    intro N
    induction N with
    | zero => intro t o z1 S M1 ht ho hf1 hn1 hR1 hQ1 hgS hr hm; omega
    | succ N ih2 =>
      intro t o z1 S M1 ht ho hf1 hn1 hR1 hQ1 hgS hr hm
      have hkb := zlk_b (z := zlz z1) (n := n) (by omega)
      have hkb0 : 0 ≤ Int.tdiv (jand ((z1 * 1664525) + 1013904223) 2147483647) 256 ∧ Int.tdiv (jand ((z1 * 1664525) + 1013904223) 2147483647) 256 ≤ 2147483647 := hkb.2.2
      refine jWp.blk mt 2 ?_
      show jWp 116 22 [some (jO x), some (jI (K : Int)), some (jI z), some (jI o), some (jI z1), some (jI (t : Int)), none] [jI (K : Int), jI (t : Int)] 0 0 (M1, w.2) _
      refine jWp.icmp (pc' := 25) mt rfl rfl (b32_id (by omega) (by omega)) (b32_id (by omega) (by omega)) (fun h3 => ?_) (fun h3 => ?_)
      · have h3 : (K : Int) ≤ (t : Int) := h3
        refine jWp.blk mt 1 ?_
        show jWp 116 97 [some (jO x), some (jI (K : Int)), some (jI z), some (jI o), some (jI z1), some (jI (t : Int)), none] [jI o] 0 0 (M1, w.2) _
        refine jWp.ireti mt rfl ⟨rfl, rfl⟩ rfl ?_
        have e0 : K - t = 0 := by omega
        rw [e0] at hr
        have e1 : o + 0 = (zlF n K z q).1 := hr.1
        have e2 : S = (zlF n K z q).2 := hr.2
        refine ⟨?_, cq_f hf1, hn1, ?_, ?_, fun gg => ?_⟩
        · rw [← e1, Int.add_zero]
        · rw [← e2]
          exact hR1
        · rw [← e2]
          exact hQ1
        · rw [← e2]
          exact hgS gg
      · have h3 : (t : Int) < (K : Int) := h3
        refine jWp.blk mt 10 ?_
        show jWp 116 46 [some (jO x), some (jI (K : Int)), some (jI z), some (jI o), some (jI ((z1 * 1664525) + 1013904223)), some (jI (t : Int)), none] [jI 256, jI (jand ((z1 * 1664525) + 1013904223) 2147483647)] 0 0 (M1, w.2) _
        refine jWp.idiv (pc' := 47) mt rfl rfl (b32_i32 _) (show b32 256 = 256 by decide) (by decide) ?_
        show jWp 116 47 [some (jO x), some (jI (K : Int)), some (jI z), some (jI o), some (jI ((z1 * 1664525) + 1013904223)), some (jI (t : Int)), none] [jI (Int.tdiv (jand ((z1 * 1664525) + 1013904223) 2147483647) 256)] 0 0 (M1, w.2) _
        refine jWp.blk mt 2 ?_
        show _ ∧ jWp 116 50 [some (jO x), some (jI (K : Int)), some (jI z), some (jI o), some (jI ((z1 * 1664525) + 1013904223)), some (jI (t : Int)), some (jI (Int.tdiv (jand ((z1 * 1664525) + 1013904223) 2147483647) 256))] [jO x] 0 0 (M1, w.2) _
        refine ⟨rfl, ?_⟩
        refine jWp.getR (pc' := 53) (o := (x + 9)) mt rfl rfl (jtg hX.X0) hX.R7 ?_
        show jWp 116 53 [some (jO x), some (jI (K : Int)), some (jI z), some (jI o), some (jI ((z1 * 1664525) + 1013904223)), some (jI (t : Int)), some (jI (Int.tdiv (jand ((z1 * 1664525) + 1013904223) 2147483647) 256))] [jO (x + 9)] 0 0 (M1, w.2) _
        refine jWp.blk mt 1 ?_
        show _ ∧ jWp 116 54 [some (jO x), some (jI (K : Int)), some (jI z), some (jI o), some (jI ((z1 * 1664525) + 1013904223)), some (jI (t : Int)), some (jI (Int.tdiv (jand ((z1 * 1664525) + 1013904223) 2147483647) 256))] [jO x, jO (x + 9)] 0 0 (M1, w.2) _
        refine ⟨rfl, ?_⟩
        refine jWp.getR (pc' := 57) (o := (x + 7)) mt rfl rfl (jtg hX.X0) hX.R6 ?_
        show jWp 116 57 [some (jO x), some (jI (K : Int)), some (jI z), some (jI o), some (jI ((z1 * 1664525) + 1013904223)), some (jI (t : Int)), some (jI (Int.tdiv (jand ((z1 * 1664525) + 1013904223) 2147483647) 256))] [jO (x + 7), jO (x + 9)] 0 0 (M1, w.2) _
        refine jWp.blk mt 1 ?_
        show _ ∧ jWp 116 58 [some (jO x), some (jI (K : Int)), some (jI z), some (jI o), some (jI ((z1 * 1664525) + 1013904223)), some (jI (t : Int)), some (jI (Int.tdiv (jand ((z1 * 1664525) + 1013904223) 2147483647) 256))] [jO x, jO (x + 7), jO (x + 9)] 0 0 (M1, w.2) _
        refine ⟨rfl, ?_⟩
        refine jWp.getR (pc' := 61) (o := (x + 7)) mt rfl rfl (jtg hX.X0) hX.R6 ?_
        show jWp 116 61 [some (jO x), some (jI (K : Int)), some (jI z), some (jI o), some (jI ((z1 * 1664525) + 1013904223)), some (jI (t : Int)), some (jI (Int.tdiv (jand ((z1 * 1664525) + 1013904223) 2147483647) 256))] [jO (x + 7), jO (x + 7), jO (x + 9)] 0 0 (M1, w.2) _
        refine jWp.getI (pc' := 64) mt rfl rfl (jtg hX.X7) ?_
        rw [show ((M1, w.2).1 (x + 7) 0) = (n : Int) from hn1]
        show jWp 116 64 [some (jO x), some (jI (K : Int)), some (jI z), some (jI o), some (jI ((z1 * 1664525) + 1013904223)), some (jI (t : Int)), some (jI (Int.tdiv (jand ((z1 * 1664525) + 1013904223) 2147483647) 256))] [jI (n : Int), jO (x + 7), jO (x + 9)] 0 0 (M1, w.2) _
        refine jWp.ifz (pc' := 67) mt rfl rfl (b32_id (by omega) (by omega)) (fun h4 => ?_) (fun h4 => ?_)
        · have h4 : (n : Int) ≤ 0 := h4
          exfalso; omega
        · have h4 : 0 < (n : Int) := h4
          refine jWp.blk mt 2 ?_
          show _ ∧ jWp 116 70 [some (jO x), some (jI (K : Int)), some (jI z), some (jI o), some (jI ((z1 * 1664525) + 1013904223)), some (jI (t : Int)), some (jI (Int.tdiv (jand ((z1 * 1664525) + 1013904223) 2147483647) 256))] [jO x, jI (Int.tdiv (jand ((z1 * 1664525) + 1013904223) 2147483647) 256), jO (x + 7), jO (x + 9)] 0 0 (M1, w.2) _
          refine ⟨rfl, ?_⟩
          refine jWp.getR (pc' := 73) (o := (x + 7)) mt rfl rfl (jtg hX.X0) hX.R6 ?_
          show jWp 116 73 [some (jO x), some (jI (K : Int)), some (jI z), some (jI o), some (jI ((z1 * 1664525) + 1013904223)), some (jI (t : Int)), some (jI (Int.tdiv (jand ((z1 * 1664525) + 1013904223) 2147483647) 256))] [jO (x + 7), jI (Int.tdiv (jand ((z1 * 1664525) + 1013904223) 2147483647) 256), jO (x + 7), jO (x + 9)] 0 0 (M1, w.2) _
          refine jWp.getI (pc' := 76) mt rfl rfl (jtg hX.X7) ?_
          rw [show ((M1, w.2).1 (x + 7) 0) = (n : Int) from hn1]
          show jWp 116 76 [some (jO x), some (jI (K : Int)), some (jI z), some (jI o), some (jI ((z1 * 1664525) + 1013904223)), some (jI (t : Int)), some (jI (Int.tdiv (jand ((z1 * 1664525) + 1013904223) 2147483647) 256))] [jI (n : Int), jI (Int.tdiv (jand ((z1 * 1664525) + 1013904223) 2147483647) 256), jO (x + 7), jO (x + 9)] 0 0 (M1, w.2) _
          refine jWp.irem (pc' := 77) mt rfl rfl (b32_id (by omega) (by omega)) (b32_id (by omega) (by omega)) (by omega) ?_
          show jWp 116 77 [some (jO x), some (jI (K : Int)), some (jI z), some (jI o), some (jI ((z1 * 1664525) + 1013904223)), some (jI (t : Int)), some (jI (Int.tdiv (jand ((z1 * 1664525) + 1013904223) 2147483647) 256))] [jI (Int.tmod (Int.tdiv (jand ((z1 * 1664525) + 1013904223) 2147483647) 256) (n : Int)), jO (x + 7), jO (x + 9)] 0 0 (M1, w.2) _
          refine jWp.blk mt 1 ?_
          show jWp 116 81 [some (jO x), some (jI (K : Int)), some (jI z), some (jI o), some (jI ((z1 * 1664525) + 1013904223)), some (jI (t : Int)), some (jI (Int.tdiv (jand ((z1 * 1664525) + 1013904223) 2147483647) 256))] [jI (Int.tmod (Int.tdiv (jand ((z1 * 1664525) + 1013904223) 2147483647) 256) (n : Int)), jO (x + 7), jO (x + 9)] 0 0 (M1, w.2) _
          refine jWp.callv (as := [jO (x + 9), jO (x + 7), jI (Int.tmod (Int.tdiv (jand ((z1 * 1664525) + 1013904223) 2147483647) 256) (n : Int))]) (rest := []) mt rfl rfl rfl ⟨rfl, jtg hX.X9⟩ ?_
          refine jCall.mono ((by have h := C_make (w := (M1, w.2)) (s := x + 7) (sc := x + 8) (e := x + 9) (f1 := x + 10) (f2 := x + 11) (n := n) (k := zlk (zlz z1) n) (q := S) (g := g) (G := G) hX.X7 hX.X8 hX.Rt hn1 hn4 hX.X9 hX.Ru hX.Rd hX.X10 hX.X11 (by omega) hG hgS hQ1 hR1 hkb.2.1; rw [hkb.1] at h; exact h)) (fun v9 w9 h9 => ?_)
          obtain ⟨hbf, hh⟩ := h9
          obtain ⟨M2, G9⟩ := w9
          have hg : G9 = w.2 := hbf.1
          subst hg
          have hf2' := hbf.2
          have hn2' : M2 (x + 7) 0 = (n : Int) := (congrFun (hf2' (x + 7) (by omega) (by omega) (by omega)) 0).trans hn1
          have hf2 : ∀ b, (b < x + 7 ∨ x + 12 ≤ b) → M2 b = w.1 b := fun b hb => (hf2' b (by omega) (by omega) (by omega)).trans (hf1 b hb)
          rcases hh with ⟨rfl, hcan, hcr⟩ | ⟨rfl, hcan, hcr⟩
          · have hcr : cR g (M2 (x + 8)) (zxF S n (zlk (zlz z1) n)) n := hcr
            show jWp 116 84 [some (jO x), some (jI (K : Int)), some (jI z), some (jI o), some (jI ((z1 * 1664525) + 1013904223)), some (jI (t : Int)), some (jI (Int.tdiv (jand ((z1 * 1664525) + 1013904223) 2147483647) 256))] [jI 1] 0 0 (M2, w.2) _
            refine jWp.ifc (b := false) mt rfl (by decide) rfl ?_
            show jWp 116 87 [some (jO x), some (jI (K : Int)), some (jI z), some (jI o), some (jI ((z1 * 1664525) + 1013904223)), some (jI (t : Int)), some (jI (Int.tdiv (jand ((z1 * 1664525) + 1013904223) 2147483647) 256))] [] 0 0 (M2, w.2) _
            refine jWp.blk mt 3 ?_
            show jWp 116 19 [some (jO x), some (jI (K : Int)), some (jI z), some (jI (o + 1)), some (jI ((z1 * 1664525) + 1013904223)), some (jI ((t : Int) + 1)), some (jI (Int.tdiv (jand ((z1 * 1664525) + 1013904223) 2147483647) 256))] [] 0 0 (M2, w.2) _
            refine jWp.le (l := [some (jO x), some (jI (K : Int)), some (jI z), some (jI (o + 1)), some (jI ((z1 * 1664525) + 1013904223)), some (jI ((t : Int) + 1)), none]) (by exact ⟨rfl, rfl, rfl, rfl, rfl, rfl, trivial⟩) ?_
            exact ih2 (t + 1) _ (zlz z1) (zxF S n (zlk (zlz z1) n)) M2 (by omega) (by omega) hf2 hn2' hcr (zQ_x hQ1 (by have := hkb.2.1; omega) hcan) (fun gg => hG.2.1 _ _ _ hQ1 hkb.2.1 hcan (hgS gg)) (by have e := hr; rw [show K - t = (K - (t + 1)) + 1 by omega, zlF_t hcan] at e; exact ⟨by rw [← e.1]; dsimp only; omega, e.2⟩) (by omega)
          · have hcr : M2 (x + 8) = M1 (x + 8) := hcr
            show jWp 116 84 [some (jO x), some (jI (K : Int)), some (jI z), some (jI o), some (jI ((z1 * 1664525) + 1013904223)), some (jI (t : Int)), some (jI (Int.tdiv (jand ((z1 * 1664525) + 1013904223) 2147483647) 256))] [jI 0] 0 0 (M2, w.2) _
            refine jWp.ifc (b := true) mt rfl (by decide) rfl ?_
            show jWp 116 90 [some (jO x), some (jI (K : Int)), some (jI z), some (jI o), some (jI ((z1 * 1664525) + 1013904223)), some (jI (t : Int)), some (jI (Int.tdiv (jand ((z1 * 1664525) + 1013904223) 2147483647) 256))] [] 0 0 (M2, w.2) _
            refine jWp.blk mt 2 ?_
            show jWp 116 19 [some (jO x), some (jI (K : Int)), some (jI z), some (jI o), some (jI ((z1 * 1664525) + 1013904223)), some (jI ((t : Int) + 1)), some (jI (Int.tdiv (jand ((z1 * 1664525) + 1013904223) 2147483647) 256))] [] 0 0 (M2, w.2) _
            refine jWp.le (l := [some (jO x), some (jI (K : Int)), some (jI z), some (jI o), some (jI ((z1 * 1664525) + 1013904223)), some (jI ((t : Int) + 1)), none]) (by exact ⟨rfl, rfl, rfl, rfl, rfl, rfl, trivial⟩) ?_
            exact ih2 (t + 1) _ (zlz z1) S M2 (by omega) (by omega) hf2 hn2' (by rw [hcr]; exact hR1) hQ1 hgS (by have e := hr; rw [show K - t = (K - (t + 1)) + 1 by omega, zlF_f hcan] at e; exact e) (by omega)
  refine jWp.le (l := [some (jO x), some (jI (K : Int)), some (jI z), some (jI 0), some (jI z), some (jI 0), none]) (by exact ⟨rfl, rfl, rfl, rfl, rfl, rfl, trivial⟩) ?_
  exact lp1 _ 0 0 z q M0 (by omega) (by omega) hf0 hn0' hR0 hQ hgq ⟨by rw [Int.zero_add]; rfl, rfl⟩ (Nat.lt_succ_self _)
set_option maxHeartbeats 4000000 in
set_option maxRecDepth 20000 in
theorem C_lots {w : jS} {x : Nat} (hX : CW w.2 x) {n : Nat} {q : Nat → Int} {g : Prop} (hQ : zQ q n) (hn0 : w.1 (x + 3) 0 = (n : Int)) (hRR : cR g (w.1 (x + 4)) q n) {G : (Nat → Int) → Prop} (hG : zG G) (hgq : g → G q) {N z a : Int} (hrN : r32 N) (hra : r32 a) : jCall 115 [jO x, jI N, jI z, jI a] w (fun v w1 => ((N < 1) → cno w x 3 (jI (-4)) v w1) ∧ (¬ (N < 1) → (30 < N) → cno w x 5 (jI (-6)) v w1) ∧ (¬ (N < 1) → ¬ (30 < N) → (¬ (0 ≤ a ∧ a ≤ 1)) → cno w x 1 (jI (-2)) v w1) ∧ (¬ (N < 1) → ¬ (30 < N) → ¬ (¬ (0 ≤ a ∧ a ≤ 1)) → cq w x w1 ∧ (a = 0 → v = some (jI (zlF n N.toNat z q).1)) ∧ (a = 1 → ∃ y, v = some (jI y) ∧ (g → y = zgo (zlF n N.toNat z q).2 n n)))) := by
  have mt : jtb 115 = jT115 := rfl
  have hn2 := hQ.S.n2
  have hn4 := hQ.S.n4
  have hrN1 : -2147483648 ≤ N ∧ N < 2147483648 := hrN
  have hra1 : -2147483648 ≤ a ∧ a < 2147483648 := hra
  show jWp 115 0 [some (jO x), some (jI N), some (jI z), some (jI a), none] [] 0 0 w _
  refine jWp.blk mt 2 ?_
  show jWp 115 2 [some (jO x), some (jI N), some (jI z), some (jI a), none] [jI 1, jI N] 0 0 w _
  refine jWp.icmp (pc' := 5) mt rfl rfl (b32_id (by omega) (by omega)) (show b32 1 = 1 by decide) (fun h1 => ?_) (fun h1 => ?_)
  · have h1 : 1 ≤ N := h1
    refine jWp.blk mt 2 ?_
    show jWp 115 15 [some (jO x), some (jI N), some (jI z), some (jI a), none] [jI 30, jI N] 0 0 w _
    refine jWp.icmp (pc' := 18) mt rfl rfl (b32_id (by omega) (by omega)) (show b32 30 = 30 by decide) (fun h2 => ?_) (fun h2 => ?_)
    · have h2 : N ≤ 30 := h2
      refine jWp.blk mt 1 ?_
      show jWp 115 26 [some (jO x), some (jI N), some (jI z), some (jI a), none] [jI a] 0 0 w _
      refine jWp.ifz (pc' := 29) mt rfl rfl (b32_id (by omega) (by omega)) (fun h3 => ?_) (fun h3 => ?_)
      · have h3 : a = 0 := h3
        obtain ⟨N1, rfl⟩ : ∃ N1 : Nat, N = (N1 : Int) := ⟨N.toNat, by omega⟩
        show jWp 115 41 [some (jO x), some (jI (N1 : Int)), some (jI z), some (jI a), none] [] 0 0 w _
        refine jWp.blk mt 3 ?_
        show _ ∧ jWp 115 44 [some (jO x), some (jI (N1 : Int)), some (jI z), some (jI a), none] [jI z, jI (N1 : Int), jO x] 0 0 w _
        refine ⟨rfl, ?_⟩
        refine jWp.callv (as := [jO x, jI (N1 : Int), jI z]) (rest := []) mt rfl rfl rfl ⟨rfl, jtg hX.X0⟩ ?_
        refine jCall.mono (C_drawn (w := w) (K := N1) hX hQ hn0 hRR hG hgq (by omega)) (fun v9 w9 h9 => ?_)
        obtain ⟨rfl, hcq, hn1, hR1, hQ1, hg1⟩ := h9
        obtain ⟨M1, G9⟩ := w9
        have hg : G9 = w.2 := hcq.1
        subst hg
        show jWp 115 47 [some (jO x), some (jI (N1 : Int)), some (jI z), some (jI a), none] [jI ((zlF n N1 z q).1)] 0 0 (M1, w.2) _
        refine jWp.blk mt 2 ?_
        show jWp 115 50 [some (jO x), some (jI (N1 : Int)), some (jI z), some (jI a), some (jI ((zlF n N1 z q).1))] [jI a] 0 0 (M1, w.2) _
        refine jWp.ifz (pc' := 53) mt rfl rfl (b32_id (by omega) (by omega)) (fun h4 => ?_) (fun h4 => ?_)
        · have h4 : a ≠ 0 := h4
          refine jWp.blk mt 1 ?_
          show _ ∧ jWp 115 59 [some (jO x), some (jI (N1 : Int)), some (jI z), some (jI a), some (jI ((zlF n N1 z q).1))] [jO x] 0 0 (M1, w.2) _
          refine ⟨rfl, ?_⟩
          refine jWp.getR (pc' := 62) (o := (x + 7)) mt rfl rfl (jtg hX.X0) hX.R6 ?_
          show jWp 115 62 [some (jO x), some (jI (N1 : Int)), some (jI z), some (jI a), some (jI ((zlF n N1 z q).1))] [jO (x + 7)] 0 0 (M1, w.2) _
          refine jWp.callv (as := [jO (x + 7)]) (rest := []) mt rfl rfl rfl ⟨rfl, jtg hX.X7⟩ ?_
          refine jCall.mono (C_greatest (w := (M1, w.2)) (s := x + 7) (sc := x + 8) (n := n) hX.X7 hX.X8 hX.Rt hn1 hn4 hn2) (fun v9 w9 h9 => ?_)
          obtain ⟨rfl, h9⟩ := h9
          subst w9
          show jWp 115 65 [some (jO x), some (jI (N1 : Int)), some (jI z), some (jI a), some (jI ((zlF n N1 z q).1))] [jI (zco (M1 (x + 8)) n n)] 0 0 (M1, w.2) _
          refine jWp.ireti mt rfl ⟨rfl, rfl⟩ rfl ?_
          refine ⟨fun c0 => ?_, fun c0 c1 => ?_, fun c0 c1 c2 => ?_, fun c0 c1 c2 => ?_⟩
          all_goals first
          | (exfalso; omega)
          | exact ⟨rfl, rfl⟩
          | exact ⟨hcq, fun z0 => by first | rfl | (exfalso; omega), fun z1 => by first | (exfalso; omega) | exact ⟨_, rfl, fun gg => (zco_e hG hQ1 (hg1 gg) gg hR1).1⟩⟩
        · have h4 : a = 0 := h4
          refine jWp.blk mt 2 ?_
          show jWp 115 65 [some (jO x), some (jI (N1 : Int)), some (jI z), some (jI a), some (jI ((zlF n N1 z q).1))] [jI ((zlF n N1 z q).1)] 0 0 (M1, w.2) _
          refine jWp.ireti mt rfl ⟨rfl, rfl⟩ rfl ?_
          refine ⟨fun c0 => ?_, fun c0 c1 => ?_, fun c0 c1 c2 => ?_, fun c0 c1 c2 => ?_⟩
          all_goals first
          | (exfalso; omega)
          | exact ⟨rfl, rfl⟩
          | exact ⟨hcq, fun z0 => by first | rfl | (exfalso; omega), fun z1 => by first | (exfalso; omega) | exact ⟨_, rfl, fun gg => (zco_e hG hQ1 (hg1 gg) gg hR1).1⟩⟩
      · have h3 : a ≠ 0 := h3
        refine jWp.blk mt 2 ?_
        show jWp 115 31 [some (jO x), some (jI N), some (jI z), some (jI a), none] [jI 1, jI a] 0 0 w _
        refine jWp.icmp (pc' := 34) mt rfl rfl (b32_id (by omega) (by omega)) (show b32 1 = 1 by decide) (fun h5 => ?_) (fun h5 => ?_)
        · have h5 : a = 1 := h5
          obtain ⟨N1, rfl⟩ : ∃ N1 : Nat, N = (N1 : Int) := ⟨N.toNat, by omega⟩
          show jWp 115 41 [some (jO x), some (jI (N1 : Int)), some (jI z), some (jI a), none] [] 0 0 w _
          refine jWp.blk mt 3 ?_
          show _ ∧ jWp 115 44 [some (jO x), some (jI (N1 : Int)), some (jI z), some (jI a), none] [jI z, jI (N1 : Int), jO x] 0 0 w _
          refine ⟨rfl, ?_⟩
          refine jWp.callv (as := [jO x, jI (N1 : Int), jI z]) (rest := []) mt rfl rfl rfl ⟨rfl, jtg hX.X0⟩ ?_
          refine jCall.mono (C_drawn (w := w) (K := N1) hX hQ hn0 hRR hG hgq (by omega)) (fun v9 w9 h9 => ?_)
          obtain ⟨rfl, hcq, hn1, hR1, hQ1, hg1⟩ := h9
          obtain ⟨M1, G9⟩ := w9
          have hg : G9 = w.2 := hcq.1
          subst hg
          show jWp 115 47 [some (jO x), some (jI (N1 : Int)), some (jI z), some (jI a), none] [jI ((zlF n N1 z q).1)] 0 0 (M1, w.2) _
          refine jWp.blk mt 2 ?_
          show jWp 115 50 [some (jO x), some (jI (N1 : Int)), some (jI z), some (jI a), some (jI ((zlF n N1 z q).1))] [jI a] 0 0 (M1, w.2) _
          refine jWp.ifz (pc' := 53) mt rfl rfl (b32_id (by omega) (by omega)) (fun h6 => ?_) (fun h6 => ?_)
          · have h6 : a ≠ 0 := h6
            refine jWp.blk mt 1 ?_
            show _ ∧ jWp 115 59 [some (jO x), some (jI (N1 : Int)), some (jI z), some (jI a), some (jI ((zlF n N1 z q).1))] [jO x] 0 0 (M1, w.2) _
            refine ⟨rfl, ?_⟩
            refine jWp.getR (pc' := 62) (o := (x + 7)) mt rfl rfl (jtg hX.X0) hX.R6 ?_
            show jWp 115 62 [some (jO x), some (jI (N1 : Int)), some (jI z), some (jI a), some (jI ((zlF n N1 z q).1))] [jO (x + 7)] 0 0 (M1, w.2) _
            refine jWp.callv (as := [jO (x + 7)]) (rest := []) mt rfl rfl rfl ⟨rfl, jtg hX.X7⟩ ?_
            refine jCall.mono (C_greatest (w := (M1, w.2)) (s := x + 7) (sc := x + 8) (n := n) hX.X7 hX.X8 hX.Rt hn1 hn4 hn2) (fun v9 w9 h9 => ?_)
            obtain ⟨rfl, h9⟩ := h9
            subst w9
            show jWp 115 65 [some (jO x), some (jI (N1 : Int)), some (jI z), some (jI a), some (jI ((zlF n N1 z q).1))] [jI (zco (M1 (x + 8)) n n)] 0 0 (M1, w.2) _
            refine jWp.ireti mt rfl ⟨rfl, rfl⟩ rfl ?_
            refine ⟨fun c0 => ?_, fun c0 c1 => ?_, fun c0 c1 c2 => ?_, fun c0 c1 c2 => ?_⟩
            all_goals first
            | (exfalso; omega)
            | exact ⟨rfl, rfl⟩
            | exact ⟨hcq, fun z0 => by first | rfl | (exfalso; omega), fun z1 => by first | (exfalso; omega) | exact ⟨_, rfl, fun gg => (zco_e hG hQ1 (hg1 gg) gg hR1).1⟩⟩
          · have h6 : a = 0 := h6
            refine jWp.blk mt 2 ?_
            show jWp 115 65 [some (jO x), some (jI (N1 : Int)), some (jI z), some (jI a), some (jI ((zlF n N1 z q).1))] [jI ((zlF n N1 z q).1)] 0 0 (M1, w.2) _
            refine jWp.ireti mt rfl ⟨rfl, rfl⟩ rfl ?_
            refine ⟨fun c0 => ?_, fun c0 c1 => ?_, fun c0 c1 c2 => ?_, fun c0 c1 c2 => ?_⟩
            all_goals first
            | (exfalso; omega)
            | exact ⟨rfl, rfl⟩
            | exact ⟨hcq, fun z0 => by first | rfl | (exfalso; omega), fun z1 => by first | (exfalso; omega) | exact ⟨_, rfl, fun gg => (zco_e hG hQ1 (hg1 gg) gg hR1).1⟩⟩
        · have h5 : a ≠ 1 := h5
          refine jWp.blk mt 2 ?_
          show _ ∧ jWp 115 37 [some (jO x), some (jI N), some (jI z), some (jI a), none] [jI (-2), jO x] 0 0 w _
          refine ⟨rfl, ?_⟩
          refine jWp.callv (as := [jO x, jI (-2)]) (rest := []) mt rfl rfl rfl ⟨rfl, jtg hX.X0⟩ ?_
          refine jCall.mono (C_refuse (w := w) (j := 1) hX (by decide) (by decide)) (fun v9 w9 h9 => ?_)
          obtain ⟨rfl, h9⟩ := h9
          subst h9
          show jWp 115 40 [some (jO x), some (jI N), some (jI z), some (jI a), none] [jI (-2)] 0 0 (jW w (x + 362) 1 ((w.1 (x + 362) 1) + 1)) _
          refine jWp.ireti mt rfl ⟨rfl, rfl⟩ rfl ?_
          refine ⟨fun c0 => ?_, fun c0 c1 => ?_, fun c0 c1 c2 => ?_, fun c0 c1 c2 => ?_⟩
          all_goals first
          | (exfalso; omega)
          | exact ⟨rfl, rfl⟩
    · have h2 : 30 < N := h2
      refine jWp.blk mt 2 ?_
      show _ ∧ jWp 115 21 [some (jO x), some (jI N), some (jI z), some (jI a), none] [jI (-6), jO x] 0 0 w _
      refine ⟨rfl, ?_⟩
      refine jWp.callv (as := [jO x, jI (-6)]) (rest := []) mt rfl rfl rfl ⟨rfl, jtg hX.X0⟩ ?_
      refine jCall.mono (C_refuse (w := w) (j := 5) hX (by decide) (by decide)) (fun v9 w9 h9 => ?_)
      obtain ⟨rfl, h9⟩ := h9
      subst h9
      show jWp 115 24 [some (jO x), some (jI N), some (jI z), some (jI a), none] [jI (-6)] 0 0 (jW w (x + 362) 5 ((w.1 (x + 362) 5) + 1)) _
      refine jWp.ireti mt rfl ⟨rfl, rfl⟩ rfl ?_
      refine ⟨fun c0 => ?_, fun c0 c1 => ?_, fun c0 c1 c2 => ?_, fun c0 c1 c2 => ?_⟩
      all_goals first
      | (exfalso; omega)
      | exact ⟨rfl, rfl⟩
  · have h1 : N < 1 := h1
    refine jWp.blk mt 2 ?_
    show _ ∧ jWp 115 8 [some (jO x), some (jI N), some (jI z), some (jI a), none] [jI (-4), jO x] 0 0 w _
    refine ⟨rfl, ?_⟩
    refine jWp.callv (as := [jO x, jI (-4)]) (rest := []) mt rfl rfl rfl ⟨rfl, jtg hX.X0⟩ ?_
    refine jCall.mono (C_refuse (w := w) (j := 3) hX (by decide) (by decide)) (fun v9 w9 h9 => ?_)
    obtain ⟨rfl, h9⟩ := h9
    subst h9
    show jWp 115 11 [some (jO x), some (jI N), some (jI z), some (jI a), none] [jI (-4)] 0 0 (jW w (x + 362) 3 ((w.1 (x + 362) 3) + 1)) _
    refine jWp.ireti mt rfl ⟨rfl, rfl⟩ rfl ?_
    refine ⟨fun c0 => ?_, fun c0 c1 => ?_, fun c0 c1 c2 => ?_, fun c0 c1 c2 => ?_⟩
    all_goals first
    | (exfalso; omega)
    | exact ⟨rfl, rfl⟩
set_option maxHeartbeats 4000000 in
set_option maxRecDepth 20000 in
theorem C_letter {w : jS} {x : Nat} (hX : CW w.2 x) {F : Nat} (hF : w.1 (x + 339) 0 = (F : Int)) (hF72 : F ≤ 72) {c : Int} (hrc : r32 c) : jCall 109 [jO x, jI c] w (fun v w1 => ((c < 0) → cno w x 3 (jI (-4)) v w1) ∧ (¬ (c < 0) → (255 < c ∨ F = 72) → cno w x 5 (jI (-6)) v w1) ∧ (¬ (c < 0) → ¬ (255 < c ∨ F = 72) → v = some (jI ((F : Int) + 1)) ∧ w1 = jW (jW w (x + 340) F c) (x + 339) 0 ((F : Int) + 1))) := by
  have mt : jtb 109 = jT109 := rfl
  have hrc1 : -2147483648 ≤ c ∧ c < 2147483648 := hrc
  show jWp 109 0 [some (jO x), some (jI c)] [] 0 0 w _
  refine jWp.blk mt 1 ?_
  show jWp 109 1 [some (jO x), some (jI c)] [jI c] 0 0 w _
  refine jWp.ifz (pc' := 4) mt rfl rfl (b32_id (by omega) (by omega)) (fun h1 => ?_) (fun h1 => ?_)
  · have h1 : 0 ≤ c := h1
    refine jWp.blk mt 2 ?_
    show jWp 109 15 [some (jO x), some (jI c)] [jI 255, jI c] 0 0 w _
    refine jWp.icmp (pc' := 18) mt rfl rfl (b32_id (by omega) (by omega)) (show b32 255 = 255 by decide) (fun h2 => ?_) (fun h2 => ?_)
    · have h2 : 255 < c := h2
      refine jWp.blk mt 2 ?_
      show _ ∧ jWp 109 32 [some (jO x), some (jI c)] [jI (-6), jO x] 0 0 w _
      refine ⟨rfl, ?_⟩
      refine jWp.callv (as := [jO x, jI (-6)]) (rest := []) mt rfl rfl rfl ⟨rfl, jtg hX.X0⟩ ?_
      refine jCall.mono (C_refuse (w := w) (j := 5) hX (by decide) (by decide)) (fun v9 w9 h9 => ?_)
      obtain ⟨rfl, h9⟩ := h9
      subst h9
      show jWp 109 35 [some (jO x), some (jI c)] [jI (-6)] 0 0 (jW w (x + 362) 5 ((w.1 (x + 362) 5) + 1)) _
      refine jWp.ireti mt rfl ⟨rfl, rfl⟩ rfl ?_
      refine ⟨fun c0 => ?_, fun c0 c1 => ?_, fun c0 c1 => ?_⟩
      all_goals first
      | (exfalso; omega)
      | exact ⟨rfl, rfl⟩
    · have h2 : c ≤ 255 := h2
      refine jWp.blk mt 1 ?_
      show _ ∧ jWp 109 19 [some (jO x), some (jI c)] [jO x] 0 0 w _
      refine ⟨rfl, ?_⟩
      refine jWp.getR (pc' := 22) (o := (x + 339)) mt rfl rfl (jtg hX.X0) hX.R9 ?_
      show jWp 109 22 [some (jO x), some (jI c)] [jO (x + 339)] 0 0 w _
      refine jWp.blk mt 1 ?_
      show jWp 109 23 [some (jO x), some (jI c)] [jI c, jO (x + 339)] 0 0 w _
      refine jWp.callv (as := [jO (x + 339), jI c]) (rest := []) mt rfl rfl rfl ⟨rfl, jtg hX.X339⟩ ?_
      refine jCall.mono (C_add (w := w) (t := x + 339) (tl := x + 340) hX.X339 hX.X340 hX.Rl hF hF72) (fun v9 w9 h9 => ?_)
      rcases Nat.lt_or_ge F 72 with hz | hz
      · obtain ⟨rfl, hw9⟩ := h9.1 hz
        subst hw9
        show jWp 109 26 [some (jO x), some (jI c)] [jI 1] 0 0 (jW (jW w (x + 340) F c) (x + 339) 0 ((F : Int) + 1)) _
        refine jWp.ifc (b := true) mt rfl (by decide) rfl ?_
        show jWp 109 36 [some (jO x), some (jI c)] [] 0 0 (jW (jW w (x + 340) F c) (x + 339) 0 ((F : Int) + 1)) _
        refine jWp.blk mt 1 ?_
        show _ ∧ jWp 109 37 [some (jO x), some (jI c)] [jO x] 0 0 (jW (jW w (x + 340) F c) (x + 339) 0 ((F : Int) + 1)) _
        refine ⟨rfl, ?_⟩
        refine jWp.getR (pc' := 40) (o := (x + 339)) mt rfl rfl (jtg hX.X0) hX.R9 ?_
        show jWp 109 40 [some (jO x), some (jI c)] [jO (x + 339)] 0 0 (jW (jW w (x + 340) F c) (x + 339) 0 ((F : Int) + 1)) _
        refine jWp.getI (pc' := 43) mt rfl rfl (jtg hX.X339) ?_
        rw [show ((jW (jW w (x + 340) F c) (x + 339) 0 ((F : Int) + 1)).1 (x + 339) 0) = ((F : Int) + 1) from jW_s]
        show jWp 109 43 [some (jO x), some (jI c)] [jI ((F : Int) + 1)] 0 0 (jW (jW w (x + 340) F c) (x + 339) 0 ((F : Int) + 1)) _
        refine jWp.ireti mt rfl ⟨rfl, rfl⟩ rfl ?_
        refine ⟨fun c0 => ?_, fun c0 c1 => ?_, fun c0 c1 => ?_⟩
        all_goals first
        | (exfalso; omega)
        | exact ⟨rfl, rfl⟩
      · obtain ⟨rfl, hw9⟩ := h9.2 (by omega)
        subst w9
        show jWp 109 26 [some (jO x), some (jI c)] [jI 0] 0 0 w _
        refine jWp.ifc (b := false) mt rfl (by decide) rfl ?_
        show jWp 109 29 [some (jO x), some (jI c)] [] 0 0 w _
        refine jWp.blk mt 2 ?_
        show _ ∧ jWp 109 32 [some (jO x), some (jI c)] [jI (-6), jO x] 0 0 w _
        refine ⟨rfl, ?_⟩
        refine jWp.callv (as := [jO x, jI (-6)]) (rest := []) mt rfl rfl rfl ⟨rfl, jtg hX.X0⟩ ?_
        refine jCall.mono (C_refuse (w := w) (j := 5) hX (by decide) (by decide)) (fun v9 w9 h9 => ?_)
        obtain ⟨rfl, h9⟩ := h9
        subst h9
        show jWp 109 35 [some (jO x), some (jI c)] [jI (-6)] 0 0 (jW w (x + 362) 5 ((w.1 (x + 362) 5) + 1)) _
        refine jWp.ireti mt rfl ⟨rfl, rfl⟩ rfl ?_
        refine ⟨fun c0 => ?_, fun c0 c1 => ?_, fun c0 c1 => ?_⟩
        all_goals first
        | (exfalso; omega)
        | exact ⟨rfl, rfl⟩
  · have h1 : c < 0 := h1
    refine jWp.blk mt 2 ?_
    show _ ∧ jWp 109 7 [some (jO x), some (jI c)] [jI (-4), jO x] 0 0 w _
    refine ⟨rfl, ?_⟩
    refine jWp.callv (as := [jO x, jI (-4)]) (rest := []) mt rfl rfl rfl ⟨rfl, jtg hX.X0⟩ ?_
    refine jCall.mono (C_refuse (w := w) (j := 3) hX (by decide) (by decide)) (fun v9 w9 h9 => ?_)
    obtain ⟨rfl, h9⟩ := h9
    subst h9
    show jWp 109 10 [some (jO x), some (jI c)] [jI (-4)] 0 0 (jW w (x + 362) 3 ((w.1 (x + 362) 3) + 1)) _
    refine jWp.ireti mt rfl ⟨rfl, rfl⟩ rfl ?_
    refine ⟨fun c0 => ?_, fun c0 c1 => ?_, fun c0 c1 => ?_⟩
    all_goals first
    | (exfalso; omega)
    | exact ⟨rfl, rfl⟩
end
section
theorem zff_r {p : Nat → Prop} : ∀ f k, zff p f k < 0 ∨ ∃ j : Nat, zff p f k = (j : Int) ∧ k ≤ j ∧ j < k + f
  | 0, _ => Or.inl (by show (-9 : Int) < 0; decide)
  | f + 1, k => by
    by_cases h : p k
    · exact Or.inr ⟨k, zff_t h, by omega, by omega⟩
    · rw [zff_f h]
      rcases zff_r (p := p) f (k + 1) with g | ⟨j, g1, g2, g3⟩
      · exact Or.inl g
      · exact Or.inr ⟨j, g1, by omega, by omega⟩
theorem zfp_r {L : List zE} {n : Nat} {a b : Int} : zfp L n a b < 0 ∨ ∃ j : Nat, zfp L n a b = (j : Int) ∧ j < L.length := by
  rcases zff_r (p := fun o => zhv (zL L o).1 n a b) L.length 0 with g | ⟨j, g1, g2, g3⟩
  · exact Or.inl g
  · exact Or.inr ⟨j, g1, by omega⟩
set_option maxHeartbeats 4000000 in
set_option maxRecDepth 20000 in
theorem C_reached {w : jS} {x : Nat} (hX : CW w.2 x) {n : Nat} {q : Nat → Int} {g : Prop} (hQ : zQ q n) (hn0 : w.1 (x + 3) 0 = (n : Int)) (hRR : cR g (w.1 (x + 4)) q n) {G : (Nat → Int) → Prop} (hG : zG G) (hgq : g → G q) {d a : Int} (hrd : r32 d) (hra : r32 a) : jCall 113 [jO x, jI d, jI a] w (fun v w1 => ((d < 0) → cno w x 3 (jI (-4)) v w1) ∧ (¬ (d < 0) → (4 < d) → cno w x 5 (jI (-6)) v w1) ∧ (¬ (d < 0) → ¬ (4 < d) → (¬ (0 ≤ a ∧ a ≤ 3)) → cno w x 1 (jI (-2)) v w1) ∧ (¬ (d < 0) → ¬ (4 < d) → ¬ (¬ (0 ≤ a ∧ a ≤ 3)) → cq w x w1 ∧ (a = 0 → v = some (jI ((zBF n d.toNat q).length : Int))) ∧ (a = 1 → v = some (jI (zvo (zBF n d.toNat q) n (zBF n d.toNat q).length))) ∧ (a = 2 → ∃ y, v = some (jI y) ∧ (g → y = zgm (zBF n d.toNat q) n (zBF n d.toNat q).length)) ∧ (a = 3 → ∃ y, v = some (jI y) ∧ ((∀ o i, o < (zBF n d.toNat q).length → i < n → (zL (zBF n d.toNat q) o).1 (25 + i) = 1) → y = 0)))) := by
  have mt : jtb 113 = jT113 := rfl
  have hn2 := hQ.S.n2
  have hn4 := hQ.S.n4
  have hrd1 : -2147483648 ≤ d ∧ d < 2147483648 := hrd
  have hra1 : -2147483648 ≤ a ∧ a < 2147483648 := hra
  show jWp 113 0 [some (jO x), some (jI d), some (jI a)] [] 0 0 w _
  refine jWp.blk mt 1 ?_
  show jWp 113 1 [some (jO x), some (jI d), some (jI a)] [jI d] 0 0 w _
  refine jWp.ifz (pc' := 4) mt rfl rfl (b32_id (by omega) (by omega)) (fun h1 => ?_) (fun h1 => ?_)
  · have h1 : 0 ≤ d := h1
    refine jWp.blk mt 2 ?_
    show jWp 113 13 [some (jO x), some (jI d), some (jI a)] [jI 4, jI d] 0 0 w _
    refine jWp.icmp (pc' := 16) mt rfl rfl (b32_id (by omega) (by omega)) (show b32 4 = 4 by decide) (fun h2 => ?_) (fun h2 => ?_)
    · have h2 : d ≤ 4 := h2
      refine jWp.blk mt 1 ?_
      show jWp 113 24 [some (jO x), some (jI d), some (jI a)] [jI a] 0 0 w _
      refine jWp.ifz (pc' := 27) mt rfl rfl (b32_id (by omega) (by omega)) (fun h3 => ?_) (fun h3 => ?_)
      · have h3 : a < 0 := h3
        refine jWp.blk mt 2 ?_
        show _ ∧ jWp 113 35 [some (jO x), some (jI d), some (jI a)] [jI (-2), jO x] 0 0 w _
        refine ⟨rfl, ?_⟩
        refine jWp.callv (as := [jO x, jI (-2)]) (rest := []) mt rfl rfl rfl ⟨rfl, jtg hX.X0⟩ ?_
        refine jCall.mono (C_refuse (w := w) (j := 1) hX (by decide) (by decide)) (fun v9 w9 h9 => ?_)
        obtain ⟨rfl, h9⟩ := h9
        subst h9
        show jWp 113 38 [some (jO x), some (jI d), some (jI a)] [jI (-2)] 0 0 (jW w (x + 362) 1 ((w.1 (x + 362) 1) + 1)) _
        refine jWp.ireti mt rfl ⟨rfl, rfl⟩ rfl ?_
        refine ⟨fun c0 => ?_, fun c0 c1 => ?_, fun c0 c1 c2 => ?_, fun c0 c1 c2 => ?_⟩
        all_goals first
        | (exfalso; omega)
        | exact ⟨rfl, rfl⟩
      · have h3 : 0 ≤ a := h3
        refine jWp.blk mt 2 ?_
        show jWp 113 29 [some (jO x), some (jI d), some (jI a)] [jI 3, jI a] 0 0 w _
        refine jWp.icmp (pc' := 32) mt rfl rfl (b32_id (by omega) (by omega)) (show b32 3 = 3 by decide) (fun h4 => ?_) (fun h4 => ?_)
        · have h4 : a ≤ 3 := h4
          obtain ⟨d1, rfl⟩ : ∃ d1 : Nat, d = (d1 : Int) := ⟨d.toNat, by omega⟩
          show jWp 113 39 [some (jO x), some (jI (d1 : Int)), some (jI a)] [] 0 0 w _
          refine jWp.blk mt 1 ?_
          show _ ∧ jWp 113 40 [some (jO x), some (jI (d1 : Int)), some (jI a)] [jO x] 0 0 w _
          refine ⟨rfl, ?_⟩
          refine jWp.getR (pc' := 43) (o := (x + 12)) mt rfl rfl (jtg hX.X0) hX.R8 ?_
          show jWp 113 43 [some (jO x), some (jI (d1 : Int)), some (jI a)] [jO (x + 12)] 0 0 w _
          refine jWp.blk mt 1 ?_
          show _ ∧ jWp 113 44 [some (jO x), some (jI (d1 : Int)), some (jI a)] [jO x, jO (x + 12)] 0 0 w _
          refine ⟨rfl, ?_⟩
          refine jWp.getR (pc' := 47) (o := (x + 3)) mt rfl rfl (jtg hX.X0) hX.R4 ?_
          show jWp 113 47 [some (jO x), some (jI (d1 : Int)), some (jI a)] [jO (x + 3), jO (x + 12)] 0 0 w _
          refine jWp.blk mt 2 ?_
          show _ ∧ jWp 113 49 [some (jO x), some (jI (d1 : Int)), some (jI a)] [jO x, jI (d1 : Int), jO (x + 3), jO (x + 12)] 0 0 w _
          refine ⟨rfl, ?_⟩
          refine jWp.getR (pc' := 52) (o := (x + 9)) mt rfl rfl (jtg hX.X0) hX.R7 ?_
          show jWp 113 52 [some (jO x), some (jI (d1 : Int)), some (jI a)] [jO (x + 9), jI (d1 : Int), jO (x + 3), jO (x + 12)] 0 0 w _
          refine jWp.callv (as := [jO (x + 12), jO (x + 3), jI (d1 : Int), jO (x + 9)]) (rest := []) mt rfl rfl rfl ⟨rfl, jtg hX.XS.k0⟩ ?_
          refine jCall.mono (C_explore (w := w) (se := x + 12) (d := d1) (G := G) hX.XS hn4 (s0 := x + 3) (sc0 := x + 4) (e := x + 9) (f1 := x + 10) (f2 := x + 11) hG hgq hQ hX.X3 hX.X4 hX.Rc hn0 hRR hX.X9 hX.Ru hX.Rd hX.X10 hX.X11 (by omega) ⟨by omega, by omega, by omega, by omega⟩ (by omega)) (fun v9 w9 h9 => ?_)
          obtain ⟨rfl, hg1, hf1, hC1, hBL, hl, hGL⟩ := h9
          obtain ⟨M1, G9⟩ := w9
          have hg : G9 = w.2 := hg1
          subst hg
          have hcq : cq w x ((M1, w.2) : jS) := ⟨rfl, fun b g1 g2 g3 => hf1 b (by omega) (by omega) (by omega)⟩
          have hw4 : ∀ o, o < (zBF n d1 q).length → (zL (zBF n d1 q) o).2.2.2 ≤ d1 := zBF_w
          show jWp 113 55 [some (jO x), some (jI (d1 : Int)), some (jI a)] [] 0 0 (M1, w.2) _
          refine jWp.blk mt 1 ?_
          show jWp 113 56 [some (jO x), some (jI (d1 : Int)), some (jI a)] [jI a] 0 0 (M1, w.2) _
          refine jWp.sw mt rfl (Or.inl ⟨_, _, _, _, rfl⟩) (b32_id (by omega) (by omega)) ?_
          show jWp 113 (jsw [(0, 84), (1, 92), (2, 100)] 108 a) [some (jO x), some (jI (d1 : Int)), some (jI a)] [] 0 0 (M1, w.2) _
          unfold jsw; by_cases h5 : 0 = a
          · rw [if_pos h5]
            refine jWp.blk mt 1 ?_
            show _ ∧ jWp 113 85 [some (jO x), some (jI (d1 : Int)), some (jI a)] [jO x] 0 0 (M1, w.2) _
            refine ⟨rfl, ?_⟩
            refine jWp.getR (pc' := 88) (o := (x + 12)) mt rfl rfl (jtg hX.X0) hX.R8 ?_
            show jWp 113 88 [some (jO x), some (jI (d1 : Int)), some (jI a)] [jO (x + 12)] 0 0 (M1, w.2) _
            refine jWp.getI (pc' := 91) mt rfl rfl (jtg hX.XS.k0) ?_
            rw [show ((M1, w.2).1 (x + 12) 0) = ((zBF n d1 q).length : Int) from hC1.1]
            show jWp 113 91 [some (jO x), some (jI (d1 : Int)), some (jI a)] [jI ((zBF n d1 q).length : Int)] 0 0 (M1, w.2) _
            refine jWp.ireti mt rfl ⟨rfl, rfl⟩ rfl ?_
            refine ⟨fun c0 => ?_, fun c0 c1 => ?_, fun c0 c1 c2 => ?_, fun c0 c1 c2 => ?_⟩
            all_goals first
            | (exfalso; omega)
            | exact ⟨rfl, rfl⟩
            | exact ⟨hcq, fun z0 => by first | (exfalso; omega) | rfl | exact ⟨_, rfl, hyy⟩, fun z1 => by first | (exfalso; omega) | rfl | exact ⟨_, rfl, hyy⟩, fun z2 => by first | (exfalso; omega) | rfl | exact ⟨_, rfl, hyy⟩, fun z3 => by first | (exfalso; omega) | rfl | exact ⟨_, rfl, hyy⟩⟩
          · rw [if_neg h5]
            unfold jsw; by_cases h6 : 1 = a
            · rw [if_pos h6]
              refine jWp.blk mt 1 ?_
              show _ ∧ jWp 113 93 [some (jO x), some (jI (d1 : Int)), some (jI a)] [jO x] 0 0 (M1, w.2) _
              refine ⟨rfl, ?_⟩
              refine jWp.getR (pc' := 96) (o := (x + 12)) mt rfl rfl (jtg hX.X0) hX.R8 ?_
              show jWp 113 96 [some (jO x), some (jI (d1 : Int)), some (jI a)] [jO (x + 12)] 0 0 (M1, w.2) _
              refine jWp.callv (as := [jO (x + 12)]) (rest := []) mt rfl rfl rfl ⟨rfl, jtg hX.XS.k0⟩ ?_
              refine jCall.mono (C_unlikeValues (w := (M1, w.2)) (se := x + 12) hX.XS hn4 hC1 hBL hl) (fun v9 w9 h9 => ?_)
              obtain ⟨rfl, h9⟩ := h9
              subst w9
              show jWp 113 99 [some (jO x), some (jI (d1 : Int)), some (jI a)] [jI (zvo (zBF n d1 q) n (zBF n d1 q).length)] 0 0 (M1, w.2) _
              refine jWp.ireti mt rfl ⟨rfl, rfl⟩ rfl ?_
              refine ⟨fun c0 => ?_, fun c0 c1 => ?_, fun c0 c1 c2 => ?_, fun c0 c1 c2 => ?_⟩
              all_goals first
              | (exfalso; omega)
              | exact ⟨rfl, rfl⟩
              | exact ⟨hcq, fun z0 => by first | (exfalso; omega) | rfl | exact ⟨_, rfl, hyy⟩, fun z1 => by first | (exfalso; omega) | rfl | exact ⟨_, rfl, hyy⟩, fun z2 => by first | (exfalso; omega) | rfl | exact ⟨_, rfl, hyy⟩, fun z3 => by first | (exfalso; omega) | rfl | exact ⟨_, rfl, hyy⟩⟩
            · rw [if_neg h6]
              unfold jsw; by_cases h7 : 2 = a
              · rw [if_pos h7]
                refine jWp.blk mt 1 ?_
                show _ ∧ jWp 113 101 [some (jO x), some (jI (d1 : Int)), some (jI a)] [jO x] 0 0 (M1, w.2) _
                refine ⟨rfl, ?_⟩
                refine jWp.getR (pc' := 104) (o := (x + 12)) mt rfl rfl (jtg hX.X0) hX.R8 ?_
                show jWp 113 104 [some (jO x), some (jI (d1 : Int)), some (jI a)] [jO (x + 12)] 0 0 (M1, w.2) _
                refine jWp.callv (as := [jO (x + 12)]) (rest := []) mt rfl rfl rfl ⟨rfl, jtg hX.XS.k0⟩ ?_
                refine jCall.mono (C_seGreatest (w := (M1, w.2)) (se := x + 12) hX.XS hn4 hC1 hBL hl hG hGL) (fun v9 w9 h9 => ?_)
                obtain ⟨hw9, yw, rfl, hyy⟩ := h9
                subst hw9
                show jWp 113 107 [some (jO x), some (jI (d1 : Int)), some (jI a)] [jI yw] 0 0 (M1, w.2) _
                refine jWp.ireti mt rfl ⟨rfl, rfl⟩ rfl ?_
                refine ⟨fun c0 => ?_, fun c0 c1 => ?_, fun c0 c1 c2 => ?_, fun c0 c1 c2 => ?_⟩
                all_goals first
                | (exfalso; omega)
                | exact ⟨rfl, rfl⟩
                | exact ⟨hcq, fun z0 => by first | (exfalso; omega) | rfl | exact ⟨_, rfl, hyy⟩, fun z1 => by first | (exfalso; omega) | rfl | exact ⟨_, rfl, hyy⟩, fun z2 => by first | (exfalso; omega) | rfl | exact ⟨_, rfl, hyy⟩, fun z3 => by first | (exfalso; omega) | rfl | exact ⟨_, rfl, hyy⟩⟩
              · rw [if_neg h7]
                unfold jsw
                refine jWp.blk mt 1 ?_
                show _ ∧ jWp 113 109 [some (jO x), some (jI (d1 : Int)), some (jI a)] [jO x] 0 0 (M1, w.2) _
                refine ⟨rfl, ?_⟩
                refine jWp.getR (pc' := 112) (o := (x + 12)) mt rfl rfl (jtg hX.X0) hX.R8 ?_
                show jWp 113 112 [some (jO x), some (jI (d1 : Int)), some (jI a)] [jO (x + 12)] 0 0 (M1, w.2) _
                refine jWp.callv (as := [jO (x + 12)]) (rest := []) mt rfl rfl rfl ⟨rfl, jtg hX.XS.k0⟩ ?_
                refine jCall.mono (C_notWhole (w := (M1, w.2)) (se := x + 12) hX.XS hn4 hC1 hBL hl) (fun v9 w9 h9 => ?_)
                obtain ⟨hw9, yw, rfl, hyy⟩ := h9
                subst hw9
                show jWp 113 115 [some (jO x), some (jI (d1 : Int)), some (jI a)] [jI yw] 0 0 (M1, w.2) _
                refine jWp.ireti mt rfl ⟨rfl, rfl⟩ rfl ?_
                refine ⟨fun c0 => ?_, fun c0 c1 => ?_, fun c0 c1 c2 => ?_, fun c0 c1 c2 => ?_⟩
                all_goals first
                | (exfalso; omega)
                | exact ⟨rfl, rfl⟩
                | exact ⟨hcq, fun z0 => by first | (exfalso; omega) | rfl | exact ⟨_, rfl, hyy⟩, fun z1 => by first | (exfalso; omega) | rfl | exact ⟨_, rfl, hyy⟩, fun z2 => by first | (exfalso; omega) | rfl | exact ⟨_, rfl, hyy⟩, fun z3 => by first | (exfalso; omega) | rfl | exact ⟨_, rfl, hyy⟩⟩
        · have h4 : 3 < a := h4
          refine jWp.blk mt 2 ?_
          show _ ∧ jWp 113 35 [some (jO x), some (jI d), some (jI a)] [jI (-2), jO x] 0 0 w _
          refine ⟨rfl, ?_⟩
          refine jWp.callv (as := [jO x, jI (-2)]) (rest := []) mt rfl rfl rfl ⟨rfl, jtg hX.X0⟩ ?_
          refine jCall.mono (C_refuse (w := w) (j := 1) hX (by decide) (by decide)) (fun v9 w9 h9 => ?_)
          obtain ⟨rfl, h9⟩ := h9
          subst h9
          show jWp 113 38 [some (jO x), some (jI d), some (jI a)] [jI (-2)] 0 0 (jW w (x + 362) 1 ((w.1 (x + 362) 1) + 1)) _
          refine jWp.ireti mt rfl ⟨rfl, rfl⟩ rfl ?_
          refine ⟨fun c0 => ?_, fun c0 c1 => ?_, fun c0 c1 c2 => ?_, fun c0 c1 c2 => ?_⟩
          all_goals first
          | (exfalso; omega)
          | exact ⟨rfl, rfl⟩
    · have h2 : 4 < d := h2
      refine jWp.blk mt 2 ?_
      show _ ∧ jWp 113 19 [some (jO x), some (jI d), some (jI a)] [jI (-6), jO x] 0 0 w _
      refine ⟨rfl, ?_⟩
      refine jWp.callv (as := [jO x, jI (-6)]) (rest := []) mt rfl rfl rfl ⟨rfl, jtg hX.X0⟩ ?_
      refine jCall.mono (C_refuse (w := w) (j := 5) hX (by decide) (by decide)) (fun v9 w9 h9 => ?_)
      obtain ⟨rfl, h9⟩ := h9
      subst h9
      show jWp 113 22 [some (jO x), some (jI d), some (jI a)] [jI (-6)] 0 0 (jW w (x + 362) 5 ((w.1 (x + 362) 5) + 1)) _
      refine jWp.ireti mt rfl ⟨rfl, rfl⟩ rfl ?_
      refine ⟨fun c0 => ?_, fun c0 c1 => ?_, fun c0 c1 c2 => ?_, fun c0 c1 c2 => ?_⟩
      all_goals first
      | (exfalso; omega)
      | exact ⟨rfl, rfl⟩
  · have h1 : d < 0 := h1
    refine jWp.blk mt 2 ?_
    show _ ∧ jWp 113 7 [some (jO x), some (jI d), some (jI a)] [jI (-4), jO x] 0 0 w _
    refine ⟨rfl, ?_⟩
    refine jWp.callv (as := [jO x, jI (-4)]) (rest := []) mt rfl rfl rfl ⟨rfl, jtg hX.X0⟩ ?_
    refine jCall.mono (C_refuse (w := w) (j := 3) hX (by decide) (by decide)) (fun v9 w9 h9 => ?_)
    obtain ⟨rfl, h9⟩ := h9
    subst h9
    show jWp 113 10 [some (jO x), some (jI d), some (jI a)] [jI (-4)] 0 0 (jW w (x + 362) 3 ((w.1 (x + 362) 3) + 1)) _
    refine jWp.ireti mt rfl ⟨rfl, rfl⟩ rfl ?_
    refine ⟨fun c0 => ?_, fun c0 c1 => ?_, fun c0 c1 c2 => ?_, fun c0 c1 c2 => ?_⟩
    all_goals first
    | (exfalso; omega)
    | exact ⟨rfl, rfl⟩
set_option maxHeartbeats 4000000 in
set_option maxRecDepth 20000 in
theorem C_fewest {w : jS} {x : Nat} (hX : CW w.2 x) {n : Nat} {q : Nat → Int} {g : Prop} (hQ : zQ q n) (hn0 : w.1 (x + 3) 0 = (n : Int)) (hRR : cR g (w.1 (x + 4)) q n) {G : (Nat → Int) → Prop} (hG : zG G) (hgq : g → G q) {a b i : Int} (hra : r32 a) (hrb : r32 b) (hri : r32 i) : jCall 114 [jO x, jI a, jI b, jI i] w (fun v w1 => ((a < 0 ∨ b < 1 ∨ i < -1) → cno w x 3 (jI (-4)) v w1) ∧ (¬ (a < 0 ∨ b < 1 ∨ i < -1) → v = some (jI (zfw (zBF n 4 q) n a b i)) ∧ cq w x w1)) := by
  have mt : jtb 114 = jT114 := rfl
  have hn2 := hQ.S.n2
  have hn4 := hQ.S.n4
  have hri1 : -2147483648 ≤ i ∧ i < 2147483648 := hri
  have hra1 : -2147483648 ≤ a ∧ a < 2147483648 := hra
  have hrb1 : -2147483648 ≤ b ∧ b < 2147483648 := hrb
  show jWp 114 0 [some (jO x), some (jI a), some (jI b), some (jI i), none, none] [] 0 0 w _
  refine jWp.blk mt 1 ?_
  show jWp 114 1 [some (jO x), some (jI a), some (jI b), some (jI i), none, none] [jI a] 0 0 w _
  refine jWp.ifz (pc' := 4) mt rfl rfl (b32_id (by omega) (by omega)) (fun h1 => ?_) (fun h1 => ?_)
  · have h1 : a < 0 := h1
    refine jWp.blk mt 2 ?_
    show _ ∧ jWp 114 17 [some (jO x), some (jI a), some (jI b), some (jI i), none, none] [jI (-4), jO x] 0 0 w _
    refine ⟨rfl, ?_⟩
    refine jWp.callv (as := [jO x, jI (-4)]) (rest := []) mt rfl rfl rfl ⟨rfl, jtg hX.X0⟩ ?_
    refine jCall.mono (C_refuse (w := w) (j := 3) hX (by decide) (by decide)) (fun v9 w9 h9 => ?_)
    obtain ⟨rfl, h9⟩ := h9
    subst h9
    show jWp 114 20 [some (jO x), some (jI a), some (jI b), some (jI i), none, none] [jI (-4)] 0 0 (jW w (x + 362) 3 ((w.1 (x + 362) 3) + 1)) _
    refine jWp.ireti mt rfl ⟨rfl, rfl⟩ rfl ?_
    refine ⟨fun c0 => ?_, fun c0 => ?_⟩
    all_goals first
    | (exfalso; omega)
    | exact ⟨rfl, rfl⟩
  · have h1 : 0 ≤ a := h1
    refine jWp.blk mt 2 ?_
    show jWp 114 6 [some (jO x), some (jI a), some (jI b), some (jI i), none, none] [jI 1, jI b] 0 0 w _
    refine jWp.icmp (pc' := 9) mt rfl rfl (b32_id (by omega) (by omega)) (show b32 1 = 1 by decide) (fun h2 => ?_) (fun h2 => ?_)
    · have h2 : b < 1 := h2
      refine jWp.blk mt 2 ?_
      show _ ∧ jWp 114 17 [some (jO x), some (jI a), some (jI b), some (jI i), none, none] [jI (-4), jO x] 0 0 w _
      refine ⟨rfl, ?_⟩
      refine jWp.callv (as := [jO x, jI (-4)]) (rest := []) mt rfl rfl rfl ⟨rfl, jtg hX.X0⟩ ?_
      refine jCall.mono (C_refuse (w := w) (j := 3) hX (by decide) (by decide)) (fun v9 w9 h9 => ?_)
      obtain ⟨rfl, h9⟩ := h9
      subst h9
      show jWp 114 20 [some (jO x), some (jI a), some (jI b), some (jI i), none, none] [jI (-4)] 0 0 (jW w (x + 362) 3 ((w.1 (x + 362) 3) + 1)) _
      refine jWp.ireti mt rfl ⟨rfl, rfl⟩ rfl ?_
      refine ⟨fun c0 => ?_, fun c0 => ?_⟩
      all_goals first
      | (exfalso; omega)
      | exact ⟨rfl, rfl⟩
    · have h2 : 1 ≤ b := h2
      refine jWp.blk mt 2 ?_
      show jWp 114 11 [some (jO x), some (jI a), some (jI b), some (jI i), none, none] [jI (-1), jI i] 0 0 w _
      refine jWp.icmp (pc' := 14) mt rfl rfl (b32_id (by omega) (by omega)) (show b32 (-1) = (-1) by decide) (fun h3 => ?_) (fun h3 => ?_)
      · have h3 : (-1) ≤ i := h3
        refine jWp.blk mt 1 ?_
        show _ ∧ jWp 114 22 [some (jO x), some (jI a), some (jI b), some (jI i), none, none] [jO x] 0 0 w _
        refine ⟨rfl, ?_⟩
        refine jWp.getR (pc' := 25) (o := (x + 12)) mt rfl rfl (jtg hX.X0) hX.R8 ?_
        show jWp 114 25 [some (jO x), some (jI a), some (jI b), some (jI i), none, none] [jO (x + 12)] 0 0 w _
        refine jWp.blk mt 1 ?_
        show _ ∧ jWp 114 26 [some (jO x), some (jI a), some (jI b), some (jI i), none, none] [jO x, jO (x + 12)] 0 0 w _
        refine ⟨rfl, ?_⟩
        refine jWp.getR (pc' := 29) (o := (x + 3)) mt rfl rfl (jtg hX.X0) hX.R4 ?_
        show jWp 114 29 [some (jO x), some (jI a), some (jI b), some (jI i), none, none] [jO (x + 3), jO (x + 12)] 0 0 w _
        refine jWp.blk mt 2 ?_
        show _ ∧ jWp 114 31 [some (jO x), some (jI a), some (jI b), some (jI i), none, none] [jO x, jI 4, jO (x + 3), jO (x + 12)] 0 0 w _
        refine ⟨rfl, ?_⟩
        refine jWp.getR (pc' := 34) (o := (x + 9)) mt rfl rfl (jtg hX.X0) hX.R7 ?_
        show jWp 114 34 [some (jO x), some (jI a), some (jI b), some (jI i), none, none] [jO (x + 9), jI 4, jO (x + 3), jO (x + 12)] 0 0 w _
        refine jWp.callv (as := [jO (x + 12), jO (x + 3), jI 4, jO (x + 9)]) (rest := []) mt rfl rfl rfl ⟨rfl, jtg hX.XS.k0⟩ ?_
        refine jCall.mono (C_explore (w := w) (se := x + 12) (d := 4) (G := G) hX.XS hn4 (s0 := x + 3) (sc0 := x + 4) (e := x + 9) (f1 := x + 10) (f2 := x + 11) hG hgq hQ hX.X3 hX.X4 hX.Rc hn0 hRR hX.X9 hX.Ru hX.Rd hX.X10 hX.X11 (by omega) ⟨by omega, by omega, by omega, by omega⟩ (by omega)) (fun v9 w9 h9 => ?_)
        obtain ⟨rfl, hg1, hf1, hC1, hBL, hl, hGL⟩ := h9
        obtain ⟨M1, G9⟩ := w9
        have hg : G9 = w.2 := hg1
        subst hg
        have hcq : cq w x ((M1, w.2) : jS) := ⟨rfl, fun b g1 g2 g3 => hf1 b (by omega) (by omega) (by omega)⟩
        have hw4 : ∀ o, o < (zBF n 4 q).length → (zL (zBF n 4 q) o).2.2.2 ≤ 4 := zBF_w
        show jWp 114 37 [some (jO x), some (jI a), some (jI b), some (jI i), none, none] [] 0 0 (M1, w.2) _
        refine jWp.blk mt 1 ?_
        show _ ∧ jWp 114 38 [some (jO x), some (jI a), some (jI b), some (jI i), none, none] [jO x] 0 0 (M1, w.2) _
        refine ⟨rfl, ?_⟩
        refine jWp.getR (pc' := 41) (o := (x + 12)) mt rfl rfl (jtg hX.X0) hX.R8 ?_
        show jWp 114 41 [some (jO x), some (jI a), some (jI b), some (jI i), none, none] [jO (x + 12)] 0 0 (M1, w.2) _
        refine jWp.blk mt 1 ?_
        show jWp 114 42 [some (jO x), some (jI a), some (jI b), some (jI i), none, none] [jI a, jO (x + 12)] 0 0 (M1, w.2) _
        refine jWp.i2l (pc' := 43) mt rfl rfl (b32_id (by omega) (by omega)) ?_
        show jWp 114 43 [some (jO x), some (jI a), some (jI b), some (jI i), none, none] [jJ a, jO (x + 12)] 0 0 (M1, w.2) _
        refine jWp.blk mt 1 ?_
        show jWp 114 44 [some (jO x), some (jI a), some (jI b), some (jI i), none, none] [jI b, jJ a, jO (x + 12)] 0 0 (M1, w.2) _
        refine jWp.i2l (pc' := 45) mt rfl rfl (b32_id (by omega) (by omega)) ?_
        show jWp 114 45 [some (jO x), some (jI a), some (jI b), some (jI i), none, none] [jJ b, jJ a, jO (x + 12)] 0 0 (M1, w.2) _
        refine jWp.callv (as := [jO (x + 12), jJ a, jJ b]) (rest := []) mt rfl rfl rfl ⟨rfl, jtg hX.XS.k0⟩ ?_
        refine jCall.mono (C_firstWith (w := (M1, w.2)) (se := x + 12) (a := a) (b := b) hX.XS hn4 hC1 hBL hl (by omega) (by omega)) (fun v9 w9 h9 => ?_)
        obtain ⟨rfl, hw9⟩ := h9
        subst hw9
        rcases zfp_r (L := (zBF n 4 q)) (n := n) (a := a) (b := b) with hz | ⟨p, hp, hpl⟩
        · rw [show (if zfp (zBF n 4 q) n a b < 0 then -1 else zfp (zBF n 4 q) n a b) = -1 from if_pos hz]
          show jWp 114 48 [some (jO x), some (jI a), some (jI b), some (jI i), none, none] [jI (-1)] 0 0 (M1, w.2) _
          refine jWp.blk mt 2 ?_
          show jWp 114 52 [some (jO x), some (jI a), some (jI b), some (jI i), some (jI (-1)), none] [jI (-1)] 0 0 (M1, w.2) _
          refine jWp.ifc (b := false) mt rfl (by decide) rfl ?_
          show jWp 114 55 [some (jO x), some (jI a), some (jI b), some (jI i), some (jI (-1)), none] [] 0 0 (M1, w.2) _
          refine jWp.blk mt 1 ?_
          show jWp 114 57 [some (jO x), some (jI a), some (jI b), some (jI i), some (jI (-1)), none] [jI (-9)] 0 0 (M1, w.2) _
          refine jWp.ireti mt rfl ⟨rfl, rfl⟩ rfl ?_
          refine ⟨fun c0 => ?_, fun c0 => ⟨?_, hcq⟩⟩
          · exfalso; omega
          · unfold zfw
            first
            | (exfalso; omega)
            | (rw [if_pos hz]; done)
            | (rw [hp, if_neg (by omega), show ((p : Nat) : Int).toNat = p from rfl]
               first
               | (rw [if_pos (by omega)]; done)
               | (rw [if_neg (by omega), if_pos (by omega)]; done)
               | (rw [if_neg (by omega), if_neg (by omega)]; done))
        · rw [show (if zfp (zBF n 4 q) n a b < 0 then -1 else zfp (zBF n 4 q) n a b) = (p : Int) from (if_neg (by omega)).trans hp]
          have hwp := hw4 p hpl
          show jWp 114 48 [some (jO x), some (jI a), some (jI b), some (jI i), none, none] [jI (p : Int)] 0 0 (M1, w.2) _
          refine jWp.blk mt 2 ?_
          show jWp 114 52 [some (jO x), some (jI a), some (jI b), some (jI i), some (jI (p : Int)), none] [jI (p : Int)] 0 0 (M1, w.2) _
          refine jWp.ifz (pc' := 55) mt rfl rfl (b32_id (by omega) (by omega)) (fun h4 => ?_) (fun h4 => ?_)
          · have h4 : 0 ≤ (p : Int) := h4
            refine jWp.blk mt 1 ?_
            show _ ∧ jWp 114 59 [some (jO x), some (jI a), some (jI b), some (jI i), some (jI (p : Int)), none] [jO x] 0 0 (M1, w.2) _
            refine ⟨rfl, ?_⟩
            refine jWp.getR (pc' := 62) (o := (x + 12)) mt rfl rfl (jtg hX.X0) hX.R8 ?_
            show jWp 114 62 [some (jO x), some (jI a), some (jI b), some (jI i), some (jI (p : Int)), none] [jO (x + 12)] 0 0 (M1, w.2) _
            refine jWp.blk mt 1 ?_
            show jWp 114 64 [some (jO x), some (jI a), some (jI b), some (jI i), some (jI (p : Int)), none] [jI (p : Int), jO (x + 12)] 0 0 (M1, w.2) _
            refine jWp.callv (as := [jO (x + 12), jI (p : Int)]) (rest := []) mt rfl rfl rfl ⟨rfl, jtg hX.XS.k0⟩ ?_
            refine jCall.mono (C_stepsTo (w := (M1, w.2)) (se := x + 12) (o := p) hX.XS hn4 hC1 hBL hl hpl) (fun v9 w9 h9 => ?_)
            obtain ⟨rfl, h9⟩ := h9
            subst w9
            show jWp 114 67 [some (jO x), some (jI a), some (jI b), some (jI i), some (jI (p : Int)), none] [jI ((zL (zBF n 4 q) p).2.2.2 : Int)] 0 0 (M1, w.2) _
            refine jWp.blk mt 2 ?_
            show jWp 114 70 [some (jO x), some (jI a), some (jI b), some (jI i), some (jI (p : Int)), some (jI ((zL (zBF n 4 q) p).2.2.2 : Int))] [jI i] 0 0 (M1, w.2) _
            refine jWp.ifz (pc' := 73) mt rfl rfl (b32_id (by omega) (by omega)) (fun h5 => ?_) (fun h5 => ?_)
            · have h5 : 0 ≤ i := h5
              refine jWp.blk mt 2 ?_
              show jWp 114 79 [some (jO x), some (jI a), some (jI b), some (jI i), some (jI (p : Int)), some (jI ((zL (zBF n 4 q) p).2.2.2 : Int))] [jI ((zL (zBF n 4 q) p).2.2.2 : Int), jI i] 0 0 (M1, w.2) _
              refine jWp.icmp (pc' := 82) mt rfl rfl (b32_id (by omega) (by omega)) (b32_id (by omega) (by omega)) (fun h6 => ?_) (fun h6 => ?_)
              · have h6 : ((zL (zBF n 4 q) p).2.2.2 : Int) ≤ i := h6
                refine jWp.blk mt 1 ?_
                show jWp 114 97 [some (jO x), some (jI a), some (jI b), some (jI i), some (jI (p : Int)), some (jI ((zL (zBF n 4 q) p).2.2.2 : Int))] [jI (-9)] 0 0 (M1, w.2) _
                refine jWp.ireti mt rfl ⟨rfl, rfl⟩ rfl ?_
                refine ⟨fun c0 => ?_, fun c0 => ⟨?_, hcq⟩⟩
                · exfalso; omega
                · unfold zfw
                  first
                  | (exfalso; omega)
                  | (rw [if_pos hz]; done)
                  | (rw [hp, if_neg (by omega), show ((p : Nat) : Int).toNat = p from rfl]
                     first
                     | (rw [if_pos (by omega)]; done)
                     | (rw [if_neg (by omega), if_pos (by omega)]; done)
                     | (rw [if_neg (by omega), if_neg (by omega)]; done))
              · have h6 : i < ((zL (zBF n 4 q) p).2.2.2 : Int) := h6
                obtain ⟨i1, rfl⟩ : ∃ i1 : Nat, i = (i1 : Int) := ⟨i.toNat, by omega⟩
                show jWp 114 82 [some (jO x), some (jI a), some (jI b), some (jI (i1 : Int)), some (jI (p : Int)), some (jI ((zL (zBF n 4 q) p).2.2.2 : Int))] [] 0 0 (M1, w.2) _
                refine jWp.blk mt 1 ?_
                show _ ∧ jWp 114 83 [some (jO x), some (jI a), some (jI b), some (jI (i1 : Int)), some (jI (p : Int)), some (jI ((zL (zBF n 4 q) p).2.2.2 : Int))] [jO x] 0 0 (M1, w.2) _
                refine ⟨rfl, ?_⟩
                refine jWp.getR (pc' := 86) (o := (x + 12)) mt rfl rfl (jtg hX.X0) hX.R8 ?_
                show jWp 114 86 [some (jO x), some (jI a), some (jI b), some (jI (i1 : Int)), some (jI (p : Int)), some (jI ((zL (zBF n 4 q) p).2.2.2 : Int))] [jO (x + 12)] 0 0 (M1, w.2) _
                refine jWp.blk mt 2 ?_
                show jWp 114 89 [some (jO x), some (jI a), some (jI b), some (jI (i1 : Int)), some (jI (p : Int)), some (jI ((zL (zBF n 4 q) p).2.2.2 : Int))] [jI (i1 : Int), jI (p : Int), jO (x + 12)] 0 0 (M1, w.2) _
                refine jWp.callv (as := [jO (x + 12), jI (p : Int), jI (i1 : Int)]) (rest := []) mt rfl rfl rfl ⟨rfl, jtg hX.XS.k0⟩ ?_
                refine jCall.mono (C_letterTo (w := (M1, w.2)) (se := x + 12) (o := p) (i := i1) hX.XS hn4 hC1 hBL hl hpl (by omega) hw4) (fun v9 w9 h9 => ?_)
                obtain ⟨rfl, h9⟩ := h9
                subst w9
                show jWp 114 92 [some (jO x), some (jI a), some (jI b), some (jI (i1 : Int)), some (jI (p : Int)), some (jI ((zL (zBF n 4 q) p).2.2.2 : Int))] [jI ((zL (zBF n 4 q) (zan (zBF n 4 q) 5 p (i1 : Int))).2.2.1 : Int)] 0 0 (M1, w.2) _
                refine jWp.blk mt 1 ?_
                show jWp 114 97 [some (jO x), some (jI a), some (jI b), some (jI (i1 : Int)), some (jI (p : Int)), some (jI ((zL (zBF n 4 q) p).2.2.2 : Int))] [jI ((zL (zBF n 4 q) (zan (zBF n 4 q) 5 p (i1 : Int))).2.2.1 : Int)] 0 0 (M1, w.2) _
                refine jWp.ireti mt rfl ⟨rfl, rfl⟩ rfl ?_
                refine ⟨fun c0 => ?_, fun c0 => ⟨?_, hcq⟩⟩
                · exfalso; omega
                · unfold zfw
                  first
                  | (exfalso; omega)
                  | (rw [if_pos hz]; done)
                  | (rw [hp, if_neg (by omega), show ((p : Nat) : Int).toNat = p from rfl]
                     first
                     | (rw [if_pos (by omega)]; done)
                     | (rw [if_neg (by omega), if_pos (by omega)]; done)
                     | (rw [if_neg (by omega), if_neg (by omega)]; done))
            · have h5 : i < 0 := h5
              refine jWp.blk mt 1 ?_
              show jWp 114 75 [some (jO x), some (jI a), some (jI b), some (jI i), some (jI (p : Int)), some (jI ((zL (zBF n 4 q) p).2.2.2 : Int))] [jI ((zL (zBF n 4 q) p).2.2.2 : Int)] 0 0 (M1, w.2) _
              refine jWp.ireti mt rfl ⟨rfl, rfl⟩ rfl ?_
              refine ⟨fun c0 => ?_, fun c0 => ⟨?_, hcq⟩⟩
              · exfalso; omega
              · unfold zfw
                first
                | (exfalso; omega)
                | (rw [if_pos hz]; done)
                | (rw [hp, if_neg (by omega), show ((p : Nat) : Int).toNat = p from rfl]
                   first
                   | (rw [if_pos (by omega)]; done)
                   | (rw [if_neg (by omega), if_pos (by omega)]; done)
                   | (rw [if_neg (by omega), if_neg (by omega)]; done))
          · have h4 : (p : Int) < 0 := h4
            refine jWp.blk mt 1 ?_
            show jWp 114 57 [some (jO x), some (jI a), some (jI b), some (jI i), some (jI (p : Int)), none] [jI (-9)] 0 0 (M1, w.2) _
            refine jWp.ireti mt rfl ⟨rfl, rfl⟩ rfl ?_
            refine ⟨fun c0 => ?_, fun c0 => ⟨?_, hcq⟩⟩
            · exfalso; omega
            · unfold zfw
              first
              | (exfalso; omega)
              | (rw [if_pos hz]; done)
              | (rw [hp, if_neg (by omega), show ((p : Nat) : Int).toNat = p from rfl]
                 first
                 | (rw [if_pos (by omega)]; done)
                 | (rw [if_neg (by omega), if_pos (by omega)]; done)
                 | (rw [if_neg (by omega), if_neg (by omega)]; done))
      · have h3 : i < (-1) := h3
        refine jWp.blk mt 2 ?_
        show _ ∧ jWp 114 17 [some (jO x), some (jI a), some (jI b), some (jI i), none, none] [jI (-4), jO x] 0 0 w _
        refine ⟨rfl, ?_⟩
        refine jWp.callv (as := [jO x, jI (-4)]) (rest := []) mt rfl rfl rfl ⟨rfl, jtg hX.X0⟩ ?_
        refine jCall.mono (C_refuse (w := w) (j := 3) hX (by decide) (by decide)) (fun v9 w9 h9 => ?_)
        obtain ⟨rfl, h9⟩ := h9
        subst h9
        show jWp 114 20 [some (jO x), some (jI a), some (jI b), some (jI i), none, none] [jI (-4)] 0 0 (jW w (x + 362) 3 ((w.1 (x + 362) 3) + 1)) _
        refine jWp.ireti mt rfl ⟨rfl, rfl⟩ rfl ?_
        refine ⟨fun c0 => ?_, fun c0 => ?_⟩
        all_goals first
        | (exfalso; omega)
        | exact ⟨rfl, rfl⟩
set_option maxHeartbeats 4000000 in
set_option maxRecDepth 20000 in
theorem C_count {w : jS} {x : Nat} (hX : CW w.2 x) {n : Nat} {q : Nat → Int} {g : Prop} (hQ : zQ q n) (hn0 : w.1 (x + 3) 0 = (n : Int)) (hRR : cR g (w.1 (x + 4)) q n) {G : (Nat → Int) → Prop} (hG : zG G) (hgq : g → G q) {c F u : Nat} (hc : w.1 x 1 = (c : Int)) (hF : w.1 (x + 339) 0 = (F : Int)) (hu : w.1 (x + 341) 0 = (u : Int)) {what : Int} (hrw : r32 what) : jCall 127 [jO x, jI what] w (fun v w1 => w1 = w ∧ (what = 0 → v = some (jI (c : Int))) ∧ (what = 1 → v = some (jI (n : Int))) ∧ (what = 2 → v = some (jI (F : Int))) ∧ (what = 3 → v = some (jI (u : Int))) ∧ (what = 4 → v = some (jI (zcz q 16))) ∧ (what = 5 → ∃ y, v = some (jI y) ∧ (g → y = zgo q n n)) ∧ (11 ≤ what ∧ what ≤ 16 → v = some (jI (w.1 (x + 362) (what - 11).toNat))) ∧ ((what < 0 ∨ (5 < what ∧ what < 11) ∨ 16 < what) → v = some (jI (-9)))) := by
  have mt : jtb 127 = jT127 := rfl
  have hn2 := hQ.S.n2
  have hn4 := hQ.S.n4
  have hrw1 : -2147483648 ≤ what ∧ what < 2147483648 := hrw
  show jWp 127 0 [some (jO x), some (jI what)] [] 0 0 w _
  refine jWp.blk mt 1 ?_
  show jWp 127 1 [some (jO x), some (jI what)] [jI what] 0 0 w _
  refine jWp.sw mt rfl (Or.inl ⟨_, _, _, _, rfl⟩) (b32_id (by omega) (by omega)) ?_
  show jWp 127 (jsw [(0, 40), (1, 45), (2, 53), (3, 61), (4, 69), (5, 77)] 85 what) [some (jO x), some (jI what)] [] 0 0 w _
  unfold jsw; by_cases h1 : 0 = what
  · rw [if_pos h1]
    refine jWp.blk mt 1 ?_
    show _ ∧ jWp 127 41 [some (jO x), some (jI what)] [jO x] 0 0 w _
    refine ⟨rfl, ?_⟩
    refine jWp.getI (pc' := 44) mt rfl rfl (jtg hX.X0) ?_
    rw [show (w.1 x 1) = (c : Int) from hc]
    show jWp 127 44 [some (jO x), some (jI what)] [jI (c : Int)] 0 0 w _
    refine jWp.ireti mt rfl ⟨rfl, rfl⟩ rfl ?_
    refine ⟨rfl, fun z0 => ?_, fun z1 => ?_, fun z2 => ?_, fun z3 => ?_, fun z4 => ?_, fun z5 => ?_, fun z6 => ?_, fun z7 => ?_⟩
    all_goals first
    | (exfalso; omega)
    | rfl
    | exact ⟨_, rfl, fun gg => (zco_e hG hQ (hgq gg) gg hRR).1⟩
    | (rw [show ((what1 : Int) - 11).toNat = what1 - 11 by omega]; done)
  · rw [if_neg h1]
    unfold jsw; by_cases h2 : 1 = what
    · rw [if_pos h2]
      refine jWp.blk mt 1 ?_
      show _ ∧ jWp 127 46 [some (jO x), some (jI what)] [jO x] 0 0 w _
      refine ⟨rfl, ?_⟩
      refine jWp.getR (pc' := 49) (o := (x + 3)) mt rfl rfl (jtg hX.X0) hX.R4 ?_
      show jWp 127 49 [some (jO x), some (jI what)] [jO (x + 3)] 0 0 w _
      refine jWp.getI (pc' := 52) mt rfl rfl (jtg hX.X3) ?_
      rw [show (w.1 (x + 3) 0) = (n : Int) from hn0]
      show jWp 127 52 [some (jO x), some (jI what)] [jI (n : Int)] 0 0 w _
      refine jWp.ireti mt rfl ⟨rfl, rfl⟩ rfl ?_
      refine ⟨rfl, fun z0 => ?_, fun z1 => ?_, fun z2 => ?_, fun z3 => ?_, fun z4 => ?_, fun z5 => ?_, fun z6 => ?_, fun z7 => ?_⟩
      all_goals first
      | (exfalso; omega)
      | rfl
      | exact ⟨_, rfl, fun gg => (zco_e hG hQ (hgq gg) gg hRR).1⟩
      | (rw [show ((what1 : Int) - 11).toNat = what1 - 11 by omega]; done)
    · rw [if_neg h2]
      unfold jsw; by_cases h3 : 2 = what
      · rw [if_pos h3]
        refine jWp.blk mt 1 ?_
        show _ ∧ jWp 127 54 [some (jO x), some (jI what)] [jO x] 0 0 w _
        refine ⟨rfl, ?_⟩
        refine jWp.getR (pc' := 57) (o := (x + 339)) mt rfl rfl (jtg hX.X0) hX.R9 ?_
        show jWp 127 57 [some (jO x), some (jI what)] [jO (x + 339)] 0 0 w _
        refine jWp.getI (pc' := 60) mt rfl rfl (jtg hX.X339) ?_
        rw [show (w.1 (x + 339) 0) = (F : Int) from hF]
        show jWp 127 60 [some (jO x), some (jI what)] [jI (F : Int)] 0 0 w _
        refine jWp.ireti mt rfl ⟨rfl, rfl⟩ rfl ?_
        refine ⟨rfl, fun z0 => ?_, fun z1 => ?_, fun z2 => ?_, fun z3 => ?_, fun z4 => ?_, fun z5 => ?_, fun z6 => ?_, fun z7 => ?_⟩
        all_goals first
        | (exfalso; omega)
        | rfl
        | exact ⟨_, rfl, fun gg => (zco_e hG hQ (hgq gg) gg hRR).1⟩
        | (rw [show ((what1 : Int) - 11).toNat = what1 - 11 by omega]; done)
      · rw [if_neg h3]
        unfold jsw; by_cases h4 : 3 = what
        · rw [if_pos h4]
          refine jWp.blk mt 1 ?_
          show _ ∧ jWp 127 62 [some (jO x), some (jI what)] [jO x] 0 0 w _
          refine ⟨rfl, ?_⟩
          refine jWp.getR (pc' := 65) (o := (x + 341)) mt rfl rfl (jtg hX.X0) hX.R10 ?_
          show jWp 127 65 [some (jO x), some (jI what)] [jO (x + 341)] 0 0 w _
          refine jWp.getI (pc' := 68) mt rfl rfl (jtg hX.XP.1) ?_
          rw [show (w.1 (x + 341) 0) = (u : Int) from hu]
          show jWp 127 68 [some (jO x), some (jI what)] [jI (u : Int)] 0 0 w _
          refine jWp.ireti mt rfl ⟨rfl, rfl⟩ rfl ?_
          refine ⟨rfl, fun z0 => ?_, fun z1 => ?_, fun z2 => ?_, fun z3 => ?_, fun z4 => ?_, fun z5 => ?_, fun z6 => ?_, fun z7 => ?_⟩
          all_goals first
          | (exfalso; omega)
          | rfl
          | exact ⟨_, rfl, fun gg => (zco_e hG hQ (hgq gg) gg hRR).1⟩
          | (rw [show ((what1 : Int) - 11).toNat = what1 - 11 by omega]; done)
        · rw [if_neg h4]
          unfold jsw; by_cases h5 : 4 = what
          · rw [if_pos h5]
            refine jWp.blk mt 1 ?_
            show _ ∧ jWp 127 70 [some (jO x), some (jI what)] [jO x] 0 0 w _
            refine ⟨rfl, ?_⟩
            refine jWp.getR (pc' := 73) (o := (x + 3)) mt rfl rfl (jtg hX.X0) hX.R4 ?_
            show jWp 127 73 [some (jO x), some (jI what)] [jO (x + 3)] 0 0 w _
            refine jWp.callv (as := [jO (x + 3)]) (rest := []) mt rfl rfl rfl ⟨rfl, jtg hX.X3⟩ ?_
            refine jCall.mono ((by have h := C_entries (w := w) (s := x + 3) (sc := x + 4) (n := n) hX.X3 hX.X4 hX.Rc hn0 hn4 (fun e he => by rw [hRR.1 _ (by omega), cz_b he]; exact hQ.S.b e he); rw [zcei_e hQ hRR.1] at h; exact h)) (fun v9 w9 h9 => ?_)
            obtain ⟨rfl, h9⟩ := h9
            subst w9
            show jWp 127 76 [some (jO x), some (jI what)] [jI (zcz q 16)] 0 0 w _
            refine jWp.ireti mt rfl ⟨rfl, rfl⟩ rfl ?_
            refine ⟨rfl, fun z0 => ?_, fun z1 => ?_, fun z2 => ?_, fun z3 => ?_, fun z4 => ?_, fun z5 => ?_, fun z6 => ?_, fun z7 => ?_⟩
            all_goals first
            | (exfalso; omega)
            | rfl
            | exact ⟨_, rfl, fun gg => (zco_e hG hQ (hgq gg) gg hRR).1⟩
            | (rw [show ((what1 : Int) - 11).toNat = what1 - 11 by omega]; done)
          · rw [if_neg h5]
            unfold jsw; by_cases h6 : 5 = what
            · rw [if_pos h6]
              refine jWp.blk mt 1 ?_
              show _ ∧ jWp 127 78 [some (jO x), some (jI what)] [jO x] 0 0 w _
              refine ⟨rfl, ?_⟩
              refine jWp.getR (pc' := 81) (o := (x + 3)) mt rfl rfl (jtg hX.X0) hX.R4 ?_
              show jWp 127 81 [some (jO x), some (jI what)] [jO (x + 3)] 0 0 w _
              refine jWp.callv (as := [jO (x + 3)]) (rest := []) mt rfl rfl rfl ⟨rfl, jtg hX.X3⟩ ?_
              refine jCall.mono (C_greatest (w := w) (s := x + 3) (sc := x + 4) (n := n) hX.X3 hX.X4 hX.Rc hn0 hn4 hn2) (fun v9 w9 h9 => ?_)
              obtain ⟨rfl, h9⟩ := h9
              subst w9
              show jWp 127 84 [some (jO x), some (jI what)] [jI (zco (w.1 (x + 4)) n n)] 0 0 w _
              refine jWp.ireti mt rfl ⟨rfl, rfl⟩ rfl ?_
              refine ⟨rfl, fun z0 => ?_, fun z1 => ?_, fun z2 => ?_, fun z3 => ?_, fun z4 => ?_, fun z5 => ?_, fun z6 => ?_, fun z7 => ?_⟩
              all_goals first
              | (exfalso; omega)
              | rfl
              | exact ⟨_, rfl, fun gg => (zco_e hG hQ (hgq gg) gg hRR).1⟩
              | (rw [show ((what1 : Int) - 11).toNat = what1 - 11 by omega]; done)
            · rw [if_neg h6]
              unfold jsw
              refine jWp.blk mt 2 ?_
              show jWp 127 88 [some (jO x), some (jI what)] [jI 11, jI what] 0 0 w _
              refine jWp.icmp (pc' := 91) mt rfl rfl (b32_id (by omega) (by omega)) (show b32 11 = 11 by decide) (fun h7 => ?_) (fun h7 => ?_)
              · have h7 : what < 11 := h7
                refine jWp.blk mt 1 ?_
                show jWp 127 117 [some (jO x), some (jI what)] [jI (-9)] 0 0 w _
                refine jWp.ireti mt rfl ⟨rfl, rfl⟩ rfl ?_
                refine ⟨rfl, fun z0 => ?_, fun z1 => ?_, fun z2 => ?_, fun z3 => ?_, fun z4 => ?_, fun z5 => ?_, fun z6 => ?_, fun z7 => ?_⟩
                all_goals first
                | (exfalso; omega)
                | rfl
                | exact ⟨_, rfl, fun gg => (zco_e hG hQ (hgq gg) gg hRR).1⟩
                | (rw [show ((what1 : Int) - 11).toNat = what1 - 11 by omega]; done)
              · have h7 : 11 ≤ what := h7
                refine jWp.blk mt 4 ?_
                show _ ∧ jWp 127 96 [some (jO x), some (jI what)] [jO x, jI (what - 11)] 0 0 w _
                refine ⟨rfl, ?_⟩
                refine jWp.getR (pc' := 99) (o := (x + 362)) mt rfl rfl (jtg hX.X0) hX.R14 ?_
                show jWp 127 99 [some (jO x), some (jI what)] [jO (x + 362), jI (what - 11)] 0 0 w _
                refine jWp.alen (pc' := 100) (n := 6) mt rfl rfl (jird_of hX.X362) (by rw [hX.X362]) ?_
                show jWp 127 100 [some (jO x), some (jI what)] [jI 6, jI (what - 11)] 0 0 w _
                refine jWp.icmp (pc' := 103) mt rfl rfl (b32_id (by omega) (by omega)) (show b32 6 = 6 by decide) (fun h8 => ?_) (fun h8 => ?_)
                · have h8 : 6 ≤ (what - 11) := h8
                  refine jWp.blk mt 1 ?_
                  show jWp 127 117 [some (jO x), some (jI what)] [jI (-9)] 0 0 w _
                  refine jWp.ireti mt rfl ⟨rfl, rfl⟩ rfl ?_
                  refine ⟨rfl, fun z0 => ?_, fun z1 => ?_, fun z2 => ?_, fun z3 => ?_, fun z4 => ?_, fun z5 => ?_, fun z6 => ?_, fun z7 => ?_⟩
                  all_goals first
                  | (exfalso; omega)
                  | rfl
                  | exact ⟨_, rfl, fun gg => (zco_e hG hQ (hgq gg) gg hRR).1⟩
                  | (rw [show ((what1 : Int) - 11).toNat = what1 - 11 by omega]; done)
                · have h8 : (what - 11) < 6 := h8
                  obtain ⟨what1, rfl⟩ : ∃ what1 : Nat, what = (what1 : Int) := ⟨what.toNat, by omega⟩
                  show jWp 127 103 [some (jO x), some (jI (what1 : Int))] [] 0 0 w _
                  refine jWp.blk mt 1 ?_
                  show _ ∧ jWp 127 104 [some (jO x), some (jI (what1 : Int))] [jO x] 0 0 w _
                  refine ⟨rfl, ?_⟩
                  refine jWp.getR (pc' := 107) (o := (x + 362)) mt rfl rfl (jtg hX.X0) hX.R14 ?_
                  show jWp 127 107 [some (jO x), some (jI (what1 : Int))] [jO (x + 362)] 0 0 w _
                  refine jWp.blk mt 3 ?_
                  show jWp 127 111 [some (jO x), some (jI (what1 : Int))] [jI ((what1 : Int) - 11), jO (x + 362)] 0 0 w _
                  refine jWp.iald (pc' := 112) (j := (what1 - 11)) mt rfl rfl (jird_of hX.X362) (by rw [b32_id (by omega) (by omega)]; omega) (jlt hX.X362 (by omega)) ?_
                  show jWp 127 112 [some (jO x), some (jI (what1 : Int))] [jI (w.1 (x + 362) (what1 - 11))] 0 0 w _
                  refine jWp.blk mt 1 ?_
                  show jWp 127 117 [some (jO x), some (jI (what1 : Int))] [jI (w.1 (x + 362) (what1 - 11))] 0 0 w _
                  refine jWp.ireti mt rfl ⟨rfl, rfl⟩ rfl ?_
                  refine ⟨rfl, fun z0 => ?_, fun z1 => ?_, fun z2 => ?_, fun z3 => ?_, fun z4 => ?_, fun z5 => ?_, fun z6 => ?_, fun z7 => ?_⟩
                  all_goals first
                  | (exfalso; omega)
                  | rfl
                  | exact ⟨_, rfl, fun gg => (zco_e hG hQ (hgq gg) gg hRR).1⟩
                  | (rw [show ((what1 : Int) - 11).toNat = what1 - 11 by omega]; done)
end
section
theorem zw1_b {τ : Nat → Int} {F : Nat} : ∀ f p k, p ≤ F → -1 - ((F + 5 : Nat) : Int) ≤ zw1 τ F f p k ∧ zw1 τ F f p k ≤ ((k + f : Nat) : Int)
  | 0, p, k, _ => ⟨by show _ ≤ (k : Int); omega, by show (k : Int) ≤ _; omega⟩
  | f + 1, p, k, hp => by
    have h1 := zbh_p (τ := τ) (F := F) (p := p)
    rcases Int.lt_or_le (zbh τ F p) 0 with c | c
    · rw [zw1_n c]
      omega
    · obtain ⟨b, hb⟩ : ∃ b : Nat, zbh τ F p = (b : Int) := ⟨_, (Int.toNat_of_nonneg c).symm⟩
      rcases Nat.lt_or_ge b F with g | g
      · rw [zw1_g hb g]
        have := zw1_b (τ := τ) (F := F) f b (k + 1) (by omega)
        omega
      · rw [zw1_e hb g]
        omega
theorem zw2_b {τ : Nat → Int} {F : Nat} : ∀ (f p : Nat) (q : Nat → Int) (b : Nat), zw2 τ F f p q = .inr b → b < F
  | 0, p, q, b, h => by
    have h : (Sum.inl q : (Nat → Int) ⊕ Nat) = .inr b := h
    cases h
  | f + 1, p, q, b, h => by
    by_cases c : F ≤ p
    · rw [zw2_e c] at h
      cases h
    · rcases Int.lt_or_le (zbh τ F p) 0 with g | g
      · rw [zw2_n c g] at h
        cases h
        omega
      · cases d : zdo (zlt τ F p) (zfg (zlt τ F (p + 1))) (zfg (zlt τ F (p + 2))) (znm τ F (p + 3)) q with
        | none =>
          rw [zw2_f c (by omega) d] at h
          cases h
          omega
        | some q' =>
          rw [zw2_g c (Int.toNat_of_nonneg g).symm d] at h
          exact zw2_b f _ _ _ h
set_option maxHeartbeats 4000000 in
set_option maxRecDepth 20000 in
theorem C_walk {w : jS} {x : Nat} (hX : CW w.2 x) {n : Nat} {q : Nat → Int} {g : Prop} (hQ : zQ q n) (hn0 : w.1 (x + 3) 0 = (n : Int)) (hRR : cR g (w.1 (x + 4)) q n) {u : Nat} (hu : w.1 (x + 341) 0 = (u : Int)) (hu8 : u ≤ 8) {F : Nat} {τ : Nat → Int} (hF : w.1 (x + 339) 0 = (F : Int)) (hF72 : F ≤ 72) (hτ : w.1 (x + 340) = τ) (hL : ∀ j, j < F → 0 ≤ τ j ∧ τ j ≤ 255) : jCall 108 [jO x] w (fun v w1 => ((zw1 τ F 73 0 0) < 0 → v = some (jI (-999 + (zw1 τ F 73 0 0))) ∧ ∃ w2, cq w x w2 ∧ w1 = jW w2 (x + 339) 0 0) ∧ (0 ≤ (zw1 τ F 73 0 0) → (∀ b, (zw2 τ F 73 0 q) = .inr b → v = some (jI (-2000 - (b : Int))) ∧ ∃ w2, cq w x w2 ∧ w1 = jW w2 (x + 339) 0 0) ∧ ∀ q', (zw2 τ F 73 0 q) = .inl q' → v = some (jI (zw1 τ F 73 0 0)) ∧ w1.2 = w.2 ∧ (∀ b, b ≠ x + 3 → b ≠ x + 4 → b ≠ x + 339 → (b < x + 7 ∨ x + 12 ≤ b) → (b < x + 341 ∨ x + 359 ≤ b) → w1.1 b = w.1 b) ∧ w1.1 (x + 339) 0 = 0 ∧ (∃ n', zQ q' n' ∧ w1.1 (x + 3) 0 = ((n' : Nat) : Int) ∧ cR False (w1.1 (x + 4)) q' n') ∧ cpst w x u w1)) := by
  have mt : jtb 108 = jT108 := rfl
  have hn2 := hQ.S.n2
  have hn4 := hQ.S.n4
  have hz1b := zw1_b (τ := τ) (F := F) 73 0 0 (Nat.zero_le F)
  show jWp 108 0 [some (jO x), none, none, none] [] 0 0 w _
  refine jWp.blk mt 1 ?_
  show _ ∧ jWp 108 1 [some (jO x), none, none, none] [jO x] 0 0 w _
  refine ⟨rfl, ?_⟩
  refine jWp.getR (pc' := 4) (o := (x + 339)) mt rfl rfl (jtg hX.X0) hX.R9 ?_
  show jWp 108 4 [some (jO x), none, none, none] [jO (x + 339)] 0 0 w _
  refine jWp.callv (as := [jO (x + 339)]) (rest := []) mt rfl rfl rfl ⟨rfl, jtg hX.X339⟩ ?_
  refine jCall.mono (C_misplaced (w := w) (t := x + 339) (tl := x + 340) (F := F) (τ := τ) hX.X339 hX.X340 hX.Rl hF hF72 hτ hL) (fun v9 w9 h9 => ?_)
  obtain ⟨hw9, hm1, hm2⟩ := h9
  subst w9
  rcases Int.lt_or_le (zw1 τ F 73 0 0) 0 with hz | hz
  · obtain rfl := hm1 hz
    show jWp 108 7 [some (jO x), none, none, none] [jI (-1 - (zw1 τ F 73 0 0))] 0 0 w _
    refine jWp.blk mt 2 ?_
    show _ ∧ jWp 108 9 [some (jO x), some (jI (-1 - (zw1 τ F 73 0 0))), none, none] [jO x] 0 0 w _
    refine ⟨rfl, ?_⟩
    refine jWp.getR (pc' := 12) (o := (x + 7)) mt rfl rfl (jtg hX.X0) hX.R6 ?_
    show jWp 108 12 [some (jO x), some (jI (-1 - (zw1 τ F 73 0 0))), none, none] [jO (x + 7)] 0 0 w _
    refine jWp.blk mt 1 ?_
    show _ ∧ jWp 108 13 [some (jO x), some (jI (-1 - (zw1 τ F 73 0 0))), none, none] [jO x, jO (x + 7)] 0 0 w _
    refine ⟨rfl, ?_⟩
    refine jWp.getR (pc' := 16) (o := (x + 3)) mt rfl rfl (jtg hX.X0) hX.R4 ?_
    show jWp 108 16 [some (jO x), some (jI (-1 - (zw1 τ F 73 0 0))), none, none] [jO (x + 3), jO (x + 7)] 0 0 w _
    refine jWp.callv (as := [jO (x + 7), jO (x + 3)]) (rest := []) mt rfl rfl rfl ⟨rfl, jtg hX.X7⟩ ?_
    refine jCall.mono (C_become (w := w) (s := x + 7) (sc := x + 8) hX.X7 hX.X8 hX.Rt (s2 := x + 3) (sc2 := x + 4) hX.X3 hX.X4 hX.Rc hn0) (fun v9 w9 h9 => ?_)
    obtain ⟨rfl, hbf, hn0', hc0⟩ := h9
    obtain ⟨M0, G9⟩ := w9
    have hg : G9 = w.2 := hbf.1
    subst hg
    have hf0 : ∀ b, (b < x + 7 ∨ x + 12 ≤ b) → M0 b = w.1 b := fun b hb => hbf.2 b (by omega) (by omega)
    have hR0 : cR g (M0 (x + 8)) q n := cR_C hc0 hRR
    show jWp 108 19 [some (jO x), some (jI (-1 - (zw1 τ F 73 0 0))), none, none] [] 0 0 (M0, w.2) _
    refine jWp.blk mt 1 ?_
    show jWp 108 20 [some (jO x), some (jI (-1 - (zw1 τ F 73 0 0))), none, none] [jI (-1 - (zw1 τ F 73 0 0))] 0 0 (M0, w.2) _
    refine jWp.ifz (pc' := 23) mt rfl rfl (b32_id (by omega) (by omega)) (fun h1 => ?_) (fun h1 => ?_)
    · have h1 : 0 ≤ (-1 - (zw1 τ F 73 0 0)) := h1
      refine jWp.blk mt 3 ?_
      show _ ∧ jWp 108 44 [some (jO x), some (jI (-1 - (zw1 τ F 73 0 0))), some (jI (-1)), none] [jO x] 0 0 (M0, w.2) _
      refine ⟨rfl, ?_⟩
      refine jWp.getR (pc' := 47) (o := (x + 339)) mt rfl rfl (jtg hX.X0) hX.R9 ?_
      show jWp 108 47 [some (jO x), some (jI (-1 - (zw1 τ F 73 0 0))), some (jI (-1)), none] [jO (x + 339)] 0 0 (M0, w.2) _
      refine jWp.callv (as := [jO (x + 339)]) (rest := []) mt rfl rfl rfl ⟨rfl, jtg hX.X339⟩ ?_
      refine jCall.mono (C_statements (w := (M0, w.2)) (t := x + 339) (tl := x + 340) (F := F) (τ := τ) hX.X339 hX.X340 hX.Rl ((congrFun (hf0 (x + 339) (by omega)) 0).trans hF) hF72 ((hf0 (x + 340) (by omega)).trans hτ) hL) (fun v9 w9 h9 => ?_)
      obtain ⟨rfl, h9⟩ := h9
      subst w9
      show jWp 108 50 [some (jO x), some (jI (-1 - (zw1 τ F 73 0 0))), some (jI (-1)), none] [jI (zct τ F)] 0 0 (M0, w.2) _
      refine jWp.blk mt 2 ?_
      show _ ∧ jWp 108 52 [some (jO x), some (jI (-1 - (zw1 τ F 73 0 0))), some (jI (-1)), some (jI (zct τ F))] [jO x] 0 0 (M0, w.2) _
      refine ⟨rfl, ?_⟩
      refine jWp.getR (pc' := 55) (o := (x + 339)) mt rfl rfl (jtg hX.X0) hX.R9 ?_
      show jWp 108 55 [some (jO x), some (jI (-1 - (zw1 τ F 73 0 0))), some (jI (-1)), some (jI (zct τ F))] [jO (x + 339)] 0 0 (M0, w.2) _
      refine jWp.callv (as := [jO (x + 339)]) (rest := []) mt rfl rfl rfl ⟨rfl, jtg hX.X339⟩ ?_
      refine jCall.mono (C_tforget (w := (M0, w.2)) (t := x + 339) hX.X339) (fun v9 w9 h9 => ?_)
      obtain ⟨rfl, hw9⟩ := h9
      subst hw9
      show jWp 108 58 [some (jO x), some (jI (-1 - (zw1 τ F 73 0 0))), some (jI (-1)), some (jI (zct τ F))] [] 0 0 (jW (M0, w.2) (x + 339) 0 0) _
      refine jWp.blk mt 1 ?_
      show jWp 108 59 [some (jO x), some (jI (-1 - (zw1 τ F 73 0 0))), some (jI (-1)), some (jI (zct τ F))] [jI (-1 - (zw1 τ F 73 0 0))] 0 0 (jW (M0, w.2) (x + 339) 0 0) _
      refine jWp.ifz (pc' := 62) mt rfl rfl (b32_id (by omega) (by omega)) (fun h2 => ?_) (fun h2 => ?_)
      · have h2 : (-1 - (zw1 τ F 73 0 0)) < 0 := h2
        exfalso; omega
      · have h2 : 0 ≤ (-1 - (zw1 τ F 73 0 0)) := h2
        refine jWp.blk mt 3 ?_
        show jWp 108 67 [some (jO x), some (jI (-1 - (zw1 τ F 73 0 0))), some (jI (-1)), some (jI (zct τ F))] [jI ((-1000) - (-1 - (zw1 τ F 73 0 0)))] 0 0 (jW (M0, w.2) (x + 339) 0 0) _
        refine jWp.ireti mt rfl ⟨rfl, rfl⟩ rfl ?_
        refine ⟨fun _ => ⟨?_, (M0, w.2), cq_f hf0, rfl⟩, fun z => absurd z (by omega)⟩
        rw [show (-1000 - (-1 - (zw1 τ F 73 0 0)) : Int) = -999 + (zw1 τ F 73 0 0) by omega]
    · have h1 : (-1 - (zw1 τ F 73 0 0)) < 0 := h1
      exfalso; omega
  · obtain rfl := hm2 hz
    show jWp 108 7 [some (jO x), none, none, none] [jI (-1)] 0 0 w _
    refine jWp.blk mt 2 ?_
    show _ ∧ jWp 108 9 [some (jO x), some (jI (-1)), none, none] [jO x] 0 0 w _
    refine ⟨rfl, ?_⟩
    refine jWp.getR (pc' := 12) (o := (x + 7)) mt rfl rfl (jtg hX.X0) hX.R6 ?_
    show jWp 108 12 [some (jO x), some (jI (-1)), none, none] [jO (x + 7)] 0 0 w _
    refine jWp.blk mt 1 ?_
    show _ ∧ jWp 108 13 [some (jO x), some (jI (-1)), none, none] [jO x, jO (x + 7)] 0 0 w _
    refine ⟨rfl, ?_⟩
    refine jWp.getR (pc' := 16) (o := (x + 3)) mt rfl rfl (jtg hX.X0) hX.R4 ?_
    show jWp 108 16 [some (jO x), some (jI (-1)), none, none] [jO (x + 3), jO (x + 7)] 0 0 w _
    refine jWp.callv (as := [jO (x + 7), jO (x + 3)]) (rest := []) mt rfl rfl rfl ⟨rfl, jtg hX.X7⟩ ?_
    refine jCall.mono (C_become (w := w) (s := x + 7) (sc := x + 8) hX.X7 hX.X8 hX.Rt (s2 := x + 3) (sc2 := x + 4) hX.X3 hX.X4 hX.Rc hn0) (fun v9 w9 h9 => ?_)
    obtain ⟨rfl, hbf, hn0', hc0⟩ := h9
    obtain ⟨M0, G9⟩ := w9
    have hg : G9 = w.2 := hbf.1
    subst hg
    have hf0 : ∀ b, (b < x + 7 ∨ x + 12 ≤ b) → M0 b = w.1 b := fun b hb => hbf.2 b (by omega) (by omega)
    have hR0 : cR g (M0 (x + 8)) q n := cR_C hc0 hRR
    show jWp 108 19 [some (jO x), some (jI (-1)), none, none] [] 0 0 (M0, w.2) _
    refine jWp.blk mt 1 ?_
    show jWp 108 20 [some (jO x), some (jI (-1)), none, none] [jI (-1)] 0 0 (M0, w.2) _
    refine jWp.ifc (b := false) mt rfl (by decide) rfl ?_
    show jWp 108 23 [some (jO x), some (jI (-1)), none, none] [] 0 0 (M0, w.2) _
    refine jWp.blk mt 1 ?_
    show _ ∧ jWp 108 24 [some (jO x), some (jI (-1)), none, none] [jO x] 0 0 (M0, w.2) _
    refine ⟨rfl, ?_⟩
    refine jWp.getR (pc' := 27) (o := (x + 339)) mt rfl rfl (jtg hX.X0) hX.R9 ?_
    show jWp 108 27 [some (jO x), some (jI (-1)), none, none] [jO (x + 339)] 0 0 (M0, w.2) _
    refine jWp.blk mt 1 ?_
    show _ ∧ jWp 108 28 [some (jO x), some (jI (-1)), none, none] [jO x, jO (x + 339)] 0 0 (M0, w.2) _
    refine ⟨rfl, ?_⟩
    refine jWp.getR (pc' := 31) (o := (x + 7)) mt rfl rfl (jtg hX.X0) hX.R6 ?_
    show jWp 108 31 [some (jO x), some (jI (-1)), none, none] [jO (x + 7), jO (x + 339)] 0 0 (M0, w.2) _
    refine jWp.blk mt 1 ?_
    show _ ∧ jWp 108 32 [some (jO x), some (jI (-1)), none, none] [jO x, jO (x + 7), jO (x + 339)] 0 0 (M0, w.2) _
    refine ⟨rfl, ?_⟩
    refine jWp.getR (pc' := 35) (o := (x + 9)) mt rfl rfl (jtg hX.X0) hX.R7 ?_
    show jWp 108 35 [some (jO x), some (jI (-1)), none, none] [jO (x + 9), jO (x + 7), jO (x + 339)] 0 0 (M0, w.2) _
    refine jWp.callv (as := [jO (x + 339), jO (x + 7), jO (x + 9)]) (rest := []) mt rfl rfl rfl ⟨rfl, jtg hX.X339⟩ ?_
    refine jCall.mono (C_impossible (w := (M0, w.2)) (t := x + 339) (tl := x + 340) (F := F) (τ := τ) hX.X339 hX.X340 hX.Rl ((congrFun (hf0 (x + 339) (by omega)) 0).trans hF) hF72 ((hf0 (x + 340) (by omega)).trans hτ) hL (s := x + 7) (sc := x + 8) (e := x + 9) (f1 := x + 10) (f2 := x + 11) (n := n) (q0 := q) hX.X7 hX.X8 hX.Rt hn0' hX.X9 hX.Ru hX.Rd hX.X10 hX.X11 (by omega) hQ (cR_F hR0) hz) (fun v9 w9 h9 => ?_)
    obtain ⟨hbf, hi1, hi2⟩ := h9
    obtain ⟨M1, G9⟩ := w9
    have hg : G9 = w.2 := hbf.1
    subst hg
    have hf1 : ∀ b, (b < x + 7 ∨ x + 12 ≤ b) → M1 b = w.1 b := fun b hb => (hbf.2 b (by omega) (by omega) (by omega) (by omega)).trans (hf0 b hb)
    rcases hzz : (zw2 τ F 73 0 q) with q' | b
    · obtain ⟨rfl, n', hQ', hn', hR'⟩ := hi2 q' hzz
      show jWp 108 38 [some (jO x), some (jI (-1)), none, none] [jI (-1)] 0 0 (M1, w.2) _
      refine jWp.blk mt 3 ?_
      show _ ∧ jWp 108 44 [some (jO x), some (jI (-1)), some (jI (-1)), none] [jO x] 0 0 (M1, w.2) _
      refine ⟨rfl, ?_⟩
      refine jWp.getR (pc' := 47) (o := (x + 339)) mt rfl rfl (jtg hX.X0) hX.R9 ?_
      show jWp 108 47 [some (jO x), some (jI (-1)), some (jI (-1)), none] [jO (x + 339)] 0 0 (M1, w.2) _
      refine jWp.callv (as := [jO (x + 339)]) (rest := []) mt rfl rfl rfl ⟨rfl, jtg hX.X339⟩ ?_
      refine jCall.mono (C_statements (w := (M1, w.2)) (t := x + 339) (tl := x + 340) (F := F) (τ := τ) hX.X339 hX.X340 hX.Rl ((congrFun (hf1 (x + 339) (by omega)) 0).trans hF) hF72 ((hf1 (x + 340) (by omega)).trans hτ) hL) (fun v9 w9 h9 => ?_)
      obtain ⟨rfl, h9⟩ := h9
      subst w9
      show jWp 108 50 [some (jO x), some (jI (-1)), some (jI (-1)), none] [jI (zct τ F)] 0 0 (M1, w.2) _
      refine jWp.blk mt 2 ?_
      show _ ∧ jWp 108 52 [some (jO x), some (jI (-1)), some (jI (-1)), some (jI (zct τ F))] [jO x] 0 0 (M1, w.2) _
      refine ⟨rfl, ?_⟩
      refine jWp.getR (pc' := 55) (o := (x + 339)) mt rfl rfl (jtg hX.X0) hX.R9 ?_
      show jWp 108 55 [some (jO x), some (jI (-1)), some (jI (-1)), some (jI (zct τ F))] [jO (x + 339)] 0 0 (M1, w.2) _
      refine jWp.callv (as := [jO (x + 339)]) (rest := []) mt rfl rfl rfl ⟨rfl, jtg hX.X339⟩ ?_
      refine jCall.mono (C_tforget (w := (M1, w.2)) (t := x + 339) hX.X339) (fun v9 w9 h9 => ?_)
      obtain ⟨rfl, hw9⟩ := h9
      subst hw9
      show jWp 108 58 [some (jO x), some (jI (-1)), some (jI (-1)), some (jI (zct τ F))] [] 0 0 (jW (M1, w.2) (x + 339) 0 0) _
      refine jWp.blk mt 1 ?_
      show jWp 108 59 [some (jO x), some (jI (-1)), some (jI (-1)), some (jI (zct τ F))] [jI (-1)] 0 0 (jW (M1, w.2) (x + 339) 0 0) _
      refine jWp.ifc (b := true) mt rfl (by decide) rfl ?_
      show jWp 108 68 [some (jO x), some (jI (-1)), some (jI (-1)), some (jI (zct τ F))] [] 0 0 (jW (M1, w.2) (x + 339) 0 0) _
      refine jWp.blk mt 1 ?_
      show jWp 108 69 [some (jO x), some (jI (-1)), some (jI (-1)), some (jI (zct τ F))] [jI (-1)] 0 0 (jW (M1, w.2) (x + 339) 0 0) _
      refine jWp.ifc (b := true) mt rfl (by decide) rfl ?_
      show jWp 108 78 [some (jO x), some (jI (-1)), some (jI (-1)), some (jI (zct τ F))] [] 0 0 (jW (M1, w.2) (x + 339) 0 0) _
      refine jWp.blk mt 1 ?_
      show _ ∧ jWp 108 79 [some (jO x), some (jI (-1)), some (jI (-1)), some (jI (zct τ F))] [jO x] 0 0 (jW (M1, w.2) (x + 339) 0 0) _
      refine ⟨rfl, ?_⟩
      refine jWp.getR (pc' := 82) (o := (x + 341)) mt rfl rfl (jtg hX.X0) hX.R10 ?_
      show jWp 108 82 [some (jO x), some (jI (-1)), some (jI (-1)), some (jI (zct τ F))] [jO (x + 341)] 0 0 (jW (M1, w.2) (x + 339) 0 0) _
      refine jWp.blk mt 1 ?_
      show _ ∧ jWp 108 83 [some (jO x), some (jI (-1)), some (jI (-1)), some (jI (zct τ F))] [jO x, jO (x + 341)] 0 0 (jW (M1, w.2) (x + 339) 0 0) _
      refine ⟨rfl, ?_⟩
      refine jWp.getR (pc' := 86) (o := (x + 3)) mt rfl rfl (jtg hX.X0) hX.R4 ?_
      show jWp 108 86 [some (jO x), some (jI (-1)), some (jI (-1)), some (jI (zct τ F))] [jO (x + 3), jO (x + 341)] 0 0 (jW (M1, w.2) (x + 339) 0 0) _
      refine jWp.callv (as := [jO (x + 341), jO (x + 3)]) (rest := []) mt rfl rfl rfl ⟨rfl, jtg hX.XP.1⟩ ?_
      refine jCall.mono (C_pkeep (w := (jW (M1, w.2) (x + 339) 0 0)) (pa := x + 341) hX.XP (s := x + 3) (sc := x + 4) hX.X3 hX.X4 hX.Rc (u := u) ((jW_a (by omega)).trans ((congrFun (hf1 (x + 341) (by omega)) 0).trans hu)) hu8 (by omega) (by omega) (fun y hy => by omega) (fun y hy => by omega)) (fun v9 w9 h9 => ?_)
      obtain ⟨rfl, hg3, hf3, hp3⟩ := h9
      obtain ⟨M3, G9⟩ := w9
      have hg : G9 = w.2 := hg3
      subst hg
      have hf03 : ∀ b, b ≠ x + 339 → (b < x + 7 ∨ x + 12 ≤ b) → (b < x + 341 ∨ x + 359 ≤ b) → M3 b = w.1 b := fun b h1 hb h2 => (hf3 b (by omega) (fun y hy => by omega)).trans ((jW_f h1).trans (hf1 b hb))
      have h39 : M3 (x + 339) 0 = 0 := (congrFun (hf3 (x + 339) (by omega) (fun y hy => by omega)) 0).trans jW_s
      have hp3' : cpst (jW (M1, w.2) (x + 339) 0 0) x u ((M3, w.2) : jS) := hp3
      have hn3 : M3 (x + 7) 0 = ((n' : Nat) : Int) := (congrFun ((hf3 (x + 7) (by omega) (fun y hy => by omega)).trans (jW_f (by omega))) 0).trans hn'
      have e38 : M3 (x + 8) = M1 (x + 8) := (hf3 (x + 8) (by omega) (fun y hy => by omega)).trans (jW_f (by omega))
      have hcr3 : cR False (M3 (x + 8)) q' n' := by rw [e38]; exact hR'
      show jWp 108 89 [some (jO x), some (jI (-1)), some (jI (-1)), some (jI (zct τ F))] [] 0 0 (M3, w.2) _
      refine jWp.blk mt 1 ?_
      show _ ∧ jWp 108 90 [some (jO x), some (jI (-1)), some (jI (-1)), some (jI (zct τ F))] [jO x] 0 0 (M3, w.2) _
      refine ⟨rfl, ?_⟩
      refine jWp.getR (pc' := 93) (o := (x + 3)) mt rfl rfl (jtg hX.X0) hX.R4 ?_
      show jWp 108 93 [some (jO x), some (jI (-1)), some (jI (-1)), some (jI (zct τ F))] [jO (x + 3)] 0 0 (M3, w.2) _
      refine jWp.blk mt 1 ?_
      show _ ∧ jWp 108 94 [some (jO x), some (jI (-1)), some (jI (-1)), some (jI (zct τ F))] [jO x, jO (x + 3)] 0 0 (M3, w.2) _
      refine ⟨rfl, ?_⟩
      refine jWp.getR (pc' := 97) (o := (x + 7)) mt rfl rfl (jtg hX.X0) hX.R6 ?_
      show jWp 108 97 [some (jO x), some (jI (-1)), some (jI (-1)), some (jI (zct τ F))] [jO (x + 7), jO (x + 3)] 0 0 (M3, w.2) _
      refine jWp.callv (as := [jO (x + 3), jO (x + 7)]) (rest := []) mt rfl rfl rfl ⟨rfl, jtg hX.X3⟩ ?_
      refine jCall.mono (C_become (w := (M3, w.2)) (s := x + 3) (sc := x + 4) hX.X3 hX.X4 hX.Rc (s2 := x + 7) (sc2 := x + 8) hX.X7 hX.X8 hX.Rt hn3) (fun v9 w9 h9 => ?_)
      obtain ⟨rfl, hbf, hn4', hc4⟩ := h9
      obtain ⟨M4, G9⟩ := w9
      have hg : G9 = w.2 := hbf.1
      subst hg
      have hf4 := hbf.2
      have hcr4 : cR False (M4 (x + 4)) q' n' := cR_C hc4 hcr3
      show jWp 108 100 [some (jO x), some (jI (-1)), some (jI (-1)), some (jI (zct τ F))] [] 0 0 (M4, w.2) _
      refine jWp.blk mt 1 ?_
      show jWp 108 101 [some (jO x), some (jI (-1)), some (jI (-1)), some (jI (zct τ F))] [jI (zct τ F)] 0 0 (M4, w.2) _
      refine jWp.ireti mt rfl ⟨rfl, rfl⟩ rfl ?_
      refine ⟨fun z => absurd z (by omega), fun _ => ⟨fun b' hb' => ?_, fun q9 hq9 => ?_⟩⟩
      · cases hb'
      · cases hq9
        have e : (zw1 τ F 73 0 0) = zct τ F := by
          have e1 := zw1_c (τ := τ) (F := F) 73 0 0 (by omega) (by omega) hz
          have e2 : zct τ 0 = 0 := rfl
          omega
        refine ⟨by rw [e], rfl, fun b g1 g2 g3 g4 g5 => (hf4 b g1 g2).trans (hf03 b g3 g4 g5), (congrFun (hf4 (x + 339) (by omega) (by omega)) 0).trans h39, ⟨n', hQ', hn4', hcr4⟩, cpst_k hp3' (fun b hb => (jW_f (by omega)).trans (hf1 b (by omega))) (fun b hb => hf4 b (by omega) (by omega)) hu8⟩
    · obtain rfl := hi1 b hzz
      have hb9 := zw2_b 73 0 q b hzz
      show jWp 108 38 [some (jO x), some (jI (-1)), none, none] [jI (b : Int)] 0 0 (M1, w.2) _
      refine jWp.blk mt 3 ?_
      show _ ∧ jWp 108 44 [some (jO x), some (jI (-1)), some (jI (b : Int)), none] [jO x] 0 0 (M1, w.2) _
      refine ⟨rfl, ?_⟩
      refine jWp.getR (pc' := 47) (o := (x + 339)) mt rfl rfl (jtg hX.X0) hX.R9 ?_
      show jWp 108 47 [some (jO x), some (jI (-1)), some (jI (b : Int)), none] [jO (x + 339)] 0 0 (M1, w.2) _
      refine jWp.callv (as := [jO (x + 339)]) (rest := []) mt rfl rfl rfl ⟨rfl, jtg hX.X339⟩ ?_
      refine jCall.mono (C_statements (w := (M1, w.2)) (t := x + 339) (tl := x + 340) (F := F) (τ := τ) hX.X339 hX.X340 hX.Rl ((congrFun (hf1 (x + 339) (by omega)) 0).trans hF) hF72 ((hf1 (x + 340) (by omega)).trans hτ) hL) (fun v9 w9 h9 => ?_)
      obtain ⟨rfl, h9⟩ := h9
      subst w9
      show jWp 108 50 [some (jO x), some (jI (-1)), some (jI (b : Int)), none] [jI (zct τ F)] 0 0 (M1, w.2) _
      refine jWp.blk mt 2 ?_
      show _ ∧ jWp 108 52 [some (jO x), some (jI (-1)), some (jI (b : Int)), some (jI (zct τ F))] [jO x] 0 0 (M1, w.2) _
      refine ⟨rfl, ?_⟩
      refine jWp.getR (pc' := 55) (o := (x + 339)) mt rfl rfl (jtg hX.X0) hX.R9 ?_
      show jWp 108 55 [some (jO x), some (jI (-1)), some (jI (b : Int)), some (jI (zct τ F))] [jO (x + 339)] 0 0 (M1, w.2) _
      refine jWp.callv (as := [jO (x + 339)]) (rest := []) mt rfl rfl rfl ⟨rfl, jtg hX.X339⟩ ?_
      refine jCall.mono (C_tforget (w := (M1, w.2)) (t := x + 339) hX.X339) (fun v9 w9 h9 => ?_)
      obtain ⟨rfl, hw9⟩ := h9
      subst hw9
      show jWp 108 58 [some (jO x), some (jI (-1)), some (jI (b : Int)), some (jI (zct τ F))] [] 0 0 (jW (M1, w.2) (x + 339) 0 0) _
      refine jWp.blk mt 1 ?_
      show jWp 108 59 [some (jO x), some (jI (-1)), some (jI (b : Int)), some (jI (zct τ F))] [jI (-1)] 0 0 (jW (M1, w.2) (x + 339) 0 0) _
      refine jWp.ifc (b := true) mt rfl (by decide) rfl ?_
      show jWp 108 68 [some (jO x), some (jI (-1)), some (jI (b : Int)), some (jI (zct τ F))] [] 0 0 (jW (M1, w.2) (x + 339) 0 0) _
      refine jWp.blk mt 1 ?_
      show jWp 108 69 [some (jO x), some (jI (-1)), some (jI (b : Int)), some (jI (zct τ F))] [jI (b : Int)] 0 0 (jW (M1, w.2) (x + 339) 0 0) _
      refine jWp.ifz (pc' := 72) mt rfl rfl (b32_id (by omega) (by omega)) (fun h3 => ?_) (fun h3 => ?_)
      · have h3 : (b : Int) < 0 := h3
        exfalso; omega
      · have h3 : 0 ≤ (b : Int) := h3
        refine jWp.blk mt 3 ?_
        show jWp 108 77 [some (jO x), some (jI (-1)), some (jI (b : Int)), some (jI (zct τ F))] [jI ((-2000) - (b : Int))] 0 0 (jW (M1, w.2) (x + 339) 0 0) _
        refine jWp.ireti mt rfl ⟨rfl, rfl⟩ rfl ?_
        refine ⟨fun z => absurd z (by omega), fun _ => ⟨fun b' hb' => ?_, fun q9 hq9 => ?_⟩⟩
        · cases hb'
          exact ⟨rfl, (M1, w.2), cq_f hf1, rfl⟩
        · cases hq9
end
