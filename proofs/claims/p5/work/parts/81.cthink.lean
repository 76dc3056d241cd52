theorem cq_f {w : jS} {x : Nat} {M : Nat → Nat → Int} (h : ∀ b, (b < x + 7 ∨ x + 12 ≤ b) → M b = w.1 b) : cq w x (M, w.2) := ⟨rfl, fun b hb _ _ => h b (by omega)⟩
set_option maxHeartbeats 4000000 in
set_option maxRecDepth 20000 in
theorem C_ring {w : jS} {x : Nat} (hX : CW w.2 x) {n : Nat} {q : Nat → Int} {g : Prop} (hQ : zQ q n) (hn0 : w.1 (x + 3) 0 = (n : Int)) (hRR : cR g (w.1 (x + 4)) q n) {i j : Int} (hri : r32 i) (hrj : r32 j) : jCall 112 [jO x, jI i, jI j] w (fun v w1 => ((¬ (0 ≤ i ∧ i < (n : Int)) ∨ ¬ (0 ≤ j ∧ j < (n : Int)) ∨ i = j) → cno w x 0 (jI (-1)) v w1) ∧ (¬ (¬ (0 ≤ i ∧ i < (n : Int)) ∨ ¬ (0 ≤ j ∧ j < (n : Int)) ∨ i = j) → v = some (jI (zrF q n i.toNat j.toNat 20 1 q)) ∧ cq w x w1)) := by
  have mt : jtb 112 = jT112 := rfl
  have hn2 := hQ.S.n2
  have hn4 := hQ.S.n4
  have hri1 : -2147483648 ≤ i ∧ i < 2147483648 := hri
  have hrj1 : -2147483648 ≤ j ∧ j < 2147483648 := hrj
  show jWp 112 0 [some (jO x), some (jI i), some (jI j), none] [] 0 0 w _
  refine jWp.blk mt 1 ?_
  show _ ∧ jWp 112 1 [some (jO x), some (jI i), some (jI j), none] [jO x] 0 0 w _
  refine ⟨rfl, ?_⟩
  refine jWp.getR (pc' := 4) (o := (x + 3)) mt rfl rfl (jtg hX.X0) hX.R4 ?_
  show jWp 112 4 [some (jO x), some (jI i), some (jI j), none] [jO (x + 3)] 0 0 w _
  refine jWp.blk mt 1 ?_
  show jWp 112 5 [some (jO x), some (jI i), some (jI j), none] [jI i, jO (x + 3)] 0 0 w _
  refine jWp.callv (as := [jO (x + 3), jI i]) (rest := []) mt rfl rfl rfl ⟨rfl, jtg hX.X3⟩ ?_
  refine jCall.mono (E_has (w := w) (s := x + 3) (n := n) hX.X3 hn0 hn4 hri) (fun v9 w9 h9 => ?_)
  rcases h9 with ⟨rfl, h9, h1⟩ | ⟨rfl, h9, h1⟩ <;> subst w9
  · have h1 : 0 ≤ i ∧ i < (n : Int) := h1
    show jWp 112 8 [some (jO x), some (jI i), some (jI j), none] [jI 1] 0 0 w _
    obtain ⟨i1, rfl⟩ : ∃ i1 : Nat, i = (i1 : Int) := ⟨i.toNat, by omega⟩
    show jWp 112 8 [some (jO x), some (jI (i1 : Int)), some (jI j), none] [jI 1] 0 0 w _
    refine jWp.ifc (b := false) mt rfl (by decide) rfl ?_
    show jWp 112 11 [some (jO x), some (jI (i1 : Int)), some (jI j), none] [] 0 0 w _
    refine jWp.blk mt 1 ?_
    show _ ∧ jWp 112 12 [some (jO x), some (jI (i1 : Int)), some (jI j), none] [jO x] 0 0 w _
    refine ⟨rfl, ?_⟩
    refine jWp.getR (pc' := 15) (o := (x + 3)) mt rfl rfl (jtg hX.X0) hX.R4 ?_
    show jWp 112 15 [some (jO x), some (jI (i1 : Int)), some (jI j), none] [jO (x + 3)] 0 0 w _
    refine jWp.blk mt 1 ?_
    show jWp 112 16 [some (jO x), some (jI (i1 : Int)), some (jI j), none] [jI j, jO (x + 3)] 0 0 w _
    refine jWp.callv (as := [jO (x + 3), jI j]) (rest := []) mt rfl rfl rfl ⟨rfl, jtg hX.X3⟩ ?_
    refine jCall.mono (E_has (w := w) (s := x + 3) (n := n) hX.X3 hn0 hn4 hrj) (fun v9 w9 h9 => ?_)
    rcases h9 with ⟨rfl, h9, h2⟩ | ⟨rfl, h9, h2⟩ <;> subst w9
    · have h2 : 0 ≤ j ∧ j < (n : Int) := h2
      show jWp 112 19 [some (jO x), some (jI (i1 : Int)), some (jI j), none] [jI 1] 0 0 w _
      obtain ⟨j1, rfl⟩ : ∃ j1 : Nat, j = (j1 : Int) := ⟨j.toNat, by omega⟩
      show jWp 112 19 [some (jO x), some (jI (i1 : Int)), some (jI (j1 : Int)), none] [jI 1] 0 0 w _
      refine jWp.ifc (b := false) mt rfl (by decide) rfl ?_
      show jWp 112 22 [some (jO x), some (jI (i1 : Int)), some (jI (j1 : Int)), none] [] 0 0 w _
      refine jWp.blk mt 2 ?_
      show jWp 112 24 [some (jO x), some (jI (i1 : Int)), some (jI (j1 : Int)), none] [jI (j1 : Int), jI (i1 : Int)] 0 0 w _
      refine jWp.icmp (pc' := 27) mt rfl rfl (b32_id (by omega) (by omega)) (b32_id (by omega) (by omega)) (fun h3 => ?_) (fun h3 => ?_)
      · have h3 : (i1 : Int) ≠ (j1 : Int) := h3
        refine jWp.blk mt 1 ?_
        show _ ∧ jWp 112 34 [some (jO x), some (jI (i1 : Int)), some (jI (j1 : Int)), none] [jO x] 0 0 w _
        refine ⟨rfl, ?_⟩
        refine jWp.getR (pc' := 37) (o := (x + 7)) mt rfl rfl (jtg hX.X0) hX.R6 ?_
        show jWp 112 37 [some (jO x), some (jI (i1 : Int)), some (jI (j1 : Int)), none] [jO (x + 7)] 0 0 w _
        refine jWp.blk mt 1 ?_
        show _ ∧ jWp 112 38 [some (jO x), some (jI (i1 : Int)), some (jI (j1 : Int)), none] [jO x, jO (x + 7)] 0 0 w _
        refine ⟨rfl, ?_⟩
        refine jWp.getR (pc' := 41) (o := (x + 3)) mt rfl rfl (jtg hX.X0) hX.R4 ?_
        show jWp 112 41 [some (jO x), some (jI (i1 : Int)), some (jI (j1 : Int)), none] [jO (x + 3), jO (x + 7)] 0 0 w _
        refine jWp.callv (as := [jO (x + 7), jO (x + 3)]) (rest := []) mt rfl rfl rfl ⟨rfl, jtg hX.X7⟩ ?_
        refine jCall.mono (C_become (w := w) (s := x + 7) (sc := x + 8) hX.X7 hX.X8 hX.Rt (s2 := x + 3) (sc2 := x + 4) hX.X3 hX.X4 hX.Rc hn0) (fun v9 w9 h9 => ?_)
        obtain ⟨rfl, hbf, hn0', hc0⟩ := h9
        obtain ⟨M0, G9⟩ := w9
        have hg : G9 = w.2 := hbf.1
        subst hg
        have hf0 : ∀ b, (b < x + 7 ∨ x + 12 ≤ b) → M0 b = w.1 b := fun b hb => hbf.2 b (by omega) (by omega)
        have hR0 : cR g (M0 (x + 8)) q n := cR_C hc0 hRR
        show jWp 112 44 [some (jO x), some (jI (i1 : Int)), some (jI (j1 : Int)), none] [] 0 0 (M0, w.2) _
        refine jWp.blk mt 2 ?_
        show jWp 112 46 [some (jO x), some (jI (i1 : Int)), some (jI (j1 : Int)), some (jI 1)] [] 0 0 (M0, w.2) _
        have lp4 : ∀ (N : Nat) (t : Nat) (S : Nat → Int) (M1 : Nat → Nat → Int) (ht : 1 ≤ t ∧ t ≤ 21) (hf1 : ∀ b, (b < x + 7 ∨ x + 12 ≤ b) → M1 b = w.1 b) (hn1 : M1 (x + 7) 0 = (n : Int)) (hR1 : cR False (M1 (x + 8)) S n) (hQ1 : zQ S n) (hr : zrF q n i1 j1 (21 - t) t S = zrF q n i1 j1 20 1 q), 21 - t < N → jWp 112 46 [some (jO x), some (jI (i1 : Int)), some (jI (j1 : Int)), some (jI (t : Int))] [] 0 0 (M1, w.2) (fun v w1 => ((¬ (0 ≤ (i1 : Int) ∧ (i1 : Int) < (n : Int)) ∨ ¬ (0 ≤ (j1 : Int) ∧ (j1 : Int) < (n : Int)) ∨ (i1 : Int) = (j1 : Int)) → cno w x 0 (jI (-1)) v w1) ∧ (¬ (¬ (0 ≤ (i1 : Int) ∧ (i1 : Int) < (n : Int)) ∨ ¬ (0 ≤ (j1 : Int) ∧ (j1 : Int) < (n : Int)) ∨ (i1 : Int) = (j1 : Int)) → v = some (jI (zrF q n (i1 : Int).toNat (j1 : Int).toNat 20 1 q)) ∧ cq w x w1)) := by
          intro N
          induction N with
          | zero => intro t S M1 ht hf1 hn1 hR1 hQ1 hr hm; omega
          | succ N ih5 =>
            intro t S M1 ht hf1 hn1 hR1 hQ1 hr hm
            have htm : Int.tmod (t : Int) 2 = ((t % 2 : Nat) : Int) := rfl
            refine jWp.blk mt 2 ?_
            show jWp 112 49 [some (jO x), some (jI (i1 : Int)), some (jI (j1 : Int)), some (jI (t : Int))] [jI 20, jI (t : Int)] 0 0 (M1, w.2) _
            refine jWp.icmp (pc' := 52) mt rfl rfl (b32_id (by omega) (by omega)) (show b32 20 = 20 by decide) (fun h6 => ?_) (fun h6 => ?_)
            · have h6 : 20 < (t : Int) := h6
              refine jWp.blk mt 1 ?_
              show jWp 112 105 [some (jO x), some (jI (i1 : Int)), some (jI (j1 : Int)), some (jI (t : Int))] [jI (-9)] 0 0 (M1, w.2) _
              refine jWp.ireti mt rfl ⟨rfl, rfl⟩ rfl ?_
              try rw [show ((i1 : Nat) : Int).toNat = i1 from rfl, show ((j1 : Nat) : Int).toNat = j1 from rfl]
              refine ⟨fun c0 => ?_, fun c0 => ?_⟩
              all_goals first
              | (exfalso; omega)
              | exact ⟨rfl, rfl⟩
              | exact ⟨by rw [← hr, show 21 - t = 0 by omega]; rfl, cq_f hf1⟩
            · have h6 : (t : Int) ≤ 20 := h6
              refine jWp.blk mt 1 ?_
              show _ ∧ jWp 112 53 [some (jO x), some (jI (i1 : Int)), some (jI (j1 : Int)), some (jI (t : Int))] [jO x] 0 0 (M1, w.2) _
              refine ⟨rfl, ?_⟩
              refine jWp.getR (pc' := 56) (o := (x + 9)) mt rfl rfl (jtg hX.X0) hX.R7 ?_
              show jWp 112 56 [some (jO x), some (jI (i1 : Int)), some (jI (j1 : Int)), some (jI (t : Int))] [jO (x + 9)] 0 0 (M1, w.2) _
              refine jWp.blk mt 1 ?_
              show _ ∧ jWp 112 57 [some (jO x), some (jI (i1 : Int)), some (jI (j1 : Int)), some (jI (t : Int))] [jO x, jO (x + 9)] 0 0 (M1, w.2) _
              refine ⟨rfl, ?_⟩
              refine jWp.getR (pc' := 60) (o := (x + 7)) mt rfl rfl (jtg hX.X0) hX.R6 ?_
              show jWp 112 60 [some (jO x), some (jI (i1 : Int)), some (jI (j1 : Int)), some (jI (t : Int))] [jO (x + 7), jO (x + 9)] 0 0 (M1, w.2) _
              refine jWp.blk mt 2 ?_
              show jWp 112 62 [some (jO x), some (jI (i1 : Int)), some (jI (j1 : Int)), some (jI (t : Int))] [jI 2, jI (t : Int), jO (x + 7), jO (x + 9)] 0 0 (M1, w.2) _
              refine jWp.irem (pc' := 63) mt rfl rfl (b32_id (by omega) (by omega)) (show b32 2 = 2 by decide) (by decide) ?_
              show jWp 112 63 [some (jO x), some (jI (i1 : Int)), some (jI (j1 : Int)), some (jI (t : Int))] [jI (Int.tmod (t : Int) 2), jO (x + 7), jO (x + 9)] 0 0 (M1, w.2) _
              refine jWp.blk mt 1 ?_
              show jWp 112 64 [some (jO x), some (jI (i1 : Int)), some (jI (j1 : Int)), some (jI (t : Int))] [jI 1, jI (Int.tmod (t : Int) 2), jO (x + 7), jO (x + 9)] 0 0 (M1, w.2) _
              refine jWp.icmp (pc' := 67) mt rfl rfl (b32_id (by omega) (by omega)) (show b32 1 = 1 by decide) (fun h7 => ?_) (fun h7 => ?_)
              · have h7 : (Int.tmod (t : Int) 2) ≠ 1 := h7
                refine jWp.blk mt 1 ?_
                show jWp 112 72 [some (jO x), some (jI (i1 : Int)), some (jI (j1 : Int)), some (jI (t : Int))] [jI (j1 : Int), jO (x + 7), jO (x + 9)] 0 0 (M1, w.2) _
                refine jWp.callv (as := [jO (x + 9), jO (x + 7), jI (j1 : Int)]) (rest := []) mt rfl rfl rfl ⟨rfl, jtg hX.X9⟩ ?_
                refine jCall.mono (C_make (w := (M1, w.2)) (s := x + 7) (sc := x + 8) (e := x + 9) (f1 := x + 10) (f2 := x + 11) (n := n) (k := j1) (q := S) (g := False) (G := zNo) hX.X7 hX.X8 hX.Rt hn1 hn4 hX.X9 hX.Ru hX.Rd hX.X10 hX.X11 (by omega) zG_no (fun z => z.elim) hQ1 hR1 (by omega)) (fun v9 w9 h9 => ?_)
                obtain ⟨hbf, hh⟩ := h9
                obtain ⟨M2, G9⟩ := w9
                have hg : G9 = w.2 := hbf.1
                subst hg
                have hf2' := hbf.2
                have hn2' : M2 (x + 7) 0 = (n : Int) := (congrFun (hf2' (x + 7) (by omega) (by omega) (by omega)) 0).trans hn1
                have hf2 : ∀ b, (b < x + 7 ∨ x + 12 ≤ b) → M2 b = w.1 b := fun b hb => (hf2' b (by omega) (by omega) (by omega)).trans (hf1 b hb)
                rcases hh with ⟨rfl, hcan, hcr⟩ | ⟨rfl, hcan, hcr⟩
                · have hcr : cR False (M2 (x + 8)) (zxF S n j1) n := hcr
                  have hQ2 : zQ (zxF S n j1) n := zQ_x hQ1 (by omega) hcan
                  show jWp 112 75 [some (jO x), some (jI (i1 : Int)), some (jI (j1 : Int)), some (jI (t : Int))] [jI 1] 0 0 (M2, w.2) _
                  refine jWp.ifc (b := true) mt rfl (by decide) rfl ?_
                  show jWp 112 81 [some (jO x), some (jI (i1 : Int)), some (jI (j1 : Int)), some (jI (t : Int))] [] 0 0 (M2, w.2) _
                  refine jWp.blk mt 1 ?_
                  show _ ∧ jWp 112 82 [some (jO x), some (jI (i1 : Int)), some (jI (j1 : Int)), some (jI (t : Int))] [jO x] 0 0 (M2, w.2) _
                  refine ⟨rfl, ?_⟩
                  refine jWp.getR (pc' := 85) (o := (x + 7)) mt rfl rfl (jtg hX.X0) hX.R6 ?_
                  show jWp 112 85 [some (jO x), some (jI (i1 : Int)), some (jI (j1 : Int)), some (jI (t : Int))] [jO (x + 7)] 0 0 (M2, w.2) _
                  refine jWp.blk mt 1 ?_
                  show _ ∧ jWp 112 86 [some (jO x), some (jI (i1 : Int)), some (jI (j1 : Int)), some (jI (t : Int))] [jO x, jO (x + 7)] 0 0 (M2, w.2) _
                  refine ⟨rfl, ?_⟩
                  refine jWp.getR (pc' := 89) (o := (x + 3)) mt rfl rfl (jtg hX.X0) hX.R4 ?_
                  show jWp 112 89 [some (jO x), some (jI (i1 : Int)), some (jI (j1 : Int)), some (jI (t : Int))] [jO (x + 3), jO (x + 7)] 0 0 (M2, w.2) _
                  refine jWp.callv (as := [jO (x + 7), jO (x + 3)]) (rest := []) mt rfl rfl rfl ⟨rfl, jtg hX.X7⟩ ?_
                  refine jCall.mono (C_same (w := (M2, w.2)) (s := x + 7) (sc := x + 8) (n := n) (q := zxF S n j1) hX.X7 hX.X8 hX.Rt hn2' hn4 hQ2 hcr.1 (s2 := x + 3) (sc2 := x + 4) (p := q) hX.X3 hX.X4 hX.Rc ((congrFun (hf2 (x + 3) (by omega)) 0).trans hn0) hQ (fun j hj => (congrFun (hf2 (x + 4) (by omega)) j).trans (hRR.1 j hj))) (fun v9 w9 h9 => ?_)
                  rcases h9 with ⟨rfl, h9, h8⟩ | ⟨rfl, h9, h8⟩ <;> subst w9
                  · have h8 : zsame (zxF S n j1) q n := h8
                    show jWp 112 92 [some (jO x), some (jI (i1 : Int)), some (jI (j1 : Int)), some (jI (t : Int))] [jI 1] 0 0 (M2, w.2) _
                    refine jWp.ifc (b := false) mt rfl (by decide) rfl ?_
                    show jWp 112 95 [some (jO x), some (jI (i1 : Int)), some (jI (j1 : Int)), some (jI (t : Int))] [] 0 0 (M2, w.2) _
                    refine jWp.blk mt 1 ?_
                    show jWp 112 96 [some (jO x), some (jI (i1 : Int)), some (jI (j1 : Int)), some (jI (t : Int))] [jI (t : Int)] 0 0 (M2, w.2) _
                    refine jWp.ireti mt rfl ⟨rfl, rfl⟩ rfl ?_
                    try rw [show ((i1 : Nat) : Int).toNat = i1 from rfl, show ((j1 : Nat) : Int).toNat = j1 from rfl]
                    refine ⟨fun c0 => ?_, fun c0 => ?_⟩
                    all_goals first
                    | (exfalso; omega)
                    | exact ⟨rfl, rfl⟩
                    | exact ⟨by rw [← hr, show 21 - t = (20 - t) + 1 by omega, zrF_yes (by first | (rw [if_pos (by omega)]; done) | (rw [if_neg (by omega)]; done)) hcan (zsame_s (by assumption))], cq_f hf2⟩
                  · have h8 : ¬ (zsame (zxF S n j1) q n) := h8
                    show jWp 112 92 [some (jO x), some (jI (i1 : Int)), some (jI (j1 : Int)), some (jI (t : Int))] [jI 0] 0 0 (M2, w.2) _
                    refine jWp.ifc (b := true) mt rfl (by decide) rfl ?_
                    show jWp 112 97 [some (jO x), some (jI (i1 : Int)), some (jI (j1 : Int)), some (jI (t : Int))] [] 0 0 (M2, w.2) _
                    refine jWp.blk mt 2 ?_
                    show jWp 112 46 [some (jO x), some (jI (i1 : Int)), some (jI (j1 : Int)), some (jI ((t : Int) + 1))] [] 0 0 (M2, w.2) _
                    refine jWp.le (l := [some (jO x), some (jI (i1 : Int)), some (jI (j1 : Int)), some (jI ((t : Int) + 1))]) (by exact ⟨rfl, rfl, rfl, rfl, trivial⟩) ?_
                    exact ih5 (t + 1) (zxF S n j1) M2 (by omega) hf2 hn2' hcr hQ2 (by rw [← hr, show 21 - t = (21 - (t + 1)) + 1 by omega, zrF_go (by first | (rw [if_pos (by omega)]; done) | (rw [if_neg (by omega)]; done)) hcan (fun g => absurd (zsame_s g) (by assumption))]) (by omega)
                · have hcr' := hcr
                  show jWp 112 75 [some (jO x), some (jI (i1 : Int)), some (jI (j1 : Int)), some (jI (t : Int))] [jI 0] 0 0 (M2, w.2) _
                  refine jWp.ifc (b := false) mt rfl (by decide) rfl ?_
                  show jWp 112 78 [some (jO x), some (jI (i1 : Int)), some (jI (j1 : Int)), some (jI (t : Int))] [] 0 0 (M2, w.2) _
                  refine jWp.blk mt 1 ?_
                  show jWp 112 80 [some (jO x), some (jI (i1 : Int)), some (jI (j1 : Int)), some (jI (t : Int))] [jI (-9)] 0 0 (M2, w.2) _
                  refine jWp.ireti mt rfl ⟨rfl, rfl⟩ rfl ?_
                  try rw [show ((i1 : Nat) : Int).toNat = i1 from rfl, show ((j1 : Nat) : Int).toNat = j1 from rfl]
                  refine ⟨fun c0 => ?_, fun c0 => ?_⟩
                  all_goals first
                  | (exfalso; omega)
                  | exact ⟨rfl, rfl⟩
                  | exact ⟨by rw [← hr, show 21 - t = (20 - t) + 1 by omega, zrF_no (by first | (rw [if_pos (by omega)]; done) | (rw [if_neg (by omega)]; done)) hcan], cq_f hf2⟩
              · have h7 : (Int.tmod (t : Int) 2) = 1 := h7
                refine jWp.blk mt 2 ?_
                show jWp 112 72 [some (jO x), some (jI (i1 : Int)), some (jI (j1 : Int)), some (jI (t : Int))] [jI (i1 : Int), jO (x + 7), jO (x + 9)] 0 0 (M1, w.2) _
                refine jWp.callv (as := [jO (x + 9), jO (x + 7), jI (i1 : Int)]) (rest := []) mt rfl rfl rfl ⟨rfl, jtg hX.X9⟩ ?_
                refine jCall.mono (C_make (w := (M1, w.2)) (s := x + 7) (sc := x + 8) (e := x + 9) (f1 := x + 10) (f2 := x + 11) (n := n) (k := i1) (q := S) (g := False) (G := zNo) hX.X7 hX.X8 hX.Rt hn1 hn4 hX.X9 hX.Ru hX.Rd hX.X10 hX.X11 (by omega) zG_no (fun z => z.elim) hQ1 hR1 (by omega)) (fun v9 w9 h9 => ?_)
                obtain ⟨hbf, hh⟩ := h9
                obtain ⟨M2, G9⟩ := w9
                have hg : G9 = w.2 := hbf.1
                subst hg
                have hf2' := hbf.2
                have hn2' : M2 (x + 7) 0 = (n : Int) := (congrFun (hf2' (x + 7) (by omega) (by omega) (by omega)) 0).trans hn1
                have hf2 : ∀ b, (b < x + 7 ∨ x + 12 ≤ b) → M2 b = w.1 b := fun b hb => (hf2' b (by omega) (by omega) (by omega)).trans (hf1 b hb)
                rcases hh with ⟨rfl, hcan, hcr⟩ | ⟨rfl, hcan, hcr⟩
                · have hcr : cR False (M2 (x + 8)) (zxF S n i1) n := hcr
                  have hQ2 : zQ (zxF S n i1) n := zQ_x hQ1 (by omega) hcan
                  show jWp 112 75 [some (jO x), some (jI (i1 : Int)), some (jI (j1 : Int)), some (jI (t : Int))] [jI 1] 0 0 (M2, w.2) _
                  refine jWp.ifc (b := true) mt rfl (by decide) rfl ?_
                  show jWp 112 81 [some (jO x), some (jI (i1 : Int)), some (jI (j1 : Int)), some (jI (t : Int))] [] 0 0 (M2, w.2) _
                  refine jWp.blk mt 1 ?_
                  show _ ∧ jWp 112 82 [some (jO x), some (jI (i1 : Int)), some (jI (j1 : Int)), some (jI (t : Int))] [jO x] 0 0 (M2, w.2) _
                  refine ⟨rfl, ?_⟩
                  refine jWp.getR (pc' := 85) (o := (x + 7)) mt rfl rfl (jtg hX.X0) hX.R6 ?_
                  show jWp 112 85 [some (jO x), some (jI (i1 : Int)), some (jI (j1 : Int)), some (jI (t : Int))] [jO (x + 7)] 0 0 (M2, w.2) _
                  refine jWp.blk mt 1 ?_
                  show _ ∧ jWp 112 86 [some (jO x), some (jI (i1 : Int)), some (jI (j1 : Int)), some (jI (t : Int))] [jO x, jO (x + 7)] 0 0 (M2, w.2) _
                  refine ⟨rfl, ?_⟩
                  refine jWp.getR (pc' := 89) (o := (x + 3)) mt rfl rfl (jtg hX.X0) hX.R4 ?_
                  show jWp 112 89 [some (jO x), some (jI (i1 : Int)), some (jI (j1 : Int)), some (jI (t : Int))] [jO (x + 3), jO (x + 7)] 0 0 (M2, w.2) _
                  refine jWp.callv (as := [jO (x + 7), jO (x + 3)]) (rest := []) mt rfl rfl rfl ⟨rfl, jtg hX.X7⟩ ?_
                  refine jCall.mono (C_same (w := (M2, w.2)) (s := x + 7) (sc := x + 8) (n := n) (q := zxF S n i1) hX.X7 hX.X8 hX.Rt hn2' hn4 hQ2 hcr.1 (s2 := x + 3) (sc2 := x + 4) (p := q) hX.X3 hX.X4 hX.Rc ((congrFun (hf2 (x + 3) (by omega)) 0).trans hn0) hQ (fun j hj => (congrFun (hf2 (x + 4) (by omega)) j).trans (hRR.1 j hj))) (fun v9 w9 h9 => ?_)
                  rcases h9 with ⟨rfl, h9, h9⟩ | ⟨rfl, h9, h9⟩ <;> subst w9
                  · have h9 : zsame (zxF S n i1) q n := h9
                    show jWp 112 92 [some (jO x), some (jI (i1 : Int)), some (jI (j1 : Int)), some (jI (t : Int))] [jI 1] 0 0 (M2, w.2) _
                    refine jWp.ifc (b := false) mt rfl (by decide) rfl ?_
                    show jWp 112 95 [some (jO x), some (jI (i1 : Int)), some (jI (j1 : Int)), some (jI (t : Int))] [] 0 0 (M2, w.2) _
                    refine jWp.blk mt 1 ?_
                    show jWp 112 96 [some (jO x), some (jI (i1 : Int)), some (jI (j1 : Int)), some (jI (t : Int))] [jI (t : Int)] 0 0 (M2, w.2) _
                    refine jWp.ireti mt rfl ⟨rfl, rfl⟩ rfl ?_
                    try rw [show ((i1 : Nat) : Int).toNat = i1 from rfl, show ((j1 : Nat) : Int).toNat = j1 from rfl]
                    refine ⟨fun c0 => ?_, fun c0 => ?_⟩
                    all_goals first
                    | (exfalso; omega)
                    | exact ⟨rfl, rfl⟩
                    | exact ⟨by rw [← hr, show 21 - t = (20 - t) + 1 by omega, zrF_yes (by first | (rw [if_pos (by omega)]; done) | (rw [if_neg (by omega)]; done)) hcan (zsame_s (by assumption))], cq_f hf2⟩
                  · have h9 : ¬ (zsame (zxF S n i1) q n) := h9
                    show jWp 112 92 [some (jO x), some (jI (i1 : Int)), some (jI (j1 : Int)), some (jI (t : Int))] [jI 0] 0 0 (M2, w.2) _
                    refine jWp.ifc (b := true) mt rfl (by decide) rfl ?_
                    show jWp 112 97 [some (jO x), some (jI (i1 : Int)), some (jI (j1 : Int)), some (jI (t : Int))] [] 0 0 (M2, w.2) _
                    refine jWp.blk mt 2 ?_
                    show jWp 112 46 [some (jO x), some (jI (i1 : Int)), some (jI (j1 : Int)), some (jI ((t : Int) + 1))] [] 0 0 (M2, w.2) _
                    refine jWp.le (l := [some (jO x), some (jI (i1 : Int)), some (jI (j1 : Int)), some (jI ((t : Int) + 1))]) (by exact ⟨rfl, rfl, rfl, rfl, trivial⟩) ?_
                    exact ih5 (t + 1) (zxF S n i1) M2 (by omega) hf2 hn2' hcr hQ2 (by rw [← hr, show 21 - t = (21 - (t + 1)) + 1 by omega, zrF_go (by first | (rw [if_pos (by omega)]; done) | (rw [if_neg (by omega)]; done)) hcan (fun g => absurd (zsame_s g) (by assumption))]) (by omega)
                · have hcr' := hcr
                  show jWp 112 75 [some (jO x), some (jI (i1 : Int)), some (jI (j1 : Int)), some (jI (t : Int))] [jI 0] 0 0 (M2, w.2) _
                  refine jWp.ifc (b := false) mt rfl (by decide) rfl ?_
                  show jWp 112 78 [some (jO x), some (jI (i1 : Int)), some (jI (j1 : Int)), some (jI (t : Int))] [] 0 0 (M2, w.2) _
                  refine jWp.blk mt 1 ?_
                  show jWp 112 80 [some (jO x), some (jI (i1 : Int)), some (jI (j1 : Int)), some (jI (t : Int))] [jI (-9)] 0 0 (M2, w.2) _
                  refine jWp.ireti mt rfl ⟨rfl, rfl⟩ rfl ?_
                  try rw [show ((i1 : Nat) : Int).toNat = i1 from rfl, show ((j1 : Nat) : Int).toNat = j1 from rfl]
                  refine ⟨fun c0 => ?_, fun c0 => ?_⟩
                  all_goals first
                  | (exfalso; omega)
                  | exact ⟨rfl, rfl⟩
                  | exact ⟨by rw [← hr, show 21 - t = (20 - t) + 1 by omega, zrF_no (by first | (rw [if_pos (by omega)]; done) | (rw [if_neg (by omega)]; done)) hcan], cq_f hf2⟩
        refine jWp.le (l := [some (jO x), some (jI (i1 : Int)), some (jI (j1 : Int)), some (jI 1)]) (by exact ⟨rfl, rfl, rfl, rfl, trivial⟩) ?_
        exact lp4 _ 1 q M0 (by omega) hf0 hn0' (cR_F hR0) hQ rfl (Nat.lt_succ_self _)
      · have h3 : (i1 : Int) = (j1 : Int) := h3
        refine jWp.blk mt 2 ?_
        show _ ∧ jWp 112 29 [some (jO x), some (jI (i1 : Int)), some (jI (j1 : Int)), none] [jI (-1), jO x] 0 0 w _
        refine ⟨rfl, ?_⟩
        refine jWp.callv (as := [jO x, jI (-1)]) (rest := []) mt rfl rfl rfl ⟨rfl, jtg hX.X0⟩ ?_
        refine jCall.mono (C_refuse (w := w) (j := 0) hX (by decide) (by decide)) (fun v9 w9 h9 => ?_)
        obtain ⟨rfl, h9⟩ := h9
        subst h9
        show jWp 112 32 [some (jO x), some (jI (i1 : Int)), some (jI (j1 : Int)), none] [jI (-1)] 0 0 (jW w (x + 362) 0 ((w.1 (x + 362) 0) + 1)) _
        refine jWp.ireti mt rfl ⟨rfl, rfl⟩ rfl ?_
        refine ⟨fun c0 => ?_, fun c0 => ?_⟩
        all_goals first
        | (exfalso; omega)
        | exact ⟨rfl, rfl⟩
    · have h2 : ¬ (0 ≤ j ∧ j < (n : Int)) := h2
      show jWp 112 19 [some (jO x), some (jI (i1 : Int)), some (jI j), none] [jI 0] 0 0 w _
      refine jWp.ifc (b := true) mt rfl (by decide) rfl ?_
      show jWp 112 27 [some (jO x), some (jI (i1 : Int)), some (jI j), none] [] 0 0 w _
      refine jWp.blk mt 2 ?_
      show _ ∧ jWp 112 29 [some (jO x), some (jI (i1 : Int)), some (jI j), none] [jI (-1), jO x] 0 0 w _
      refine ⟨rfl, ?_⟩
      refine jWp.callv (as := [jO x, jI (-1)]) (rest := []) mt rfl rfl rfl ⟨rfl, jtg hX.X0⟩ ?_
      refine jCall.mono (C_refuse (w := w) (j := 0) hX (by decide) (by decide)) (fun v9 w9 h9 => ?_)
      obtain ⟨rfl, h9⟩ := h9
      subst h9
      show jWp 112 32 [some (jO x), some (jI (i1 : Int)), some (jI j), none] [jI (-1)] 0 0 (jW w (x + 362) 0 ((w.1 (x + 362) 0) + 1)) _
      refine jWp.ireti mt rfl ⟨rfl, rfl⟩ rfl ?_
      refine ⟨fun c0 => ?_, fun c0 => ?_⟩
      all_goals first
      | (exfalso; omega)
      | exact ⟨rfl, rfl⟩
  · have h1 : ¬ (0 ≤ i ∧ i < (n : Int)) := h1
    show jWp 112 8 [some (jO x), some (jI i), some (jI j), none] [jI 0] 0 0 w _
    refine jWp.ifc (b := true) mt rfl (by decide) rfl ?_
    show jWp 112 27 [some (jO x), some (jI i), some (jI j), none] [] 0 0 w _
    refine jWp.blk mt 2 ?_
    show _ ∧ jWp 112 29 [some (jO x), some (jI i), some (jI j), none] [jI (-1), jO x] 0 0 w _
    refine ⟨rfl, ?_⟩
    refine jWp.callv (as := [jO x, jI (-1)]) (rest := []) mt rfl rfl rfl ⟨rfl, jtg hX.X0⟩ ?_
    refine jCall.mono (C_refuse (w := w) (j := 0) hX (by decide) (by decide)) (fun v9 w9 h9 => ?_)
    obtain ⟨rfl, h9⟩ := h9
    subst h9
    show jWp 112 32 [some (jO x), some (jI i), some (jI j), none] [jI (-1)] 0 0 (jW w (x + 362) 0 ((w.1 (x + 362) 0) + 1)) _
    refine jWp.ireti mt rfl ⟨rfl, rfl⟩ rfl ?_
    refine ⟨fun c0 => ?_, fun c0 => ?_⟩
    all_goals first
    | (exfalso; omega)
    | exact ⟨rfl, rfl⟩
set_option maxHeartbeats 4000000 in
set_option maxRecDepth 20000 in
theorem C_drawn {w : jS} {x : Nat} (hX : CW w.2 x) {n : Nat} {q : Nat → Int} {g : Prop} (hQ : zQ q n) (hn0 : w.1 (x + 3) 0 = (n : Int)) (hRR : cR g (w.1 (x + 4)) q n) {G : (Nat → Int) → Prop} (hG : zG G) (hgq : g → G q) {K : Nat} {z : Int} (hK9 : K ≤ 30) : jCall 116 [jO x, jI (K : Int), jI z] w (fun v w1 => v = some (jI (zlF n K z q).1) ∧ cq w x w1 ∧ w1.1 (x + 7) 0 = (n : Int) ∧ cR g (w1.1 (x + 8)) (zlF n K z q).2 n ∧ zQ (zlF n K z q).2 n ∧ (g → G (zlF n K z q).2)) := by
  have mt : jtb 116 = jT116 := rfl
  have hn2 := hQ.S.n2
  have hn4 := hQ.S.n4
  show jWp 116 0 [some (jO x), some (jI (K : Int)), some (jI z), none, none, none, none] [] 0 0 w _
  refine jWp.blk mt 1 ?_
  show _ ∧ jWp 116 1 [some (jO x), some (jI (K : Int)), some (jI z), none, none, none, none] [jO x] 0 0 w _
  refine ⟨rfl, ?_⟩
  refine jWp.getR (pc' := 4) (o := (x + 7)) mt rfl rfl (jtg hX.X0) hX.R6 ?_
  show jWp 116 4 [some (jO x), some (jI (K : Int)), some (jI z), none, none, none, none] [jO (x + 7)] 0 0 w _
  refine jWp.blk mt 1 ?_
  show _ ∧ jWp 116 5 [some (jO x), some (jI (K : Int)), some (jI z), none, none, none, none] [jO x, jO (x + 7)] 0 0 w _
  refine ⟨rfl, ?_⟩
  refine jWp.getR (pc' := 8) (o := (x + 3)) mt rfl rfl (jtg hX.X0) hX.R4 ?_
  show jWp 116 8 [some (jO x), some (jI (K : Int)), some (jI z), none, none, none, none] [jO (x + 3), jO (x + 7)] 0 0 w _
  refine jWp.callv (as := [jO (x + 7), jO (x + 3)]) (rest := []) mt rfl rfl rfl ⟨rfl, jtg hX.X7⟩ ?_
  refine jCall.mono (C_become (w := w) (s := x + 7) (sc := x + 8) hX.X7 hX.X8 hX.Rt (s2 := x + 3) (sc2 := x + 4) hX.X3 hX.X4 hX.Rc hn0) (fun v9 w9 h9 => ?_)
  obtain ⟨rfl, hbf, hn0', hc0⟩ := h9
  obtain ⟨M0, G9⟩ := w9
  have hg : G9 = w.2 := hbf.1
  subst hg
  have hf0 : ∀ b, (b < x + 7 ∨ x + 12 ≤ b) → M0 b = w.1 b := fun b hb => hbf.2 b (by omega) (by omega)
  have hR0 : cR g (M0 (x + 8)) q n := cR_C hc0 hRR
  show jWp 116 11 [some (jO x), some (jI (K : Int)), some (jI z), none, none, none, none] [] 0 0 (M0, w.2) _
  refine jWp.blk mt 6 ?_
  show jWp 116 19 [some (jO x), some (jI (K : Int)), some (jI z), some (jI 0), some (jI z), some (jI 0), none] [] 0 0 (M0, w.2) _
  have lp1 : ∀ (N : Nat) (t : Nat) (o z1 : Int) (S : Nat → Int) (M1 : Nat → Nat → Int) (ht : t ≤ K) (ho : 0 ≤ o ∧ o ≤ (t : Int)) (hf1 : ∀ b, (b < x + 7 ∨ x + 12 ≤ b) → M1 b = w.1 b) (hn1 : M1 (x + 7) 0 = (n : Int)) (hR1 : cR g (M1 (x + 8)) S n) (hQ1 : zQ S n) (hgS : g → G S) (hr : o + (zlF n (K - t) z1 S).1 = (zlF n K z q).1 ∧ (zlF n (K - t) z1 S).2 = (zlF n K z q).2), K - t < N → jWp 116 19 [some (jO x), some (jI (K : Int)), some (jI z), some (jI o), some (jI z1), some (jI (t : Int)), none] [] 0 0 (M1, w.2) (fun v w1 => v = some (jI (zlF n K z q).1) ∧ cq w x w1 ∧ w1.1 (x + 7) 0 = (n : Int) ∧ cR g (w1.1 (x + 8)) (zlF n K z q).2 n ∧ zQ (zlF n K z q).2 n ∧ (g → G (zlF n K z q).2)) := by
    intro N
    induction N with
    | zero => intro t o z1 S M1 ht ho hf1 hn1 hR1 hQ1 hgS hr hm; omega
    | succ N ih2 =>
      intro t o z1 S M1 ht ho hf1 hn1 hR1 hQ1 hgS hr hm
      have hkb := zlk_b (z := zlz z1) (n := n) (by omega)
      have hkb0 : 0 ≤ Int.tdiv (jand ((z1 * 1664525) + 1013904223) 2147483647) 256 ∧ Int.tdiv (jand ((z1 * 1664525) + 1013904223) 2147483647) 256 ≤ 2147483647 := hkb.2.2
      refine jWp.blk mt 2 ?_
      show jWp 116 22 [some (jO x), some (jI (K : Int)), some (jI z), some (jI o), some (jI z1), some (jI (t : Int)), none] [jI (K : Int), jI (t : Int)] 0 0 (M1, w.2) _
      refine jWp.icmp (pc' := 25) mt rfl rfl (b32_id (by omega) (by omega)) (b32_id (by omega) (by omega)) (fun h3 => ?_) (fun h3 => ?_)
      · have h3 : (K : Int) ≤ (t : Int) := h3
        refine jWp.blk mt 1 ?_
        show jWp 116 97 [some (jO x), some (jI (K : Int)), some (jI z), some (jI o), some (jI z1), some (jI (t : Int)), none] [jI o] 0 0 (M1, w.2) _
        refine jWp.ireti mt rfl ⟨rfl, rfl⟩ rfl ?_
        have e0 : K - t = 0 := by omega
        rw [e0] at hr
        have e1 : o + 0 = (zlF n K z q).1 := hr.1
        have e2 : S = (zlF n K z q).2 := hr.2
        refine ⟨?_, cq_f hf1, hn1, ?_, ?_, fun gg => ?_⟩
        · rw [← e1, Int.add_zero]
        · rw [← e2]
          exact hR1
        · rw [← e2]
          exact hQ1
        · rw [← e2]
          exact hgS gg
      · have h3 : (t : Int) < (K : Int) := h3
        refine jWp.blk mt 10 ?_
        show jWp 116 46 [some (jO x), some (jI (K : Int)), some (jI z), some (jI o), some (jI ((z1 * 1664525) + 1013904223)), some (jI (t : Int)), none] [jI 256, jI (jand ((z1 * 1664525) + 1013904223) 2147483647)] 0 0 (M1, w.2) _
        refine jWp.idiv (pc' := 47) mt rfl rfl (b32_i32 _) (show b32 256 = 256 by decide) (by decide) ?_
        show jWp 116 47 [some (jO x), some (jI (K : Int)), some (jI z), some (jI o), some (jI ((z1 * 1664525) + 1013904223)), some (jI (t : Int)), none] [jI (Int.tdiv (jand ((z1 * 1664525) + 1013904223) 2147483647) 256)] 0 0 (M1, w.2) _
        refine jWp.blk mt 2 ?_
        show _ ∧ jWp 116 50 [some (jO x), some (jI (K : Int)), some (jI z), some (jI o), some (jI ((z1 * 1664525) + 1013904223)), some (jI (t : Int)), some (jI (Int.tdiv (jand ((z1 * 1664525) + 1013904223) 2147483647) 256))] [jO x] 0 0 (M1, w.2) _
        refine ⟨rfl, ?_⟩
        refine jWp.getR (pc' := 53) (o := (x + 9)) mt rfl rfl (jtg hX.X0) hX.R7 ?_
        show jWp 116 53 [some (jO x), some (jI (K : Int)), some (jI z), some (jI o), some (jI ((z1 * 1664525) + 1013904223)), some (jI (t : Int)), some (jI (Int.tdiv (jand ((z1 * 1664525) + 1013904223) 2147483647) 256))] [jO (x + 9)] 0 0 (M1, w.2) _
        refine jWp.blk mt 1 ?_
        show _ ∧ jWp 116 54 [some (jO x), some (jI (K : Int)), some (jI z), some (jI o), some (jI ((z1 * 1664525) + 1013904223)), some (jI (t : Int)), some (jI (Int.tdiv (jand ((z1 * 1664525) + 1013904223) 2147483647) 256))] [jO x, jO (x + 9)] 0 0 (M1, w.2) _
        refine ⟨rfl, ?_⟩
        refine jWp.getR (pc' := 57) (o := (x + 7)) mt rfl rfl (jtg hX.X0) hX.R6 ?_
        show jWp 116 57 [some (jO x), some (jI (K : Int)), some (jI z), some (jI o), some (jI ((z1 * 1664525) + 1013904223)), some (jI (t : Int)), some (jI (Int.tdiv (jand ((z1 * 1664525) + 1013904223) 2147483647) 256))] [jO (x + 7), jO (x + 9)] 0 0 (M1, w.2) _
        refine jWp.blk mt 1 ?_
        show _ ∧ jWp 116 58 [some (jO x), some (jI (K : Int)), some (jI z), some (jI o), some (jI ((z1 * 1664525) + 1013904223)), some (jI (t : Int)), some (jI (Int.tdiv (jand ((z1 * 1664525) + 1013904223) 2147483647) 256))] [jO x, jO (x + 7), jO (x + 9)] 0 0 (M1, w.2) _
        refine ⟨rfl, ?_⟩
        refine jWp.getR (pc' := 61) (o := (x + 7)) mt rfl rfl (jtg hX.X0) hX.R6 ?_
        show jWp 116 61 [some (jO x), some (jI (K : Int)), some (jI z), some (jI o), some (jI ((z1 * 1664525) + 1013904223)), some (jI (t : Int)), some (jI (Int.tdiv (jand ((z1 * 1664525) + 1013904223) 2147483647) 256))] [jO (x + 7), jO (x + 7), jO (x + 9)] 0 0 (M1, w.2) _
        refine jWp.getI (pc' := 64) mt rfl rfl (jtg hX.X7) ?_
        rw [show ((M1, w.2).1 (x + 7) 0) = (n : Int) from hn1]
        show jWp 116 64 [some (jO x), some (jI (K : Int)), some (jI z), some (jI o), some (jI ((z1 * 1664525) + 1013904223)), some (jI (t : Int)), some (jI (Int.tdiv (jand ((z1 * 1664525) + 1013904223) 2147483647) 256))] [jI (n : Int), jO (x + 7), jO (x + 9)] 0 0 (M1, w.2) _
        refine jWp.ifz (pc' := 67) mt rfl rfl (b32_id (by omega) (by omega)) (fun h4 => ?_) (fun h4 => ?_)
        · have h4 : (n : Int) ≤ 0 := h4
          exfalso; omega
        · have h4 : 0 < (n : Int) := h4
          refine jWp.blk mt 2 ?_
          show _ ∧ jWp 116 70 [some (jO x), some (jI (K : Int)), some (jI z), some (jI o), some (jI ((z1 * 1664525) + 1013904223)), some (jI (t : Int)), some (jI (Int.tdiv (jand ((z1 * 1664525) + 1013904223) 2147483647) 256))] [jO x, jI (Int.tdiv (jand ((z1 * 1664525) + 1013904223) 2147483647) 256), jO (x + 7), jO (x + 9)] 0 0 (M1, w.2) _
          refine ⟨rfl, ?_⟩
          refine jWp.getR (pc' := 73) (o := (x + 7)) mt rfl rfl (jtg hX.X0) hX.R6 ?_
          show jWp 116 73 [some (jO x), some (jI (K : Int)), some (jI z), some (jI o), some (jI ((z1 * 1664525) + 1013904223)), some (jI (t : Int)), some (jI (Int.tdiv (jand ((z1 * 1664525) + 1013904223) 2147483647) 256))] [jO (x + 7), jI (Int.tdiv (jand ((z1 * 1664525) + 1013904223) 2147483647) 256), jO (x + 7), jO (x + 9)] 0 0 (M1, w.2) _
          refine jWp.getI (pc' := 76) mt rfl rfl (jtg hX.X7) ?_
          rw [show ((M1, w.2).1 (x + 7) 0) = (n : Int) from hn1]
          show jWp 116 76 [some (jO x), some (jI (K : Int)), some (jI z), some (jI o), some (jI ((z1 * 1664525) + 1013904223)), some (jI (t : Int)), some (jI (Int.tdiv (jand ((z1 * 1664525) + 1013904223) 2147483647) 256))] [jI (n : Int), jI (Int.tdiv (jand ((z1 * 1664525) + 1013904223) 2147483647) 256), jO (x + 7), jO (x + 9)] 0 0 (M1, w.2) _
          refine jWp.irem (pc' := 77) mt rfl rfl (b32_id (by omega) (by omega)) (b32_id (by omega) (by omega)) (by omega) ?_
          show jWp 116 77 [some (jO x), some (jI (K : Int)), some (jI z), some (jI o), some (jI ((z1 * 1664525) + 1013904223)), some (jI (t : Int)), some (jI (Int.tdiv (jand ((z1 * 1664525) + 1013904223) 2147483647) 256))] [jI (Int.tmod (Int.tdiv (jand ((z1 * 1664525) + 1013904223) 2147483647) 256) (n : Int)), jO (x + 7), jO (x + 9)] 0 0 (M1, w.2) _
          refine jWp.blk mt 1 ?_
          show jWp 116 81 [some (jO x), some (jI (K : Int)), some (jI z), some (jI o), some (jI ((z1 * 1664525) + 1013904223)), some (jI (t : Int)), some (jI (Int.tdiv (jand ((z1 * 1664525) + 1013904223) 2147483647) 256))] [jI (Int.tmod (Int.tdiv (jand ((z1 * 1664525) + 1013904223) 2147483647) 256) (n : Int)), jO (x + 7), jO (x + 9)] 0 0 (M1, w.2) _
          refine jWp.callv (as := [jO (x + 9), jO (x + 7), jI (Int.tmod (Int.tdiv (jand ((z1 * 1664525) + 1013904223) 2147483647) 256) (n : Int))]) (rest := []) mt rfl rfl rfl ⟨rfl, jtg hX.X9⟩ ?_
          refine jCall.mono ((by have h := C_make (w := (M1, w.2)) (s := x + 7) (sc := x + 8) (e := x + 9) (f1 := x + 10) (f2 := x + 11) (n := n) (k := zlk (zlz z1) n) (q := S) (g := g) (G := G) hX.X7 hX.X8 hX.Rt hn1 hn4 hX.X9 hX.Ru hX.Rd hX.X10 hX.X11 (by omega) hG hgS hQ1 hR1 hkb.2.1; rw [hkb.1] at h; exact h)) (fun v9 w9 h9 => ?_)
          obtain ⟨hbf, hh⟩ := h9
          obtain ⟨M2, G9⟩ := w9
          have hg : G9 = w.2 := hbf.1
          subst hg
          have hf2' := hbf.2
          have hn2' : M2 (x + 7) 0 = (n : Int) := (congrFun (hf2' (x + 7) (by omega) (by omega) (by omega)) 0).trans hn1
          have hf2 : ∀ b, (b < x + 7 ∨ x + 12 ≤ b) → M2 b = w.1 b := fun b hb => (hf2' b (by omega) (by omega) (by omega)).trans (hf1 b hb)
          rcases hh with ⟨rfl, hcan, hcr⟩ | ⟨rfl, hcan, hcr⟩
          · have hcr : cR g (M2 (x + 8)) (zxF S n (zlk (zlz z1) n)) n := hcr
            show jWp 116 84 [some (jO x), some (jI (K : Int)), some (jI z), some (jI o), some (jI ((z1 * 1664525) + 1013904223)), some (jI (t : Int)), some (jI (Int.tdiv (jand ((z1 * 1664525) + 1013904223) 2147483647) 256))] [jI 1] 0 0 (M2, w.2) _
            refine jWp.ifc (b := false) mt rfl (by decide) rfl ?_
            show jWp 116 87 [some (jO x), some (jI (K : Int)), some (jI z), some (jI o), some (jI ((z1 * 1664525) + 1013904223)), some (jI (t : Int)), some (jI (Int.tdiv (jand ((z1 * 1664525) + 1013904223) 2147483647) 256))] [] 0 0 (M2, w.2) _
            refine jWp.blk mt 3 ?_
            show jWp 116 19 [some (jO x), some (jI (K : Int)), some (jI z), some (jI (o + 1)), some (jI ((z1 * 1664525) + 1013904223)), some (jI ((t : Int) + 1)), some (jI (Int.tdiv (jand ((z1 * 1664525) + 1013904223) 2147483647) 256))] [] 0 0 (M2, w.2) _
            refine jWp.le (l := [some (jO x), some (jI (K : Int)), some (jI z), some (jI (o + 1)), some (jI ((z1 * 1664525) + 1013904223)), some (jI ((t : Int) + 1)), none]) (by exact ⟨rfl, rfl, rfl, rfl, rfl, rfl, trivial⟩) ?_
            exact ih2 (t + 1) _ (zlz z1) (zxF S n (zlk (zlz z1) n)) M2 (by omega) (by omega) hf2 hn2' hcr (zQ_x hQ1 (by have := hkb.2.1; omega) hcan) (fun gg => hG.2.1 _ _ _ hQ1 hkb.2.1 hcan (hgS gg)) (by have e := hr; rw [show K - t = (K - (t + 1)) + 1 by omega, zlF_t hcan] at e; exact ⟨by rw [← e.1]; dsimp only; omega, e.2⟩) (by omega)
          · have hcr : M2 (x + 8) = M1 (x + 8) := hcr
            show jWp 116 84 [some (jO x), some (jI (K : Int)), some (jI z), some (jI o), some (jI ((z1 * 1664525) + 1013904223)), some (jI (t : Int)), some (jI (Int.tdiv (jand ((z1 * 1664525) + 1013904223) 2147483647) 256))] [jI 0] 0 0 (M2, w.2) _
            refine jWp.ifc (b := true) mt rfl (by decide) rfl ?_
            show jWp 116 90 [some (jO x), some (jI (K : Int)), some (jI z), some (jI o), some (jI ((z1 * 1664525) + 1013904223)), some (jI (t : Int)), some (jI (Int.tdiv (jand ((z1 * 1664525) + 1013904223) 2147483647) 256))] [] 0 0 (M2, w.2) _
            refine jWp.blk mt 2 ?_
            show jWp 116 19 [some (jO x), some (jI (K : Int)), some (jI z), some (jI o), some (jI ((z1 * 1664525) + 1013904223)), some (jI ((t : Int) + 1)), some (jI (Int.tdiv (jand ((z1 * 1664525) + 1013904223) 2147483647) 256))] [] 0 0 (M2, w.2) _
            refine jWp.le (l := [some (jO x), some (jI (K : Int)), some (jI z), some (jI o), some (jI ((z1 * 1664525) + 1013904223)), some (jI ((t : Int) + 1)), none]) (by exact ⟨rfl, rfl, rfl, rfl, rfl, rfl, trivial⟩) ?_
            exact ih2 (t + 1) _ (zlz z1) S M2 (by omega) (by omega) hf2 hn2' (by rw [hcr]; exact hR1) hQ1 hgS (by have e := hr; rw [show K - t = (K - (t + 1)) + 1 by omega, zlF_f hcan] at e; exact e) (by omega)
  refine jWp.le (l := [some (jO x), some (jI (K : Int)), some (jI z), some (jI 0), some (jI z), some (jI 0), none]) (by exact ⟨rfl, rfl, rfl, rfl, rfl, rfl, trivial⟩) ?_
  exact lp1 _ 0 0 z q M0 (by omega) (by omega) hf0 hn0' hR0 hQ hgq ⟨by rw [Int.zero_add]; rfl, rfl⟩ (Nat.lt_succ_self _)
set_option maxHeartbeats 4000000 in
set_option maxRecDepth 20000 in
theorem C_lots {w : jS} {x : Nat} (hX : CW w.2 x) {n : Nat} {q : Nat → Int} {g : Prop} (hQ : zQ q n) (hn0 : w.1 (x + 3) 0 = (n : Int)) (hRR : cR g (w.1 (x + 4)) q n) {G : (Nat → Int) → Prop} (hG : zG G) (hgq : g → G q) {N z a : Int} (hrN : r32 N) (hra : r32 a) : jCall 115 [jO x, jI N, jI z, jI a] w (fun v w1 => ((N < 1) → cno w x 3 (jI (-4)) v w1) ∧ (¬ (N < 1) → (30 < N) → cno w x 5 (jI (-6)) v w1) ∧ (¬ (N < 1) → ¬ (30 < N) → (¬ (0 ≤ a ∧ a ≤ 1)) → cno w x 1 (jI (-2)) v w1) ∧ (¬ (N < 1) → ¬ (30 < N) → ¬ (¬ (0 ≤ a ∧ a ≤ 1)) → cq w x w1 ∧ (a = 0 → v = some (jI (zlF n N.toNat z q).1)) ∧ (a = 1 → ∃ y, v = some (jI y) ∧ (g → y = zgo (zlF n N.toNat z q).2 n n)))) := by
  have mt : jtb 115 = jT115 := rfl
  have hn2 := hQ.S.n2
  have hn4 := hQ.S.n4
  have hrN1 : -2147483648 ≤ N ∧ N < 2147483648 := hrN
  have hra1 : -2147483648 ≤ a ∧ a < 2147483648 := hra
  show jWp 115 0 [some (jO x), some (jI N), some (jI z), some (jI a), none] [] 0 0 w _
  refine jWp.blk mt 2 ?_
  show jWp 115 2 [some (jO x), some (jI N), some (jI z), some (jI a), none] [jI 1, jI N] 0 0 w _
  refine jWp.icmp (pc' := 5) mt rfl rfl (b32_id (by omega) (by omega)) (show b32 1 = 1 by decide) (fun h1 => ?_) (fun h1 => ?_)
  · have h1 : 1 ≤ N := h1
    refine jWp.blk mt 2 ?_
    show jWp 115 15 [some (jO x), some (jI N), some (jI z), some (jI a), none] [jI 30, jI N] 0 0 w _
    refine jWp.icmp (pc' := 18) mt rfl rfl (b32_id (by omega) (by omega)) (show b32 30 = 30 by decide) (fun h2 => ?_) (fun h2 => ?_)
    · have h2 : N ≤ 30 := h2
      refine jWp.blk mt 1 ?_
      show jWp 115 26 [some (jO x), some (jI N), some (jI z), some (jI a), none] [jI a] 0 0 w _
      refine jWp.ifz (pc' := 29) mt rfl rfl (b32_id (by omega) (by omega)) (fun h3 => ?_) (fun h3 => ?_)
      · have h3 : a = 0 := h3
        obtain ⟨N1, rfl⟩ : ∃ N1 : Nat, N = (N1 : Int) := ⟨N.toNat, by omega⟩
        show jWp 115 41 [some (jO x), some (jI (N1 : Int)), some (jI z), some (jI a), none] [] 0 0 w _
        refine jWp.blk mt 3 ?_
        show _ ∧ jWp 115 44 [some (jO x), some (jI (N1 : Int)), some (jI z), some (jI a), none] [jI z, jI (N1 : Int), jO x] 0 0 w _
        refine ⟨rfl, ?_⟩
        refine jWp.callv (as := [jO x, jI (N1 : Int), jI z]) (rest := []) mt rfl rfl rfl ⟨rfl, jtg hX.X0⟩ ?_
        refine jCall.mono (C_drawn (w := w) (K := N1) hX hQ hn0 hRR hG hgq (by omega)) (fun v9 w9 h9 => ?_)
        obtain ⟨rfl, hcq, hn1, hR1, hQ1, hg1⟩ := h9
        obtain ⟨M1, G9⟩ := w9
        have hg : G9 = w.2 := hcq.1
        subst hg
        show jWp 115 47 [some (jO x), some (jI (N1 : Int)), some (jI z), some (jI a), none] [jI ((zlF n N1 z q).1)] 0 0 (M1, w.2) _
        refine jWp.blk mt 2 ?_
        show jWp 115 50 [some (jO x), some (jI (N1 : Int)), some (jI z), some (jI a), some (jI ((zlF n N1 z q).1))] [jI a] 0 0 (M1, w.2) _
        refine jWp.ifz (pc' := 53) mt rfl rfl (b32_id (by omega) (by omega)) (fun h4 => ?_) (fun h4 => ?_)
        · have h4 : a ≠ 0 := h4
          refine jWp.blk mt 1 ?_
          show _ ∧ jWp 115 59 [some (jO x), some (jI (N1 : Int)), some (jI z), some (jI a), some (jI ((zlF n N1 z q).1))] [jO x] 0 0 (M1, w.2) _
          refine ⟨rfl, ?_⟩
          refine jWp.getR (pc' := 62) (o := (x + 7)) mt rfl rfl (jtg hX.X0) hX.R6 ?_
          show jWp 115 62 [some (jO x), some (jI (N1 : Int)), some (jI z), some (jI a), some (jI ((zlF n N1 z q).1))] [jO (x + 7)] 0 0 (M1, w.2) _
          refine jWp.callv (as := [jO (x + 7)]) (rest := []) mt rfl rfl rfl ⟨rfl, jtg hX.X7⟩ ?_
          refine jCall.mono (C_greatest (w := (M1, w.2)) (s := x + 7) (sc := x + 8) (n := n) hX.X7 hX.X8 hX.Rt hn1 hn4 hn2) (fun v9 w9 h9 => ?_)
          obtain ⟨rfl, h9⟩ := h9
          subst w9
          show jWp 115 65 [some (jO x), some (jI (N1 : Int)), some (jI z), some (jI a), some (jI ((zlF n N1 z q).1))] [jI (zco (M1 (x + 8)) n n)] 0 0 (M1, w.2) _
          refine jWp.ireti mt rfl ⟨rfl, rfl⟩ rfl ?_
          refine ⟨fun c0 => ?_, fun c0 c1 => ?_, fun c0 c1 c2 => ?_, fun c0 c1 c2 => ?_⟩
          all_goals first
          | (exfalso; omega)
          | exact ⟨rfl, rfl⟩
          | exact ⟨hcq, fun z0 => by first | rfl | (exfalso; omega), fun z1 => by first | (exfalso; omega) | exact ⟨_, rfl, fun gg => (zco_e hG hQ1 (hg1 gg) gg hR1).1⟩⟩
        · have h4 : a = 0 := h4
          refine jWp.blk mt 2 ?_
          show jWp 115 65 [some (jO x), some (jI (N1 : Int)), some (jI z), some (jI a), some (jI ((zlF n N1 z q).1))] [jI ((zlF n N1 z q).1)] 0 0 (M1, w.2) _
          refine jWp.ireti mt rfl ⟨rfl, rfl⟩ rfl ?_
          refine ⟨fun c0 => ?_, fun c0 c1 => ?_, fun c0 c1 c2 => ?_, fun c0 c1 c2 => ?_⟩
          all_goals first
          | (exfalso; omega)
          | exact ⟨rfl, rfl⟩
          | exact ⟨hcq, fun z0 => by first | rfl | (exfalso; omega), fun z1 => by first | (exfalso; omega) | exact ⟨_, rfl, fun gg => (zco_e hG hQ1 (hg1 gg) gg hR1).1⟩⟩
      · have h3 : a ≠ 0 := h3
        refine jWp.blk mt 2 ?_
        show jWp 115 31 [some (jO x), some (jI N), some (jI z), some (jI a), none] [jI 1, jI a] 0 0 w _
        refine jWp.icmp (pc' := 34) mt rfl rfl (b32_id (by omega) (by omega)) (show b32 1 = 1 by decide) (fun h5 => ?_) (fun h5 => ?_)
        · have h5 : a = 1 := h5
          obtain ⟨N1, rfl⟩ : ∃ N1 : Nat, N = (N1 : Int) := ⟨N.toNat, by omega⟩
          show jWp 115 41 [some (jO x), some (jI (N1 : Int)), some (jI z), some (jI a), none] [] 0 0 w _
          refine jWp.blk mt 3 ?_
          show _ ∧ jWp 115 44 [some (jO x), some (jI (N1 : Int)), some (jI z), some (jI a), none] [jI z, jI (N1 : Int), jO x] 0 0 w _
          refine ⟨rfl, ?_⟩
          refine jWp.callv (as := [jO x, jI (N1 : Int), jI z]) (rest := []) mt rfl rfl rfl ⟨rfl, jtg hX.X0⟩ ?_
          refine jCall.mono (C_drawn (w := w) (K := N1) hX hQ hn0 hRR hG hgq (by omega)) (fun v9 w9 h9 => ?_)
          obtain ⟨rfl, hcq, hn1, hR1, hQ1, hg1⟩ := h9
          obtain ⟨M1, G9⟩ := w9
          have hg : G9 = w.2 := hcq.1
          subst hg
          show jWp 115 47 [some (jO x), some (jI (N1 : Int)), some (jI z), some (jI a), none] [jI ((zlF n N1 z q).1)] 0 0 (M1, w.2) _
          refine jWp.blk mt 2 ?_
          show jWp 115 50 [some (jO x), some (jI (N1 : Int)), some (jI z), some (jI a), some (jI ((zlF n N1 z q).1))] [jI a] 0 0 (M1, w.2) _
          refine jWp.ifz (pc' := 53) mt rfl rfl (b32_id (by omega) (by omega)) (fun h6 => ?_) (fun h6 => ?_)
          · have h6 : a ≠ 0 := h6
            refine jWp.blk mt 1 ?_
            show _ ∧ jWp 115 59 [some (jO x), some (jI (N1 : Int)), some (jI z), some (jI a), some (jI ((zlF n N1 z q).1))] [jO x] 0 0 (M1, w.2) _
            refine ⟨rfl, ?_⟩
            refine jWp.getR (pc' := 62) (o := (x + 7)) mt rfl rfl (jtg hX.X0) hX.R6 ?_
            show jWp 115 62 [some (jO x), some (jI (N1 : Int)), some (jI z), some (jI a), some (jI ((zlF n N1 z q).1))] [jO (x + 7)] 0 0 (M1, w.2) _
            refine jWp.callv (as := [jO (x + 7)]) (rest := []) mt rfl rfl rfl ⟨rfl, jtg hX.X7⟩ ?_
            refine jCall.mono (C_greatest (w := (M1, w.2)) (s := x + 7) (sc := x + 8) (n := n) hX.X7 hX.X8 hX.Rt hn1 hn4 hn2) (fun v9 w9 h9 => ?_)
            obtain ⟨rfl, h9⟩ := h9
            subst w9
            show jWp 115 65 [some (jO x), some (jI (N1 : Int)), some (jI z), some (jI a), some (jI ((zlF n N1 z q).1))] [jI (zco (M1 (x + 8)) n n)] 0 0 (M1, w.2) _
            refine jWp.ireti mt rfl ⟨rfl, rfl⟩ rfl ?_
            refine ⟨fun c0 => ?_, fun c0 c1 => ?_, fun c0 c1 c2 => ?_, fun c0 c1 c2 => ?_⟩
            all_goals first
            | (exfalso; omega)
            | exact ⟨rfl, rfl⟩
            | exact ⟨hcq, fun z0 => by first | rfl | (exfalso; omega), fun z1 => by first | (exfalso; omega) | exact ⟨_, rfl, fun gg => (zco_e hG hQ1 (hg1 gg) gg hR1).1⟩⟩
          · have h6 : a = 0 := h6
            refine jWp.blk mt 2 ?_
            show jWp 115 65 [some (jO x), some (jI (N1 : Int)), some (jI z), some (jI a), some (jI ((zlF n N1 z q).1))] [jI ((zlF n N1 z q).1)] 0 0 (M1, w.2) _
            refine jWp.ireti mt rfl ⟨rfl, rfl⟩ rfl ?_
            refine ⟨fun c0 => ?_, fun c0 c1 => ?_, fun c0 c1 c2 => ?_, fun c0 c1 c2 => ?_⟩
            all_goals first
            | (exfalso; omega)
            | exact ⟨rfl, rfl⟩
            | exact ⟨hcq, fun z0 => by first | rfl | (exfalso; omega), fun z1 => by first | (exfalso; omega) | exact ⟨_, rfl, fun gg => (zco_e hG hQ1 (hg1 gg) gg hR1).1⟩⟩
        · have h5 : a ≠ 1 := h5
          refine jWp.blk mt 2 ?_
          show _ ∧ jWp 115 37 [some (jO x), some (jI N), some (jI z), some (jI a), none] [jI (-2), jO x] 0 0 w _
          refine ⟨rfl, ?_⟩
          refine jWp.callv (as := [jO x, jI (-2)]) (rest := []) mt rfl rfl rfl ⟨rfl, jtg hX.X0⟩ ?_
          refine jCall.mono (C_refuse (w := w) (j := 1) hX (by decide) (by decide)) (fun v9 w9 h9 => ?_)
          obtain ⟨rfl, h9⟩ := h9
          subst h9
          show jWp 115 40 [some (jO x), some (jI N), some (jI z), some (jI a), none] [jI (-2)] 0 0 (jW w (x + 362) 1 ((w.1 (x + 362) 1) + 1)) _
          refine jWp.ireti mt rfl ⟨rfl, rfl⟩ rfl ?_
          refine ⟨fun c0 => ?_, fun c0 c1 => ?_, fun c0 c1 c2 => ?_, fun c0 c1 c2 => ?_⟩
          all_goals first
          | (exfalso; omega)
          | exact ⟨rfl, rfl⟩
    · have h2 : 30 < N := h2
      refine jWp.blk mt 2 ?_
      show _ ∧ jWp 115 21 [some (jO x), some (jI N), some (jI z), some (jI a), none] [jI (-6), jO x] 0 0 w _
      refine ⟨rfl, ?_⟩
      refine jWp.callv (as := [jO x, jI (-6)]) (rest := []) mt rfl rfl rfl ⟨rfl, jtg hX.X0⟩ ?_
      refine jCall.mono (C_refuse (w := w) (j := 5) hX (by decide) (by decide)) (fun v9 w9 h9 => ?_)
      obtain ⟨rfl, h9⟩ := h9
      subst h9
      show jWp 115 24 [some (jO x), some (jI N), some (jI z), some (jI a), none] [jI (-6)] 0 0 (jW w (x + 362) 5 ((w.1 (x + 362) 5) + 1)) _
      refine jWp.ireti mt rfl ⟨rfl, rfl⟩ rfl ?_
      refine ⟨fun c0 => ?_, fun c0 c1 => ?_, fun c0 c1 c2 => ?_, fun c0 c1 c2 => ?_⟩
      all_goals first
      | (exfalso; omega)
      | exact ⟨rfl, rfl⟩
  · have h1 : N < 1 := h1
    refine jWp.blk mt 2 ?_
    show _ ∧ jWp 115 8 [some (jO x), some (jI N), some (jI z), some (jI a), none] [jI (-4), jO x] 0 0 w _
    refine ⟨rfl, ?_⟩
    refine jWp.callv (as := [jO x, jI (-4)]) (rest := []) mt rfl rfl rfl ⟨rfl, jtg hX.X0⟩ ?_
    refine jCall.mono (C_refuse (w := w) (j := 3) hX (by decide) (by decide)) (fun v9 w9 h9 => ?_)
    obtain ⟨rfl, h9⟩ := h9
    subst h9
    show jWp 115 11 [some (jO x), some (jI N), some (jI z), some (jI a), none] [jI (-4)] 0 0 (jW w (x + 362) 3 ((w.1 (x + 362) 3) + 1)) _
    refine jWp.ireti mt rfl ⟨rfl, rfl⟩ rfl ?_
    refine ⟨fun c0 => ?_, fun c0 c1 => ?_, fun c0 c1 c2 => ?_, fun c0 c1 c2 => ?_⟩
    all_goals first
    | (exfalso; omega)
    | exact ⟨rfl, rfl⟩
set_option maxHeartbeats 4000000 in
set_option maxRecDepth 20000 in
theorem C_letter {w : jS} {x : Nat} (hX : CW w.2 x) {F : Nat} (hF : w.1 (x + 339) 0 = (F : Int)) (hF72 : F ≤ 72) {c : Int} (hrc : r32 c) : jCall 109 [jO x, jI c] w (fun v w1 => ((c < 0) → cno w x 3 (jI (-4)) v w1) ∧ (¬ (c < 0) → (255 < c ∨ F = 72) → cno w x 5 (jI (-6)) v w1) ∧ (¬ (c < 0) → ¬ (255 < c ∨ F = 72) → v = some (jI ((F : Int) + 1)) ∧ w1 = jW (jW w (x + 340) F c) (x + 339) 0 ((F : Int) + 1))) := by
  have mt : jtb 109 = jT109 := rfl
  have hrc1 : -2147483648 ≤ c ∧ c < 2147483648 := hrc
  show jWp 109 0 [some (jO x), some (jI c)] [] 0 0 w _
  refine jWp.blk mt 1 ?_
  show jWp 109 1 [some (jO x), some (jI c)] [jI c] 0 0 w _
  refine jWp.ifz (pc' := 4) mt rfl rfl (b32_id (by omega) (by omega)) (fun h1 => ?_) (fun h1 => ?_)
  · have h1 : 0 ≤ c := h1
    refine jWp.blk mt 2 ?_
    show jWp 109 15 [some (jO x), some (jI c)] [jI 255, jI c] 0 0 w _
    refine jWp.icmp (pc' := 18) mt rfl rfl (b32_id (by omega) (by omega)) (show b32 255 = 255 by decide) (fun h2 => ?_) (fun h2 => ?_)
    · have h2 : 255 < c := h2
      refine jWp.blk mt 2 ?_
      show _ ∧ jWp 109 32 [some (jO x), some (jI c)] [jI (-6), jO x] 0 0 w _
      refine ⟨rfl, ?_⟩
      refine jWp.callv (as := [jO x, jI (-6)]) (rest := []) mt rfl rfl rfl ⟨rfl, jtg hX.X0⟩ ?_
      refine jCall.mono (C_refuse (w := w) (j := 5) hX (by decide) (by decide)) (fun v9 w9 h9 => ?_)
      obtain ⟨rfl, h9⟩ := h9
      subst h9
      show jWp 109 35 [some (jO x), some (jI c)] [jI (-6)] 0 0 (jW w (x + 362) 5 ((w.1 (x + 362) 5) + 1)) _
      refine jWp.ireti mt rfl ⟨rfl, rfl⟩ rfl ?_
      refine ⟨fun c0 => ?_, fun c0 c1 => ?_, fun c0 c1 => ?_⟩
      all_goals first
      | (exfalso; omega)
      | exact ⟨rfl, rfl⟩
    · have h2 : c ≤ 255 := h2
      refine jWp.blk mt 1 ?_
      show _ ∧ jWp 109 19 [some (jO x), some (jI c)] [jO x] 0 0 w _
      refine ⟨rfl, ?_⟩
      refine jWp.getR (pc' := 22) (o := (x + 339)) mt rfl rfl (jtg hX.X0) hX.R9 ?_
      show jWp 109 22 [some (jO x), some (jI c)] [jO (x + 339)] 0 0 w _
      refine jWp.blk mt 1 ?_
      show jWp 109 23 [some (jO x), some (jI c)] [jI c, jO (x + 339)] 0 0 w _
      refine jWp.callv (as := [jO (x + 339), jI c]) (rest := []) mt rfl rfl rfl ⟨rfl, jtg hX.X339⟩ ?_
      refine jCall.mono (C_add (w := w) (t := x + 339) (tl := x + 340) hX.X339 hX.X340 hX.Rl hF hF72) (fun v9 w9 h9 => ?_)
      rcases Nat.lt_or_ge F 72 with hz | hz
      · obtain ⟨rfl, hw9⟩ := h9.1 hz
        subst hw9
        show jWp 109 26 [some (jO x), some (jI c)] [jI 1] 0 0 (jW (jW w (x + 340) F c) (x + 339) 0 ((F : Int) + 1)) _
        refine jWp.ifc (b := true) mt rfl (by decide) rfl ?_
        show jWp 109 36 [some (jO x), some (jI c)] [] 0 0 (jW (jW w (x + 340) F c) (x + 339) 0 ((F : Int) + 1)) _
        refine jWp.blk mt 1 ?_
        show _ ∧ jWp 109 37 [some (jO x), some (jI c)] [jO x] 0 0 (jW (jW w (x + 340) F c) (x + 339) 0 ((F : Int) + 1)) _
        refine ⟨rfl, ?_⟩
        refine jWp.getR (pc' := 40) (o := (x + 339)) mt rfl rfl (jtg hX.X0) hX.R9 ?_
        show jWp 109 40 [some (jO x), some (jI c)] [jO (x + 339)] 0 0 (jW (jW w (x + 340) F c) (x + 339) 0 ((F : Int) + 1)) _
        refine jWp.getI (pc' := 43) mt rfl rfl (jtg hX.X339) ?_
        rw [show ((jW (jW w (x + 340) F c) (x + 339) 0 ((F : Int) + 1)).1 (x + 339) 0) = ((F : Int) + 1) from jW_s]
        show jWp 109 43 [some (jO x), some (jI c)] [jI ((F : Int) + 1)] 0 0 (jW (jW w (x + 340) F c) (x + 339) 0 ((F : Int) + 1)) _
        refine jWp.ireti mt rfl ⟨rfl, rfl⟩ rfl ?_
        refine ⟨fun c0 => ?_, fun c0 c1 => ?_, fun c0 c1 => ?_⟩
        all_goals first
        | (exfalso; omega)
        | exact ⟨rfl, rfl⟩
      · obtain ⟨rfl, hw9⟩ := h9.2 (by omega)
        subst w9
        show jWp 109 26 [some (jO x), some (jI c)] [jI 0] 0 0 w _
        refine jWp.ifc (b := false) mt rfl (by decide) rfl ?_
        show jWp 109 29 [some (jO x), some (jI c)] [] 0 0 w _
        refine jWp.blk mt 2 ?_
        show _ ∧ jWp 109 32 [some (jO x), some (jI c)] [jI (-6), jO x] 0 0 w _
        refine ⟨rfl, ?_⟩
        refine jWp.callv (as := [jO x, jI (-6)]) (rest := []) mt rfl rfl rfl ⟨rfl, jtg hX.X0⟩ ?_
        refine jCall.mono (C_refuse (w := w) (j := 5) hX (by decide) (by decide)) (fun v9 w9 h9 => ?_)
        obtain ⟨rfl, h9⟩ := h9
        subst h9
        show jWp 109 35 [some (jO x), some (jI c)] [jI (-6)] 0 0 (jW w (x + 362) 5 ((w.1 (x + 362) 5) + 1)) _
        refine jWp.ireti mt rfl ⟨rfl, rfl⟩ rfl ?_
        refine ⟨fun c0 => ?_, fun c0 c1 => ?_, fun c0 c1 => ?_⟩
        all_goals first
        | (exfalso; omega)
        | exact ⟨rfl, rfl⟩
  · have h1 : c < 0 := h1
    refine jWp.blk mt 2 ?_
    show _ ∧ jWp 109 7 [some (jO x), some (jI c)] [jI (-4), jO x] 0 0 w _
    refine ⟨rfl, ?_⟩
    refine jWp.callv (as := [jO x, jI (-4)]) (rest := []) mt rfl rfl rfl ⟨rfl, jtg hX.X0⟩ ?_
    refine jCall.mono (C_refuse (w := w) (j := 3) hX (by decide) (by decide)) (fun v9 w9 h9 => ?_)
    obtain ⟨rfl, h9⟩ := h9
    subst h9
    show jWp 109 10 [some (jO x), some (jI c)] [jI (-4)] 0 0 (jW w (x + 362) 3 ((w.1 (x + 362) 3) + 1)) _
    refine jWp.ireti mt rfl ⟨rfl, rfl⟩ rfl ?_
    refine ⟨fun c0 => ?_, fun c0 c1 => ?_, fun c0 c1 => ?_⟩
    all_goals first
    | (exfalso; omega)
    | exact ⟨rfl, rfl⟩
