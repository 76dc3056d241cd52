set_option maxHeartbeats 4000000 in
set_option maxRecDepth 20000 in
theorem C_row {w : jS} {x : Nat} (hX : CW w.2 x) {c : Nat} {R : Nat → Int} (hR : zRw R c) (hRW : cRW w x R c) (hO : jOK w) (hao : w.2.2.2.2 < x ∨ x + 392 ≤ w.2.2.2.2) {l f : Int} (hrl : r32 l) (hrf : r32 f) : jCall 92 [jO x, jI l, jI f] w (fun v w1 => ((¬ (0 ≤ l ∧ l ≤ 6)) → cno w x 1 (jI (-2)) v w1) ∧ (¬ (¬ (0 ≤ l ∧ l ≤ 6)) → (f < 0) → cno w x 3 (jI (-4)) v w1) ∧ (¬ (¬ (0 ≤ l ∧ l ≤ 6)) → ¬ (f < 0) → (9 < f ∨ c = 4) → cno w x 5 (jI (-6)) v w1) ∧ (¬ (¬ (0 ≤ l ∧ l ≤ 6)) → ¬ (f < 0) → ¬ (9 < f ∨ c = 4) → v = some (jI (c : Int)) ∧ w1.2 = w.2 ∧ (∀ b, b ≠ x → b ≠ x + (363 + 6 * c) → b ≠ x + (364 + 6 * c) → b ≠ x + (365 + 6 * c) → w1.1 b = w.1 b) ∧ (∀ j, j ≠ 1 → w1.1 x j = w.1 x j) ∧ w1.1 x 1 = (c : Int) + 1 ∧ cRo w1 (x + (363 + 6 * c)) (x + (364 + 6 * c)) (x + (365 + 6 * c)) l f (fun _ => 1))) := by
  have mt : jtb 92 = jT92 := rfl
  have hc4 := hR.2.1
  have hrl1 : -2147483648 ≤ l ∧ l < 2147483648 := hrl
  have hrf1 : -2147483648 ≤ f ∧ f < 2147483648 := hrf
  show jWp 92 0 [some (jO x), some (jI l), some (jI f)] [] 0 0 w _
  refine jWp.blk mt 1 ?_
  show jWp 92 1 [some (jO x), some (jI l), some (jI f)] [jI l] 0 0 w _
  refine jWp.ifz (pc' := 4) mt rfl rfl (b32_id (by omega) (by omega)) (fun h1 => ?_) (fun h1 => ?_)
  · have h1 : l < 0 := h1
    refine jWp.blk mt 2 ?_
    show _ ∧ jWp 92 13 [some (jO x), some (jI l), some (jI f)] [jI (-2), jO x] 0 0 w _
    refine ⟨rfl, ?_⟩
    refine jWp.callv (as := [jO x, jI (-2)]) (rest := []) mt rfl rfl rfl ⟨rfl, jtg hX.X0⟩ ?_
    refine jCall.mono (C_refuse (w := w) (j := 1) hX (by decide) (by decide)) (fun v9 w9 h9 => ?_)
    obtain ⟨rfl, h9⟩ := h9
    subst h9
    show jWp 92 16 [some (jO x), some (jI l), some (jI f)] [jI (-2)] 0 0 (jW w (x + 362) 1 ((w.1 (x + 362) 1) + 1)) _
    refine jWp.ireti mt rfl ⟨rfl, rfl⟩ rfl ?_
    refine ⟨fun c0 => ?_, fun c0 c1 => ?_, fun c0 c1 c2 => ?_, fun c0 c1 c2 => ?_⟩
    all_goals first
    | (exfalso; omega)
    | exact ⟨rfl, rfl⟩
    | exact ⟨by rw [show ((c : Int) + 1) - 1 = (c : Int) by omega], rfl, fun b g0 g1 g2 g3 => (jW_f g0).trans (hf1 b g1 g2 g3), fun j hj => (jW_k hj).trans (congrFun (hf1 x (by omega) (by omega) (by omega)) j), jW_s, cRo_k (jW_f (by omega)) (jW_f (by omega)) (jW_f (by omega)) hcr⟩
  · have h1 : 0 ≤ l := h1
    refine jWp.blk mt 2 ?_
    show jWp 92 7 [some (jO x), some (jI l), some (jI f)] [jI 7, jI l] 0 0 w _
    refine jWp.icmp (pc' := 10) mt rfl rfl (b32_id (by omega) (by omega)) (show b32 7 = 7 by decide) (fun h2 => ?_) (fun h2 => ?_)
    · have h2 : l < 7 := h2
      refine jWp.blk mt 1 ?_
      show jWp 92 18 [some (jO x), some (jI l), some (jI f)] [jI f] 0 0 w _
      refine jWp.ifz (pc' := 21) mt rfl rfl (b32_id (by omega) (by omega)) (fun h3 => ?_) (fun h3 => ?_)
      · have h3 : 0 ≤ f := h3
        refine jWp.blk mt 2 ?_
        show jWp 92 31 [some (jO x), some (jI l), some (jI f)] [jI 9, jI f] 0 0 w _
        refine jWp.icmp (pc' := 34) mt rfl rfl (b32_id (by omega) (by omega)) (show b32 9 = 9 by decide) (fun h4 => ?_) (fun h4 => ?_)
        · have h4 : 9 < f := h4
          refine jWp.blk mt 2 ?_
          show _ ∧ jWp 92 45 [some (jO x), some (jI l), some (jI f)] [jI (-6), jO x] 0 0 w _
          refine ⟨rfl, ?_⟩
          refine jWp.callv (as := [jO x, jI (-6)]) (rest := []) mt rfl rfl rfl ⟨rfl, jtg hX.X0⟩ ?_
          refine jCall.mono (C_refuse (w := w) (j := 5) hX (by decide) (by decide)) (fun v9 w9 h9 => ?_)
          obtain ⟨rfl, h9⟩ := h9
          subst h9
          show jWp 92 48 [some (jO x), some (jI l), some (jI f)] [jI (-6)] 0 0 (jW w (x + 362) 5 ((w.1 (x + 362) 5) + 1)) _
          refine jWp.ireti mt rfl ⟨rfl, rfl⟩ rfl ?_
          refine ⟨fun c0 => ?_, fun c0 c1 => ?_, fun c0 c1 c2 => ?_, fun c0 c1 c2 => ?_⟩
          all_goals first
          | (exfalso; omega)
          | exact ⟨rfl, rfl⟩
          | exact ⟨by rw [show ((c : Int) + 1) - 1 = (c : Int) by omega], rfl, fun b g0 g1 g2 g3 => (jW_f g0).trans (hf1 b g1 g2 g3), fun j hj => (jW_k hj).trans (congrFun (hf1 x (by omega) (by omega) (by omega)) j), jW_s, cRo_k (jW_f (by omega)) (jW_f (by omega)) (jW_f (by omega)) hcr⟩
        · have h4 : f ≤ 9 := h4
          refine jWp.blk mt 1 ?_
          show _ ∧ jWp 92 35 [some (jO x), some (jI l), some (jI f)] [jO x] 0 0 w _
          refine ⟨rfl, ?_⟩
          refine jWp.getI (pc' := 38) mt rfl rfl (jtg hX.X0) ?_
          rw [show (w.1 x 1) = (c : Int) from hRW.1]
          show jWp 92 38 [some (jO x), some (jI l), some (jI f)] [jI (c : Int)] 0 0 w _
          refine jWp.blk mt 1 ?_
          show jWp 92 39 [some (jO x), some (jI l), some (jI f)] [jI 4, jI (c : Int)] 0 0 w _
          refine jWp.icmp (pc' := 42) mt rfl rfl (b32_id (by omega) (by omega)) (show b32 4 = 4 by decide) (fun h5 => ?_) (fun h5 => ?_)
          · have h5 : (c : Int) < 4 := h5
            refine jWp.blk mt 1 ?_
            show _ ∧ jWp 92 50 [some (jO x), some (jI l), some (jI f)] [jO x] 0 0 w _
            refine ⟨rfl, ?_⟩
            refine jWp.getR (pc' := 53) (o := (x + 1)) mt rfl rfl (jtg hX.X0) hX.R0 ?_
            show jWp 92 53 [some (jO x), some (jI l), some (jI f)] [jO (x + 1)] 0 0 w _
            refine jWp.blk mt 1 ?_
            show _ ∧ jWp 92 54 [some (jO x), some (jI l), some (jI f)] [jO x, jO (x + 1)] 0 0 w _
            refine ⟨rfl, ?_⟩
            refine jWp.getI (pc' := 57) mt rfl rfl (jtg hX.X0) ?_
            rw [show (w.1 x 1) = (c : Int) from hRW.1]
            show jWp 92 57 [some (jO x), some (jI l), some (jI f)] [jI (c : Int), jO (x + 1)] 0 0 w _
            refine jWp.aald (pc' := 58) (j := c) (o := (x + (363 + 6 * c))) mt rfl rfl (jrg hX.X1 (by decide) (by decide)) (b32_id (by omega) (by omega)) (jlt hX.X1 (by omega)) (hX.RR c (by omega)) ?_
            show jWp 92 58 [some (jO x), some (jI l), some (jI f)] [jO (x + (363 + 6 * c))] 0 0 w _
            refine jWp.blk mt 2 ?_
            show jWp 92 60 [some (jO x), some (jI l), some (jI f)] [jI f, jI l, jO (x + (363 + 6 * c))] 0 0 w _
            refine jWp.callv (as := [jO (x + (363 + 6 * c)), jI l, jI f]) (rest := []) mt rfl rfl rfl ⟨rfl, jtg (hX.KR c (by omega))⟩ ?_
            refine jCall.mono (C_found (w := w) (r := x + (363 + 6 * c)) (rs := x + (364 + 6 * c)) (rt := x + (365 + 6 * c)) (hX.KR c (by omega)) (hX.KRs c (by omega)) (hX.KRt c (by omega)) (hX.RRs c (by omega)) (hX.RRt c (by omega)) hO (law := l) (f := f) (by omega) (by omega) (by omega)) (fun v9 w9 h9 => ?_)
            obtain ⟨rfl, hbf, hcr⟩ := h9
            obtain ⟨M1, G9⟩ := w9
            have hg : G9 = w.2 := hbf.1
            subst hg
            have hf1 := hbf.2
            have hx1 : M1 x 1 = (c : Int) := (congrFun (hf1 x (by omega) (by omega) (by omega)) 1).trans hRW.1
            show jWp 92 63 [some (jO x), some (jI l), some (jI f)] [] 0 0 (M1, w.2) _
            refine jWp.blk mt 2 ?_
            show _ ∧ _ ∧ jWp 92 65 [some (jO x), some (jI l), some (jI f)] [jO x, jO x] 0 0 (M1, w.2) _
            refine ⟨rfl, rfl, ?_⟩
            refine jWp.getI (pc' := 68) mt rfl rfl (jtg hX.X0) ?_
            rw [show ((M1, w.2).1 x 1) = (c : Int) from hx1]
            show jWp 92 68 [some (jO x), some (jI l), some (jI f)] [jI (c : Int), jO x] 0 0 (M1, w.2) _
            refine jWp.blk mt 2 ?_
            show jWp 92 70 [some (jO x), some (jI l), some (jI f)] [jI ((c : Int) + 1), jO x] 0 0 (M1, w.2) _
            refine jWp.putI (pc' := 73) mt rfl rfl (jtg hX.X0) ?_
            show jWp 92 73 [some (jO x), some (jI l), some (jI f)] [] 0 0 (jW (M1, w.2) x 1 ((c : Int) + 1)) _
            refine jWp.blk mt 1 ?_
            show _ ∧ jWp 92 74 [some (jO x), some (jI l), some (jI f)] [jO x] 0 0 (jW (M1, w.2) x 1 ((c : Int) + 1)) _
            refine ⟨rfl, ?_⟩
            refine jWp.getI (pc' := 77) mt rfl rfl (jtg hX.X0) ?_
            rw [show ((jW (M1, w.2) x 1 ((c : Int) + 1)).1 x 1) = ((c : Int) + 1) from jW_s]
            show jWp 92 77 [some (jO x), some (jI l), some (jI f)] [jI ((c : Int) + 1)] 0 0 (jW (M1, w.2) x 1 ((c : Int) + 1)) _
            refine jWp.blk mt 2 ?_
            show jWp 92 79 [some (jO x), some (jI l), some (jI f)] [jI (((c : Int) + 1) - 1)] 0 0 (jW (M1, w.2) x 1 ((c : Int) + 1)) _
            refine jWp.ireti mt rfl ⟨rfl, rfl⟩ rfl ?_
            refine ⟨fun c0 => ?_, fun c0 c1 => ?_, fun c0 c1 c2 => ?_, fun c0 c1 c2 => ?_⟩
            all_goals first
            | (exfalso; omega)
            | exact ⟨rfl, rfl⟩
            | exact ⟨by rw [show ((c : Int) + 1) - 1 = (c : Int) by omega], rfl, fun b g0 g1 g2 g3 => (jW_f g0).trans (hf1 b g1 g2 g3), fun j hj => (jW_k hj).trans (congrFun (hf1 x (by omega) (by omega) (by omega)) j), jW_s, cRo_k (jW_f (by omega)) (jW_f (by omega)) (jW_f (by omega)) hcr⟩
          · have h5 : 4 ≤ (c : Int) := h5
            refine jWp.blk mt 2 ?_
            show _ ∧ jWp 92 45 [some (jO x), some (jI l), some (jI f)] [jI (-6), jO x] 0 0 w _
            refine ⟨rfl, ?_⟩
            refine jWp.callv (as := [jO x, jI (-6)]) (rest := []) mt rfl rfl rfl ⟨rfl, jtg hX.X0⟩ ?_
            refine jCall.mono (C_refuse (w := w) (j := 5) hX (by decide) (by decide)) (fun v9 w9 h9 => ?_)
            obtain ⟨rfl, h9⟩ := h9
            subst h9
            show jWp 92 48 [some (jO x), some (jI l), some (jI f)] [jI (-6)] 0 0 (jW w (x + 362) 5 ((w.1 (x + 362) 5) + 1)) _
            refine jWp.ireti mt rfl ⟨rfl, rfl⟩ rfl ?_
            refine ⟨fun c0 => ?_, fun c0 c1 => ?_, fun c0 c1 c2 => ?_, fun c0 c1 c2 => ?_⟩
            all_goals first
            | (exfalso; omega)
            | exact ⟨rfl, rfl⟩
            | exact ⟨by rw [show ((c : Int) + 1) - 1 = (c : Int) by omega], rfl, fun b g0 g1 g2 g3 => (jW_f g0).trans (hf1 b g1 g2 g3), fun j hj => (jW_k hj).trans (congrFun (hf1 x (by omega) (by omega) (by omega)) j), jW_s, cRo_k (jW_f (by omega)) (jW_f (by omega)) (jW_f (by omega)) hcr⟩
      · have h3 : f < 0 := h3
        refine jWp.blk mt 2 ?_
        show _ ∧ jWp 92 24 [some (jO x), some (jI l), some (jI f)] [jI (-4), jO x] 0 0 w _
        refine ⟨rfl, ?_⟩
        refine jWp.callv (as := [jO x, jI (-4)]) (rest := []) mt rfl rfl rfl ⟨rfl, jtg hX.X0⟩ ?_
        refine jCall.mono (C_refuse (w := w) (j := 3) hX (by decide) (by decide)) (fun v9 w9 h9 => ?_)
        obtain ⟨rfl, h9⟩ := h9
        subst h9
        show jWp 92 27 [some (jO x), some (jI l), some (jI f)] [jI (-4)] 0 0 (jW w (x + 362) 3 ((w.1 (x + 362) 3) + 1)) _
        refine jWp.ireti mt rfl ⟨rfl, rfl⟩ rfl ?_
        refine ⟨fun c0 => ?_, fun c0 c1 => ?_, fun c0 c1 c2 => ?_, fun c0 c1 c2 => ?_⟩
        all_goals first
        | (exfalso; omega)
        | exact ⟨rfl, rfl⟩
        | exact ⟨by rw [show ((c : Int) + 1) - 1 = (c : Int) by omega], rfl, fun b g0 g1 g2 g3 => (jW_f g0).trans (hf1 b g1 g2 g3), fun j hj => (jW_k hj).trans (congrFun (hf1 x (by omega) (by omega) (by omega)) j), jW_s, cRo_k (jW_f (by omega)) (jW_f (by omega)) (jW_f (by omega)) hcr⟩
    · have h2 : 7 ≤ l := h2
      refine jWp.blk mt 2 ?_
      show _ ∧ jWp 92 13 [some (jO x), some (jI l), some (jI f)] [jI (-2), jO x] 0 0 w _
      refine ⟨rfl, ?_⟩
      refine jWp.callv (as := [jO x, jI (-2)]) (rest := []) mt rfl rfl rfl ⟨rfl, jtg hX.X0⟩ ?_
      refine jCall.mono (C_refuse (w := w) (j := 1) hX (by decide) (by decide)) (fun v9 w9 h9 => ?_)
      obtain ⟨rfl, h9⟩ := h9
      subst h9
      show jWp 92 16 [some (jO x), some (jI l), some (jI f)] [jI (-2)] 0 0 (jW w (x + 362) 1 ((w.1 (x + 362) 1) + 1)) _
      refine jWp.ireti mt rfl ⟨rfl, rfl⟩ rfl ?_
      refine ⟨fun c0 => ?_, fun c0 c1 => ?_, fun c0 c1 c2 => ?_, fun c0 c1 c2 => ?_⟩
      all_goals first
      | (exfalso; omega)
      | exact ⟨rfl, rfl⟩
      | exact ⟨by rw [show ((c : Int) + 1) - 1 = (c : Int) by omega], rfl, fun b g0 g1 g2 g3 => (jW_f g0).trans (hf1 b g1 g2 g3), fun j hj => (jW_k hj).trans (congrFun (hf1 x (by omega) (by omega) (by omega)) j), jW_s, cRo_k (jW_f (by omega)) (jW_f (by omega)) (jW_f (by omega)) hcr⟩
set_option maxHeartbeats 4000000 in
set_option maxRecDepth 20000 in
theorem C_start {w : jS} {x : Nat} (hX : CW w.2 x) {c : Nat} {R : Nat → Int} (hR : zRw R c) (hRW : cRW w x R c) (hO : jOK w) (hao : w.2.2.2.2 < x ∨ x + 392 ≤ w.2.2.2.2) {a i y : Int} (hra : r32 a) (hri : r32 i) (hry : r32 y) : jCall 93 [jO x, jI a, jI i, jI y] w (fun v w1 => ((¬ (0 ≤ a ∧ a < (c : Int))) → cno w x 0 (jI (-1)) v w1) ∧ (¬ (¬ (0 ≤ a ∧ a < (c : Int))) → (i < 0 ∨ y < 1) → cno w x 3 (jI (-4)) v w1) ∧ (¬ (¬ (0 ≤ a ∧ a < (c : Int))) → ¬ (i < 0 ∨ y < 1) → (zO (R (1 + 10 * a.toNat)) ≤ i ∨ 9 < y) → cno w x 5 (jI (-6)) v w1) ∧ (¬ (¬ (0 ≤ a ∧ a < (c : Int))) → ¬ (i < 0 ∨ y < 1) → ¬ (zO (R (1 + 10 * a.toNat)) ≤ i ∨ 9 < y) → v = some (jI (R (3 + 10 * a.toNat + i.toNat))) ∧ w1.2 = w.2 ∧ (∀ b, b ≠ (x + (363 + 6 * a.toNat)) → b ≠ (x + (364 + 6 * a.toNat)) → b ≠ (x + (365 + 6 * a.toNat)) → w1.1 b = w.1 b) ∧ cRo w1 (x + (363 + 6 * a.toNat)) (x + (364 + 6 * a.toNat)) (x + (365 + 6 * a.toNat)) (R (1 + 10 * a.toNat)) (R (2 + 10 * a.toNat)) (zset (fun z => R (3 + 10 * a.toNat + z)) i.toNat y))) := by
  have mt : jtb 93 = jT93 := rfl
  have hc4 := hR.2.1
  have hra1 : -2147483648 ≤ a ∧ a < 2147483648 := hra
  have hri1 : -2147483648 ≤ i ∧ i < 2147483648 := hri
  have hry1 : -2147483648 ≤ y ∧ y < 2147483648 := hry
  show jWp 93 0 [some (jO x), some (jI a), some (jI i), some (jI y)] [] 0 0 w _
  refine jWp.blk mt 2 ?_
  show _ ∧ jWp 93 2 [some (jO x), some (jI a), some (jI i), some (jI y)] [jI a, jO x] 0 0 w _
  refine ⟨rfl, ?_⟩
  refine jWp.callv (as := [jO x, jI a]) (rest := []) mt rfl rfl rfl ⟨rfl, jtg hX.X0⟩ ?_
  refine jCall.mono (C_isRow (w := w) hX hRW.1 hR.2.1 hra) (fun v9 w9 h9 => ?_)
  rcases h9 with ⟨rfl, h9, h1⟩ | ⟨rfl, h9, h1⟩ <;> subst w9
  · have h1 : 0 ≤ a ∧ a < (c : Int) := h1
    show jWp 93 5 [some (jO x), some (jI a), some (jI i), some (jI y)] [jI 1] 0 0 w _
    obtain ⟨a1, rfl⟩ : ∃ a1 : Nat, a = (a1 : Int) := ⟨a.toNat, by omega⟩
    show jWp 93 5 [some (jO x), some (jI (a1 : Int)), some (jI i), some (jI y)] [jI 1] 0 0 w _
    obtain ⟨hlaw, hfig, hst, len, why, left, hlen, hwhy, hleft, hgr, hen⟩ := hRW.2 a1 (by omega)
    have hTR : zTR R a1 (w.1 (x + (365 + 6 * a1))) len why left := ⟨hgr, hen⟩
    have hTb := zTR_b hR (by omega) hTR
    have hRl := hR.2.2 a1 (by omega)
    show jWp 93 5 [some (jO x), some (jI (a1 : Int)), some (jI i), some (jI y)] [jI 1] 0 0 w _
    refine jWp.ifc (b := true) mt rfl (by decide) rfl ?_
    show jWp 93 14 [some (jO x), some (jI (a1 : Int)), some (jI i), some (jI y)] [] 0 0 w _
    refine jWp.blk mt 1 ?_
    show jWp 93 15 [some (jO x), some (jI (a1 : Int)), some (jI i), some (jI y)] [jI i] 0 0 w _
    refine jWp.ifz (pc' := 18) mt rfl rfl (b32_id (by omega) (by omega)) (fun h2 => ?_) (fun h2 => ?_)
    · have h2 : i < 0 := h2
      refine jWp.blk mt 2 ?_
      show _ ∧ jWp 93 26 [some (jO x), some (jI (a1 : Int)), some (jI i), some (jI y)] [jI (-4), jO x] 0 0 w _
      refine ⟨rfl, ?_⟩
      refine jWp.callv (as := [jO x, jI (-4)]) (rest := []) mt rfl rfl rfl ⟨rfl, jtg hX.X0⟩ ?_
      refine jCall.mono (C_refuse (w := w) (j := 3) hX (by decide) (by decide)) (fun v9 w9 h9 => ?_)
      obtain ⟨rfl, h9⟩ := h9
      subst h9
      show jWp 93 29 [some (jO x), some (jI (a1 : Int)), some (jI i), some (jI y)] [jI (-4)] 0 0 (jW w (x + 362) 3 ((w.1 (x + 362) 3) + 1)) _
      refine jWp.ireti mt rfl ⟨rfl, rfl⟩ rfl ?_
      try rw [show ((a1 : Nat) : Int).toNat = a1 from rfl]
      refine ⟨fun c0 => ?_, fun c0 c1 => ?_, fun c0 c1 c2 => ?_, fun c0 c1 c2 => ?_⟩
      all_goals first
      | (exfalso; omega)
      | exact ⟨rfl, rfl⟩
      | exact ⟨rfl, rfl, hf1, hcr⟩
    · have h2 : 0 ≤ i := h2
      refine jWp.blk mt 2 ?_
      show jWp 93 20 [some (jO x), some (jI (a1 : Int)), some (jI i), some (jI y)] [jI 1, jI y] 0 0 w _
      refine jWp.icmp (pc' := 23) mt rfl rfl (b32_id (by omega) (by omega)) (show b32 1 = 1 by decide) (fun h3 => ?_) (fun h3 => ?_)
      · have h3 : 1 ≤ y := h3
        refine jWp.blk mt 2 ?_
        show _ ∧ jWp 93 32 [some (jO x), some (jI (a1 : Int)), some (jI i), some (jI y)] [jO x, jI i] 0 0 w _
        refine ⟨rfl, ?_⟩
        refine jWp.getR (pc' := 35) (o := (x + 1)) mt rfl rfl (jtg hX.X0) hX.R0 ?_
        show jWp 93 35 [some (jO x), some (jI (a1 : Int)), some (jI i), some (jI y)] [jO (x + 1), jI i] 0 0 w _
        refine jWp.blk mt 1 ?_
        show jWp 93 36 [some (jO x), some (jI (a1 : Int)), some (jI i), some (jI y)] [jI (a1 : Int), jO (x + 1), jI i] 0 0 w _
        refine jWp.aald (pc' := 37) (j := a1) (o := (x + (363 + 6 * a1))) mt rfl rfl (jrg hX.X1 (by decide) (by decide)) (by rw [b32_id (by omega) (by omega)] <;> omega) (jlt hX.X1 (by omega)) (hX.RR a1 (by omega)) ?_
        show jWp 93 37 [some (jO x), some (jI (a1 : Int)), some (jI i), some (jI y)] [jO (x + (363 + 6 * a1)), jI i] 0 0 w _
        refine jWp.callv (as := [jO (x + (363 + 6 * a1))]) (rest := [jI i]) mt rfl rfl rfl ⟨rfl, jtg (hX.KR a1 (by omega))⟩ ?_
        refine jCall.mono (E_ord (w := w) (r := x + (363 + 6 * a1)) (hX.KR a1 (by omega)) hO hlaw hRl.1.1 hRl.1.2) (fun v9 w9 h9 => ?_)
        obtain ⟨rfl, h9⟩ := h9
        subst w9
        show jWp 93 40 [some (jO x), some (jI (a1 : Int)), some (jI i), some (jI y)] [jI (zO (R (1 + 10 * a1))), jI i] 0 0 w _
        have hzo := zO_b hRl.1.1 hRl.1.2
        refine jWp.icmp (pc' := 43) mt rfl rfl (b32_id (by omega) (by omega)) (b32_id (by omega) (by omega)) (fun h4 => ?_) (fun h4 => ?_)
        · have h4 : (zO (R (1 + 10 * a1))) ≤ i := h4
          refine jWp.blk mt 2 ?_
          show _ ∧ jWp 93 52 [some (jO x), some (jI (a1 : Int)), some (jI i), some (jI y)] [jI (-6), jO x] 0 0 w _
          refine ⟨rfl, ?_⟩
          refine jWp.callv (as := [jO x, jI (-6)]) (rest := []) mt rfl rfl rfl ⟨rfl, jtg hX.X0⟩ ?_
          refine jCall.mono (C_refuse (w := w) (j := 5) hX (by decide) (by decide)) (fun v9 w9 h9 => ?_)
          obtain ⟨rfl, h9⟩ := h9
          subst h9
          show jWp 93 55 [some (jO x), some (jI (a1 : Int)), some (jI i), some (jI y)] [jI (-6)] 0 0 (jW w (x + 362) 5 ((w.1 (x + 362) 5) + 1)) _
          refine jWp.ireti mt rfl ⟨rfl, rfl⟩ rfl ?_
          try rw [show ((a1 : Nat) : Int).toNat = a1 from rfl]
          refine ⟨fun c0 => ?_, fun c0 c1 => ?_, fun c0 c1 c2 => ?_, fun c0 c1 c2 => ?_⟩
          all_goals first
          | (exfalso; omega)
          | exact ⟨rfl, rfl⟩
          | exact ⟨rfl, rfl, hf1, hcr⟩
        · have h4 : i < (zO (R (1 + 10 * a1))) := h4
          refine jWp.blk mt 2 ?_
          show jWp 93 46 [some (jO x), some (jI (a1 : Int)), some (jI i), some (jI y)] [jI 9, jI y] 0 0 w _
          refine jWp.icmp (pc' := 49) mt rfl rfl (b32_id (by omega) (by omega)) (show b32 9 = 9 by decide) (fun h5 => ?_) (fun h5 => ?_)
          · have h5 : y ≤ 9 := h5
            obtain ⟨i1, rfl⟩ : ∃ i1 : Nat, i = (i1 : Int) := ⟨i.toNat, by omega⟩
            show jWp 93 56 [some (jO x), some (jI (a1 : Int)), some (jI (i1 : Int)), some (jI y)] [] 0 0 w _
            refine jWp.blk mt 1 ?_
            show _ ∧ jWp 93 57 [some (jO x), some (jI (a1 : Int)), some (jI (i1 : Int)), some (jI y)] [jO x] 0 0 w _
            refine ⟨rfl, ?_⟩
            refine jWp.getR (pc' := 60) (o := (x + 1)) mt rfl rfl (jtg hX.X0) hX.R0 ?_
            show jWp 93 60 [some (jO x), some (jI (a1 : Int)), some (jI (i1 : Int)), some (jI y)] [jO (x + 1)] 0 0 w _
            refine jWp.blk mt 1 ?_
            show jWp 93 61 [some (jO x), some (jI (a1 : Int)), some (jI (i1 : Int)), some (jI y)] [jI (a1 : Int), jO (x + 1)] 0 0 w _
            refine jWp.aald (pc' := 62) (j := a1) (o := (x + (363 + 6 * a1))) mt rfl rfl (jrg hX.X1 (by decide) (by decide)) (by rw [b32_id (by omega) (by omega)] <;> omega) (jlt hX.X1 (by omega)) (hX.RR a1 (by omega)) ?_
            show jWp 93 62 [some (jO x), some (jI (a1 : Int)), some (jI (i1 : Int)), some (jI y)] [jO (x + (363 + 6 * a1))] 0 0 w _
            refine jWp.blk mt 2 ?_
            show jWp 93 64 [some (jO x), some (jI (a1 : Int)), some (jI (i1 : Int)), some (jI y)] [jI y, jI (i1 : Int), jO (x + (363 + 6 * a1))] 0 0 w _
            refine jWp.callv (as := [jO (x + (363 + 6 * a1)), jI (i1 : Int), jI y]) (rest := []) mt rfl rfl rfl ⟨rfl, jtg (hX.KR a1 (by omega))⟩ ?_
            refine jCall.mono (C_tellStart (w := w) (r := x + (363 + 6 * a1)) (rs := x + (364 + 6 * a1)) (rt := x + (365 + 6 * a1)) (hX.KR a1 (by omega)) (hX.KRs a1 (by omega)) (hX.KRt a1 (by omega)) (hX.RRs a1 (by omega)) (hX.RRt a1 (by omega)) hO hlaw hRl.1.1 hRl.1.2 hfig hRl.2.1 (s := fun z => R (3 + 10 * a1 + z)) hst hRl.2.2 (i := i1) (v := y) (by omega) (by omega)) (fun v9 w9 h9 => ?_)
            obtain ⟨rfl, hbf, hcr⟩ := h9
            obtain ⟨M1, G9⟩ := w9
            have hg : G9 = w.2 := hbf.1
            subst hg
            have hf1 := hbf.2
            show jWp 93 67 [some (jO x), some (jI (a1 : Int)), some (jI (i1 : Int)), some (jI y)] [jI (R (3 + 10 * a1 + i1))] 0 0 (M1, w.2) _
            refine jWp.ireti mt rfl ⟨rfl, rfl⟩ rfl ?_
            try rw [show ((a1 : Nat) : Int).toNat = a1 from rfl]
            refine ⟨fun c0 => ?_, fun c0 c1 => ?_, fun c0 c1 c2 => ?_, fun c0 c1 c2 => ?_⟩
            all_goals first
            | (exfalso; omega)
            | exact ⟨rfl, rfl⟩
            | exact ⟨rfl, rfl, hf1, hcr⟩
          · have h5 : 9 < y := h5
            refine jWp.blk mt 2 ?_
            show _ ∧ jWp 93 52 [some (jO x), some (jI (a1 : Int)), some (jI i), some (jI y)] [jI (-6), jO x] 0 0 w _
            refine ⟨rfl, ?_⟩
            refine jWp.callv (as := [jO x, jI (-6)]) (rest := []) mt rfl rfl rfl ⟨rfl, jtg hX.X0⟩ ?_
            refine jCall.mono (C_refuse (w := w) (j := 5) hX (by decide) (by decide)) (fun v9 w9 h9 => ?_)
            obtain ⟨rfl, h9⟩ := h9
            subst h9
            show jWp 93 55 [some (jO x), some (jI (a1 : Int)), some (jI i), some (jI y)] [jI (-6)] 0 0 (jW w (x + 362) 5 ((w.1 (x + 362) 5) + 1)) _
            refine jWp.ireti mt rfl ⟨rfl, rfl⟩ rfl ?_
            try rw [show ((a1 : Nat) : Int).toNat = a1 from rfl]
            refine ⟨fun c0 => ?_, fun c0 c1 => ?_, fun c0 c1 c2 => ?_, fun c0 c1 c2 => ?_⟩
            all_goals first
            | (exfalso; omega)
            | exact ⟨rfl, rfl⟩
            | exact ⟨rfl, rfl, hf1, hcr⟩
      · have h3 : y < 1 := h3
        refine jWp.blk mt 2 ?_
        show _ ∧ jWp 93 26 [some (jO x), some (jI (a1 : Int)), some (jI i), some (jI y)] [jI (-4), jO x] 0 0 w _
        refine ⟨rfl, ?_⟩
        refine jWp.callv (as := [jO x, jI (-4)]) (rest := []) mt rfl rfl rfl ⟨rfl, jtg hX.X0⟩ ?_
        refine jCall.mono (C_refuse (w := w) (j := 3) hX (by decide) (by decide)) (fun v9 w9 h9 => ?_)
        obtain ⟨rfl, h9⟩ := h9
        subst h9
        show jWp 93 29 [some (jO x), some (jI (a1 : Int)), some (jI i), some (jI y)] [jI (-4)] 0 0 (jW w (x + 362) 3 ((w.1 (x + 362) 3) + 1)) _
        refine jWp.ireti mt rfl ⟨rfl, rfl⟩ rfl ?_
        try rw [show ((a1 : Nat) : Int).toNat = a1 from rfl]
        refine ⟨fun c0 => ?_, fun c0 c1 => ?_, fun c0 c1 c2 => ?_, fun c0 c1 c2 => ?_⟩
        all_goals first
        | (exfalso; omega)
        | exact ⟨rfl, rfl⟩
        | exact ⟨rfl, rfl, hf1, hcr⟩
  · have h1 : ¬ (0 ≤ a ∧ a < (c : Int)) := h1
    show jWp 93 5 [some (jO x), some (jI a), some (jI i), some (jI y)] [jI 0] 0 0 w _
    refine jWp.ifc (b := false) mt rfl (by decide) rfl ?_
    show jWp 93 8 [some (jO x), some (jI a), some (jI i), some (jI y)] [] 0 0 w _
    refine jWp.blk mt 2 ?_
    show _ ∧ jWp 93 10 [some (jO x), some (jI a), some (jI i), some (jI y)] [jI (-1), jO x] 0 0 w _
    refine ⟨rfl, ?_⟩
    refine jWp.callv (as := [jO x, jI (-1)]) (rest := []) mt rfl rfl rfl ⟨rfl, jtg hX.X0⟩ ?_
    refine jCall.mono (C_refuse (w := w) (j := 0) hX (by decide) (by decide)) (fun v9 w9 h9 => ?_)
    obtain ⟨rfl, h9⟩ := h9
    subst h9
    show jWp 93 13 [some (jO x), some (jI a), some (jI i), some (jI y)] [jI (-1)] 0 0 (jW w (x + 362) 0 ((w.1 (x + 362) 0) + 1)) _
    refine jWp.ireti mt rfl ⟨rfl, rfl⟩ rfl ?_
    try rw [show ((a1 : Nat) : Int).toNat = a1 from rfl]
    refine ⟨fun c0 => ?_, fun c0 c1 => ?_, fun c0 c1 c2 => ?_, fun c0 c1 c2 => ?_⟩
    all_goals first
    | (exfalso; omega)
    | exact ⟨rfl, rfl⟩
    | exact ⟨rfl, rfl, hf1, hcr⟩
set_option maxHeartbeats 4000000 in
set_option maxRecDepth 20000 in
theorem C_image {w : jS} {x : Nat} (hX : CW w.2 x) {c : Nat} {R : Nat → Int} (hR : zRw R c) (hRW : cRW w x R c) (hO : jOK w) (hao : w.2.2.2.2 < x ∨ x + 392 ≤ w.2.2.2.2) : jCall 125 [jO x] w (fun v w1 => v = some (jI (c : Int)) ∧ w1.2 = w.2 ∧ (∀ b, b ≠ x → b ≠ x + 5 → b ≠ x + 6 → (∀ y, y < 4 → b ≠ x + (366 + 6 * y) ∧ b ≠ x + (367 + 6 * y) ∧ b ≠ x + (368 + 6 * y)) → w1.1 b = w.1 b) ∧ (∀ j, j ≠ 3 → w1.1 x j = w.1 x j) ∧ w1.1 x 3 = (c : Int) ∧ (∀ y, y < c → cRo w1 (x + (366 + 6 * y)) (x + (367 + 6 * y)) (x + (368 + 6 * y)) (R (1 + 10 * y)) (R (2 + 10 * y)) (fun z => R (3 + 10 * y + z))) ∧ cpy w1.1 (x + 5) (x + 6) w.1 (x + 3) (x + 4)) := by
  have mt : jtb 125 = jT125 := rfl
  have hc4 := hR.2.1
  show jWp 125 0 [some (jO x), none] [] 0 0 w _
  refine jWp.blk mt 2 ?_
  show jWp 125 2 [some (jO x), some (jI 0)] [] 0 0 w _
  have lp1 : ∀ (N : Nat) (i : Nat) (M1 : Nat → Nat → Int) (hi : i ≤ c) (hfr : ∀ b, (∀ y, y < 4 → b ≠ x + (366 + 6 * y) ∧ b ≠ x + (367 + 6 * y) ∧ b ≠ x + (368 + 6 * y)) → M1 b = w.1 b) (hdn : ∀ y, y < i → cRo ((M1, w.2) : jS) (x + (366 + 6 * y)) (x + (367 + 6 * y)) (x + (368 + 6 * y)) (R (1 + 10 * y)) (R (2 + 10 * y)) (fun z => R (3 + 10 * y + z))), c - i < N → jWp 125 2 [some (jO x), some (jI (i : Int))] [] 0 0 (M1, w.2) (fun v w1 => v = some (jI (c : Int)) ∧ w1.2 = w.2 ∧ (∀ b, b ≠ x → b ≠ x + 5 → b ≠ x + 6 → (∀ y, y < 4 → b ≠ x + (366 + 6 * y) ∧ b ≠ x + (367 + 6 * y) ∧ b ≠ x + (368 + 6 * y)) → w1.1 b = w.1 b) ∧ (∀ j, j ≠ 3 → w1.1 x j = w.1 x j) ∧ w1.1 x 3 = (c : Int) ∧ (∀ y, y < c → cRo w1 (x + (366 + 6 * y)) (x + (367 + 6 * y)) (x + (368 + 6 * y)) (R (1 + 10 * y)) (R (2 + 10 * y)) (fun z => R (3 + 10 * y + z))) ∧ cpy w1.1 (x + 5) (x + 6) w.1 (x + 3) (x + 4)) := by
    intro N
    induction N with
    | zero => intro i M1 hi hfr hdn hm; omega
    | succ N ih2 =>
      intro i M1 hi hfr hdn hm
      have hri := fun h : i < c => hRW.2 i h
      have hRi := fun h : i < c => hR.2.2 i h
      refine jWp.blk mt 2 ?_
      show _ ∧ jWp 125 4 [some (jO x), some (jI (i : Int))] [jO x, jI (i : Int)] 0 0 (M1, w.2) _
      refine ⟨rfl, ?_⟩
      refine jWp.getI (pc' := 7) mt rfl rfl (jtg hX.X0) ?_
      rw [show ((M1, w.2).1 x 1) = (c : Int) from ((congrFun (hfr x (fun y hy => by omega)) 1).trans hRW.1)]
      show jWp 125 7 [some (jO x), some (jI (i : Int))] [jI (c : Int), jI (i : Int)] 0 0 (M1, w.2) _
      refine jWp.icmp (pc' := 10) mt rfl rfl (b32_id (by omega) (by omega)) (b32_id (by omega) (by omega)) (fun h3 => ?_) (fun h3 => ?_)
      · have h3 : (c : Int) ≤ (i : Int) := h3
        refine jWp.blk mt 2 ?_
        show _ ∧ _ ∧ jWp 125 38 [some (jO x), some (jI (i : Int))] [jO x, jO x] 0 0 (M1, w.2) _
        refine ⟨rfl, rfl, ?_⟩
        refine jWp.getI (pc' := 41) mt rfl rfl (jtg hX.X0) ?_
        rw [show ((M1, w.2).1 x 1) = (c : Int) from ((congrFun (hfr x (fun y hy => by omega)) 1).trans hRW.1)]
        show jWp 125 41 [some (jO x), some (jI (i : Int))] [jI (c : Int), jO x] 0 0 (M1, w.2) _
        refine jWp.putI (pc' := 44) mt rfl rfl (jtg hX.X0) ?_
        show jWp 125 44 [some (jO x), some (jI (i : Int))] [] 0 0 (jW (M1, w.2) x 3 (c : Int)) _
        refine jWp.blk mt 1 ?_
        show _ ∧ jWp 125 45 [some (jO x), some (jI (i : Int))] [jO x] 0 0 (jW (M1, w.2) x 3 (c : Int)) _
        refine ⟨rfl, ?_⟩
        refine jWp.getR (pc' := 48) (o := (x + 5)) mt rfl rfl (jtg hX.X0) hX.R5 ?_
        show jWp 125 48 [some (jO x), some (jI (i : Int))] [jO (x + 5)] 0 0 (jW (M1, w.2) x 3 (c : Int)) _
        refine jWp.blk mt 1 ?_
        show _ ∧ jWp 125 49 [some (jO x), some (jI (i : Int))] [jO x, jO (x + 5)] 0 0 (jW (M1, w.2) x 3 (c : Int)) _
        refine ⟨rfl, ?_⟩
        refine jWp.getR (pc' := 52) (o := (x + 3)) mt rfl rfl (jtg hX.X0) hX.R4 ?_
        show jWp 125 52 [some (jO x), some (jI (i : Int))] [jO (x + 3), jO (x + 5)] 0 0 (jW (M1, w.2) x 3 (c : Int)) _
        refine jWp.callv (as := [jO (x + 5), jO (x + 3)]) (rest := []) mt rfl rfl rfl ⟨rfl, jtg hX.X5⟩ ?_
        refine jCall.mono (C_become (w := (jW (M1, w.2) x 3 (c : Int))) (s := x + 5) (sc := x + 6) hX.X5 hX.X6 hX.Ri (s2 := x + 3) (sc2 := x + 4) hX.X3 hX.X4 hX.Rc rfl) (fun v9 w9 h9 => ?_)
        obtain ⟨rfl, hbf, hn3, hc3⟩ := h9
        obtain ⟨M3, G9⟩ := w9
        have hg : G9 = w.2 := hbf.1
        subst hg
        have hf3 := hbf.2
        show jWp 125 55 [some (jO x), some (jI (i : Int))] [] 0 0 (M3, w.2) _
        refine jWp.blk mt 1 ?_
        show _ ∧ jWp 125 56 [some (jO x), some (jI (i : Int))] [jO x] 0 0 (M3, w.2) _
        refine ⟨rfl, ?_⟩
        refine jWp.getI (pc' := 59) mt rfl rfl (jtg hX.X0) ?_
        rw [show ((M3, w.2).1 x 1) = (c : Int) from ((congrFun (hf3 x (by omega) (by omega)) 1).trans ((jW_k (by decide)).trans ((congrFun (hfr x (fun y hy => by omega)) 1).trans hRW.1)))]
        show jWp 125 59 [some (jO x), some (jI (i : Int))] [jI (c : Int)] 0 0 (M3, w.2) _
        refine jWp.ireti mt rfl ⟨rfl, rfl⟩ rfl ?_
        have hfx : ∀ b, b ≠ x → b ≠ x + 5 → b ≠ x + 6 → M3 b = M1 b := fun b g0 g1 g2 => (hf3 b g1 g2).trans (jW_f g0)
        refine ⟨rfl, rfl, fun b g0 g1 g2 g3 => (hfx b g0 g1 g2).trans (hfr b g3), fun j hj => (congrFun (hf3 x (by omega) (by omega)) j).trans ((jW_k hj).trans (congrFun (hfr x (fun y hy => by omega)) j)), (congrFun (hf3 x (by omega) (by omega)) 3).trans jW_s, fun y hy => cRo_k (hfx _ (by omega) (by omega) (by omega)) (hfx _ (by omega) (by omega) (by omega)) (hfx _ (by omega) (by omega) (by omega)) (hdn y (by omega)), ?_, fun j hj => ?_⟩
        · exact hn3.trans ((jW_a (by omega)).trans (congrFun (hfr (x + 3) (fun y hy => by omega)) 0))
        · exact (hc3 j hj).trans ((jW_a (by omega)).trans (congrFun (hfr (x + 4) (fun y hy => by omega)) j))
      · have h3 : (i : Int) < (c : Int) := h3
        refine jWp.blk mt 2 ?_
        show jWp 125 12 [some (jO x), some (jI (i : Int))] [jI 4, jI (i : Int)] 0 0 (M1, w.2) _
        refine jWp.icmp (pc' := 15) mt rfl rfl (b32_id (by omega) (by omega)) (show b32 4 = 4 by decide) (fun h4 => ?_) (fun h4 => ?_)
        · have h4 : 4 ≤ (i : Int) := h4
          refine jWp.blk mt 2 ?_
          show _ ∧ _ ∧ jWp 125 38 [some (jO x), some (jI (i : Int))] [jO x, jO x] 0 0 (M1, w.2) _
          refine ⟨rfl, rfl, ?_⟩
          refine jWp.getI (pc' := 41) mt rfl rfl (jtg hX.X0) ?_
          rw [show ((M1, w.2).1 x 1) = (c : Int) from ((congrFun (hfr x (fun y hy => by omega)) 1).trans hRW.1)]
          show jWp 125 41 [some (jO x), some (jI (i : Int))] [jI (c : Int), jO x] 0 0 (M1, w.2) _
          refine jWp.putI (pc' := 44) mt rfl rfl (jtg hX.X0) ?_
          show jWp 125 44 [some (jO x), some (jI (i : Int))] [] 0 0 (jW (M1, w.2) x 3 (c : Int)) _
          refine jWp.blk mt 1 ?_
          show _ ∧ jWp 125 45 [some (jO x), some (jI (i : Int))] [jO x] 0 0 (jW (M1, w.2) x 3 (c : Int)) _
          refine ⟨rfl, ?_⟩
          refine jWp.getR (pc' := 48) (o := (x + 5)) mt rfl rfl (jtg hX.X0) hX.R5 ?_
          show jWp 125 48 [some (jO x), some (jI (i : Int))] [jO (x + 5)] 0 0 (jW (M1, w.2) x 3 (c : Int)) _
          refine jWp.blk mt 1 ?_
          show _ ∧ jWp 125 49 [some (jO x), some (jI (i : Int))] [jO x, jO (x + 5)] 0 0 (jW (M1, w.2) x 3 (c : Int)) _
          refine ⟨rfl, ?_⟩
          refine jWp.getR (pc' := 52) (o := (x + 3)) mt rfl rfl (jtg hX.X0) hX.R4 ?_
          show jWp 125 52 [some (jO x), some (jI (i : Int))] [jO (x + 3), jO (x + 5)] 0 0 (jW (M1, w.2) x 3 (c : Int)) _
          refine jWp.callv (as := [jO (x + 5), jO (x + 3)]) (rest := []) mt rfl rfl rfl ⟨rfl, jtg hX.X5⟩ ?_
          refine jCall.mono (C_become (w := (jW (M1, w.2) x 3 (c : Int))) (s := x + 5) (sc := x + 6) hX.X5 hX.X6 hX.Ri (s2 := x + 3) (sc2 := x + 4) hX.X3 hX.X4 hX.Rc rfl) (fun v9 w9 h9 => ?_)
          obtain ⟨rfl, hbf, hn3, hc3⟩ := h9
          obtain ⟨M3, G9⟩ := w9
          have hg : G9 = w.2 := hbf.1
          subst hg
          have hf3 := hbf.2
          show jWp 125 55 [some (jO x), some (jI (i : Int))] [] 0 0 (M3, w.2) _
          refine jWp.blk mt 1 ?_
          show _ ∧ jWp 125 56 [some (jO x), some (jI (i : Int))] [jO x] 0 0 (M3, w.2) _
          refine ⟨rfl, ?_⟩
          refine jWp.getI (pc' := 59) mt rfl rfl (jtg hX.X0) ?_
          rw [show ((M3, w.2).1 x 1) = (c : Int) from ((congrFun (hf3 x (by omega) (by omega)) 1).trans ((jW_k (by decide)).trans ((congrFun (hfr x (fun y hy => by omega)) 1).trans hRW.1)))]
          show jWp 125 59 [some (jO x), some (jI (i : Int))] [jI (c : Int)] 0 0 (M3, w.2) _
          refine jWp.ireti mt rfl ⟨rfl, rfl⟩ rfl ?_
          have hfx : ∀ b, b ≠ x → b ≠ x + 5 → b ≠ x + 6 → M3 b = M1 b := fun b g0 g1 g2 => (hf3 b g1 g2).trans (jW_f g0)
          refine ⟨rfl, rfl, fun b g0 g1 g2 g3 => (hfx b g0 g1 g2).trans (hfr b g3), fun j hj => (congrFun (hf3 x (by omega) (by omega)) j).trans ((jW_k hj).trans (congrFun (hfr x (fun y hy => by omega)) j)), (congrFun (hf3 x (by omega) (by omega)) 3).trans jW_s, fun y hy => cRo_k (hfx _ (by omega) (by omega) (by omega)) (hfx _ (by omega) (by omega) (by omega)) (hfx _ (by omega) (by omega) (by omega)) (hdn y (by omega)), ?_, fun j hj => ?_⟩
          · exact hn3.trans ((jW_a (by omega)).trans (congrFun (hfr (x + 3) (fun y hy => by omega)) 0))
          · exact (hc3 j hj).trans ((jW_a (by omega)).trans (congrFun (hfr (x + 4) (fun y hy => by omega)) j))
        · have h4 : (i : Int) < 4 := h4
          refine jWp.blk mt 1 ?_
          show _ ∧ jWp 125 16 [some (jO x), some (jI (i : Int))] [jO x] 0 0 (M1, w.2) _
          refine ⟨rfl, ?_⟩
          refine jWp.getR (pc' := 19) (o := (x + 2)) mt rfl rfl (jtg hX.X0) hX.R2 ?_
          show jWp 125 19 [some (jO x), some (jI (i : Int))] [jO (x + 2)] 0 0 (M1, w.2) _
          refine jWp.blk mt 1 ?_
          show jWp 125 20 [some (jO x), some (jI (i : Int))] [jI (i : Int), jO (x + 2)] 0 0 (M1, w.2) _
          refine jWp.aald (pc' := 21) (j := i) (o := (x + (366 + 6 * i))) mt rfl rfl (jrg hX.X2 (by decide) (by decide)) (b32_id (by omega) (by omega)) (jlt hX.X2 (by omega)) (hX.RI i (by omega)) ?_
          show jWp 125 21 [some (jO x), some (jI (i : Int))] [jO (x + (366 + 6 * i))] 0 0 (M1, w.2) _
          refine jWp.blk mt 1 ?_
          show _ ∧ jWp 125 22 [some (jO x), some (jI (i : Int))] [jO x, jO (x + (366 + 6 * i))] 0 0 (M1, w.2) _
          refine ⟨rfl, ?_⟩
          refine jWp.getR (pc' := 25) (o := (x + 1)) mt rfl rfl (jtg hX.X0) hX.R0 ?_
          show jWp 125 25 [some (jO x), some (jI (i : Int))] [jO (x + 1), jO (x + (366 + 6 * i))] 0 0 (M1, w.2) _
          refine jWp.blk mt 1 ?_
          show jWp 125 26 [some (jO x), some (jI (i : Int))] [jI (i : Int), jO (x + 1), jO (x + (366 + 6 * i))] 0 0 (M1, w.2) _
          refine jWp.aald (pc' := 27) (j := i) (o := (x + (363 + 6 * i))) mt rfl rfl (jrg hX.X1 (by decide) (by decide)) (b32_id (by omega) (by omega)) (jlt hX.X1 (by omega)) (hX.RR i (by omega)) ?_
          show jWp 125 27 [some (jO x), some (jI (i : Int))] [jO (x + (363 + 6 * i)), jO (x + (366 + 6 * i))] 0 0 (M1, w.2) _
          refine jWp.callv (as := [jO (x + (366 + 6 * i)), jO (x + (363 + 6 * i))]) (rest := []) mt rfl rfl rfl ⟨rfl, jtg (hX.KI i (by omega))⟩ ?_
          refine jCall.mono (C_rbecome (w := (M1, w.2)) (r := x + (366 + 6 * i)) (rs := x + (367 + 6 * i)) (rt := x + (368 + 6 * i)) (hX.KI i (by omega)) (hX.KIs i (by omega)) (hX.KIt i (by omega)) (hX.RIs i (by omega)) (hX.RIt i (by omega)) (jOK_M hO (hfr _ (fun y hy => by omega))) (r2 := x + (363 + 6 * i)) (rs2 := x + (364 + 6 * i)) (rt2 := x + (365 + 6 * i)) (hX.KR i (by omega)) (hX.KRs i (by omega)) (hX.RRs i (by omega)) (hRi (by omega)).1.1 (hRi (by omega)).1.2 (hRi (by omega)).2.1 (s := fun z => R (3 + 10 * i + z)) (hRi (by omega)).2.2 (by omega) ((congrFun (hfr (x + (363 + 6 * i)) (fun y hy => by omega)) 0).trans (hri (by omega)).1) ((congrFun (hfr (x + (363 + 6 * i)) (fun y hy => by omega)) 1).trans (hri (by omega)).2.1) (fun z hz => (congrFun (hfr (x + (364 + 6 * i)) (fun y hy => by omega)) z).trans ((hri (by omega)).2.2.1 z hz))) (fun v9 w9 h9 => ?_)
          obtain ⟨rfl, hbf, hcr⟩ := h9
          obtain ⟨M2, G9⟩ := w9
          have hg : G9 = w.2 := hbf.1
          subst hg
          have hf2 := hbf.2
          show jWp 125 30 [some (jO x), some (jI (i : Int))] [] 0 0 (M2, w.2) _
          refine jWp.blk mt 2 ?_
          show jWp 125 2 [some (jO x), some (jI ((i : Int) + 1))] [] 0 0 (M2, w.2) _
          refine jWp.le (l := [some (jO x), some (jI ((i : Int) + 1))]) (by exact ⟨rfl, rfl, trivial⟩) ?_
          exact ih2 (i + 1) M2 (by omega) (fun b hb => (hf2 b (hb i (by omega)).1 (hb i (by omega)).2.1 (hb i (by omega)).2.2).trans (hfr b hb)) (fun y hy => by
                rcases Nat.lt_or_ge y i with e | e
                · exact cRo_k (hf2 _ (by omega) (by omega) (by omega)) (hf2 _ (by omega) (by omega) (by omega)) (hf2 _ (by omega) (by omega) (by omega)) (hdn y e)
                · rw [show y = i by omega]
                  exact hcr) (by omega)
  refine jWp.le (l := [some (jO x), some (jI 0)]) (by exact ⟨rfl, rfl, trivial⟩) ?_
  exact lp1 _ 0 w.1 (by omega) (fun b _ => rfl) (fun y hy => absurd hy (by omega)) (Nat.lt_succ_self _)
