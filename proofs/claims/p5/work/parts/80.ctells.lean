/-- all but what is done in thought stands as it was -/
def cq (w : jS) (x : Nat) (w1 : jS) : Prop := w1.2 = w.2 ∧ ∀ b, (b < x + 7 ∨ x + 339 ≤ b) → b ≠ x + 360 → b ≠ x + 361 → w1.1 b = w.1 b
theorem cq_0 {w : jS} {x : Nat} : cq w x w := ⟨rfl, fun _ _ _ _ => rfl⟩
/-- a refusal behind such work -/
def cnq (w : jS) (x j : Nat) (y : jV) (v : Option jV) (w1 : jS) : Prop := v = some y ∧ ∃ w2, cq w x w2 ∧ w1 = jW w2 (x + 362) j (w.1 (x + 362) j + 1)
theorem cnq_0 {w w1 : jS} {x j : Nat} {y : jV} {v : Option jV} (h : cno w x j y v w1) : cnq w x j y v w1 := ⟨h.1, w, cq_0, h.2⟩
/-- the past behind one more seed -/
def cpst (w : jS) (x u : Nat) (w1 : jS) : Prop := (u < 8 ∧ w1.1 (x + 341) 0 = (u : Int) + 1 ∧ (∀ y, y < u → w1.1 (x + 341 + (2 + 2 * y)) = w.1 (x + 341 + (2 + 2 * y)) ∧ w1.1 (x + 341 + (3 + 2 * y)) = w.1 (x + 341 + (3 + 2 * y))) ∧ cpy w1.1 (x + 341 + (2 + 2 * u)) (x + 341 + (3 + 2 * u)) w.1 (x + 3) (x + 4)) ∨ (u = 8 ∧ w1.1 (x + 341) 0 = 8 ∧ (∀ y, y < 7 → cpy w1.1 (x + 341 + (2 + 2 * y)) (x + 341 + (3 + 2 * y)) w.1 (x + 341 + (2 + 2 * (y + 1))) (x + 341 + (3 + 2 * (y + 1)))) ∧ cpy w1.1 (x + 341 + (2 + 2 * 7)) (x + 341 + (3 + 2 * 7)) w.1 (x + 3) (x + 4))
theorem cpst_k {w wA wB w1 : jS} {x u : Nat} (h : cpst wA x u wB) (hA : ∀ b, (b = x + 3 ∨ b = x + 4 ∨ (x + 341 ≤ b ∧ b < x + 359)) → wA.1 b = w.1 b) (hB : ∀ b, (x + 341 ≤ b ∧ b < x + 359) → w1.1 b = wB.1 b) (hu : u ≤ 8) : cpst w x u w1 := by
  have cp : ∀ a b c d, (x + 341 ≤ a ∧ a < x + 359) → (x + 341 ≤ b ∧ b < x + 359) → (c = x + 3 ∨ c = x + 4 ∨ (x + 341 ≤ c ∧ c < x + 359)) → (d = x + 3 ∨ d = x + 4 ∨ (x + 341 ≤ d ∧ d < x + 359)) → cpy wB.1 a b wA.1 c d → cpy w1.1 a b w.1 c d := fun a b c d ha hb hc hd g => by
    unfold cpy
    rw [hB a ha, hB b hb, ← hA c hc, ← hA d hd]
    exact g
  rcases h with ⟨a1, a2, a3, a4⟩ | ⟨a1, a2, a3, a4⟩
  · refine Or.inl ⟨a1, (congrFun (hB _ (by omega)) 0).trans a2, fun y hy => ?_, cp _ _ _ _ (by omega) (by omega) (by omega) (by omega) a4⟩
    rw [hB _ (by omega), hB _ (by omega), ← hA _ (by omega), ← hA _ (by omega)]
    exact a3 y hy
  · exact Or.inr ⟨a1, (congrFun (hB _ (by omega)) 0).trans a2, fun y hy => cp _ _ _ _ (by omega) (by omega) (by omega) (by omega) (a3 y hy), cp _ _ _ _ (by omega) (by omega) (by omega) (by omega) a4⟩
theorem cR_F {g : Prop} {C q : Nat → Int} {n : Nat} (h : cR g C q n) : cR False C q n := ⟨h.1, fun z => z.elim, h.2.2⟩
set_option maxHeartbeats 4000000 in
set_option maxRecDepth 20000 in
theorem C_seed {w : jS} {x : Nat} (hX : CW w.2 x) {n : Nat} {q : Nat → Int} {g : Prop} (hQ : zQ q n) (hn0 : w.1 (x + 3) 0 = (n : Int)) (hRR : cR g (w.1 (x + 4)) q n) {i : Int} (hri : r32 i) : jCall 101 [jO x, jI i] w (fun v w1 => ((i < 2) → cno w x 3 (jI (-4)) v w1) ∧ (¬ (i < 2) → (4 < i) → cno w x 5 (jI (-6)) v w1) ∧ (¬ (i < 2) → ¬ (4 < i) → v = some (jI (n : Int)) ∧ w1.2 = w.2 ∧ (∀ b, b ≠ x + 3 → b ≠ x + 4 → b ≠ x + 341 → w1.1 b = w.1 b) ∧ w1.1 (x + 341) 0 = 0 ∧ w1.1 (x + 3) 0 = i ∧ ∀ g, cR g (w1.1 (x + 4)) (zNw i.toNat) i.toNat)) := by
  have mt : jtb 101 = jT101 := rfl
  have hn2 := hQ.S.n2
  have hn4 := hQ.S.n4
  have hri1 : -2147483648 ≤ i ∧ i < 2147483648 := hri
  show jWp 101 0 [some (jO x), some (jI i), none] [] 0 0 w _
  refine jWp.blk mt 2 ?_
  show jWp 101 2 [some (jO x), some (jI i), none] [jI 2, jI i] 0 0 w _
  refine jWp.icmp (pc' := 5) mt rfl rfl (b32_id (by omega) (by omega)) (show b32 2 = 2 by decide) (fun h1 => ?_) (fun h1 => ?_)
  · have h1 : 2 ≤ i := h1
    refine jWp.blk mt 2 ?_
    show jWp 101 14 [some (jO x), some (jI i), none] [jI 4, jI i] 0 0 w _
    refine jWp.icmp (pc' := 17) mt rfl rfl (b32_id (by omega) (by omega)) (show b32 4 = 4 by decide) (fun h2 => ?_) (fun h2 => ?_)
    · have h2 : i ≤ 4 := h2
      refine jWp.blk mt 1 ?_
      show _ ∧ jWp 101 25 [some (jO x), some (jI i), none] [jO x] 0 0 w _
      refine ⟨rfl, ?_⟩
      refine jWp.getR (pc' := 28) (o := (x + 3)) mt rfl rfl (jtg hX.X0) hX.R4 ?_
      show jWp 101 28 [some (jO x), some (jI i), none] [jO (x + 3)] 0 0 w _
      refine jWp.getI (pc' := 31) mt rfl rfl (jtg hX.X3) ?_
      rw [show (w.1 (x + 3) 0) = (n : Int) from hn0]
      show jWp 101 31 [some (jO x), some (jI i), none] [jI (n : Int)] 0 0 w _
      refine jWp.blk mt 2 ?_
      show _ ∧ jWp 101 33 [some (jO x), some (jI i), some (jI (n : Int))] [jO x] 0 0 w _
      refine ⟨rfl, ?_⟩
      refine jWp.getR (pc' := 36) (o := (x + 3)) mt rfl rfl (jtg hX.X0) hX.R4 ?_
      show jWp 101 36 [some (jO x), some (jI i), some (jI (n : Int))] [jO (x + 3)] 0 0 w _
      refine jWp.blk mt 1 ?_
      show jWp 101 37 [some (jO x), some (jI i), some (jI (n : Int))] [jI i, jO (x + 3)] 0 0 w _
      refine jWp.callv (as := [jO (x + 3), jI i]) (rest := []) mt rfl rfl rfl ⟨rfl, jtg hX.X3⟩ ?_
      refine jCall.mono (C_clear (w := w) (s := x + 3) (sc := x + 4) hX.X3 hX.X4 hX.Rc hri) (fun v9 w9 h9 => ?_)
      obtain ⟨rfl, hbf, hb0, hbc⟩ := h9.1 (by omega)
      obtain ⟨M1, G9⟩ := w9
      have hg : G9 = w.2 := hbf.1
      subst hg
      show jWp 101 40 [some (jO x), some (jI i), some (jI (n : Int))] [jI 1] 0 0 (M1, w.2) _
      refine jWp.blk mt 2 ?_
      show _ ∧ jWp 101 42 [some (jO x), some (jI i), some (jI (n : Int))] [jO x] 0 0 (M1, w.2) _
      refine ⟨rfl, ?_⟩
      refine jWp.getR (pc' := 45) (o := (x + 341)) mt rfl rfl (jtg hX.X0) hX.R10 ?_
      show jWp 101 45 [some (jO x), some (jI i), some (jI (n : Int))] [jO (x + 341)] 0 0 (M1, w.2) _
      refine jWp.callv (as := [jO (x + 341)]) (rest := []) mt rfl rfl rfl ⟨rfl, jtg hX.XP.1⟩ ?_
      refine jCall.mono (C_pforget (w := (M1, w.2)) (pa := x + 341) hX.XP.1) (fun v9 w9 h9 => ?_)
      obtain ⟨rfl, h9⟩ := h9
      subst h9
      show jWp 101 48 [some (jO x), some (jI i), some (jI (n : Int))] [] 0 0 (jW (M1, w.2) (x + 341) 0 0) _
      refine jWp.blk mt 1 ?_
      show jWp 101 49 [some (jO x), some (jI i), some (jI (n : Int))] [jI (n : Int)] 0 0 (jW (M1, w.2) (x + 341) 0 0) _
      refine jWp.ireti mt rfl ⟨rfl, rfl⟩ rfl ?_
      refine ⟨fun c0 => ?_, fun c0 c1 => ?_, fun c0 c1 => ?_⟩
      all_goals first
      | (exfalso; omega)
      | exact ⟨rfl, rfl⟩
      | exact ⟨rfl, rfl, fun b g1 g2 g3 => (jW_f g3).trans (hbf.2 b g1 g2), jW_s, (jW_a (by omega)).trans hb0, fun g => by rw [show (jW (M1, w.2) (x + 341) 0 0).1 (x + 4) = M1 (x + 4) from jW_f (by omega)]; exact hbc g⟩
    · have h2 : 4 < i := h2
      refine jWp.blk mt 2 ?_
      show _ ∧ jWp 101 20 [some (jO x), some (jI i), none] [jI (-6), jO x] 0 0 w _
      refine ⟨rfl, ?_⟩
      refine jWp.callv (as := [jO x, jI (-6)]) (rest := []) mt rfl rfl rfl ⟨rfl, jtg hX.X0⟩ ?_
      refine jCall.mono (C_refuse (w := w) (j := 5) hX (by decide) (by decide)) (fun v9 w9 h9 => ?_)
      obtain ⟨rfl, h9⟩ := h9
      subst h9
      show jWp 101 23 [some (jO x), some (jI i), none] [jI (-6)] 0 0 (jW w (x + 362) 5 ((w.1 (x + 362) 5) + 1)) _
      refine jWp.ireti mt rfl ⟨rfl, rfl⟩ rfl ?_
      refine ⟨fun c0 => ?_, fun c0 c1 => ?_, fun c0 c1 => ?_⟩
      all_goals first
      | (exfalso; omega)
      | exact ⟨rfl, rfl⟩
      | exact ⟨rfl, rfl, fun b g1 g2 g3 => (jW_f g3).trans (hbf.2 b g1 g2), jW_s, (jW_a (by omega)).trans hb0, fun g => by rw [show (jW (M1, w.2) (x + 341) 0 0).1 (x + 4) = M1 (x + 4) from jW_f (by omega)]; exact hbc g⟩
  · have h1 : i < 2 := h1
    refine jWp.blk mt 2 ?_
    show _ ∧ jWp 101 8 [some (jO x), some (jI i), none] [jI (-4), jO x] 0 0 w _
    refine ⟨rfl, ?_⟩
    refine jWp.callv (as := [jO x, jI (-4)]) (rest := []) mt rfl rfl rfl ⟨rfl, jtg hX.X0⟩ ?_
    refine jCall.mono (C_refuse (w := w) (j := 3) hX (by decide) (by decide)) (fun v9 w9 h9 => ?_)
    obtain ⟨rfl, h9⟩ := h9
    subst h9
    show jWp 101 11 [some (jO x), some (jI i), none] [jI (-4)] 0 0 (jW w (x + 362) 3 ((w.1 (x + 362) 3) + 1)) _
    refine jWp.ireti mt rfl ⟨rfl, rfl⟩ rfl ?_
    refine ⟨fun c0 => ?_, fun c0 c1 => ?_, fun c0 c1 => ?_⟩
    all_goals first
    | (exfalso; omega)
    | exact ⟨rfl, rfl⟩
    | exact ⟨rfl, rfl, fun b g1 g2 g3 => (jW_f g3).trans (hbf.2 b g1 g2), jW_s, (jW_a (by omega)).trans hb0, fun g => by rw [show (jW (M1, w.2) (x + 341) 0 0).1 (x + 4) = M1 (x + 4) from jW_f (by omega)]; exact hbc g⟩
set_option maxHeartbeats 4000000 in
set_option maxRecDepth 20000 in
theorem C_table {w : jS} {x : Nat} (hX : CW w.2 x) {n : Nat} {q : Nat → Int} {g : Prop} (hQ : zQ q n) (hn0 : w.1 (x + 3) 0 = (n : Int)) (hRR : cR g (w.1 (x + 4)) q n) {i j y : Int} (hri : r32 i) (hrj : r32 j) (hry : r32 y) : jCall 102 [jO x, jI i, jI j, jI y] w (fun v w1 => ((¬ (0 ≤ i ∧ i < (n : Int)) ∨ ¬ (0 ≤ j ∧ j < (n : Int)) ∨ i = j) → cno w x 0 (jI (1000000000 - (-1))) v w1) ∧ (¬ (¬ (0 ≤ i ∧ i < (n : Int)) ∨ ¬ (0 ≤ j ∧ j < (n : Int)) ∨ i = j) → (y < -9) → cno w x 3 (jI (1000000000 - (-4))) v w1) ∧ (¬ (¬ (0 ≤ i ∧ i < (n : Int)) ∨ ¬ (0 ≤ j ∧ j < (n : Int)) ∨ i = j) → ¬ (y < -9) → (9 < y) → cno w x 5 (jI (1000000000 - (-6))) v w1) ∧ (¬ (¬ (0 ≤ i ∧ i < (n : Int)) ∨ ¬ (0 ≤ j ∧ j < (n : Int)) ∨ i = j) → ¬ (y < -9) → ¬ (9 < y) → v = some (jI (q (1 + (4 * i.toNat + j.toNat)))) ∧ w1.2 = w.2 ∧ (∀ b, b ≠ x + 4 → b ≠ x + 341 → w1.1 b = w.1 b) ∧ w1.1 (x + 341) 0 = 0 ∧ cR g (w1.1 (x + 4)) (zBg (zset (zset q (1 + (4 * i.toNat + j.toNat)) y) (1 + (4 * j.toNat + i.toNat)) (-y))) n)) := by
  have mt : jtb 102 = jT102 := rfl
  have hn2 := hQ.S.n2
  have hn4 := hQ.S.n4
  have hri1 : -2147483648 ≤ i ∧ i < 2147483648 := hri
  have hrj1 : -2147483648 ≤ j ∧ j < 2147483648 := hrj
  have hry1 : -2147483648 ≤ y ∧ y < 2147483648 := hry
  show jWp 102 0 [some (jO x), some (jI i), some (jI j), some (jI y), none] [] 0 0 w _
  refine jWp.blk mt 1 ?_
  show _ ∧ jWp 102 1 [some (jO x), some (jI i), some (jI j), some (jI y), none] [jO x] 0 0 w _
  refine ⟨rfl, ?_⟩
  refine jWp.getR (pc' := 4) (o := (x + 3)) mt rfl rfl (jtg hX.X0) hX.R4 ?_
  show jWp 102 4 [some (jO x), some (jI i), some (jI j), some (jI y), none] [jO (x + 3)] 0 0 w _
  refine jWp.blk mt 1 ?_
  show jWp 102 5 [some (jO x), some (jI i), some (jI j), some (jI y), none] [jI i, jO (x + 3)] 0 0 w _
  refine jWp.callv (as := [jO (x + 3), jI i]) (rest := []) mt rfl rfl rfl ⟨rfl, jtg hX.X3⟩ ?_
  refine jCall.mono (E_has (w := w) (s := x + 3) (n := n) hX.X3 hn0 hn4 hri) (fun v9 w9 h9 => ?_)
  rcases h9 with ⟨rfl, h9, h1⟩ | ⟨rfl, h9, h1⟩ <;> subst w9
  · have h1 : 0 ≤ i ∧ i < (n : Int) := h1
    show jWp 102 8 [some (jO x), some (jI i), some (jI j), some (jI y), none] [jI 1] 0 0 w _
    obtain ⟨i1, rfl⟩ : ∃ i1 : Nat, i = (i1 : Int) := ⟨i.toNat, by omega⟩
    show jWp 102 8 [some (jO x), some (jI (i1 : Int)), some (jI j), some (jI y), none] [jI 1] 0 0 w _
    refine jWp.ifc (b := false) mt rfl (by decide) rfl ?_
    show jWp 102 11 [some (jO x), some (jI (i1 : Int)), some (jI j), some (jI y), none] [] 0 0 w _
    refine jWp.blk mt 1 ?_
    show _ ∧ jWp 102 12 [some (jO x), some (jI (i1 : Int)), some (jI j), some (jI y), none] [jO x] 0 0 w _
    refine ⟨rfl, ?_⟩
    refine jWp.getR (pc' := 15) (o := (x + 3)) mt rfl rfl (jtg hX.X0) hX.R4 ?_
    show jWp 102 15 [some (jO x), some (jI (i1 : Int)), some (jI j), some (jI y), none] [jO (x + 3)] 0 0 w _
    refine jWp.blk mt 1 ?_
    show jWp 102 16 [some (jO x), some (jI (i1 : Int)), some (jI j), some (jI y), none] [jI j, jO (x + 3)] 0 0 w _
    refine jWp.callv (as := [jO (x + 3), jI j]) (rest := []) mt rfl rfl rfl ⟨rfl, jtg hX.X3⟩ ?_
    refine jCall.mono (E_has (w := w) (s := x + 3) (n := n) hX.X3 hn0 hn4 hrj) (fun v9 w9 h9 => ?_)
    rcases h9 with ⟨rfl, h9, h2⟩ | ⟨rfl, h9, h2⟩ <;> subst w9
    · have h2 : 0 ≤ j ∧ j < (n : Int) := h2
      show jWp 102 19 [some (jO x), some (jI (i1 : Int)), some (jI j), some (jI y), none] [jI 1] 0 0 w _
      obtain ⟨j1, rfl⟩ : ∃ j1 : Nat, j = (j1 : Int) := ⟨j.toNat, by omega⟩
      show jWp 102 19 [some (jO x), some (jI (i1 : Int)), some (jI (j1 : Int)), some (jI y), none] [jI 1] 0 0 w _
      refine jWp.ifc (b := false) mt rfl (by decide) rfl ?_
      show jWp 102 22 [some (jO x), some (jI (i1 : Int)), some (jI (j1 : Int)), some (jI y), none] [] 0 0 w _
      refine jWp.blk mt 2 ?_
      show jWp 102 24 [some (jO x), some (jI (i1 : Int)), some (jI (j1 : Int)), some (jI y), none] [jI (j1 : Int), jI (i1 : Int)] 0 0 w _
      refine jWp.icmp (pc' := 27) mt rfl rfl (b32_id (by omega) (by omega)) (b32_id (by omega) (by omega)) (fun h3 => ?_) (fun h3 => ?_)
      · have h3 : (i1 : Int) ≠ (j1 : Int) := h3
        refine jWp.blk mt 2 ?_
        show jWp 102 36 [some (jO x), some (jI (i1 : Int)), some (jI (j1 : Int)), some (jI y), none] [jI (-9), jI y] 0 0 w _
        refine jWp.icmp (pc' := 39) mt rfl rfl (b32_id (by omega) (by omega)) (show b32 (-9) = (-9) by decide) (fun h4 => ?_) (fun h4 => ?_)
        · have h4 : (-9) ≤ y := h4
          refine jWp.blk mt 2 ?_
          show jWp 102 49 [some (jO x), some (jI (i1 : Int)), some (jI (j1 : Int)), some (jI y), none] [jI 9, jI y] 0 0 w _
          refine jWp.icmp (pc' := 52) mt rfl rfl (b32_id (by omega) (by omega)) (show b32 9 = 9 by decide) (fun h5 => ?_) (fun h5 => ?_)
          · have h5 : y ≤ 9 := h5
            refine jWp.blk mt 1 ?_
            show _ ∧ jWp 102 60 [some (jO x), some (jI (i1 : Int)), some (jI (j1 : Int)), some (jI y), none] [jO x] 0 0 w _
            refine ⟨rfl, ?_⟩
            refine jWp.getR (pc' := 63) (o := (x + 3)) mt rfl rfl (jtg hX.X0) hX.R4 ?_
            show jWp 102 63 [some (jO x), some (jI (i1 : Int)), some (jI (j1 : Int)), some (jI y), none] [jO (x + 3)] 0 0 w _
            refine jWp.blk mt 2 ?_
            show jWp 102 65 [some (jO x), some (jI (i1 : Int)), some (jI (j1 : Int)), some (jI y), none] [jI (j1 : Int), jI (i1 : Int), jO (x + 3)] 0 0 w _
            refine jWp.callv (as := [jO (x + 3), jI (i1 : Int), jI (j1 : Int)]) (rest := []) mt rfl rfl rfl ⟨rfl, jtg hX.X3⟩ ?_
            refine jCall.mono ((by have h := E_sb (w := w) (sc := x + 4) (i := i1) (j := j1) hX.X3 hX.X4 hX.Rc (by omega) (by omega); rw [show w.1 (x + 4) (8 + (4 * i1 + j1)) = q (1 + (4 * i1 + j1)) from (hRR.1 _ (by omega)).trans (cz_b (by omega))] at h; exact h)) (fun v9 w9 h9 => ?_)
            obtain ⟨rfl, h9⟩ := h9
            subst w9
            show jWp 102 68 [some (jO x), some (jI (i1 : Int)), some (jI (j1 : Int)), some (jI y), none] [jI (q (1 + (4 * i1 + j1)))] 0 0 w _
            refine jWp.blk mt 2 ?_
            show _ ∧ jWp 102 71 [some (jO x), some (jI (i1 : Int)), some (jI (j1 : Int)), some (jI y), some (jI (q (1 + (4 * i1 + j1))))] [jO x] 0 0 w _
            refine ⟨rfl, ?_⟩
            refine jWp.getR (pc' := 74) (o := (x + 3)) mt rfl rfl (jtg hX.X0) hX.R4 ?_
            show jWp 102 74 [some (jO x), some (jI (i1 : Int)), some (jI (j1 : Int)), some (jI y), some (jI (q (1 + (4 * i1 + j1))))] [jO (x + 3)] 0 0 w _
            refine jWp.blk mt 3 ?_
            show jWp 102 77 [some (jO x), some (jI (i1 : Int)), some (jI (j1 : Int)), some (jI y), some (jI (q (1 + (4 * i1 + j1))))] [jI y, jI (j1 : Int), jI (i1 : Int), jO (x + 3)] 0 0 w _
            refine jWp.callv (as := [jO (x + 3), jI (i1 : Int), jI (j1 : Int), jI y]) (rest := []) mt rfl rfl rfl ⟨rfl, jtg hX.X3⟩ ?_
            refine jCall.mono (C_tellEntry (w := w) (s := x + 3) (sc := x + 4) hX.X3 hX.X4 hX.Rc hn0 hn4 hRR hri hrj hry) (fun v9 w9 h9 => ?_)
            obtain ⟨rfl, hbf, hbc⟩ := h9.1 (by omega)
            obtain ⟨M1, G9⟩ := w9
            have hg : G9 = w.2 := hbf.1
            subst hg
            show jWp 102 80 [some (jO x), some (jI (i1 : Int)), some (jI (j1 : Int)), some (jI y), some (jI (q (1 + (4 * i1 + j1))))] [jI 1] 0 0 (M1, w.2) _
            refine jWp.blk mt 2 ?_
            show _ ∧ jWp 102 82 [some (jO x), some (jI (i1 : Int)), some (jI (j1 : Int)), some (jI y), some (jI (q (1 + (4 * i1 + j1))))] [jO x] 0 0 (M1, w.2) _
            refine ⟨rfl, ?_⟩
            refine jWp.getR (pc' := 85) (o := (x + 341)) mt rfl rfl (jtg hX.X0) hX.R10 ?_
            show jWp 102 85 [some (jO x), some (jI (i1 : Int)), some (jI (j1 : Int)), some (jI y), some (jI (q (1 + (4 * i1 + j1))))] [jO (x + 341)] 0 0 (M1, w.2) _
            refine jWp.callv (as := [jO (x + 341)]) (rest := []) mt rfl rfl rfl ⟨rfl, jtg hX.XP.1⟩ ?_
            refine jCall.mono (C_pforget (w := (M1, w.2)) (pa := x + 341) hX.XP.1) (fun v9 w9 h9 => ?_)
            obtain ⟨rfl, h9⟩ := h9
            subst h9
            show jWp 102 88 [some (jO x), some (jI (i1 : Int)), some (jI (j1 : Int)), some (jI y), some (jI (q (1 + (4 * i1 + j1))))] [] 0 0 (jW (M1, w.2) (x + 341) 0 0) _
            refine jWp.blk mt 1 ?_
            show jWp 102 90 [some (jO x), some (jI (i1 : Int)), some (jI (j1 : Int)), some (jI y), some (jI (q (1 + (4 * i1 + j1))))] [jI (q (1 + (4 * i1 + j1)))] 0 0 (jW (M1, w.2) (x + 341) 0 0) _
            refine jWp.ireti mt rfl ⟨rfl, rfl⟩ rfl ?_
            refine ⟨fun c0 => ?_, fun c0 c1 => ?_, fun c0 c1 c2 => ?_, fun c0 c1 c2 => ?_⟩
            all_goals first
            | (exfalso; omega)
            | exact ⟨rfl, rfl⟩
            | exact ⟨rfl, rfl, fun b g1 g2 => (jW_f g2).trans (hbf.2 b g1), jW_s, by rw [show (jW (M1, w.2) (x + 341) 0 0).1 (x + 4) = M1 (x + 4) from jW_f (by omega)]; exact hbc⟩
          · have h5 : 9 < y := h5
            refine jWp.blk mt 2 ?_
            show _ ∧ jWp 102 55 [some (jO x), some (jI (i1 : Int)), some (jI (j1 : Int)), some (jI y), none] [jI (-6), jO x] 0 0 w _
            refine ⟨rfl, ?_⟩
            refine jWp.callv (as := [jO x, jI (-6)]) (rest := []) mt rfl rfl rfl ⟨rfl, jtg hX.X0⟩ ?_
            refine jCall.mono (C_far (w := w) (j := 5) hX (by decide) (by decide)) (fun v9 w9 h9 => ?_)
            obtain ⟨rfl, h9⟩ := h9
            subst h9
            show jWp 102 58 [some (jO x), some (jI (i1 : Int)), some (jI (j1 : Int)), some (jI y), none] [jI (1000000000 - (-6))] 0 0 (jW w (x + 362) 5 ((w.1 (x + 362) 5) + 1)) _
            refine jWp.ireti mt rfl ⟨rfl, rfl⟩ rfl ?_
            refine ⟨fun c0 => ?_, fun c0 c1 => ?_, fun c0 c1 c2 => ?_, fun c0 c1 c2 => ?_⟩
            all_goals first
            | (exfalso; omega)
            | exact ⟨rfl, rfl⟩
            | exact ⟨rfl, rfl, fun b g1 g2 => (jW_f g2).trans (hbf.2 b g1), jW_s, by rw [show (jW (M1, w.2) (x + 341) 0 0).1 (x + 4) = M1 (x + 4) from jW_f (by omega)]; exact hbc⟩
        · have h4 : y < (-9) := h4
          refine jWp.blk mt 2 ?_
          show _ ∧ jWp 102 42 [some (jO x), some (jI (i1 : Int)), some (jI (j1 : Int)), some (jI y), none] [jI (-4), jO x] 0 0 w _
          refine ⟨rfl, ?_⟩
          refine jWp.callv (as := [jO x, jI (-4)]) (rest := []) mt rfl rfl rfl ⟨rfl, jtg hX.X0⟩ ?_
          refine jCall.mono (C_far (w := w) (j := 3) hX (by decide) (by decide)) (fun v9 w9 h9 => ?_)
          obtain ⟨rfl, h9⟩ := h9
          subst h9
          show jWp 102 45 [some (jO x), some (jI (i1 : Int)), some (jI (j1 : Int)), some (jI y), none] [jI (1000000000 - (-4))] 0 0 (jW w (x + 362) 3 ((w.1 (x + 362) 3) + 1)) _
          refine jWp.ireti mt rfl ⟨rfl, rfl⟩ rfl ?_
          refine ⟨fun c0 => ?_, fun c0 c1 => ?_, fun c0 c1 c2 => ?_, fun c0 c1 c2 => ?_⟩
          all_goals first
          | (exfalso; omega)
          | exact ⟨rfl, rfl⟩
          | exact ⟨rfl, rfl, fun b g1 g2 => (jW_f g2).trans (hbf.2 b g1), jW_s, by rw [show (jW (M1, w.2) (x + 341) 0 0).1 (x + 4) = M1 (x + 4) from jW_f (by omega)]; exact hbc⟩
      · have h3 : (i1 : Int) = (j1 : Int) := h3
        refine jWp.blk mt 2 ?_
        show _ ∧ jWp 102 29 [some (jO x), some (jI (i1 : Int)), some (jI (j1 : Int)), some (jI y), none] [jI (-1), jO x] 0 0 w _
        refine ⟨rfl, ?_⟩
        refine jWp.callv (as := [jO x, jI (-1)]) (rest := []) mt rfl rfl rfl ⟨rfl, jtg hX.X0⟩ ?_
        refine jCall.mono (C_far (w := w) (j := 0) hX (by decide) (by decide)) (fun v9 w9 h9 => ?_)
        obtain ⟨rfl, h9⟩ := h9
        subst h9
        show jWp 102 32 [some (jO x), some (jI (i1 : Int)), some (jI (j1 : Int)), some (jI y), none] [jI (1000000000 - (-1))] 0 0 (jW w (x + 362) 0 ((w.1 (x + 362) 0) + 1)) _
        refine jWp.ireti mt rfl ⟨rfl, rfl⟩ rfl ?_
        refine ⟨fun c0 => ?_, fun c0 c1 => ?_, fun c0 c1 c2 => ?_, fun c0 c1 c2 => ?_⟩
        all_goals first
        | (exfalso; omega)
        | exact ⟨rfl, rfl⟩
        | exact ⟨rfl, rfl, fun b g1 g2 => (jW_f g2).trans (hbf.2 b g1), jW_s, by rw [show (jW (M1, w.2) (x + 341) 0 0).1 (x + 4) = M1 (x + 4) from jW_f (by omega)]; exact hbc⟩
    · have h2 : ¬ (0 ≤ j ∧ j < (n : Int)) := h2
      show jWp 102 19 [some (jO x), some (jI (i1 : Int)), some (jI j), some (jI y), none] [jI 0] 0 0 w _
      refine jWp.ifc (b := true) mt rfl (by decide) rfl ?_
      show jWp 102 27 [some (jO x), some (jI (i1 : Int)), some (jI j), some (jI y), none] [] 0 0 w _
      refine jWp.blk mt 2 ?_
      show _ ∧ jWp 102 29 [some (jO x), some (jI (i1 : Int)), some (jI j), some (jI y), none] [jI (-1), jO x] 0 0 w _
      refine ⟨rfl, ?_⟩
      refine jWp.callv (as := [jO x, jI (-1)]) (rest := []) mt rfl rfl rfl ⟨rfl, jtg hX.X0⟩ ?_
      refine jCall.mono (C_far (w := w) (j := 0) hX (by decide) (by decide)) (fun v9 w9 h9 => ?_)
      obtain ⟨rfl, h9⟩ := h9
      subst h9
      show jWp 102 32 [some (jO x), some (jI (i1 : Int)), some (jI j), some (jI y), none] [jI (1000000000 - (-1))] 0 0 (jW w (x + 362) 0 ((w.1 (x + 362) 0) + 1)) _
      refine jWp.ireti mt rfl ⟨rfl, rfl⟩ rfl ?_
      refine ⟨fun c0 => ?_, fun c0 c1 => ?_, fun c0 c1 c2 => ?_, fun c0 c1 c2 => ?_⟩
      all_goals first
      | (exfalso; omega)
      | exact ⟨rfl, rfl⟩
      | exact ⟨rfl, rfl, fun b g1 g2 => (jW_f g2).trans (hbf.2 b g1), jW_s, by rw [show (jW (M1, w.2) (x + 341) 0 0).1 (x + 4) = M1 (x + 4) from jW_f (by omega)]; exact hbc⟩
  · have h1 : ¬ (0 ≤ i ∧ i < (n : Int)) := h1
    show jWp 102 8 [some (jO x), some (jI i), some (jI j), some (jI y), none] [jI 0] 0 0 w _
    refine jWp.ifc (b := true) mt rfl (by decide) rfl ?_
    show jWp 102 27 [some (jO x), some (jI i), some (jI j), some (jI y), none] [] 0 0 w _
    refine jWp.blk mt 2 ?_
    show _ ∧ jWp 102 29 [some (jO x), some (jI i), some (jI j), some (jI y), none] [jI (-1), jO x] 0 0 w _
    refine ⟨rfl, ?_⟩
    refine jWp.callv (as := [jO x, jI (-1)]) (rest := []) mt rfl rfl rfl ⟨rfl, jtg hX.X0⟩ ?_
    refine jCall.mono (C_far (w := w) (j := 0) hX (by decide) (by decide)) (fun v9 w9 h9 => ?_)
    obtain ⟨rfl, h9⟩ := h9
    subst h9
    show jWp 102 32 [some (jO x), some (jI i), some (jI j), some (jI y), none] [jI (1000000000 - (-1))] 0 0 (jW w (x + 362) 0 ((w.1 (x + 362) 0) + 1)) _
    refine jWp.ireti mt rfl ⟨rfl, rfl⟩ rfl ?_
    refine ⟨fun c0 => ?_, fun c0 c1 => ?_, fun c0 c1 c2 => ?_, fun c0 c1 c2 => ?_⟩
    all_goals first
    | (exfalso; omega)
    | exact ⟨rfl, rfl⟩
    | exact ⟨rfl, rfl, fun b g1 g2 => (jW_f g2).trans (hbf.2 b g1), jW_s, by rw [show (jW (M1, w.2) (x + 341) 0 0).1 (x + 4) = M1 (x + 4) from jW_f (by omega)]; exact hbc⟩
set_option maxHeartbeats 4000000 in
set_option maxRecDepth 20000 in
theorem C_begins {w : jS} {x : Nat} (hX : CW w.2 x) {n : Nat} {q : Nat → Int} {g : Prop} (hQ : zQ q n) (hn0 : w.1 (x + 3) 0 = (n : Int)) (hRR : cR g (w.1 (x + 4)) q n) {i y : Int} (hri : r32 i) (hry : r32 y) : jCall 103 [jO x, jI i, jI y] w (fun v w1 => ((¬ (0 ≤ i ∧ i < (n : Int))) → cno w x 0 (jI (-1)) v w1) ∧ (¬ (¬ (0 ≤ i ∧ i < (n : Int))) → (y < 1) → cno w x 3 (jI (-4)) v w1) ∧ (¬ (¬ (0 ≤ i ∧ i < (n : Int))) → ¬ (y < 1) → (9 < y) → cno w x 5 (jI (-6)) v w1) ∧ (¬ (¬ (0 ≤ i ∧ i < (n : Int))) → ¬ (y < 1) → ¬ (9 < y) → v = some (jI (q (17 + i.toNat))) ∧ w1.2 = w.2 ∧ (∀ b, b ≠ x + 4 → b ≠ x + 341 → w1.1 b = w.1 b) ∧ w1.1 (x + 341) 0 = 0 ∧ cR g (w1.1 (x + 4)) (zBg (zset q (17 + i.toNat) y)) n)) := by
  have mt : jtb 103 = jT103 := rfl
  have hn2 := hQ.S.n2
  have hn4 := hQ.S.n4
  have hri1 : -2147483648 ≤ i ∧ i < 2147483648 := hri
  have hry1 : -2147483648 ≤ y ∧ y < 2147483648 := hry
  show jWp 103 0 [some (jO x), some (jI i), some (jI y), none] [] 0 0 w _
  refine jWp.blk mt 1 ?_
  show _ ∧ jWp 103 1 [some (jO x), some (jI i), some (jI y), none] [jO x] 0 0 w _
  refine ⟨rfl, ?_⟩
  refine jWp.getR (pc' := 4) (o := (x + 3)) mt rfl rfl (jtg hX.X0) hX.R4 ?_
  show jWp 103 4 [some (jO x), some (jI i), some (jI y), none] [jO (x + 3)] 0 0 w _
  refine jWp.blk mt 1 ?_
  show jWp 103 5 [some (jO x), some (jI i), some (jI y), none] [jI i, jO (x + 3)] 0 0 w _
  refine jWp.callv (as := [jO (x + 3), jI i]) (rest := []) mt rfl rfl rfl ⟨rfl, jtg hX.X3⟩ ?_
  refine jCall.mono (E_has (w := w) (s := x + 3) (n := n) hX.X3 hn0 hn4 hri) (fun v9 w9 h9 => ?_)
  rcases h9 with ⟨rfl, h9, h1⟩ | ⟨rfl, h9, h1⟩ <;> subst w9
  · have h1 : 0 ≤ i ∧ i < (n : Int) := h1
    show jWp 103 8 [some (jO x), some (jI i), some (jI y), none] [jI 1] 0 0 w _
    obtain ⟨i1, rfl⟩ : ∃ i1 : Nat, i = (i1 : Int) := ⟨i.toNat, by omega⟩
    show jWp 103 8 [some (jO x), some (jI (i1 : Int)), some (jI y), none] [jI 1] 0 0 w _
    refine jWp.ifc (b := true) mt rfl (by decide) rfl ?_
    show jWp 103 17 [some (jO x), some (jI (i1 : Int)), some (jI y), none] [] 0 0 w _
    refine jWp.blk mt 2 ?_
    show jWp 103 19 [some (jO x), some (jI (i1 : Int)), some (jI y), none] [jI 1, jI y] 0 0 w _
    refine jWp.icmp (pc' := 22) mt rfl rfl (b32_id (by omega) (by omega)) (show b32 1 = 1 by decide) (fun h2 => ?_) (fun h2 => ?_)
    · have h2 : 1 ≤ y := h2
      refine jWp.blk mt 2 ?_
      show jWp 103 32 [some (jO x), some (jI (i1 : Int)), some (jI y), none] [jI 9, jI y] 0 0 w _
      refine jWp.icmp (pc' := 35) mt rfl rfl (b32_id (by omega) (by omega)) (show b32 9 = 9 by decide) (fun h3 => ?_) (fun h3 => ?_)
      · have h3 : y ≤ 9 := h3
        refine jWp.blk mt 1 ?_
        show _ ∧ jWp 103 43 [some (jO x), some (jI (i1 : Int)), some (jI y), none] [jO x] 0 0 w _
        refine ⟨rfl, ?_⟩
        refine jWp.getR (pc' := 46) (o := (x + 3)) mt rfl rfl (jtg hX.X0) hX.R4 ?_
        show jWp 103 46 [some (jO x), some (jI (i1 : Int)), some (jI y), none] [jO (x + 3)] 0 0 w _
        refine jWp.blk mt 1 ?_
        show jWp 103 47 [some (jO x), some (jI (i1 : Int)), some (jI y), none] [jI (i1 : Int), jO (x + 3)] 0 0 w _
        refine jWp.callv (as := [jO (x + 3), jI (i1 : Int)]) (rest := []) mt rfl rfl rfl ⟨rfl, jtg hX.X3⟩ ?_
        refine jCall.mono ((by have h := E_sf (w := w) (sc := x + 4) (n := n) (i := i1) hX.X3 hX.X4 hX.Rc hn0 hn4 (by omega); rw [show w.1 (x + 4) (24 + i1) = q (17 + i1) from (hRR.1 _ (by omega)).trans (cz_s hn4 (by omega))] at h; exact h)) (fun v9 w9 h9 => ?_)
        obtain ⟨rfl, h9⟩ := h9
        subst w9
        show jWp 103 50 [some (jO x), some (jI (i1 : Int)), some (jI y), none] [jI (q (17 + i1))] 0 0 w _
        refine jWp.blk mt 2 ?_
        show _ ∧ jWp 103 52 [some (jO x), some (jI (i1 : Int)), some (jI y), some (jI (q (17 + i1)))] [jO x] 0 0 w _
        refine ⟨rfl, ?_⟩
        refine jWp.getR (pc' := 55) (o := (x + 3)) mt rfl rfl (jtg hX.X0) hX.R4 ?_
        show jWp 103 55 [some (jO x), some (jI (i1 : Int)), some (jI y), some (jI (q (17 + i1)))] [jO (x + 3)] 0 0 w _
        refine jWp.blk mt 2 ?_
        show jWp 103 57 [some (jO x), some (jI (i1 : Int)), some (jI y), some (jI (q (17 + i1)))] [jI y, jI (i1 : Int), jO (x + 3)] 0 0 w _
        refine jWp.callv (as := [jO (x + 3), jI (i1 : Int), jI y]) (rest := []) mt rfl rfl rfl ⟨rfl, jtg hX.X3⟩ ?_
        refine jCall.mono (C_tellFirst (w := w) (s := x + 3) (sc := x + 4) hX.X3 hX.X4 hX.Rc hn0 hn4 hRR hri hry) (fun v9 w9 h9 => ?_)
        obtain ⟨rfl, hbf, hbc⟩ := h9.1 (by omega)
        obtain ⟨M1, G9⟩ := w9
        have hg : G9 = w.2 := hbf.1
        subst hg
        show jWp 103 60 [some (jO x), some (jI (i1 : Int)), some (jI y), some (jI (q (17 + i1)))] [jI 1] 0 0 (M1, w.2) _
        refine jWp.blk mt 2 ?_
        show _ ∧ jWp 103 62 [some (jO x), some (jI (i1 : Int)), some (jI y), some (jI (q (17 + i1)))] [jO x] 0 0 (M1, w.2) _
        refine ⟨rfl, ?_⟩
        refine jWp.getR (pc' := 65) (o := (x + 341)) mt rfl rfl (jtg hX.X0) hX.R10 ?_
        show jWp 103 65 [some (jO x), some (jI (i1 : Int)), some (jI y), some (jI (q (17 + i1)))] [jO (x + 341)] 0 0 (M1, w.2) _
        refine jWp.callv (as := [jO (x + 341)]) (rest := []) mt rfl rfl rfl ⟨rfl, jtg hX.XP.1⟩ ?_
        refine jCall.mono (C_pforget (w := (M1, w.2)) (pa := x + 341) hX.XP.1) (fun v9 w9 h9 => ?_)
        obtain ⟨rfl, h9⟩ := h9
        subst h9
        show jWp 103 68 [some (jO x), some (jI (i1 : Int)), some (jI y), some (jI (q (17 + i1)))] [] 0 0 (jW (M1, w.2) (x + 341) 0 0) _
        refine jWp.blk mt 1 ?_
        show jWp 103 69 [some (jO x), some (jI (i1 : Int)), some (jI y), some (jI (q (17 + i1)))] [jI (q (17 + i1))] 0 0 (jW (M1, w.2) (x + 341) 0 0) _
        refine jWp.ireti mt rfl ⟨rfl, rfl⟩ rfl ?_
        refine ⟨fun c0 => ?_, fun c0 c1 => ?_, fun c0 c1 c2 => ?_, fun c0 c1 c2 => ?_⟩
        all_goals first
        | (exfalso; omega)
        | exact ⟨rfl, rfl⟩
        | exact ⟨rfl, rfl, fun b g1 g2 => (jW_f g2).trans (hbf.2 b g1), jW_s, by rw [show (jW (M1, w.2) (x + 341) 0 0).1 (x + 4) = M1 (x + 4) from jW_f (by omega)]; exact hbc⟩
      · have h3 : 9 < y := h3
        refine jWp.blk mt 2 ?_
        show _ ∧ jWp 103 38 [some (jO x), some (jI (i1 : Int)), some (jI y), none] [jI (-6), jO x] 0 0 w _
        refine ⟨rfl, ?_⟩
        refine jWp.callv (as := [jO x, jI (-6)]) (rest := []) mt rfl rfl rfl ⟨rfl, jtg hX.X0⟩ ?_
        refine jCall.mono (C_refuse (w := w) (j := 5) hX (by decide) (by decide)) (fun v9 w9 h9 => ?_)
        obtain ⟨rfl, h9⟩ := h9
        subst h9
        show jWp 103 41 [some (jO x), some (jI (i1 : Int)), some (jI y), none] [jI (-6)] 0 0 (jW w (x + 362) 5 ((w.1 (x + 362) 5) + 1)) _
        refine jWp.ireti mt rfl ⟨rfl, rfl⟩ rfl ?_
        refine ⟨fun c0 => ?_, fun c0 c1 => ?_, fun c0 c1 c2 => ?_, fun c0 c1 c2 => ?_⟩
        all_goals first
        | (exfalso; omega)
        | exact ⟨rfl, rfl⟩
        | exact ⟨rfl, rfl, fun b g1 g2 => (jW_f g2).trans (hbf.2 b g1), jW_s, by rw [show (jW (M1, w.2) (x + 341) 0 0).1 (x + 4) = M1 (x + 4) from jW_f (by omega)]; exact hbc⟩
    · have h2 : y < 1 := h2
      refine jWp.blk mt 2 ?_
      show _ ∧ jWp 103 25 [some (jO x), some (jI (i1 : Int)), some (jI y), none] [jI (-4), jO x] 0 0 w _
      refine ⟨rfl, ?_⟩
      refine jWp.callv (as := [jO x, jI (-4)]) (rest := []) mt rfl rfl rfl ⟨rfl, jtg hX.X0⟩ ?_
      refine jCall.mono (C_refuse (w := w) (j := 3) hX (by decide) (by decide)) (fun v9 w9 h9 => ?_)
      obtain ⟨rfl, h9⟩ := h9
      subst h9
      show jWp 103 28 [some (jO x), some (jI (i1 : Int)), some (jI y), none] [jI (-4)] 0 0 (jW w (x + 362) 3 ((w.1 (x + 362) 3) + 1)) _
      refine jWp.ireti mt rfl ⟨rfl, rfl⟩ rfl ?_
      refine ⟨fun c0 => ?_, fun c0 c1 => ?_, fun c0 c1 c2 => ?_, fun c0 c1 c2 => ?_⟩
      all_goals first
      | (exfalso; omega)
      | exact ⟨rfl, rfl⟩
      | exact ⟨rfl, rfl, fun b g1 g2 => (jW_f g2).trans (hbf.2 b g1), jW_s, by rw [show (jW (M1, w.2) (x + 341) 0 0).1 (x + 4) = M1 (x + 4) from jW_f (by omega)]; exact hbc⟩
  · have h1 : ¬ (0 ≤ i ∧ i < (n : Int)) := h1
    show jWp 103 8 [some (jO x), some (jI i), some (jI y), none] [jI 0] 0 0 w _
    refine jWp.ifc (b := false) mt rfl (by decide) rfl ?_
    show jWp 103 11 [some (jO x), some (jI i), some (jI y), none] [] 0 0 w _
    refine jWp.blk mt 2 ?_
    show _ ∧ jWp 103 13 [some (jO x), some (jI i), some (jI y), none] [jI (-1), jO x] 0 0 w _
    refine ⟨rfl, ?_⟩
    refine jWp.callv (as := [jO x, jI (-1)]) (rest := []) mt rfl rfl rfl ⟨rfl, jtg hX.X0⟩ ?_
    refine jCall.mono (C_refuse (w := w) (j := 0) hX (by decide) (by decide)) (fun v9 w9 h9 => ?_)
    obtain ⟨rfl, h9⟩ := h9
    subst h9
    show jWp 103 16 [some (jO x), some (jI i), some (jI y), none] [jI (-1)] 0 0 (jW w (x + 362) 0 ((w.1 (x + 362) 0) + 1)) _
    refine jWp.ireti mt rfl ⟨rfl, rfl⟩ rfl ?_
    refine ⟨fun c0 => ?_, fun c0 c1 => ?_, fun c0 c1 c2 => ?_, fun c0 c1 c2 => ?_⟩
    all_goals first
    | (exfalso; omega)
    | exact ⟨rfl, rfl⟩
    | exact ⟨rfl, rfl, fun b g1 g2 => (jW_f g2).trans (hbf.2 b g1), jW_s, by rw [show (jW (M1, w.2) (x + 341) 0 0).1 (x + 4) = M1 (x + 4) from jW_f (by omega)]; exact hbc⟩
set_option maxHeartbeats 4000000 in
set_option maxRecDepth 20000 in
theorem C_exchange {w : jS} {x : Nat} (hX : CW w.2 x) {n : Nat} {q : Nat → Int} {g : Prop} (hQ : zQ q n) (hn0 : w.1 (x + 3) 0 = (n : Int)) (hRR : cR g (w.1 (x + 4)) q n) {u : Nat} (hu : w.1 (x + 341) 0 = (u : Int)) (hu8 : u ≤ 8) {i : Int} (hri : r32 i) : jCall 107 [jO x, jI i] w (fun v w1 => ((¬ (0 ≤ i ∧ i < (n : Int))) → cno w x 0 (jI (-1)) v w1) ∧ (¬ (¬ (0 ≤ i ∧ i < (n : Int))) → (¬ zcan q n i.toNat) → cnq w x 5 (jI (-6)) v w1) ∧ (¬ (¬ (0 ≤ i ∧ i < (n : Int))) → ¬ (¬ zcan q n i.toNat) → v = some (jI (zxF q n i.toNat (21 + i.toNat))) ∧ w1.2 = w.2 ∧ (∀ b, b ≠ x + 3 → b ≠ x + 4 → (b < x + 7 ∨ x + 12 ≤ b) → (b < x + 341 ∨ x + 359 ≤ b) → w1.1 b = w.1 b) ∧ w1.1 (x + 3) 0 = (n : Int) ∧ cR False (w1.1 (x + 4)) (zxF q n i.toNat) n ∧ cpst w x u w1)) := by
  have mt : jtb 107 = jT107 := rfl
  have hn2 := hQ.S.n2
  have hn4 := hQ.S.n4
  have hri1 : -2147483648 ≤ i ∧ i < 2147483648 := hri
  show jWp 107 0 [some (jO x), some (jI i)] [] 0 0 w _
  refine jWp.blk mt 1 ?_
  show _ ∧ jWp 107 1 [some (jO x), some (jI i)] [jO x] 0 0 w _
  refine ⟨rfl, ?_⟩
  refine jWp.getR (pc' := 4) (o := (x + 3)) mt rfl rfl (jtg hX.X0) hX.R4 ?_
  show jWp 107 4 [some (jO x), some (jI i)] [jO (x + 3)] 0 0 w _
  refine jWp.blk mt 1 ?_
  show jWp 107 5 [some (jO x), some (jI i)] [jI i, jO (x + 3)] 0 0 w _
  refine jWp.callv (as := [jO (x + 3), jI i]) (rest := []) mt rfl rfl rfl ⟨rfl, jtg hX.X3⟩ ?_
  refine jCall.mono (E_has (w := w) (s := x + 3) (n := n) hX.X3 hn0 hn4 hri) (fun v9 w9 h9 => ?_)
  rcases h9 with ⟨rfl, h9, h1⟩ | ⟨rfl, h9, h1⟩ <;> subst w9
  · have h1 : 0 ≤ i ∧ i < (n : Int) := h1
    show jWp 107 8 [some (jO x), some (jI i)] [jI 1] 0 0 w _
    obtain ⟨i1, rfl⟩ : ∃ i1 : Nat, i = (i1 : Int) := ⟨i.toNat, by omega⟩
    show jWp 107 8 [some (jO x), some (jI (i1 : Int))] [jI 1] 0 0 w _
    refine jWp.ifc (b := true) mt rfl (by decide) rfl ?_
    show jWp 107 17 [some (jO x), some (jI (i1 : Int))] [] 0 0 w _
    refine jWp.blk mt 1 ?_
    show _ ∧ jWp 107 18 [some (jO x), some (jI (i1 : Int))] [jO x] 0 0 w _
    refine ⟨rfl, ?_⟩
    refine jWp.getR (pc' := 21) (o := (x + 7)) mt rfl rfl (jtg hX.X0) hX.R6 ?_
    show jWp 107 21 [some (jO x), some (jI (i1 : Int))] [jO (x + 7)] 0 0 w _
    refine jWp.blk mt 1 ?_
    show _ ∧ jWp 107 22 [some (jO x), some (jI (i1 : Int))] [jO x, jO (x + 7)] 0 0 w _
    refine ⟨rfl, ?_⟩
    refine jWp.getR (pc' := 25) (o := (x + 3)) mt rfl rfl (jtg hX.X0) hX.R4 ?_
    show jWp 107 25 [some (jO x), some (jI (i1 : Int))] [jO (x + 3), jO (x + 7)] 0 0 w _
    refine jWp.callv (as := [jO (x + 7), jO (x + 3)]) (rest := []) mt rfl rfl rfl ⟨rfl, jtg hX.X7⟩ ?_
    refine jCall.mono (C_become (w := w) (s := x + 7) (sc := x + 8) hX.X7 hX.X8 hX.Rt (s2 := x + 3) (sc2 := x + 4) hX.X3 hX.X4 hX.Rc hn0) (fun v9 w9 h9 => ?_)
    obtain ⟨rfl, hbf, hn1, hc1⟩ := h9
    obtain ⟨M1, G9⟩ := w9
    have hg : G9 = w.2 := hbf.1
    subst hg
    have hf1 := hbf.2
    have hR1 : cR False (M1 (x + 8)) q n := cR_C hc1 (cR_F hRR)
    show jWp 107 28 [some (jO x), some (jI (i1 : Int))] [] 0 0 (M1, w.2) _
    refine jWp.blk mt 1 ?_
    show _ ∧ jWp 107 29 [some (jO x), some (jI (i1 : Int))] [jO x] 0 0 (M1, w.2) _
    refine ⟨rfl, ?_⟩
    refine jWp.getR (pc' := 32) (o := (x + 9)) mt rfl rfl (jtg hX.X0) hX.R7 ?_
    show jWp 107 32 [some (jO x), some (jI (i1 : Int))] [jO (x + 9)] 0 0 (M1, w.2) _
    refine jWp.blk mt 1 ?_
    show _ ∧ jWp 107 33 [some (jO x), some (jI (i1 : Int))] [jO x, jO (x + 9)] 0 0 (M1, w.2) _
    refine ⟨rfl, ?_⟩
    refine jWp.getR (pc' := 36) (o := (x + 7)) mt rfl rfl (jtg hX.X0) hX.R6 ?_
    show jWp 107 36 [some (jO x), some (jI (i1 : Int))] [jO (x + 7), jO (x + 9)] 0 0 (M1, w.2) _
    refine jWp.blk mt 1 ?_
    show jWp 107 37 [some (jO x), some (jI (i1 : Int))] [jI (i1 : Int), jO (x + 7), jO (x + 9)] 0 0 (M1, w.2) _
    refine jWp.callv (as := [jO (x + 9), jO (x + 7), jI (i1 : Int)]) (rest := []) mt rfl rfl rfl ⟨rfl, jtg hX.X9⟩ ?_
    refine jCall.mono (C_make (w := (M1, w.2)) (s := x + 7) (sc := x + 8) (e := x + 9) (f1 := x + 10) (f2 := x + 11) (n := n) (k := i1) (q := q) (g := False) (G := zNo) hX.X7 hX.X8 hX.Rt hn1 hn4 hX.X9 hX.Ru hX.Rd hX.X10 hX.X11 (by omega) zG_no (fun z => z.elim) hQ hR1 (by omega)) (fun v9 w9 h9 => ?_)
    obtain ⟨hbf, hh⟩ := h9
    obtain ⟨M2, G9⟩ := w9
    have hg : G9 = w.2 := hbf.1
    subst hg
    have hf2 := hbf.2
    have hn2' : M2 (x + 7) 0 = (n : Int) := (congrFun (hf2 (x + 7) (by omega) (by omega) (by omega)) 0).trans hn1
    have hf02 : ∀ b, (b < x + 7 ∨ x + 12 ≤ b) → M2 b = w.1 b := fun b hb => (hf2 b (by omega) (by omega) (by omega)).trans (hf1 b (by omega) (by omega))
    rcases hh with ⟨rfl, hcan, hcr⟩ | ⟨rfl, hcan, hcr⟩
    · have hcr : cR False (M2 (x + 8)) (zxF q n i1) n := hcr
      show jWp 107 40 [some (jO x), some (jI (i1 : Int))] [jI 1] 0 0 (M2, w.2) _
      refine jWp.ifc (b := true) mt rfl (by decide) rfl ?_
      show jWp 107 50 [some (jO x), some (jI (i1 : Int))] [] 0 0 (M2, w.2) _
      refine jWp.blk mt 1 ?_
      show _ ∧ jWp 107 51 [some (jO x), some (jI (i1 : Int))] [jO x] 0 0 (M2, w.2) _
      refine ⟨rfl, ?_⟩
      refine jWp.getR (pc' := 54) (o := (x + 341)) mt rfl rfl (jtg hX.X0) hX.R10 ?_
      show jWp 107 54 [some (jO x), some (jI (i1 : Int))] [jO (x + 341)] 0 0 (M2, w.2) _
      refine jWp.blk mt 1 ?_
      show _ ∧ jWp 107 55 [some (jO x), some (jI (i1 : Int))] [jO x, jO (x + 341)] 0 0 (M2, w.2) _
      refine ⟨rfl, ?_⟩
      refine jWp.getR (pc' := 58) (o := (x + 3)) mt rfl rfl (jtg hX.X0) hX.R4 ?_
      show jWp 107 58 [some (jO x), some (jI (i1 : Int))] [jO (x + 3), jO (x + 341)] 0 0 (M2, w.2) _
      refine jWp.callv (as := [jO (x + 341), jO (x + 3)]) (rest := []) mt rfl rfl rfl ⟨rfl, jtg hX.XP.1⟩ ?_
      refine jCall.mono (C_pkeep (w := (M2, w.2)) (pa := x + 341) hX.XP (s := x + 3) (sc := x + 4) hX.X3 hX.X4 hX.Rc (u := u) ((congrFun (hf02 (x + 341) (by omega)) 0).trans hu) hu8 (by omega) (by omega) (fun y hy => by omega) (fun y hy => by omega)) (fun v9 w9 h9 => ?_)
      obtain ⟨rfl, hg3, hf3, hp3⟩ := h9
      obtain ⟨M3, G9⟩ := w9
      have hg : G9 = w.2 := hg3
      subst hg
      have hf03 : ∀ b, (b < x + 7 ∨ x + 12 ≤ b) → (b < x + 341 ∨ x + 359 ≤ b) → M3 b = w.1 b := fun b hb h2 => (hf3 b (by omega) (fun y hy => by omega)).trans (hf02 b hb)
      have hp3' : cpst ((M2, w.2) : jS) x u ((M3, w.2) : jS) := hp3
      have hn3 : M3 (x + 7) 0 = (n : Int) := (congrFun (hf3 (x + 7) (by omega) (fun y hy => by omega)) 0).trans hn2'
      have e38 : M3 (x + 8) = M2 (x + 8) := hf3 (x + 8) (by omega) (fun y hy => by omega)
      have hcr3 : cR False (M3 (x + 8)) (zxF q n i1) n := by rw [e38]; exact hcr
      show jWp 107 61 [some (jO x), some (jI (i1 : Int))] [] 0 0 (M3, w.2) _
      refine jWp.blk mt 1 ?_
      show _ ∧ jWp 107 62 [some (jO x), some (jI (i1 : Int))] [jO x] 0 0 (M3, w.2) _
      refine ⟨rfl, ?_⟩
      refine jWp.getR (pc' := 65) (o := (x + 3)) mt rfl rfl (jtg hX.X0) hX.R4 ?_
      show jWp 107 65 [some (jO x), some (jI (i1 : Int))] [jO (x + 3)] 0 0 (M3, w.2) _
      refine jWp.blk mt 1 ?_
      show _ ∧ jWp 107 66 [some (jO x), some (jI (i1 : Int))] [jO x, jO (x + 3)] 0 0 (M3, w.2) _
      refine ⟨rfl, ?_⟩
      refine jWp.getR (pc' := 69) (o := (x + 7)) mt rfl rfl (jtg hX.X0) hX.R6 ?_
      show jWp 107 69 [some (jO x), some (jI (i1 : Int))] [jO (x + 7), jO (x + 3)] 0 0 (M3, w.2) _
      refine jWp.callv (as := [jO (x + 3), jO (x + 7)]) (rest := []) mt rfl rfl rfl ⟨rfl, jtg hX.X3⟩ ?_
      refine jCall.mono (C_become (w := (M3, w.2)) (s := x + 3) (sc := x + 4) hX.X3 hX.X4 hX.Rc (s2 := x + 7) (sc2 := x + 8) hX.X7 hX.X8 hX.Rt hn3) (fun v9 w9 h9 => ?_)
      obtain ⟨rfl, hbf, hn4', hc4⟩ := h9
      obtain ⟨M4, G9⟩ := w9
      have hg : G9 = w.2 := hbf.1
      subst hg
      have hf4 := hbf.2
      have hcr4 : cR False (M4 (x + 4)) (zxF q n i1) n := cR_C hc4 hcr3
      show jWp 107 72 [some (jO x), some (jI (i1 : Int))] [] 0 0 (M4, w.2) _
      refine jWp.blk mt 1 ?_
      show _ ∧ jWp 107 73 [some (jO x), some (jI (i1 : Int))] [jO x] 0 0 (M4, w.2) _
      refine ⟨rfl, ?_⟩
      refine jWp.getR (pc' := 76) (o := (x + 3)) mt rfl rfl (jtg hX.X0) hX.R4 ?_
      show jWp 107 76 [some (jO x), some (jI (i1 : Int))] [jO (x + 3)] 0 0 (M4, w.2) _
      refine jWp.blk mt 1 ?_
      show jWp 107 77 [some (jO x), some (jI (i1 : Int))] [jI (i1 : Int), jO (x + 3)] 0 0 (M4, w.2) _
      refine jWp.callv (as := [jO (x + 3), jI (i1 : Int)]) (rest := []) mt rfl rfl rfl ⟨rfl, jtg hX.X3⟩ ?_
      refine jCall.mono ((by have h := E_sa (w := (M4, w.2)) (sc := x + 4) (n := n) (i := i1) hX.X3 hX.X4 hX.Rc hn4' hn4 (by omega); rw [show ((M4, w.2) : jS).1 (x + 4) i1 = zxF q n i1 (21 + i1) from (hcr4.1 _ (by omega)).trans (cz_u hn4 (by omega))] at h; exact h)) (fun v9 w9 h9 => ?_)
      obtain ⟨rfl, h9⟩ := h9
      subst w9
      show jWp 107 80 [some (jO x), some (jI (i1 : Int))] [jI (zxF q n i1 (21 + i1))] 0 0 (M4, w.2) _
      refine jWp.ireti mt rfl ⟨rfl, rfl⟩ rfl ?_
      refine ⟨fun c0 => ?_, fun c0 c1 => ?_, fun c0 c1 => ?_⟩
      all_goals first
      | (exfalso; omega)
      | exact ⟨rfl, rfl⟩
      | exact absurd hcan c1
      | exact absurd hcan (Classical.not_not.mp c1)
      | exact ⟨rfl, (M2, w.2), ⟨rfl, fun b g1 g2 g3 => hf02 b (by omega)⟩, congrArg (fun z => jW (M2, w.2) (x + 362) 5 (z + 1)) (congrFun (hf02 (x + 362) (by omega)) 5)⟩
      | exact ⟨rfl, rfl, fun b g1 g2 g3 g4 => (hf4 b g1 g2).trans (hf03 b g3 g4), hn4', hcr4, cpst_k hp3' (fun b hb => hf02 b (by omega)) (fun b hb => hf4 b (by omega) (by omega)) hu8⟩
    · have hcr' := hcr
      show jWp 107 40 [some (jO x), some (jI (i1 : Int))] [jI 0] 0 0 (M2, w.2) _
      refine jWp.ifc (b := false) mt rfl (by decide) rfl ?_
      show jWp 107 43 [some (jO x), some (jI (i1 : Int))] [] 0 0 (M2, w.2) _
      refine jWp.blk mt 2 ?_
      show _ ∧ jWp 107 46 [some (jO x), some (jI (i1 : Int))] [jI (-6), jO x] 0 0 (M2, w.2) _
      refine ⟨rfl, ?_⟩
      refine jWp.callv (as := [jO x, jI (-6)]) (rest := []) mt rfl rfl rfl ⟨rfl, jtg hX.X0⟩ ?_
      refine jCall.mono (C_refuse (w := (M2, w.2)) (j := 5) hX (by decide) (by decide)) (fun v9 w9 h9 => ?_)
      obtain ⟨rfl, h9⟩ := h9
      subst h9
      show jWp 107 49 [some (jO x), some (jI (i1 : Int))] [jI (-6)] 0 0 (jW (M2, w.2) (x + 362) 5 (((M2, w.2).1 (x + 362) 5) + 1)) _
      refine jWp.ireti mt rfl ⟨rfl, rfl⟩ rfl ?_
      refine ⟨fun c0 => ?_, fun c0 c1 => ?_, fun c0 c1 => ?_⟩
      all_goals first
      | (exfalso; omega)
      | exact ⟨rfl, rfl⟩
      | exact absurd hcan c1
      | exact absurd hcan (Classical.not_not.mp c1)
      | exact ⟨rfl, (M2, w.2), ⟨rfl, fun b g1 g2 g3 => hf02 b (by omega)⟩, congrArg (fun z => jW (M2, w.2) (x + 362) 5 (z + 1)) (congrFun (hf02 (x + 362) (by omega)) 5)⟩
      | exact ⟨rfl, rfl, fun b g1 g2 g3 g4 => (hf4 b g1 g2).trans (hf03 b g3 g4), hn4', hcr4, cpst_k hp3' (fun b hb => hf02 b (by omega)) (fun b hb => hf4 b (by omega) (by omega)) hu8⟩
  · have h1 : ¬ (0 ≤ i ∧ i < (n : Int)) := h1
    show jWp 107 8 [some (jO x), some (jI i)] [jI 0] 0 0 w _
    refine jWp.ifc (b := false) mt rfl (by decide) rfl ?_
    show jWp 107 11 [some (jO x), some (jI i)] [] 0 0 w _
    refine jWp.blk mt 2 ?_
    show _ ∧ jWp 107 13 [some (jO x), some (jI i)] [jI (-1), jO x] 0 0 w _
    refine ⟨rfl, ?_⟩
    refine jWp.callv (as := [jO x, jI (-1)]) (rest := []) mt rfl rfl rfl ⟨rfl, jtg hX.X0⟩ ?_
    refine jCall.mono (C_refuse (w := w) (j := 0) hX (by decide) (by decide)) (fun v9 w9 h9 => ?_)
    obtain ⟨rfl, h9⟩ := h9
    subst h9
    show jWp 107 16 [some (jO x), some (jI i)] [jI (-1)] 0 0 (jW w (x + 362) 0 ((w.1 (x + 362) 0) + 1)) _
    refine jWp.ireti mt rfl ⟨rfl, rfl⟩ rfl ?_
    refine ⟨fun c0 => ?_, fun c0 c1 => ?_, fun c0 c1 => ?_⟩
    all_goals first
    | (exfalso; omega)
    | exact ⟨rfl, rfl⟩
    | exact absurd hcan c1
    | exact absurd hcan (Classical.not_not.mp c1)
    | exact ⟨rfl, (M2, w.2), ⟨rfl, fun b g1 g2 g3 => hf02 b (by omega)⟩, congrArg (fun z => jW (M2, w.2) (x + 362) 5 (z + 1)) (congrFun (hf02 (x + 362) (by omega)) 5)⟩
    | exact ⟨rfl, rfl, fun b g1 g2 g3 g4 => (hf4 b g1 g2).trans (hf03 b g3 g4), hn4', hcr4, cpst_k hp3' (fun b hb => hf02 b (by omega)) (fun b hb => hf4 b (by omega) (by omega)) hu8⟩
set_option maxHeartbeats 4000000 in
set_option maxRecDepth 20000 in
theorem C_undo {w : jS} {x : Nat} (hX : CW w.2 x) {u : Nat} (hu : w.1 (x + 341) 0 = (u : Int)) (hu8 : u ≤ 8) : jCall 124 [jO x] w (fun v w1 => ((u = 0) → cno w x 2 (jI (-3)) v w1) ∧ (¬ (u = 0) → v = some (jI ((u : Int) - 1)) ∧ w1.2 = w.2 ∧ (∀ b, b ≠ x + 3 → b ≠ x + 4 → b ≠ x + 341 → w1.1 b = w.1 b) ∧ w1.1 (x + 341) 0 = (u : Int) - 1 ∧ cpy w1.1 (x + 3) (x + 4) w.1 (x + 341 + (2 + 2 * (u - 1))) (x + 341 + (3 + 2 * (u - 1))))) := by
  have mt : jtb 124 = jT124 := rfl
  show jWp 124 0 [some (jO x)] [] 0 0 w _
  refine jWp.blk mt 1 ?_
  show _ ∧ jWp 124 1 [some (jO x)] [jO x] 0 0 w _
  refine ⟨rfl, ?_⟩
  refine jWp.getR (pc' := 4) (o := (x + 341)) mt rfl rfl (jtg hX.X0) hX.R10 ?_
  show jWp 124 4 [some (jO x)] [jO (x + 341)] 0 0 w _
  refine jWp.blk mt 1 ?_
  show _ ∧ jWp 124 5 [some (jO x)] [jO x, jO (x + 341)] 0 0 w _
  refine ⟨rfl, ?_⟩
  refine jWp.getR (pc' := 8) (o := (x + 3)) mt rfl rfl (jtg hX.X0) hX.R4 ?_
  show jWp 124 8 [some (jO x)] [jO (x + 3), jO (x + 341)] 0 0 w _
  refine jWp.callv (as := [jO (x + 341), jO (x + 3)]) (rest := []) mt rfl rfl rfl ⟨rfl, jtg hX.XP.1⟩ ?_
  refine jCall.mono (C_takeBack (w := w) (pa := x + 341) hX.XP (s := x + 3) (sc := x + 4) hX.X3 hX.X4 hX.Rc (u := u) hu hu8 (by omega) (by omega)) (fun v9 w9 h9 => ?_)
  rcases Nat.eq_zero_or_pos u with hz | hz
  · obtain ⟨rfl, hw9⟩ := h9.1 hz
    subst w9
    show jWp 124 11 [some (jO x)] [jI 0] 0 0 w _
    refine jWp.ifc (b := false) mt rfl (by decide) rfl ?_
    show jWp 124 14 [some (jO x)] [] 0 0 w _
    refine jWp.blk mt 2 ?_
    show _ ∧ jWp 124 17 [some (jO x)] [jI (-3), jO x] 0 0 w _
    refine ⟨rfl, ?_⟩
    refine jWp.callv (as := [jO x, jI (-3)]) (rest := []) mt rfl rfl rfl ⟨rfl, jtg hX.X0⟩ ?_
    refine jCall.mono (C_refuse (w := w) (j := 2) hX (by decide) (by decide)) (fun v9 w9 h9 => ?_)
    obtain ⟨rfl, h9⟩ := h9
    subst h9
    show jWp 124 20 [some (jO x)] [jI (-3)] 0 0 (jW w (x + 362) 2 ((w.1 (x + 362) 2) + 1)) _
    refine jWp.ireti mt rfl ⟨rfl, rfl⟩ rfl ?_
    refine ⟨fun c0 => ?_, fun c0 => ?_⟩
    all_goals first
    | (exfalso; omega)
    | exact ⟨rfl, rfl⟩
    | exact ⟨rfl, rfl, fun b g1 g2 g3 => hf1 b g3 g1 g2, hu1, hc1⟩
  · obtain ⟨rfl, hg1, hf1, hu1, hc1⟩ := h9.2 hz
    obtain ⟨M1, G9⟩ := w9
    have hg : G9 = w.2 := hg1
    subst hg
    show jWp 124 11 [some (jO x)] [jI 1] 0 0 (M1, w.2) _
    refine jWp.ifc (b := true) mt rfl (by decide) rfl ?_
    show jWp 124 21 [some (jO x)] [] 0 0 (M1, w.2) _
    refine jWp.blk mt 1 ?_
    show _ ∧ jWp 124 22 [some (jO x)] [jO x] 0 0 (M1, w.2) _
    refine ⟨rfl, ?_⟩
    refine jWp.getR (pc' := 25) (o := (x + 341)) mt rfl rfl (jtg hX.X0) hX.R10 ?_
    show jWp 124 25 [some (jO x)] [jO (x + 341)] 0 0 (M1, w.2) _
    refine jWp.getI (pc' := 28) mt rfl rfl (jtg hX.XP.1) ?_
    rw [show ((M1, w.2).1 (x + 341) 0) = ((u : Int) - 1) from hu1]
    show jWp 124 28 [some (jO x)] [jI ((u : Int) - 1)] 0 0 (M1, w.2) _
    refine jWp.ireti mt rfl ⟨rfl, rfl⟩ rfl ?_
    refine ⟨fun c0 => ?_, fun c0 => ?_⟩
    all_goals first
    | (exfalso; omega)
    | exact ⟨rfl, rfl⟩
    | exact ⟨rfl, rfl, fun b g1 g2 g3 => hf1 b g3 g1 g2, hu1, hc1⟩
