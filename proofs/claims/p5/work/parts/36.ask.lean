set_option maxHeartbeats 4000000 in
set_option maxRecDepth 20000 in
theorem E_power {w : jS} {m : Nat} (hW : MW w.2 m) {n : Nat} (hS : zS (w.1 (m + 1)) n) {i j : Int} (hri : r32 i) (hrj : r32 j) : jCall 172 [jO m, jI i, jI j] w (fun v w1 => ((¬ (0 ≤ i ∧ i < (n : Int)) ∨ ¬ (0 ≤ j ∧ j < (n : Int))) → jno w m 1 (jI (1000000000 - (-1))) v w1) ∧ (¬ (¬ (0 ≤ i ∧ i < (n : Int)) ∨ ¬ (0 ≤ j ∧ j < (n : Int))) → v = some (jI (w.1 (m + 1) (29 + 4 * i.toNat + j.toNat))) ∧ w1 = w)) := by
  have mt : jtb 172 = jT172 := rfl
  have hn2 := hS.n2
  have hn4 := hS.n4
  have hri1 : -2147483648 ≤ i ∧ i < 2147483648 := hri
  show jWp 172 0 [some (jO m), some (jI i), some (jI j)] [] 0 0 w _
  refine jWp.blk mt 2 ?_
  show _ ∧ jWp 172 2 [some (jO m), some (jI i), some (jI j)] [jI i, jO m] 0 0 w _
  refine ⟨rfl, ?_⟩
  refine jWp.callv (as := [jO m, jI i]) (rest := []) mt rfl rfl rfl ⟨rfl, jtg hW.K0⟩ ?_
  refine jCall.mono (E_isLetter hW hS hri) (fun v9 w9 h9 => ?_)
  rcases h9 with ⟨rfl, h9, h1⟩ | ⟨rfl, h9, h1⟩ <;> subst w9
  · have h1 : 0 ≤ i ∧ i < (n : Int) := h1
    show jWp 172 5 [some (jO m), some (jI i), some (jI j)] [jI 1] 0 0 w _
    obtain ⟨i1, rfl⟩ : ∃ i1 : Nat, i = (i1 : Int) := ⟨i.toNat, by omega⟩
    show jWp 172 5 [some (jO m), some (jI (i1 : Int)), some (jI j)] [jI 1] 0 0 w _
    refine jWp.ifc (b := false) mt rfl (by decide) rfl ?_
    show jWp 172 8 [some (jO m), some (jI (i1 : Int)), some (jI j)] [] 0 0 w _
    refine jWp.blk mt 2 ?_
    show _ ∧ jWp 172 10 [some (jO m), some (jI (i1 : Int)), some (jI j)] [jI j, jO m] 0 0 w _
    refine ⟨rfl, ?_⟩
    refine jWp.callv (as := [jO m, jI j]) (rest := []) mt rfl rfl rfl ⟨rfl, jtg hW.K0⟩ ?_
    refine jCall.mono (E_isLetter hW hS hrj) (fun v9 w9 h9 => ?_)
    rcases h9 with ⟨rfl, h9, h2⟩ | ⟨rfl, h9, h2⟩ <;> subst w9
    · have h2 : 0 ≤ j ∧ j < (n : Int) := h2
      show jWp 172 13 [some (jO m), some (jI (i1 : Int)), some (jI j)] [jI 1] 0 0 w _
      obtain ⟨j1, rfl⟩ : ∃ j1 : Nat, j = (j1 : Int) := ⟨j.toNat, by omega⟩
      show jWp 172 13 [some (jO m), some (jI (i1 : Int)), some (jI (j1 : Int))] [jI 1] 0 0 w _
      refine jWp.ifc (b := false) mt rfl (by decide) rfl ?_
      show jWp 172 16 [some (jO m), some (jI (i1 : Int)), some (jI (j1 : Int))] [] 0 0 w _
      refine jWp.blk mt 1 ?_
      show _ ∧ jWp 172 17 [some (jO m), some (jI (i1 : Int)), some (jI (j1 : Int))] [jO m] 0 0 w _
      refine ⟨rfl, ?_⟩
      refine jWp.getR (pc' := 20) (o := (m + 1)) mt rfl rfl (jtg hW.K0) hW.R0 ?_
      show jWp 172 20 [some (jO m), some (jI (i1 : Int)), some (jI (j1 : Int))] [jO (m + 1)] 0 0 w _
      refine jWp.blk mt 7 ?_
      show jWp 172 28 [some (jO m), some (jI (i1 : Int)), some (jI (j1 : Int))] [jI ((29 + (4 * (i1 : Int))) + (j1 : Int)), jO (m + 1)] 0 0 w _
      refine jWp.lald (pc' := 29) (j := (29 + 4 * i1 + j1)) mt rfl rfl (jtg hW.K1) (by rw [b32_id (by omega) (by omega)]; omega) (jlt hW.K1 (by omega)) ?_
      show jWp 172 29 [some (jO m), some (jI (i1 : Int)), some (jI (j1 : Int))] [jJ (w.1 (m + 1) (29 + 4 * i1 + j1))] 0 0 w _
      refine jWp.blk mt 2 ?_
      show jWp 172 38 [some (jO m), some (jI (i1 : Int)), some (jI (j1 : Int))] [jI (w.1 (m + 1) (29 + 4 * i1 + j1))] 0 0 w _
      refine jWp.ireti mt rfl ⟨rfl, rfl⟩ rfl ?_
      refine ⟨fun c0 => ?_, fun c0 => ?_⟩
      all_goals first
      | (exfalso; omega)
      | exact ⟨rfl, rfl⟩
    · have h2 : ¬ (0 ≤ j ∧ j < (n : Int)) := h2
      show jWp 172 13 [some (jO m), some (jI (i1 : Int)), some (jI j)] [jI 0] 0 0 w _
      refine jWp.ifc (b := true) mt rfl (by decide) rfl ?_
      show jWp 172 33 [some (jO m), some (jI (i1 : Int)), some (jI j)] [] 0 0 w _
      refine jWp.blk mt 2 ?_
      show _ ∧ jWp 172 35 [some (jO m), some (jI (i1 : Int)), some (jI j)] [jI (-1), jO m] 0 0 w _
      refine ⟨rfl, ?_⟩
      refine jWp.callv (as := [jO m, jI (-1)]) (rest := []) mt rfl rfl rfl ⟨rfl, jtg hW.K0⟩ ?_
      refine jCall.mono (E_far (w := w) (j := 1) hW (by decide) (by decide)) (fun v9 w9 h9 => ?_)
      obtain ⟨rfl, h9⟩ := h9
      subst h9
      show jWp 172 38 [some (jO m), some (jI (i1 : Int)), some (jI j)] [jI (1000000000 - (-1))] 0 0 (jW w (m + 3) 1 ((w.1 (m + 3) 1) + 1)) _
      refine jWp.ireti mt rfl ⟨rfl, rfl⟩ rfl ?_
      refine ⟨fun c0 => ?_, fun c0 => ?_⟩
      all_goals first
      | (exfalso; omega)
      | exact ⟨rfl, rfl⟩
  · have h1 : ¬ (0 ≤ i ∧ i < (n : Int)) := h1
    show jWp 172 5 [some (jO m), some (jI i), some (jI j)] [jI 0] 0 0 w _
    refine jWp.ifc (b := true) mt rfl (by decide) rfl ?_
    show jWp 172 33 [some (jO m), some (jI i), some (jI j)] [] 0 0 w _
    refine jWp.blk mt 2 ?_
    show _ ∧ jWp 172 35 [some (jO m), some (jI i), some (jI j)] [jI (-1), jO m] 0 0 w _
    refine ⟨rfl, ?_⟩
    refine jWp.callv (as := [jO m, jI (-1)]) (rest := []) mt rfl rfl rfl ⟨rfl, jtg hW.K0⟩ ?_
    refine jCall.mono (E_far (w := w) (j := 1) hW (by decide) (by decide)) (fun v9 w9 h9 => ?_)
    obtain ⟨rfl, h9⟩ := h9
    subst h9
    show jWp 172 38 [some (jO m), some (jI i), some (jI j)] [jI (1000000000 - (-1))] 0 0 (jW w (m + 3) 1 ((w.1 (m + 3) 1) + 1)) _
    refine jWp.ireti mt rfl ⟨rfl, rfl⟩ rfl ?_
    refine ⟨fun c0 => ?_, fun c0 => ?_⟩
    all_goals first
    | (exfalso; omega)
    | exact ⟨rfl, rfl⟩
set_option maxHeartbeats 4000000 in
set_option maxRecDepth 20000 in
theorem E_whole {w : jS} {m : Nat} (hW : MW w.2 m) {n : Nat} (hS : zS (w.1 (m + 1)) n) (hst : ∀ c, c < 4 → 0 ≤ w.1 (m + 1) (17 + c) ∧ w.1 (m + 1) (17 + c) ≤ 9) {i : Int} (hri : r32 i) : jCall 184 [jO m, jI i] w (fun v w1 => ((¬ (0 ≤ i ∧ i < (n : Int))) → jno w m 1 (jI (-1)) v w1) ∧ (¬ (¬ (0 ≤ i ∧ i < (n : Int))) → ∃ y, v = some (jI y) ∧ w1 = w ∧ (y = 0 ∨ y = 1) ∧ (w.1 (m + 1) (25 + i.toNat) = 1 → y = 1))) := by
  have mt : jtb 184 = jT184 := rfl
  have hn2 := hS.n2
  have hn4 := hS.n4
  have hri1 : -2147483648 ≤ i ∧ i < 2147483648 := hri
  show jWp 184 0 [some (jO m), some (jI i)] [] 0 0 w _
  refine jWp.blk mt 2 ?_
  show _ ∧ jWp 184 2 [some (jO m), some (jI i)] [jI i, jO m] 0 0 w _
  refine ⟨rfl, ?_⟩
  refine jWp.callv (as := [jO m, jI i]) (rest := []) mt rfl rfl rfl ⟨rfl, jtg hW.K0⟩ ?_
  refine jCall.mono (E_isLetter hW hS hri) (fun v9 w9 h9 => ?_)
  rcases h9 with ⟨rfl, h9, h1⟩ | ⟨rfl, h9, h1⟩ <;> subst w9
  · have h1 : 0 ≤ i ∧ i < (n : Int) := h1
    show jWp 184 5 [some (jO m), some (jI i)] [jI 1] 0 0 w _
    obtain ⟨i1, rfl⟩ : ∃ i1 : Nat, i = (i1 : Int) := ⟨i.toNat, by omega⟩
    show jWp 184 5 [some (jO m), some (jI (i1 : Int))] [jI 1] 0 0 w _
    refine jWp.ifc (b := true) mt rfl (by decide) rfl ?_
    show jWp 184 16 [some (jO m), some (jI (i1 : Int))] [] 0 0 w _
    refine jWp.blk mt 1 ?_
    show _ ∧ jWp 184 17 [some (jO m), some (jI (i1 : Int))] [jO m] 0 0 w _
    refine ⟨rfl, ?_⟩
    refine jWp.getR (pc' := 20) (o := (m + 1)) mt rfl rfl (jtg hW.K0) hW.R0 ?_
    show jWp 184 20 [some (jO m), some (jI (i1 : Int))] [jO (m + 1)] 0 0 w _
    refine jWp.blk mt 1 ?_
    show jWp 184 21 [some (jO m), some (jI (i1 : Int))] [jI (i1 : Int), jO (m + 1)] 0 0 w _
    refine jWp.calls (as := [jO (m + 1), jI (i1 : Int)]) (rest := []) mt rfl rfl rfl rfl ?_
    refine jCall.mono (E_isWhole (n := n) hW.K1 hS hst (i := i1) (by omega)) (fun v9 w9 h9 => ?_)
    obtain ⟨h9, y, rfl, hy, hy1⟩ := h9
    subst w9
    show jWp 184 24 [some (jO m), some (jI (i1 : Int))] [jI y] 0 0 w _
    refine jWp.ifz (pc' := 27) mt rfl rfl (b32_id (by omega) (by omega)) (fun h2 => ?_) (fun h2 => ?_)
    · have h2 : y = 0 := h2
      refine jWp.blk mt 1 ?_
      show jWp 184 32 [some (jO m), some (jI (i1 : Int))] [jI 0] 0 0 w _
      refine jWp.ireti mt rfl ⟨rfl, rfl⟩ rfl ?_
      refine ⟨fun c0 => ?_, fun c0 => ?_⟩
      all_goals first
      | (exfalso; omega)
      | exact ⟨rfl, rfl⟩
      | exact ⟨_, rfl, rfl, by omega, fun h => by have := hy1 h; omega⟩
    · have h2 : y ≠ 0 := h2
      refine jWp.blk mt 2 ?_
      show jWp 184 32 [some (jO m), some (jI (i1 : Int))] [jI 1] 0 0 w _
      refine jWp.ireti mt rfl ⟨rfl, rfl⟩ rfl ?_
      refine ⟨fun c0 => ?_, fun c0 => ?_⟩
      all_goals first
      | (exfalso; omega)
      | exact ⟨rfl, rfl⟩
      | exact ⟨_, rfl, rfl, by omega, fun h => by have := hy1 h; omega⟩
  · have h1 : ¬ (0 ≤ i ∧ i < (n : Int)) := h1
    show jWp 184 5 [some (jO m), some (jI i)] [jI 0] 0 0 w _
    refine jWp.ifc (b := false) mt rfl (by decide) rfl ?_
    show jWp 184 8 [some (jO m), some (jI i)] [] 0 0 w _
    refine jWp.blk mt 2 ?_
    show _ ∧ jWp 184 10 [some (jO m), some (jI i)] [jI (-1), jO m] 0 0 w _
    refine ⟨rfl, ?_⟩
    refine jWp.callv (as := [jO m, jI (-1)]) (rest := []) mt rfl rfl rfl ⟨rfl, jtg hW.K0⟩ ?_
    refine jCall.mono (E_refuses (w := w) (j := 1) hW (by decide) (by decide)) (fun v9 w9 h9 => ?_)
    obtain ⟨rfl, h9⟩ := h9
    subst h9
    show jWp 184 13 [some (jO m), some (jI i)] [jI (-1)] 0 0 (jW w (m + 3) 1 ((w.1 (m + 3) 1) + 1)) _
    refine jWp.blk mt 1 ?_
    show jWp 184 32 [some (jO m), some (jI i)] [jI (-1)] 0 0 (jW w (m + 3) 1 ((w.1 (m + 3) 1) + 1)) _
    refine jWp.ireti mt rfl ⟨rfl, rfl⟩ rfl ?_
    refine ⟨fun c0 => ?_, fun c0 => ?_⟩
    all_goals first
    | (exfalso; omega)
    | exact ⟨rfl, rfl⟩
    | exact ⟨_, rfl, rfl, by omega, fun h => by have := hy1 h; omega⟩
