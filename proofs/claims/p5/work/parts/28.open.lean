/-- a refusal of the reference: what it answers, and what it counts -/
def jno (w : jS) (m j : Nat) (x : jV) (v : Option jV) (w1 : jS) : Prop := v = some x ∧ w1 = jW w (m + 3) j (w.1 (m + 3) j + 1)
set_option maxHeartbeats 4000000 in
set_option maxRecDepth 20000 in
theorem E_value {w : jS} {m : Nat} (hW : MW w.2 m) {n : Nat} (hS : zS (w.1 (m + 1)) n) {i p : Int} (hri : r32 i) (hrp : r32 p) : jCall 171 [jO m, jI i, jI p] w (fun v w1 => ((¬ (0 ≤ i ∧ i < (n : Int))) → jno w m 1 (jI (-1)) v w1) ∧ (¬ (¬ (0 ≤ i ∧ i < (n : Int))) → (¬ (0 ≤ p ∧ p ≤ 1)) → jno w m 2 (jI (-2)) v w1) ∧ (¬ (¬ (0 ≤ i ∧ i < (n : Int))) → ¬ (¬ (0 ≤ p ∧ p ≤ 1)) → v = some (jI (w.1 (m + 1) ((if p = 0 then 21 else 25) + i.toNat))) ∧ w1 = w)) := by
  have mt : jtb 171 = jT171 := rfl
  have hn2 := hS.n2
  have hn4 := hS.n4
  have hri1 : -2147483648 ≤ i ∧ i < 2147483648 := hri
  have hrp1 : -2147483648 ≤ p ∧ p < 2147483648 := hrp
  show jWp 171 0 [some (jO m), some (jI i), some (jI p)] [] 0 0 w _
  refine jWp.blk mt 2 ?_
  show _ ∧ jWp 171 2 [some (jO m), some (jI i), some (jI p)] [jI i, jO m] 0 0 w _
  refine ⟨rfl, ?_⟩
  refine jWp.callv (as := [jO m, jI i]) (rest := []) mt rfl rfl rfl ⟨rfl, jtg hW.K0⟩ ?_
  refine jCall.mono (E_isLetter hW hS hri) (fun v9 w9 h9 => ?_)
  rcases h9 with ⟨rfl, h9, h1⟩ | ⟨rfl, h9, h1⟩ <;> subst w9
  · have h1 : 0 ≤ i ∧ i < (n : Int) := h1
    show jWp 171 5 [some (jO m), some (jI i), some (jI p)] [jI 1] 0 0 w _
    obtain ⟨i1, rfl⟩ : ∃ i1 : Nat, i = (i1 : Int) := ⟨i.toNat, by omega⟩
    show jWp 171 5 [some (jO m), some (jI (i1 : Int)), some (jI p)] [jI 1] 0 0 w _
    refine jWp.ifc (b := true) mt rfl (by decide) rfl ?_
    show jWp 171 14 [some (jO m), some (jI (i1 : Int)), some (jI p)] [] 0 0 w _
    refine jWp.blk mt 1 ?_
    show jWp 171 15 [some (jO m), some (jI (i1 : Int)), some (jI p)] [jI p] 0 0 w _
    refine jWp.i2l (pc' := 16) mt rfl rfl (b32_id (by omega) (by omega)) ?_
    show jWp 171 16 [some (jO m), some (jI (i1 : Int)), some (jI p)] [jJ p] 0 0 w _
    refine jWp.blk mt 2 ?_
    show jWp 171 18 [some (jO m), some (jI (i1 : Int)), some (jI p)] [jJ 1, jJ 0, jJ p] 0 0 w _
    refine jWp.calls (as := [jJ p, jJ 0, jJ 1]) (rest := []) mt rfl rfl rfl rfl ?_
    refine jCall.mono (E_in (b64_id (by omega) (by omega)) (show b64 0 = 0 by decide) (show b64 1 = 1 by decide)) (fun v9 w9 h9 => ?_)
    rcases h9 with ⟨rfl, h9, h2⟩ | ⟨rfl, h9, h2⟩ <;> subst w9
    · have h2 : 0 ≤ p ∧ p ≤ 1 := h2
      show jWp 171 21 [some (jO m), some (jI (i1 : Int)), some (jI p)] [jI 1] 0 0 w _
      refine jWp.ifc (b := true) mt rfl (by decide) rfl ?_
      show jWp 171 31 [some (jO m), some (jI (i1 : Int)), some (jI p)] [] 0 0 w _
      refine jWp.blk mt 1 ?_
      show _ ∧ jWp 171 32 [some (jO m), some (jI (i1 : Int)), some (jI p)] [jO m] 0 0 w _
      refine ⟨rfl, ?_⟩
      refine jWp.getR (pc' := 35) (o := (m + 1)) mt rfl rfl (jtg hW.K0) hW.R0 ?_
      show jWp 171 35 [some (jO m), some (jI (i1 : Int)), some (jI p)] [jO (m + 1)] 0 0 w _
      refine jWp.blk mt 1 ?_
      show jWp 171 36 [some (jO m), some (jI (i1 : Int)), some (jI p)] [jI p, jO (m + 1)] 0 0 w _
      refine jWp.ifz (pc' := 39) mt rfl rfl (b32_id (by omega) (by omega)) (fun h3 => ?_) (fun h3 => ?_)
      · have h3 : p ≠ 0 := h3
        refine jWp.blk mt 3 ?_
        show jWp 171 48 [some (jO m), some (jI (i1 : Int)), some (jI p)] [jI (25 + (i1 : Int)), jO (m + 1)] 0 0 w _
        refine jWp.lald (pc' := 49) (j := (25 + i1)) mt rfl rfl (jtg hW.K1) (by rw [b32_id (by omega) (by omega)] <;> omega) (jlt hW.K1 (by omega)) ?_
        show jWp 171 49 [some (jO m), some (jI (i1 : Int)), some (jI p)] [jJ (w.1 (m + 1) (25 + i1))] 0 0 w _
        refine jWp.blk mt 1 ?_
        show jWp 171 50 [some (jO m), some (jI (i1 : Int)), some (jI p)] [jI (w.1 (m + 1) (25 + i1))] 0 0 w _
        refine jWp.ireti mt rfl ⟨rfl, rfl⟩ rfl ?_
        refine ⟨fun c0 => ?_, fun c0 c1 => ?_, fun c0 c1 => ?_⟩
        all_goals first
        | (exfalso; omega)
        | exact ⟨rfl, rfl⟩
        | exact ⟨by rw [if_pos (by omega)]; rfl, rfl⟩
        | exact ⟨by rw [if_neg (by omega)]; rfl, rfl⟩
      · have h3 : p = 0 := h3
        refine jWp.blk mt 4 ?_
        show jWp 171 48 [some (jO m), some (jI (i1 : Int)), some (jI p)] [jI (21 + (i1 : Int)), jO (m + 1)] 0 0 w _
        refine jWp.lald (pc' := 49) (j := (21 + i1)) mt rfl rfl (jtg hW.K1) (by rw [b32_id (by omega) (by omega)] <;> omega) (jlt hW.K1 (by omega)) ?_
        show jWp 171 49 [some (jO m), some (jI (i1 : Int)), some (jI p)] [jJ (w.1 (m + 1) (21 + i1))] 0 0 w _
        refine jWp.blk mt 1 ?_
        show jWp 171 50 [some (jO m), some (jI (i1 : Int)), some (jI p)] [jI (w.1 (m + 1) (21 + i1))] 0 0 w _
        refine jWp.ireti mt rfl ⟨rfl, rfl⟩ rfl ?_
        refine ⟨fun c0 => ?_, fun c0 c1 => ?_, fun c0 c1 => ?_⟩
        all_goals first
        | (exfalso; omega)
        | exact ⟨rfl, rfl⟩
        | exact ⟨by rw [if_pos (by omega)]; rfl, rfl⟩
        | exact ⟨by rw [if_neg (by omega)]; rfl, rfl⟩
    · have h2 : ¬ (0 ≤ p ∧ p ≤ 1) := h2
      show jWp 171 21 [some (jO m), some (jI (i1 : Int)), some (jI p)] [jI 0] 0 0 w _
      refine jWp.ifc (b := false) mt rfl (by decide) rfl ?_
      show jWp 171 24 [some (jO m), some (jI (i1 : Int)), some (jI p)] [] 0 0 w _
      refine jWp.blk mt 2 ?_
      show _ ∧ jWp 171 27 [some (jO m), some (jI (i1 : Int)), some (jI p)] [jI (-2), jO m] 0 0 w _
      refine ⟨rfl, ?_⟩
      refine jWp.callv (as := [jO m, jI (-2)]) (rest := []) mt rfl rfl rfl ⟨rfl, jtg hW.K0⟩ ?_
      refine jCall.mono (E_refuses (w := w) (j := 2) hW (by decide) (by decide)) (fun v9 w9 h9 => ?_)
      obtain ⟨rfl, h9⟩ := h9
      subst h9
      show jWp 171 30 [some (jO m), some (jI (i1 : Int)), some (jI p)] [jI (-2)] 0 0 (jW w (m + 3) 2 ((w.1 (m + 3) 2) + 1)) _
      refine jWp.ireti mt rfl ⟨rfl, rfl⟩ rfl ?_
      refine ⟨fun c0 => ?_, fun c0 c1 => ?_, fun c0 c1 => ?_⟩
      all_goals first
      | (exfalso; omega)
      | exact ⟨rfl, rfl⟩
      | exact ⟨by rw [if_pos (by omega)]; rfl, rfl⟩
      | exact ⟨by rw [if_neg (by omega)]; rfl, rfl⟩
  · have h1 : ¬ (0 ≤ i ∧ i < (n : Int)) := h1
    show jWp 171 5 [some (jO m), some (jI i), some (jI p)] [jI 0] 0 0 w _
    refine jWp.ifc (b := false) mt rfl (by decide) rfl ?_
    show jWp 171 8 [some (jO m), some (jI i), some (jI p)] [] 0 0 w _
    refine jWp.blk mt 2 ?_
    show _ ∧ jWp 171 10 [some (jO m), some (jI i), some (jI p)] [jI (-1), jO m] 0 0 w _
    refine ⟨rfl, ?_⟩
    refine jWp.callv (as := [jO m, jI (-1)]) (rest := []) mt rfl rfl rfl ⟨rfl, jtg hW.K0⟩ ?_
    refine jCall.mono (E_refuses (w := w) (j := 1) hW (by decide) (by decide)) (fun v9 w9 h9 => ?_)
    obtain ⟨rfl, h9⟩ := h9
    subst h9
    show jWp 171 13 [some (jO m), some (jI i), some (jI p)] [jI (-1)] 0 0 (jW w (m + 3) 1 ((w.1 (m + 3) 1) + 1)) _
    refine jWp.ireti mt rfl ⟨rfl, rfl⟩ rfl ?_
    refine ⟨fun c0 => ?_, fun c0 c1 => ?_, fun c0 c1 => ?_⟩
    all_goals first
    | (exfalso; omega)
    | exact ⟨rfl, rfl⟩
    | exact ⟨by rw [if_pos (by omega)]; rfl, rfl⟩
    | exact ⟨by rw [if_neg (by omega)]; rfl, rfl⟩
set_option maxHeartbeats 4000000 in
set_option maxRecDepth 20000 in
theorem E_entry {w : jS} {m : Nat} (hW : MW w.2 m) {n : Nat} (hS : zS (w.1 (m + 1)) n) {i j : Int} (hri : r32 i) (hrj : r32 j) : jCall 170 [jO m, jI i, jI j] w (fun v w1 => ((¬ (0 ≤ i ∧ i < (n : Int)) ∨ ¬ (0 ≤ j ∧ j < (n : Int))) → jno w m 1 (jI (1000000000 - (-1))) v w1) ∧ (¬ (¬ (0 ≤ i ∧ i < (n : Int)) ∨ ¬ (0 ≤ j ∧ j < (n : Int))) → v = some (jI (w.1 (m + 1) (1 + (4 * i.toNat + j.toNat)))) ∧ w1 = w)) := by
  have mt : jtb 170 = jT170 := rfl
  have hn2 := hS.n2
  have hn4 := hS.n4
  have hri1 : -2147483648 ≤ i ∧ i < 2147483648 := hri
  show jWp 170 0 [some (jO m), some (jI i), some (jI j)] [] 0 0 w _
  refine jWp.blk mt 2 ?_
  show _ ∧ jWp 170 2 [some (jO m), some (jI i), some (jI j)] [jI i, jO m] 0 0 w _
  refine ⟨rfl, ?_⟩
  refine jWp.callv (as := [jO m, jI i]) (rest := []) mt rfl rfl rfl ⟨rfl, jtg hW.K0⟩ ?_
  refine jCall.mono (E_isLetter hW hS hri) (fun v9 w9 h9 => ?_)
  rcases h9 with ⟨rfl, h9, h1⟩ | ⟨rfl, h9, h1⟩ <;> subst w9
  · have h1 : 0 ≤ i ∧ i < (n : Int) := h1
    show jWp 170 5 [some (jO m), some (jI i), some (jI j)] [jI 1] 0 0 w _
    obtain ⟨i1, rfl⟩ : ∃ i1 : Nat, i = (i1 : Int) := ⟨i.toNat, by omega⟩
    show jWp 170 5 [some (jO m), some (jI (i1 : Int)), some (jI j)] [jI 1] 0 0 w _
    refine jWp.ifc (b := false) mt rfl (by decide) rfl ?_
    show jWp 170 8 [some (jO m), some (jI (i1 : Int)), some (jI j)] [] 0 0 w _
    refine jWp.blk mt 2 ?_
    show _ ∧ jWp 170 10 [some (jO m), some (jI (i1 : Int)), some (jI j)] [jI j, jO m] 0 0 w _
    refine ⟨rfl, ?_⟩
    refine jWp.callv (as := [jO m, jI j]) (rest := []) mt rfl rfl rfl ⟨rfl, jtg hW.K0⟩ ?_
    refine jCall.mono (E_isLetter hW hS hrj) (fun v9 w9 h9 => ?_)
    rcases h9 with ⟨rfl, h9, h2⟩ | ⟨rfl, h9, h2⟩ <;> subst w9
    · have h2 : 0 ≤ j ∧ j < (n : Int) := h2
      show jWp 170 13 [some (jO m), some (jI (i1 : Int)), some (jI j)] [jI 1] 0 0 w _
      obtain ⟨j1, rfl⟩ : ∃ j1 : Nat, j = (j1 : Int) := ⟨j.toNat, by omega⟩
      show jWp 170 13 [some (jO m), some (jI (i1 : Int)), some (jI (j1 : Int))] [jI 1] 0 0 w _
      refine jWp.ifc (b := false) mt rfl (by decide) rfl ?_
      show jWp 170 16 [some (jO m), some (jI (i1 : Int)), some (jI (j1 : Int))] [] 0 0 w _
      refine jWp.blk mt 1 ?_
      show _ ∧ jWp 170 17 [some (jO m), some (jI (i1 : Int)), some (jI (j1 : Int))] [jO m] 0 0 w _
      refine ⟨rfl, ?_⟩
      refine jWp.getR (pc' := 20) (o := (m + 1)) mt rfl rfl (jtg hW.K0) hW.R0 ?_
      show jWp 170 20 [some (jO m), some (jI (i1 : Int)), some (jI (j1 : Int))] [jO (m + 1)] 0 0 w _
      refine jWp.blk mt 2 ?_
      show jWp 170 22 [some (jO m), some (jI (i1 : Int)), some (jI (j1 : Int))] [jI (j1 : Int), jI (i1 : Int), jO (m + 1)] 0 0 w _
      refine jWp.calls (as := [jO (m + 1), jI (i1 : Int), jI (j1 : Int)]) (rest := []) mt rfl rfl rfl rfl ?_
      refine jCall.mono (E_b (w := w) (i := i1) (k := j1) hW.K1 (by omega) (by omega) (by omega)) (fun v9 w9 h9 => ?_)
      obtain ⟨rfl, h9⟩ := h9
      subst w9
      show jWp 170 25 [some (jO m), some (jI (i1 : Int)), some (jI (j1 : Int))] [jJ (w.1 (m + 1) (1 + (4 * i1 + j1)))] 0 0 w _
      refine jWp.blk mt 2 ?_
      show jWp 170 34 [some (jO m), some (jI (i1 : Int)), some (jI (j1 : Int))] [jI (w.1 (m + 1) (1 + (4 * i1 + j1)))] 0 0 w _
      refine jWp.ireti mt rfl ⟨rfl, rfl⟩ rfl ?_
      refine ⟨fun c0 => ?_, fun c0 => ?_⟩
      all_goals first
      | (exfalso; omega)
      | exact ⟨rfl, rfl⟩
    · have h2 : ¬ (0 ≤ j ∧ j < (n : Int)) := h2
      show jWp 170 13 [some (jO m), some (jI (i1 : Int)), some (jI j)] [jI 0] 0 0 w _
      refine jWp.ifc (b := true) mt rfl (by decide) rfl ?_
      show jWp 170 29 [some (jO m), some (jI (i1 : Int)), some (jI j)] [] 0 0 w _
      refine jWp.blk mt 2 ?_
      show _ ∧ jWp 170 31 [some (jO m), some (jI (i1 : Int)), some (jI j)] [jI (-1), jO m] 0 0 w _
      refine ⟨rfl, ?_⟩
      refine jWp.callv (as := [jO m, jI (-1)]) (rest := []) mt rfl rfl rfl ⟨rfl, jtg hW.K0⟩ ?_
      refine jCall.mono (E_far (w := w) (j := 1) hW (by decide) (by decide)) (fun v9 w9 h9 => ?_)
      obtain ⟨rfl, h9⟩ := h9
      subst h9
      show jWp 170 34 [some (jO m), some (jI (i1 : Int)), some (jI j)] [jI (1000000000 - (-1))] 0 0 (jW w (m + 3) 1 ((w.1 (m + 3) 1) + 1)) _
      refine jWp.ireti mt rfl ⟨rfl, rfl⟩ rfl ?_
      refine ⟨fun c0 => ?_, fun c0 => ?_⟩
      all_goals first
      | (exfalso; omega)
      | exact ⟨rfl, rfl⟩
  · have h1 : ¬ (0 ≤ i ∧ i < (n : Int)) := h1
    show jWp 170 5 [some (jO m), some (jI i), some (jI j)] [jI 0] 0 0 w _
    refine jWp.ifc (b := true) mt rfl (by decide) rfl ?_
    show jWp 170 29 [some (jO m), some (jI i), some (jI j)] [] 0 0 w _
    refine jWp.blk mt 2 ?_
    show _ ∧ jWp 170 31 [some (jO m), some (jI i), some (jI j)] [jI (-1), jO m] 0 0 w _
    refine ⟨rfl, ?_⟩
    refine jWp.callv (as := [jO m, jI (-1)]) (rest := []) mt rfl rfl rfl ⟨rfl, jtg hW.K0⟩ ?_
    refine jCall.mono (E_far (w := w) (j := 1) hW (by decide) (by decide)) (fun v9 w9 h9 => ?_)
    obtain ⟨rfl, h9⟩ := h9
    subst h9
    show jWp 170 34 [some (jO m), some (jI i), some (jI j)] [jI (1000000000 - (-1))] 0 0 (jW w (m + 3) 1 ((w.1 (m + 3) 1) + 1)) _
    refine jWp.ireti mt rfl ⟨rfl, rfl⟩ rfl ?_
    refine ⟨fun c0 => ?_, fun c0 => ?_⟩
    all_goals first
    | (exfalso; omega)
    | exact ⟨rfl, rfl⟩
