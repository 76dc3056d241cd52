def MW (g : (Nat → Nat × Nat) × (Nat → Nat → Option Nat) × Nat × Nat) (m : Nat) : Prop :=
  (g.1 m = (10, 0)) ∧
  (g.1 (m + 1) = (101, 45)) ∧
  (g.1 (m + 2) = (100, 41)) ∧
  (g.1 (m + 3) = (100, 7)) ∧
  (g.1 (m + 4) = (101, 60)) ∧
  (g.1 (m + 5) = (101, 60)) ∧
  (g.1 (m + 6) = (101, 16)) ∧
  (g.1 (m + 7) = (105, 8)) ∧
  (∀ i, i < 8 → g.1 (m + (8 + i)) = (101, 45)) ∧
  (g.1 (m + 16) = (101, 45)) ∧
  (g.1 (m + 17) = (105, 400)) ∧
  (∀ i, i < 400 → g.1 (m + (18 + i)) = (101, 45)) ∧
  (g.1 (m + 418) = (100, 400)) ∧
  (g.1 (m + 419) = (100, 400)) ∧
  (g.1 (m + 420) = (100, 400)) ∧
  (g.1 (m + 421) = (100, 72)) ∧
  (g.1 (m + 422) = (100, 3)) ∧
  (g.1 (m + 423) = (100, 3)) ∧
  (g.1 (m + 424) = (105, 3)) ∧
  (∀ i, i < 3 → g.1 (m + (425 + i)) = (101, 40)) ∧
  (g.1 (m + 428) = (101, 45)) ∧
  (g.1 (m + 429) = (100, 41)) ∧
  (g.2.1 m 0 = some (m + 1)) ∧
  (g.2.1 m 1 = some (m + 2)) ∧
  (g.2.1 m 2 = some (m + 3)) ∧
  (g.2.1 m 3 = some (m + 4)) ∧
  (g.2.1 m 10 = some (m + 5)) ∧
  (g.2.1 m 13 = some (m + 6)) ∧
  (g.2.1 m 14 = some (m + 7)) ∧
  (g.2.1 m 16 = some (m + 16)) ∧
  (g.2.1 m 17 = some (m + 17)) ∧
  (g.2.1 m 18 = some (m + 418)) ∧
  (g.2.1 m 19 = some (m + 419)) ∧
  (g.2.1 m 20 = some (m + 420)) ∧
  (g.2.1 m 23 = some (m + 421)) ∧
  (g.2.1 m 26 = some (m + 422)) ∧
  (g.2.1 m 27 = some (m + 423)) ∧
  (g.2.1 m 28 = some (m + 424)) ∧
  (g.2.1 m 29 = some (m + 428)) ∧
  (g.2.1 m 30 = some (m + 429)) ∧
  (∀ i, i < 8 → g.2.1 (m + 7) i = some (m + (8 + i))) ∧
  (∀ i, i < 400 → g.2.1 (m + 17) i = some (m + (18 + i))) ∧
  (∀ i, i < 3 → g.2.1 (m + 424) i = some (m + (425 + i)))
theorem MW.K0 {g : (Nat → Nat × Nat) × (Nat → Nat → Option Nat) × Nat × Nat} {m : Nat} (h : MW g m) : g.1 m = (10, 0) := h.1
theorem MW.K1 {g : (Nat → Nat × Nat) × (Nat → Nat → Option Nat) × Nat × Nat} {m : Nat} (h : MW g m) : g.1 (m + 1) = (101, 45) := h.2.1
theorem MW.K2 {g : (Nat → Nat × Nat) × (Nat → Nat → Option Nat) × Nat × Nat} {m : Nat} (h : MW g m) : g.1 (m + 2) = (100, 41) := h.2.2.1
theorem MW.K3 {g : (Nat → Nat × Nat) × (Nat → Nat → Option Nat) × Nat × Nat} {m : Nat} (h : MW g m) : g.1 (m + 3) = (100, 7) := h.2.2.2.1
theorem MW.K4 {g : (Nat → Nat × Nat) × (Nat → Nat → Option Nat) × Nat × Nat} {m : Nat} (h : MW g m) : g.1 (m + 4) = (101, 60) := h.2.2.2.2.1
theorem MW.K5 {g : (Nat → Nat × Nat) × (Nat → Nat → Option Nat) × Nat × Nat} {m : Nat} (h : MW g m) : g.1 (m + 5) = (101, 60) := h.2.2.2.2.2.1
theorem MW.K6 {g : (Nat → Nat × Nat) × (Nat → Nat → Option Nat) × Nat × Nat} {m : Nat} (h : MW g m) : g.1 (m + 6) = (101, 16) := h.2.2.2.2.2.2.1
theorem MW.K7 {g : (Nat → Nat × Nat) × (Nat → Nat → Option Nat) × Nat × Nat} {m : Nat} (h : MW g m) : g.1 (m + 7) = (105, 8) := h.2.2.2.2.2.2.2.1
theorem MW.KW {g : (Nat → Nat × Nat) × (Nat → Nat → Option Nat) × Nat × Nat} {m : Nat} (h : MW g m) : ∀ i, i < 8 → g.1 (m + (8 + i)) = (101, 45) := h.2.2.2.2.2.2.2.2.1
theorem MW.K16 {g : (Nat → Nat × Nat) × (Nat → Nat → Option Nat) × Nat × Nat} {m : Nat} (h : MW g m) : g.1 (m + 16) = (101, 45) := h.2.2.2.2.2.2.2.2.2.1
theorem MW.K17 {g : (Nat → Nat × Nat) × (Nat → Nat → Option Nat) × Nat × Nat} {m : Nat} (h : MW g m) : g.1 (m + 17) = (105, 400) := h.2.2.2.2.2.2.2.2.2.2.1
theorem MW.KF {g : (Nat → Nat × Nat) × (Nat → Nat → Option Nat) × Nat × Nat} {m : Nat} (h : MW g m) : ∀ i, i < 400 → g.1 (m + (18 + i)) = (101, 45) := h.2.2.2.2.2.2.2.2.2.2.2.1
theorem MW.K418 {g : (Nat → Nat × Nat) × (Nat → Nat → Option Nat) × Nat × Nat} {m : Nat} (h : MW g m) : g.1 (m + 418) = (100, 400) := h.2.2.2.2.2.2.2.2.2.2.2.2.1
theorem MW.K419 {g : (Nat → Nat × Nat) × (Nat → Nat → Option Nat) × Nat × Nat} {m : Nat} (h : MW g m) : g.1 (m + 419) = (100, 400) := h.2.2.2.2.2.2.2.2.2.2.2.2.2.1
theorem MW.K420 {g : (Nat → Nat × Nat) × (Nat → Nat → Option Nat) × Nat × Nat} {m : Nat} (h : MW g m) : g.1 (m + 420) = (100, 400) := h.2.2.2.2.2.2.2.2.2.2.2.2.2.2.1
theorem MW.K421 {g : (Nat → Nat × Nat) × (Nat → Nat → Option Nat) × Nat × Nat} {m : Nat} (h : MW g m) : g.1 (m + 421) = (100, 72) := h.2.2.2.2.2.2.2.2.2.2.2.2.2.2.2.1
theorem MW.K422 {g : (Nat → Nat × Nat) × (Nat → Nat → Option Nat) × Nat × Nat} {m : Nat} (h : MW g m) : g.1 (m + 422) = (100, 3) := h.2.2.2.2.2.2.2.2.2.2.2.2.2.2.2.2.1
theorem MW.K423 {g : (Nat → Nat × Nat) × (Nat → Nat → Option Nat) × Nat × Nat} {m : Nat} (h : MW g m) : g.1 (m + 423) = (100, 3) := h.2.2.2.2.2.2.2.2.2.2.2.2.2.2.2.2.2.1
theorem MW.K424 {g : (Nat → Nat × Nat) × (Nat → Nat → Option Nat) × Nat × Nat} {m : Nat} (h : MW g m) : g.1 (m + 424) = (105, 3) := h.2.2.2.2.2.2.2.2.2.2.2.2.2.2.2.2.2.2.1
theorem MW.KI {g : (Nat → Nat × Nat) × (Nat → Nat → Option Nat) × Nat × Nat} {m : Nat} (h : MW g m) : ∀ i, i < 3 → g.1 (m + (425 + i)) = (101, 40) := h.2.2.2.2.2.2.2.2.2.2.2.2.2.2.2.2.2.2.2.1
theorem MW.K428 {g : (Nat → Nat × Nat) × (Nat → Nat → Option Nat) × Nat × Nat} {m : Nat} (h : MW g m) : g.1 (m + 428) = (101, 45) := h.2.2.2.2.2.2.2.2.2.2.2.2.2.2.2.2.2.2.2.2.1
theorem MW.K429 {g : (Nat → Nat × Nat) × (Nat → Nat → Option Nat) × Nat × Nat} {m : Nat} (h : MW g m) : g.1 (m + 429) = (100, 41) := h.2.2.2.2.2.2.2.2.2.2.2.2.2.2.2.2.2.2.2.2.2.1
theorem MW.R0 {g : (Nat → Nat × Nat) × (Nat → Nat → Option Nat) × Nat × Nat} {m : Nat} (h : MW g m) : g.2.1 m 0 = some (m + 1) := h.2.2.2.2.2.2.2.2.2.2.2.2.2.2.2.2.2.2.2.2.2.2.1
theorem MW.R1 {g : (Nat → Nat × Nat) × (Nat → Nat → Option Nat) × Nat × Nat} {m : Nat} (h : MW g m) : g.2.1 m 1 = some (m + 2) := h.2.2.2.2.2.2.2.2.2.2.2.2.2.2.2.2.2.2.2.2.2.2.2.1
theorem MW.R2 {g : (Nat → Nat × Nat) × (Nat → Nat → Option Nat) × Nat × Nat} {m : Nat} (h : MW g m) : g.2.1 m 2 = some (m + 3) := h.2.2.2.2.2.2.2.2.2.2.2.2.2.2.2.2.2.2.2.2.2.2.2.2.1
theorem MW.R3 {g : (Nat → Nat × Nat) × (Nat → Nat → Option Nat) × Nat × Nat} {m : Nat} (h : MW g m) : g.2.1 m 3 = some (m + 4) := h.2.2.2.2.2.2.2.2.2.2.2.2.2.2.2.2.2.2.2.2.2.2.2.2.2.1
theorem MW.R10 {g : (Nat → Nat × Nat) × (Nat → Nat → Option Nat) × Nat × Nat} {m : Nat} (h : MW g m) : g.2.1 m 10 = some (m + 5) := h.2.2.2.2.2.2.2.2.2.2.2.2.2.2.2.2.2.2.2.2.2.2.2.2.2.2.1
theorem MW.R13 {g : (Nat → Nat × Nat) × (Nat → Nat → Option Nat) × Nat × Nat} {m : Nat} (h : MW g m) : g.2.1 m 13 = some (m + 6) := h.2.2.2.2.2.2.2.2.2.2.2.2.2.2.2.2.2.2.2.2.2.2.2.2.2.2.2.1
theorem MW.R14 {g : (Nat → Nat × Nat) × (Nat → Nat → Option Nat) × Nat × Nat} {m : Nat} (h : MW g m) : g.2.1 m 14 = some (m + 7) := h.2.2.2.2.2.2.2.2.2.2.2.2.2.2.2.2.2.2.2.2.2.2.2.2.2.2.2.2.1
theorem MW.R16 {g : (Nat → Nat × Nat) × (Nat → Nat → Option Nat) × Nat × Nat} {m : Nat} (h : MW g m) : g.2.1 m 16 = some (m + 16) := h.2.2.2.2.2.2.2.2.2.2.2.2.2.2.2.2.2.2.2.2.2.2.2.2.2.2.2.2.2.1
theorem MW.R17 {g : (Nat → Nat × Nat) × (Nat → Nat → Option Nat) × Nat × Nat} {m : Nat} (h : MW g m) : g.2.1 m 17 = some (m + 17) := h.2.2.2.2.2.2.2.2.2.2.2.2.2.2.2.2.2.2.2.2.2.2.2.2.2.2.2.2.2.2.1
theorem MW.R18 {g : (Nat → Nat × Nat) × (Nat → Nat → Option Nat) × Nat × Nat} {m : Nat} (h : MW g m) : g.2.1 m 18 = some (m + 418) := h.2.2.2.2.2.2.2.2.2.2.2.2.2.2.2.2.2.2.2.2.2.2.2.2.2.2.2.2.2.2.2.1
theorem MW.R19 {g : (Nat → Nat × Nat) × (Nat → Nat → Option Nat) × Nat × Nat} {m : Nat} (h : MW g m) : g.2.1 m 19 = some (m + 419) := h.2.2.2.2.2.2.2.2.2.2.2.2.2.2.2.2.2.2.2.2.2.2.2.2.2.2.2.2.2.2.2.2.1
theorem MW.R20 {g : (Nat → Nat × Nat) × (Nat → Nat → Option Nat) × Nat × Nat} {m : Nat} (h : MW g m) : g.2.1 m 20 = some (m + 420) := h.2.2.2.2.2.2.2.2.2.2.2.2.2.2.2.2.2.2.2.2.2.2.2.2.2.2.2.2.2.2.2.2.2.1
theorem MW.R23 {g : (Nat → Nat × Nat) × (Nat → Nat → Option Nat) × Nat × Nat} {m : Nat} (h : MW g m) : g.2.1 m 23 = some (m + 421) := h.2.2.2.2.2.2.2.2.2.2.2.2.2.2.2.2.2.2.2.2.2.2.2.2.2.2.2.2.2.2.2.2.2.2.1
theorem MW.R26 {g : (Nat → Nat × Nat) × (Nat → Nat → Option Nat) × Nat × Nat} {m : Nat} (h : MW g m) : g.2.1 m 26 = some (m + 422) := h.2.2.2.2.2.2.2.2.2.2.2.2.2.2.2.2.2.2.2.2.2.2.2.2.2.2.2.2.2.2.2.2.2.2.2.1
theorem MW.R27 {g : (Nat → Nat × Nat) × (Nat → Nat → Option Nat) × Nat × Nat} {m : Nat} (h : MW g m) : g.2.1 m 27 = some (m + 423) := h.2.2.2.2.2.2.2.2.2.2.2.2.2.2.2.2.2.2.2.2.2.2.2.2.2.2.2.2.2.2.2.2.2.2.2.2.1
theorem MW.R28 {g : (Nat → Nat × Nat) × (Nat → Nat → Option Nat) × Nat × Nat} {m : Nat} (h : MW g m) : g.2.1 m 28 = some (m + 424) := h.2.2.2.2.2.2.2.2.2.2.2.2.2.2.2.2.2.2.2.2.2.2.2.2.2.2.2.2.2.2.2.2.2.2.2.2.2.1
theorem MW.R29 {g : (Nat → Nat × Nat) × (Nat → Nat → Option Nat) × Nat × Nat} {m : Nat} (h : MW g m) : g.2.1 m 29 = some (m + 428) := h.2.2.2.2.2.2.2.2.2.2.2.2.2.2.2.2.2.2.2.2.2.2.2.2.2.2.2.2.2.2.2.2.2.2.2.2.2.2.1
theorem MW.R30 {g : (Nat → Nat × Nat) × (Nat → Nat → Option Nat) × Nat × Nat} {m : Nat} (h : MW g m) : g.2.1 m 30 = some (m + 429) := h.2.2.2.2.2.2.2.2.2.2.2.2.2.2.2.2.2.2.2.2.2.2.2.2.2.2.2.2.2.2.2.2.2.2.2.2.2.2.2.1
theorem MW.RW {g : (Nat → Nat × Nat) × (Nat → Nat → Option Nat) × Nat × Nat} {m : Nat} (h : MW g m) : ∀ i, i < 8 → g.2.1 (m + 7) i = some (m + (8 + i)) := h.2.2.2.2.2.2.2.2.2.2.2.2.2.2.2.2.2.2.2.2.2.2.2.2.2.2.2.2.2.2.2.2.2.2.2.2.2.2.2.2.1
theorem MW.RFo {g : (Nat → Nat × Nat) × (Nat → Nat → Option Nat) × Nat × Nat} {m : Nat} (h : MW g m) : ∀ i, i < 400 → g.2.1 (m + 17) i = some (m + (18 + i)) := h.2.2.2.2.2.2.2.2.2.2.2.2.2.2.2.2.2.2.2.2.2.2.2.2.2.2.2.2.2.2.2.2.2.2.2.2.2.2.2.2.2.1
theorem MW.RI {g : (Nat → Nat × Nat) × (Nat → Nat → Option Nat) × Nat × Nat} {m : Nat} (h : MW g m) : ∀ i, i < 3 → g.2.1 (m + 424) i = some (m + (425 + i)) := h.2.2.2.2.2.2.2.2.2.2.2.2.2.2.2.2.2.2.2.2.2.2.2.2.2.2.2.2.2.2.2.2.2.2.2.2.2.2.2.2.2.2
theorem jW_f {w : jS} {a b k : Nat} {x : Int} (h : b ≠ a) : (jW w a k x).1 b = w.1 b := funext fun _ => jW_a h
theorem jrg {p : Nat × Nat} {t n : Nat} (h : p = (t, n)) (h1 : 102 ≤ t) (h2 : t ≤ 105) : 102 ≤ p.1 ∧ p.1 ≤ 105 := by rw [h]; exact ⟨h1, h2⟩
theorem kA_fs {w : jS} {a : Nat} {T : Nat → Int} : (kA w a T).1 a = T := funext fun _ => kA_s
set_option maxHeartbeats 4000000 in
set_option maxRecDepth 20000 in
theorem E_refuses {w : jS} {m : Nat} (hW : MW w.2 m) {y : Int} {j : Nat} (hj : 1 ≤ j ∧ j ≤ 6) (hy : y = -(j : Int)) : jCall 136 [jO m, jI y] w (fun v w1 => v = some (jI y) ∧ w1 = jW w (m + 3) j (w.1 (m + 3) j + 1)) := by
  have mt : jtb 136 = jT136 := rfl
  show jWp 136 0 [some (jO m), some (jI y)] [] 0 0 w _
  refine jWp.blk mt 1 ?_
  show _ ∧ jWp 136 1 [some (jO m), some (jI y)] [jO m] 0 0 w _
  refine ⟨rfl, ?_⟩
  refine jWp.getR (pc' := 4) (o := (m + 3)) mt rfl rfl (jtg hW.K0) hW.R2 ?_
  show jWp 136 4 [some (jO m), some (jI y)] [jO (m + 3)] 0 0 w _
  refine jWp.blk mt 3 ?_
  show _ ∧ jWp 136 7 [some (jO m), some (jI y)] [jI (-y), jO (m + 3), jI (-y), jO (m + 3)] 0 0 w _
  refine ⟨rfl, ?_⟩
  refine jWp.iald (pc' := 8) (j := j) mt rfl rfl (jird_of hW.K3) (by rw [b32_id (by omega) (by omega)]; omega) (jlt hW.K3 (by omega)) ?_
  show jWp 136 8 [some (jO m), some (jI y)] [jI (w.1 (m + 3) j), jI (-y), jO (m + 3)] 0 0 w _
  refine jWp.blk mt 2 ?_
  show jWp 136 10 [some (jO m), some (jI y)] [jI ((w.1 (m + 3) j) + 1), jI (-y), jO (m + 3)] 0 0 w _
  refine jWp.iast (pc' := 11) (j := j) mt rfl rfl (jtg hW.K3) (by rw [b32_id (by omega) (by omega)]; omega) (jlt hW.K3 (by omega)) ?_
  show jWp 136 11 [some (jO m), some (jI y)] [] 0 0 (jW w (m + 3) j ((w.1 (m + 3) j) + 1)) _
  refine jWp.blk mt 1 ?_
  show jWp 136 12 [some (jO m), some (jI y)] [jI y] 0 0 (jW w (m + 3) j ((w.1 (m + 3) j) + 1)) _
  refine jWp.ireti mt rfl ⟨rfl, rfl⟩ rfl ?_
  exact ⟨rfl, rfl⟩
set_option maxHeartbeats 4000000 in
set_option maxRecDepth 20000 in
theorem E_far {w : jS} {m : Nat} (hW : MW w.2 m) {y : Int} {j : Nat} (hj : 1 ≤ j ∧ j ≤ 6) (hy : y = -(j : Int)) : jCall 137 [jO m, jI y] w (fun v w1 => v = some (jI (1000000000 - y)) ∧ w1 = jW w (m + 3) j (w.1 (m + 3) j + 1)) := by
  have mt : jtb 137 = jT137 := rfl
  show jWp 137 0 [some (jO m), some (jI y)] [] 0 0 w _
  refine jWp.blk mt 3 ?_
  show _ ∧ jWp 137 4 [some (jO m), some (jI y)] [jI y, jO m, jI 1000000000] 0 0 w _
  refine ⟨rfl, ?_⟩
  refine jWp.callv (as := [jO m, jI y]) (rest := [jI 1000000000]) mt rfl rfl rfl ⟨rfl, jtg hW.K0⟩ ?_
  refine jCall.mono (E_refuses hW hj hy) (fun v9 w9 h9 => ?_)
  obtain ⟨rfl, h9⟩ := h9
  subst h9
  show jWp 137 7 [some (jO m), some (jI y)] [jI y, jI 1000000000] 0 0 (jW w (m + 3) j (w.1 (m + 3) j + 1)) _
  refine jWp.blk mt 1 ?_
  show jWp 137 8 [some (jO m), some (jI y)] [jI (1000000000 - y)] 0 0 (jW w (m + 3) j (w.1 (m + 3) j + 1)) _
  refine jWp.ireti mt rfl ⟨rfl, rfl⟩ rfl ?_
  exact ⟨rfl, rfl⟩
set_option maxHeartbeats 4000000 in
set_option maxRecDepth 20000 in
theorem E_farther {w : jS} {m : Nat} (hW : MW w.2 m) {y : Int} {j : Nat} (hj : 1 ≤ j ∧ j ≤ 6) (hy : y = -(j : Int)) : jCall 138 [jO m, jI y] w (fun v w1 => v = some (jJ (4000000000000000000 - y)) ∧ w1 = jW w (m + 3) j (w.1 (m + 3) j + 1)) := by
  have mt : jtb 138 = jT138 := rfl
  show jWp 138 0 [some (jO m), some (jI y)] [] 0 0 w _
  refine jWp.blk mt 3 ?_
  show _ ∧ jWp 138 5 [some (jO m), some (jI y)] [jI y, jO m, jJ 4000000000000000000] 0 0 w _
  refine ⟨rfl, ?_⟩
  refine jWp.callv (as := [jO m, jI y]) (rest := [jJ 4000000000000000000]) mt rfl rfl rfl ⟨rfl, jtg hW.K0⟩ ?_
  refine jCall.mono (E_refuses hW hj hy) (fun v9 w9 h9 => ?_)
  obtain ⟨rfl, h9⟩ := h9
  subst h9
  show jWp 138 8 [some (jO m), some (jI y)] [jI y, jJ 4000000000000000000] 0 0 (jW w (m + 3) j (w.1 (m + 3) j + 1)) _
  refine jWp.i2l (pc' := 9) mt rfl rfl (b32_id (by omega) (by omega)) ?_
  show jWp 138 9 [some (jO m), some (jI y)] [jJ y, jJ 4000000000000000000] 0 0 (jW w (m + 3) j (w.1 (m + 3) j + 1)) _
  refine jWp.blk mt 1 ?_
  show jWp 138 10 [some (jO m), some (jI y)] [jJ (4000000000000000000 - y)] 0 0 (jW w (m + 3) j (w.1 (m + 3) j + 1)) _
  refine jWp.lret mt rfl ⟨rfl, rfl⟩ rfl ?_
  exact ⟨rfl, rfl⟩
set_option maxHeartbeats 4000000 in
set_option maxRecDepth 20000 in
theorem E_isLetter {w : jS} {m : Nat} (hW : MW w.2 m) {n : Nat} {i : Int} (hS : zS (w.1 (m + 1)) n) (hri : r32 i) : jCall 165 [jO m, jI i] w (jvb (0 ≤ i ∧ i < (n : Int)) w) := by
  have mt : jtb 165 = jT165 := rfl
  show jWp 165 0 [some (jO m), some (jI i)] [] 0 0 w _
  refine jWp.blk mt 1 ?_
  show _ ∧ jWp 165 1 [some (jO m), some (jI i)] [jO m] 0 0 w _
  refine ⟨rfl, ?_⟩
  refine jWp.getR (pc' := 4) (o := (m + 1)) mt rfl rfl (jtg hW.K0) hW.R0 ?_
  show jWp 165 4 [some (jO m), some (jI i)] [jO (m + 1)] 0 0 w _
  refine jWp.blk mt 1 ?_
  show jWp 165 5 [some (jO m), some (jI i)] [jI i, jO (m + 1)] 0 0 w _
  refine jWp.calls (as := [jO (m + 1), jI i]) (rest := []) mt rfl rfl rfl rfl ?_
  refine jCall.mono (E_isIn (n := n) hW.K1 hS.n0 hS.n4 hri) (fun v9 w9 h9 => ?_)
  rcases h9 with ⟨rfl, h9, h1⟩ | ⟨rfl, h9, h1⟩ <;> subst w9
  · have h1 : 0 ≤ i ∧ i < (n : Int) := h1
    show jWp 165 8 [some (jO m), some (jI i)] [jI 1] 0 0 w _
    refine jWp.iretz mt rfl ⟨rfl, rfl⟩ rfl (Or.inr rfl) ?_
    exact Or.inl ⟨rfl, rfl, by assumption⟩
  · have h1 : ¬ (0 ≤ i ∧ i < (n : Int)) := h1
    show jWp 165 8 [some (jO m), some (jI i)] [jI 0] 0 0 w _
    refine jWp.iretz mt rfl ⟨rfl, rfl⟩ rfl (Or.inl rfl) ?_
    exact Or.inr ⟨rfl, rfl, by assumption⟩
