/-- a seed of so many letters, all new -/
def znew (S : Nat → Int) (n : Nat) : Prop := S 0 = (n : Int) ∧ (∀ j, j < 16 → S (1 + j) = 0) ∧ (∀ i, i < 4 → S (17 + i) = 1 ∧ S (21 + i) = 1 ∧ S (25 + i) = 1) ∧ (∀ i c, i < 4 → c < 4 → S (29 + 4 * i + c) = if i = c then -1 else 0)
theorem znew_S {S : Nat → Int} {n : Nat} (h : znew S n) (h2 : 2 ≤ n) (h4 : n ≤ 4) : zS S n :=
  ⟨h.1, h2, h4, fun i hi => by rw [(h.2.2.1 i hi).2.1, (h.2.2.1 i hi).2.2]; decide, fun j hj => by rw [h.2.1 j hj]; decide⟩
/-- only the seed is new, and nothing can be undone -/
def znw (w : jS) (m : Nat) (w1 : jS) : Prop := w1.2 = w.2 ∧ (∀ a, a ≠ m → a ≠ m + 1 → w1.1 a = w.1 a) ∧ w1.1 m 15 = 0 ∧ ∀ j, j ≠ 15 → w1.1 m j = w.1 m j
theorem znw_k {w : jS} {m : Nat} {S : Nat → Int} : znw w m (jW (kA w (m + 1) S) m 15 0) :=
  ⟨rfl, fun a h0 h1 => (jW_f h0).trans (kA_f h1), jW_s, fun j hj => (jW_k hj).trans (kA_a (by omega))⟩
theorem zbg_S {q S : Nat → Int} {n : Nat} (hS : zS q n) (hs : ∀ i, i < 4 → 1 ≤ q (17 + i) ∧ q (17 + i) ≤ 9) (h : zbg q S) : zS S n :=
  ⟨(h.1 0 (by omega)).trans hS.n0, hS.n2, hS.n4, fun i hi => by have := hs i hi; rw [(h.2.1 i hi).1, (h.2.1 i hi).2]; exact ⟨this.1, by show q (17 + i) ≤ 1000000000; omega, (by decide : (1 : Int) ≤ 1), (by decide : (1 : Int) ≤ 1000000000)⟩, fun j hj => by rw [h.1 (1 + j) (by omega)]; exact hS.b j hj⟩
set_option maxHeartbeats 4000000 in
set_option maxRecDepth 20000 in
theorem E_empties {w : jS} {m : Nat} (hW : MW w.2 m) {n : Nat} (hn : n ≤ 4) : jCall 161 [jO m, jI (n : Int)] w (fun v w1 => v = none ∧ ∃ S, w1 = jW (kA w (m + 1) S) m 15 0 ∧ znew S n) := by
  have mt : jtb 161 = jT161 := rfl
  show jWp 161 0 [some (jO m), some (jI (n : Int))] [] 0 0 w _
  refine jWp.blk mt 2 ?_
  show _ ∧ _ ∧ jWp 161 2 [some (jO m), some (jI (n : Int))] [jO m, jO m] 0 0 w _
  refine ⟨rfl, rfl, ?_⟩
  refine jWp.getR (pc' := 5) (o := (m + 1)) mt rfl rfl (jtg hW.K0) hW.R0 ?_
  show jWp 161 5 [some (jO m), some (jI (n : Int))] [jO (m + 1), jO m] 0 0 w _
  refine jWp.blk mt 1 ?_
  show jWp 161 6 [some (jO m), some (jI (n : Int))] [jI (n : Int), jO (m + 1), jO m] 0 0 w _
  refine jWp.callv (as := [jO m, jO (m + 1), jI (n : Int)]) (rest := []) mt rfl rfl rfl ⟨rfl, jtg hW.K0⟩ ?_
  refine jCall.mono (E_tells (w := w) (n := n) (M0 := (0, 0)) hW.K0 hW.K1 (by omega)) (fun v9 w9 h9 => ?_)
  obtain ⟨rfl, S9, h9, hS9⟩ := h9
  subst h9
  show jWp 161 9 [some (jO m), some (jI (n : Int))] [] 0 0 (kA w (m + 1) S9) _
  refine jWp.blk mt 2 ?_
  show _ ∧ jWp 161 11 [some (jO m), some (jI (n : Int))] [jI 0, jO m] 0 0 (kA w (m + 1) S9) _
  refine ⟨rfl, ?_⟩
  refine jWp.putI (pc' := 14) mt rfl rfl (jtg hW.K0) ?_
  show jWp 161 14 [some (jO m), some (jI (n : Int))] [] 0 0 (jW (kA w (m + 1) S9) m 15 0) _
  refine jWp.vret mt rfl ⟨rfl, rfl⟩ rfl ?_
  exact ⟨rfl, S9, rfl, hS9⟩
set_option maxHeartbeats 4000000 in
set_option maxRecDepth 20000 in
theorem E_seed {w : jS} {m : Nat} (hW : MW w.2 m) {n : Nat} (hS : zS (w.1 (m + 1)) n) {i : Int} (hri : r32 i) : jCall 166 [jO m, jI i] w (fun v w1 => ((i < 2) → jno w m 4 (jI (-4)) v w1) ∧ (¬ (i < 2) → (4 < i) → jno w m 6 (jI (-6)) v w1) ∧ (¬ (i < 2) → ¬ (4 < i) → v = some (jI (n : Int)) ∧ znw w m w1 ∧ znew (w1.1 (m + 1)) i.toNat)) := by
  have mt : jtb 166 = jT166 := rfl
  have hn2 := hS.n2
  have hn4 := hS.n4
  have hri1 : -2147483648 ≤ i ∧ i < 2147483648 := hri
  show jWp 166 0 [some (jO m), some (jI i), none] [] 0 0 w _
  refine jWp.blk mt 2 ?_
  show jWp 166 2 [some (jO m), some (jI i), none] [jI 2, jI i] 0 0 w _
  refine jWp.icmp (pc' := 5) mt rfl rfl (b32_id (by omega) (by omega)) (show b32 2 = 2 by decide) (fun h1 => ?_) (fun h1 => ?_)
  · have h1 : 2 ≤ i := h1
    refine jWp.blk mt 2 ?_
    show jWp 166 14 [some (jO m), some (jI i), none] [jI 4, jI i] 0 0 w _
    refine jWp.icmp (pc' := 17) mt rfl rfl (b32_id (by omega) (by omega)) (show b32 4 = 4 by decide) (fun h2 => ?_) (fun h2 => ?_)
    · have h2 : i ≤ 4 := h2
      obtain ⟨i1, rfl⟩ : ∃ i1 : Nat, i = (i1 : Int) := ⟨i.toNat, by omega⟩
      show jWp 166 24 [some (jO m), some (jI (i1 : Int)), none] [] 0 0 w _
      refine jWp.blk mt 1 ?_
      show _ ∧ jWp 166 25 [some (jO m), some (jI (i1 : Int)), none] [jO m] 0 0 w _
      refine ⟨rfl, ?_⟩
      refine jWp.getR (pc' := 28) (o := (m + 1)) mt rfl rfl (jtg hW.K0) hW.R0 ?_
      show jWp 166 28 [some (jO m), some (jI (i1 : Int)), none] [jO (m + 1)] 0 0 w _
      refine jWp.blk mt 1 ?_
      show jWp 166 29 [some (jO m), some (jI (i1 : Int)), none] [jI 0, jO (m + 1)] 0 0 w _
      refine jWp.lald (pc' := 30) (j := 0) mt rfl rfl (jtg hW.K1) (by decide) (jlt hW.K1 (by decide)) ?_
      rw [show (w.1 (m + 1) 0) = (n : Int) from hS.n0]
      show jWp 166 30 [some (jO m), some (jI (i1 : Int)), none] [jJ (n : Int)] 0 0 w _
      refine jWp.blk mt 4 ?_
      show _ ∧ jWp 166 34 [some (jO m), some (jI (i1 : Int)), some (jI (n : Int))] [jI (i1 : Int), jO m] 0 0 w _
      refine ⟨rfl, ?_⟩
      refine jWp.callv (as := [jO m, jI (i1 : Int)]) (rest := []) mt rfl rfl rfl ⟨rfl, jtg hW.K0⟩ ?_
      refine jCall.mono (E_empties (w := w) (n := i1) hW (by omega)) (fun v9 w9 h9 => ?_)
      obtain ⟨rfl, S9, h9, hS9⟩ := h9
      subst h9
      show jWp 166 37 [some (jO m), some (jI (i1 : Int)), some (jI (n : Int))] [] 0 0 (jW (kA w (m + 1) S9) m 15 0) _
      refine jWp.blk mt 1 ?_
      show jWp 166 38 [some (jO m), some (jI (i1 : Int)), some (jI (n : Int))] [jI (n : Int)] 0 0 (jW (kA w (m + 1) S9) m 15 0) _
      refine jWp.ireti mt rfl ⟨rfl, rfl⟩ rfl ?_
      refine ⟨fun c0 => ?_, fun c0 c1 => ?_, fun c0 c1 => ?_⟩
      all_goals first
      | (exfalso; omega)
      | exact ⟨rfl, rfl⟩
      | exact ⟨rfl, znw_k, by rw [jW_f (by omega), kA_fs]; exact hS9⟩
    · have h2 : 4 < i := h2
      refine jWp.blk mt 2 ?_
      show _ ∧ jWp 166 20 [some (jO m), some (jI i), none] [jI (-6), jO m] 0 0 w _
      refine ⟨rfl, ?_⟩
      refine jWp.callv (as := [jO m, jI (-6)]) (rest := []) mt rfl rfl rfl ⟨rfl, jtg hW.K0⟩ ?_
      refine jCall.mono (E_refuses (w := w) (j := 6) hW (by decide) (by decide)) (fun v9 w9 h9 => ?_)
      obtain ⟨rfl, h9⟩ := h9
      subst h9
      show jWp 166 23 [some (jO m), some (jI i), none] [jI (-6)] 0 0 (jW w (m + 3) 6 ((w.1 (m + 3) 6) + 1)) _
      refine jWp.ireti mt rfl ⟨rfl, rfl⟩ rfl ?_
      refine ⟨fun c0 => ?_, fun c0 c1 => ?_, fun c0 c1 => ?_⟩
      all_goals first
      | (exfalso; omega)
      | exact ⟨rfl, rfl⟩
      | exact ⟨rfl, znw_k, by rw [jW_f (by omega), kA_fs]; exact hS9⟩
  · have h1 : i < 2 := h1
    refine jWp.blk mt 2 ?_
    show _ ∧ jWp 166 8 [some (jO m), some (jI i), none] [jI (-4), jO m] 0 0 w _
    refine ⟨rfl, ?_⟩
    refine jWp.callv (as := [jO m, jI (-4)]) (rest := []) mt rfl rfl rfl ⟨rfl, jtg hW.K0⟩ ?_
    refine jCall.mono (E_refuses (w := w) (j := 4) hW (by decide) (by decide)) (fun v9 w9 h9 => ?_)
    obtain ⟨rfl, h9⟩ := h9
    subst h9
    show jWp 166 11 [some (jO m), some (jI i), none] [jI (-4)] 0 0 (jW w (m + 3) 4 ((w.1 (m + 3) 4) + 1)) _
    refine jWp.ireti mt rfl ⟨rfl, rfl⟩ rfl ?_
    refine ⟨fun c0 => ?_, fun c0 c1 => ?_, fun c0 c1 => ?_⟩
    all_goals first
    | (exfalso; omega)
    | exact ⟨rfl, rfl⟩
    | exact ⟨rfl, znw_k, by rw [jW_f (by omega), kA_fs]; exact hS9⟩
set_option maxHeartbeats 4000000 in
set_option maxRecDepth 20000 in
theorem E_table {w : jS} {m : Nat} (hW : MW w.2 m) {n : Nat} (hS : zS (w.1 (m + 1)) n) {i j v : Int} (hri : r32 i) (hrj : r32 j) (hrv : r32 v) : jCall 168 [jO m, jI i, jI j, jI v] w (fun x w1 => ((¬ (0 ≤ i ∧ i < (n : Int)) ∨ ¬ (0 ≤ j ∧ j < (n : Int)) ∨ i = j) → jno w m 1 (jI (1000000000 - (-1))) x w1) ∧ (¬ (¬ (0 ≤ i ∧ i < (n : Int)) ∨ ¬ (0 ≤ j ∧ j < (n : Int)) ∨ i = j) → (v < -9) → jno w m 4 (jI (1000000000 - (-4))) x w1) ∧ (¬ (¬ (0 ≤ i ∧ i < (n : Int)) ∨ ¬ (0 ≤ j ∧ j < (n : Int)) ∨ i = j) → ¬ (v < -9) → (9 < v) → jno w m 6 (jI (1000000000 - (-6))) x w1) ∧ (¬ (¬ (0 ≤ i ∧ i < (n : Int)) ∨ ¬ (0 ≤ j ∧ j < (n : Int)) ∨ i = j) → ¬ (v < -9) → ¬ (9 < v) → x = some (jI (w.1 (m + 1) (1 + (4 * i.toNat + j.toNat)))) ∧ znw w m w1 ∧ zbg (zset (zset (w.1 (m + 1)) (1 + (4 * i.toNat + j.toNat)) v) (1 + (4 * j.toNat + i.toNat)) (-v)) (w1.1 (m + 1)))) := by
  have mt : jtb 168 = jT168 := rfl
  have hn2 := hS.n2
  have hn4 := hS.n4
  have hri1 : -2147483648 ≤ i ∧ i < 2147483648 := hri
  have hrj1 : -2147483648 ≤ j ∧ j < 2147483648 := hrj
  have hrv1 : -2147483648 ≤ v ∧ v < 2147483648 := hrv
  show jWp 168 0 [some (jO m), some (jI i), some (jI j), some (jI v), none] [] 0 0 w _
  refine jWp.blk mt 2 ?_
  show _ ∧ jWp 168 2 [some (jO m), some (jI i), some (jI j), some (jI v), none] [jI i, jO m] 0 0 w _
  refine ⟨rfl, ?_⟩
  refine jWp.callv (as := [jO m, jI i]) (rest := []) mt rfl rfl rfl ⟨rfl, jtg hW.K0⟩ ?_
  refine jCall.mono (E_isLetter hW hS hri) (fun v9 w9 h9 => ?_)
  rcases h9 with ⟨rfl, h9, h1⟩ | ⟨rfl, h9, h1⟩ <;> subst w9
  · have h1 : 0 ≤ i ∧ i < (n : Int) := h1
    show jWp 168 5 [some (jO m), some (jI i), some (jI j), some (jI v), none] [jI 1] 0 0 w _
    obtain ⟨i1, rfl⟩ : ∃ i1 : Nat, i = (i1 : Int) := ⟨i.toNat, by omega⟩
    show jWp 168 5 [some (jO m), some (jI (i1 : Int)), some (jI j), some (jI v), none] [jI 1] 0 0 w _
    refine jWp.ifc (b := false) mt rfl (by decide) rfl ?_
    show jWp 168 8 [some (jO m), some (jI (i1 : Int)), some (jI j), some (jI v), none] [] 0 0 w _
    refine jWp.blk mt 2 ?_
    show _ ∧ jWp 168 10 [some (jO m), some (jI (i1 : Int)), some (jI j), some (jI v), none] [jI j, jO m] 0 0 w _
    refine ⟨rfl, ?_⟩
    refine jWp.callv (as := [jO m, jI j]) (rest := []) mt rfl rfl rfl ⟨rfl, jtg hW.K0⟩ ?_
    refine jCall.mono (E_isLetter hW hS hrj) (fun v9 w9 h9 => ?_)
    rcases h9 with ⟨rfl, h9, h2⟩ | ⟨rfl, h9, h2⟩ <;> subst w9
    · have h2 : 0 ≤ j ∧ j < (n : Int) := h2
      show jWp 168 13 [some (jO m), some (jI (i1 : Int)), some (jI j), some (jI v), none] [jI 1] 0 0 w _
      obtain ⟨j1, rfl⟩ : ∃ j1 : Nat, j = (j1 : Int) := ⟨j.toNat, by omega⟩
      show jWp 168 13 [some (jO m), some (jI (i1 : Int)), some (jI (j1 : Int)), some (jI v), none] [jI 1] 0 0 w _
      refine jWp.ifc (b := false) mt rfl (by decide) rfl ?_
      show jWp 168 16 [some (jO m), some (jI (i1 : Int)), some (jI (j1 : Int)), some (jI v), none] [] 0 0 w _
      refine jWp.blk mt 2 ?_
      show jWp 168 18 [some (jO m), some (jI (i1 : Int)), some (jI (j1 : Int)), some (jI v), none] [jI (j1 : Int), jI (i1 : Int)] 0 0 w _
      refine jWp.icmp (pc' := 21) mt rfl rfl (b32_id (by omega) (by omega)) (b32_id (by omega) (by omega)) (fun h3 => ?_) (fun h3 => ?_)
      · have h3 : (i1 : Int) ≠ (j1 : Int) := h3
        refine jWp.blk mt 2 ?_
        show jWp 168 30 [some (jO m), some (jI (i1 : Int)), some (jI (j1 : Int)), some (jI v), none] [jI (-9), jI v] 0 0 w _
        refine jWp.icmp (pc' := 33) mt rfl rfl (b32_id (by omega) (by omega)) (show b32 (-9) = (-9) by decide) (fun h4 => ?_) (fun h4 => ?_)
        · have h4 : (-9) ≤ v := h4
          refine jWp.blk mt 2 ?_
          show jWp 168 43 [some (jO m), some (jI (i1 : Int)), some (jI (j1 : Int)), some (jI v), none] [jI 9, jI v] 0 0 w _
          refine jWp.icmp (pc' := 46) mt rfl rfl (b32_id (by omega) (by omega)) (show b32 9 = 9 by decide) (fun h5 => ?_) (fun h5 => ?_)
          · have h5 : v ≤ 9 := h5
            refine jWp.blk mt 1 ?_
            show _ ∧ jWp 168 54 [some (jO m), some (jI (i1 : Int)), some (jI (j1 : Int)), some (jI v), none] [jO m] 0 0 w _
            refine ⟨rfl, ?_⟩
            refine jWp.getR (pc' := 57) (o := (m + 1)) mt rfl rfl (jtg hW.K0) hW.R0 ?_
            show jWp 168 57 [some (jO m), some (jI (i1 : Int)), some (jI (j1 : Int)), some (jI v), none] [jO (m + 1)] 0 0 w _
            refine jWp.blk mt 2 ?_
            show jWp 168 59 [some (jO m), some (jI (i1 : Int)), some (jI (j1 : Int)), some (jI v), none] [jI (j1 : Int), jI (i1 : Int), jO (m + 1)] 0 0 w _
            refine jWp.calls (as := [jO (m + 1), jI (i1 : Int), jI (j1 : Int)]) (rest := []) mt rfl rfl rfl rfl ?_
            refine jCall.mono (E_b (w := w) (i := i1) (k := j1) hW.K1 (by omega) (by omega) (by omega)) (fun v9 w9 h9 => ?_)
            obtain ⟨rfl, h9⟩ := h9
            subst w9
            show jWp 168 62 [some (jO m), some (jI (i1 : Int)), some (jI (j1 : Int)), some (jI v), none] [jJ (w.1 (m + 1) (1 + (4 * i1 + j1)))] 0 0 w _
            refine jWp.blk mt 4 ?_
            show _ ∧ _ ∧ jWp 168 67 [some (jO m), some (jI (i1 : Int)), some (jI (j1 : Int)), some (jI v), some (jI (w.1 (m + 1) (1 + (4 * i1 + j1))))] [jO m, jO m] 0 0 w _
            refine ⟨rfl, rfl, ?_⟩
            refine jWp.getR (pc' := 70) (o := (m + 1)) mt rfl rfl (jtg hW.K0) hW.R0 ?_
            show jWp 168 70 [some (jO m), some (jI (i1 : Int)), some (jI (j1 : Int)), some (jI v), some (jI (w.1 (m + 1) (1 + (4 * i1 + j1))))] [jO (m + 1), jO m] 0 0 w _
            refine jWp.blk mt 3 ?_
            show jWp 168 73 [some (jO m), some (jI (i1 : Int)), some (jI (j1 : Int)), some (jI v), some (jI (w.1 (m + 1) (1 + (4 * i1 + j1))))] [jI v, jI (j1 : Int), jI (i1 : Int), jO (m + 1), jO m] 0 0 w _
            refine jWp.callv (as := [jO m, jO (m + 1), jI (i1 : Int), jI (j1 : Int), jI v]) (rest := []) mt rfl rfl rfl ⟨rfl, jtg hW.K0⟩ ?_
            refine jCall.mono (E_puts (w := w) (i := i1) (j := j1) hW.K0 hW.K1 (by omega) (by omega) (by omega)) (fun v9 w9 h9 => ?_)
            obtain ⟨rfl, S9, h9, hS9⟩ := h9
            subst h9
            show jWp 168 76 [some (jO m), some (jI (i1 : Int)), some (jI (j1 : Int)), some (jI v), some (jI (w.1 (m + 1) (1 + (4 * i1 + j1))))] [] 0 0 (kA w (m + 1) S9) _
            refine jWp.blk mt 2 ?_
            show _ ∧ jWp 168 78 [some (jO m), some (jI (i1 : Int)), some (jI (j1 : Int)), some (jI v), some (jI (w.1 (m + 1) (1 + (4 * i1 + j1))))] [jI 0, jO m] 0 0 (kA w (m + 1) S9) _
            refine ⟨rfl, ?_⟩
            refine jWp.putI (pc' := 81) mt rfl rfl (jtg hW.K0) ?_
            show jWp 168 81 [some (jO m), some (jI (i1 : Int)), some (jI (j1 : Int)), some (jI v), some (jI (w.1 (m + 1) (1 + (4 * i1 + j1))))] [] 0 0 (jW (kA w (m + 1) S9) m 15 0) _
            refine jWp.blk mt 1 ?_
            show jWp 168 83 [some (jO m), some (jI (i1 : Int)), some (jI (j1 : Int)), some (jI v), some (jI (w.1 (m + 1) (1 + (4 * i1 + j1))))] [jI (w.1 (m + 1) (1 + (4 * i1 + j1)))] 0 0 (jW (kA w (m + 1) S9) m 15 0) _
            refine jWp.ireti mt rfl ⟨rfl, rfl⟩ rfl ?_
            refine ⟨fun c0 => ?_, fun c0 c1 => ?_, fun c0 c1 c2 => ?_, fun c0 c1 c2 => ?_⟩
            all_goals first
            | (exfalso; omega)
            | exact ⟨rfl, rfl⟩
            | exact ⟨rfl, znw_k, by rw [jW_f (by omega), kA_fs]; exact hS9⟩
          · have h5 : 9 < v := h5
            refine jWp.blk mt 2 ?_
            show _ ∧ jWp 168 49 [some (jO m), some (jI (i1 : Int)), some (jI (j1 : Int)), some (jI v), none] [jI (-6), jO m] 0 0 w _
            refine ⟨rfl, ?_⟩
            refine jWp.callv (as := [jO m, jI (-6)]) (rest := []) mt rfl rfl rfl ⟨rfl, jtg hW.K0⟩ ?_
            refine jCall.mono (E_far (w := w) (j := 6) hW (by decide) (by decide)) (fun v9 w9 h9 => ?_)
            obtain ⟨rfl, h9⟩ := h9
            subst h9
            show jWp 168 52 [some (jO m), some (jI (i1 : Int)), some (jI (j1 : Int)), some (jI v), none] [jI (1000000000 - (-6))] 0 0 (jW w (m + 3) 6 ((w.1 (m + 3) 6) + 1)) _
            refine jWp.ireti mt rfl ⟨rfl, rfl⟩ rfl ?_
            refine ⟨fun c0 => ?_, fun c0 c1 => ?_, fun c0 c1 c2 => ?_, fun c0 c1 c2 => ?_⟩
            all_goals first
            | (exfalso; omega)
            | exact ⟨rfl, rfl⟩
            | exact ⟨rfl, znw_k, by rw [jW_f (by omega), kA_fs]; exact hS9⟩
        · have h4 : v < (-9) := h4
          refine jWp.blk mt 2 ?_
          show _ ∧ jWp 168 36 [some (jO m), some (jI (i1 : Int)), some (jI (j1 : Int)), some (jI v), none] [jI (-4), jO m] 0 0 w _
          refine ⟨rfl, ?_⟩
          refine jWp.callv (as := [jO m, jI (-4)]) (rest := []) mt rfl rfl rfl ⟨rfl, jtg hW.K0⟩ ?_
          refine jCall.mono (E_far (w := w) (j := 4) hW (by decide) (by decide)) (fun v9 w9 h9 => ?_)
          obtain ⟨rfl, h9⟩ := h9
          subst h9
          show jWp 168 39 [some (jO m), some (jI (i1 : Int)), some (jI (j1 : Int)), some (jI v), none] [jI (1000000000 - (-4))] 0 0 (jW w (m + 3) 4 ((w.1 (m + 3) 4) + 1)) _
          refine jWp.ireti mt rfl ⟨rfl, rfl⟩ rfl ?_
          refine ⟨fun c0 => ?_, fun c0 c1 => ?_, fun c0 c1 c2 => ?_, fun c0 c1 c2 => ?_⟩
          all_goals first
          | (exfalso; omega)
          | exact ⟨rfl, rfl⟩
          | exact ⟨rfl, znw_k, by rw [jW_f (by omega), kA_fs]; exact hS9⟩
      · have h3 : (i1 : Int) = (j1 : Int) := h3
        refine jWp.blk mt 2 ?_
        show _ ∧ jWp 168 23 [some (jO m), some (jI (i1 : Int)), some (jI (j1 : Int)), some (jI v), none] [jI (-1), jO m] 0 0 w _
        refine ⟨rfl, ?_⟩
        refine jWp.callv (as := [jO m, jI (-1)]) (rest := []) mt rfl rfl rfl ⟨rfl, jtg hW.K0⟩ ?_
        refine jCall.mono (E_far (w := w) (j := 1) hW (by decide) (by decide)) (fun v9 w9 h9 => ?_)
        obtain ⟨rfl, h9⟩ := h9
        subst h9
        show jWp 168 26 [some (jO m), some (jI (i1 : Int)), some (jI (j1 : Int)), some (jI v), none] [jI (1000000000 - (-1))] 0 0 (jW w (m + 3) 1 ((w.1 (m + 3) 1) + 1)) _
        refine jWp.ireti mt rfl ⟨rfl, rfl⟩ rfl ?_
        refine ⟨fun c0 => ?_, fun c0 c1 => ?_, fun c0 c1 c2 => ?_, fun c0 c1 c2 => ?_⟩
        all_goals first
        | (exfalso; omega)
        | exact ⟨rfl, rfl⟩
        | exact ⟨rfl, znw_k, by rw [jW_f (by omega), kA_fs]; exact hS9⟩
    · have h2 : ¬ (0 ≤ j ∧ j < (n : Int)) := h2
      show jWp 168 13 [some (jO m), some (jI (i1 : Int)), some (jI j), some (jI v), none] [jI 0] 0 0 w _
      refine jWp.ifc (b := true) mt rfl (by decide) rfl ?_
      show jWp 168 21 [some (jO m), some (jI (i1 : Int)), some (jI j), some (jI v), none] [] 0 0 w _
      refine jWp.blk mt 2 ?_
      show _ ∧ jWp 168 23 [some (jO m), some (jI (i1 : Int)), some (jI j), some (jI v), none] [jI (-1), jO m] 0 0 w _
      refine ⟨rfl, ?_⟩
      refine jWp.callv (as := [jO m, jI (-1)]) (rest := []) mt rfl rfl rfl ⟨rfl, jtg hW.K0⟩ ?_
      refine jCall.mono (E_far (w := w) (j := 1) hW (by decide) (by decide)) (fun v9 w9 h9 => ?_)
      obtain ⟨rfl, h9⟩ := h9
      subst h9
      show jWp 168 26 [some (jO m), some (jI (i1 : Int)), some (jI j), some (jI v), none] [jI (1000000000 - (-1))] 0 0 (jW w (m + 3) 1 ((w.1 (m + 3) 1) + 1)) _
      refine jWp.ireti mt rfl ⟨rfl, rfl⟩ rfl ?_
      refine ⟨fun c0 => ?_, fun c0 c1 => ?_, fun c0 c1 c2 => ?_, fun c0 c1 c2 => ?_⟩
      all_goals first
      | (exfalso; omega)
      | exact ⟨rfl, rfl⟩
      | exact ⟨rfl, znw_k, by rw [jW_f (by omega), kA_fs]; exact hS9⟩
  · have h1 : ¬ (0 ≤ i ∧ i < (n : Int)) := h1
    show jWp 168 5 [some (jO m), some (jI i), some (jI j), some (jI v), none] [jI 0] 0 0 w _
    refine jWp.ifc (b := true) mt rfl (by decide) rfl ?_
    show jWp 168 21 [some (jO m), some (jI i), some (jI j), some (jI v), none] [] 0 0 w _
    refine jWp.blk mt 2 ?_
    show _ ∧ jWp 168 23 [some (jO m), some (jI i), some (jI j), some (jI v), none] [jI (-1), jO m] 0 0 w _
    refine ⟨rfl, ?_⟩
    refine jWp.callv (as := [jO m, jI (-1)]) (rest := []) mt rfl rfl rfl ⟨rfl, jtg hW.K0⟩ ?_
    refine jCall.mono (E_far (w := w) (j := 1) hW (by decide) (by decide)) (fun v9 w9 h9 => ?_)
    obtain ⟨rfl, h9⟩ := h9
    subst h9
    show jWp 168 26 [some (jO m), some (jI i), some (jI j), some (jI v), none] [jI (1000000000 - (-1))] 0 0 (jW w (m + 3) 1 ((w.1 (m + 3) 1) + 1)) _
    refine jWp.ireti mt rfl ⟨rfl, rfl⟩ rfl ?_
    refine ⟨fun c0 => ?_, fun c0 c1 => ?_, fun c0 c1 c2 => ?_, fun c0 c1 c2 => ?_⟩
    all_goals first
    | (exfalso; omega)
    | exact ⟨rfl, rfl⟩
    | exact ⟨rfl, znw_k, by rw [jW_f (by omega), kA_fs]; exact hS9⟩
set_option maxHeartbeats 4000000 in
set_option maxRecDepth 20000 in
theorem E_begins {w : jS} {m : Nat} (hW : MW w.2 m) {n : Nat} (hS : zS (w.1 (m + 1)) n) {i v : Int} (hri : r32 i) (hrv : r32 v) : jCall 169 [jO m, jI i, jI v] w (fun x w1 => ((¬ (0 ≤ i ∧ i < (n : Int))) → jno w m 1 (jI (-1)) x w1) ∧ (¬ (¬ (0 ≤ i ∧ i < (n : Int))) → (v < 1) → jno w m 4 (jI (-4)) x w1) ∧ (¬ (¬ (0 ≤ i ∧ i < (n : Int))) → ¬ (v < 1) → (9 < v) → jno w m 6 (jI (-6)) x w1) ∧ (¬ (¬ (0 ≤ i ∧ i < (n : Int))) → ¬ (v < 1) → ¬ (9 < v) → x = some (jI (w.1 (m + 1) (17 + i.toNat))) ∧ znw w m w1 ∧ zbg (zset (w.1 (m + 1)) (17 + i.toNat) v) (w1.1 (m + 1)))) := by
  have mt : jtb 169 = jT169 := rfl
  have hn2 := hS.n2
  have hn4 := hS.n4
  have hri1 : -2147483648 ≤ i ∧ i < 2147483648 := hri
  have hrv1 : -2147483648 ≤ v ∧ v < 2147483648 := hrv
  show jWp 169 0 [some (jO m), some (jI i), some (jI v), none] [] 0 0 w _
  refine jWp.blk mt 2 ?_
  show _ ∧ jWp 169 2 [some (jO m), some (jI i), some (jI v), none] [jI i, jO m] 0 0 w _
  refine ⟨rfl, ?_⟩
  refine jWp.callv (as := [jO m, jI i]) (rest := []) mt rfl rfl rfl ⟨rfl, jtg hW.K0⟩ ?_
  refine jCall.mono (E_isLetter hW hS hri) (fun v9 w9 h9 => ?_)
  rcases h9 with ⟨rfl, h9, h1⟩ | ⟨rfl, h9, h1⟩ <;> subst w9
  · have h1 : 0 ≤ i ∧ i < (n : Int) := h1
    show jWp 169 5 [some (jO m), some (jI i), some (jI v), none] [jI 1] 0 0 w _
    obtain ⟨i1, rfl⟩ : ∃ i1 : Nat, i = (i1 : Int) := ⟨i.toNat, by omega⟩
    show jWp 169 5 [some (jO m), some (jI (i1 : Int)), some (jI v), none] [jI 1] 0 0 w _
    refine jWp.ifc (b := true) mt rfl (by decide) rfl ?_
    show jWp 169 14 [some (jO m), some (jI (i1 : Int)), some (jI v), none] [] 0 0 w _
    refine jWp.blk mt 2 ?_
    show jWp 169 16 [some (jO m), some (jI (i1 : Int)), some (jI v), none] [jI 1, jI v] 0 0 w _
    refine jWp.icmp (pc' := 19) mt rfl rfl (b32_id (by omega) (by omega)) (show b32 1 = 1 by decide) (fun h2 => ?_) (fun h2 => ?_)
    · have h2 : 1 ≤ v := h2
      refine jWp.blk mt 2 ?_
      show jWp 169 29 [some (jO m), some (jI (i1 : Int)), some (jI v), none] [jI 9, jI v] 0 0 w _
      refine jWp.icmp (pc' := 32) mt rfl rfl (b32_id (by omega) (by omega)) (show b32 9 = 9 by decide) (fun h3 => ?_) (fun h3 => ?_)
      · have h3 : v ≤ 9 := h3
        refine jWp.blk mt 1 ?_
        show _ ∧ jWp 169 40 [some (jO m), some (jI (i1 : Int)), some (jI v), none] [jO m] 0 0 w _
        refine ⟨rfl, ?_⟩
        refine jWp.getR (pc' := 43) (o := (m + 1)) mt rfl rfl (jtg hW.K0) hW.R0 ?_
        show jWp 169 43 [some (jO m), some (jI (i1 : Int)), some (jI v), none] [jO (m + 1)] 0 0 w _
        refine jWp.blk mt 3 ?_
        show jWp 169 47 [some (jO m), some (jI (i1 : Int)), some (jI v), none] [jI (17 + (i1 : Int)), jO (m + 1)] 0 0 w _
        refine jWp.lald (pc' := 48) (j := (17 + i1)) mt rfl rfl (jtg hW.K1) (by rw [b32_id (by omega) (by omega)] <;> omega) (jlt hW.K1 (by omega)) ?_
        show jWp 169 48 [some (jO m), some (jI (i1 : Int)), some (jI v), none] [jJ (w.1 (m + 1) (17 + i1))] 0 0 w _
        refine jWp.blk mt 3 ?_
        show _ ∧ jWp 169 51 [some (jO m), some (jI (i1 : Int)), some (jI v), some (jI (w.1 (m + 1) (17 + i1)))] [jO m] 0 0 w _
        refine ⟨rfl, ?_⟩
        refine jWp.getR (pc' := 54) (o := (m + 1)) mt rfl rfl (jtg hW.K0) hW.R0 ?_
        show jWp 169 54 [some (jO m), some (jI (i1 : Int)), some (jI v), some (jI (w.1 (m + 1) (17 + i1)))] [jO (m + 1)] 0 0 w _
        refine jWp.blk mt 4 ?_
        show jWp 169 59 [some (jO m), some (jI (i1 : Int)), some (jI v), some (jI (w.1 (m + 1) (17 + i1)))] [jI v, jI (17 + (i1 : Int)), jO (m + 1)] 0 0 w _
        refine jWp.i2l (pc' := 60) mt rfl rfl (b32_id (by omega) (by omega)) ?_
        show jWp 169 60 [some (jO m), some (jI (i1 : Int)), some (jI v), some (jI (w.1 (m + 1) (17 + i1)))] [jJ v, jI (17 + (i1 : Int)), jO (m + 1)] 0 0 w _
        refine jWp.last (pc' := 61) (j := (17 + i1)) mt rfl rfl (jtg hW.K1) (by rw [b32_id (by omega) (by omega)] <;> omega) (jlt hW.K1 (by omega)) ?_
        show jWp 169 61 [some (jO m), some (jI (i1 : Int)), some (jI v), some (jI (w.1 (m + 1) (17 + i1)))] [] 0 0 (jW w (m + 1) (17 + i1) v) _
        refine jWp.blk mt 2 ?_
        show _ ∧ _ ∧ jWp 169 63 [some (jO m), some (jI (i1 : Int)), some (jI v), some (jI (w.1 (m + 1) (17 + i1)))] [jO m, jO m] 0 0 (jW w (m + 1) (17 + i1) v) _
        refine ⟨rfl, rfl, ?_⟩
        refine jWp.getR (pc' := 66) (o := (m + 1)) mt rfl rfl (jtg hW.K0) hW.R0 ?_
        show jWp 169 66 [some (jO m), some (jI (i1 : Int)), some (jI v), some (jI (w.1 (m + 1) (17 + i1)))] [jO (m + 1), jO m] 0 0 (jW w (m + 1) (17 + i1) v) _
        refine jWp.callv (as := [jO m, jO (m + 1)]) (rest := []) mt rfl rfl rfl ⟨rfl, jtg hW.K0⟩ ?_
        refine jCall.mono (E_begun (w := (jW w (m + 1) (17 + i1) v)) (q := m + 1) hW.K1) (fun v9 w9 h9 => ?_)
        obtain ⟨rfl, S9, h9, hS9⟩ := h9
        subst h9
        show jWp 169 69 [some (jO m), some (jI (i1 : Int)), some (jI v), some (jI (w.1 (m + 1) (17 + i1)))] [] 0 0 (kA (jW w (m + 1) (17 + i1) v) (m + 1) S9) _
        refine jWp.blk mt 2 ?_
        show _ ∧ jWp 169 71 [some (jO m), some (jI (i1 : Int)), some (jI v), some (jI (w.1 (m + 1) (17 + i1)))] [jI 0, jO m] 0 0 (kA (jW w (m + 1) (17 + i1) v) (m + 1) S9) _
        refine ⟨rfl, ?_⟩
        refine jWp.putI (pc' := 74) mt rfl rfl (jtg hW.K0) ?_
        show jWp 169 74 [some (jO m), some (jI (i1 : Int)), some (jI v), some (jI (w.1 (m + 1) (17 + i1)))] [] 0 0 (jW (kA (jW w (m + 1) (17 + i1) v) (m + 1) S9) m 15 0) _
        refine jWp.blk mt 1 ?_
        show jWp 169 75 [some (jO m), some (jI (i1 : Int)), some (jI v), some (jI (w.1 (m + 1) (17 + i1)))] [jI (w.1 (m + 1) (17 + i1))] 0 0 (jW (kA (jW w (m + 1) (17 + i1) v) (m + 1) S9) m 15 0) _
        refine jWp.ireti mt rfl ⟨rfl, rfl⟩ rfl ?_
        refine ⟨fun c0 => ?_, fun c0 c1 => ?_, fun c0 c1 c2 => ?_, fun c0 c1 c2 => ?_⟩
        all_goals first
        | (exfalso; omega)
        | exact ⟨rfl, rfl⟩
        | (refine ⟨rfl, ?_, ?_⟩
           · rw [show kA (jW w (m + 1) (17 + i1) v) (m + 1) S9 = kA w (m + 1) S9 from by rw [kA_W0, kA_A]]
             exact znw_k
           · rw [jW_f (by omega), kA_fs]
             rw [show (jW w (m + 1) (17 + i1) v).1 (m + 1) = zset (w.1 (m + 1)) (17 + i1) v from by rw [kA_W0, kA_fs]] at hS9
             exact hS9)
      · have h3 : 9 < v := h3
        refine jWp.blk mt 2 ?_
        show _ ∧ jWp 169 35 [some (jO m), some (jI (i1 : Int)), some (jI v), none] [jI (-6), jO m] 0 0 w _
        refine ⟨rfl, ?_⟩
        refine jWp.callv (as := [jO m, jI (-6)]) (rest := []) mt rfl rfl rfl ⟨rfl, jtg hW.K0⟩ ?_
        refine jCall.mono (E_refuses (w := w) (j := 6) hW (by decide) (by decide)) (fun v9 w9 h9 => ?_)
        obtain ⟨rfl, h9⟩ := h9
        subst h9
        show jWp 169 38 [some (jO m), some (jI (i1 : Int)), some (jI v), none] [jI (-6)] 0 0 (jW w (m + 3) 6 ((w.1 (m + 3) 6) + 1)) _
        refine jWp.ireti mt rfl ⟨rfl, rfl⟩ rfl ?_
        refine ⟨fun c0 => ?_, fun c0 c1 => ?_, fun c0 c1 c2 => ?_, fun c0 c1 c2 => ?_⟩
        all_goals first
        | (exfalso; omega)
        | exact ⟨rfl, rfl⟩
        | (refine ⟨rfl, ?_, ?_⟩
           · rw [show kA (jW w (m + 1) (17 + i1) v) (m + 1) S9 = kA w (m + 1) S9 from by rw [kA_W0, kA_A]]
             exact znw_k
           · rw [jW_f (by omega), kA_fs]
             rw [show (jW w (m + 1) (17 + i1) v).1 (m + 1) = zset (w.1 (m + 1)) (17 + i1) v from by rw [kA_W0, kA_fs]] at hS9
             exact hS9)
    · have h2 : v < 1 := h2
      refine jWp.blk mt 2 ?_
      show _ ∧ jWp 169 22 [some (jO m), some (jI (i1 : Int)), some (jI v), none] [jI (-4), jO m] 0 0 w _
      refine ⟨rfl, ?_⟩
      refine jWp.callv (as := [jO m, jI (-4)]) (rest := []) mt rfl rfl rfl ⟨rfl, jtg hW.K0⟩ ?_
      refine jCall.mono (E_refuses (w := w) (j := 4) hW (by decide) (by decide)) (fun v9 w9 h9 => ?_)
      obtain ⟨rfl, h9⟩ := h9
      subst h9
      show jWp 169 25 [some (jO m), some (jI (i1 : Int)), some (jI v), none] [jI (-4)] 0 0 (jW w (m + 3) 4 ((w.1 (m + 3) 4) + 1)) _
      refine jWp.ireti mt rfl ⟨rfl, rfl⟩ rfl ?_
      refine ⟨fun c0 => ?_, fun c0 c1 => ?_, fun c0 c1 c2 => ?_, fun c0 c1 c2 => ?_⟩
      all_goals first
      | (exfalso; omega)
      | exact ⟨rfl, rfl⟩
      | (refine ⟨rfl, ?_, ?_⟩
         · rw [show kA (jW w (m + 1) (17 + i1) v) (m + 1) S9 = kA w (m + 1) S9 from by rw [kA_W0, kA_A]]
           exact znw_k
         · rw [jW_f (by omega), kA_fs]
           rw [show (jW w (m + 1) (17 + i1) v).1 (m + 1) = zset (w.1 (m + 1)) (17 + i1) v from by rw [kA_W0, kA_fs]] at hS9
           exact hS9)
  · have h1 : ¬ (0 ≤ i ∧ i < (n : Int)) := h1
    show jWp 169 5 [some (jO m), some (jI i), some (jI v), none] [jI 0] 0 0 w _
    refine jWp.ifc (b := false) mt rfl (by decide) rfl ?_
    show jWp 169 8 [some (jO m), some (jI i), some (jI v), none] [] 0 0 w _
    refine jWp.blk mt 2 ?_
    show _ ∧ jWp 169 10 [some (jO m), some (jI i), some (jI v), none] [jI (-1), jO m] 0 0 w _
    refine ⟨rfl, ?_⟩
    refine jWp.callv (as := [jO m, jI (-1)]) (rest := []) mt rfl rfl rfl ⟨rfl, jtg hW.K0⟩ ?_
    refine jCall.mono (E_refuses (w := w) (j := 1) hW (by decide) (by decide)) (fun v9 w9 h9 => ?_)
    obtain ⟨rfl, h9⟩ := h9
    subst h9
    show jWp 169 13 [some (jO m), some (jI i), some (jI v), none] [jI (-1)] 0 0 (jW w (m + 3) 1 ((w.1 (m + 3) 1) + 1)) _
    refine jWp.ireti mt rfl ⟨rfl, rfl⟩ rfl ?_
    refine ⟨fun c0 => ?_, fun c0 c1 => ?_, fun c0 c1 c2 => ?_, fun c0 c1 c2 => ?_⟩
    all_goals first
    | (exfalso; omega)
    | exact ⟨rfl, rfl⟩
    | (refine ⟨rfl, ?_, ?_⟩
       · rw [show kA (jW w (m + 1) (17 + i1) v) (m + 1) S9 = kA w (m + 1) S9 from by rw [kA_W0, kA_A]]
         exact znw_k
       · rw [jW_f (by omega), kA_fs]
         rw [show (jW w (m + 1) (17 + i1) v).1 (m + 1) = zset (w.1 (m + 1)) (17 + i1) v from by rw [kA_W0, kA_fs]] at hS9
         exact hS9)
