set_option maxHeartbeats 4000000 in
set_option maxRecDepth 20000 in
theorem E_undo {w : jS} {m : Nat} (hW : MW w.2 m) {u : Nat} (hu : w.1 m 15 = (u : Int)) (hu8 : u ≤ 8) : jCall 181 [jO m] w (fun v w1 => ((u = 0) → jno w m 3 (jI (-3)) v w1) ∧ (¬ (u = 0) → v = some (jI ((u : Int) - 1)) ∧ w1.2 = w.2 ∧ (∀ a, a ≠ m → a ≠ m + 1 → w1.1 a = w.1 a) ∧ (∀ j, j ≠ 15 → w1.1 m j = w.1 m j) ∧ w1.1 m 15 = ((u - 1 : Nat) : Int) ∧ ∀ c, c < 45 → w1.1 (m + 1) c = w.1 (m + (8 + (u - 1))) c)) := by
  have mt : jtb 181 = jT181 := rfl
  show jWp 181 0 [some (jO m)] [] 0 0 w _
  refine jWp.blk mt 1 ?_
  show _ ∧ jWp 181 1 [some (jO m)] [jO m] 0 0 w _
  refine ⟨rfl, ?_⟩
  refine jWp.getI (pc' := 4) mt rfl rfl (jtg hW.K0) ?_
  rw [show (w.1 m 15) = (u : Int) from hu]
  show jWp 181 4 [some (jO m)] [jI (u : Int)] 0 0 w _
  refine jWp.ifz (pc' := 7) mt rfl rfl (b32_id (by omega) (by omega)) (fun h1 => ?_) (fun h1 => ?_)
  · have h1 : (u : Int) ≠ 0 := h1
    refine jWp.blk mt 2 ?_
    show _ ∧ _ ∧ jWp 181 16 [some (jO m)] [jO m, jO m] 0 0 w _
    refine ⟨rfl, rfl, ?_⟩
    refine jWp.getI (pc' := 19) mt rfl rfl (jtg hW.K0) ?_
    rw [show (w.1 m 15) = (u : Int) from hu]
    show jWp 181 19 [some (jO m)] [jI (u : Int), jO m] 0 0 w _
    refine jWp.blk mt 2 ?_
    show jWp 181 21 [some (jO m)] [jI ((u : Int) - 1), jO m] 0 0 w _
    refine jWp.putI (pc' := 24) mt rfl rfl (jtg hW.K0) ?_
    show jWp 181 24 [some (jO m)] [] 0 0 (jW w m 15 ((u : Int) - 1)) _
    refine jWp.blk mt 1 ?_
    show _ ∧ jWp 181 25 [some (jO m)] [jO m] 0 0 (jW w m 15 ((u : Int) - 1)) _
    refine ⟨rfl, ?_⟩
    refine jWp.getR (pc' := 28) (o := (m + 7)) mt rfl rfl (jtg hW.K0) hW.R14 ?_
    show jWp 181 28 [some (jO m)] [jO (m + 7)] 0 0 (jW w m 15 ((u : Int) - 1)) _
    refine jWp.blk mt 1 ?_
    show _ ∧ jWp 181 29 [some (jO m)] [jO m, jO (m + 7)] 0 0 (jW w m 15 ((u : Int) - 1)) _
    refine ⟨rfl, ?_⟩
    refine jWp.getI (pc' := 32) mt rfl rfl (jtg hW.K0) ?_
    rw [show ((jW w m 15 ((u : Int) - 1)).1 m 15) = ((u : Int) - 1) from jW_s]
    show jWp 181 32 [some (jO m)] [jI ((u : Int) - 1), jO (m + 7)] 0 0 (jW w m 15 ((u : Int) - 1)) _
    refine jWp.aald (pc' := 33) (j := (u - 1)) (o := (m + (8 + (u - 1)))) mt rfl rfl (jrg hW.K7 (by decide) (by decide)) (by rw [b32_id (by omega) (by omega)]; omega) (jlt hW.K7 (by omega)) (hW.RW (u - 1) (by omega)) ?_
    show jWp 181 33 [some (jO m)] [jO (m + (8 + (u - 1)))] 0 0 (jW w m 15 ((u : Int) - 1)) _
    refine jWp.blk mt 1 ?_
    show _ ∧ jWp 181 34 [some (jO m)] [jO m, jO (m + (8 + (u - 1)))] 0 0 (jW w m 15 ((u : Int) - 1)) _
    refine ⟨rfl, ?_⟩
    refine jWp.getR (pc' := 37) (o := (m + 1)) mt rfl rfl (jtg hW.K0) hW.R0 ?_
    show jWp 181 37 [some (jO m)] [jO (m + 1), jO (m + (8 + (u - 1)))] 0 0 (jW w m 15 ((u : Int) - 1)) _
    refine jWp.calls (as := [jO (m + (8 + (u - 1))), jO (m + 1)]) (rest := []) mt rfl rfl rfl rfl ?_
    refine jCall.mono (E_copies (w := (jW w m 15 ((u : Int) - 1))) (a := m + (8 + (u - 1))) (q := m + 1) (hW.KW _ (by omega)) hW.K1 (by omega)) (fun v9 w9 h9 => ?_)
    obtain ⟨rfl, T2, h9, hT3⟩ := h9
    subst h9
    have hT3b : ∀ j, j < 45 → T2 j = (w.1 (m + (8 + (u - 1)))) j := fun j hj => (hT3 j hj).trans (congrFun ((jW_f (by omega)).trans rfl) j)
    show jWp 181 40 [some (jO m)] [] 0 0 (kA (jW w m 15 ((u : Int) - 1)) (m + 1) T2) _
    refine jWp.blk mt 1 ?_
    show _ ∧ jWp 181 41 [some (jO m)] [jO m] 0 0 (kA (jW w m 15 ((u : Int) - 1)) (m + 1) T2) _
    refine ⟨rfl, ?_⟩
    refine jWp.getI (pc' := 44) mt rfl rfl (jtg hW.K0) ?_
    rw [show ((kA (jW w m 15 ((u : Int) - 1)) (m + 1) T2).1 m 15) = ((u : Int) - 1) from ((kA_a (by omega)).trans jW_s)]
    show jWp 181 44 [some (jO m)] [jI ((u : Int) - 1)] 0 0 (kA (jW w m 15 ((u : Int) - 1)) (m + 1) T2) _
    refine jWp.ireti mt rfl ⟨rfl, rfl⟩ rfl ?_
    refine ⟨fun c0 => ?_, fun c0 => ?_⟩
    all_goals first
    | (exfalso; omega)
    | exact ⟨rfl, rfl⟩
    | exact ⟨rfl, rfl, fun a h0 h1 => (kA_f h1).trans (jW_f h0), fun j hj => (kA_a (by omega)).trans (jW_k hj), (kA_a (by omega)).trans (jW_s.trans (by omega)), fun c hc => kA_s.trans (hT3b c hc)⟩
  · have h1 : (u : Int) = 0 := h1
    refine jWp.blk mt 2 ?_
    show _ ∧ jWp 181 10 [some (jO m)] [jI (-3), jO m] 0 0 w _
    refine ⟨rfl, ?_⟩
    refine jWp.callv (as := [jO m, jI (-3)]) (rest := []) mt rfl rfl rfl ⟨rfl, jtg hW.K0⟩ ?_
    refine jCall.mono (E_refuses (w := w) (j := 3) hW (by decide) (by decide)) (fun v9 w9 h9 => ?_)
    obtain ⟨rfl, h9⟩ := h9
    subst h9
    show jWp 181 13 [some (jO m)] [jI (-3)] 0 0 (jW w (m + 3) 3 ((w.1 (m + 3) 3) + 1)) _
    refine jWp.ireti mt rfl ⟨rfl, rfl⟩ rfl ?_
    refine ⟨fun c0 => ?_, fun c0 => ?_⟩
    all_goals first
    | (exfalso; omega)
    | exact ⟨rfl, rfl⟩
set_option maxHeartbeats 4000000 in
set_option maxRecDepth 20000 in
theorem E_image {w : jS} {m : Nat} (hW : MW w.2 m) : jCall 217 [jO m] w (fun v w1 => v = some (jI (w.1 (m + 2) 0)) ∧ w1.2 = w.2 ∧ (∀ a, a ≠ m → a ≠ m + 428 → a ≠ m + 429 → w1.1 a = w.1 a) ∧ (∀ j, j ≠ 31 → w1.1 m j = w.1 m j) ∧ w1.1 m 31 = 1 ∧ (∀ c, c < 45 → w1.1 (m + 428) c = w.1 (m + 1) c) ∧ ∀ c, c < 41 → w1.1 (m + 429) c = w.1 (m + 2) c) := by
  have mt : jtb 217 = jT217 := rfl
  show jWp 217 0 [some (jO m), none] [] 0 0 w _
  refine jWp.blk mt 1 ?_
  show _ ∧ jWp 217 1 [some (jO m), none] [jO m] 0 0 w _
  refine ⟨rfl, ?_⟩
  refine jWp.getR (pc' := 4) (o := (m + 1)) mt rfl rfl (jtg hW.K0) hW.R0 ?_
  show jWp 217 4 [some (jO m), none] [jO (m + 1)] 0 0 w _
  refine jWp.blk mt 1 ?_
  show _ ∧ jWp 217 5 [some (jO m), none] [jO m, jO (m + 1)] 0 0 w _
  refine ⟨rfl, ?_⟩
  refine jWp.getR (pc' := 8) (o := (m + 428)) mt rfl rfl (jtg hW.K0) hW.R29 ?_
  show jWp 217 8 [some (jO m), none] [jO (m + 428), jO (m + 1)] 0 0 w _
  refine jWp.calls (as := [jO (m + 1), jO (m + 428)]) (rest := []) mt rfl rfl rfl rfl ?_
  refine jCall.mono (E_copies (w := w) (a := m + 1) (q := m + 428) hW.K1 hW.K428 (by omega)) (fun v9 w9 h9 => ?_)
  obtain ⟨rfl, T1, h9, hT2⟩ := h9
  subst h9
  show jWp 217 11 [some (jO m), none] [] 0 0 (kA w (m + 428) T1) _
  refine jWp.blk mt 2 ?_
  show jWp 217 13 [some (jO m), some (jI 0)] [] 0 0 (kA w (m + 428) T1) _
  have lp3 : ∀ (N : Nat) (i : Nat) (T : Nat → Int) (hi : i ≤ 41) (hTT : ∀ j, j < i → T j = w.1 (m + 2) j), 41 - i < N → jWp 217 13 [some (jO m), some (jI (i : Int))] [] 0 0 (kA (kA w (m + 428) T1) (m + 429) T) (fun v w1 => v = some (jI (w.1 (m + 2) 0)) ∧ w1.2 = w.2 ∧ (∀ a, a ≠ m → a ≠ m + 428 → a ≠ m + 429 → w1.1 a = w.1 a) ∧ (∀ j, j ≠ 31 → w1.1 m j = w.1 m j) ∧ w1.1 m 31 = 1 ∧ (∀ c, c < 45 → w1.1 (m + 428) c = w.1 (m + 1) c) ∧ ∀ c, c < 41 → w1.1 (m + 429) c = w.1 (m + 2) c) := by
    intro N
    induction N with
    | zero => intro i T hi hTT hm; omega
    | succ N ih4 =>
      intro i T hi hTT hm
      refine jWp.blk mt 2 ?_
      show jWp 217 16 [some (jO m), some (jI (i : Int))] [jI 41, jI (i : Int)] 0 0 (kA (kA w (m + 428) T1) (m + 429) T) _
      refine jWp.icmp (pc' := 19) mt rfl rfl (b32_id (by omega) (by omega)) (show b32 41 = 41 by decide) (fun h5 => ?_) (fun h5 => ?_)
      · have h5 : 41 ≤ (i : Int) := h5
        refine jWp.blk mt 2 ?_
        show _ ∧ jWp 217 39 [some (jO m), some (jI (i : Int))] [jI 1, jO m] 0 0 (kA (kA w (m + 428) T1) (m + 429) T) _
        refine ⟨rfl, ?_⟩
        refine jWp.putZ (pc' := 42) mt rfl rfl (jtg hW.K0) (by decide) ?_
        show jWp 217 42 [some (jO m), some (jI (i : Int))] [] 0 0 (jW (kA (kA w (m + 428) T1) (m + 429) T) m 31 1) _
        refine jWp.blk mt 1 ?_
        show _ ∧ jWp 217 43 [some (jO m), some (jI (i : Int))] [jO m] 0 0 (jW (kA (kA w (m + 428) T1) (m + 429) T) m 31 1) _
        refine ⟨rfl, ?_⟩
        refine jWp.getR (pc' := 46) (o := (m + 2)) mt rfl rfl (jtg hW.K0) hW.R1 ?_
        show jWp 217 46 [some (jO m), some (jI (i : Int))] [jO (m + 2)] 0 0 (jW (kA (kA w (m + 428) T1) (m + 429) T) m 31 1) _
        refine jWp.blk mt 1 ?_
        show jWp 217 47 [some (jO m), some (jI (i : Int))] [jI 0, jO (m + 2)] 0 0 (jW (kA (kA w (m + 428) T1) (m + 429) T) m 31 1) _
        refine jWp.iald (pc' := 48) (j := 0) mt rfl rfl (jird_of hW.K2) (by decide) (jlt hW.K2 (by decide)) ?_
        rw [show ((jW (kA (kA w (m + 428) T1) (m + 429) T) m 31 1).1 (m + 2) 0) = (w.1 (m + 2) 0) from ((jW_a (by omega)).trans ((kA_a (by omega)).trans ((kA_a (by omega)).trans rfl)))]
        show jWp 217 48 [some (jO m), some (jI (i : Int))] [jI (w.1 (m + 2) 0)] 0 0 (jW (kA (kA w (m + 428) T1) (m + 429) T) m 31 1) _
        refine jWp.ireti mt rfl ⟨rfl, rfl⟩ rfl ?_
        exact ⟨rfl, rfl, fun a h0 h1 h2 => (jW_f h0).trans ((kA_f h2).trans (kA_f h1)), fun j hj => (jW_k hj).trans ((kA_a (by omega)).trans (kA_a (by omega))), jW_s, fun c hc => (jW_a (by omega)).trans ((kA_a (by omega)).trans (kA_s.trans (hT2 c hc))), fun c hc => (jW_a (by omega)).trans (kA_s.trans (hTT c (by omega)))⟩
      · have h5 : (i : Int) < 41 := h5
        refine jWp.blk mt 1 ?_
        show _ ∧ jWp 217 20 [some (jO m), some (jI (i : Int))] [jO m] 0 0 (kA (kA w (m + 428) T1) (m + 429) T) _
        refine ⟨rfl, ?_⟩
        refine jWp.getR (pc' := 23) (o := (m + 429)) mt rfl rfl (jtg hW.K0) hW.R30 ?_
        show jWp 217 23 [some (jO m), some (jI (i : Int))] [jO (m + 429)] 0 0 (kA (kA w (m + 428) T1) (m + 429) T) _
        refine jWp.blk mt 2 ?_
        show _ ∧ jWp 217 25 [some (jO m), some (jI (i : Int))] [jO m, jI (i : Int), jO (m + 429)] 0 0 (kA (kA w (m + 428) T1) (m + 429) T) _
        refine ⟨rfl, ?_⟩
        refine jWp.getR (pc' := 28) (o := (m + 2)) mt rfl rfl (jtg hW.K0) hW.R1 ?_
        show jWp 217 28 [some (jO m), some (jI (i : Int))] [jO (m + 2), jI (i : Int), jO (m + 429)] 0 0 (kA (kA w (m + 428) T1) (m + 429) T) _
        refine jWp.blk mt 1 ?_
        show jWp 217 29 [some (jO m), some (jI (i : Int))] [jI (i : Int), jO (m + 2), jI (i : Int), jO (m + 429)] 0 0 (kA (kA w (m + 428) T1) (m + 429) T) _
        refine jWp.iald (pc' := 30) (j := i) mt rfl rfl (jird_of hW.K2) (b32_id (by omega) (by omega)) (jlt hW.K2 (by omega)) ?_
        rw [show ((kA (kA w (m + 428) T1) (m + 429) T).1 (m + 2) i) = (w.1 (m + 2) i) from ((kA_a (by omega)).trans ((kA_a (by omega)).trans rfl))]
        show jWp 217 30 [some (jO m), some (jI (i : Int))] [jI (w.1 (m + 2) i), jI (i : Int), jO (m + 429)] 0 0 (kA (kA w (m + 428) T1) (m + 429) T) _
        refine jWp.iast (pc' := 31) (j := i) mt rfl rfl (jtg hW.K429) (b32_id (by omega) (by omega)) (jlt hW.K429 (by omega)) ?_
        rw [show jW (kA (kA w (m + 428) T1) (m + 429) T) (m + 429) i (w.1 (m + 2) i) = (kA (kA w (m + 428) T1) (m + 429) (zset T i (w.1 (m + 2) i))) from kA_W]
        show jWp 217 31 [some (jO m), some (jI (i : Int))] [] 0 0 (kA (kA w (m + 428) T1) (m + 429) (zset T i (w.1 (m + 2) i))) _
        refine jWp.blk mt 2 ?_
        show jWp 217 13 [some (jO m), some (jI ((i : Int) + 1))] [] 0 0 (kA (kA w (m + 428) T1) (m + 429) (zset T i (w.1 (m + 2) i))) _
        refine jWp.le (l := [some (jO m), some (jI ((i : Int) + 1))]) (by exact ⟨rfl, rfl, trivial⟩) ?_
        exact ih4 (i + 1) _ (by omega) (fun j hj => by rcases Nat.lt_or_ge j i with h | h; rw [zset_n (by omega)]; exact hTT j h; rw [show j = i by omega, zset_s]) (by omega)
  refine jWp.le (l := [some (jO m), some (jI 0)]) (by exact ⟨rfl, rfl, trivial⟩) ?_
  have key := lp3 _ 0 ((kA w (m + 428) T1).1 (m + 429)) (by omega) (fun j hj => absurd hj (by omega)) (Nat.lt_succ_self _)
  rw [kA_self] at key
  exact key
set_option maxHeartbeats 4000000 in
set_option maxRecDepth 20000 in
theorem E_on {w : jS} {m : Nat} (hW : MW w.2 m) (hk : w.1 m 31 = 0 ∨ w.1 m 31 = 1) : jCall 218 [jO m] w (fun v w1 => ((w.1 m 31 = 0) → jno w m 3 (jI (-3)) v w1) ∧ (¬ (w.1 m 31 = 0) → v = some (jI (w.1 (m + 429) 0)) ∧ w1.2 = w.2 ∧ (∀ a, a ≠ m → a ≠ m + 1 → a ≠ m + 2 → w1.1 a = w.1 a) ∧ (∀ j, j ≠ 15 → w1.1 m j = w.1 m j) ∧ w1.1 m 15 = 0 ∧ (∀ c, c < 45 → w1.1 (m + 1) c = w.1 (m + 428) c) ∧ ∀ c, c < 41 → w1.1 (m + 2) c = w.1 (m + 429) c)) := by
  have mt : jtb 218 = jT218 := rfl
  show jWp 218 0 [some (jO m), none] [] 0 0 w _
  refine jWp.blk mt 1 ?_
  show _ ∧ jWp 218 1 [some (jO m), none] [jO m] 0 0 w _
  refine ⟨rfl, ?_⟩
  refine jWp.getZ (pc' := 4) mt rfl rfl (jtg hW.K0) ?_
  show jWp 218 4 [some (jO m), none] [jI (w.1 m 31)] 0 0 w _
  refine jWp.ifz (pc' := 7) mt rfl rfl (b32_id (by omega) (by omega)) (fun h1 => ?_) (fun h1 => ?_)
  · have h1 : (w.1 m 31) ≠ 0 := h1
    refine jWp.blk mt 1 ?_
    show _ ∧ jWp 218 15 [some (jO m), none] [jO m] 0 0 w _
    refine ⟨rfl, ?_⟩
    refine jWp.getR (pc' := 18) (o := (m + 428)) mt rfl rfl (jtg hW.K0) hW.R29 ?_
    show jWp 218 18 [some (jO m), none] [jO (m + 428)] 0 0 w _
    refine jWp.blk mt 1 ?_
    show _ ∧ jWp 218 19 [some (jO m), none] [jO m, jO (m + 428)] 0 0 w _
    refine ⟨rfl, ?_⟩
    refine jWp.getR (pc' := 22) (o := (m + 1)) mt rfl rfl (jtg hW.K0) hW.R0 ?_
    show jWp 218 22 [some (jO m), none] [jO (m + 1), jO (m + 428)] 0 0 w _
    refine jWp.calls (as := [jO (m + 428), jO (m + 1)]) (rest := []) mt rfl rfl rfl rfl ?_
    refine jCall.mono (E_copies (w := w) (a := m + 428) (q := m + 1) hW.K428 hW.K1 (by omega)) (fun v9 w9 h9 => ?_)
    obtain ⟨rfl, T2, h9, hT3⟩ := h9
    subst h9
    show jWp 218 25 [some (jO m), none] [] 0 0 (kA w (m + 1) T2) _
    refine jWp.blk mt 2 ?_
    show jWp 218 27 [some (jO m), some (jI 0)] [] 0 0 (kA w (m + 1) T2) _
    have lp4 : ∀ (N : Nat) (i : Nat) (T : Nat → Int) (hi : i ≤ 41) (hTT : ∀ j, j < i → T j = w.1 (m + 429) j), 41 - i < N → jWp 218 27 [some (jO m), some (jI (i : Int))] [] 0 0 (kA (kA w (m + 1) T2) (m + 2) T) (fun v w1 => ((w.1 m 31 = 0) → jno w m 3 (jI (-3)) v w1) ∧ (¬ (w.1 m 31 = 0) → v = some (jI (w.1 (m + 429) 0)) ∧ w1.2 = w.2 ∧ (∀ a, a ≠ m → a ≠ m + 1 → a ≠ m + 2 → w1.1 a = w.1 a) ∧ (∀ j, j ≠ 15 → w1.1 m j = w.1 m j) ∧ w1.1 m 15 = 0 ∧ (∀ c, c < 45 → w1.1 (m + 1) c = w.1 (m + 428) c) ∧ ∀ c, c < 41 → w1.1 (m + 2) c = w.1 (m + 429) c)) := by
      intro N
      induction N with
      | zero => intro i T hi hTT hm; omega
      | succ N ih5 =>
        intro i T hi hTT hm
        refine jWp.blk mt 2 ?_
        show jWp 218 30 [some (jO m), some (jI (i : Int))] [jI 41, jI (i : Int)] 0 0 (kA (kA w (m + 1) T2) (m + 2) T) _
        refine jWp.icmp (pc' := 33) mt rfl rfl (b32_id (by omega) (by omega)) (show b32 41 = 41 by decide) (fun h6 => ?_) (fun h6 => ?_)
        · have h6 : 41 ≤ (i : Int) := h6
          refine jWp.blk mt 2 ?_
          show _ ∧ jWp 218 53 [some (jO m), some (jI (i : Int))] [jI 0, jO m] 0 0 (kA (kA w (m + 1) T2) (m + 2) T) _
          refine ⟨rfl, ?_⟩
          refine jWp.putI (pc' := 56) mt rfl rfl (jtg hW.K0) ?_
          show jWp 218 56 [some (jO m), some (jI (i : Int))] [] 0 0 (jW (kA (kA w (m + 1) T2) (m + 2) T) m 15 0) _
          refine jWp.blk mt 1 ?_
          show _ ∧ jWp 218 57 [some (jO m), some (jI (i : Int))] [jO m] 0 0 (jW (kA (kA w (m + 1) T2) (m + 2) T) m 15 0) _
          refine ⟨rfl, ?_⟩
          refine jWp.getR (pc' := 60) (o := (m + 2)) mt rfl rfl (jtg hW.K0) hW.R1 ?_
          show jWp 218 60 [some (jO m), some (jI (i : Int))] [jO (m + 2)] 0 0 (jW (kA (kA w (m + 1) T2) (m + 2) T) m 15 0) _
          refine jWp.blk mt 1 ?_
          show jWp 218 61 [some (jO m), some (jI (i : Int))] [jI 0, jO (m + 2)] 0 0 (jW (kA (kA w (m + 1) T2) (m + 2) T) m 15 0) _
          refine jWp.iald (pc' := 62) (j := 0) mt rfl rfl (jird_of hW.K2) (by decide) (jlt hW.K2 (by decide)) ?_
          rw [show ((jW (kA (kA w (m + 1) T2) (m + 2) T) m 15 0).1 (m + 2) 0) = (T 0) from ((jW_a (by omega)).trans kA_s)]
          show jWp 218 62 [some (jO m), some (jI (i : Int))] [jI (T 0)] 0 0 (jW (kA (kA w (m + 1) T2) (m + 2) T) m 15 0) _
          refine jWp.ireti mt rfl ⟨rfl, rfl⟩ rfl ?_
          refine ⟨fun c0 => ?_, fun c0 => ?_⟩
          all_goals first
          | (exfalso; omega)
          | exact ⟨rfl, rfl⟩
          | exact ⟨by rw [hTT 0 (by omega)], rfl, fun a h0 h1 h2 => (jW_f h0).trans ((kA_f h2).trans (kA_f h1)), fun j hj => (jW_k hj).trans ((kA_a (by omega)).trans (kA_a (by omega))), jW_s, fun c hc => (jW_a (by omega)).trans ((kA_a (by omega)).trans (kA_s.trans (hT3 c hc))), fun c hc => (jW_a (by omega)).trans (kA_s.trans (hTT c (by omega)))⟩
        · have h6 : (i : Int) < 41 := h6
          refine jWp.blk mt 1 ?_
          show _ ∧ jWp 218 34 [some (jO m), some (jI (i : Int))] [jO m] 0 0 (kA (kA w (m + 1) T2) (m + 2) T) _
          refine ⟨rfl, ?_⟩
          refine jWp.getR (pc' := 37) (o := (m + 2)) mt rfl rfl (jtg hW.K0) hW.R1 ?_
          show jWp 218 37 [some (jO m), some (jI (i : Int))] [jO (m + 2)] 0 0 (kA (kA w (m + 1) T2) (m + 2) T) _
          refine jWp.blk mt 2 ?_
          show _ ∧ jWp 218 39 [some (jO m), some (jI (i : Int))] [jO m, jI (i : Int), jO (m + 2)] 0 0 (kA (kA w (m + 1) T2) (m + 2) T) _
          refine ⟨rfl, ?_⟩
          refine jWp.getR (pc' := 42) (o := (m + 429)) mt rfl rfl (jtg hW.K0) hW.R30 ?_
          show jWp 218 42 [some (jO m), some (jI (i : Int))] [jO (m + 429), jI (i : Int), jO (m + 2)] 0 0 (kA (kA w (m + 1) T2) (m + 2) T) _
          refine jWp.blk mt 1 ?_
          show jWp 218 43 [some (jO m), some (jI (i : Int))] [jI (i : Int), jO (m + 429), jI (i : Int), jO (m + 2)] 0 0 (kA (kA w (m + 1) T2) (m + 2) T) _
          refine jWp.iald (pc' := 44) (j := i) mt rfl rfl (jird_of hW.K429) (b32_id (by omega) (by omega)) (jlt hW.K429 (by omega)) ?_
          rw [show ((kA (kA w (m + 1) T2) (m + 2) T).1 (m + 429) i) = (w.1 (m + 429) i) from ((kA_a (by omega)).trans ((kA_a (by omega)).trans rfl))]
          show jWp 218 44 [some (jO m), some (jI (i : Int))] [jI (w.1 (m + 429) i), jI (i : Int), jO (m + 2)] 0 0 (kA (kA w (m + 1) T2) (m + 2) T) _
          refine jWp.iast (pc' := 45) (j := i) mt rfl rfl (jtg hW.K2) (b32_id (by omega) (by omega)) (jlt hW.K2 (by omega)) ?_
          rw [show jW (kA (kA w (m + 1) T2) (m + 2) T) (m + 2) i (w.1 (m + 429) i) = (kA (kA w (m + 1) T2) (m + 2) (zset T i (w.1 (m + 429) i))) from kA_W]
          show jWp 218 45 [some (jO m), some (jI (i : Int))] [] 0 0 (kA (kA w (m + 1) T2) (m + 2) (zset T i (w.1 (m + 429) i))) _
          refine jWp.blk mt 2 ?_
          show jWp 218 27 [some (jO m), some (jI ((i : Int) + 1))] [] 0 0 (kA (kA w (m + 1) T2) (m + 2) (zset T i (w.1 (m + 429) i))) _
          refine jWp.le (l := [some (jO m), some (jI ((i : Int) + 1))]) (by exact ⟨rfl, rfl, trivial⟩) ?_
          exact ih5 (i + 1) _ (by omega) (fun j hj => by rcases Nat.lt_or_ge j i with h | h; rw [zset_n (by omega)]; exact hTT j h; rw [show j = i by omega, zset_s]) (by omega)
    refine jWp.le (l := [some (jO m), some (jI 0)]) (by exact ⟨rfl, rfl, trivial⟩) ?_
    have key := lp4 _ 0 ((kA w (m + 1) T2).1 (m + 2)) (by omega) (fun j hj => absurd hj (by omega)) (Nat.lt_succ_self _)
    rw [kA_self] at key
    exact key
  · have h1 : (w.1 m 31) = 0 := h1
    refine jWp.blk mt 2 ?_
    show _ ∧ jWp 218 10 [some (jO m), none] [jI (-3), jO m] 0 0 w _
    refine ⟨rfl, ?_⟩
    refine jWp.callv (as := [jO m, jI (-3)]) (rest := []) mt rfl rfl rfl ⟨rfl, jtg hW.K0⟩ ?_
    refine jCall.mono (E_refuses (w := w) (j := 3) hW (by decide) (by decide)) (fun v9 w9 h9 => ?_)
    obtain ⟨rfl, h9⟩ := h9
    subst h9
    show jWp 218 13 [some (jO m), none] [jI (-3)] 0 0 (jW w (m + 3) 3 ((w.1 (m + 3) 3) + 1)) _
    refine jWp.ireti mt rfl ⟨rfl, rfl⟩ rfl ?_
    refine ⟨fun c0 => ?_, fun c0 => ?_⟩
    all_goals first
    | (exfalso; omega)
    | exact ⟨rfl, rfl⟩
