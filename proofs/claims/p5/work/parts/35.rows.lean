set_option maxHeartbeats 4000000 in
set_option maxRecDepth 20000 in
theorem E_row {w : jS} {m : Nat} (hW : MW w.2 m) {c : Nat} (hR : zRw (w.1 (m + 2)) c) {l f : Int} (hrl : r32 l) (hrf : r32 f) : jCall 147 [jO m, jI l, jI f] w (fun v w1 => ((¬ (0 ≤ l ∧ l ≤ 6)) → jno w m 2 (jI (-2)) v w1) ∧ (¬ (¬ (0 ≤ l ∧ l ≤ 6)) → (f < 0) → jno w m 4 (jI (-4)) v w1) ∧ (¬ (¬ (0 ≤ l ∧ l ≤ 6)) → ¬ (f < 0) → (9 < f ∨ c = 4) → jno w m 6 (jI (-6)) v w1) ∧ (¬ (¬ (0 ≤ l ∧ l ≤ 6)) → ¬ (f < 0) → ¬ (9 < f ∨ c = 4) → v = some (jI (c : Int)) ∧ ∃ T, w1 = kA w (m + 2) T ∧ T 0 = (c : Int) + 1 ∧ T (1 + 10 * c) = l ∧ T (2 + 10 * c) = f ∧ (∀ y, y < 8 → T (3 + 10 * c + y) = 1) ∧ ∀ j, 1 ≤ j → j < 1 + 10 * c → T j = w.1 (m + 2) j)) := by
  have mt : jtb 147 = jT147 := rfl
  have hc4 := hR.2.1
  have hrl1 : -2147483648 ≤ l ∧ l < 2147483648 := hrl
  have hrf1 : -2147483648 ≤ f ∧ f < 2147483648 := hrf
  show jWp 147 0 [some (jO m), some (jI l), some (jI f), none, none] [] 0 0 w _
  refine jWp.blk mt 1 ?_
  show jWp 147 1 [some (jO m), some (jI l), some (jI f), none, none] [jI l] 0 0 w _
  refine jWp.i2l (pc' := 2) mt rfl rfl (b32_id (by omega) (by omega)) ?_
  show jWp 147 2 [some (jO m), some (jI l), some (jI f), none, none] [jJ l] 0 0 w _
  refine jWp.blk mt 2 ?_
  show jWp 147 6 [some (jO m), some (jI l), some (jI f), none, none] [jJ 6, jJ 0, jJ l] 0 0 w _
  refine jWp.calls (as := [jJ l, jJ 0, jJ 6]) (rest := []) mt rfl rfl rfl rfl ?_
  refine jCall.mono (E_in (b64_id (by omega) (by omega)) (show b64 0 = 0 by decide) (show b64 6 = 6 by decide)) (fun v9 w9 h9 => ?_)
  rcases h9 with ⟨rfl, h9, h1⟩ | ⟨rfl, h9, h1⟩ <;> subst w9
  · have h1 : 0 ≤ l ∧ l ≤ 6 := h1
    show jWp 147 9 [some (jO m), some (jI l), some (jI f), none, none] [jI 1] 0 0 w _
    refine jWp.ifc (b := true) mt rfl (by decide) rfl ?_
    show jWp 147 19 [some (jO m), some (jI l), some (jI f), none, none] [] 0 0 w _
    refine jWp.blk mt 1 ?_
    show jWp 147 20 [some (jO m), some (jI l), some (jI f), none, none] [jI f] 0 0 w _
    refine jWp.ifz (pc' := 23) mt rfl rfl (b32_id (by omega) (by omega)) (fun h2 => ?_) (fun h2 => ?_)
    · have h2 : 0 ≤ f := h2
      refine jWp.blk mt 2 ?_
      show jWp 147 33 [some (jO m), some (jI l), some (jI f), none, none] [jI 9, jI f] 0 0 w _
      refine jWp.icmp (pc' := 36) mt rfl rfl (b32_id (by omega) (by omega)) (show b32 9 = 9 by decide) (fun h3 => ?_) (fun h3 => ?_)
      · have h3 : 9 < f := h3
        refine jWp.blk mt 2 ?_
        show _ ∧ jWp 147 49 [some (jO m), some (jI l), some (jI f), none, none] [jI (-6), jO m] 0 0 w _
        refine ⟨rfl, ?_⟩
        refine jWp.callv (as := [jO m, jI (-6)]) (rest := []) mt rfl rfl rfl ⟨rfl, jtg hW.K0⟩ ?_
        refine jCall.mono (E_refuses (w := w) (j := 6) hW (by decide) (by decide)) (fun v9 w9 h9 => ?_)
        obtain ⟨rfl, h9⟩ := h9
        subst h9
        show jWp 147 52 [some (jO m), some (jI l), some (jI f), none, none] [jI (-6)] 0 0 (jW w (m + 3) 6 ((w.1 (m + 3) 6) + 1)) _
        refine jWp.ireti mt rfl ⟨rfl, rfl⟩ rfl ?_
        refine ⟨fun c0 => ?_, fun c0 c1 => ?_, fun c0 c1 c2 => ?_, fun c0 c1 c2 => ?_⟩
        all_goals first
        | (exfalso; omega)
        | exact ⟨rfl, rfl⟩
      · have h3 : f ≤ 9 := h3
        refine jWp.blk mt 1 ?_
        show _ ∧ jWp 147 37 [some (jO m), some (jI l), some (jI f), none, none] [jO m] 0 0 w _
        refine ⟨rfl, ?_⟩
        refine jWp.getR (pc' := 40) (o := (m + 2)) mt rfl rfl (jtg hW.K0) hW.R1 ?_
        show jWp 147 40 [some (jO m), some (jI l), some (jI f), none, none] [jO (m + 2)] 0 0 w _
        refine jWp.blk mt 1 ?_
        show jWp 147 41 [some (jO m), some (jI l), some (jI f), none, none] [jI 0, jO (m + 2)] 0 0 w _
        refine jWp.iald (pc' := 42) (j := 0) mt rfl rfl (jird_of hW.K2) (by decide) (jlt hW.K2 (by decide)) ?_
        rw [show (w.1 (m + 2) 0) = (c : Int) from hR.1]
        show jWp 147 42 [some (jO m), some (jI l), some (jI f), none, none] [jI (c : Int)] 0 0 w _
        refine jWp.blk mt 1 ?_
        show jWp 147 43 [some (jO m), some (jI l), some (jI f), none, none] [jI 4, jI (c : Int)] 0 0 w _
        refine jWp.icmp (pc' := 46) mt rfl rfl (b32_id (by omega) (by omega)) (show b32 4 = 4 by decide) (fun h4 => ?_) (fun h4 => ?_)
        · have h4 : (c : Int) ≠ 4 := h4
          refine jWp.blk mt 3 ?_
          show _ ∧ jWp 147 57 [some (jO m), some (jI l), some (jI f), none, none] [jO m, jI 10, jI 1] 0 0 w _
          refine ⟨rfl, ?_⟩
          refine jWp.getR (pc' := 60) (o := (m + 2)) mt rfl rfl (jtg hW.K0) hW.R1 ?_
          show jWp 147 60 [some (jO m), some (jI l), some (jI f), none, none] [jO (m + 2), jI 10, jI 1] 0 0 w _
          refine jWp.blk mt 1 ?_
          show jWp 147 61 [some (jO m), some (jI l), some (jI f), none, none] [jI 0, jO (m + 2), jI 10, jI 1] 0 0 w _
          refine jWp.iald (pc' := 62) (j := 0) mt rfl rfl (jird_of hW.K2) (by decide) (jlt hW.K2 (by decide)) ?_
          rw [show (w.1 (m + 2) 0) = (c : Int) from hR.1]
          show jWp 147 62 [some (jO m), some (jI l), some (jI f), none, none] [jI (c : Int), jI 10, jI 1] 0 0 w _
          refine jWp.blk mt 4 ?_
          show _ ∧ jWp 147 66 [some (jO m), some (jI l), some (jI f), some (jI (1 + (10 * (c : Int)))), none] [jO m] 0 0 w _
          refine ⟨rfl, ?_⟩
          refine jWp.getR (pc' := 69) (o := (m + 2)) mt rfl rfl (jtg hW.K0) hW.R1 ?_
          show jWp 147 69 [some (jO m), some (jI l), some (jI f), some (jI (1 + (10 * (c : Int)))), none] [jO (m + 2)] 0 0 w _
          refine jWp.blk mt 2 ?_
          show jWp 147 71 [some (jO m), some (jI l), some (jI f), some (jI (1 + (10 * (c : Int)))), none] [jI l, jI (1 + (10 * (c : Int))), jO (m + 2)] 0 0 w _
          refine jWp.iast (pc' := 72) (j := (1 + (10 * c))) mt rfl rfl (jtg hW.K2) (by rw [b32_id (by omega) (by omega)] <;> omega) (jlt hW.K2 (by omega)) ?_
          rw [show jW w (m + 2) (1 + (10 * c)) l = (kA w (m + 2) (zset (w.1 (m + 2)) (1 + (10 * c)) l)) from kA_W0]
          show jWp 147 72 [some (jO m), some (jI l), some (jI f), some (jI (1 + (10 * (c : Int)))), none] [] 0 0 (kA w (m + 2) (zset (w.1 (m + 2)) (1 + (10 * c)) l)) _
          refine jWp.blk mt 1 ?_
          show _ ∧ jWp 147 73 [some (jO m), some (jI l), some (jI f), some (jI (1 + (10 * (c : Int)))), none] [jO m] 0 0 (kA w (m + 2) (zset (w.1 (m + 2)) (1 + (10 * c)) l)) _
          refine ⟨rfl, ?_⟩
          refine jWp.getR (pc' := 76) (o := (m + 2)) mt rfl rfl (jtg hW.K0) hW.R1 ?_
          show jWp 147 76 [some (jO m), some (jI l), some (jI f), some (jI (1 + (10 * (c : Int)))), none] [jO (m + 2)] 0 0 (kA w (m + 2) (zset (w.1 (m + 2)) (1 + (10 * c)) l)) _
          refine jWp.blk mt 4 ?_
          show jWp 147 80 [some (jO m), some (jI l), some (jI f), some (jI (1 + (10 * (c : Int)))), none] [jI f, jI ((1 + (10 * (c : Int))) + 1), jO (m + 2)] 0 0 (kA w (m + 2) (zset (w.1 (m + 2)) (1 + (10 * c)) l)) _
          refine jWp.iast (pc' := 81) (j := ((1 + (10 * c)) + 1)) mt rfl rfl (jtg hW.K2) (by rw [b32_id (by omega) (by omega)] <;> omega) (jlt hW.K2 (by omega)) ?_
          rw [show jW (kA w (m + 2) (zset (w.1 (m + 2)) (1 + (10 * c)) l)) (m + 2) ((1 + (10 * c)) + 1) f = (kA w (m + 2) (zset (zset (w.1 (m + 2)) (1 + (10 * c)) l) ((1 + (10 * c)) + 1) f)) from kA_W]
          show jWp 147 81 [some (jO m), some (jI l), some (jI f), some (jI (1 + (10 * (c : Int)))), none] [] 0 0 (kA w (m + 2) (zset (zset (w.1 (m + 2)) (1 + (10 * c)) l) ((1 + (10 * c)) + 1) f)) _
          refine jWp.blk mt 2 ?_
          show jWp 147 84 [some (jO m), some (jI l), some (jI f), some (jI (1 + (10 * (c : Int)))), some (jI 0)] [] 0 0 (kA w (m + 2) (zset (zset (w.1 (m + 2)) (1 + (10 * c)) l) ((1 + (10 * c)) + 1) f)) _
          have lp5 : ∀ (N : Nat) (k : Nat) (T : Nat → Int) (hk : k ≤ 8) (hT : T 0 = (c : Int) ∧ T (1 + 10 * c) = l ∧ T (2 + 10 * c) = f ∧ (∀ y, y < k → T (3 + 10 * c + y) = 1) ∧ ∀ j, 1 ≤ j → j < 1 + 10 * c → T j = w.1 (m + 2) j), 8 - k < N → jWp 147 84 [some (jO m), none, none, some (jI (1 + (10 * (c : Int)))), some (jI (k : Int))] [] 0 0 (kA w (m + 2) T) (fun v w1 => ((¬ (0 ≤ l ∧ l ≤ 6)) → jno w m 2 (jI (-2)) v w1) ∧ (¬ (¬ (0 ≤ l ∧ l ≤ 6)) → (f < 0) → jno w m 4 (jI (-4)) v w1) ∧ (¬ (¬ (0 ≤ l ∧ l ≤ 6)) → ¬ (f < 0) → (9 < f ∨ c = 4) → jno w m 6 (jI (-6)) v w1) ∧ (¬ (¬ (0 ≤ l ∧ l ≤ 6)) → ¬ (f < 0) → ¬ (9 < f ∨ c = 4) → v = some (jI (c : Int)) ∧ ∃ T, w1 = kA w (m + 2) T ∧ T 0 = (c : Int) + 1 ∧ T (1 + 10 * c) = l ∧ T (2 + 10 * c) = f ∧ (∀ y, y < 8 → T (3 + 10 * c + y) = 1) ∧ ∀ j, 1 ≤ j → j < 1 + 10 * c → T j = w.1 (m + 2) j)) := by
            intro N
            induction N with
            | zero => intro k T hk hT hm; omega
            | succ N ih6 =>
              intro k T hk hT hm
              have hc3 : c < 4 := by omega
              refine jWp.blk mt 2 ?_
              show jWp 147 88 [some (jO m), none, none, some (jI (1 + (10 * (c : Int)))), some (jI (k : Int))] [jI 8, jI (k : Int)] 0 0 (kA w (m + 2) T) _
              refine jWp.icmp (pc' := 91) mt rfl rfl (b32_id (by omega) (by omega)) (show b32 8 = 8 by decide) (fun h7 => ?_) (fun h7 => ?_)
              · have h7 : 8 ≤ (k : Int) := h7
                refine jWp.blk mt 1 ?_
                show _ ∧ jWp 147 110 [some (jO m), none, none, some (jI (1 + (10 * (c : Int)))), some (jI (k : Int))] [jO m] 0 0 (kA w (m + 2) T) _
                refine ⟨rfl, ?_⟩
                refine jWp.getR (pc' := 113) (o := (m + 2)) mt rfl rfl (jtg hW.K0) hW.R1 ?_
                show jWp 147 113 [some (jO m), none, none, some (jI (1 + (10 * (c : Int)))), some (jI (k : Int))] [jO (m + 2)] 0 0 (kA w (m + 2) T) _
                refine jWp.blk mt 2 ?_
                show _ ∧ jWp 147 115 [some (jO m), none, none, some (jI (1 + (10 * (c : Int)))), some (jI (k : Int))] [jI 0, jO (m + 2), jI 0, jO (m + 2)] 0 0 (kA w (m + 2) T) _
                refine ⟨rfl, ?_⟩
                refine jWp.iald (pc' := 116) (j := 0) mt rfl rfl (jird_of hW.K2) (by decide) (jlt hW.K2 (by decide)) ?_
                rw [show ((kA w (m + 2) T).1 (m + 2) 0) = (c : Int) from (kA_s.trans hT.1)]
                show jWp 147 116 [some (jO m), none, none, some (jI (1 + (10 * (c : Int)))), some (jI (k : Int))] [jI (c : Int), jI 0, jO (m + 2)] 0 0 (kA w (m + 2) T) _
                refine jWp.blk mt 2 ?_
                show jWp 147 118 [some (jO m), none, none, some (jI (1 + (10 * (c : Int)))), some (jI (k : Int))] [jI ((c : Int) + 1), jI 0, jO (m + 2)] 0 0 (kA w (m + 2) T) _
                refine jWp.iast (pc' := 119) (j := 0) mt rfl rfl (jtg hW.K2) (by decide) (jlt hW.K2 (by decide)) ?_
                rw [show jW (kA w (m + 2) T) (m + 2) 0 ((c : Int) + 1) = (kA w (m + 2) (zset T 0 ((c : Int) + 1))) from kA_W]
                show jWp 147 119 [some (jO m), none, none, some (jI (1 + (10 * (c : Int)))), some (jI (k : Int))] [] 0 0 (kA w (m + 2) (zset T 0 ((c : Int) + 1))) _
                refine jWp.blk mt 1 ?_
                show _ ∧ jWp 147 120 [some (jO m), none, none, some (jI (1 + (10 * (c : Int)))), some (jI (k : Int))] [jO m] 0 0 (kA w (m + 2) (zset T 0 ((c : Int) + 1))) _
                refine ⟨rfl, ?_⟩
                refine jWp.getR (pc' := 123) (o := (m + 2)) mt rfl rfl (jtg hW.K0) hW.R1 ?_
                show jWp 147 123 [some (jO m), none, none, some (jI (1 + (10 * (c : Int)))), some (jI (k : Int))] [jO (m + 2)] 0 0 (kA w (m + 2) (zset T 0 ((c : Int) + 1))) _
                refine jWp.blk mt 1 ?_
                show jWp 147 124 [some (jO m), none, none, some (jI (1 + (10 * (c : Int)))), some (jI (k : Int))] [jI 0, jO (m + 2)] 0 0 (kA w (m + 2) (zset T 0 ((c : Int) + 1))) _
                refine jWp.iald (pc' := 125) (j := 0) mt rfl rfl (jird_of hW.K2) (by decide) (jlt hW.K2 (by decide)) ?_
                rw [show ((kA w (m + 2) (zset T 0 ((c : Int) + 1))).1 (m + 2) 0) = ((zset T 0 ((c : Int) + 1)) 0) from kA_s]
                show jWp 147 125 [some (jO m), none, none, some (jI (1 + (10 * (c : Int)))), some (jI (k : Int))] [jI ((zset T 0 ((c : Int) + 1)) 0)] 0 0 (kA w (m + 2) (zset T 0 ((c : Int) + 1))) _
                refine jWp.blk mt 2 ?_
                show jWp 147 127 [some (jO m), none, none, some (jI (1 + (10 * (c : Int)))), some (jI (k : Int))] [jI (((zset T 0 ((c : Int) + 1)) 0) - 1)] 0 0 (kA w (m + 2) (zset T 0 ((c : Int) + 1))) _
                refine jWp.ireti mt rfl ⟨rfl, rfl⟩ rfl ?_
                refine ⟨fun c0 => ?_, fun c0 c1 => ?_, fun c0 c1 c2 => ?_, fun c0 c1 c2 => ?_⟩
                all_goals first
                | (exfalso; omega)
                | exact ⟨rfl, rfl⟩
                | (refine ⟨?_, _, rfl, zset_s, ?_, ?_, fun y hy => ?_, fun j h1 h2 => ?_⟩
                   · rw [zset_s, show (c : Int) + 1 - 1 = (c : Int) by omega]
                   · rw [zset_n (by omega)]; exact hT.2.1
                   · rw [zset_n (by omega)]; exact hT.2.2.1
                   · rw [zset_n (by omega)]; exact hT.2.2.2.1 y (by omega)
                   · rw [zset_n (by omega)]; exact hT.2.2.2.2 j h1 h2)
              · have h7 : (k : Int) < 8 := h7
                refine jWp.blk mt 1 ?_
                show _ ∧ jWp 147 92 [some (jO m), none, none, some (jI (1 + (10 * (c : Int)))), some (jI (k : Int))] [jO m] 0 0 (kA w (m + 2) T) _
                refine ⟨rfl, ?_⟩
                refine jWp.getR (pc' := 95) (o := (m + 2)) mt rfl rfl (jtg hW.K0) hW.R1 ?_
                show jWp 147 95 [some (jO m), none, none, some (jI (1 + (10 * (c : Int)))), some (jI (k : Int))] [jO (m + 2)] 0 0 (kA w (m + 2) T) _
                refine jWp.blk mt 6 ?_
                show jWp 147 102 [some (jO m), none, none, some (jI (1 + (10 * (c : Int)))), some (jI (k : Int))] [jI 1, jI (((1 + (10 * (c : Int))) + 2) + (k : Int)), jO (m + 2)] 0 0 (kA w (m + 2) T) _
                refine jWp.iast (pc' := 103) (j := (((1 + (10 * c)) + 2) + k)) mt rfl rfl (jtg hW.K2) (by rw [b32_id (by omega) (by omega)] <;> omega) (jlt hW.K2 (by omega)) ?_
                rw [show jW (kA w (m + 2) T) (m + 2) (((1 + (10 * c)) + 2) + k) 1 = (kA w (m + 2) (zset T (((1 + (10 * c)) + 2) + k) 1)) from kA_W]
                show jWp 147 103 [some (jO m), none, none, some (jI (1 + (10 * (c : Int)))), some (jI (k : Int))] [] 0 0 (kA w (m + 2) (zset T (((1 + (10 * c)) + 2) + k) 1)) _
                refine jWp.blk mt 2 ?_
                show jWp 147 84 [some (jO m), none, none, some (jI (1 + (10 * (c : Int)))), some (jI ((k : Int) + 1))] [] 0 0 (kA w (m + 2) (zset T (((1 + (10 * c)) + 2) + k) 1)) _
                refine jWp.le (l := [some (jO m), none, none, some (jI (1 + (10 * (c : Int)))), some (jI ((k : Int) + 1))]) (by exact ⟨rfl, rfl, rfl, trivial⟩) ?_
                exact ih6 (k + 1) _ (by omega) ⟨by rw [zset_n (by omega)]; exact hT.1, by rw [zset_n (by omega)]; exact hT.2.1, by rw [zset_n (by omega)]; exact hT.2.2.1, fun y hy => by rcases Nat.lt_or_ge y k with h | h; rw [zset_n (by omega)]; exact hT.2.2.2.1 y h; rw [show 3 + 10 * c + y = (((1 + (10 * c)) + 2) + k) by omega, zset_s], fun j h1 h2 => by rw [zset_n (by omega)]; exact hT.2.2.2.2 j h1 h2⟩ (by omega)
          refine jWp.le (l := [some (jO m), none, none, some (jI (1 + (10 * (c : Int)))), some (jI 0)]) (by exact ⟨rfl, rfl, rfl, trivial⟩) ?_
          exact lp5 _ 0 _ (by omega) ⟨by rw [zset_n (by omega), zset_n (by omega)]; exact hR.1, by rw [zset_n (by omega), show 1 + 10 * c = (1 + (10 * c)) by omega, zset_s], by rw [show 2 + 10 * c = ((1 + (10 * c)) + 1) by omega, zset_s], fun y hy => absurd hy (by omega), fun j h1 h2 => by rw [zset_n (by omega), zset_n (by omega)]⟩ (Nat.lt_succ_self _)
        · have h4 : (c : Int) = 4 := h4
          refine jWp.blk mt 2 ?_
          show _ ∧ jWp 147 49 [some (jO m), some (jI l), some (jI f), none, none] [jI (-6), jO m] 0 0 w _
          refine ⟨rfl, ?_⟩
          refine jWp.callv (as := [jO m, jI (-6)]) (rest := []) mt rfl rfl rfl ⟨rfl, jtg hW.K0⟩ ?_
          refine jCall.mono (E_refuses (w := w) (j := 6) hW (by decide) (by decide)) (fun v9 w9 h9 => ?_)
          obtain ⟨rfl, h9⟩ := h9
          subst h9
          show jWp 147 52 [some (jO m), some (jI l), some (jI f), none, none] [jI (-6)] 0 0 (jW w (m + 3) 6 ((w.1 (m + 3) 6) + 1)) _
          refine jWp.ireti mt rfl ⟨rfl, rfl⟩ rfl ?_
          refine ⟨fun c0 => ?_, fun c0 c1 => ?_, fun c0 c1 c2 => ?_, fun c0 c1 c2 => ?_⟩
          all_goals first
          | (exfalso; omega)
          | exact ⟨rfl, rfl⟩
    · have h2 : f < 0 := h2
      refine jWp.blk mt 2 ?_
      show _ ∧ jWp 147 26 [some (jO m), some (jI l), some (jI f), none, none] [jI (-4), jO m] 0 0 w _
      refine ⟨rfl, ?_⟩
      refine jWp.callv (as := [jO m, jI (-4)]) (rest := []) mt rfl rfl rfl ⟨rfl, jtg hW.K0⟩ ?_
      refine jCall.mono (E_refuses (w := w) (j := 4) hW (by decide) (by decide)) (fun v9 w9 h9 => ?_)
      obtain ⟨rfl, h9⟩ := h9
      subst h9
      show jWp 147 29 [some (jO m), some (jI l), some (jI f), none, none] [jI (-4)] 0 0 (jW w (m + 3) 4 ((w.1 (m + 3) 4) + 1)) _
      refine jWp.ireti mt rfl ⟨rfl, rfl⟩ rfl ?_
      refine ⟨fun c0 => ?_, fun c0 c1 => ?_, fun c0 c1 c2 => ?_, fun c0 c1 c2 => ?_⟩
      all_goals first
      | (exfalso; omega)
      | exact ⟨rfl, rfl⟩
  · have h1 : ¬ (0 ≤ l ∧ l ≤ 6) := h1
    show jWp 147 9 [some (jO m), some (jI l), some (jI f), none, none] [jI 0] 0 0 w _
    refine jWp.ifc (b := false) mt rfl (by decide) rfl ?_
    show jWp 147 12 [some (jO m), some (jI l), some (jI f), none, none] [] 0 0 w _
    refine jWp.blk mt 2 ?_
    show _ ∧ jWp 147 15 [some (jO m), some (jI l), some (jI f), none, none] [jI (-2), jO m] 0 0 w _
    refine ⟨rfl, ?_⟩
    refine jWp.callv (as := [jO m, jI (-2)]) (rest := []) mt rfl rfl rfl ⟨rfl, jtg hW.K0⟩ ?_
    refine jCall.mono (E_refuses (w := w) (j := 2) hW (by decide) (by decide)) (fun v9 w9 h9 => ?_)
    obtain ⟨rfl, h9⟩ := h9
    subst h9
    show jWp 147 18 [some (jO m), some (jI l), some (jI f), none, none] [jI (-2)] 0 0 (jW w (m + 3) 2 ((w.1 (m + 3) 2) + 1)) _
    refine jWp.ireti mt rfl ⟨rfl, rfl⟩ rfl ?_
    refine ⟨fun c0 => ?_, fun c0 c1 => ?_, fun c0 c1 c2 => ?_, fun c0 c1 c2 => ?_⟩
    all_goals first
    | (exfalso; omega)
    | exact ⟨rfl, rfl⟩
set_option maxHeartbeats 4000000 in
set_option maxRecDepth 20000 in
theorem E_start {w : jS} {m : Nat} (hW : MW w.2 m) {c : Nat} (hR : zRw (w.1 (m + 2)) c) {r i v : Int} (hrr : r32 r) (hri : r32 i) (hrv : r32 v) : jCall 148 [jO m, jI r, jI i, jI v] w (fun x w1 => ((¬ (0 ≤ r ∧ r < (c : Int))) → jno w m 1 (jI (-1)) x w1) ∧ (¬ (¬ (0 ≤ r ∧ r < (c : Int))) → (i < 0 ∨ v < 1) → jno w m 4 (jI (-4)) x w1) ∧ (¬ (¬ (0 ≤ r ∧ r < (c : Int))) → ¬ (i < 0 ∨ v < 1) → (zO (w.1 (m + 2) (1 + 10 * r.toNat)) ≤ i ∨ 9 < v) → jno w m 6 (jI (-6)) x w1) ∧ (¬ (¬ (0 ≤ r ∧ r < (c : Int))) → ¬ (i < 0 ∨ v < 1) → ¬ (zO (w.1 (m + 2) (1 + 10 * r.toNat)) ≤ i ∨ 9 < v) → x = some (jI (w.1 (m + 2) (3 + 10 * r.toNat + i.toNat))) ∧ w1 = jW w (m + 2) (3 + 10 * r.toNat + i.toNat) v)) := by
  have mt : jtb 148 = jT148 := rfl
  have hc4 := hR.2.1
  have hrr1 : -2147483648 ≤ r ∧ r < 2147483648 := hrr
  have hri1 : -2147483648 ≤ i ∧ i < 2147483648 := hri
  have hrv1 : -2147483648 ≤ v ∧ v < 2147483648 := hrv
  show jWp 148 0 [some (jO m), some (jI r), some (jI i), some (jI v), none, none] [] 0 0 w _
  refine jWp.blk mt 2 ?_
  show _ ∧ jWp 148 2 [some (jO m), some (jI r), some (jI i), some (jI v), none, none] [jI r, jO m] 0 0 w _
  refine ⟨rfl, ?_⟩
  refine jWp.callv (as := [jO m, jI r]) (rest := []) mt rfl rfl rfl ⟨rfl, jtg hW.K0⟩ ?_
  refine jCall.mono (E_isRow hW hR hrr) (fun v9 w9 h9 => ?_)
  rcases h9 with ⟨rfl, h9, h1⟩ | ⟨rfl, h9, h1⟩ <;> subst w9
  · have h1 : 0 ≤ r ∧ r < (c : Int) := h1
    show jWp 148 5 [some (jO m), some (jI r), some (jI i), some (jI v), none, none] [jI 1] 0 0 w _
    obtain ⟨r1, rfl⟩ : ∃ r1 : Nat, r = (r1 : Int) := ⟨r.toNat, by omega⟩
    show jWp 148 5 [some (jO m), some (jI (r1 : Int)), some (jI i), some (jI v), none, none] [jI 1] 0 0 w _
    have hRr := hR.2.2 r1 (by omega)
    have hRo := zO_b hRr.1.1 hRr.1.2
    refine jWp.ifc (b := true) mt rfl (by decide) rfl ?_
    show jWp 148 14 [some (jO m), some (jI (r1 : Int)), some (jI i), some (jI v), none, none] [] 0 0 w _
    refine jWp.blk mt 1 ?_
    show jWp 148 15 [some (jO m), some (jI (r1 : Int)), some (jI i), some (jI v), none, none] [jI i] 0 0 w _
    refine jWp.ifz (pc' := 18) mt rfl rfl (b32_id (by omega) (by omega)) (fun h2 => ?_) (fun h2 => ?_)
    · have h2 : i < 0 := h2
      refine jWp.blk mt 2 ?_
      show _ ∧ jWp 148 26 [some (jO m), some (jI (r1 : Int)), some (jI i), some (jI v), none, none] [jI (-4), jO m] 0 0 w _
      refine ⟨rfl, ?_⟩
      refine jWp.callv (as := [jO m, jI (-4)]) (rest := []) mt rfl rfl rfl ⟨rfl, jtg hW.K0⟩ ?_
      refine jCall.mono (E_refuses (w := w) (j := 4) hW (by decide) (by decide)) (fun v9 w9 h9 => ?_)
      obtain ⟨rfl, h9⟩ := h9
      subst h9
      show jWp 148 29 [some (jO m), some (jI (r1 : Int)), some (jI i), some (jI v), none, none] [jI (-4)] 0 0 (jW w (m + 3) 4 ((w.1 (m + 3) 4) + 1)) _
      refine jWp.ireti mt rfl ⟨rfl, rfl⟩ rfl ?_
      try rw [show ((r1 : Nat) : Int).toNat = r1 from rfl]
      refine ⟨fun c0 => ?_, fun c0 c1 => ?_, fun c0 c1 c2 => ?_, fun c0 c1 c2 => ?_⟩
      all_goals first
      | (exfalso; omega)
      | exact ⟨rfl, rfl⟩
    · have h2 : 0 ≤ i := h2
      refine jWp.blk mt 2 ?_
      show jWp 148 20 [some (jO m), some (jI (r1 : Int)), some (jI i), some (jI v), none, none] [jI 1, jI v] 0 0 w _
      refine jWp.icmp (pc' := 23) mt rfl rfl (b32_id (by omega) (by omega)) (show b32 1 = 1 by decide) (fun h3 => ?_) (fun h3 => ?_)
      · have h3 : 1 ≤ v := h3
        refine jWp.blk mt 3 ?_
        show _ ∧ jWp 148 33 [some (jO m), some (jI (r1 : Int)), some (jI i), some (jI v), none, none] [jI (r1 : Int), jO m, jI i] 0 0 w _
        refine ⟨rfl, ?_⟩
        refine jWp.callv (as := [jO m, jI (r1 : Int)]) (rest := [jI i]) mt rfl rfl rfl ⟨rfl, jtg hW.K0⟩ ?_
        refine jCall.mono (E_law (x := r1) hW (by omega)) (fun v9 w9 h9 => ?_)
        obtain ⟨rfl, h9⟩ := h9
        subst w9
        show jWp 148 36 [some (jO m), some (jI (r1 : Int)), some (jI i), some (jI v), none, none] [jI (w.1 (m + 2) (1 + 10 * r1)), jI i] 0 0 w _
        refine jWp.calls (as := [jI (w.1 (m + 2) (1 + 10 * r1))]) (rest := [jI i]) mt rfl rfl rfl rfl ?_
        refine jCall.mono (E_order (by omega) (by omega)) (fun v9 w9 h9 => ?_)
        obtain ⟨rfl, h9⟩ := h9
        subst w9
        show jWp 148 39 [some (jO m), some (jI (r1 : Int)), some (jI i), some (jI v), none, none] [jI (zO (w.1 (m + 2) (1 + 10 * r1))), jI i] 0 0 w _
        refine jWp.icmp (pc' := 42) mt rfl rfl (b32_id (by omega) (by omega)) (b32_id (by omega) (by omega)) (fun h4 => ?_) (fun h4 => ?_)
        · have h4 : (zO (w.1 (m + 2) (1 + 10 * r1))) ≤ i := h4
          refine jWp.blk mt 2 ?_
          show _ ∧ jWp 148 51 [some (jO m), some (jI (r1 : Int)), some (jI i), some (jI v), none, none] [jI (-6), jO m] 0 0 w _
          refine ⟨rfl, ?_⟩
          refine jWp.callv (as := [jO m, jI (-6)]) (rest := []) mt rfl rfl rfl ⟨rfl, jtg hW.K0⟩ ?_
          refine jCall.mono (E_refuses (w := w) (j := 6) hW (by decide) (by decide)) (fun v9 w9 h9 => ?_)
          obtain ⟨rfl, h9⟩ := h9
          subst h9
          show jWp 148 54 [some (jO m), some (jI (r1 : Int)), some (jI i), some (jI v), none, none] [jI (-6)] 0 0 (jW w (m + 3) 6 ((w.1 (m + 3) 6) + 1)) _
          refine jWp.ireti mt rfl ⟨rfl, rfl⟩ rfl ?_
          try rw [show ((r1 : Nat) : Int).toNat = r1 from rfl]
          refine ⟨fun c0 => ?_, fun c0 c1 => ?_, fun c0 c1 c2 => ?_, fun c0 c1 c2 => ?_⟩
          all_goals first
          | (exfalso; omega)
          | exact ⟨rfl, rfl⟩
        · have h4 : i < (zO (w.1 (m + 2) (1 + 10 * r1))) := h4
          refine jWp.blk mt 2 ?_
          show jWp 148 45 [some (jO m), some (jI (r1 : Int)), some (jI i), some (jI v), none, none] [jI 9, jI v] 0 0 w _
          refine jWp.icmp (pc' := 48) mt rfl rfl (b32_id (by omega) (by omega)) (show b32 9 = 9 by decide) (fun h5 => ?_) (fun h5 => ?_)
          · have h5 : v ≤ 9 := h5
            obtain ⟨i1, rfl⟩ : ∃ i1 : Nat, i = (i1 : Int) := ⟨i.toNat, by omega⟩
            show jWp 148 55 [some (jO m), some (jI (r1 : Int)), some (jI (i1 : Int)), some (jI v), none, none] [] 0 0 w _
            refine jWp.blk mt 9 ?_
            show _ ∧ jWp 148 66 [some (jO m), some (jI (r1 : Int)), some (jI (i1 : Int)), some (jI v), some (jI ((3 + (10 * (r1 : Int))) + (i1 : Int))), none] [jO m] 0 0 w _
            refine ⟨rfl, ?_⟩
            refine jWp.getR (pc' := 69) (o := (m + 2)) mt rfl rfl (jtg hW.K0) hW.R1 ?_
            show jWp 148 69 [some (jO m), some (jI (r1 : Int)), some (jI (i1 : Int)), some (jI v), some (jI ((3 + (10 * (r1 : Int))) + (i1 : Int))), none] [jO (m + 2)] 0 0 w _
            refine jWp.blk mt 1 ?_
            show jWp 148 71 [some (jO m), some (jI (r1 : Int)), some (jI (i1 : Int)), some (jI v), some (jI ((3 + (10 * (r1 : Int))) + (i1 : Int))), none] [jI ((3 + (10 * (r1 : Int))) + (i1 : Int)), jO (m + 2)] 0 0 w _
            refine jWp.iald (pc' := 72) (j := (3 + 10 * r1 + i1)) mt rfl rfl (jird_of hW.K2) (by rw [b32_id (by omega) (by omega)]; omega) (jlt hW.K2 (by omega)) ?_
            show jWp 148 72 [some (jO m), some (jI (r1 : Int)), some (jI (i1 : Int)), some (jI v), some (jI ((3 + (10 * (r1 : Int))) + (i1 : Int))), none] [jI (w.1 (m + 2) (3 + 10 * r1 + i1))] 0 0 w _
            refine jWp.blk mt 2 ?_
            show _ ∧ jWp 148 75 [some (jO m), some (jI (r1 : Int)), some (jI (i1 : Int)), some (jI v), some (jI ((3 + (10 * (r1 : Int))) + (i1 : Int))), some (jI (w.1 (m + 2) (3 + 10 * r1 + i1)))] [jO m] 0 0 w _
            refine ⟨rfl, ?_⟩
            refine jWp.getR (pc' := 78) (o := (m + 2)) mt rfl rfl (jtg hW.K0) hW.R1 ?_
            show jWp 148 78 [some (jO m), some (jI (r1 : Int)), some (jI (i1 : Int)), some (jI v), some (jI ((3 + (10 * (r1 : Int))) + (i1 : Int))), some (jI (w.1 (m + 2) (3 + 10 * r1 + i1)))] [jO (m + 2)] 0 0 w _
            refine jWp.blk mt 2 ?_
            show jWp 148 81 [some (jO m), some (jI (r1 : Int)), some (jI (i1 : Int)), some (jI v), some (jI ((3 + (10 * (r1 : Int))) + (i1 : Int))), some (jI (w.1 (m + 2) (3 + 10 * r1 + i1)))] [jI v, jI ((3 + (10 * (r1 : Int))) + (i1 : Int)), jO (m + 2)] 0 0 w _
            refine jWp.iast (pc' := 82) (j := (3 + 10 * r1 + i1)) mt rfl rfl (jtg hW.K2) (by rw [b32_id (by omega) (by omega)]; omega) (jlt hW.K2 (by omega)) ?_
            show jWp 148 82 [some (jO m), some (jI (r1 : Int)), some (jI (i1 : Int)), some (jI v), some (jI ((3 + (10 * (r1 : Int))) + (i1 : Int))), some (jI (w.1 (m + 2) (3 + 10 * r1 + i1)))] [] 0 0 (jW w (m + 2) (3 + 10 * r1 + i1) v) _
            refine jWp.blk mt 1 ?_
            show jWp 148 84 [some (jO m), some (jI (r1 : Int)), some (jI (i1 : Int)), some (jI v), some (jI ((3 + (10 * (r1 : Int))) + (i1 : Int))), some (jI (w.1 (m + 2) (3 + 10 * r1 + i1)))] [jI (w.1 (m + 2) (3 + 10 * r1 + i1))] 0 0 (jW w (m + 2) (3 + 10 * r1 + i1) v) _
            refine jWp.ireti mt rfl ⟨rfl, rfl⟩ rfl ?_
            try rw [show ((r1 : Nat) : Int).toNat = r1 from rfl]
            refine ⟨fun c0 => ?_, fun c0 c1 => ?_, fun c0 c1 c2 => ?_, fun c0 c1 c2 => ?_⟩
            all_goals first
            | (exfalso; omega)
            | exact ⟨rfl, rfl⟩
          · have h5 : 9 < v := h5
            refine jWp.blk mt 2 ?_
            show _ ∧ jWp 148 51 [some (jO m), some (jI (r1 : Int)), some (jI i), some (jI v), none, none] [jI (-6), jO m] 0 0 w _
            refine ⟨rfl, ?_⟩
            refine jWp.callv (as := [jO m, jI (-6)]) (rest := []) mt rfl rfl rfl ⟨rfl, jtg hW.K0⟩ ?_
            refine jCall.mono (E_refuses (w := w) (j := 6) hW (by decide) (by decide)) (fun v9 w9 h9 => ?_)
            obtain ⟨rfl, h9⟩ := h9
            subst h9
            show jWp 148 54 [some (jO m), some (jI (r1 : Int)), some (jI i), some (jI v), none, none] [jI (-6)] 0 0 (jW w (m + 3) 6 ((w.1 (m + 3) 6) + 1)) _
            refine jWp.ireti mt rfl ⟨rfl, rfl⟩ rfl ?_
            try rw [show ((r1 : Nat) : Int).toNat = r1 from rfl]
            refine ⟨fun c0 => ?_, fun c0 c1 => ?_, fun c0 c1 c2 => ?_, fun c0 c1 c2 => ?_⟩
            all_goals first
            | (exfalso; omega)
            | exact ⟨rfl, rfl⟩
      · have h3 : v < 1 := h3
        refine jWp.blk mt 2 ?_
        show _ ∧ jWp 148 26 [some (jO m), some (jI (r1 : Int)), some (jI i), some (jI v), none, none] [jI (-4), jO m] 0 0 w _
        refine ⟨rfl, ?_⟩
        refine jWp.callv (as := [jO m, jI (-4)]) (rest := []) mt rfl rfl rfl ⟨rfl, jtg hW.K0⟩ ?_
        refine jCall.mono (E_refuses (w := w) (j := 4) hW (by decide) (by decide)) (fun v9 w9 h9 => ?_)
        obtain ⟨rfl, h9⟩ := h9
        subst h9
        show jWp 148 29 [some (jO m), some (jI (r1 : Int)), some (jI i), some (jI v), none, none] [jI (-4)] 0 0 (jW w (m + 3) 4 ((w.1 (m + 3) 4) + 1)) _
        refine jWp.ireti mt rfl ⟨rfl, rfl⟩ rfl ?_
        try rw [show ((r1 : Nat) : Int).toNat = r1 from rfl]
        refine ⟨fun c0 => ?_, fun c0 c1 => ?_, fun c0 c1 c2 => ?_, fun c0 c1 c2 => ?_⟩
        all_goals first
        | (exfalso; omega)
        | exact ⟨rfl, rfl⟩
  · have h1 : ¬ (0 ≤ r ∧ r < (c : Int)) := h1
    show jWp 148 5 [some (jO m), some (jI r), some (jI i), some (jI v), none, none] [jI 0] 0 0 w _
    refine jWp.ifc (b := false) mt rfl (by decide) rfl ?_
    show jWp 148 8 [some (jO m), some (jI r), some (jI i), some (jI v), none, none] [] 0 0 w _
    refine jWp.blk mt 2 ?_
    show _ ∧ jWp 148 10 [some (jO m), some (jI r), some (jI i), some (jI v), none, none] [jI (-1), jO m] 0 0 w _
    refine ⟨rfl, ?_⟩
    refine jWp.callv (as := [jO m, jI (-1)]) (rest := []) mt rfl rfl rfl ⟨rfl, jtg hW.K0⟩ ?_
    refine jCall.mono (E_refuses (w := w) (j := 1) hW (by decide) (by decide)) (fun v9 w9 h9 => ?_)
    obtain ⟨rfl, h9⟩ := h9
    subst h9
    show jWp 148 13 [some (jO m), some (jI r), some (jI i), some (jI v), none, none] [jI (-1)] 0 0 (jW w (m + 3) 1 ((w.1 (m + 3) 1) + 1)) _
    refine jWp.ireti mt rfl ⟨rfl, rfl⟩ rfl ?_
    try rw [show ((r1 : Nat) : Int).toNat = r1 from rfl]
    refine ⟨fun c0 => ?_, fun c0 c1 => ?_, fun c0 c1 c2 => ?_, fun c0 c1 c2 => ?_⟩
    all_goals first
    | (exfalso; omega)
    | exact ⟨rfl, rfl⟩
set_option maxHeartbeats 4000000 in
set_option maxRecDepth 20000 in
theorem E_list {w : jS} {m : Nat} (hW : MW w.2 m) {l n : Int} (hrl : r32 l) (hrn : r32 n) : jCall 213 [jO m, jI l, jI n] w (fun v w1 => ((¬ (0 ≤ l ∧ l ≤ 2)) → jno w m 1 (jI (-1)) v w1) ∧ (¬ (¬ (0 ≤ l ∧ l ≤ 2)) → (40 < n) → jno w m 6 (jI (-6)) v w1) ∧ (¬ (¬ (0 ≤ l ∧ l ≤ 2)) → ¬ (40 < n) → (n < 0) → v = some (jI (-14)) ∧ w1 = w) ∧ (¬ (¬ (0 ≤ l ∧ l ≤ 2)) → ¬ (40 < n) → ¬ (n < 0) → v = some (jI 1) ∧ ∃ T, w1 = kA (jW w (m + 423) l.toNat n) (m + (425 + l.toNat)) T ∧ ∀ j, j < 40 → T j = 0)) := by
  have mt : jtb 213 = jT213 := rfl
  have hrl1 : -2147483648 ≤ l ∧ l < 2147483648 := hrl
  have hrn1 : -2147483648 ≤ n ∧ n < 2147483648 := hrn
  show jWp 213 0 [some (jO m), some (jI l), some (jI n), none] [] 0 0 w _
  refine jWp.blk mt 1 ?_
  show jWp 213 1 [some (jO m), some (jI l), some (jI n), none] [jI l] 0 0 w _
  refine jWp.calls (as := [jI l]) (rest := []) mt rfl rfl rfl rfl ?_
  refine jCall.mono (E_isList hrl) (fun v9 w9 h9 => ?_)
  rcases h9 with ⟨rfl, h9, h1⟩ | ⟨rfl, h9, h1⟩ <;> subst w9
  · have h1 : 0 ≤ l ∧ l ≤ 2 := h1
    show jWp 213 4 [some (jO m), some (jI l), some (jI n), none] [jI 1] 0 0 w _
    obtain ⟨l1, rfl⟩ : ∃ l1 : Nat, l = (l1 : Int) := ⟨l.toNat, by omega⟩
    show jWp 213 4 [some (jO m), some (jI (l1 : Int)), some (jI n), none] [jI 1] 0 0 w _
    refine jWp.ifc (b := true) mt rfl (by decide) rfl ?_
    show jWp 213 13 [some (jO m), some (jI (l1 : Int)), some (jI n), none] [] 0 0 w _
    refine jWp.blk mt 2 ?_
    show jWp 213 16 [some (jO m), some (jI (l1 : Int)), some (jI n), none] [jI 40, jI n] 0 0 w _
    refine jWp.icmp (pc' := 19) mt rfl rfl (b32_id (by omega) (by omega)) (show b32 40 = 40 by decide) (fun h2 => ?_) (fun h2 => ?_)
    · have h2 : n ≤ 40 := h2
      refine jWp.blk mt 1 ?_
      show jWp 213 27 [some (jO m), some (jI (l1 : Int)), some (jI n), none] [jI n] 0 0 w _
      refine jWp.ifz (pc' := 30) mt rfl rfl (b32_id (by omega) (by omega)) (fun h3 => ?_) (fun h3 => ?_)
      · have h3 : 0 ≤ n := h3
        refine jWp.blk mt 1 ?_
        show _ ∧ jWp 213 34 [some (jO m), some (jI (l1 : Int)), some (jI n), none] [jO m] 0 0 w _
        refine ⟨rfl, ?_⟩
        refine jWp.getR (pc' := 37) (o := (m + 423)) mt rfl rfl (jtg hW.K0) hW.R27 ?_
        show jWp 213 37 [some (jO m), some (jI (l1 : Int)), some (jI n), none] [jO (m + 423)] 0 0 w _
        refine jWp.blk mt 2 ?_
        show jWp 213 39 [some (jO m), some (jI (l1 : Int)), some (jI n), none] [jI n, jI (l1 : Int), jO (m + 423)] 0 0 w _
        refine jWp.iast (pc' := 40) (j := l1) mt rfl rfl (jtg hW.K423) (b32_id (by omega) (by omega)) (jlt hW.K423 (by omega)) ?_
        show jWp 213 40 [some (jO m), some (jI (l1 : Int)), some (jI n), none] [] 0 0 (jW w (m + 423) l1 n) _
        refine jWp.blk mt 2 ?_
        show jWp 213 42 [some (jO m), some (jI (l1 : Int)), some (jI n), some (jI 0)] [] 0 0 (jW w (m + 423) l1 n) _
        have lp4 : ∀ (N : Nat) (k : Nat) (T : Nat → Int) (hk : k ≤ 40) (hT : ∀ j, j < k → T j = 0), 40 - k < N → jWp 213 42 [some (jO m), some (jI (l1 : Int)), none, some (jI (k : Int))] [] 0 0 (kA (jW w (m + 423) l1 n) (m + (425 + l1)) T) (fun v w1 => ((¬ (0 ≤ (l1 : Int) ∧ (l1 : Int) ≤ 2)) → jno w m 1 (jI (-1)) v w1) ∧ (¬ (¬ (0 ≤ (l1 : Int) ∧ (l1 : Int) ≤ 2)) → (40 < n) → jno w m 6 (jI (-6)) v w1) ∧ (¬ (¬ (0 ≤ (l1 : Int) ∧ (l1 : Int) ≤ 2)) → ¬ (40 < n) → (n < 0) → v = some (jI (-14)) ∧ w1 = w) ∧ (¬ (¬ (0 ≤ (l1 : Int) ∧ (l1 : Int) ≤ 2)) → ¬ (40 < n) → ¬ (n < 0) → v = some (jI 1) ∧ ∃ T, w1 = kA (jW w (m + 423) (l1 : Int).toNat n) (m + (425 + (l1 : Int).toNat)) T ∧ ∀ j, j < 40 → T j = 0)) := by
          intro N
          induction N with
          | zero => intro k T hk hT hm; omega
          | succ N ih5 =>
            intro k T hk hT hm
            refine jWp.blk mt 2 ?_
            show jWp 213 45 [some (jO m), some (jI (l1 : Int)), none, some (jI (k : Int))] [jI 40, jI (k : Int)] 0 0 (kA (jW w (m + 423) l1 n) (m + (425 + l1)) T) _
            refine jWp.icmp (pc' := 48) mt rfl rfl (b32_id (by omega) (by omega)) (show b32 40 = 40 by decide) (fun h6 => ?_) (fun h6 => ?_)
            · have h6 : 40 ≤ (k : Int) := h6
              refine jWp.blk mt 1 ?_
              show jWp 213 64 [some (jO m), some (jI (l1 : Int)), none, some (jI (k : Int))] [jI 1] 0 0 (kA (jW w (m + 423) l1 n) (m + (425 + l1)) T) _
              refine jWp.ireti mt rfl ⟨rfl, rfl⟩ rfl ?_
              refine ⟨fun c0 => ?_, fun c0 c1 => ?_, fun c0 c1 c2 => ?_, fun c0 c1 c2 => ?_⟩
              all_goals first
              | (exfalso; omega)
              | exact ⟨rfl, rfl⟩
              | exact ⟨rfl, T, rfl, fun j hj => hT j (by omega)⟩
            · have h6 : (k : Int) < 40 := h6
              refine jWp.blk mt 1 ?_
              show _ ∧ jWp 213 49 [some (jO m), some (jI (l1 : Int)), none, some (jI (k : Int))] [jO m] 0 0 (kA (jW w (m + 423) l1 n) (m + (425 + l1)) T) _
              refine ⟨rfl, ?_⟩
              refine jWp.getR (pc' := 52) (o := (m + 424)) mt rfl rfl (jtg hW.K0) hW.R28 ?_
              show jWp 213 52 [some (jO m), some (jI (l1 : Int)), none, some (jI (k : Int))] [jO (m + 424)] 0 0 (kA (jW w (m + 423) l1 n) (m + (425 + l1)) T) _
              refine jWp.blk mt 1 ?_
              show jWp 213 53 [some (jO m), some (jI (l1 : Int)), none, some (jI (k : Int))] [jI (l1 : Int), jO (m + 424)] 0 0 (kA (jW w (m + 423) l1 n) (m + (425 + l1)) T) _
              refine jWp.aald (pc' := 54) (j := l1) (o := (m + (425 + l1))) mt rfl rfl (jrg hW.K424 (by decide) (by decide)) (b32_id (by omega) (by omega)) (jlt hW.K424 (by omega)) (hW.RI l1 (by omega)) ?_
              show jWp 213 54 [some (jO m), some (jI (l1 : Int)), none, some (jI (k : Int))] [jO (m + (425 + l1))] 0 0 (kA (jW w (m + 423) l1 n) (m + (425 + l1)) T) _
              refine jWp.blk mt 2 ?_
              show jWp 213 56 [some (jO m), some (jI (l1 : Int)), none, some (jI (k : Int))] [jJ 0, jI (k : Int), jO (m + (425 + l1))] 0 0 (kA (jW w (m + 423) l1 n) (m + (425 + l1)) T) _
              refine jWp.last (pc' := 57) (j := k) mt rfl rfl (jtg (hW.KI _ (by omega))) (b32_id (by omega) (by omega)) (jlt (hW.KI _ (by omega)) (by omega)) ?_
              rw [show jW (kA (jW w (m + 423) l1 n) (m + (425 + l1)) T) (m + (425 + l1)) k 0 = (kA (jW w (m + 423) l1 n) (m + (425 + l1)) (zset T k 0)) from kA_W]
              show jWp 213 57 [some (jO m), some (jI (l1 : Int)), none, some (jI (k : Int))] [] 0 0 (kA (jW w (m + 423) l1 n) (m + (425 + l1)) (zset T k 0)) _
              refine jWp.blk mt 2 ?_
              show jWp 213 42 [some (jO m), some (jI (l1 : Int)), none, some (jI ((k : Int) + 1))] [] 0 0 (kA (jW w (m + 423) l1 n) (m + (425 + l1)) (zset T k 0)) _
              refine jWp.le (l := [some (jO m), some (jI (l1 : Int)), none, some (jI ((k : Int) + 1))]) (by exact ⟨rfl, rfl, rfl, trivial⟩) ?_
              exact ih5 (k + 1) _ (by omega) (fun j hj => by rcases Nat.lt_or_ge j k with h | h; rw [zset_n (by omega)]; exact hT j h; rw [show j = k by omega, zset_s]) (by omega)
        refine jWp.le (l := [some (jO m), some (jI (l1 : Int)), none, some (jI 0)]) (by exact ⟨rfl, rfl, rfl, trivial⟩) ?_
        have key := lp4 _ 0 ((jW w (m + 423) l1 n).1 (m + (425 + l1))) (by omega) (fun j hj => absurd hj (by omega)) (Nat.lt_succ_self _)
        rw [kA_self] at key
        exact key
      · have h3 : n < 0 := h3
        refine jWp.blk mt 1 ?_
        show jWp 213 32 [some (jO m), some (jI (l1 : Int)), some (jI n), none] [jI (-14)] 0 0 w _
        refine jWp.ireti mt rfl ⟨rfl, rfl⟩ rfl ?_
        refine ⟨fun c0 => ?_, fun c0 c1 => ?_, fun c0 c1 c2 => ?_, fun c0 c1 c2 => ?_⟩
        all_goals first
        | (exfalso; omega)
        | exact ⟨rfl, rfl⟩
        | exact ⟨rfl, T, rfl, fun j hj => hT j (by omega)⟩
    · have h2 : 40 < n := h2
      refine jWp.blk mt 2 ?_
      show _ ∧ jWp 213 22 [some (jO m), some (jI (l1 : Int)), some (jI n), none] [jI (-6), jO m] 0 0 w _
      refine ⟨rfl, ?_⟩
      refine jWp.callv (as := [jO m, jI (-6)]) (rest := []) mt rfl rfl rfl ⟨rfl, jtg hW.K0⟩ ?_
      refine jCall.mono (E_refuses (w := w) (j := 6) hW (by decide) (by decide)) (fun v9 w9 h9 => ?_)
      obtain ⟨rfl, h9⟩ := h9
      subst h9
      show jWp 213 25 [some (jO m), some (jI (l1 : Int)), some (jI n), none] [jI (-6)] 0 0 (jW w (m + 3) 6 ((w.1 (m + 3) 6) + 1)) _
      refine jWp.ireti mt rfl ⟨rfl, rfl⟩ rfl ?_
      refine ⟨fun c0 => ?_, fun c0 c1 => ?_, fun c0 c1 c2 => ?_, fun c0 c1 c2 => ?_⟩
      all_goals first
      | (exfalso; omega)
      | exact ⟨rfl, rfl⟩
      | exact ⟨rfl, T, rfl, fun j hj => hT j (by omega)⟩
  · have h1 : ¬ (0 ≤ l ∧ l ≤ 2) := h1
    show jWp 213 4 [some (jO m), some (jI l), some (jI n), none] [jI 0] 0 0 w _
    refine jWp.ifc (b := false) mt rfl (by decide) rfl ?_
    show jWp 213 7 [some (jO m), some (jI l), some (jI n), none] [] 0 0 w _
    refine jWp.blk mt 2 ?_
    show _ ∧ jWp 213 9 [some (jO m), some (jI l), some (jI n), none] [jI (-1), jO m] 0 0 w _
    refine ⟨rfl, ?_⟩
    refine jWp.callv (as := [jO m, jI (-1)]) (rest := []) mt rfl rfl rfl ⟨rfl, jtg hW.K0⟩ ?_
    refine jCall.mono (E_refuses (w := w) (j := 1) hW (by decide) (by decide)) (fun v9 w9 h9 => ?_)
    obtain ⟨rfl, h9⟩ := h9
    subst h9
    show jWp 213 12 [some (jO m), some (jI l), some (jI n), none] [jI (-1)] 0 0 (jW w (m + 3) 1 ((w.1 (m + 3) 1) + 1)) _
    refine jWp.ireti mt rfl ⟨rfl, rfl⟩ rfl ?_
    refine ⟨fun c0 => ?_, fun c0 c1 => ?_, fun c0 c1 c2 => ?_, fun c0 c1 c2 => ?_⟩
    all_goals first
    | (exfalso; omega)
    | exact ⟨rfl, rfl⟩
    | exact ⟨rfl, T, rfl, fun j hj => hT j (by omega)⟩
