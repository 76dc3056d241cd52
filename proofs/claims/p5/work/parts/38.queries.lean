/-- whether a letter is a sink, or a source, by one more letter at a time -/
def zsi (q : Nat → Int) (a : Int) (n k : Nat) : Prop := ∀ i, i < n → if a = 0 then 0 ≤ q (1 + (4 * i + k)) else q (1 + (4 * i + k)) ≤ 0
set_option maxHeartbeats 4000000 in
set_option maxRecDepth 20000 in
theorem E_sinks {w : jS} {m : Nat} (hW : MW w.2 m) {n : Nat} (hS : zS (w.1 (m + 1)) n) {a : Int} (hra : r32 a) : jCall 185 [jO m, jI a] w (fun v w1 => ((¬ (0 ≤ a ∧ a ≤ 1)) → jno w m 2 (jI (-2)) v w1) ∧ (¬ (¬ (0 ≤ a ∧ a ≤ 1)) → v = some (jI (zbt (zsi (w.1 (m + 1)) a n) n)) ∧ w1 = w)) := by
  have mt : jtb 185 = jT185 := rfl
  have hn2 := hS.n2
  have hn4 := hS.n4
  have hra1 : -2147483648 ≤ a ∧ a < 2147483648 := hra
  show jWp 185 0 [some (jO m), some (jI a), none, none, none, none] [] 0 0 w _
  refine jWp.blk mt 1 ?_
  show jWp 185 1 [some (jO m), some (jI a), none, none, none, none] [jI a] 0 0 w _
  refine jWp.i2l (pc' := 2) mt rfl rfl (b32_id (by omega) (by omega)) ?_
  show jWp 185 2 [some (jO m), some (jI a), none, none, none, none] [jJ a] 0 0 w _
  refine jWp.blk mt 2 ?_
  show jWp 185 4 [some (jO m), some (jI a), none, none, none, none] [jJ 1, jJ 0, jJ a] 0 0 w _
  refine jWp.calls (as := [jJ a, jJ 0, jJ 1]) (rest := []) mt rfl rfl rfl rfl ?_
  refine jCall.mono (E_in (b64_id (by omega) (by omega)) (show b64 0 = 0 by decide) (show b64 1 = 1 by decide)) (fun v9 w9 h9 => ?_)
  rcases h9 with ⟨rfl, h9, h1⟩ | ⟨rfl, h9, h1⟩ <;> subst w9
  · have h1 : 0 ≤ a ∧ a ≤ 1 := h1
    show jWp 185 7 [some (jO m), some (jI a), none, none, none, none] [jI 1] 0 0 w _
    refine jWp.ifc (b := true) mt rfl (by decide) rfl ?_
    show jWp 185 17 [some (jO m), some (jI a), none, none, none, none] [] 0 0 w _
    refine jWp.blk mt 4 ?_
    show jWp 185 21 [some (jO m), some (jI a), some (jI 0), some (jI 0), none, none] [] 0 0 w _
    have lp2 : ∀ (N : Nat) (k : Nat) (b : Int) (hk : k ≤ n) (hb : b = zbt (zsi (w.1 (m + 1)) a n) k), n - k < N → jWp 185 21 [some (jO m), some (jI a), some (jI b), some (jI (k : Int)), none, none] [] 0 0 w (fun v w1 => ((¬ (0 ≤ a ∧ a ≤ 1)) → jno w m 2 (jI (-2)) v w1) ∧ (¬ (¬ (0 ≤ a ∧ a ≤ 1)) → v = some (jI (zbt (zsi (w.1 (m + 1)) a n) n)) ∧ w1 = w)) := by
      intro N
      induction N with
      | zero => intro k b hk hb hm; omega
      | succ N ih3 =>
        intro k b hk hb hm
        refine jWp.blk mt 1 ?_
        show jWp 185 22 [some (jO m), some (jI a), some (jI b), some (jI (k : Int)), none, none] [jI (k : Int)] 0 0 w _
        refine jWp.i2l (pc' := 23) mt rfl rfl (b32_id (by omega) (by omega)) ?_
        show jWp 185 23 [some (jO m), some (jI a), some (jI b), some (jI (k : Int)), none, none] [jJ (k : Int)] 0 0 w _
        refine jWp.blk mt 1 ?_
        show _ ∧ jWp 185 24 [some (jO m), some (jI a), some (jI b), some (jI (k : Int)), none, none] [jO m, jJ (k : Int)] 0 0 w _
        refine ⟨rfl, ?_⟩
        refine jWp.getR (pc' := 27) (o := (m + 1)) mt rfl rfl (jtg hW.K0) hW.R0 ?_
        show jWp 185 27 [some (jO m), some (jI a), some (jI b), some (jI (k : Int)), none, none] [jO (m + 1), jJ (k : Int)] 0 0 w _
        refine jWp.blk mt 1 ?_
        show jWp 185 28 [some (jO m), some (jI a), some (jI b), some (jI (k : Int)), none, none] [jI 0, jO (m + 1), jJ (k : Int)] 0 0 w _
        refine jWp.lald (pc' := 29) (j := 0) mt rfl rfl (jtg hW.K1) (by decide) (jlt hW.K1 (by decide)) ?_
        rw [show (w.1 (m + 1) 0) = (n : Int) from hS.n0]
        show jWp 185 29 [some (jO m), some (jI a), some (jI b), some (jI (k : Int)), none, none] [jJ (n : Int), jJ (k : Int)] 0 0 w _
        refine jWp.lcmp (pc' := 33) mt rfl rfl rfl (b64_id (by omega) (by omega)) (b64_id (by omega) (by omega)) (fun h4 => ?_) (fun h4 => ?_)
        · have h4 : (n : Int) ≤ (k : Int) := h4
          refine jWp.blk mt 1 ?_
          show jWp 185 132 [some (jO m), some (jI a), some (jI b), some (jI (k : Int)), none, none] [jI b] 0 0 w _
          refine jWp.ireti mt rfl ⟨rfl, rfl⟩ rfl ?_
          refine ⟨fun c0 => ?_, fun c0 => ?_⟩
          all_goals first
          | (exfalso; omega)
          | exact ⟨rfl, rfl⟩
          | exact ⟨by rw [hb, show k = n by omega], rfl⟩
        · have h4 : (k : Int) < (n : Int) := h4
          refine jWp.blk mt 4 ?_
          show jWp 185 39 [some (jO m), some (jI a), some (jI b), some (jI (k : Int)), some (jI 1), some (jI 0)] [] 0 0 w _
          have lp5 : ∀ (N : Nat) (i : Nat) (s : Int) (hi : i ≤ n) (hs : (s = 1 ∧ ∀ y, y < i → if a = 0 then 0 ≤ w.1 (m + 1) (1 + (4 * y + k)) else w.1 (m + 1) (1 + (4 * y + k)) ≤ 0) ∨ (s = 0 ∧ ¬ ∀ y, y < i → if a = 0 then 0 ≤ w.1 (m + 1) (1 + (4 * y + k)) else w.1 (m + 1) (1 + (4 * y + k)) ≤ 0)), n - i < N → jWp 185 39 [some (jO m), some (jI a), some (jI b), some (jI (k : Int)), some (jI s), some (jI (i : Int))] [] 0 0 w (fun v w1 => ((¬ (0 ≤ a ∧ a ≤ 1)) → jno w m 2 (jI (-2)) v w1) ∧ (¬ (¬ (0 ≤ a ∧ a ≤ 1)) → v = some (jI (zbt (zsi (w.1 (m + 1)) a n) n)) ∧ w1 = w)) := by
            intro N
            induction N with
            | zero => intro i s hi hs hm; omega
            | succ N ih6 =>
              intro i s hi hs hm
              have hk4 : k < n := by omega
              have hf : i < n → _ := fun h => hS.b (4 * i + k) (by omega)
              refine jWp.blk mt 1 ?_
              show jWp 185 41 [some (jO m), some (jI a), some (jI b), some (jI (k : Int)), some (jI s), some (jI (i : Int))] [jI (i : Int)] 0 0 w _
              refine jWp.i2l (pc' := 42) mt rfl rfl (b32_id (by omega) (by omega)) ?_
              show jWp 185 42 [some (jO m), some (jI a), some (jI b), some (jI (k : Int)), some (jI s), some (jI (i : Int))] [jJ (i : Int)] 0 0 w _
              refine jWp.blk mt 1 ?_
              show _ ∧ jWp 185 43 [some (jO m), some (jI a), some (jI b), some (jI (k : Int)), some (jI s), some (jI (i : Int))] [jO m, jJ (i : Int)] 0 0 w _
              refine ⟨rfl, ?_⟩
              refine jWp.getR (pc' := 46) (o := (m + 1)) mt rfl rfl (jtg hW.K0) hW.R0 ?_
              show jWp 185 46 [some (jO m), some (jI a), some (jI b), some (jI (k : Int)), some (jI s), some (jI (i : Int))] [jO (m + 1), jJ (i : Int)] 0 0 w _
              refine jWp.blk mt 1 ?_
              show jWp 185 47 [some (jO m), some (jI a), some (jI b), some (jI (k : Int)), some (jI s), some (jI (i : Int))] [jI 0, jO (m + 1), jJ (i : Int)] 0 0 w _
              refine jWp.lald (pc' := 48) (j := 0) mt rfl rfl (jtg hW.K1) (by decide) (jlt hW.K1 (by decide)) ?_
              rw [show (w.1 (m + 1) 0) = (n : Int) from hS.n0]
              show jWp 185 48 [some (jO m), some (jI a), some (jI b), some (jI (k : Int)), some (jI s), some (jI (i : Int))] [jJ (n : Int), jJ (i : Int)] 0 0 w _
              refine jWp.lcmp (pc' := 52) mt rfl rfl rfl (b64_id (by omega) (by omega)) (b64_id (by omega) (by omega)) (fun h7 => ?_) (fun h7 => ?_)
              · have h7 : (n : Int) ≤ (i : Int) := h7
                refine jWp.blk mt 2 ?_
                show jWp 185 113 [some (jO m), some (jI a), some (jI b), some (jI (k : Int)), some (jI s), some (jI (i : Int))] [jI s, jI b] 0 0 w _
                refine jWp.ifz (pc' := 116) mt rfl rfl (b32_id (by rcases hs with ⟨e, _⟩ | ⟨e, _⟩ <;> omega) (by rcases hs with ⟨e, _⟩ | ⟨e, _⟩ <;> omega)) (fun h8 => ?_) (fun h8 => ?_)
                · have h8 : s = 0 := h8
                  refine jWp.blk mt 5 ?_
                  show jWp 185 21 [some (jO m), some (jI a), some (jI (jor b 0)), some (jI ((k : Int) + 1)), some (jI s), some (jI (i : Int))] [] 0 0 w _
                  refine jWp.le (l := [some (jO m), some (jI a), some (jI (jor b 0)), some (jI ((k : Int) + 1)), none, none]) (by exact ⟨rfl, rfl, rfl, rfl, trivial⟩) ?_
                  exact ih3 (k + 1) _ (by omega) (by rw [hb, jor_0 (zbt_r _ _), zbt_f (fun g => by rcases hs with ⟨e1, h⟩ | ⟨e1, h⟩; omega; exact h (fun y hy => g y (by omega)))]) (by omega)
                · have h8 : s ≠ 0 := h8
                  refine jWp.blk mt 8 ?_
                  show jWp 185 21 [some (jO m), some (jI a), some (jI (jor b (jshl 1 (k : Int)))), some (jI ((k : Int) + 1)), some (jI s), some (jI (i : Int))] [] 0 0 w _
                  refine jWp.le (l := [some (jO m), some (jI a), some (jI (jor b (jshl 1 (k : Int)))), some (jI ((k : Int) + 1)), none, none]) (by exact ⟨rfl, rfl, rfl, rfl, trivial⟩) ?_
                  exact ih3 (k + 1) _ (by omega) (by rw [hb, zbt_t (by rcases hs with ⟨e1, h⟩ | ⟨e1, h⟩; exact fun y hy => h y (by omega); omega)]) (by omega)
              · have h7 : (i : Int) < (n : Int) := h7
                refine jWp.blk mt 2 ?_
                show jWp 185 55 [some (jO m), some (jI a), some (jI b), some (jI (k : Int)), some (jI s), some (jI (i : Int))] [jI a, jI s] 0 0 w _
                refine jWp.ifz (pc' := 58) mt rfl rfl (b32_id (by omega) (by omega)) (fun h9 => ?_) (fun h9 => ?_)
                · have h9 : a ≠ 0 := h9
                  refine jWp.blk mt 1 ?_
                  show _ ∧ jWp 185 82 [some (jO m), some (jI a), some (jI b), some (jI (k : Int)), some (jI s), some (jI (i : Int))] [jO m, jI s] 0 0 w _
                  refine ⟨rfl, ?_⟩
                  refine jWp.getR (pc' := 85) (o := (m + 1)) mt rfl rfl (jtg hW.K0) hW.R0 ?_
                  show jWp 185 85 [some (jO m), some (jI a), some (jI b), some (jI (k : Int)), some (jI s), some (jI (i : Int))] [jO (m + 1), jI s] 0 0 w _
                  refine jWp.blk mt 2 ?_
                  show jWp 185 88 [some (jO m), some (jI a), some (jI b), some (jI (k : Int)), some (jI s), some (jI (i : Int))] [jI (k : Int), jI (i : Int), jO (m + 1), jI s] 0 0 w _
                  refine jWp.calls (as := [jO (m + 1), jI (i : Int), jI (k : Int)]) (rest := [jI s]) mt rfl rfl rfl rfl ?_
                  refine jCall.mono (E_b (w := w) (i := i) (k := k) hW.K1 (by omega) (by omega) (by omega)) (fun v9 w9 h9 => ?_)
                  obtain ⟨rfl, h9⟩ := h9
                  subst w9
                  show jWp 185 91 [some (jO m), some (jI a), some (jI b), some (jI (k : Int)), some (jI s), some (jI (i : Int))] [jJ (w.1 (m + 1) (1 + (4 * i + k))), jI s] 0 0 w _
                  refine jWp.blk mt 1 ?_
                  show jWp 185 92 [some (jO m), some (jI a), some (jI b), some (jI (k : Int)), some (jI s), some (jI (i : Int))] [jJ 0, jJ (w.1 (m + 1) (1 + (4 * i + k))), jI s] 0 0 w _
                  refine jWp.lcmp (pc' := 96) mt rfl rfl rfl (b64_id (by omega) (by omega)) (show b64 0 = 0 by decide) (fun h10 => ?_) (fun h10 => ?_)
                  · have h10 : 0 < (w.1 (m + 1) (1 + (4 * i + k))) := h10
                    refine jWp.blk mt 5 ?_
                    show jWp 185 39 [some (jO m), some (jI a), some (jI b), some (jI (k : Int)), some (jI (jand s 0)), some (jI ((i : Int) + 1))] [] 0 0 w _
                    refine jWp.le (l := [some (jO m), some (jI a), some (jI b), some (jI (k : Int)), some (jI (jand s 0)), some (jI ((i : Int) + 1))]) (by exact ⟨rfl, rfl, rfl, rfl, rfl, rfl, trivial⟩) ?_
                    exact ih6 (i + 1) (jand s 0) (by omega) (Or.inr ⟨by rcases hs with ⟨rfl, h⟩ | ⟨rfl, h⟩ <;> decide, fun g => by have g := g i (by omega); first | (rw [if_pos (by omega)] at g; omega) | (rw [if_neg (by omega)] at g; omega)⟩) (by omega)
                  · have h10 : (w.1 (m + 1) (1 + (4 * i + k))) ≤ 0 := h10
                    refine jWp.blk mt 6 ?_
                    show jWp 185 39 [some (jO m), some (jI a), some (jI b), some (jI (k : Int)), some (jI (jand s 1)), some (jI ((i : Int) + 1))] [] 0 0 w _
                    refine jWp.le (l := [some (jO m), some (jI a), some (jI b), some (jI (k : Int)), some (jI (jand s 1)), some (jI ((i : Int) + 1))]) (by exact ⟨rfl, rfl, rfl, rfl, rfl, rfl, trivial⟩) ?_
                    exact ih6 (i + 1) (jand s 1) (by omega) (by rcases hs with ⟨rfl, h⟩ | ⟨rfl, h⟩; exact Or.inl ⟨by decide, fun y hy => by rcases Nat.lt_or_ge y i with e | e; exact h y e; rw [show y = i by omega]; first | (rw [if_pos (by omega)]; omega) | (rw [if_neg (by omega)]; omega)⟩; exact Or.inr ⟨by decide, fun g => h (fun y hy => g y (by omega))⟩) (by omega)
                · have h9 : a = 0 := h9
                  refine jWp.blk mt 1 ?_
                  show _ ∧ jWp 185 59 [some (jO m), some (jI a), some (jI b), some (jI (k : Int)), some (jI s), some (jI (i : Int))] [jO m, jI s] 0 0 w _
                  refine ⟨rfl, ?_⟩
                  refine jWp.getR (pc' := 62) (o := (m + 1)) mt rfl rfl (jtg hW.K0) hW.R0 ?_
                  show jWp 185 62 [some (jO m), some (jI a), some (jI b), some (jI (k : Int)), some (jI s), some (jI (i : Int))] [jO (m + 1), jI s] 0 0 w _
                  refine jWp.blk mt 2 ?_
                  show jWp 185 65 [some (jO m), some (jI a), some (jI b), some (jI (k : Int)), some (jI s), some (jI (i : Int))] [jI (k : Int), jI (i : Int), jO (m + 1), jI s] 0 0 w _
                  refine jWp.calls (as := [jO (m + 1), jI (i : Int), jI (k : Int)]) (rest := [jI s]) mt rfl rfl rfl rfl ?_
                  refine jCall.mono (E_b (w := w) (i := i) (k := k) hW.K1 (by omega) (by omega) (by omega)) (fun v9 w9 h9 => ?_)
                  obtain ⟨rfl, h9⟩ := h9
                  subst w9
                  show jWp 185 68 [some (jO m), some (jI a), some (jI b), some (jI (k : Int)), some (jI s), some (jI (i : Int))] [jJ (w.1 (m + 1) (1 + (4 * i + k))), jI s] 0 0 w _
                  refine jWp.blk mt 1 ?_
                  show jWp 185 69 [some (jO m), some (jI a), some (jI b), some (jI (k : Int)), some (jI s), some (jI (i : Int))] [jJ 0, jJ (w.1 (m + 1) (1 + (4 * i + k))), jI s] 0 0 w _
                  refine jWp.lcmp (pc' := 73) mt rfl rfl rfl (b64_id (by omega) (by omega)) (show b64 0 = 0 by decide) (fun h11 => ?_) (fun h11 => ?_)
                  · have h11 : (w.1 (m + 1) (1 + (4 * i + k))) < 0 := h11
                    refine jWp.blk mt 6 ?_
                    show jWp 185 39 [some (jO m), some (jI a), some (jI b), some (jI (k : Int)), some (jI (jand s 0)), some (jI ((i : Int) + 1))] [] 0 0 w _
                    refine jWp.le (l := [some (jO m), some (jI a), some (jI b), some (jI (k : Int)), some (jI (jand s 0)), some (jI ((i : Int) + 1))]) (by exact ⟨rfl, rfl, rfl, rfl, rfl, rfl, trivial⟩) ?_
                    exact ih6 (i + 1) (jand s 0) (by omega) (Or.inr ⟨by rcases hs with ⟨rfl, h⟩ | ⟨rfl, h⟩ <;> decide, fun g => by have g := g i (by omega); first | (rw [if_pos (by omega)] at g; omega) | (rw [if_neg (by omega)] at g; omega)⟩) (by omega)
                  · have h11 : 0 ≤ (w.1 (m + 1) (1 + (4 * i + k))) := h11
                    refine jWp.blk mt 6 ?_
                    show jWp 185 39 [some (jO m), some (jI a), some (jI b), some (jI (k : Int)), some (jI (jand s 1)), some (jI ((i : Int) + 1))] [] 0 0 w _
                    refine jWp.le (l := [some (jO m), some (jI a), some (jI b), some (jI (k : Int)), some (jI (jand s 1)), some (jI ((i : Int) + 1))]) (by exact ⟨rfl, rfl, rfl, rfl, rfl, rfl, trivial⟩) ?_
                    exact ih6 (i + 1) (jand s 1) (by omega) (by rcases hs with ⟨rfl, h⟩ | ⟨rfl, h⟩; exact Or.inl ⟨by decide, fun y hy => by rcases Nat.lt_or_ge y i with e | e; exact h y e; rw [show y = i by omega]; first | (rw [if_pos (by omega)]; omega) | (rw [if_neg (by omega)]; omega)⟩; exact Or.inr ⟨by decide, fun g => h (fun y hy => g y (by omega))⟩) (by omega)
          refine jWp.le (l := [some (jO m), some (jI a), some (jI b), some (jI (k : Int)), some (jI 1), some (jI 0)]) (by exact ⟨rfl, rfl, rfl, rfl, rfl, rfl, trivial⟩) ?_
          exact lp5 _ 0 1 (by omega) (Or.inl ⟨rfl, fun y hy => absurd hy (by omega)⟩) (Nat.lt_succ_self _)
    refine jWp.le (l := [some (jO m), some (jI a), some (jI 0), some (jI 0), none, none]) (by exact ⟨rfl, rfl, rfl, rfl, trivial⟩) ?_
    exact lp2 _ 0 0 (by omega) rfl (Nat.lt_succ_self _)
  · have h1 : ¬ (0 ≤ a ∧ a ≤ 1) := h1
    show jWp 185 7 [some (jO m), some (jI a), none, none, none, none] [jI 0] 0 0 w _
    refine jWp.ifc (b := false) mt rfl (by decide) rfl ?_
    show jWp 185 10 [some (jO m), some (jI a), none, none, none, none] [] 0 0 w _
    refine jWp.blk mt 2 ?_
    show _ ∧ jWp 185 13 [some (jO m), some (jI a), none, none, none, none] [jI (-2), jO m] 0 0 w _
    refine ⟨rfl, ?_⟩
    refine jWp.callv (as := [jO m, jI (-2)]) (rest := []) mt rfl rfl rfl ⟨rfl, jtg hW.K0⟩ ?_
    refine jCall.mono (E_refuses (w := w) (j := 2) hW (by decide) (by decide)) (fun v9 w9 h9 => ?_)
    obtain ⟨rfl, h9⟩ := h9
    subst h9
    show jWp 185 16 [some (jO m), some (jI a), none, none, none, none] [jI (-2)] 0 0 (jW w (m + 3) 2 ((w.1 (m + 3) 2) + 1)) _
    refine jWp.ireti mt rfl ⟨rfl, rfl⟩ rfl ?_
    refine ⟨fun c0 => ?_, fun c0 => ?_⟩
    all_goals first
    | (exfalso; omega)
    | exact ⟨rfl, rfl⟩
    | exact ⟨by rw [hb, show k = n by omega], rfl⟩
def zcz (q : Nat → Int) : Nat → Int
  | 0 => 0
  | e + 1 => zcz q e + if q (1 + e) = 0 then 0 else 1
theorem zcz_t {q : Nat → Int} {e : Nat} (h : q (1 + e) = 0) : zcz q (e + 1) = zcz q e + 0 := by
  show _ + (if _ then _ else _) = _
  rw [if_pos h]
theorem zcz_f {q : Nat → Int} {e : Nat} (h : q (1 + e) ≠ 0) : zcz q (e + 1) = zcz q e + 1 := by
  show _ + (if _ then _ else _) = _
  rw [if_neg h]
set_option maxHeartbeats 4000000 in
set_option maxRecDepth 20000 in
theorem E_count {w : jS} {m : Nat} (hW : MW w.2 m) {n : Nat} (hS : zS (w.1 (m + 1)) n) {what : Int} (hrw : r32 what) : jCall 219 [jO m, jI what] w (fun v w1 => (what = 0 → v = some (jI (w.1 (m + 2) 0)) ∧ w1 = w) ∧ (what = 1 → v = some (jI ((n : Int))) ∧ w1 = w) ∧ (what = 2 → v = some (jI (w.1 m 24)) ∧ w1 = w) ∧ (what = 3 → v = some (jI (w.1 m 15)) ∧ w1 = w) ∧ (what = 4 → v = some (jI (zcz (w.1 (m + 1)) 16)) ∧ w1 = w) ∧ (what = 5 → v = some (jI (zgo (w.1 (m + 1)) n n)) ∧ w1 = w) ∧ (11 ≤ what ∧ what ≤ 16 → v = some (jI (w.1 (m + 3) (what - 10).toNat)) ∧ w1 = w) ∧ ((what < 0 ∨ (5 < what ∧ what < 11) ∨ 16 < what) → v = some (jI (-9)) ∧ w1 = w)) := by
  have mt : jtb 219 = jT219 := rfl
  have hn2 := hS.n2
  have hn4 := hS.n4
  have hrw1 : -2147483648 ≤ what ∧ what < 2147483648 := hrw
  show jWp 219 0 [some (jO m), some (jI what), none, none] [] 0 0 w _
  refine jWp.blk mt 1 ?_
  show jWp 219 1 [some (jO m), some (jI what), none, none] [jI what] 0 0 w _
  refine jWp.i2l (pc' := 2) mt rfl rfl (b32_id (by omega) (by omega)) ?_
  show jWp 219 2 [some (jO m), some (jI what), none, none] [jJ what] 0 0 w _
  refine jWp.blk mt 2 ?_
  show jWp 219 8 [some (jO m), some (jI what), none, none] [jJ 16, jJ 11, jJ what] 0 0 w _
  refine jWp.calls (as := [jJ what, jJ 11, jJ 16]) (rest := []) mt rfl rfl rfl rfl ?_
  refine jCall.mono (E_in (b64_id (by omega) (by omega)) (show b64 11 = 11 by decide) (show b64 16 = 16 by decide)) (fun v9 w9 h9 => ?_)
  rcases h9 with ⟨rfl, h9, h1⟩ | ⟨rfl, h9, h1⟩ <;> subst w9
  · have h1 : 11 ≤ what ∧ what ≤ 16 := h1
    show jWp 219 11 [some (jO m), some (jI what), none, none] [jI 1] 0 0 w _
    refine jWp.ifc (b := false) mt rfl (by decide) rfl ?_
    show jWp 219 14 [some (jO m), some (jI what), none, none] [] 0 0 w _
    refine jWp.blk mt 1 ?_
    show _ ∧ jWp 219 15 [some (jO m), some (jI what), none, none] [jO m] 0 0 w _
    refine ⟨rfl, ?_⟩
    refine jWp.getR (pc' := 18) (o := (m + 3)) mt rfl rfl (jtg hW.K0) hW.R2 ?_
    show jWp 219 18 [some (jO m), some (jI what), none, none] [jO (m + 3)] 0 0 w _
    refine jWp.blk mt 3 ?_
    show jWp 219 22 [some (jO m), some (jI what), none, none] [jI (what - 10), jO (m + 3)] 0 0 w _
    refine jWp.iald (pc' := 23) (j := (what - 10).toNat) mt rfl rfl (jird_of hW.K3) (by rw [b32_id (by omega) (by omega)]; omega) (jlt hW.K3 (by omega)) ?_
    show jWp 219 23 [some (jO m), some (jI what), none, none] [jI (w.1 (m + 3) ((what - 10).toNat))] 0 0 w _
    refine jWp.ireti mt rfl ⟨rfl, rfl⟩ rfl ?_
    refine ⟨fun c => ?_, fun c => ?_, fun c => ?_, fun c => ?_, fun c => ?_, fun c => ?_, fun c => ?_, fun c => ?_⟩
    all_goals first
    | (exfalso; omega)
    | exact ⟨rfl, rfl⟩
    | (refine ⟨?_, rfl⟩; rw [hcz, show e = 16 by omega])
    | (refine ⟨?_, rfl⟩; rw [show (what1 - 10 : Nat) = ((what1 : Int) - 10).toNat by omega])
  · have h1 : ¬ (11 ≤ what ∧ what ≤ 16) := h1
    show jWp 219 11 [some (jO m), some (jI what), none, none] [jI 0] 0 0 w _
    refine jWp.ifc (b := true) mt rfl (by decide) rfl ?_
    show jWp 219 24 [some (jO m), some (jI what), none, none] [] 0 0 w _
    refine jWp.blk mt 1 ?_
    show jWp 219 25 [some (jO m), some (jI what), none, none] [jI what] 0 0 w _
    refine jWp.sw mt rfl (Or.inl ⟨_, _, _, _, rfl⟩) (b32_id (by omega) (by omega)) ?_
    show jWp 219 (jsw [(0, 64), (1, 71), (2, 79), (3, 84), (4, 89), (5, 128)] 137 what) [some (jO m), some (jI what), none, none] [] 0 0 w _
    unfold jsw; by_cases h2 : 0 = what
    · rw [if_pos h2]
      refine jWp.blk mt 1 ?_
      show _ ∧ jWp 219 65 [some (jO m), some (jI what), none, none] [jO m] 0 0 w _
      refine ⟨rfl, ?_⟩
      refine jWp.getR (pc' := 68) (o := (m + 2)) mt rfl rfl (jtg hW.K0) hW.R1 ?_
      show jWp 219 68 [some (jO m), some (jI what), none, none] [jO (m + 2)] 0 0 w _
      refine jWp.blk mt 1 ?_
      show jWp 219 69 [some (jO m), some (jI what), none, none] [jI 0, jO (m + 2)] 0 0 w _
      refine jWp.iald (pc' := 70) (j := 0) mt rfl rfl (jird_of hW.K2) (by decide) (jlt hW.K2 (by decide)) ?_
      show jWp 219 70 [some (jO m), some (jI what), none, none] [jI (w.1 (m + 2) 0)] 0 0 w _
      refine jWp.ireti mt rfl ⟨rfl, rfl⟩ rfl ?_
      refine ⟨fun c => ?_, fun c => ?_, fun c => ?_, fun c => ?_, fun c => ?_, fun c => ?_, fun c => ?_, fun c => ?_⟩
      all_goals first
      | (exfalso; omega)
      | exact ⟨rfl, rfl⟩
      | (refine ⟨?_, rfl⟩; rw [hcz, show e = 16 by omega])
      | (refine ⟨?_, rfl⟩; rw [show (what1 - 10 : Nat) = ((what1 : Int) - 10).toNat by omega])
    · rw [if_neg h2]
      unfold jsw; by_cases h3 : 1 = what
      · rw [if_pos h3]
        refine jWp.blk mt 1 ?_
        show _ ∧ jWp 219 72 [some (jO m), some (jI what), none, none] [jO m] 0 0 w _
        refine ⟨rfl, ?_⟩
        refine jWp.getR (pc' := 75) (o := (m + 1)) mt rfl rfl (jtg hW.K0) hW.R0 ?_
        show jWp 219 75 [some (jO m), some (jI what), none, none] [jO (m + 1)] 0 0 w _
        refine jWp.blk mt 1 ?_
        show jWp 219 76 [some (jO m), some (jI what), none, none] [jI 0, jO (m + 1)] 0 0 w _
        refine jWp.lald (pc' := 77) (j := 0) mt rfl rfl (jtg hW.K1) (by decide) (jlt hW.K1 (by decide)) ?_
        rw [show (w.1 (m + 1) 0) = (n : Int) from hS.n0]
        show jWp 219 77 [some (jO m), some (jI what), none, none] [jJ (n : Int)] 0 0 w _
        refine jWp.blk mt 1 ?_
        show jWp 219 78 [some (jO m), some (jI what), none, none] [jI (n : Int)] 0 0 w _
        refine jWp.ireti mt rfl ⟨rfl, rfl⟩ rfl ?_
        refine ⟨fun c => ?_, fun c => ?_, fun c => ?_, fun c => ?_, fun c => ?_, fun c => ?_, fun c => ?_, fun c => ?_⟩
        all_goals first
        | (exfalso; omega)
        | exact ⟨rfl, rfl⟩
        | (refine ⟨?_, rfl⟩; rw [hcz, show e = 16 by omega])
        | (refine ⟨?_, rfl⟩; rw [show (what1 - 10 : Nat) = ((what1 : Int) - 10).toNat by omega])
      · rw [if_neg h3]
        unfold jsw; by_cases h4 : 2 = what
        · rw [if_pos h4]
          refine jWp.blk mt 1 ?_
          show _ ∧ jWp 219 80 [some (jO m), some (jI what), none, none] [jO m] 0 0 w _
          refine ⟨rfl, ?_⟩
          refine jWp.getI (pc' := 83) mt rfl rfl (jtg hW.K0) ?_
          show jWp 219 83 [some (jO m), some (jI what), none, none] [jI (w.1 m 24)] 0 0 w _
          refine jWp.ireti mt rfl ⟨rfl, rfl⟩ rfl ?_
          refine ⟨fun c => ?_, fun c => ?_, fun c => ?_, fun c => ?_, fun c => ?_, fun c => ?_, fun c => ?_, fun c => ?_⟩
          all_goals first
          | (exfalso; omega)
          | exact ⟨rfl, rfl⟩
          | (refine ⟨?_, rfl⟩; rw [hcz, show e = 16 by omega])
          | (refine ⟨?_, rfl⟩; rw [show (what1 - 10 : Nat) = ((what1 : Int) - 10).toNat by omega])
        · rw [if_neg h4]
          unfold jsw; by_cases h5 : 3 = what
          · rw [if_pos h5]
            refine jWp.blk mt 1 ?_
            show _ ∧ jWp 219 85 [some (jO m), some (jI what), none, none] [jO m] 0 0 w _
            refine ⟨rfl, ?_⟩
            refine jWp.getI (pc' := 88) mt rfl rfl (jtg hW.K0) ?_
            show jWp 219 88 [some (jO m), some (jI what), none, none] [jI (w.1 m 15)] 0 0 w _
            refine jWp.ireti mt rfl ⟨rfl, rfl⟩ rfl ?_
            refine ⟨fun c => ?_, fun c => ?_, fun c => ?_, fun c => ?_, fun c => ?_, fun c => ?_, fun c => ?_, fun c => ?_⟩
            all_goals first
            | (exfalso; omega)
            | exact ⟨rfl, rfl⟩
            | (refine ⟨?_, rfl⟩; rw [hcz, show e = 16 by omega])
            | (refine ⟨?_, rfl⟩; rw [show (what1 - 10 : Nat) = ((what1 : Int) - 10).toNat by omega])
          · rw [if_neg h5]
            unfold jsw; by_cases h6 : 4 = what
            · rw [if_pos h6]
              refine jWp.blk mt 4 ?_
              show jWp 219 93 [some (jO m), some (jI what), some (jI 0), some (jI 0)] [] 0 0 w _
              have lp7 : ∀ (N : Nat) (e : Nat) (b : Int) (he : e ≤ 16) (hcz : b = zcz (w.1 (m + 1)) e), 16 - e < N → jWp 219 93 [some (jO m), none, some (jI b), some (jI (e : Int))] [] 0 0 w (fun v w1 => (what = 0 → v = some (jI (w.1 (m + 2) 0)) ∧ w1 = w) ∧ (what = 1 → v = some (jI ((n : Int))) ∧ w1 = w) ∧ (what = 2 → v = some (jI (w.1 m 24)) ∧ w1 = w) ∧ (what = 3 → v = some (jI (w.1 m 15)) ∧ w1 = w) ∧ (what = 4 → v = some (jI (zcz (w.1 (m + 1)) 16)) ∧ w1 = w) ∧ (what = 5 → v = some (jI (zgo (w.1 (m + 1)) n n)) ∧ w1 = w) ∧ (11 ≤ what ∧ what ≤ 16 → v = some (jI (w.1 (m + 3) (what - 10).toNat)) ∧ w1 = w) ∧ ((what < 0 ∨ (5 < what ∧ what < 11) ∨ 16 < what) → v = some (jI (-9)) ∧ w1 = w)) := by
                intro N
                induction N with
                | zero => intro e b he hcz hm; omega
                | succ N ih8 =>
                  intro e b he hcz hm
                  have hf : e < 16 → _ := fun h => hS.b e (by omega)
                  refine jWp.blk mt 2 ?_
                  show jWp 219 96 [some (jO m), none, some (jI b), some (jI (e : Int))] [jI 16, jI (e : Int)] 0 0 w _
                  refine jWp.icmp (pc' := 99) mt rfl rfl (b32_id (by omega) (by omega)) (show b32 16 = 16 by decide) (fun h9 => ?_) (fun h9 => ?_)
                  · have h9 : 16 ≤ (e : Int) := h9
                    refine jWp.blk mt 1 ?_
                    show jWp 219 127 [some (jO m), none, some (jI b), some (jI (e : Int))] [jI b] 0 0 w _
                    refine jWp.ireti mt rfl ⟨rfl, rfl⟩ rfl ?_
                    refine ⟨fun c => ?_, fun c => ?_, fun c => ?_, fun c => ?_, fun c => ?_, fun c => ?_, fun c => ?_, fun c => ?_⟩
                    all_goals first
                    | (exfalso; omega)
                    | exact ⟨rfl, rfl⟩
                    | (refine ⟨?_, rfl⟩; rw [hcz, show e = 16 by omega])
                    | (refine ⟨?_, rfl⟩; rw [show (what1 - 10 : Nat) = ((what1 : Int) - 10).toNat by omega])
                  · have h9 : (e : Int) < 16 := h9
                    refine jWp.blk mt 2 ?_
                    show _ ∧ jWp 219 101 [some (jO m), none, some (jI b), some (jI (e : Int))] [jO m, jI b] 0 0 w _
                    refine ⟨rfl, ?_⟩
                    refine jWp.getR (pc' := 104) (o := (m + 1)) mt rfl rfl (jtg hW.K0) hW.R0 ?_
                    show jWp 219 104 [some (jO m), none, some (jI b), some (jI (e : Int))] [jO (m + 1), jI b] 0 0 w _
                    refine jWp.blk mt 3 ?_
                    show jWp 219 107 [some (jO m), none, some (jI b), some (jI (e : Int))] [jI (1 + (e : Int)), jO (m + 1), jI b] 0 0 w _
                    refine jWp.lald (pc' := 108) (j := (1 + e)) mt rfl rfl (jtg hW.K1) (by rw [b32_id (by omega) (by omega)] <;> omega) (jlt hW.K1 (by omega)) ?_
                    show jWp 219 108 [some (jO m), none, some (jI b), some (jI (e : Int))] [jJ (w.1 (m + 1) (1 + e)), jI b] 0 0 w _
                    refine jWp.blk mt 1 ?_
                    show jWp 219 109 [some (jO m), none, some (jI b), some (jI (e : Int))] [jJ 0, jJ (w.1 (m + 1) (1 + e)), jI b] 0 0 w _
                    refine jWp.lcmp (pc' := 113) mt rfl rfl rfl (b64_id (by omega) (by omega)) (show b64 0 = 0 by decide) (fun h10 => ?_) (fun h10 => ?_)
                    · have h10 : (w.1 (m + 1) (1 + e)) = 0 := h10
                      refine jWp.blk mt 5 ?_
                      show jWp 219 93 [some (jO m), none, some (jI (b + 0)), some (jI ((e : Int) + 1))] [] 0 0 w _
                      refine jWp.le (l := [some (jO m), none, some (jI (b + 0)), some (jI ((e : Int) + 1))]) (by exact ⟨rfl, rfl, rfl, trivial⟩) ?_
                      exact ih8 (e + 1) _ (by omega) (by rw [hcz]; first | (rw [zcz_t (by omega)]; done) | (rw [zcz_f (by omega)]; done)) (by omega)
                    · have h10 : (w.1 (m + 1) (1 + e)) ≠ 0 := h10
                      refine jWp.blk mt 6 ?_
                      show jWp 219 93 [some (jO m), none, some (jI (b + 1)), some (jI ((e : Int) + 1))] [] 0 0 w _
                      refine jWp.le (l := [some (jO m), none, some (jI (b + 1)), some (jI ((e : Int) + 1))]) (by exact ⟨rfl, rfl, rfl, trivial⟩) ?_
                      exact ih8 (e + 1) _ (by omega) (by rw [hcz]; first | (rw [zcz_t (by omega)]; done) | (rw [zcz_f (by omega)]; done)) (by omega)
              refine jWp.le (l := [some (jO m), none, some (jI 0), some (jI 0)]) (by exact ⟨rfl, rfl, rfl, trivial⟩) ?_
              exact lp7 _ 0 0 (by omega) rfl (Nat.lt_succ_self _)
            · rw [if_neg h6]
              unfold jsw; by_cases h11 : 5 = what
              · rw [if_pos h11]
                refine jWp.blk mt 1 ?_
                show _ ∧ jWp 219 129 [some (jO m), some (jI what), none, none] [jO m] 0 0 w _
                refine ⟨rfl, ?_⟩
                refine jWp.getR (pc' := 132) (o := (m + 1)) mt rfl rfl (jtg hW.K0) hW.R0 ?_
                show jWp 219 132 [some (jO m), some (jI what), none, none] [jO (m + 1)] 0 0 w _
                refine jWp.calls (as := [jO (m + 1)]) (rest := []) mt rfl rfl rfl rfl ?_
                refine jCall.mono (E_greatest (w := w) (n := n) hW.K1 hS) (fun v9 w9 h9 => ?_)
                obtain ⟨rfl, h9⟩ := h9
                subst w9
                show jWp 219 135 [some (jO m), some (jI what), none, none] [jJ (zgo (w.1 (m + 1)) n n)] 0 0 w _
                refine jWp.blk mt 1 ?_
                show jWp 219 136 [some (jO m), some (jI what), none, none] [jI (zgo (w.1 (m + 1)) n n)] 0 0 w _
                refine jWp.ireti mt rfl ⟨rfl, rfl⟩ rfl ?_
                refine ⟨fun c => ?_, fun c => ?_, fun c => ?_, fun c => ?_, fun c => ?_, fun c => ?_, fun c => ?_, fun c => ?_⟩
                all_goals first
                | (exfalso; omega)
                | exact ⟨rfl, rfl⟩
                | (refine ⟨?_, rfl⟩; rw [hcz, show e = 16 by omega])
                | (refine ⟨?_, rfl⟩; rw [show (what1 - 10 : Nat) = ((what1 : Int) - 10).toNat by omega])
              · rw [if_neg h11]
                unfold jsw
                refine jWp.blk mt 1 ?_
                show jWp 219 139 [some (jO m), some (jI what), none, none] [jI (-9)] 0 0 w _
                refine jWp.ireti mt rfl ⟨rfl, rfl⟩ rfl ?_
                refine ⟨fun c => ?_, fun c => ?_, fun c => ?_, fun c => ?_, fun c => ?_, fun c => ?_, fun c => ?_, fun c => ?_⟩
                all_goals first
                | (exfalso; omega)
                | exact ⟨rfl, rfl⟩
                | (refine ⟨?_, rfl⟩; rw [hcz, show e = 16 by omega])
                | (refine ⟨?_, rfl⟩; rw [show (what1 - 10 : Nat) = ((what1 : Int) - 10).toNat by omega])
noncomputable def zrF (q0 : Nat → Int) (n i j : Nat) : Nat → Nat → (Nat → Int) → Int
  | 0, _, _ => -9
  | f + 1, t, S => @ite Int (zcan S n (if t % 2 = 1 then i else j)) (Classical.propDecidable _) (@ite Int (zsame q0 (zxF S n (if t % 2 = 1 then i else j)) n) (Classical.propDecidable _) (t : Int) (zrF q0 n i j f (t + 1) (zxF S n (if t % 2 = 1 then i else j)))) (-9)
theorem zrF_no {q0 S : Nat → Int} {n i j f t k : Nat} (hk : (if t % 2 = 1 then i else j) = k) (h : ¬ zcan S n k) : zrF q0 n i j (f + 1) t S = -9 := by
  subst hk
  exact if_neg h
theorem zrF_yes {q0 S : Nat → Int} {n i j f t k : Nat} (hk : (if t % 2 = 1 then i else j) = k) (h : zcan S n k) (g : zsame q0 (zxF S n k) n) : zrF q0 n i j (f + 1) t S = (t : Int) := by
  subst hk
  exact (if_pos h).trans (if_pos g)
theorem zrF_go {q0 S : Nat → Int} {n i j f t k : Nat} (hk : (if t % 2 = 1 then i else j) = k) (h : zcan S n k) (g : ¬ zsame q0 (zxF S n k) n) : zrF q0 n i j (f + 1) t S = zrF q0 n i j f (t + 1) (zxF S n k) := by
  subst hk
  exact (if_pos h).trans (if_neg g)
theorem zrF_c {q0 : Nat → Int} {n i j : Nat} (hn : n ≤ 4) (hi : i < 4) (hj : j < 4) : ∀ (f t : Nat) (S q : Nat → Int), zeq S q → zrF q0 n i j f t S = zrF q0 n i j f t q
  | 0, _, _, _, _ => rfl
  | f + 1, t, S, q, h => by
    have hk : (if t % 2 = 1 then i else j) < 4 := by split <;> omega
    have e := zxF_c h hn hk
    by_cases h1 : zcan S n (if t % 2 = 1 then i else j)
    · have h2 := (zcan_q h hn hk).mp h1
      by_cases h3 : zsame q0 (zxF S n (if t % 2 = 1 then i else j)) n
      · rw [zrF_yes rfl h1 h3, zrF_yes rfl h2 ((zsame_c hn (fun _ _ => rfl) e).mp h3)]
      · rw [zrF_go rfl h1 h3, zrF_go rfl h2 (fun g => h3 ((zsame_c hn (fun _ _ => rfl) e).mpr g))]
        exact zrF_c hn hi hj f (t + 1) _ _ e
    · rw [zrF_no rfl h1, zrF_no rfl (fun g => h1 ((zcan_q h hn hk).mpr g))]
set_option maxHeartbeats 4000000 in
set_option maxRecDepth 20000 in
theorem E_ring {w : jS} {m : Nat} (hW : MW w.2 m) {n : Nat} (hS : zS (w.1 (m + 1)) n) {i j : Int} (hri : r32 i) (hrj : r32 j) : jCall 187 [jO m, jI i, jI j] w (fun v w1 => ((¬ (0 ≤ i ∧ i < (n : Int)) ∨ ¬ (0 ≤ j ∧ j < (n : Int)) ∨ i = j) → jno w m 1 (jI (-1)) v w1) ∧ (¬ (¬ (0 ≤ i ∧ i < (n : Int)) ∨ ¬ (0 ≤ j ∧ j < (n : Int)) ∨ i = j) → v = some (jI (zrF (w.1 (m + 1)) n i.toNat j.toNat 20 1 (w.1 (m + 1)))) ∧ mq w m w1)) := by
  have mt : jtb 187 = jT187 := rfl
  have hn2 := hS.n2
  have hn4 := hS.n4
  have hri1 : -2147483648 ≤ i ∧ i < 2147483648 := hri
  have hrj1 : -2147483648 ≤ j ∧ j < 2147483648 := hrj
  show jWp 187 0 [some (jO m), some (jI i), some (jI j), none] [] 0 0 w _
  refine jWp.blk mt 2 ?_
  show _ ∧ jWp 187 2 [some (jO m), some (jI i), some (jI j), none] [jI i, jO m] 0 0 w _
  refine ⟨rfl, ?_⟩
  refine jWp.callv (as := [jO m, jI i]) (rest := []) mt rfl rfl rfl ⟨rfl, jtg hW.K0⟩ ?_
  refine jCall.mono (E_isLetter hW hS hri) (fun v9 w9 h9 => ?_)
  rcases h9 with ⟨rfl, h9, h1⟩ | ⟨rfl, h9, h1⟩ <;> subst w9
  · have h1 : 0 ≤ i ∧ i < (n : Int) := h1
    show jWp 187 5 [some (jO m), some (jI i), some (jI j), none] [jI 1] 0 0 w _
    obtain ⟨i1, rfl⟩ : ∃ i1 : Nat, i = (i1 : Int) := ⟨i.toNat, by omega⟩
    show jWp 187 5 [some (jO m), some (jI (i1 : Int)), some (jI j), none] [jI 1] 0 0 w _
    refine jWp.ifc (b := false) mt rfl (by decide) rfl ?_
    show jWp 187 8 [some (jO m), some (jI (i1 : Int)), some (jI j), none] [] 0 0 w _
    refine jWp.blk mt 2 ?_
    show _ ∧ jWp 187 10 [some (jO m), some (jI (i1 : Int)), some (jI j), none] [jI j, jO m] 0 0 w _
    refine ⟨rfl, ?_⟩
    refine jWp.callv (as := [jO m, jI j]) (rest := []) mt rfl rfl rfl ⟨rfl, jtg hW.K0⟩ ?_
    refine jCall.mono (E_isLetter hW hS hrj) (fun v9 w9 h9 => ?_)
    rcases h9 with ⟨rfl, h9, h2⟩ | ⟨rfl, h9, h2⟩ <;> subst w9
    · have h2 : 0 ≤ j ∧ j < (n : Int) := h2
      show jWp 187 13 [some (jO m), some (jI (i1 : Int)), some (jI j), none] [jI 1] 0 0 w _
      obtain ⟨j1, rfl⟩ : ∃ j1 : Nat, j = (j1 : Int) := ⟨j.toNat, by omega⟩
      show jWp 187 13 [some (jO m), some (jI (i1 : Int)), some (jI (j1 : Int)), none] [jI 1] 0 0 w _
      refine jWp.ifc (b := false) mt rfl (by decide) rfl ?_
      show jWp 187 16 [some (jO m), some (jI (i1 : Int)), some (jI (j1 : Int)), none] [] 0 0 w _
      refine jWp.blk mt 2 ?_
      show jWp 187 18 [some (jO m), some (jI (i1 : Int)), some (jI (j1 : Int)), none] [jI (j1 : Int), jI (i1 : Int)] 0 0 w _
      refine jWp.icmp (pc' := 21) mt rfl rfl (b32_id (by omega) (by omega)) (b32_id (by omega) (by omega)) (fun h3 => ?_) (fun h3 => ?_)
      · have h3 : (i1 : Int) ≠ (j1 : Int) := h3
        refine jWp.blk mt 1 ?_
        show _ ∧ jWp 187 28 [some (jO m), some (jI (i1 : Int)), some (jI (j1 : Int)), none] [jO m] 0 0 w _
        refine ⟨rfl, ?_⟩
        refine jWp.getR (pc' := 31) (o := (m + 1)) mt rfl rfl (jtg hW.K0) hW.R0 ?_
        show jWp 187 31 [some (jO m), some (jI (i1 : Int)), some (jI (j1 : Int)), none] [jO (m + 1)] 0 0 w _
        refine jWp.blk mt 1 ?_
        show _ ∧ jWp 187 32 [some (jO m), some (jI (i1 : Int)), some (jI (j1 : Int)), none] [jO m, jO (m + 1)] 0 0 w _
        refine ⟨rfl, ?_⟩
        refine jWp.getR (pc' := 35) (o := (m + 16)) mt rfl rfl (jtg hW.K0) hW.R16 ?_
        show jWp 187 35 [some (jO m), some (jI (i1 : Int)), some (jI (j1 : Int)), none] [jO (m + 16), jO (m + 1)] 0 0 w _
        refine jWp.calls (as := [jO (m + 1), jO (m + 16)]) (rest := []) mt rfl rfl rfl rfl ?_
        refine jCall.mono (E_copies (w := w) (a := m + 1) (q := m + 16) hW.K1 hW.K16 (by omega)) (fun v9 w9 h9 => ?_)
        obtain ⟨rfl, T4, h9, hT5⟩ := h9
        subst h9
        show jWp 187 38 [some (jO m), some (jI (i1 : Int)), some (jI (j1 : Int)), none] [] 0 0 (kA w (m + 16) T4) _
        refine jWp.blk mt 2 ?_
        show jWp 187 40 [some (jO m), some (jI (i1 : Int)), some (jI (j1 : Int)), some (jI 1)] [] 0 0 (kA w (m + 16) T4) _
        have lp6 : ∀ (N : Nat) (t : Nat) (M1 : Nat → Nat → Int) (ht : 1 ≤ t ∧ t ≤ 21) (hmq : mq w m (M1, w.2)) (hS1 : zS (M1 (m + 16)) n) (hr : zrF (w.1 (m + 1)) n i1 j1 (21 - t) t (M1 (m + 16)) = zrF (w.1 (m + 1)) n i1 j1 20 1 (w.1 (m + 1))), 21 - t < N → jWp 187 40 [some (jO m), some (jI (i1 : Int)), some (jI (j1 : Int)), some (jI (t : Int))] [] 0 0 (M1, w.2) (fun v w1 => ((¬ (0 ≤ (i1 : Int) ∧ (i1 : Int) < (n : Int)) ∨ ¬ (0 ≤ (j1 : Int) ∧ (j1 : Int) < (n : Int)) ∨ (i1 : Int) = (j1 : Int)) → jno w m 1 (jI (-1)) v w1) ∧ (¬ (¬ (0 ≤ (i1 : Int) ∧ (i1 : Int) < (n : Int)) ∨ ¬ (0 ≤ (j1 : Int) ∧ (j1 : Int) < (n : Int)) ∨ (i1 : Int) = (j1 : Int)) → v = some (jI (zrF (w.1 (m + 1)) n (i1 : Int).toNat (j1 : Int).toNat 20 1 (w.1 (m + 1)))) ∧ mq w m w1)) := by
          intro N
          induction N with
          | zero => intro t M1 ht hmq hS1 hr hm; omega
          | succ N ih7 =>
            intro t M1 ht hmq hS1 hr hm
            have htm : Int.tmod (t : Int) 2 = ((t % 2 : Nat) : Int) := rfl
            refine jWp.blk mt 2 ?_
            show jWp 187 43 [some (jO m), some (jI (i1 : Int)), some (jI (j1 : Int)), some (jI (t : Int))] [jI 20, jI (t : Int)] 0 0 (M1, w.2) _
            refine jWp.icmp (pc' := 46) mt rfl rfl (b32_id (by omega) (by omega)) (show b32 20 = 20 by decide) (fun h8 => ?_) (fun h8 => ?_)
            · have h8 : 20 < (t : Int) := h8
              refine jWp.blk mt 1 ?_
              show jWp 187 96 [some (jO m), some (jI (i1 : Int)), some (jI (j1 : Int)), some (jI (t : Int))] [jI (-9)] 0 0 (M1, w.2) _
              refine jWp.ireti mt rfl ⟨rfl, rfl⟩ rfl ?_
              try rw [show ((i1 : Nat) : Int).toNat = i1 from rfl, show ((j1 : Nat) : Int).toNat = j1 from rfl]
              refine ⟨fun c0 => ?_, fun c0 => ?_⟩
              all_goals first
              | (exfalso; omega)
              | exact ⟨rfl, rfl⟩
              | exact ⟨by rw [← hr, show 21 - t = 0 by omega]; rfl, hmq⟩
            · have h8 : (t : Int) ≤ 20 := h8
              refine jWp.blk mt 2 ?_
              show _ ∧ _ ∧ jWp 187 48 [some (jO m), some (jI (i1 : Int)), some (jI (j1 : Int)), some (jI (t : Int))] [jO m, jO m] 0 0 (M1, w.2) _
              refine ⟨rfl, rfl, ?_⟩
              refine jWp.getR (pc' := 51) (o := (m + 16)) mt rfl rfl (jtg hW.K0) hW.R16 ?_
              show jWp 187 51 [some (jO m), some (jI (i1 : Int)), some (jI (j1 : Int)), some (jI (t : Int))] [jO (m + 16), jO m] 0 0 (M1, w.2) _
              refine jWp.blk mt 2 ?_
              show jWp 187 53 [some (jO m), some (jI (i1 : Int)), some (jI (j1 : Int)), some (jI (t : Int))] [jI 2, jI (t : Int), jO (m + 16), jO m] 0 0 (M1, w.2) _
              refine jWp.irem (pc' := 54) mt rfl rfl (b32_id (by omega) (by omega)) (show b32 2 = 2 by decide) (by decide) ?_
              show jWp 187 54 [some (jO m), some (jI (i1 : Int)), some (jI (j1 : Int)), some (jI (t : Int))] [jI (Int.tmod (t : Int) 2), jO (m + 16), jO m] 0 0 (M1, w.2) _
              refine jWp.blk mt 1 ?_
              show jWp 187 55 [some (jO m), some (jI (i1 : Int)), some (jI (j1 : Int)), some (jI (t : Int))] [jI 1, jI (Int.tmod (t : Int) 2), jO (m + 16), jO m] 0 0 (M1, w.2) _
              refine jWp.icmp (pc' := 58) mt rfl rfl (b32_id (by omega) (by omega)) (show b32 1 = 1 by decide) (fun h9 => ?_) (fun h9 => ?_)
              · have h9 : (Int.tmod (t : Int) 2) ≠ 1 := h9
                refine jWp.blk mt 1 ?_
                show jWp 187 63 [some (jO m), some (jI (i1 : Int)), some (jI (j1 : Int)), some (jI (t : Int))] [jI (j1 : Int), jO (m + 16), jO m] 0 0 (M1, w.2) _
                refine jWp.callv (as := [jO m, jO (m + 16), jI (j1 : Int)]) (rest := []) mt rfl rfl rfl ⟨rfl, jtg hW.K0⟩ ?_
                refine jCall.mono (E_xany (w := (M1, w.2)) (o := 16) (n := n) (k := j1) hW hW.K16 hS1 (by omega)) (fun v9 w9 h9 => ?_)
                obtain ⟨hx10, hh⟩ := h9
                obtain ⟨M2, G9⟩ := w9
                have hg : G9 = w.2 := hx10.1
                subst hg
                have hmq2 : mq w m (M2, w.2) := mq_t hmq (mq_x (Or.inl rfl) hx10)
                rcases hh with ⟨rfl, hz⟩ | ⟨rfl, hzS, hz⟩
                · have hz' := hz
                  show jWp 187 66 [some (jO m), some (jI (i1 : Int)), some (jI (j1 : Int)), some (jI (t : Int))] [jI 1] 0 0 (M2, w.2) _
                  refine jWp.ifc (b := true) mt rfl (by decide) rfl ?_
                  show jWp 187 72 [some (jO m), some (jI (i1 : Int)), some (jI (j1 : Int)), some (jI (t : Int))] [] 0 0 (M2, w.2) _
                  refine jWp.blk mt 1 ?_
                  show _ ∧ jWp 187 73 [some (jO m), some (jI (i1 : Int)), some (jI (j1 : Int)), some (jI (t : Int))] [jO m] 0 0 (M2, w.2) _
                  refine ⟨rfl, ?_⟩
                  refine jWp.getR (pc' := 76) (o := (m + 1)) mt rfl rfl (jtg hW.K0) hW.R0 ?_
                  show jWp 187 76 [some (jO m), some (jI (i1 : Int)), some (jI (j1 : Int)), some (jI (t : Int))] [jO (m + 1)] 0 0 (M2, w.2) _
                  refine jWp.blk mt 1 ?_
                  show _ ∧ jWp 187 77 [some (jO m), some (jI (i1 : Int)), some (jI (j1 : Int)), some (jI (t : Int))] [jO m, jO (m + 1)] 0 0 (M2, w.2) _
                  refine ⟨rfl, ?_⟩
                  refine jWp.getR (pc' := 80) (o := (m + 16)) mt rfl rfl (jtg hW.K0) hW.R16 ?_
                  show jWp 187 80 [some (jO m), some (jI (i1 : Int)), some (jI (j1 : Int)), some (jI (t : Int))] [jO (m + 16), jO (m + 1)] 0 0 (M2, w.2) _
                  refine jWp.calls (as := [jO (m + 1), jO (m + 16)]) (rest := []) mt rfl rfl rfl rfl ?_
                  refine jCall.mono ((by have h := E_haveSame (w := (M2, w.2)) (q := m + 1) (p := m + 16) (n := n) hW.K1 hW.K16 (by show zS (M2 (m + 1)) n; rw [show M2 (m + 1) = w.1 (m + 1) from hmq2.2.1 _ (by omega)]; exact hS) (zxn_S hS1 (by omega) hz); rw [show ((M2, w.2) : jS).1 (m + 1) = w.1 (m + 1) from hmq2.2.1 _ (by omega)] at h; exact h)) (fun v9 w9 h9 => ?_)
                  rcases h9 with ⟨rfl, h9, h11⟩ | ⟨rfl, h9, h11⟩ <;> subst w9
                  · have h11 : zsame (w.1 (m + 1)) (M2 (m + 16)) n := h11
                    show jWp 187 83 [some (jO m), some (jI (i1 : Int)), some (jI (j1 : Int)), some (jI (t : Int))] [jI 1] 0 0 (M2, w.2) _
                    refine jWp.ifc (b := false) mt rfl (by decide) rfl ?_
                    show jWp 187 86 [some (jO m), some (jI (i1 : Int)), some (jI (j1 : Int)), some (jI (t : Int))] [] 0 0 (M2, w.2) _
                    refine jWp.blk mt 1 ?_
                    show jWp 187 87 [some (jO m), some (jI (i1 : Int)), some (jI (j1 : Int)), some (jI (t : Int))] [jI (t : Int)] 0 0 (M2, w.2) _
                    refine jWp.ireti mt rfl ⟨rfl, rfl⟩ rfl ?_
                    try rw [show ((i1 : Nat) : Int).toNat = i1 from rfl, show ((j1 : Nat) : Int).toNat = j1 from rfl]
                    refine ⟨fun c0 => ?_, fun c0 => ?_⟩
                    all_goals first
                    | (exfalso; omega)
                    | exact ⟨rfl, rfl⟩
                    | exact ⟨by rw [← hr, show 21 - t = (20 - t) + 1 by omega, zrF_yes (by first | (rw [if_pos (by omega)]; done) | (rw [if_neg (by omega)]; done)) hz.1 ((zsame_c hn4 (fun _ _ => rfl) (zxn_F (by omega) hz)).mp (by assumption))], hmq2⟩
                  · have h11 : ¬ (zsame (w.1 (m + 1)) (M2 (m + 16)) n) := h11
                    show jWp 187 83 [some (jO m), some (jI (i1 : Int)), some (jI (j1 : Int)), some (jI (t : Int))] [jI 0] 0 0 (M2, w.2) _
                    refine jWp.ifc (b := true) mt rfl (by decide) rfl ?_
                    show jWp 187 88 [some (jO m), some (jI (i1 : Int)), some (jI (j1 : Int)), some (jI (t : Int))] [] 0 0 (M2, w.2) _
                    refine jWp.blk mt 2 ?_
                    show jWp 187 40 [some (jO m), some (jI (i1 : Int)), some (jI (j1 : Int)), some (jI ((t : Int) + 1))] [] 0 0 (M2, w.2) _
                    refine jWp.le (l := [some (jO m), some (jI (i1 : Int)), some (jI (j1 : Int)), some (jI ((t : Int) + 1))]) (by exact ⟨rfl, rfl, rfl, rfl, trivial⟩) ?_
                    exact ih7 (t + 1) M2 (by omega) hmq2 (zxn_S hS1 (by omega) hz) (by rw [← hr, show 21 - t = (21 - (t + 1)) + 1 by omega, zrF_go (by first | (rw [if_pos (by omega)]; done) | (rw [if_neg (by omega)]; done)) hz.1 (fun g => absurd ((zsame_c hn4 (fun _ _ => rfl) (zxn_F (by omega) hz)).mpr g) (by assumption))]; exact zrF_c hn4 (by omega) (by omega) _ _ _ _ (zxn_F (by omega) hz)) (by omega)
                · have hz' := hz
                  show jWp 187 66 [some (jO m), some (jI (i1 : Int)), some (jI (j1 : Int)), some (jI (t : Int))] [jI 0] 0 0 (M2, w.2) _
                  refine jWp.ifc (b := false) mt rfl (by decide) rfl ?_
                  show jWp 187 69 [some (jO m), some (jI (i1 : Int)), some (jI (j1 : Int)), some (jI (t : Int))] [] 0 0 (M2, w.2) _
                  refine jWp.blk mt 1 ?_
                  show jWp 187 71 [some (jO m), some (jI (i1 : Int)), some (jI (j1 : Int)), some (jI (t : Int))] [jI (-9)] 0 0 (M2, w.2) _
                  refine jWp.ireti mt rfl ⟨rfl, rfl⟩ rfl ?_
                  try rw [show ((i1 : Nat) : Int).toNat = i1 from rfl, show ((j1 : Nat) : Int).toNat = j1 from rfl]
                  refine ⟨fun c0 => ?_, fun c0 => ?_⟩
                  all_goals first
                  | (exfalso; omega)
                  | exact ⟨rfl, rfl⟩
                  | exact ⟨by rw [← hr, show 21 - t = (20 - t) + 1 by omega, zrF_no (by first | (rw [if_pos (by omega)]; done) | (rw [if_neg (by omega)]; done)) hz], hmq2⟩
              · have h9 : (Int.tmod (t : Int) 2) = 1 := h9
                refine jWp.blk mt 2 ?_
                show jWp 187 63 [some (jO m), some (jI (i1 : Int)), some (jI (j1 : Int)), some (jI (t : Int))] [jI (i1 : Int), jO (m + 16), jO m] 0 0 (M1, w.2) _
                refine jWp.callv (as := [jO m, jO (m + 16), jI (i1 : Int)]) (rest := []) mt rfl rfl rfl ⟨rfl, jtg hW.K0⟩ ?_
                refine jCall.mono (E_xany (w := (M1, w.2)) (o := 16) (n := n) (k := i1) hW hW.K16 hS1 (by omega)) (fun v9 w9 h9 => ?_)
                obtain ⟨hx12, hh⟩ := h9
                obtain ⟨M2, G9⟩ := w9
                have hg : G9 = w.2 := hx12.1
                subst hg
                have hmq2 : mq w m (M2, w.2) := mq_t hmq (mq_x (Or.inl rfl) hx12)
                rcases hh with ⟨rfl, hz⟩ | ⟨rfl, hzS, hz⟩
                · have hz' := hz
                  show jWp 187 66 [some (jO m), some (jI (i1 : Int)), some (jI (j1 : Int)), some (jI (t : Int))] [jI 1] 0 0 (M2, w.2) _
                  refine jWp.ifc (b := true) mt rfl (by decide) rfl ?_
                  show jWp 187 72 [some (jO m), some (jI (i1 : Int)), some (jI (j1 : Int)), some (jI (t : Int))] [] 0 0 (M2, w.2) _
                  refine jWp.blk mt 1 ?_
                  show _ ∧ jWp 187 73 [some (jO m), some (jI (i1 : Int)), some (jI (j1 : Int)), some (jI (t : Int))] [jO m] 0 0 (M2, w.2) _
                  refine ⟨rfl, ?_⟩
                  refine jWp.getR (pc' := 76) (o := (m + 1)) mt rfl rfl (jtg hW.K0) hW.R0 ?_
                  show jWp 187 76 [some (jO m), some (jI (i1 : Int)), some (jI (j1 : Int)), some (jI (t : Int))] [jO (m + 1)] 0 0 (M2, w.2) _
                  refine jWp.blk mt 1 ?_
                  show _ ∧ jWp 187 77 [some (jO m), some (jI (i1 : Int)), some (jI (j1 : Int)), some (jI (t : Int))] [jO m, jO (m + 1)] 0 0 (M2, w.2) _
                  refine ⟨rfl, ?_⟩
                  refine jWp.getR (pc' := 80) (o := (m + 16)) mt rfl rfl (jtg hW.K0) hW.R16 ?_
                  show jWp 187 80 [some (jO m), some (jI (i1 : Int)), some (jI (j1 : Int)), some (jI (t : Int))] [jO (m + 16), jO (m + 1)] 0 0 (M2, w.2) _
                  refine jWp.calls (as := [jO (m + 1), jO (m + 16)]) (rest := []) mt rfl rfl rfl rfl ?_
                  refine jCall.mono ((by have h := E_haveSame (w := (M2, w.2)) (q := m + 1) (p := m + 16) (n := n) hW.K1 hW.K16 (by show zS (M2 (m + 1)) n; rw [show M2 (m + 1) = w.1 (m + 1) from hmq2.2.1 _ (by omega)]; exact hS) (zxn_S hS1 (by omega) hz); rw [show ((M2, w.2) : jS).1 (m + 1) = w.1 (m + 1) from hmq2.2.1 _ (by omega)] at h; exact h)) (fun v9 w9 h9 => ?_)
                  rcases h9 with ⟨rfl, h9, h13⟩ | ⟨rfl, h9, h13⟩ <;> subst w9
                  · have h13 : zsame (w.1 (m + 1)) (M2 (m + 16)) n := h13
                    show jWp 187 83 [some (jO m), some (jI (i1 : Int)), some (jI (j1 : Int)), some (jI (t : Int))] [jI 1] 0 0 (M2, w.2) _
                    refine jWp.ifc (b := false) mt rfl (by decide) rfl ?_
                    show jWp 187 86 [some (jO m), some (jI (i1 : Int)), some (jI (j1 : Int)), some (jI (t : Int))] [] 0 0 (M2, w.2) _
                    refine jWp.blk mt 1 ?_
                    show jWp 187 87 [some (jO m), some (jI (i1 : Int)), some (jI (j1 : Int)), some (jI (t : Int))] [jI (t : Int)] 0 0 (M2, w.2) _
                    refine jWp.ireti mt rfl ⟨rfl, rfl⟩ rfl ?_
                    try rw [show ((i1 : Nat) : Int).toNat = i1 from rfl, show ((j1 : Nat) : Int).toNat = j1 from rfl]
                    refine ⟨fun c0 => ?_, fun c0 => ?_⟩
                    all_goals first
                    | (exfalso; omega)
                    | exact ⟨rfl, rfl⟩
                    | exact ⟨by rw [← hr, show 21 - t = (20 - t) + 1 by omega, zrF_yes (by first | (rw [if_pos (by omega)]; done) | (rw [if_neg (by omega)]; done)) hz.1 ((zsame_c hn4 (fun _ _ => rfl) (zxn_F (by omega) hz)).mp (by assumption))], hmq2⟩
                  · have h13 : ¬ (zsame (w.1 (m + 1)) (M2 (m + 16)) n) := h13
                    show jWp 187 83 [some (jO m), some (jI (i1 : Int)), some (jI (j1 : Int)), some (jI (t : Int))] [jI 0] 0 0 (M2, w.2) _
                    refine jWp.ifc (b := true) mt rfl (by decide) rfl ?_
                    show jWp 187 88 [some (jO m), some (jI (i1 : Int)), some (jI (j1 : Int)), some (jI (t : Int))] [] 0 0 (M2, w.2) _
                    refine jWp.blk mt 2 ?_
                    show jWp 187 40 [some (jO m), some (jI (i1 : Int)), some (jI (j1 : Int)), some (jI ((t : Int) + 1))] [] 0 0 (M2, w.2) _
                    refine jWp.le (l := [some (jO m), some (jI (i1 : Int)), some (jI (j1 : Int)), some (jI ((t : Int) + 1))]) (by exact ⟨rfl, rfl, rfl, rfl, trivial⟩) ?_
                    exact ih7 (t + 1) M2 (by omega) hmq2 (zxn_S hS1 (by omega) hz) (by rw [← hr, show 21 - t = (21 - (t + 1)) + 1 by omega, zrF_go (by first | (rw [if_pos (by omega)]; done) | (rw [if_neg (by omega)]; done)) hz.1 (fun g => absurd ((zsame_c hn4 (fun _ _ => rfl) (zxn_F (by omega) hz)).mpr g) (by assumption))]; exact zrF_c hn4 (by omega) (by omega) _ _ _ _ (zxn_F (by omega) hz)) (by omega)
                · have hz' := hz
                  show jWp 187 66 [some (jO m), some (jI (i1 : Int)), some (jI (j1 : Int)), some (jI (t : Int))] [jI 0] 0 0 (M2, w.2) _
                  refine jWp.ifc (b := false) mt rfl (by decide) rfl ?_
                  show jWp 187 69 [some (jO m), some (jI (i1 : Int)), some (jI (j1 : Int)), some (jI (t : Int))] [] 0 0 (M2, w.2) _
                  refine jWp.blk mt 1 ?_
                  show jWp 187 71 [some (jO m), some (jI (i1 : Int)), some (jI (j1 : Int)), some (jI (t : Int))] [jI (-9)] 0 0 (M2, w.2) _
                  refine jWp.ireti mt rfl ⟨rfl, rfl⟩ rfl ?_
                  try rw [show ((i1 : Nat) : Int).toNat = i1 from rfl, show ((j1 : Nat) : Int).toNat = j1 from rfl]
                  refine ⟨fun c0 => ?_, fun c0 => ?_⟩
                  all_goals first
                  | (exfalso; omega)
                  | exact ⟨rfl, rfl⟩
                  | exact ⟨by rw [← hr, show 21 - t = (20 - t) + 1 by omega, zrF_no (by first | (rw [if_pos (by omega)]; done) | (rw [if_neg (by omega)]; done)) hz], hmq2⟩
        refine jWp.le (l := [some (jO m), some (jI (i1 : Int)), some (jI (j1 : Int)), some (jI 1)]) (by exact ⟨rfl, rfl, rfl, rfl, trivial⟩) ?_
        exact lp6 _ 1 (kA w (m + 16) T4).1 (by omega) (mq_A mq_0 (by omega)) (by rw [kA_fs]; exact zeq_S hT5 hS) (by rw [kA_fs]; exact zrF_c hn4 (by omega) (by omega) 20 1 _ _ hT5) (Nat.lt_succ_self _)
      · have h3 : (i1 : Int) = (j1 : Int) := h3
        refine jWp.blk mt 2 ?_
        show _ ∧ jWp 187 23 [some (jO m), some (jI (i1 : Int)), some (jI (j1 : Int)), none] [jI (-1), jO m] 0 0 w _
        refine ⟨rfl, ?_⟩
        refine jWp.callv (as := [jO m, jI (-1)]) (rest := []) mt rfl rfl rfl ⟨rfl, jtg hW.K0⟩ ?_
        refine jCall.mono (E_refuses (w := w) (j := 1) hW (by decide) (by decide)) (fun v9 w9 h9 => ?_)
        obtain ⟨rfl, h9⟩ := h9
        subst h9
        show jWp 187 26 [some (jO m), some (jI (i1 : Int)), some (jI (j1 : Int)), none] [jI (-1)] 0 0 (jW w (m + 3) 1 ((w.1 (m + 3) 1) + 1)) _
        refine jWp.ireti mt rfl ⟨rfl, rfl⟩ rfl ?_
        refine ⟨fun c0 => ?_, fun c0 => ?_⟩
        all_goals first
        | (exfalso; omega)
        | exact ⟨rfl, rfl⟩
    · have h2 : ¬ (0 ≤ j ∧ j < (n : Int)) := h2
      show jWp 187 13 [some (jO m), some (jI (i1 : Int)), some (jI j), none] [jI 0] 0 0 w _
      refine jWp.ifc (b := true) mt rfl (by decide) rfl ?_
      show jWp 187 21 [some (jO m), some (jI (i1 : Int)), some (jI j), none] [] 0 0 w _
      refine jWp.blk mt 2 ?_
      show _ ∧ jWp 187 23 [some (jO m), some (jI (i1 : Int)), some (jI j), none] [jI (-1), jO m] 0 0 w _
      refine ⟨rfl, ?_⟩
      refine jWp.callv (as := [jO m, jI (-1)]) (rest := []) mt rfl rfl rfl ⟨rfl, jtg hW.K0⟩ ?_
      refine jCall.mono (E_refuses (w := w) (j := 1) hW (by decide) (by decide)) (fun v9 w9 h9 => ?_)
      obtain ⟨rfl, h9⟩ := h9
      subst h9
      show jWp 187 26 [some (jO m), some (jI (i1 : Int)), some (jI j), none] [jI (-1)] 0 0 (jW w (m + 3) 1 ((w.1 (m + 3) 1) + 1)) _
      refine jWp.ireti mt rfl ⟨rfl, rfl⟩ rfl ?_
      refine ⟨fun c0 => ?_, fun c0 => ?_⟩
      all_goals first
      | (exfalso; omega)
      | exact ⟨rfl, rfl⟩
  · have h1 : ¬ (0 ≤ i ∧ i < (n : Int)) := h1
    show jWp 187 5 [some (jO m), some (jI i), some (jI j), none] [jI 0] 0 0 w _
    refine jWp.ifc (b := true) mt rfl (by decide) rfl ?_
    show jWp 187 21 [some (jO m), some (jI i), some (jI j), none] [] 0 0 w _
    refine jWp.blk mt 2 ?_
    show _ ∧ jWp 187 23 [some (jO m), some (jI i), some (jI j), none] [jI (-1), jO m] 0 0 w _
    refine ⟨rfl, ?_⟩
    refine jWp.callv (as := [jO m, jI (-1)]) (rest := []) mt rfl rfl rfl ⟨rfl, jtg hW.K0⟩ ?_
    refine jCall.mono (E_refuses (w := w) (j := 1) hW (by decide) (by decide)) (fun v9 w9 h9 => ?_)
    obtain ⟨rfl, h9⟩ := h9
    subst h9
    show jWp 187 26 [some (jO m), some (jI i), some (jI j), none] [jI (-1)] 0 0 (jW w (m + 3) 1 ((w.1 (m + 3) 1) + 1)) _
    refine jWp.ireti mt rfl ⟨rfl, rfl⟩ rfl ?_
    refine ⟨fun c0 => ?_, fun c0 => ?_⟩
    all_goals first
    | (exfalso; omega)
    | exact ⟨rfl, rfl⟩
