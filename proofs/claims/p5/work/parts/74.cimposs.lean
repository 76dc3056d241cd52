set_option maxHeartbeats 4000000 in
set_option maxRecDepth 20000 in
theorem C_impossible {w : jS} {t tl F : Nat} {τ : Nat → Int} (hk8 : w.2.1 t = (8, 0)) (hkl : w.2.1 tl = (100, 72)) (hrl : w.2.2.1 t 1 = some tl) (hF : w.1 t 0 = (F : Int)) (hF72 : F ≤ 72) (hτ : w.1 tl = τ) (hL : ∀ j, j < F → 0 ≤ τ j ∧ τ j ≤ 255) {s sc e f1 f2 n : Nat} {q0 : Nat → Int} (hks : w.2.1 s = (6, 0)) (hkc : w.2.1 sc = (100, 44)) (hrc : w.2.2.1 s 1 = some sc) (hn0 : w.1 s 0 = (n : Int)) (hke : w.2.1 e = (1, 0)) (hr1 : w.2.2.1 e 0 = some f1) (hr2 : w.2.2.1 e 1 = some f2) (hk1 : w.2.1 f1 = (2, 0)) (hk2 : w.2.1 f2 = (2, 0)) (hff : f1 ≠ f2) (hQ : zQ q0 n) (hRR : cR False (w.1 sc) q0 n) (hok : 0 ≤ (zw1 τ F 73 0 0)) : jCall 83 [jO t, jO s, jO e] w (fun v w1 => (w1.2 = w.2 ∧ ∀ a, a ≠ s → a ≠ sc → a ≠ f1 → a ≠ f2 → w1.1 a = w.1 a) ∧ (∀ b, (zw2 τ F 73 0 q0) = .inr b → v = some (jI (b : Int))) ∧ ∀ q', (zw2 τ F 73 0 q0) = .inl q' → v = some (jI (-1)) ∧ ∃ n', zQ q' n' ∧ w1.1 s 0 = ((n' : Nat) : Int) ∧ cR False (w1.1 sc) q' n') := by
  have mt : jtb 83 = jT83 := rfl
  have hsc : s ≠ sc := kne hks hkc (by decide)
  have h1s : f1 ≠ s := kne hk1 hks (by decide)
  have h1c : f1 ≠ sc := kne hk1 hkc (by decide)
  have h2s : f2 ≠ s := kne hk2 hks (by decide)
  have h2c : f2 ≠ sc := kne hk2 hkc (by decide)
  have hts : t ≠ s := kne hk8 hks (by decide)
  have htc : t ≠ sc := kne hk8 hkc (by decide)
  have ht1 : t ≠ f1 := kne hk8 hk1 (by decide)
  have ht2 : t ≠ f2 := kne hk8 hk2 (by decide)
  have hls : tl ≠ s := kne hkl hks (by decide)
  have hlc : tl ≠ sc := kne2 hkl hkc (by decide)
  have hl1 : tl ≠ f1 := kne hkl hk1 (by decide)
  have hl2 : tl ≠ f2 := kne hkl hk2 (by decide)
  show jWp 83 0 [some (jO t), some (jO s), some (jO e), none, none] [] 0 0 w _
  refine jWp.blk mt 4 ?_
  show jWp 83 5 [some (jO t), some (jO s), some (jO e), some (jI 0), some (jI 0)] [] 0 0 w _
  have lp1 : ∀ (N : Nat) (i p f k n1 : Nat) (q : Nat → Int) (M1 : Nat → Nat → Int) (hi : i ≤ p ∧ p ≤ F) (hfr : ∀ a, a ≠ s → a ≠ sc → a ≠ f1 → a ≠ f2 → M1 a = w.1 a) (hsz : M1 s 0 = (n1 : Int)) (hcr : cR False (M1 sc) q n1) (hQ1 : zQ q n1) (hr : zw2 τ F f p q = (zw2 τ F 73 0 q0)) (hfu : F + 1 ≤ p + f) (hw1 : (p < F ∨ p = 0) → 0 ≤ zw1 τ F f p k), 80 - p < N → jWp 83 5 [some (jO t), some (jO s), some (jO e), some (jI (p : Int)), some (jI (i : Int))] [] 0 0 (M1, w.2) (fun v w1 => (w1.2 = w.2 ∧ ∀ a, a ≠ s → a ≠ sc → a ≠ f1 → a ≠ f2 → w1.1 a = w.1 a) ∧ (∀ b, (zw2 τ F 73 0 q0) = .inr b → v = some (jI (b : Int))) ∧ ∀ q', (zw2 τ F 73 0 q0) = .inl q' → v = some (jI (-1)) ∧ ∃ n', zQ q' n' ∧ w1.1 s 0 = ((n' : Nat) : Int) ∧ cR False (w1.1 sc) q' n') := by
    intro N
    induction N with
    | zero => intro i p f k n1 q M1 hi hfr hsz hcr hQ1 hr hfu hw1 hm; omega
    | succ N ih2 =>
      intro i p f k n1 q M1 hi hfr hsz hcr hQ1 hr hfu hw1 hm
      have hk7 : ∃ b7 : Nat, (p < F → zbh τ F p = (b7 : Int)) ∧ (p < F → b7 < F → 0 ≤ zw1 τ F (f - 1) b7 (k + 1)) := by
        by_cases g : p < F
        · have h := hw1 (Or.inl g)
          rw [show f = (f - 1) + 1 by omega] at h
          obtain ⟨b, x, y⟩ := zw1_k h
          exact ⟨b, fun _ => x, fun _ => y⟩
        · exact ⟨0, fun h => absurd h g, fun h => absurd h g⟩
      obtain ⟨b7, hb7, hw7⟩ := hk7
      have hc7 := fun g : p < F => zbh_c (hb7 g)
      refine jWp.blk mt 2 ?_
      show jWp 83 9 [some (jO t), some (jO s), some (jO e), some (jI (p : Int)), some (jI (i : Int))] [jI 72, jI (i : Int)] 0 0 (M1, w.2) _
      refine jWp.icmp (pc' := 12) mt rfl rfl (b32_id (by omega) (by omega)) (show b32 72 = 72 by decide) (fun h3 => ?_) (fun h3 => ?_)
      · have h3 : 72 ≤ (i : Int) := h3
        refine jWp.blk mt 1 ?_
        show jWp 83 49 [some (jO t), some (jO s), some (jO e), some (jI (p : Int)), some (jI (i : Int))] [jI (-1)] 0 0 (M1, w.2) _
        refine jWp.ireti mt rfl ⟨rfl, rfl⟩ rfl ?_
        refine ⟨⟨rfl, hfr⟩, fun b hb => ?_, fun q' hq' => ?_⟩
        · rw [← hr, show f = (f - 1) + 1 by omega, zw2_e (by omega)] at hb
          cases hb
        · rw [← hr, show f = (f - 1) + 1 by omega, zw2_e (by omega)] at hq'
          cases hq'
          exact ⟨rfl, n1, hQ1, hsz, hcr⟩
      · have h3 : (i : Int) < 72 := h3
        refine jWp.blk mt 1 ?_
        show jWp 83 13 [some (jO t), some (jO s), some (jO e), some (jI (p : Int)), some (jI (i : Int))] [jI (p : Int)] 0 0 (M1, w.2) _
        refine jWp.ifz (pc' := 16) mt rfl rfl (b32_id (by omega) (by omega)) (fun h4 => ?_) (fun h4 => ?_)
        · have h4 : (p : Int) < 0 := h4
          refine jWp.blk mt 1 ?_
          show jWp 83 49 [some (jO t), some (jO s), some (jO e), some (jI (p : Int)), some (jI (i : Int))] [jI (-1)] 0 0 (M1, w.2) _
          refine jWp.ireti mt rfl ⟨rfl, rfl⟩ rfl ?_
          refine ⟨⟨rfl, hfr⟩, fun b hb => ?_, fun q' hq' => ?_⟩
          · rw [← hr, show f = (f - 1) + 1 by omega, zw2_e (by omega)] at hb
            cases hb
          · rw [← hr, show f = (f - 1) + 1 by omega, zw2_e (by omega)] at hq'
            cases hq'
            exact ⟨rfl, n1, hQ1, hsz, hcr⟩
        · have h4 : 0 ≤ (p : Int) := h4
          refine jWp.blk mt 2 ?_
          show _ ∧ jWp 83 18 [some (jO t), some (jO s), some (jO e), some (jI (p : Int)), some (jI (i : Int))] [jO t, jI (p : Int)] 0 0 (M1, w.2) _
          refine ⟨rfl, ?_⟩
          refine jWp.getI (pc' := 21) mt rfl rfl (jtg hk8) ?_
          rw [show ((M1, w.2).1 t 0) = (F : Int) from ((congrFun (hfr t hts htc ht1 ht2) 0).trans hF)]
          show jWp 83 21 [some (jO t), some (jO s), some (jO e), some (jI (p : Int)), some (jI (i : Int))] [jI (F : Int), jI (p : Int)] 0 0 (M1, w.2) _
          refine jWp.icmp (pc' := 24) mt rfl rfl (b32_id (by omega) (by omega)) (b32_id (by omega) (by omega)) (fun h5 => ?_) (fun h5 => ?_)
          · have h5 : (F : Int) ≤ (p : Int) := h5
            refine jWp.blk mt 1 ?_
            show jWp 83 49 [some (jO t), some (jO s), some (jO e), some (jI (p : Int)), some (jI (i : Int))] [jI (-1)] 0 0 (M1, w.2) _
            refine jWp.ireti mt rfl ⟨rfl, rfl⟩ rfl ?_
            refine ⟨⟨rfl, hfr⟩, fun b hb => ?_, fun q' hq' => ?_⟩
            · rw [← hr, show f = (f - 1) + 1 by omega, zw2_e (by omega)] at hb
              cases hb
            · rw [← hr, show f = (f - 1) + 1 by omega, zw2_e (by omega)] at hq'
              cases hq'
              exact ⟨rfl, n1, hQ1, hsz, hcr⟩
          · have h5 : (p : Int) < (F : Int) := h5
            refine jWp.blk mt 4 ?_
            show _ ∧ _ ∧ _ ∧ jWp 83 28 [some (jO t), some (jO s), some (jO e), some (jI (p : Int)), some (jI (i : Int))] [jO e, jO s, jI (p : Int), jO t] 0 0 (M1, w.2) _
            refine ⟨rfl, rfl, rfl, ?_⟩
            refine jWp.callv (as := [jO t, jI (p : Int), jO s, jO e]) (rest := []) mt rfl rfl rfl ⟨rfl, jtg hk8⟩ ?_
            refine jCall.mono (C_done (w := (M1, w.2)) (t := t) (tl := tl) (F := F) (p := p) (τ := τ) (s := s) (sc := sc) (e := e) (f1 := f1) (f2 := f2) (n := n1) (q := q) hk8 hkl hrl ((congrFun (hfr t hts htc ht1 ht2) 0).trans hF) hF72 ((hfr tl hls hlc hl1 hl2).trans hτ) hL hks hkc hrc hsz hke hr1 hr2 hk1 hk2 hff hQ1 hcr (by have := hb7 (by omega); omega) (by omega)) (fun v9 w9 h9 => ?_)
            obtain ⟨hf9, hh⟩ := h9
            obtain ⟨M2, G9⟩ := w9
            have hg : G9 = w.2 := hf9.1
            subst hg
            have hfr2 : ∀ a, a ≠ s → a ≠ sc → a ≠ f1 → a ≠ f2 → M2 a = w.1 a := fun a g1 g2 g3 g4 => (hf9.2 a g1 g2 g3 g4).trans (hfr a g1 g2 g3 g4)
            rcases hh with ⟨rfl, q2, n2, hd, hQ2, hm0, hcr2⟩ | ⟨rfl, hd⟩
            · have hd' := hd
              show jWp 83 31 [some (jO t), some (jO s), some (jO e), some (jI (p : Int)), some (jI (i : Int))] [jI 1] 0 0 (M2, w.2) _
              refine jWp.ifc (b := true) mt rfl (by decide) rfl ?_
              show jWp 83 36 [some (jO t), some (jO s), some (jO e), some (jI (p : Int)), some (jI (i : Int))] [] 0 0 (M2, w.2) _
              refine jWp.blk mt 2 ?_
              show _ ∧ jWp 83 38 [some (jO t), some (jO s), some (jO e), some (jI (p : Int)), some (jI (i : Int))] [jI (p : Int), jO t] 0 0 (M2, w.2) _
              refine ⟨rfl, ?_⟩
              refine jWp.callv (as := [jO t, jI (p : Int)]) (rest := []) mt rfl rfl rfl ⟨rfl, jtg hk8⟩ ?_
              refine jCall.mono (C_behind (w := (M2, w.2)) (t := t) (tl := tl) (F := F) (τ := τ) hk8 hkl hrl ((congrFun (hfr2 t hts htc ht1 ht2) 0).trans hF) hF72 ((hfr2 tl hls hlc hl1 hl2).trans hτ) hL (p := p) (by omega)) (fun v9 w9 h9 => ?_)
              obtain ⟨rfl, h9⟩ := h9
              subst w9
              rw [hb7 (by omega)]
              show jWp 83 41 [some (jO t), some (jO s), some (jO e), some (jI (p : Int)), some (jI (i : Int))] [jI (b7 : Int)] 0 0 (M2, w.2) _
              refine jWp.blk mt 3 ?_
              show jWp 83 5 [some (jO t), some (jO s), some (jO e), some (jI (b7 : Int)), some (jI ((i : Int) + 1))] [] 0 0 (M2, w.2) _
              refine jWp.le (l := [some (jO t), some (jO s), some (jO e), some (jI (b7 : Int)), some (jI ((i : Int) + 1))]) (by exact ⟨rfl, rfl, rfl, rfl, rfl, trivial⟩) ?_
              exact ih2 (i + 1) b7 (f - 1) (k + 1) n2 q2 M2 (by have := hc7 (by omega); omega) hfr2 hm0 hcr2 hQ2 (by rw [← hr, show f = (f - 1) + 1 by omega, zw2_g (by omega) (hb7 (by omega)) hd]; rfl) (by have := hc7 (by omega); omega) (fun g => hw7 (by omega) (by have := hc7 (by omega); omega)) (by have := hc7 (by omega); omega)
            · have hd' := hd
              show jWp 83 31 [some (jO t), some (jO s), some (jO e), some (jI (p : Int)), some (jI (i : Int))] [jI 0] 0 0 (M2, w.2) _
              refine jWp.ifc (b := false) mt rfl (by decide) rfl ?_
              show jWp 83 34 [some (jO t), some (jO s), some (jO e), some (jI (p : Int)), some (jI (i : Int))] [] 0 0 (M2, w.2) _
              refine jWp.blk mt 1 ?_
              show jWp 83 35 [some (jO t), some (jO s), some (jO e), some (jI (p : Int)), some (jI (i : Int))] [jI (p : Int)] 0 0 (M2, w.2) _
              refine jWp.ireti mt rfl ⟨rfl, rfl⟩ rfl ?_
              refine ⟨⟨rfl, hfr2⟩, fun b hb => ?_, fun q' hq' => ?_⟩
              · rw [← hr, show f = (f - 1) + 1 by omega, zw2_f (by omega) (by have := hb7 (by omega); omega) hd] at hb
                cases hb
                rfl
              · rw [← hr, show f = (f - 1) + 1 by omega, zw2_f (by omega) (by have := hb7 (by omega); omega) hd] at hq'
                cases hq'
  refine jWp.le (l := [some (jO t), some (jO s), some (jO e), some (jI 0), some (jI 0)]) (by exact ⟨rfl, rfl, rfl, rfl, rfl, trivial⟩) ?_
  exact lp1 _ 0 0 73 0 n q0 w.1 (by omega) (fun a _ _ _ _ => rfl) hn0 hRR hQ rfl (by omega) (fun _ => hok) (Nat.lt_succ_self _)
