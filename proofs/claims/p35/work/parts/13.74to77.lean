section
set_option maxHeartbeats 4000000 in
set_option maxRecDepth 20000 in
theorem C_impossible {w : jS} {t tl F : Nat} {τ : Nat → Int} (hk8 : w.2.1 t = (8, 0)) (hkl : w.2.1 tl = (100, 72)) (hrl : w.2.2.1 t 1 = some tl) (hF : w.1 t 0 = (F : Int)) (hF72 : F ≤ 72) (hτ : w.1 tl = τ) (hL : ∀ j, j < F → 0 ≤ τ j ∧ τ j ≤ 255) {s sc e f1 f2 n : Nat} {q0 : Nat → Int} (hks : w.2.1 s = (6, 0)) (hkc : w.2.1 sc = (100, 44)) (hrc : w.2.2.1 s 1 = some sc) (hn0 : w.1 s 0 = (n : Int)) (hke : w.2.1 e = (1, 0)) (hr1 : w.2.2.1 e 0 = some f1) (hr2 : w.2.2.1 e 1 = some f2) (hk1 : w.2.1 f1 = (2, 0)) (hk2 : w.2.1 f2 = (2, 0)) (hff : f1 ≠ f2) (hQ : zQ q0 n) (hRR : cR False (w.1 sc) q0 n) (hok : 0 ≤ (zw1 τ F 73 0 0)) : jCall 83 [jO t, jO s, jO e] w (fun v w1 => (w1.2 = w.2 ∧ ∀ a, a ≠ s → a ≠ sc → a ≠ f1 → a ≠ f2 → w1.1 a = w.1 a) ∧ (∀ b, (zw2 τ F 73 0 q0) = .inr b → v = some (jI (b : Int))) ∧ ∀ q', (zw2 τ F 73 0 q0) = .inl q' → v = some (jI (-1)) ∧ ∃ n', zQ q' n' ∧ w1.1 s 0 = ((n' : Nat) : Int) ∧ cR False (w1.1 sc) q' n') := by
  have mt : jtb 83 = jT83 := rfl
  have hsc : s ≠ sc := kne hks hkc (by decide)
  have h1s : f1 ≠ s := kne hk1 hks (by decide)
  have h1c : f1 ≠ sc := kne hk1 hkc (by decide)
  have h2s : f2 ≠ s := kne hk2 hks (by decide)
  have h2c : f2 ≠ sc := kne hk2 hkc (by decide)
  have hts : t ≠ s := kne hk8 hks (by decide)
  have htc : t ≠ sc := kne hk8 hkc (by decide)
  have ht1 : t ≠ f1 := kne hk8 hk1 (by decide)
  have ht2 : t ≠ f2 := kne hk8 hk2 (by decide)
  have hls : tl ≠ s := kne hkl hks (by decide)
  have hlc : tl ≠ sc := kne2 hkl hkc (by decide)
  have hl1 : tl ≠ f1 := kne hkl hk1 (by decide)
  have hl2 : tl ≠ f2 := kne hkl hk2 (by decide)
  show jWp 83 0 [some (jO t), some (jO s), some (jO e), none, none] [] 0 0 w _
  refine jWp.blk mt 4 ?_
  show jWp 83 5 [some (jO t), some (jO s), some (jO e), some (jI 0), some (jI 0)] [] 0 0 w _
  have lp1 : ∀ (N : Nat) (i p f k n1 : Nat) (q : Nat → Int) (M1 : Nat → Nat → Int) (hi : i ≤ p ∧ p ≤ F) (hfr : ∀ a, a ≠ s → a ≠ sc → a ≠ f1 → a ≠ f2 → M1 a = w.1 a) (hsz : M1 s 0 = (n1 : Int)) (hcr : cR False (M1 sc) q n1) (hQ1 : zQ q n1) (hr : zw2 τ F f p q = (zw2 τ F 73 0 q0)) (hfu : F + 1 ≤ p + f) (hw1 : (p < F ∨ p = 0) → 0 ≤ zw1 τ F f p k), 80 - p < N → jWp 83 5 [some (jO t), some (jO s), some (jO e), some (jI (p : Int)), some (jI (i : Int))] [] 0 0 (M1, w.2) (fun v w1 => (w1.2 = w.2 ∧ ∀ a, a ≠ s → a ≠ sc → a ≠ f1 → a ≠ f2 → w1.1 a = w.1 a) ∧ (∀ b, (zw2 τ F 73 0 q0) = .inr b → v = some (jI (b : Int))) ∧ ∀ q', (zw2 τ F 73 0 q0) = .inl q' → v = some (jI (-1)) ∧ ∃ n', zQ q' n' ∧ w1.1 s 0 = ((n' : Nat) : Int) ∧ cR False (w1.1 sc) q' n') := by
    intro N
    induction N with
    | zero => intro i p f k n1 q M1 hi hfr hsz hcr hQ1 hr hfu hw1 hm; omega
    | succ N ih2 =>
      intro i p f k n1 q M1 hi hfr hsz hcr hQ1 hr hfu hw1 hm
      have hk7 : ∃ b7 : Nat, (p < F → zbh τ F p = (b7 : Int)) ∧ (p < F → b7 < F → 0 ≤ zw1 τ F (f - 1) b7 (k + 1)) := by
        by_cases g : p < F
        · have h := hw1 (Or.inl g)
          rw [show f = (f - 1) + 1 by omega] at h
          obtain ⟨b, x, y⟩ := zw1_k h
          exact ⟨b, fun _ => x, fun _ => y⟩
        · exact ⟨0, fun h => absurd h g, fun h => absurd h g⟩
      obtain ⟨b7, hb7, hw7⟩ := hk7
      have hc7 := fun g : p < F => zbh_c (hb7 g)
      refine jWp.blk mt 2 ?_
      show jWp 83 9 [some (jO t), some (jO s), some (jO e), some (jI (p : Int)), some (jI (i : Int))] [jI 72, jI (i : Int)] 0 0 (M1, w.2) _
      refine jWp.icmp (pc' := 12) mt rfl rfl (b32_id (by omega) (by omega)) (show b32 72 = 72 by decide) (fun h3 => ?_) (fun h3 => ?_)
      · have h3 : 72 ≤ (i : Int) := h3
        refine jWp.blk mt 1 ?_
        show jWp 83 49 [some (jO t), some (jO s), some (jO e), some (jI (p : Int)), some (jI (i : Int))] [jI (-1)] 0 0 (M1, w.2) _
        refine jWp.ireti mt rfl ⟨rfl, rfl⟩ rfl ?_
        refine ⟨⟨rfl, hfr⟩, fun b hb => ?_, fun q' hq' => ?_⟩
        · rw [← hr, show f = (f - 1) + 1 by omega, zw2_e (by omega)] at hb
          cases hb
        · rw [← hr, show f = (f - 1) + 1 by omega, zw2_e (by omega)] at hq'
          cases hq'
          exact ⟨rfl, n1, hQ1, hsz, hcr⟩
      · have h3 : (i : Int) < 72 := h3
        refine jWp.blk mt 1 ?_
        show jWp 83 13 [some (jO t), some (jO s), some (jO e), some (jI (p : Int)), some (jI (i : Int))] [jI (p : Int)] 0 0 (M1, w.2) _
        refine jWp.ifz (pc' := 16) mt rfl rfl (b32_id (by omega) (by omega)) (fun h4 => ?_) (fun h4 => ?_)
        · have h4 : (p : Int) < 0 := h4
          refine jWp.blk mt 1 ?_
          show jWp 83 49 [some (jO t), some (jO s), some (jO e), some (jI (p : Int)), some (jI (i : Int))] [jI (-1)] 0 0 (M1, w.2) _
          refine jWp.ireti mt rfl ⟨rfl, rfl⟩ rfl ?_
          refine ⟨⟨rfl, hfr⟩, fun b hb => ?_, fun q' hq' => ?_⟩
          · rw [← hr, show f = (f - 1) + 1 by omega, zw2_e (by omega)] at hb
            cases hb
          · rw [← hr, show f = (f - 1) + 1 by omega, zw2_e (by omega)] at hq'
            cases hq'
            exact ⟨rfl, n1, hQ1, hsz, hcr⟩
        · have h4 : 0 ≤ (p : Int) := h4
          refine jWp.blk mt 2 ?_
          show _ ∧ jWp 83 18 [some (jO t), some (jO s), some (jO e), some (jI (p : Int)), some (jI (i : Int))] [jO t, jI (p : Int)] 0 0 (M1, w.2) _
          refine ⟨rfl, ?_⟩
          refine jWp.getI (pc' := 21) mt rfl rfl (jtg hk8) ?_
          rw [show ((M1, w.2).1 t 0) = (F : Int) from ((congrFun (hfr t hts htc ht1 ht2) 0).trans hF)]
          show jWp 83 21 [some (jO t), some (jO s), some (jO e), some (jI (p : Int)), some (jI (i : Int))] [jI (F : Int), jI (p : Int)] 0 0 (M1, w.2) _
          refine jWp.icmp (pc' := 24) mt rfl rfl (b32_id (by omega) (by omega)) (b32_id (by omega) (by omega)) (fun h5 => ?_) (fun h5 => ?_)
          · have h5 : (F : Int) ≤ (p : Int) := h5
            refine jWp.blk mt 1 ?_
            show jWp 83 49 [some (jO t), some (jO s), some (jO e), some (jI (p : Int)), some (jI (i : Int))] [jI (-1)] 0 0 (M1, w.2) _
            refine jWp.ireti mt rfl ⟨rfl, rfl⟩ rfl ?_
            refine ⟨⟨rfl, hfr⟩, fun b hb => ?_, fun q' hq' => ?_⟩
            · rw [← hr, show f = (f - 1) + 1 by omega, zw2_e (by omega)] at hb
              cases hb
            · rw [← hr, show f = (f - 1) + 1 by omega, zw2_e (by omega)] at hq'
              cases hq'
              exact ⟨rfl, n1, hQ1, hsz, hcr⟩
          · have h5 : (p : Int) < (F : Int) := h5
            refine jWp.blk mt 4 ?_
            show _ ∧ _ ∧ _ ∧ jWp 83 28 [some (jO t), some (jO s), some (jO e), some (jI (p : Int)), some (jI (i : Int))] [jO e, jO s, jI (p : Int), jO t] 0 0 (M1, w.2) _
            refine ⟨rfl, rfl, rfl, ?_⟩
            refine jWp.callv (as := [jO t, jI (p : Int), jO s, jO e]) (rest := []) mt rfl rfl rfl ⟨rfl, jtg hk8⟩ ?_
            refine jCall.mono (C_done (w := (M1, w.2)) (t := t) (tl := tl) (F := F) (p := p) (τ := τ) (s := s) (sc := sc) (e := e) (f1 := f1) (f2 := f2) (n := n1) (q := q) hk8 hkl hrl ((congrFun (hfr t hts htc ht1 ht2) 0).trans hF) hF72 ((hfr tl hls hlc hl1 hl2).trans hτ) hL hks hkc hrc hsz hke hr1 hr2 hk1 hk2 hff hQ1 hcr (by have := hb7 (by omega); omega) (by omega)) (fun v9 w9 h9 => ?_)
            obtain ⟨hf9, hh⟩ := h9
            obtain ⟨M2, G9⟩ := w9
            have hg : G9 = w.2 := hf9.1
            subst hg
            have hfr2 : ∀ a, a ≠ s → a ≠ sc → a ≠ f1 → a ≠ f2 → M2 a = w.1 a := fun a g1 g2 g3 g4 => (hf9.2 a g1 g2 g3 g4).trans (hfr a g1 g2 g3 g4)
            rcases hh with ⟨rfl, q2, n2, hd, hQ2, hm0, hcr2⟩ | ⟨rfl, hd⟩
            · have hd' := hd
              show jWp 83 31 [some (jO t), some (jO s), some (jO e), some (jI (p : Int)), some (jI (i : Int))] [jI 1] 0 0 (M2, w.2) _
              refine jWp.ifc (b := true) mt rfl (by decide) rfl ?_
              show jWp 83 36 [some (jO t), some (jO s), some (jO e), some (jI (p : Int)), some (jI (i : Int))] [] 0 0 (M2, w.2) _
              refine jWp.blk mt 2 ?_
              show _ ∧ jWp 83 38 [some (jO t), some (jO s), some (jO e), some (jI (p : Int)), some (jI (i : Int))] [jI (p : Int), jO t] 0 0 (M2, w.2) _
              refine ⟨rfl, ?_⟩
              refine jWp.callv (as := [jO t, jI (p : Int)]) (rest := []) mt rfl rfl rfl ⟨rfl, jtg hk8⟩ ?_
              refine jCall.mono (C_behind (w := (M2, w.2)) (t := t) (tl := tl) (F := F) (τ := τ) hk8 hkl hrl ((congrFun (hfr2 t hts htc ht1 ht2) 0).trans hF) hF72 ((hfr2 tl hls hlc hl1 hl2).trans hτ) hL (p := p) (by omega)) (fun v9 w9 h9 => ?_)
              obtain ⟨rfl, h9⟩ := h9
              subst w9
              rw [hb7 (by omega)]
              show jWp 83 41 [some (jO t), some (jO s), some (jO e), some (jI (p : Int)), some (jI (i : Int))] [jI (b7 : Int)] 0 0 (M2, w.2) _
              refine jWp.blk mt 3 ?_
              show jWp 83 5 [some (jO t), some (jO s), some (jO e), some (jI (b7 : Int)), some (jI ((i : Int) + 1))] [] 0 0 (M2, w.2) _
              refine jWp.le (l := [some (jO t), some (jO s), some (jO e), some (jI (b7 : Int)), some (jI ((i : Int) + 1))]) (by exact ⟨rfl, rfl, rfl, rfl, rfl, trivial⟩) ?_
              exact ih2 (i + 1) b7 (f - 1) (k + 1) n2 q2 M2 (by have := hc7 (by omega); omega) hfr2 hm0 hcr2 hQ2 (by rw [← hr, show f = (f - 1) + 1 by omega, zw2_g (by omega) (hb7 (by omega)) hd]; rfl) (by have := hc7 (by omega); omega) (fun g => hw7 (by omega) (by have := hc7 (by omega); omega)) (by have := hc7 (by omega); omega)
            · have hd' := hd
              show jWp 83 31 [some (jO t), some (jO s), some (jO e), some (jI (p : Int)), some (jI (i : Int))] [jI 0] 0 0 (M2, w.2) _
              refine jWp.ifc (b := false) mt rfl (by decide) rfl ?_
              show jWp 83 34 [some (jO t), some (jO s), some (jO e), some (jI (p : Int)), some (jI (i : Int))] [] 0 0 (M2, w.2) _
              refine jWp.blk mt 1 ?_
              show jWp 83 35 [some (jO t), some (jO s), some (jO e), some (jI (p : Int)), some (jI (i : Int))] [jI (p : Int)] 0 0 (M2, w.2) _
              refine jWp.ireti mt rfl ⟨rfl, rfl⟩ rfl ?_
              refine ⟨⟨rfl, hfr2⟩, fun b hb => ?_, fun q' hq' => ?_⟩
              · rw [← hr, show f = (f - 1) + 1 by omega, zw2_f (by omega) (by have := hb7 (by omega); omega) hd] at hb
                cases hb
                rfl
              · rw [← hr, show f = (f - 1) + 1 by omega, zw2_f (by omega) (by have := hb7 (by omega); omega) hd] at hq'
                cases hq'
  refine jWp.le (l := [some (jO t), some (jO s), some (jO e), some (jI 0), some (jI 0)]) (by exact ⟨rfl, rfl, rfl, rfl, rfl, trivial⟩) ?_
  exact lp1 _ 0 0 73 0 n q0 w.1 (by omega) (fun a _ _ _ _ => rfl) hn0 hRR hQ rfl (by omega) (fun _ => hok) (Nat.lt_succ_self _)
end
section
def PK (g : (Nat → Nat × Nat) × (Nat → Nat → Option Nat) × Nat × Nat) (pa : Nat) : Prop := g.1 pa = (3, 0) ∧ g.1 (pa + 1) = (103, 8) ∧ g.2.1 pa 1 = some (pa + 1) ∧ (∀ i, i < 8 → g.2.1 (pa + 1) i = some (pa + (2 + 2 * i))) ∧ (∀ i, i < 8 → g.1 (pa + (2 + 2 * i)) = (6, 0)) ∧ (∀ i, i < 8 → g.1 (pa + (3 + 2 * i)) = (100, 44)) ∧ ∀ i, i < 8 → g.2.1 (pa + (2 + 2 * i)) 1 = some (pa + (3 + 2 * i))
/-- a seed's object and cells as others were -/
def cpy (N : Nat → Nat → Int) (s sc : Nat) (N0 : Nat → Nat → Int) (s2 sc2 : Nat) : Prop := N s 0 = N0 s2 0 ∧ ∀ j, j < 44 → N sc j = N0 sc2 j
set_option maxHeartbeats 4000000 in
set_option maxRecDepth 20000 in
theorem C_drop {w : jS} {pa : Nat} (hP : PK w.2 pa) : jCall 12 [jO pa] w (fun v w1 => v = none ∧ w1.2 = w.2 ∧ (∀ b, b ≠ pa → (∀ x, x < 8 → b ≠ pa + (2 + 2 * x) ∧ b ≠ pa + (3 + 2 * x)) → w1.1 b = w.1 b) ∧ w1.1 pa 0 = 7 ∧ ∀ x, x < 7 → cpy w1.1 (pa + (2 + 2 * x)) (pa + (3 + 2 * x)) w.1 (pa + (2 + 2 * (x + 1))) (pa + (3 + 2 * (x + 1)))) := by
  have mt : jtb 12 = jT12 := rfl
  show jWp 12 0 [some (jO pa), none] [] 0 0 w _
  refine jWp.blk mt 2 ?_
  show jWp 12 2 [some (jO pa), some (jI 0)] [] 0 0 w _
  have lp1 : ∀ (N : Nat) (i : Nat) (M1 : Nat → Nat → Int) (hi : i ≤ 7) (hF : ∀ b, (∀ x, x < 8 → b ≠ pa + (2 + 2 * x) ∧ b ≠ pa + (3 + 2 * x)) → M1 b = w.1 b) (hA : ∀ x, x < i → cpy M1 (pa + (2 + 2 * x)) (pa + (3 + 2 * x)) w.1 (pa + (2 + 2 * (x + 1))) (pa + (3 + 2 * (x + 1)))) (hB : ∀ x, i ≤ x → x < 8 → M1 (pa + (2 + 2 * x)) = w.1 (pa + (2 + 2 * x)) ∧ M1 (pa + (3 + 2 * x)) = w.1 (pa + (3 + 2 * x))), 8 - i < N → jWp 12 2 [some (jO pa), some (jI (i : Int))] [] 0 0 (M1, w.2) (fun v w1 => v = none ∧ w1.2 = w.2 ∧ (∀ b, b ≠ pa → (∀ x, x < 8 → b ≠ pa + (2 + 2 * x) ∧ b ≠ pa + (3 + 2 * x)) → w1.1 b = w.1 b) ∧ w1.1 pa 0 = 7 ∧ ∀ x, x < 7 → cpy w1.1 (pa + (2 + 2 * x)) (pa + (3 + 2 * x)) w.1 (pa + (2 + 2 * (x + 1))) (pa + (3 + 2 * (x + 1)))) := by
    intro N
    induction N with
    | zero => intro i M1 hi hF hA hB hm; omega
    | succ N ih2 =>
      intro i M1 hi hF hA hB hm
      refine jWp.blk mt 4 ?_
      show jWp 12 7 [some (jO pa), some (jI (i : Int))] [jI 8, jI ((i : Int) + 1)] 0 0 (M1, w.2) _
      refine jWp.icmp (pc' := 10) mt rfl rfl (b32_id (by omega) (by omega)) (show b32 8 = 8 by decide) (fun h3 => ?_) (fun h3 => ?_)
      · have h3 : 8 ≤ ((i : Int) + 1) := h3
        refine jWp.blk mt 2 ?_
        show _ ∧ jWp 12 36 [some (jO pa), some (jI (i : Int))] [jI 7, jO pa] 0 0 (M1, w.2) _
        refine ⟨rfl, ?_⟩
        refine jWp.putI (pc' := 39) mt rfl rfl (jtg hP.1) ?_
        show jWp 12 39 [some (jO pa), some (jI (i : Int))] [] 0 0 (jW (M1, w.2) pa 0 7) _
        refine jWp.vret mt rfl ⟨rfl, rfl⟩ rfl ?_
        exact ⟨rfl, rfl, fun b h0 hb => (jW_f h0).trans (hF b hb), jW_s, fun x hx => ⟨(jW_a (by omega)).trans (hA x (by omega)).1, fun j hj => (jW_a (by omega)).trans ((hA x (by omega)).2 j hj)⟩⟩
      · have h3 : ((i : Int) + 1) < 8 := h3
        refine jWp.blk mt 1 ?_
        show _ ∧ jWp 12 11 [some (jO pa), some (jI (i : Int))] [jO pa] 0 0 (M1, w.2) _
        refine ⟨rfl, ?_⟩
        refine jWp.getR (pc' := 14) (o := (pa + 1)) mt rfl rfl (jtg hP.1) hP.2.2.1 ?_
        show jWp 12 14 [some (jO pa), some (jI (i : Int))] [jO (pa + 1)] 0 0 (M1, w.2) _
        refine jWp.blk mt 1 ?_
        show jWp 12 15 [some (jO pa), some (jI (i : Int))] [jI (i : Int), jO (pa + 1)] 0 0 (M1, w.2) _
        refine jWp.aald (pc' := 16) (j := i) (o := (pa + (2 + 2 * i))) mt rfl rfl (jrg hP.2.1 (by decide) (by decide)) (b32_id (by omega) (by omega)) (jlt hP.2.1 (by omega)) (hP.2.2.2.1 i (by omega)) ?_
        show jWp 12 16 [some (jO pa), some (jI (i : Int))] [jO (pa + (2 + 2 * i))] 0 0 (M1, w.2) _
        refine jWp.blk mt 1 ?_
        show _ ∧ jWp 12 17 [some (jO pa), some (jI (i : Int))] [jO pa, jO (pa + (2 + 2 * i))] 0 0 (M1, w.2) _
        refine ⟨rfl, ?_⟩
        refine jWp.getR (pc' := 20) (o := (pa + 1)) mt rfl rfl (jtg hP.1) hP.2.2.1 ?_
        show jWp 12 20 [some (jO pa), some (jI (i : Int))] [jO (pa + 1), jO (pa + (2 + 2 * i))] 0 0 (M1, w.2) _
        refine jWp.blk mt 3 ?_
        show jWp 12 23 [some (jO pa), some (jI (i : Int))] [jI ((i : Int) + 1), jO (pa + 1), jO (pa + (2 + 2 * i))] 0 0 (M1, w.2) _
        refine jWp.aald (pc' := 24) (j := (i + 1)) (o := (pa + (2 + 2 * (i + 1)))) mt rfl rfl (jrg hP.2.1 (by decide) (by decide)) (by rw [b32_id (by omega) (by omega)]; omega) (jlt hP.2.1 (by omega)) (hP.2.2.2.1 (i + 1) (by omega)) ?_
        show jWp 12 24 [some (jO pa), some (jI (i : Int))] [jO (pa + (2 + 2 * (i + 1))), jO (pa + (2 + 2 * i))] 0 0 (M1, w.2) _
        refine jWp.callv (as := [jO (pa + (2 + 2 * i)), jO (pa + (2 + 2 * (i + 1)))]) (rest := []) mt rfl rfl rfl ⟨rfl, jtg (hP.2.2.2.2.1 _ (by omega))⟩ ?_
        refine jCall.mono (C_become (w := (M1, w.2)) (s := pa + (2 + 2 * i)) (sc := pa + (3 + 2 * i)) (s2 := pa + (2 + 2 * (i + 1))) (sc2 := pa + (3 + 2 * (i + 1))) (hP.2.2.2.2.1 i (by omega)) (hP.2.2.2.2.2.1 i (by omega)) (hP.2.2.2.2.2.2 i (by omega)) (hP.2.2.2.2.1 (i + 1) (by omega)) (hP.2.2.2.2.2.1 (i + 1) (by omega)) (hP.2.2.2.2.2.2 (i + 1) (by omega)) rfl) (fun v9 w9 h9 => ?_)
        obtain ⟨rfl, hbf, hb0, hbc⟩ := h9
        obtain ⟨M2, G9⟩ := w9
        have hg : G9 = w.2 := hbf.1
        subst hg
        show jWp 12 27 [some (jO pa), some (jI (i : Int))] [] 0 0 (M2, w.2) _
        refine jWp.blk mt 2 ?_
        show jWp 12 2 [some (jO pa), some (jI ((i : Int) + 1))] [] 0 0 (M2, w.2) _
        refine jWp.le (l := [some (jO pa), some (jI ((i : Int) + 1))]) (by exact ⟨rfl, rfl, trivial⟩) ?_
        exact ih2 (i + 1) M2 (by omega) (fun b hb => (hbf.2 b (hb i (by omega)).1 (hb i (by omega)).2).trans (hF b hb)) (fun x hx => by rcases Nat.lt_or_ge x i with e | e; exact ⟨(congrFun (hbf.2 _ (by omega) (by omega)) 0).trans (hA x e).1, fun j hj => (congrFun (hbf.2 _ (by omega) (by omega)) j).trans ((hA x e).2 j hj)⟩; rw [show x = i by omega]; exact ⟨hb0.trans (congrFun (hB (i + 1) (by omega) (by omega)).1 0), fun j hj => (hbc j hj).trans (congrFun (hB (i + 1) (by omega) (by omega)).2 j)⟩) (fun x h1 h2 => ⟨(hbf.2 _ (by omega) (by omega)).trans (hB x (by omega) h2).1, (hbf.2 _ (by omega) (by omega)).trans (hB x (by omega) h2).2⟩) (by omega)
  refine jWp.le (l := [some (jO pa), some (jI 0)]) (by exact ⟨rfl, rfl, trivial⟩) ?_
  exact lp1 _ 0 w.1 (by omega) (fun _ _ => rfl) (fun x hx => absurd hx (by omega)) (fun _ _ _ => ⟨rfl, rfl⟩) (Nat.lt_succ_self _)
set_option maxHeartbeats 4000000 in
set_option maxRecDepth 20000 in
theorem C_pkeep {w : jS} {pa : Nat} (hP : PK w.2 pa) {s sc : Nat} (hks : w.2.1 s = (6, 0)) (hkc : w.2.1 sc = (100, 44)) (hrc : w.2.2.1 s 1 = some sc) {u : Nat} (hu : w.1 pa 0 = (u : Int)) (hu8 : u ≤ 8) (hsp : s ≠ pa) (hcp : sc ≠ pa) (hsx1 : ∀ x, x < 8 → s ≠ pa + (2 + 2 * x) ∧ s ≠ pa + (3 + 2 * x)) (hsx2 : ∀ x, x < 8 → sc ≠ pa + (2 + 2 * x) ∧ sc ≠ pa + (3 + 2 * x)) : jCall 11 [jO pa, jO s] w (fun v w1 => v = none ∧ w1.2 = w.2 ∧ (∀ b, b ≠ pa → (∀ x, x < 8 → b ≠ pa + (2 + 2 * x) ∧ b ≠ pa + (3 + 2 * x)) → w1.1 b = w.1 b) ∧ ((u < 8 ∧ w1.1 pa 0 = (u : Int) + 1 ∧ (∀ x, x < u → w1.1 (pa + (2 + 2 * x)) = w.1 (pa + (2 + 2 * x)) ∧ w1.1 (pa + (3 + 2 * x)) = w.1 (pa + (3 + 2 * x))) ∧ cpy w1.1 (pa + (2 + 2 * u)) (pa + (3 + 2 * u)) w.1 s sc) ∨ (u = 8 ∧ w1.1 pa 0 = 8 ∧ (∀ x, x < 7 → cpy w1.1 (pa + (2 + 2 * x)) (pa + (3 + 2 * x)) w.1 (pa + (2 + 2 * (x + 1))) (pa + (3 + 2 * (x + 1)))) ∧ cpy w1.1 (pa + (2 + 2 * 7)) (pa + (3 + 2 * 7)) w.1 s sc))) := by
  have mt : jtb 11 = jT11 := rfl
  show jWp 11 0 [some (jO pa), some (jO s)] [] 0 0 w _
  refine jWp.blk mt 1 ?_
  show _ ∧ jWp 11 1 [some (jO pa), some (jO s)] [jO pa] 0 0 w _
  refine ⟨rfl, ?_⟩
  refine jWp.getI (pc' := 4) mt rfl rfl (jtg hP.1) ?_
  rw [show (w.1 pa 0) = (u : Int) from hu]
  show jWp 11 4 [some (jO pa), some (jO s)] [jI (u : Int)] 0 0 w _
  refine jWp.blk mt 1 ?_
  show jWp 11 6 [some (jO pa), some (jO s)] [jI 8, jI (u : Int)] 0 0 w _
  refine jWp.icmp (pc' := 9) mt rfl rfl (b32_id (by omega) (by omega)) (show b32 8 = 8 by decide) (fun h1 => ?_) (fun h1 => ?_)
  · have h1 : (u : Int) < 8 := h1
    refine jWp.blk mt 1 ?_
    show _ ∧ jWp 11 14 [some (jO pa), some (jO s)] [jO pa] 0 0 w _
    refine ⟨rfl, ?_⟩
    refine jWp.getI (pc' := 17) mt rfl rfl (jtg hP.1) ?_
    rw [show (w.1 pa 0) = (u : Int) from hu]
    show jWp 11 17 [some (jO pa), some (jO s)] [jI (u : Int)] 0 0 w _
    refine jWp.ifz (pc' := 20) mt rfl rfl (b32_id (by omega) (by omega)) (fun h2 => ?_) (fun h2 => ?_)
    · have h2 : (u : Int) < 0 := h2
      refine jWp.vret mt rfl ⟨rfl, rfl⟩ rfl ?_
      exfalso; omega
    · have h2 : 0 ≤ (u : Int) := h2
      refine jWp.blk mt 1 ?_
      show _ ∧ jWp 11 21 [some (jO pa), some (jO s)] [jO pa] 0 0 w _
      refine ⟨rfl, ?_⟩
      refine jWp.getI (pc' := 24) mt rfl rfl (jtg hP.1) ?_
      rw [show (w.1 pa 0) = (u : Int) from hu]
      show jWp 11 24 [some (jO pa), some (jO s)] [jI (u : Int)] 0 0 w _
      refine jWp.blk mt 1 ?_
      show jWp 11 26 [some (jO pa), some (jO s)] [jI 8, jI (u : Int)] 0 0 w _
      refine jWp.icmp (pc' := 29) mt rfl rfl (b32_id (by omega) (by omega)) (show b32 8 = 8 by decide) (fun h3 => ?_) (fun h3 => ?_)
      · have h3 : 8 ≤ (u : Int) := h3
        refine jWp.vret mt rfl ⟨rfl, rfl⟩ rfl ?_
        exfalso; omega
      · have h3 : (u : Int) < 8 := h3
        refine jWp.blk mt 1 ?_
        show _ ∧ jWp 11 30 [some (jO pa), some (jO s)] [jO pa] 0 0 w _
        refine ⟨rfl, ?_⟩
        refine jWp.getR (pc' := 33) (o := (pa + 1)) mt rfl rfl (jtg hP.1) hP.2.2.1 ?_
        show jWp 11 33 [some (jO pa), some (jO s)] [jO (pa + 1)] 0 0 w _
        refine jWp.blk mt 1 ?_
        show _ ∧ jWp 11 34 [some (jO pa), some (jO s)] [jO pa, jO (pa + 1)] 0 0 w _
        refine ⟨rfl, ?_⟩
        refine jWp.getI (pc' := 37) mt rfl rfl (jtg hP.1) ?_
        rw [show (w.1 pa 0) = (u : Int) from hu]
        show jWp 11 37 [some (jO pa), some (jO s)] [jI (u : Int), jO (pa + 1)] 0 0 w _
        refine jWp.aald (pc' := 38) (j := u) (o := (pa + (2 + 2 * u))) mt rfl rfl (jrg hP.2.1 (by decide) (by decide)) (b32_id (by omega) (by omega)) (jlt hP.2.1 (by omega)) (hP.2.2.2.1 u (by omega)) ?_
        show jWp 11 38 [some (jO pa), some (jO s)] [jO (pa + (2 + 2 * u))] 0 0 w _
        refine jWp.blk mt 1 ?_
        show _ ∧ jWp 11 39 [some (jO pa), some (jO s)] [jO s, jO (pa + (2 + 2 * u))] 0 0 w _
        refine ⟨rfl, ?_⟩
        refine jWp.callv (as := [jO (pa + (2 + 2 * u)), jO s]) (rest := []) mt rfl rfl rfl ⟨rfl, jtg (hP.2.2.2.2.1 _ (by omega))⟩ ?_
        refine jCall.mono (C_become (w := w) (s := pa + (2 + 2 * u)) (sc := pa + (3 + 2 * u)) (s2 := s) (sc2 := sc) (hP.2.2.2.2.1 u (by omega)) (hP.2.2.2.2.2.1 u (by omega)) (hP.2.2.2.2.2.2 u (by omega)) hks hkc hrc rfl) (fun v9 w9 h9 => ?_)
        obtain ⟨rfl, hbf, hb0, hbc⟩ := h9
        obtain ⟨M2, G9⟩ := w9
        have hg : G9 = w.2 := hbf.1
        subst hg
        show jWp 11 42 [some (jO pa), some (jO s)] [] 0 0 (M2, w.2) _
        refine jWp.blk mt 2 ?_
        show _ ∧ _ ∧ jWp 11 44 [some (jO pa), some (jO s)] [jO pa, jO pa] 0 0 (M2, w.2) _
        refine ⟨rfl, rfl, ?_⟩
        refine jWp.getI (pc' := 47) mt rfl rfl (jtg hP.1) ?_
        rw [show ((M2, w.2).1 pa 0) = (u : Int) from ((congrFun (hbf.2 pa (by omega) (by omega)) 0).trans hu)]
        show jWp 11 47 [some (jO pa), some (jO s)] [jI (u : Int), jO pa] 0 0 (M2, w.2) _
        refine jWp.blk mt 2 ?_
        show jWp 11 49 [some (jO pa), some (jO s)] [jI ((u : Int) + 1), jO pa] 0 0 (M2, w.2) _
        refine jWp.putI (pc' := 52) mt rfl rfl (jtg hP.1) ?_
        show jWp 11 52 [some (jO pa), some (jO s)] [] 0 0 (jW (M2, w.2) pa 0 ((u : Int) + 1)) _
        refine jWp.vret mt rfl ⟨rfl, rfl⟩ rfl ?_
        refine ⟨rfl, rfl, fun b h0 hb => (jW_f h0).trans (hbf.2 b (hb u (by omega)).1 (hb u (by omega)).2), Or.inl ⟨by omega, jW_s, fun x hx => ⟨(jW_f (by omega)).trans (hbf.2 _ (by omega) (by omega)), (jW_f (by omega)).trans (hbf.2 _ (by omega) (by omega))⟩, ?_⟩⟩
        exact ⟨(jW_a (by omega)).trans hb0, fun j hj => (jW_a (by omega)).trans (hbc j hj)⟩
  · have h1 : 8 ≤ (u : Int) := h1
    refine jWp.blk mt 1 ?_
    show _ ∧ jWp 11 10 [some (jO pa), some (jO s)] [jO pa] 0 0 w _
    refine ⟨rfl, ?_⟩
    refine jWp.callv (as := [jO pa]) (rest := []) mt rfl rfl rfl ⟨rfl, jtg hP.1⟩ ?_
    refine jCall.mono (C_drop hP) (fun v9 w9 h9 => ?_)
    obtain ⟨rfl, hdg, hdf, hd7, hdc⟩ := h9
    obtain ⟨M1, G9⟩ := w9
    have hg : G9 = w.2 := hdg
    subst hg
    have hd7 : M1 pa 0 = 7 := hd7
    show jWp 11 13 [some (jO pa), some (jO s)] [] 0 0 (M1, w.2) _
    refine jWp.blk mt 1 ?_
    show _ ∧ jWp 11 14 [some (jO pa), some (jO s)] [jO pa] 0 0 (M1, w.2) _
    refine ⟨rfl, ?_⟩
    refine jWp.getI (pc' := 17) mt rfl rfl (jtg hP.1) ?_
    rw [show ((M1, w.2).1 pa 0) = 7 from hd7]
    show jWp 11 17 [some (jO pa), some (jO s)] [jI 7] 0 0 (M1, w.2) _
    refine jWp.ifc (b := false) mt rfl (by decide) rfl ?_
    show jWp 11 20 [some (jO pa), some (jO s)] [] 0 0 (M1, w.2) _
    refine jWp.blk mt 1 ?_
    show _ ∧ jWp 11 21 [some (jO pa), some (jO s)] [jO pa] 0 0 (M1, w.2) _
    refine ⟨rfl, ?_⟩
    refine jWp.getI (pc' := 24) mt rfl rfl (jtg hP.1) ?_
    rw [show ((M1, w.2).1 pa 0) = 7 from hd7]
    show jWp 11 24 [some (jO pa), some (jO s)] [jI 7] 0 0 (M1, w.2) _
    refine jWp.blk mt 1 ?_
    show jWp 11 26 [some (jO pa), some (jO s)] [jI 8, jI 7] 0 0 (M1, w.2) _
    refine jWp.icmp (pc' := 29) mt rfl rfl (show b32 7 = 7 by decide) (show b32 8 = 8 by decide) (fun h4 => ?_) (fun h4 => ?_)
    · exact absurd (show 8 ≤ (7 : Int) from h4) (by decide)
    · have h4 := h4
      refine jWp.blk mt 1 ?_
      show _ ∧ jWp 11 30 [some (jO pa), some (jO s)] [jO pa] 0 0 (M1, w.2) _
      refine ⟨rfl, ?_⟩
      refine jWp.getR (pc' := 33) (o := (pa + 1)) mt rfl rfl (jtg hP.1) hP.2.2.1 ?_
      show jWp 11 33 [some (jO pa), some (jO s)] [jO (pa + 1)] 0 0 (M1, w.2) _
      refine jWp.blk mt 1 ?_
      show _ ∧ jWp 11 34 [some (jO pa), some (jO s)] [jO pa, jO (pa + 1)] 0 0 (M1, w.2) _
      refine ⟨rfl, ?_⟩
      refine jWp.getI (pc' := 37) mt rfl rfl (jtg hP.1) ?_
      rw [show ((M1, w.2).1 pa 0) = 7 from hd7]
      show jWp 11 37 [some (jO pa), some (jO s)] [jI 7, jO (pa + 1)] 0 0 (M1, w.2) _
      refine jWp.aald (pc' := 38) (j := 7) (o := (pa + (2 + 2 * 7))) mt rfl rfl (jrg hP.2.1 (by decide) (by decide)) (by decide) (jlt hP.2.1 (by decide)) (hP.2.2.2.1 7 (by omega)) ?_
      show jWp 11 38 [some (jO pa), some (jO s)] [jO (pa + (2 + 2 * 7))] 0 0 (M1, w.2) _
      refine jWp.blk mt 1 ?_
      show _ ∧ jWp 11 39 [some (jO pa), some (jO s)] [jO s, jO (pa + (2 + 2 * 7))] 0 0 (M1, w.2) _
      refine ⟨rfl, ?_⟩
      refine jWp.callv (as := [jO (pa + (2 + 2 * 7)), jO s]) (rest := []) mt rfl rfl rfl ⟨rfl, jtg (hP.2.2.2.2.1 _ (by omega))⟩ ?_
      refine jCall.mono (C_become (w := (M1, w.2)) (s := pa + (2 + 2 * 7)) (sc := pa + (3 + 2 * 7)) (s2 := s) (sc2 := sc) (hP.2.2.2.2.1 7 (by omega)) (hP.2.2.2.2.2.1 7 (by omega)) (hP.2.2.2.2.2.2 7 (by omega)) hks hkc hrc rfl) (fun v9 w9 h9 => ?_)
      obtain ⟨rfl, hbf, hb0, hbc⟩ := h9
      obtain ⟨M2, G9⟩ := w9
      have hg : G9 = w.2 := hbf.1
      subst hg
      show jWp 11 42 [some (jO pa), some (jO s)] [] 0 0 (M2, w.2) _
      refine jWp.blk mt 2 ?_
      show _ ∧ _ ∧ jWp 11 44 [some (jO pa), some (jO s)] [jO pa, jO pa] 0 0 (M2, w.2) _
      refine ⟨rfl, rfl, ?_⟩
      refine jWp.getI (pc' := 47) mt rfl rfl (jtg hP.1) ?_
      rw [show ((M2, w.2).1 pa 0) = 7 from ((congrFun (hbf.2 pa (by omega) (by omega)) 0).trans hd7)]
      show jWp 11 47 [some (jO pa), some (jO s)] [jI 7, jO pa] 0 0 (M2, w.2) _
      refine jWp.blk mt 2 ?_
      show jWp 11 49 [some (jO pa), some (jO s)] [jI 8, jO pa] 0 0 (M2, w.2) _
      refine jWp.putI (pc' := 52) mt rfl rfl (jtg hP.1) ?_
      show jWp 11 52 [some (jO pa), some (jO s)] [] 0 0 (jW (M2, w.2) pa 0 8) _
      refine jWp.vret mt rfl ⟨rfl, rfl⟩ rfl ?_
      refine ⟨rfl, rfl, fun b h0 hb => (jW_f h0).trans ((hbf.2 b (hb 7 (by omega)).1 (hb 7 (by omega)).2).trans (hdf b h0 hb)), Or.inr ⟨by omega, jW_s, fun x hx => ?_, ?_⟩⟩
      · exact ⟨(jW_a (by omega)).trans ((congrFun (hbf.2 _ (by omega) (by omega)) 0).trans (hdc x hx).1), fun j hj => (jW_a (by omega)).trans ((congrFun (hbf.2 _ (by omega) (by omega)) j).trans ((hdc x hx).2 j hj))⟩
      · exact ⟨(jW_a (by omega)).trans (hb0.trans (congrFun (hdf s hsp hsx1) 0)), fun j hj => (jW_a (by omega)).trans ((hbc j hj).trans (congrFun (hdf sc hcp hsx2) j))⟩
set_option maxHeartbeats 4000000 in
set_option maxRecDepth 20000 in
theorem C_takeBack {w : jS} {pa : Nat} (hP : PK w.2 pa) {s sc : Nat} (hks : w.2.1 s = (6, 0)) (hkc : w.2.1 sc = (100, 44)) (hrc : w.2.2.1 s 1 = some sc) {u : Nat} (hu : w.1 pa 0 = (u : Int)) (hu8 : u ≤ 8) (hsp : s ≠ pa) (hcp : sc ≠ pa) : jCall 13 [jO pa, jO s] w (fun v w1 => (u = 0 → v = some (jI 0) ∧ w1 = w) ∧ (1 ≤ u → v = some (jI 1) ∧ w1.2 = w.2 ∧ (∀ b, b ≠ pa → b ≠ s → b ≠ sc → w1.1 b = w.1 b) ∧ w1.1 pa 0 = (u : Int) - 1 ∧ cpy w1.1 s sc w.1 (pa + (2 + 2 * (u - 1))) (pa + (3 + 2 * (u - 1))))) := by
  have mt : jtb 13 = jT13 := rfl
  show jWp 13 0 [some (jO pa), some (jO s)] [] 0 0 w _
  refine jWp.blk mt 1 ?_
  show _ ∧ jWp 13 1 [some (jO pa), some (jO s)] [jO pa] 0 0 w _
  refine ⟨rfl, ?_⟩
  refine jWp.getI (pc' := 4) mt rfl rfl (jtg hP.1) ?_
  rw [show (w.1 pa 0) = (u : Int) from hu]
  show jWp 13 4 [some (jO pa), some (jO s)] [jI (u : Int)] 0 0 w _
  refine jWp.blk mt 1 ?_
  show jWp 13 5 [some (jO pa), some (jO s)] [jI 1, jI (u : Int)] 0 0 w _
  refine jWp.icmp (pc' := 8) mt rfl rfl (b32_id (by omega) (by omega)) (show b32 1 = 1 by decide) (fun h1 => ?_) (fun h1 => ?_)
  · have h1 : (u : Int) < 1 := h1
    refine jWp.blk mt 1 ?_
    show jWp 13 18 [some (jO pa), some (jO s)] [jI 0] 0 0 w _
    refine jWp.iretz mt rfl ⟨rfl, rfl⟩ rfl (Or.inl rfl) ?_
    first
    | exact ⟨fun c => ⟨rfl, rfl⟩, fun c => by exfalso; omega⟩
    | (exfalso; omega)
  · have h1 : 1 ≤ (u : Int) := h1
    refine jWp.blk mt 1 ?_
    show _ ∧ jWp 13 9 [some (jO pa), some (jO s)] [jO pa] 0 0 w _
    refine ⟨rfl, ?_⟩
    refine jWp.getI (pc' := 12) mt rfl rfl (jtg hP.1) ?_
    rw [show (w.1 pa 0) = (u : Int) from hu]
    show jWp 13 12 [some (jO pa), some (jO s)] [jI (u : Int)] 0 0 w _
    refine jWp.blk mt 1 ?_
    show jWp 13 14 [some (jO pa), some (jO s)] [jI 8, jI (u : Int)] 0 0 w _
    refine jWp.icmp (pc' := 17) mt rfl rfl (b32_id (by omega) (by omega)) (show b32 8 = 8 by decide) (fun h2 => ?_) (fun h2 => ?_)
    · have h2 : (u : Int) ≤ 8 := h2
      refine jWp.blk mt 2 ?_
      show _ ∧ _ ∧ jWp 13 21 [some (jO pa), some (jO s)] [jO pa, jO pa] 0 0 w _
      refine ⟨rfl, rfl, ?_⟩
      refine jWp.getI (pc' := 24) mt rfl rfl (jtg hP.1) ?_
      rw [show (w.1 pa 0) = (u : Int) from hu]
      show jWp 13 24 [some (jO pa), some (jO s)] [jI (u : Int), jO pa] 0 0 w _
      refine jWp.blk mt 2 ?_
      show jWp 13 26 [some (jO pa), some (jO s)] [jI ((u : Int) - 1), jO pa] 0 0 w _
      refine jWp.putI (pc' := 29) mt rfl rfl (jtg hP.1) ?_
      show jWp 13 29 [some (jO pa), some (jO s)] [] 0 0 (jW w pa 0 ((u : Int) - 1)) _
      refine jWp.blk mt 2 ?_
      show _ ∧ _ ∧ jWp 13 31 [some (jO pa), some (jO s)] [jO pa, jO s] 0 0 (jW w pa 0 ((u : Int) - 1)) _
      refine ⟨rfl, rfl, ?_⟩
      refine jWp.getR (pc' := 34) (o := (pa + 1)) mt rfl rfl (jtg hP.1) hP.2.2.1 ?_
      show jWp 13 34 [some (jO pa), some (jO s)] [jO (pa + 1), jO s] 0 0 (jW w pa 0 ((u : Int) - 1)) _
      refine jWp.blk mt 1 ?_
      show _ ∧ jWp 13 35 [some (jO pa), some (jO s)] [jO pa, jO (pa + 1), jO s] 0 0 (jW w pa 0 ((u : Int) - 1)) _
      refine ⟨rfl, ?_⟩
      refine jWp.getI (pc' := 38) mt rfl rfl (jtg hP.1) ?_
      rw [show ((jW w pa 0 ((u : Int) - 1)).1 pa 0) = ((u : Int) - 1) from jW_s]
      show jWp 13 38 [some (jO pa), some (jO s)] [jI ((u : Int) - 1), jO (pa + 1), jO s] 0 0 (jW w pa 0 ((u : Int) - 1)) _
      refine jWp.aald (pc' := 39) (j := (u - 1)) (o := (pa + (2 + 2 * (u - 1)))) mt rfl rfl (jrg hP.2.1 (by decide) (by decide)) (by rw [b32_id (by omega) (by omega)]; omega) (jlt hP.2.1 (by omega)) (hP.2.2.2.1 (u - 1) (by omega)) ?_
      show jWp 13 39 [some (jO pa), some (jO s)] [jO (pa + (2 + 2 * (u - 1))), jO s] 0 0 (jW w pa 0 ((u : Int) - 1)) _
      refine jWp.callv (as := [jO s, jO (pa + (2 + 2 * (u - 1)))]) (rest := []) mt rfl rfl rfl ⟨rfl, jtg hks⟩ ?_
      refine jCall.mono (C_become (w := (jW w pa 0 ((u : Int) - 1))) (s := s) (sc := sc) (s2 := pa + (2 + 2 * (u - 1))) (sc2 := pa + (3 + 2 * (u - 1))) hks hkc hrc (hP.2.2.2.2.1 (u - 1) (by omega)) (hP.2.2.2.2.2.1 (u - 1) (by omega)) (hP.2.2.2.2.2.2 (u - 1) (by omega)) rfl) (fun v9 w9 h9 => ?_)
      obtain ⟨rfl, hbf, hb0, hbc⟩ := h9
      obtain ⟨M2, G9⟩ := w9
      have hg : G9 = w.2 := hbf.1
      subst hg
      show jWp 13 42 [some (jO pa), some (jO s)] [] 0 0 (M2, w.2) _
      refine jWp.blk mt 1 ?_
      show jWp 13 43 [some (jO pa), some (jO s)] [jI 1] 0 0 (M2, w.2) _
      refine jWp.iretz mt rfl ⟨rfl, rfl⟩ rfl (Or.inr rfl) ?_
      refine ⟨fun c => by exfalso; omega, fun c => ⟨rfl, rfl, fun b h0 g1 g2 => (hbf.2 b g1 g2).trans (jW_f h0), ?_, ?_, fun j hj => ?_⟩⟩
      · exact (congrFun (hbf.2 pa (Ne.symm hsp) (Ne.symm hcp)) 0).trans jW_s
      · exact hb0.trans (jW_a (by omega))
      · exact (hbc j hj).trans (jW_a (by omega))
    · have h2 : 8 < (u : Int) := h2
      refine jWp.blk mt 1 ?_
      show jWp 13 18 [some (jO pa), some (jO s)] [jI 0] 0 0 w _
      refine jWp.iretz mt rfl ⟨rfl, rfl⟩ rfl (Or.inl rfl) ?_
      first
      | exact ⟨fun c => ⟨rfl, rfl⟩, fun c => by exfalso; omega⟩
      | (exfalso; omega)
set_option maxHeartbeats 4000000 in
set_option maxRecDepth 20000 in
theorem C_pforget {w : jS} {pa : Nat} (hkp : w.2.1 pa = (3, 0)) : jCall 14 [jO pa] w (fun v w1 => v = none ∧ w1 = jW w pa 0 0) := by
  have mt : jtb 14 = jT14 := rfl
  show jWp 14 0 [some (jO pa)] [] 0 0 w _
  refine jWp.blk mt 2 ?_
  show _ ∧ jWp 14 2 [some (jO pa)] [jI 0, jO pa] 0 0 w _
  refine ⟨rfl, ?_⟩
  refine jWp.putI (pc' := 5) mt rfl rfl (jtg hkp) ?_
  show jWp 14 5 [some (jO pa)] [] 0 0 (jW w pa 0 0) _
  refine jWp.vret mt rfl ⟨rfl, rfl⟩ rfl ?_
  exact ⟨rfl, rfl⟩
set_option maxHeartbeats 4000000 in
set_option maxRecDepth 20000 in
theorem C_tforget {w : jS} {t : Nat} (hk8 : w.2.1 t = (8, 0)) : jCall 81 [jO t] w (fun v w1 => v = none ∧ w1 = jW w t 0 0) := by
  have mt : jtb 81 = jT81 := rfl
  show jWp 81 0 [some (jO t)] [] 0 0 w _
  refine jWp.blk mt 2 ?_
  show _ ∧ jWp 81 2 [some (jO t)] [jI 0, jO t] 0 0 w _
  refine ⟨rfl, ?_⟩
  refine jWp.putI (pc' := 5) mt rfl rfl (jtg hk8) ?_
  show jWp 81 5 [some (jO t)] [] 0 0 (jW w t 0 0) _
  refine jWp.vret mt rfl ⟨rfl, rfl⟩ rfl ?_
  exact ⟨rfl, rfl⟩
end
section
theorem zml_z {up dn tm up' dn' tm' : Nat → Int} : ∀ (r i : Nat) (p : Int × Int), (∀ x, x < i + r → tm x = tm' x ∧ (tm x ≤ 0 ∨ (up x = up' x ∧ dn x = dn' x))) → zml up dn tm r i p = zml up' dn' tm' r i p
  | 0, _, _, _ => rfl
  | r + 1, i, p, h => by
    show (zmt (up i) (dn i) (tm i).toNat p).bind (zml up dn tm r (i + 1)) = (zmt (up' i) (dn' i) (tm' i).toNat p).bind (zml up' dn' tm' r (i + 1))
    have e := h i (by omega)
    have t : zmt (up i) (dn i) (tm i).toNat p = zmt (up' i) (dn' i) (tm' i).toNat p := by
      rw [← e.1]
      rcases e.2 with g | g
      · rw [zmt_0 g, zmt_0 g]
      · rw [g.1, g.2]
    rw [t, show zml up dn tm r (i + 1) = zml up' dn' tm' r (i + 1) from funext fun p => zml_z r (i + 1) p (fun x hx => h x (by omega))]
theorem zkk {q : Nat → Int} {n k : Nat} (hQ : zQ q n) (hk : k < 4) : q (1 + (4 * k + k)) = 0 := by
  have := hQ.a k k hk hk
  omega
/-- an exchange again takes the same factors, the two sides changed -/
theorem zmk_a {q : Nat → Int} {n k : Nat} {sg : Int} (hQ : zQ q n) (hk : k < 4) : zmk (zxF q n k) n k sg = zmk q n k (-sg) := by
  have h4 := hQ.S.n4
  unfold zmk
  refine zml_z n 0 (1, 1) (fun x hx => ?_)
  have b : zxF q n k (1 + (4 * x + k)) = -(q (1 + (4 * x + k))) := by
    rw [zxF_b (by omega), zxe_at _ _ _ _ hk]
    unfold zxb
    rw [if_pos (Or.inr rfl)]
  refine ⟨by rw [b, Int.mul_neg, Int.neg_mul], ?_⟩
  by_cases e : x = k
  · subst e
    rw [b, zkk hQ hk]
    exact Or.inl (by omega)
  · exact Or.inr ⟨zxF_o (by omega) (by omega) (by omega) (by omega), zxF_o (by omega) (by omega) (by omega) (by omega)⟩
theorem zxb_2 {q : Nat → Int} {n k i j : Nat} (hQ : zQ q n) (hk : k < 4) (hi : i < 4) (hj : j < 4) : zxb (fun e => zxF q n k (1 + e)) k i j = q (1 + (4 * i + j)) := by
  have f : ∀ a b, a < 4 → b < 4 → zxF q n k (1 + (4 * a + b)) = zxb (fun e => q (1 + e)) k a b := fun a b ha hb => by rw [zxF_b (by omega), zxe_at _ _ _ _ hb]
  unfold zxb
  dsimp only
  rw [f i j hi hj, f i k hi hk, f k j hk hj]
  by_cases h : i = k ∨ j = k
  · rw [if_pos h]
    unfold zxb
    rw [if_pos h]
    show - -(q _) = _
    omega
  · rw [if_neg h]
    unfold zxb
    rw [if_neg h, if_pos (Or.inr rfl), if_pos (Or.inl rfl)]
    show q (1 + (4 * i + j)) + Int.tdiv (jabs (q (1 + (4 * i + k))) * q (1 + (4 * k + j)) + q (1 + (4 * i + k)) * jabs (q (1 + (4 * k + j)))) 2 + Int.tdiv (jabs (-(q (1 + (4 * i + k)))) * -(q (1 + (4 * k + j))) + -(q (1 + (4 * i + k))) * jabs (-(q (1 + (4 * k + j))))) 2 = _
    rw [jabs_neg, jabs_neg, Int.mul_neg, Int.neg_mul, ← Int.neg_add, Int.neg_tdiv]
    omega
/-- fractions that are the same, one of them in least terms -/
theorem zlt1 {X Y a b : Int} (hX : 0 < X) (hY : 0 < Y) (ha : 0 < a) (hb : 0 < b) (hg : zg a b = 1) (h : X * b = Y * a) : zu X Y = a ∧ zv X Y = b := by
  have hc : Int.gcd a b = 1 := by
    have : (Int.gcd a b : Int) = 1 := hg
    omega
  have hd : a ∣ X := by
    have h1 : a ∣ X * b := ⟨Y, by rw [h, Int.mul_comm]⟩
    have h2 : a.natAbs ∣ X.natAbs * b.natAbs := by
      rw [← Int.natAbs_mul]
      exact Int.natAbs_dvd_natAbs.mpr h1
    have h3 : Nat.Coprime a.natAbs b.natAbs := hc
    exact Int.natAbs_dvd_natAbs.mp (Nat.Coprime.dvd_of_dvd_mul_right h3 h2)
  obtain ⟨t, ht⟩ := hd
  have ht0 : 0 < t := by
    rcases (show t ≤ 0 ∨ 0 < t by omega) with g | g
    · have := Int.mul_nonpos_of_nonneg_of_nonpos (show 0 ≤ a by omega) g
      omega
    · exact g
  have hYt : Y = b * t := by
    have e : a * Y = a * (b * t) := by
      rw [Int.mul_comm a Y, ← h, ht, Int.mul_assoc, Int.mul_comm t b]
    exact Int.eq_of_mul_eq_mul_left (show a ≠ 0 by omega) e
  have hgt : zg X Y = t := by
    unfold zg
    rw [ht, hYt, Int.gcd_mul_right, hc, Nat.one_mul]
    omega
  unfold zu zv
  rw [hgt, ht, hYt, Int.mul_tdiv_cancel _ (by omega), Int.mul_tdiv_cancel _ (by omega)]
  exact ⟨rfl, rfl⟩
theorem zuv_x {X Y : Int} (hX : 0 < X) (hY : 0 < Y) : zu X Y * Y = zv X Y * X := by
  have hg := zg_pos (a := X) hY
  have d1 : zg X Y ∣ X := Int.gcd_dvd_left X Y
  have d2 : zg X Y ∣ Y := Int.gcd_dvd_right X Y
  obtain ⟨s, hs⟩ := d1
  obtain ⟨t, ht⟩ := d2
  have e1 : zu X Y = s := by
    unfold zu
    rw [show Int.tdiv X (zg X Y) = Int.tdiv (zg X Y * s) (zg X Y) by rw [← hs]]
    exact Int.mul_tdiv_cancel_left _ (by omega)
  have e2 : zv X Y = t := by
    unfold zv
    rw [show Int.tdiv Y (zg X Y) = Int.tdiv (zg X Y * t) (zg X Y) by rw [← ht]]
    exact Int.mul_tdiv_cancel_left _ (by omega)
  rw [e1, e2]
  calc s * Y = s * (zg X Y * t) := by rw [← ht]
    _ = t * (zg X Y * s) := by simp only [Int.mul_comm, Int.mul_left_comm, Int.mul_assoc]
    _ = t * X := by rw [← hs]
/-- what zxv is made of -/
theorem zxv_d {q : Nat → Int} {n k : Nat} {u v : Int} (h : zxv q n k = some (u, v)) : ∃ x1 y1 x2 y2, zmk q n k 1 = some (x1, y1) ∧ zmk q n k (-1) = some (x2, y2) ∧ zok (x1 * y2 + x2 * y1) (y1 * y2) ∧ u = zu (zu (x1 * y2 + x2 * y1) (y1 * y2) * q (25 + k)) (zv (x1 * y2 + x2 * y1) (y1 * y2) * q (21 + k)) ∧ v = zv (zu (x1 * y2 + x2 * y1) (y1 * y2) * q (25 + k)) (zv (x1 * y2 + x2 * y1) (y1 * y2) * q (21 + k)) := by
  unfold zxv at h
  cases h1 : zmk q n k 1 with
  | none => rw [h1] at h; cases h
  | some a =>
    cases h2 : zmk q n k (-1) with
    | none => rw [h1, h2] at h; cases h
    | some b =>
      rw [h1, h2] at h
      dsimp only at h
      split at h
      · rename_i z1
        split at h
        · cases h
          exact ⟨a.1, a.2, b.1, b.2, rfl, rfl, z1, rfl, rfl⟩
        · cases h
      · cases h
/-- an exchange made twice leads back -/
theorem zxF_2 {q : Nat → Int} {n k : Nat} (hQ : zQ q n) (hk : k < n) (hc : zcan q n k) (hc2 : zcan (zxF q n k) n k) : zal q (zxF (zxF q n k) n k) n := by
  have h4 := hQ.S.n4
  have hk4 : k < 4 := by omega
  obtain ⟨p, hp⟩ := Option.isSome_iff_exists.mp hc.2
  obtain ⟨p2, hp2⟩ := Option.isSome_iff_exists.mp hc2.2
  obtain ⟨u, v⟩ := p
  obtain ⟨u2, v2⟩ := p2
  obtain ⟨x1, y1, x2, y2, e1, e2, z, hu, hv⟩ := zxv_d hp
  obtain ⟨x1', y1', x2', y2', e1', e2', z', hu', hv'⟩ := zxv_d hp2
  rw [zmk_a hQ hk4] at e1' e2'
  rw [show -(-1 : Int) = 1 from rfl, e1] at e2'
  rw [e2] at e1'
  cases e1'
  cases e2'
  have su : zxF q n k (21 + k) = u := by rw [zxF_u, hp]; rfl
  have sv : zxF q n k (25 + k) = v := by rw [zxF_v hk4, hp]; rfl
  have s1 := zmk_sm hQ.S hk4 e1
  have s2 := zmk_sm hQ.S hk4 e2
  have hva := hQ.S.v k hk4
  have w1 : 0 < x1 := by have := s1.1; omega
  have w2 : 0 < y1 := by have := s1.2.2.1; omega
  have w3 : 0 < x2 := by have := s2.1; omega
  have w4 : 0 < y2 := by have := s2.2.2.1; omega
  have w5 : 0 < q (21 + k) := by have := hva.1; omega
  have w6 : 0 < q (25 + k) := by have := hva.2.2.1; omega
  have sm : x2 * y1 + x1 * y2 = x1 * y2 + x2 * y1 := Int.add_comm _ _
  have sd : y2 * y1 = y1 * y2 := Int.mul_comm _ _
  rw [sm, sd, su, sv] at hu' hv'
  have p1 : 0 < x1 * y2 + x2 * y1 := by have := Int.mul_pos w1 w4; have := Int.mul_pos w3 w2; omega
  have p2 : 0 < y1 * y2 := Int.mul_pos w2 w4
  generalize hN : zu (x1 * y2 + x2 * y1) (y1 * y2) = N at hu hv hu' hv'
  generalize hD : zv (x1 * y2 + x2 * y1) (y1 * y2) = D at hu hv hu' hv'
  have n1 : 0 < N := by rw [← hN]; have := zu_p p1 p2; omega
  have d1 : 0 < D := by rw [← hD]; have := (zv_b (a := x1 * y2 + x2 * y1) p2).1; omega
  have X1 : 0 < N * q (25 + k) := Int.mul_pos n1 w6
  have Y1 : 0 < D * q (21 + k) := Int.mul_pos d1 w5
  have cr := zuv_x X1 Y1
  rw [← hu, ← hv] at cr
  have u0 : 0 < u := by rw [hu]; have := zu_p X1 Y1; omega
  have v0 : 0 < v := by rw [hv]; have := (zv_b (a := N * q (25 + k)) Y1).1; omega
  have fin := zlt1 (X := N * v) (Y := D * u) (Int.mul_pos n1 v0) (Int.mul_pos d1 u0) w5 w6 (hQ.g k hk4) (by
    calc N * v * q (25 + k) = v * (N * q (25 + k)) := by simp only [Int.mul_comm, Int.mul_left_comm, Int.mul_assoc]
      _ = u * (D * q (21 + k)) := cr.symm
      _ = D * u * q (21 + k) := by simp only [Int.mul_comm, Int.mul_left_comm, Int.mul_assoc])
  refine ⟨fun e he => ?_, fun i hi => ?_⟩
  · rw [zxF_b he]
    have := zxb_2 hQ hk4 (i := e / 4) (j := e % 4) (by omega) (by omega)
    rw [show 1 + (4 * (e / 4) + e % 4) = 1 + e by omega] at this
    exact this.symm
  · by_cases e : i = k
    · subst e
      rw [zxF_u, zxF_v hk4, hp2]
      exact ⟨(hu'.trans fin.1).symm, (hv'.trans fin.2).symm⟩
    · rw [zxF_o (by omega) (by omega) (by omega) (by omega), zxF_o (by omega) (by omega) (by omega) (by omega), zxF_o (j := 25 + i) (by omega) (by omega) (by omega) (by omega), zxF_o (j := 25 + i) (by omega) (by omega) (by omega) (by omega)]
      exact ⟨rfl, rfl⟩
/-- the letter by which a seed came leads to nothing new -/
theorem zba_s {n a : Nat} {q : Nat → Int} {L : List zE} (h : zBL n q L) (ha : a < L.length) (h1 : 1 ≤ a) : zba n a (zL L a).2.2.1 L = L := by
  refine zba_f (fun g => ?_)
  have f := (h.2.2.2 a ha).2 h1
  have p := h.2.2.2 (zL L a).2.1 (by omega)
  have e := f.2.2.2.2.2
  have c := f.2.2.2.2.1
  have g1 := g.1
  have g2 := g.2 (zL L a).2.1 (by omega)
  rw [e] at g1 g2
  exact g2 (zxF_2 p.1 f.2.1 c g1)
/-- a letter by which a seed didn't come has a value that stands ahead -/
theorem zni_s {n o i j : Nat} {q : Nat → Int} {L : List zE} (h : zBL n q L) (ho : o < L.length) (h1 : 1 ≤ o) (hi : i < n) (hne : i ≠ (zL L o).2.2.1) : ¬ zni L n o i j := by
  intro g
  have f := (h.2.2.2 o ho).2 h1
  have h4 := (h.2.2.2 o ho).1.S.n4
  refine g.1 ⟨(zL L o).2.1, i, f.1, hi, ?_, ?_⟩
  · rw [f.2.2.2.2.2, zxF_o (by omega) (by omega) (by omega) (by omega)]
  · rw [f.2.2.2.2.2, zxF_o (by omega) (by omega) (by omega) (by omega)]
end
section
def SK (g : (Nat → Nat × Nat) × (Nat → Nat → Option Nat) × Nat × Nat) (se : Nat) : Prop := g.1 se = (5, 0) ∧ g.1 (se + 1) = (103, 161) ∧ g.1 (se + 2) = (100, 161) ∧ g.1 (se + 3) = (100, 161) ∧ g.1 (se + 4) = (100, 161) ∧ g.2.1 se 1 = some (se + 1) ∧ g.2.1 se 2 = some (se + 2) ∧ g.2.1 se 3 = some (se + 3) ∧ g.2.1 se 4 = some (se + 4) ∧ (∀ i, i < 161 → g.2.1 (se + 1) i = some (se + (5 + 2 * i))) ∧ (∀ i, i < 161 → g.1 (se + (5 + 2 * i)) = (6, 0)) ∧ (∀ i, i < 161 → g.1 (se + (6 + 2 * i)) = (100, 44)) ∧ ∀ i, i < 161 → g.2.1 (se + (5 + 2 * i)) 1 = some (se + (6 + 2 * i))
section
variable {g : (Nat → Nat × Nat) × (Nat → Nat → Option Nat) × Nat × Nat} {se : Nat}
theorem SK.k0 (h : SK g se) : g.1 se = (5, 0) := h.1
theorem SK.k1 (h : SK g se) : g.1 (se + 1) = (103, 161) := h.2.1
theorem SK.k2 (h : SK g se) : g.1 (se + 2) = (100, 161) := h.2.2.1
theorem SK.k3 (h : SK g se) : g.1 (se + 3) = (100, 161) := h.2.2.2.1
theorem SK.k4 (h : SK g se) : g.1 (se + 4) = (100, 161) := h.2.2.2.2.1
theorem SK.r1 (h : SK g se) : g.2.1 se 1 = some (se + 1) := h.2.2.2.2.2.1
theorem SK.r2 (h : SK g se) : g.2.1 se 2 = some (se + 2) := h.2.2.2.2.2.2.1
theorem SK.r3 (h : SK g se) : g.2.1 se 3 = some (se + 3) := h.2.2.2.2.2.2.2.1
theorem SK.r4 (h : SK g se) : g.2.1 se 4 = some (se + 4) := h.2.2.2.2.2.2.2.2.1
theorem SK.q (h : SK g se) : ∀ i, i < 161 → g.2.1 (se + 1) i = some (se + (5 + 2 * i)) := h.2.2.2.2.2.2.2.2.2.1
theorem SK.o (h : SK g se) : ∀ i, i < 161 → g.1 (se + (5 + 2 * i)) = (6, 0) := h.2.2.2.2.2.2.2.2.2.2.1
theorem SK.c (h : SK g se) : ∀ i, i < 161 → g.1 (se + (6 + 2 * i)) = (100, 44) := h.2.2.2.2.2.2.2.2.2.2.2.1
theorem SK.rc (h : SK g se) : ∀ i, i < 161 → g.2.1 (se + (5 + 2 * i)) 1 = some (se + (6 + 2 * i)) := h.2.2.2.2.2.2.2.2.2.2.2.2
end
/-- the seeds that are found, as the class holds them -/
def cSL (N : Nat → Nat → Int) (se n : Nat) (g : Prop) (L : List zE) : Prop := N se 0 = (L.length : Int) ∧ ∀ o, o < L.length → N (se + (5 + 2 * o)) 0 = (n : Int) ∧ cR g (N (se + (6 + 2 * o))) (zL L o).1 n ∧ N (se + 4) o = ((zL L o).2.2.2 : Int) ∧ N (se + 3) o = (if o = 0 then -1 else ((zL L o).2.2.1 : Int)) ∧ (1 ≤ o → N (se + 2) o = ((zL L o).2.1 : Int))
theorem cSL_k {N N' : Nat → Nat → Int} {se n : Nat} {g : Prop} {L : List zE} (h : cSL N se n g L) (h0 : N' se 0 = N se 0) (hs : ∀ o, o < L.length → N' (se + (5 + 2 * o)) = N (se + (5 + 2 * o)) ∧ N' (se + (6 + 2 * o)) = N (se + (6 + 2 * o))) (h2 : N' (se + 2) = N (se + 2)) (h3 : N' (se + 3) = N (se + 3)) (h4 : N' (se + 4) = N (se + 4)) : cSL N' se n g L := by
  refine ⟨h0.trans h.1, fun o ho => ?_⟩
  rw [(hs o ho).1, (hs o ho).2, h2, h3, h4]
  exact h.2 o ho
theorem cSL_n {N N' : Nat → Nat → Int} {se n : Nat} {g : Prop} {L : List zE} {e : zE} (h : cSL N se n g L) (hl : 1 ≤ L.length) (h0 : N' se 0 = ((L.length + 1 : Nat) : Int)) (hs : ∀ o, o ≤ L.length → N' (se + (5 + 2 * o)) = N (se + (5 + 2 * o)) ∧ N' (se + (6 + 2 * o)) = N (se + (6 + 2 * o))) (h1 : ∀ o, o < L.length → N' (se + 2) o = N (se + 2) o ∧ N' (se + 3) o = N (se + 3) o ∧ N' (se + 4) o = N (se + 4) o)
    (hn : N (se + (5 + 2 * L.length)) 0 = (n : Int)) (hc : cR g (N (se + (6 + 2 * L.length))) e.1 n) (g1 : N' (se + 2) L.length = (e.2.1 : Int)) (g2 : N' (se + 3) L.length = (e.2.2.1 : Int)) (g3 : N' (se + 4) L.length = (e.2.2.2 : Int)) : cSL N' se n g (L ++ [e]) := by
  refine ⟨by rw [h0, List.length_append]; rfl, fun o ho => ?_⟩
  rw [List.length_append] at ho
  simp only [List.length_cons, List.length_nil] at ho
  rcases Nat.lt_or_ge o L.length with c | c
  · rw [zL_l c, (hs o (by omega)).1, (hs o (by omega)).2, (h1 o c).1, (h1 o c).2.1, (h1 o c).2.2]
    exact h.2 o c
  · have e2 : o = L.length := by omega
    subst e2
    rw [zL_r, (hs _ (Nat.le_refl _)).1, (hs _ (Nat.le_refl _)).2, if_neg (by omega)]
    exact ⟨hn, hc, g3, g2, fun _ => g1⟩
def zB3 (L : List zE) : Prop := ∀ o, o < L.length → 1 ≤ o → o ≤ 3 * (zL L o).2.1 + 4
def zBe : Nat → Nat
  | 0 => 0
  | d + 1 => 3 * zBe d + 4
theorem zB3_d {n : Nat} {q : Nat → Int} {L : List zE} (h : zBL n q L) (h3 : zB3 L) : ∀ d o, o < L.length → (zL L o).2.2.2 ≤ d → o ≤ zBe d
  | 0, o, ho, hd => by
    rcases Nat.eq_zero_or_pos o with e | e
    · rw [e]
      exact Nat.zero_le _
    · have := ((h.2.2.2 o ho).2 e).2.2.2.1
      omega
  | d + 1, o, ho, hd => by
    rcases Nat.eq_zero_or_pos o with e | e
    · rw [e]
      exact Nat.zero_le _
    · have g := (h.2.2.2 o ho).2 e
      have := zB3_d h h3 d (zL L o).2.1 (by omega) (by omega)
      have := h3 o ho e
      show o ≤ 3 * zBe d + 4
      omega
theorem zB3_n {L : List zE} {e : zE} (h : zB3 L) (he : L.length ≤ 3 * e.2.1 + 4) : zB3 (L ++ [e]) := by
  intro o ho h1
  rw [List.length_append] at ho
  simp only [List.length_cons, List.length_nil] at ho
  rcases Nat.lt_or_ge o L.length with c | c
  · rw [zL_l c]
    exact h o c h1
  · have e2 : o = L.length := by omega
    subst e2
    rw [zL_r]
    exact he
theorem zbi_e {n a k f : Nat} {q : Nat → Int} {L : List zE} (h : zBL n q L) (ha : a < L.length) (h1 : 1 ≤ a) (hf : f = 0 ∨ (f = 1 ∧ k = (zL L a).2.2.1)) : zbi n a f k L = L := by
  rcases hf with rfl | ⟨rfl, rfl⟩
  · rfl
  · exact zba_s h ha h1
set_option maxHeartbeats 4000000 in
set_option maxRecDepth 20000 in
theorem C_isKnown {w : jS} {se n : Nat} (hK : SK w.2 se) (hn4 : n ≤ 4) {g : Prop} {L : List zE} {q0 : Nat → Int} (hC : cSL w.1 se n g L) (hBL : zBL n q0 L) (hl : L.length ≤ 161) {s sc : Nat} {q : Nat → Int} (hks : w.2.1 s = (6, 0)) (hkc : w.2.1 sc = (100, 44)) (hrc : w.2.2.1 s 1 = some sc) (hn0 : w.1 s 0 = (n : Int)) (hQ : zQ q n) (hRR : ∀ j, j < 28 → w.1 sc j = cz q n j) : jCall 33 [jO se, jO s] w (jvb (¬ znw2 L n q) w) := by
  have mt : jtb 33 = jT33 := rfl
  show jWp 33 0 [some (jO se), some (jO s), none] [] 0 0 w _
  refine jWp.blk mt 2 ?_
  show jWp 33 2 [some (jO se), some (jO s), some (jI 0)] [] 0 0 w _
  have lp1 : ∀ (N : Nat) (i : Nat) (hi : i ≤ L.length) (hA : ∀ o, o < i → ¬ zal (zL L o).1 q n), L.length - i < N → jWp 33 2 [some (jO se), some (jO s), some (jI (i : Int))] [] 0 0 w (jvb (¬ znw2 L n q) w) := by
    intro N
    induction N with
    | zero => intro i hi hA hm; omega
    | succ N ih2 =>
      intro i hi hA hm
      refine jWp.blk mt 2 ?_
      show _ ∧ jWp 33 4 [some (jO se), some (jO s), some (jI (i : Int))] [jO se, jI (i : Int)] 0 0 w _
      refine ⟨rfl, ?_⟩
      refine jWp.getI (pc' := 7) mt rfl rfl (jtg hK.k0) ?_
      rw [show (w.1 se 0) = (L.length : Int) from hC.1]
      show jWp 33 7 [some (jO se), some (jO s), some (jI (i : Int))] [jI (L.length : Int), jI (i : Int)] 0 0 w _
      refine jWp.icmp (pc' := 10) mt rfl rfl (b32_id (by omega) (by omega)) (b32_id (by omega) (by omega)) (fun h3 => ?_) (fun h3 => ?_)
      · have h3 : (L.length : Int) ≤ (i : Int) := h3
        refine jWp.blk mt 1 ?_
        show jWp 33 39 [some (jO se), some (jO s), some (jI (i : Int))] [jI 0] 0 0 w _
        refine jWp.iretz mt rfl ⟨rfl, rfl⟩ rfl (Or.inl rfl) ?_
        exact Or.inr ⟨rfl, rfl, fun z => z (fun o ho => hA o (by omega))⟩
      · have h3 : (i : Int) < (L.length : Int) := h3
        refine jWp.blk mt 2 ?_
        show jWp 33 14 [some (jO se), some (jO s), some (jI (i : Int))] [jI 161, jI (i : Int)] 0 0 w _
        refine jWp.icmp (pc' := 17) mt rfl rfl (b32_id (by omega) (by omega)) (show b32 161 = 161 by decide) (fun h4 => ?_) (fun h4 => ?_)
        · have h4 : 161 ≤ (i : Int) := h4
          refine jWp.blk mt 1 ?_
          show jWp 33 39 [some (jO se), some (jO s), some (jI (i : Int))] [jI 0] 0 0 w _
          refine jWp.iretz mt rfl ⟨rfl, rfl⟩ rfl (Or.inl rfl) ?_
          exact Or.inr ⟨rfl, rfl, fun z => z (fun o ho => hA o (by omega))⟩
        · have h4 : (i : Int) < 161 := h4
          refine jWp.blk mt 1 ?_
          show _ ∧ jWp 33 18 [some (jO se), some (jO s), some (jI (i : Int))] [jO se] 0 0 w _
          refine ⟨rfl, ?_⟩
          refine jWp.getR (pc' := 21) (o := (se + 1)) mt rfl rfl (jtg hK.k0) hK.r1 ?_
          show jWp 33 21 [some (jO se), some (jO s), some (jI (i : Int))] [jO (se + 1)] 0 0 w _
          refine jWp.blk mt 1 ?_
          show jWp 33 22 [some (jO se), some (jO s), some (jI (i : Int))] [jI (i : Int), jO (se + 1)] 0 0 w _
          refine jWp.aald (pc' := 23) (j := i) (o := (se + (5 + 2 * i))) mt rfl rfl (jrg hK.k1 (by decide) (by decide)) (b32_id (by omega) (by omega)) (jlt hK.k1 (by omega)) (hK.q i (by omega)) ?_
          show jWp 33 23 [some (jO se), some (jO s), some (jI (i : Int))] [jO (se + (5 + 2 * i))] 0 0 w _
          refine jWp.blk mt 1 ?_
          show _ ∧ jWp 33 24 [some (jO se), some (jO s), some (jI (i : Int))] [jO s, jO (se + (5 + 2 * i))] 0 0 w _
          refine ⟨rfl, ?_⟩
          refine jWp.callv (as := [jO (se + (5 + 2 * i)), jO s]) (rest := []) mt rfl rfl rfl ⟨rfl, jtg (hK.o i (by omega))⟩ ?_
          refine jCall.mono (C_alike (w := w) (s := se + (5 + 2 * i)) (sc := se + (6 + 2 * i)) (n := n) (q := (zL L i).1) (s2 := s) (sc2 := sc) (p := q) (hK.o i (by omega)) (hK.c i (by omega)) (hK.rc i (by omega)) (hC.2 i (by omega)).1 hn4 (hBL.2.2.2 i (by omega)).1 (hC.2 i (by omega)).2.1.1 hks hkc hrc hn0 hQ hRR) (fun v9 w9 h9 => ?_)
          rcases h9 with ⟨rfl, h9, h5⟩ | ⟨rfl, h9, h5⟩ <;> subst w9
          · have h5 : zal (zL L i).1 q n := h5
            show jWp 33 27 [some (jO se), some (jO s), some (jI (i : Int))] [jI 1] 0 0 w _
            refine jWp.ifc (b := false) mt rfl (by decide) rfl ?_
            show jWp 33 30 [some (jO se), some (jO s), some (jI (i : Int))] [] 0 0 w _
            refine jWp.blk mt 1 ?_
            show jWp 33 31 [some (jO se), some (jO s), some (jI (i : Int))] [jI 1] 0 0 w _
            refine jWp.iretz mt rfl ⟨rfl, rfl⟩ rfl (Or.inr rfl) ?_
            exact Or.inl ⟨rfl, rfl, fun z => z i (by omega) (by assumption)⟩
          · have h5 : ¬ (zal (zL L i).1 q n) := h5
            show jWp 33 27 [some (jO se), some (jO s), some (jI (i : Int))] [jI 0] 0 0 w _
            refine jWp.ifc (b := true) mt rfl (by decide) rfl ?_
            show jWp 33 32 [some (jO se), some (jO s), some (jI (i : Int))] [] 0 0 w _
            refine jWp.blk mt 2 ?_
            show jWp 33 2 [some (jO se), some (jO s), some (jI ((i : Int) + 1))] [] 0 0 w _
            refine jWp.le (l := [some (jO se), some (jO s), some (jI ((i : Int) + 1))]) (by exact ⟨rfl, rfl, rfl, trivial⟩) ?_
            exact ih2 (i + 1) (by omega) (fun o ho => by rcases Nat.lt_or_ge o i with e | e; exact hA o e; rw [show o = i by omega]; assumption) (by omega)
  refine jWp.le (l := [some (jO se), some (jO s), some (jI 0)]) (by exact ⟨rfl, rfl, rfl, trivial⟩) ?_
  exact lp1 _ 0 (by omega) (fun o ho => absurd ho (by omega)) (Nat.lt_succ_self _)
set_option maxHeartbeats 4000000 in
set_option maxRecDepth 20000 in
theorem C_explore {w : jS} {se n : Nat} (hK : SK w.2 se) (hn4 : n ≤ 4) {s0 sc0 e f1 f2 d : Nat} {q : Nat → Int} {g : Prop} {G : (Nat → Int) → Prop} (hG : zG G) (hgq : g → G q) (hQ : zQ q n) (hks0 : w.2.1 s0 = (6, 0)) (hkc0 : w.2.1 sc0 = (100, 44)) (hrc0 : w.2.2.1 s0 1 = some sc0) (hn0 : w.1 s0 0 = (n : Int)) (hRR : cR g (w.1 sc0) q n) (hke : w.2.1 e = (1, 0)) (hr1 : w.2.2.1 e 0 = some f1) (hr2 : w.2.2.1 e 1 = some f2) (hk1 : w.2.1 f1 = (2, 0)) (hk2 : w.2.1 f2 = (2, 0)) (hff : f1 ≠ f2) (hlt : s0 < se ∧ sc0 < se ∧ f1 < se ∧ f2 < se) (hd : d ≤ 4) : jCall 32 [jO se, jO s0, jI (d : Int), jO e] w (fun v w1 => v = none ∧ w1.2 = w.2 ∧ (∀ b, b ≠ f1 → b ≠ f2 → (b < se ∨ se + 327 ≤ b) → w1.1 b = w.1 b) ∧ cSL w1.1 se n g (zBF n d q) ∧ zBL n q (zBF n d q) ∧ (zBF n d q).length ≤ 161 ∧ (g → ∀ o, o < (zBF n d q).length → G (zL (zBF n d q) o).1)) := by
  have mt : jtb 32 = jT32 := rfl
  have hn2 := hQ.S.n2
  have hs01 : s0 ≠ f1 := kne hks0 hk1 (by decide)
  have hs02 : s0 ≠ f2 := kne hks0 hk2 (by decide)
  show jWp 32 0 [some (jO se), some (jO s0), some (jI (d : Int)), some (jO e), none, none, none] [] 0 0 w _
  refine jWp.blk mt 1 ?_
  show _ ∧ jWp 32 1 [some (jO se), some (jO s0), some (jI (d : Int)), some (jO e), none, none, none] [jO se] 0 0 w _
  refine ⟨rfl, ?_⟩
  refine jWp.getR (pc' := 4) (o := (se + 1)) mt rfl rfl (jtg hK.k0) hK.r1 ?_
  show jWp 32 4 [some (jO se), some (jO s0), some (jI (d : Int)), some (jO e), none, none, none] [jO (se + 1)] 0 0 w _
  refine jWp.blk mt 1 ?_
  show jWp 32 5 [some (jO se), some (jO s0), some (jI (d : Int)), some (jO e), none, none, none] [jI 0, jO (se + 1)] 0 0 w _
  refine jWp.aald (pc' := 6) (j := 0) (o := (se + (5 + 2 * 0))) mt rfl rfl (jrg hK.k1 (by decide) (by decide)) (by decide) (jlt hK.k1 (by decide)) (hK.q 0 (by omega)) ?_
  show jWp 32 6 [some (jO se), some (jO s0), some (jI (d : Int)), some (jO e), none, none, none] [jO (se + (5 + 2 * 0))] 0 0 w _
  refine jWp.blk mt 1 ?_
  show _ ∧ jWp 32 7 [some (jO se), some (jO s0), some (jI (d : Int)), some (jO e), none, none, none] [jO s0, jO (se + (5 + 2 * 0))] 0 0 w _
  refine ⟨rfl, ?_⟩
  refine jWp.callv (as := [jO (se + (5 + 2 * 0)), jO s0]) (rest := []) mt rfl rfl rfl ⟨rfl, jtg (hK.o 0 (by omega))⟩ ?_
  refine jCall.mono ((by have h := C_become (w := w) (s := se + (5 + 2 * 0)) (sc := se + (6 + 2 * 0)) (s2 := s0) (sc2 := sc0) (hK.o 0 (by decide)) (hK.c 0 (by decide)) (hK.rc 0 (by decide)) hks0 hkc0 hrc0 rfl; exact h)) (fun v9 w9 h9 => ?_)
  obtain ⟨rfl, hbf, hb0, hbc⟩ := h9
  obtain ⟨M0, G9⟩ := w9
  have hg : G9 = w.2 := hbf.1
  subst hg
  show jWp 32 10 [some (jO se), some (jO s0), some (jI (d : Int)), some (jO e), none, none, none] [] 0 0 (M0, w.2) _
  refine jWp.blk mt 1 ?_
  show _ ∧ jWp 32 11 [some (jO se), some (jO s0), some (jI (d : Int)), some (jO e), none, none, none] [jO se] 0 0 (M0, w.2) _
  refine ⟨rfl, ?_⟩
  refine jWp.getR (pc' := 14) (o := (se + 3)) mt rfl rfl (jtg hK.k0) hK.r3 ?_
  show jWp 32 14 [some (jO se), some (jO s0), some (jI (d : Int)), some (jO e), none, none, none] [jO (se + 3)] 0 0 (M0, w.2) _
  refine jWp.blk mt 2 ?_
  show jWp 32 16 [some (jO se), some (jO s0), some (jI (d : Int)), some (jO e), none, none, none] [jI (-1), jI 0, jO (se + 3)] 0 0 (M0, w.2) _
  refine jWp.iast (pc' := 17) (j := 0) mt rfl rfl (jtg hK.k3) (by decide) (jlt hK.k3 (by decide)) ?_
  show jWp 32 17 [some (jO se), some (jO s0), some (jI (d : Int)), some (jO e), none, none, none] [] 0 0 (jW (M0, w.2) (se + 3) 0 (-1)) _
  refine jWp.blk mt 1 ?_
  show _ ∧ jWp 32 18 [some (jO se), some (jO s0), some (jI (d : Int)), some (jO e), none, none, none] [jO se] 0 0 (jW (M0, w.2) (se + 3) 0 (-1)) _
  refine ⟨rfl, ?_⟩
  refine jWp.getR (pc' := 21) (o := (se + 4)) mt rfl rfl (jtg hK.k0) hK.r4 ?_
  show jWp 32 21 [some (jO se), some (jO s0), some (jI (d : Int)), some (jO e), none, none, none] [jO (se + 4)] 0 0 (jW (M0, w.2) (se + 3) 0 (-1)) _
  refine jWp.blk mt 2 ?_
  show jWp 32 23 [some (jO se), some (jO s0), some (jI (d : Int)), some (jO e), none, none, none] [jI 0, jI 0, jO (se + 4)] 0 0 (jW (M0, w.2) (se + 3) 0 (-1)) _
  refine jWp.iast (pc' := 24) (j := 0) mt rfl rfl (jtg hK.k4) (by decide) (jlt hK.k4 (by decide)) ?_
  show jWp 32 24 [some (jO se), some (jO s0), some (jI (d : Int)), some (jO e), none, none, none] [] 0 0 (jW (jW (M0, w.2) (se + 3) 0 (-1)) (se + 4) 0 0) _
  refine jWp.blk mt 2 ?_
  show _ ∧ jWp 32 26 [some (jO se), some (jO s0), some (jI (d : Int)), some (jO e), none, none, none] [jI 1, jO se] 0 0 (jW (jW (M0, w.2) (se + 3) 0 (-1)) (se + 4) 0 0) _
  refine ⟨rfl, ?_⟩
  refine jWp.putI (pc' := 29) mt rfl rfl (jtg hK.k0) ?_
  show jWp 32 29 [some (jO se), some (jO s0), some (jI (d : Int)), some (jO e), none, none, none] [] 0 0 (jW (jW (jW (M0, w.2) (se + 3) 0 (-1)) (se + 4) 0 0) se 0 1) _
  refine jWp.blk mt 2 ?_
  show jWp 32 32 [some (jO se), some (jO s0), some (jI (d : Int)), some (jO e), some (jI 0), none, none] [] 0 0 (jW (jW (jW (M0, w.2) (se + 3) 0 (-1)) (se + 4) 0 0) se 0 1) _
  have lp1 : ∀ (N : Nat) (a c1 : Nat) (L1 : List zE) (M1 : Nat → Nat → Int) (hc1 : L1.length = c1) (hcc : (a = 0 ∧ c1 = 1) ∨ (1 ≤ a ∧ c1 ≤ 2 + 3 * a ∧ c1 ≤ 161 ∧ a ≤ c1)) (hfr1 : ∀ b, b ≠ f1 → b ≠ f2 → (b < se ∨ se + 327 ≤ b) → M1 b = w.1 b) (hC1 : cSL M1 se n g L1) (hBL1 : zBL n q L1) (hB31 : zB3 L1) (hGL1 : g → ∀ o, o < L1.length → G (zL L1 o).1) (hz1 : zbo n d (400 - a) a L1 = zBF n d q), 342 - a < N → jWp 32 32 [some (jO se), some (jO s0), some (jI (d : Int)), some (jO e), some (jI (a : Int)), none, none] [] 0 0 (M1, w.2) (fun v w1 => v = none ∧ w1.2 = w.2 ∧ (∀ b, b ≠ f1 → b ≠ f2 → (b < se ∨ se + 327 ≤ b) → w1.1 b = w.1 b) ∧ cSL w1.1 se n g (zBF n d q) ∧ zBL n q (zBF n d q) ∧ (zBF n d q).length ≤ 161 ∧ (g → ∀ o, o < (zBF n d q).length → G (zL (zBF n d q) o).1)) := by
    intro N
    induction N with
    | zero => intro a c1 L1 M1 hc1 hcc hfr1 hC1 hBL1 hB31 hGL1 hz1 hm; omega
    | succ N ih2 =>
      intro a c1 L1 M1 hc1 hcc hfr1 hC1 hBL1 hB31 hGL1 hz1 hm
      have haw : a < c1 → (zL L1 a).2.2.2 ≤ a := fun z => zBL_w hBL1 (a + 1) a (by omega) (by omega)
      have h52 : a < c1 → (zL L1 a).2.2.2 < d → a ≤ 52 := fun z1 z2 => zB3_d hBL1 hB31 3 a (by omega) (by omega)
      have hl11 := hBL1.1
      refine jWp.blk mt 2 ?_
      show _ ∧ jWp 32 35 [some (jO se), some (jO s0), some (jI (d : Int)), some (jO e), some (jI (a : Int)), none, none] [jO se, jI (a : Int)] 0 0 (M1, w.2) _
      refine ⟨rfl, ?_⟩
      refine jWp.getI (pc' := 38) mt rfl rfl (jtg hK.k0) ?_
      rw [show ((M1, w.2).1 se 0) = (c1 : Int) from (hC1.1.trans (by rw [hc1]))]
      show jWp 32 38 [some (jO se), some (jO s0), some (jI (d : Int)), some (jO e), some (jI (a : Int)), none, none] [jI (c1 : Int), jI (a : Int)] 0 0 (M1, w.2) _
      refine jWp.icmp (pc' := 41) mt rfl rfl (b32_id (by omega) (by omega)) (b32_id (by omega) (by omega)) (fun h3 => ?_) (fun h3 => ?_)
      · have h3 : (c1 : Int) ≤ (a : Int) := h3
        refine jWp.vret mt rfl ⟨rfl, rfl⟩ rfl ?_
        rw [show zBF n d q = L1 from by rw [← hz1, zbo_f (fun z => by omega)]]
        exact ⟨rfl, rfl, hfr1, hC1, hBL1, by omega, hGL1⟩
      · have h3 : (a : Int) < (c1 : Int) := h3
        refine jWp.blk mt 2 ?_
        show jWp 32 46 [some (jO se), some (jO s0), some (jI (d : Int)), some (jO e), some (jI (a : Int)), none, none] [jI 161, jI (a : Int)] 0 0 (M1, w.2) _
        refine jWp.icmp (pc' := 49) mt rfl rfl (b32_id (by omega) (by omega)) (show b32 161 = 161 by decide) (fun h4 => ?_) (fun h4 => ?_)
        · have h4 : 161 ≤ (a : Int) := h4
          refine jWp.vret mt rfl ⟨rfl, rfl⟩ rfl ?_
          rw [show zBF n d q = L1 from by rw [← hz1, zbo_f (fun z => by omega)]]
          exact ⟨rfl, rfl, hfr1, hC1, hBL1, by omega, hGL1⟩
        · have h4 : (a : Int) < 161 := h4
          refine jWp.blk mt 1 ?_
          show _ ∧ jWp 32 50 [some (jO se), some (jO s0), some (jI (d : Int)), some (jO e), some (jI (a : Int)), none, none] [jO se] 0 0 (M1, w.2) _
          refine ⟨rfl, ?_⟩
          refine jWp.getR (pc' := 53) (o := (se + 4)) mt rfl rfl (jtg hK.k0) hK.r4 ?_
          show jWp 32 53 [some (jO se), some (jO s0), some (jI (d : Int)), some (jO e), some (jI (a : Int)), none, none] [jO (se + 4)] 0 0 (M1, w.2) _
          refine jWp.blk mt 1 ?_
          show jWp 32 55 [some (jO se), some (jO s0), some (jI (d : Int)), some (jO e), some (jI (a : Int)), none, none] [jI (a : Int), jO (se + 4)] 0 0 (M1, w.2) _
          refine jWp.iald (pc' := 56) (j := a) mt rfl rfl (jird_of hK.k4) (b32_id (by omega) (by omega)) (jlt hK.k4 (by omega)) ?_
          rw [show ((M1, w.2).1 (se + 4) a) = ((zL L1 a).2.2.2 : Int) from (hC1.2 a (by omega)).2.2.1]
          show jWp 32 56 [some (jO se), some (jO s0), some (jI (d : Int)), some (jO e), some (jI (a : Int)), none, none] [jI ((zL L1 a).2.2.2 : Int)] 0 0 (M1, w.2) _
          refine jWp.blk mt 1 ?_
          show jWp 32 57 [some (jO se), some (jO s0), some (jI (d : Int)), some (jO e), some (jI (a : Int)), none, none] [jI (d : Int), jI ((zL L1 a).2.2.2 : Int)] 0 0 (M1, w.2) _
          refine jWp.icmp (pc' := 60) mt rfl rfl (b32_id (by omega) (by omega)) (b32_id (by omega) (by omega)) (fun h5 => ?_) (fun h5 => ?_)
          · have h5 : (d : Int) ≤ ((zL L1 a).2.2.2 : Int) := h5
            refine jWp.vret mt rfl ⟨rfl, rfl⟩ rfl ?_
            rw [show zBF n d q = L1 from by rw [← hz1, zbo_f (fun z => by omega)]]
            exact ⟨rfl, rfl, hfr1, hC1, hBL1, by omega, hGL1⟩
          · have h5 : ((zL L1 a).2.2.2 : Int) < (d : Int) := h5
            refine jWp.blk mt 2 ?_
            show jWp 32 63 [some (jO se), some (jO s0), some (jI (d : Int)), some (jO e), some (jI (a : Int)), some (jI 0), none] [] 0 0 (M1, w.2) _
            have lp6 : ∀ (N : Nat) (k c : Nat) (L2 : List zE) (M2 : Nat → Nat → Int) (hk : k ≤ n) (hc2 : L2.length = c) (hcnt : (a = 0 ∧ c ≤ 1 + k) ∨ (1 ≤ a ∧ (((zL L2 a).2.2.1 < k ∧ c + 1 ≤ 2 + 3 * a + k) ∨ (k ≤ (zL L2 a).2.2.1 ∧ c ≤ 2 + 3 * a + k)))) (hfr2 : ∀ b, b ≠ f1 → b ≠ f2 → (b < se ∨ se + 327 ≤ b) → M2 b = w.1 b) (hC2 : cSL M2 se n g L2) (hBL2 : zBL n q L2) (hB32 : zB3 L2) (hGL2 : g → ∀ o, o < L2.length → G (zL L2 o).1) (hA2 : a < L2.length ∧ (zL L2 a).2.2.2 < d) (hz2 : zbo n d (399 - a) (a + 1) (zbi n a (n - k) k L2) = zBF n d q), n - k < N → jWp 32 63 [some (jO se), some (jO s0), some (jI (d : Int)), some (jO e), some (jI (a : Int)), some (jI (k : Int)), none] [] 0 0 (M2, w.2) (fun v w1 => v = none ∧ w1.2 = w.2 ∧ (∀ b, b ≠ f1 → b ≠ f2 → (b < se ∨ se + 327 ≤ b) → w1.1 b = w.1 b) ∧ cSL w1.1 se n g (zBF n d q) ∧ zBL n q (zBF n d q) ∧ (zBF n d q).length ≤ 161 ∧ (g → ∀ o, o < (zBF n d q).length → G (zL (zBF n d q) o).1)) := by
              intro N
              induction N with
              | zero => intro k c L2 M2 hk hc2 hcnt hfr2 hC2 hBL2 hB32 hGL2 hA2 hz2 hm; omega
              | succ N ih7 =>
                intro k c L2 M2 hk hc2 hcnt hfr2 hC2 hBL2 hB32 hGL2 hA2 hz2 hm
                have h52b := h52 (by omega) (by omega)
                have hby : 1 ≤ a → (zL L2 a).2.2.1 < n := fun z => ((hBL2.2.2.2 a (by omega)).2 z).2.1
                refine jWp.blk mt 2 ?_
                show _ ∧ jWp 32 66 [some (jO se), some (jO s0), some (jI (d : Int)), some (jO e), some (jI (a : Int)), some (jI (k : Int)), none] [jO s0, jI (k : Int)] 0 0 (M2, w.2) _
                refine ⟨rfl, ?_⟩
                refine jWp.getI (pc' := 69) mt rfl rfl (jtg hks0) ?_
                rw [show ((M2, w.2).1 s0 0) = (n : Int) from ((congrFun (hfr2 s0 hs01 hs02 (Or.inl hlt.1)) 0).trans hn0)]
                show jWp 32 69 [some (jO se), some (jO s0), some (jI (d : Int)), some (jO e), some (jI (a : Int)), some (jI (k : Int)), none] [jI (n : Int), jI (k : Int)] 0 0 (M2, w.2) _
                refine jWp.icmp (pc' := 72) mt rfl rfl (b32_id (by omega) (by omega)) (b32_id (by omega) (by omega)) (fun h8 => ?_) (fun h8 => ?_)
                · have h8 : (n : Int) ≤ (k : Int) := h8
                  refine jWp.blk mt 2 ?_
                  show jWp 32 32 [some (jO se), some (jO s0), some (jI (d : Int)), some (jO e), some (jI ((a : Int) + 1)), some (jI (k : Int)), none] [] 0 0 (M2, w.2) _
                  refine jWp.le (l := [some (jO se), some (jO s0), some (jI (d : Int)), some (jO e), some (jI ((a : Int) + 1)), none, none]) (by exact ⟨rfl, rfl, rfl, rfl, rfl, trivial⟩) ?_
                  exact ih2 (a + 1) c L2 M2 hc2 (by omega) hfr2 hC2 hBL2 hB32 hGL2 (by first | (rw [← hz2, show n - k = 0 by omega, show 400 - (a + 1) = 399 - a by omega]; rfl) | (rw [← hz2, zbi_e hBL2 (by omega) (by omega) (by omega), show 400 - (a + 1) = 399 - a by omega])) (by omega)
                · have h8 : (k : Int) < (n : Int) := h8
                  refine jWp.blk mt 1 ?_
                  show _ ∧ jWp 32 73 [some (jO se), some (jO s0), some (jI (d : Int)), some (jO e), some (jI (a : Int)), some (jI (k : Int)), none] [jO se] 0 0 (M2, w.2) _
                  refine ⟨rfl, ?_⟩
                  refine jWp.getI (pc' := 76) mt rfl rfl (jtg hK.k0) ?_
                  rw [show ((M2, w.2).1 se 0) = (c : Int) from (hC2.1.trans (by rw [hc2]))]
                  show jWp 32 76 [some (jO se), some (jO s0), some (jI (d : Int)), some (jO e), some (jI (a : Int)), some (jI (k : Int)), none] [jI (c : Int)] 0 0 (M2, w.2) _
                  refine jWp.blk mt 1 ?_
                  show jWp 32 79 [some (jO se), some (jO s0), some (jI (d : Int)), some (jO e), some (jI (a : Int)), some (jI (k : Int)), none] [jI 161, jI (c : Int)] 0 0 (M2, w.2) _
                  refine jWp.icmp (pc' := 82) mt rfl rfl (b32_id (by omega) (by omega)) (show b32 161 = 161 by decide) (fun h9 => ?_) (fun h9 => ?_)
                  · have h9 : 161 ≤ (c : Int) := h9
                    refine jWp.blk mt 2 ?_
                    show jWp 32 32 [some (jO se), some (jO s0), some (jI (d : Int)), some (jO e), some (jI ((a : Int) + 1)), some (jI (k : Int)), none] [] 0 0 (M2, w.2) _
                    refine jWp.le (l := [some (jO se), some (jO s0), some (jI (d : Int)), some (jO e), some (jI ((a : Int) + 1)), none, none]) (by exact ⟨rfl, rfl, rfl, rfl, rfl, trivial⟩) ?_
                    exact ih2 (a + 1) c L2 M2 hc2 (by omega) hfr2 hC2 hBL2 hB32 hGL2 (by first | (rw [← hz2, show n - k = 0 by omega, show 400 - (a + 1) = 399 - a by omega]; rfl) | (rw [← hz2, zbi_e hBL2 (by omega) (by omega) (by omega), show 400 - (a + 1) = 399 - a by omega])) (by omega)
                  · have h9 : (c : Int) < 161 := h9
                    refine jWp.blk mt 1 ?_
                    show _ ∧ jWp 32 83 [some (jO se), some (jO s0), some (jI (d : Int)), some (jO e), some (jI (a : Int)), some (jI (k : Int)), none] [jO se] 0 0 (M2, w.2) _
                    refine ⟨rfl, ?_⟩
                    refine jWp.getR (pc' := 86) (o := (se + 1)) mt rfl rfl (jtg hK.k0) hK.r1 ?_
                    show jWp 32 86 [some (jO se), some (jO s0), some (jI (d : Int)), some (jO e), some (jI (a : Int)), some (jI (k : Int)), none] [jO (se + 1)] 0 0 (M2, w.2) _
                    refine jWp.blk mt 1 ?_
                    show _ ∧ jWp 32 87 [some (jO se), some (jO s0), some (jI (d : Int)), some (jO e), some (jI (a : Int)), some (jI (k : Int)), none] [jO se, jO (se + 1)] 0 0 (M2, w.2) _
                    refine ⟨rfl, ?_⟩
                    refine jWp.getI (pc' := 90) mt rfl rfl (jtg hK.k0) ?_
                    rw [show ((M2, w.2).1 se 0) = (c : Int) from (hC2.1.trans (by rw [hc2]))]
                    show jWp 32 90 [some (jO se), some (jO s0), some (jI (d : Int)), some (jO e), some (jI (a : Int)), some (jI (k : Int)), none] [jI (c : Int), jO (se + 1)] 0 0 (M2, w.2) _
                    refine jWp.aald (pc' := 91) (j := c) (o := (se + (5 + 2 * c))) mt rfl rfl (jrg hK.k1 (by decide) (by decide)) (b32_id (by omega) (by omega)) (jlt hK.k1 (by omega)) (hK.q c (by omega)) ?_
                    show jWp 32 91 [some (jO se), some (jO s0), some (jI (d : Int)), some (jO e), some (jI (a : Int)), some (jI (k : Int)), none] [jO (se + (5 + 2 * c))] 0 0 (M2, w.2) _
                    refine jWp.blk mt 3 ?_
                    show _ ∧ _ ∧ _ ∧ jWp 32 96 [some (jO se), some (jO s0), some (jI (d : Int)), some (jO e), some (jI (a : Int)), some (jI (k : Int)), some (jO (se + (5 + 2 * c)))] [jO se, jO (se + (5 + 2 * c))] 0 0 (M2, w.2) _
                    refine ⟨rfl, rfl, rfl, ?_⟩
                    refine jWp.getR (pc' := 99) (o := (se + 1)) mt rfl rfl (jtg hK.k0) hK.r1 ?_
                    show jWp 32 99 [some (jO se), some (jO s0), some (jI (d : Int)), some (jO e), some (jI (a : Int)), some (jI (k : Int)), some (jO (se + (5 + 2 * c)))] [jO (se + 1), jO (se + (5 + 2 * c))] 0 0 (M2, w.2) _
                    refine jWp.blk mt 1 ?_
                    show jWp 32 101 [some (jO se), some (jO s0), some (jI (d : Int)), some (jO e), some (jI (a : Int)), some (jI (k : Int)), some (jO (se + (5 + 2 * c)))] [jI (a : Int), jO (se + 1), jO (se + (5 + 2 * c))] 0 0 (M2, w.2) _
                    refine jWp.aald (pc' := 102) (j := a) (o := (se + (5 + 2 * a))) mt rfl rfl (jrg hK.k1 (by decide) (by decide)) (b32_id (by omega) (by omega)) (jlt hK.k1 (by omega)) (hK.q a (by omega)) ?_
                    show jWp 32 102 [some (jO se), some (jO s0), some (jI (d : Int)), some (jO e), some (jI (a : Int)), some (jI (k : Int)), some (jO (se + (5 + 2 * c)))] [jO (se + (5 + 2 * a)), jO (se + (5 + 2 * c))] 0 0 (M2, w.2) _
                    refine jWp.callv (as := [jO (se + (5 + 2 * c)), jO (se + (5 + 2 * a))]) (rest := []) mt rfl rfl rfl ⟨rfl, jtg (hK.o c (by omega))⟩ ?_
                    refine jCall.mono (C_become (w := (M2, w.2)) (s := se + (5 + 2 * c)) (sc := se + (6 + 2 * c)) (s2 := se + (5 + 2 * a)) (sc2 := se + (6 + 2 * a)) (hK.o c (by omega)) (hK.c c (by omega)) (hK.rc c (by omega)) (hK.o a (by omega)) (hK.c a (by omega)) (hK.rc a (by omega)) rfl) (fun v9 w9 h9 => ?_)
                    obtain ⟨rfl, hbf, hb0, hbc⟩ := h9
                    obtain ⟨M3, G9⟩ := w9
                    have hg : G9 = w.2 := hbf.1
                    subst hg
                    have h3m : ∀ b, b ≠ se + (5 + 2 * c) → b ≠ se + (6 + 2 * c) → M3 b = M2 b := fun b g1 g2 => hbf.2 b g1 g2
                    have h3n : M3 se 0 = (c : Int) := (congrFun (h3m se (by omega) (by omega)) 0).trans (hC2.1.trans (by rw [hc2]))
                    have hC3 : cSL M3 se n g L2 := cSL_k hC2 (congrFun (h3m se (by omega) (by omega)) 0) (fun o ho => ⟨h3m _ (by omega) (by omega), h3m _ (by omega) (by omega)⟩) (h3m _ (by omega) (by omega)) (h3m _ (by omega) (by omega)) (h3m _ (by omega) (by omega))
                    have h3b : M3 (se + 3) a = (if a = 0 then -1 else ((zL L2 a).2.2.1 : Int)) := (hC3.2 a (by omega)).2.2.2.1
                    have hfr3 : ∀ b, b ≠ f1 → b ≠ f2 → (b < se ∨ se + 327 ≤ b) → M3 b = w.1 b := fun b g1 g2 g3 => (h3m b (by omega) (by omega)).trans (hfr2 b g1 g2 g3)
                    have hcn : M3 (se + (5 + 2 * c)) 0 = (n : Int) := hb0.trans (hC2.2 a (by omega)).1
                    have hcR : cR g (M3 (se + (6 + 2 * c))) (zL L2 a).1 n := cR_C hbc (hC2.2 a (by omega)).2.1
                    show jWp 32 105 [some (jO se), some (jO s0), some (jI (d : Int)), some (jO e), some (jI (a : Int)), some (jI (k : Int)), some (jO (se + (5 + 2 * c)))] [] 0 0 (M3, w.2) _
                    refine jWp.blk mt 2 ?_
                    show _ ∧ jWp 32 108 [some (jO se), some (jO s0), some (jI (d : Int)), some (jO e), some (jI (a : Int)), some (jI (k : Int)), some (jO (se + (5 + 2 * c)))] [jO se, jI (k : Int)] 0 0 (M3, w.2) _
                    refine ⟨rfl, ?_⟩
                    refine jWp.getR (pc' := 111) (o := (se + 3)) mt rfl rfl (jtg hK.k0) hK.r3 ?_
                    show jWp 32 111 [some (jO se), some (jO s0), some (jI (d : Int)), some (jO e), some (jI (a : Int)), some (jI (k : Int)), some (jO (se + (5 + 2 * c)))] [jO (se + 3), jI (k : Int)] 0 0 (M3, w.2) _
                    refine jWp.blk mt 1 ?_
                    show jWp 32 113 [some (jO se), some (jO s0), some (jI (d : Int)), some (jO e), some (jI (a : Int)), some (jI (k : Int)), some (jO (se + (5 + 2 * c)))] [jI (a : Int), jO (se + 3), jI (k : Int)] 0 0 (M3, w.2) _
                    refine jWp.iald (pc' := 114) (j := a) mt rfl rfl (jird_of hK.k3) (b32_id (by omega) (by omega)) (jlt hK.k3 (by omega)) ?_
                    rw [show ((M3, w.2).1 (se + 3) a) = (if a = 0 then -1 else ((zL L2 a).2.2.1 : Int)) from h3b]
                    show jWp 32 114 [some (jO se), some (jO s0), some (jI (d : Int)), some (jO e), some (jI (a : Int)), some (jI (k : Int)), some (jO (se + (5 + 2 * c)))] [jI (if a = 0 then -1 else ((zL L2 a).2.2.1 : Int)), jI (k : Int)] 0 0 (M3, w.2) _
                    refine jWp.icmp (pc' := 117) mt rfl rfl (b32_id (by omega) (by omega)) (b32_id (by split <;> omega) (by split <;> omega)) (fun h10 => ?_) (fun h10 => ?_)
                    · have h10 : (k : Int) = (if a = 0 then -1 else ((zL L2 a).2.2.1 : Int)) := h10
                      refine jWp.blk mt 2 ?_
                      show jWp 32 63 [some (jO se), some (jO s0), some (jI (d : Int)), some (jO e), some (jI (a : Int)), some (jI ((k : Int) + 1)), some (jO (se + (5 + 2 * c)))] [] 0 0 (M3, w.2) _
                      refine jWp.le (l := [some (jO se), some (jO s0), some (jI (d : Int)), some (jO e), some (jI (a : Int)), some (jI ((k : Int) + 1)), none]) (by exact ⟨rfl, rfl, rfl, rfl, rfl, rfl, trivial⟩) ?_
                      exact ih7 (k + 1) c L2 M3 (by omega) hc2 (by omega) hfr3 hC3 hBL2 hB32 hGL2 hA2 (by rw [← hz2, show n - k = (n - (k + 1)) + 1 by omega]; show _ = zbo n d (399 - a) (a + 1) (zbi n a (n - (k + 1)) (k + 1) (zba n a k L2)); rw [show k = (zL L2 a).2.2.1 by omega, zba_s hBL2 (by omega) (by omega)]) (by omega)
                    · have h10 : (k : Int) ≠ (if a = 0 then -1 else ((zL L2 a).2.2.1 : Int)) := h10
                      refine jWp.blk mt 3 ?_
                      show _ ∧ _ ∧ jWp 32 122 [some (jO se), some (jO s0), some (jI (d : Int)), some (jO e), some (jI (a : Int)), some (jI (k : Int)), some (jO (se + (5 + 2 * c)))] [jI (k : Int), jO (se + (5 + 2 * c)), jO e] 0 0 (M3, w.2) _
                      refine ⟨rfl, rfl, ?_⟩
                      refine jWp.callv (as := [jO e, jO (se + (5 + 2 * c)), jI (k : Int)]) (rest := []) mt rfl rfl rfl ⟨rfl, jtg hke⟩ ?_
                      refine jCall.mono (C_make (w := (M3, w.2)) (s := se + (5 + 2 * c)) (sc := se + (6 + 2 * c)) (e := e) (f1 := f1) (f2 := f2) (n := n) (k := k) (q := (zL L2 a).1) (g := g) (G := G) (hK.o c (by omega)) (hK.c c (by omega)) (hK.rc c (by omega)) hcn hn4 hke hr1 hr2 hk1 hk2 hff hG (fun x => hGL2 x a (by omega)) (hBL2.2.2.2 a (by omega)).1 hcR (by omega)) (fun v9 w9 h9 => ?_)
                      obtain ⟨hmf, hh⟩ := h9
                      obtain ⟨M5, G9⟩ := w9
                      have hg : G9 = w.2 := hmf.1
                      subst hg
                      have h5m : ∀ b, b ≠ f1 → b ≠ f2 → b ≠ se + (6 + 2 * c) → M5 b = M3 b := fun b g1 g2 g3 => hmf.2 b g1 g2 g3
                      have h5n : M5 se 0 = (c : Int) := (congrFun (h5m se (by omega) (by omega) (by omega)) 0).trans h3n
                      have hC5 : cSL M5 se n g L2 := cSL_k hC3 (congrFun (h5m se (by omega) (by omega) (by omega)) 0) (fun o ho => ⟨h5m _ (by omega) (by omega) (by omega), h5m _ (by omega) (by omega) (by omega)⟩) (h5m _ (by omega) (by omega) (by omega)) (h5m _ (by omega) (by omega) (by omega)) (h5m _ (by omega) (by omega) (by omega))
                      have h5a : M5 (se + 4) a = ((zL L2 a).2.2.2 : Int) := (hC5.2 a (by omega)).2.2.1
                      have hfr5 : ∀ b, b ≠ f1 → b ≠ f2 → (b < se ∨ se + 327 ≤ b) → M5 b = w.1 b := fun b g1 g2 g3 => (h5m b g1 g2 (by omega)).trans (hfr3 b g1 g2 g3)
                      have hcn5 : M5 (se + (5 + 2 * c)) 0 = (n : Int) := (congrFun (h5m _ (by omega) (by omega) (by omega)) 0).trans hcn
                      rcases hh with ⟨rfl, hcan, hcr⟩ | ⟨rfl, hcan, hcr⟩
                      · have hcr : cR g (M5 (se + (6 + 2 * c))) (zxF (zL L2 a).1 n k) n := hcr
                        have hQn : zQ (zxF (zL L2 a).1 n k) n := zQ_x (hBL2.2.2.2 a (by omega)).1 (by omega) hcan
                        show jWp 32 125 [some (jO se), some (jO s0), some (jI (d : Int)), some (jO e), some (jI (a : Int)), some (jI (k : Int)), some (jO (se + (5 + 2 * c)))] [jI 1] 0 0 (M5, w.2) _
                        refine jWp.ifc (b := false) mt rfl (by decide) rfl ?_
                        show jWp 32 128 [some (jO se), some (jO s0), some (jI (d : Int)), some (jO e), some (jI (a : Int)), some (jI (k : Int)), some (jO (se + (5 + 2 * c)))] [] 0 0 (M5, w.2) _
                        refine jWp.blk mt 2 ?_
                        show _ ∧ _ ∧ jWp 32 131 [some (jO se), some (jO s0), some (jI (d : Int)), some (jO e), some (jI (a : Int)), some (jI (k : Int)), some (jO (se + (5 + 2 * c)))] [jO (se + (5 + 2 * c)), jO se] 0 0 (M5, w.2) _
                        refine ⟨rfl, rfl, ?_⟩
                        refine jWp.callv (as := [jO se, jO (se + (5 + 2 * c))]) (rest := []) mt rfl rfl rfl ⟨rfl, jtg hK.k0⟩ ?_
                        refine jCall.mono (C_isKnown (w := (M5, w.2)) (se := se) (n := n) (g := g) (L := L2) (q0 := q) (s := se + (5 + 2 * c)) (sc := se + (6 + 2 * c)) (q := zxF (zL L2 a).1 n k) hK hn4 hC5 hBL2 (by omega) (hK.o c (by omega)) (hK.c c (by omega)) (hK.rc c (by omega)) hcn5 hQn hcr.1) (fun v9 w9 h9 => ?_)
                        rcases h9 with ⟨rfl, h9, h11⟩ | ⟨rfl, h9, h11⟩ <;> subst w9
                        · have h11 : ¬ znw2 L2 n (zxF (zL L2 a).1 n k) := h11
                          show jWp 32 134 [some (jO se), some (jO s0), some (jI (d : Int)), some (jO e), some (jI (a : Int)), some (jI (k : Int)), some (jO (se + (5 + 2 * c)))] [jI 1] 0 0 (M5, w.2) _
                          refine jWp.ifc (b := true) mt rfl (by decide) rfl ?_
                          show jWp 32 187 [some (jO se), some (jO s0), some (jI (d : Int)), some (jO e), some (jI (a : Int)), some (jI (k : Int)), some (jO (se + (5 + 2 * c)))] [] 0 0 (M5, w.2) _
                          refine jWp.blk mt 2 ?_
                          show jWp 32 63 [some (jO se), some (jO s0), some (jI (d : Int)), some (jO e), some (jI (a : Int)), some (jI ((k : Int) + 1)), some (jO (se + (5 + 2 * c)))] [] 0 0 (M5, w.2) _
                          refine jWp.le (l := [some (jO se), some (jO s0), some (jI (d : Int)), some (jO e), some (jI (a : Int)), some (jI ((k : Int) + 1)), none]) (by exact ⟨rfl, rfl, rfl, rfl, rfl, rfl, trivial⟩) ?_
                          exact ih7 (k + 1) c L2 M5 (by omega) hc2 (by omega) hfr5 hC5 hBL2 hB32 hGL2 hA2 (by rw [← hz2, show n - k = (n - (k + 1)) + 1 by omega]; show _ = zbo n d (399 - a) (a + 1) (zbi n a (n - (k + 1)) (k + 1) (zba n a k L2)); rw [zba_f (fun z => by first | exact hcan z.1 | exact absurd z.2 (by assumption))]) (by omega)
                        · have h11 : ¬ (¬ znw2 L2 n (zxF (zL L2 a).1 n k)) := h11
                          show jWp 32 134 [some (jO se), some (jO s0), some (jI (d : Int)), some (jO e), some (jI (a : Int)), some (jI (k : Int)), some (jO (se + (5 + 2 * c)))] [jI 0] 0 0 (M5, w.2) _
                          refine jWp.ifc (b := false) mt rfl (by decide) rfl ?_
                          show jWp 32 137 [some (jO se), some (jO s0), some (jI (d : Int)), some (jO e), some (jI (a : Int)), some (jI (k : Int)), some (jO (se + (5 + 2 * c)))] [] 0 0 (M5, w.2) _
                          refine jWp.blk mt 1 ?_
                          show _ ∧ jWp 32 138 [some (jO se), some (jO s0), some (jI (d : Int)), some (jO e), some (jI (a : Int)), some (jI (k : Int)), some (jO (se + (5 + 2 * c)))] [jO se] 0 0 (M5, w.2) _
                          refine ⟨rfl, ?_⟩
                          refine jWp.getR (pc' := 141) (o := (se + 2)) mt rfl rfl (jtg hK.k0) hK.r2 ?_
                          show jWp 32 141 [some (jO se), some (jO s0), some (jI (d : Int)), some (jO e), some (jI (a : Int)), some (jI (k : Int)), some (jO (se + (5 + 2 * c)))] [jO (se + 2)] 0 0 (M5, w.2) _
                          refine jWp.blk mt 1 ?_
                          show _ ∧ jWp 32 142 [some (jO se), some (jO s0), some (jI (d : Int)), some (jO e), some (jI (a : Int)), some (jI (k : Int)), some (jO (se + (5 + 2 * c)))] [jO se, jO (se + 2)] 0 0 (M5, w.2) _
                          refine ⟨rfl, ?_⟩
                          refine jWp.getI (pc' := 145) mt rfl rfl (jtg hK.k0) ?_
                          rw [show ((M5, w.2).1 se 0) = (c : Int) from h5n]
                          show jWp 32 145 [some (jO se), some (jO s0), some (jI (d : Int)), some (jO e), some (jI (a : Int)), some (jI (k : Int)), some (jO (se + (5 + 2 * c)))] [jI (c : Int), jO (se + 2)] 0 0 (M5, w.2) _
                          refine jWp.blk mt 1 ?_
                          show jWp 32 147 [some (jO se), some (jO s0), some (jI (d : Int)), some (jO e), some (jI (a : Int)), some (jI (k : Int)), some (jO (se + (5 + 2 * c)))] [jI (a : Int), jI (c : Int), jO (se + 2)] 0 0 (M5, w.2) _
                          refine jWp.iast (pc' := 148) (j := c) mt rfl rfl (jtg hK.k2) (b32_id (by omega) (by omega)) (jlt hK.k2 (by omega)) ?_
                          show jWp 32 148 [some (jO se), some (jO s0), some (jI (d : Int)), some (jO e), some (jI (a : Int)), some (jI (k : Int)), some (jO (se + (5 + 2 * c)))] [] 0 0 (jW (M5, w.2) (se + 2) c (a : Int)) _
                          refine jWp.blk mt 1 ?_
                          show _ ∧ jWp 32 149 [some (jO se), some (jO s0), some (jI (d : Int)), some (jO e), some (jI (a : Int)), some (jI (k : Int)), some (jO (se + (5 + 2 * c)))] [jO se] 0 0 (jW (M5, w.2) (se + 2) c (a : Int)) _
                          refine ⟨rfl, ?_⟩
                          refine jWp.getR (pc' := 152) (o := (se + 3)) mt rfl rfl (jtg hK.k0) hK.r3 ?_
                          show jWp 32 152 [some (jO se), some (jO s0), some (jI (d : Int)), some (jO e), some (jI (a : Int)), some (jI (k : Int)), some (jO (se + (5 + 2 * c)))] [jO (se + 3)] 0 0 (jW (M5, w.2) (se + 2) c (a : Int)) _
                          refine jWp.blk mt 1 ?_
                          show _ ∧ jWp 32 153 [some (jO se), some (jO s0), some (jI (d : Int)), some (jO e), some (jI (a : Int)), some (jI (k : Int)), some (jO (se + (5 + 2 * c)))] [jO se, jO (se + 3)] 0 0 (jW (M5, w.2) (se + 2) c (a : Int)) _
                          refine ⟨rfl, ?_⟩
                          refine jWp.getI (pc' := 156) mt rfl rfl (jtg hK.k0) ?_
                          rw [show ((jW (M5, w.2) (se + 2) c (a : Int)).1 se 0) = (c : Int) from (((jW_a (by omega)).trans rfl).trans h5n)]
                          show jWp 32 156 [some (jO se), some (jO s0), some (jI (d : Int)), some (jO e), some (jI (a : Int)), some (jI (k : Int)), some (jO (se + (5 + 2 * c)))] [jI (c : Int), jO (se + 3)] 0 0 (jW (M5, w.2) (se + 2) c (a : Int)) _
                          refine jWp.blk mt 1 ?_
                          show jWp 32 158 [some (jO se), some (jO s0), some (jI (d : Int)), some (jO e), some (jI (a : Int)), some (jI (k : Int)), some (jO (se + (5 + 2 * c)))] [jI (k : Int), jI (c : Int), jO (se + 3)] 0 0 (jW (M5, w.2) (se + 2) c (a : Int)) _
                          refine jWp.iast (pc' := 159) (j := c) mt rfl rfl (jtg hK.k3) (b32_id (by omega) (by omega)) (jlt hK.k3 (by omega)) ?_
                          show jWp 32 159 [some (jO se), some (jO s0), some (jI (d : Int)), some (jO e), some (jI (a : Int)), some (jI (k : Int)), some (jO (se + (5 + 2 * c)))] [] 0 0 (jW (jW (M5, w.2) (se + 2) c (a : Int)) (se + 3) c (k : Int)) _
                          refine jWp.blk mt 1 ?_
                          show _ ∧ jWp 32 160 [some (jO se), some (jO s0), some (jI (d : Int)), some (jO e), some (jI (a : Int)), some (jI (k : Int)), some (jO (se + (5 + 2 * c)))] [jO se] 0 0 (jW (jW (M5, w.2) (se + 2) c (a : Int)) (se + 3) c (k : Int)) _
                          refine ⟨rfl, ?_⟩
                          refine jWp.getR (pc' := 163) (o := (se + 4)) mt rfl rfl (jtg hK.k0) hK.r4 ?_
                          show jWp 32 163 [some (jO se), some (jO s0), some (jI (d : Int)), some (jO e), some (jI (a : Int)), some (jI (k : Int)), some (jO (se + (5 + 2 * c)))] [jO (se + 4)] 0 0 (jW (jW (M5, w.2) (se + 2) c (a : Int)) (se + 3) c (k : Int)) _
                          refine jWp.blk mt 1 ?_
                          show _ ∧ jWp 32 164 [some (jO se), some (jO s0), some (jI (d : Int)), some (jO e), some (jI (a : Int)), some (jI (k : Int)), some (jO (se + (5 + 2 * c)))] [jO se, jO (se + 4)] 0 0 (jW (jW (M5, w.2) (se + 2) c (a : Int)) (se + 3) c (k : Int)) _
                          refine ⟨rfl, ?_⟩
                          refine jWp.getI (pc' := 167) mt rfl rfl (jtg hK.k0) ?_
                          rw [show ((jW (jW (M5, w.2) (se + 2) c (a : Int)) (se + 3) c (k : Int)).1 se 0) = (c : Int) from (((jW_a (by omega)).trans ((jW_a (by omega)).trans rfl)).trans h5n)]
                          show jWp 32 167 [some (jO se), some (jO s0), some (jI (d : Int)), some (jO e), some (jI (a : Int)), some (jI (k : Int)), some (jO (se + (5 + 2 * c)))] [jI (c : Int), jO (se + 4)] 0 0 (jW (jW (M5, w.2) (se + 2) c (a : Int)) (se + 3) c (k : Int)) _
                          refine jWp.blk mt 1 ?_
                          show _ ∧ jWp 32 168 [some (jO se), some (jO s0), some (jI (d : Int)), some (jO e), some (jI (a : Int)), some (jI (k : Int)), some (jO (se + (5 + 2 * c)))] [jO se, jI (c : Int), jO (se + 4)] 0 0 (jW (jW (M5, w.2) (se + 2) c (a : Int)) (se + 3) c (k : Int)) _
                          refine ⟨rfl, ?_⟩
                          refine jWp.getR (pc' := 171) (o := (se + 4)) mt rfl rfl (jtg hK.k0) hK.r4 ?_
                          show jWp 32 171 [some (jO se), some (jO s0), some (jI (d : Int)), some (jO e), some (jI (a : Int)), some (jI (k : Int)), some (jO (se + (5 + 2 * c)))] [jO (se + 4), jI (c : Int), jO (se + 4)] 0 0 (jW (jW (M5, w.2) (se + 2) c (a : Int)) (se + 3) c (k : Int)) _
                          refine jWp.blk mt 1 ?_
                          show jWp 32 173 [some (jO se), some (jO s0), some (jI (d : Int)), some (jO e), some (jI (a : Int)), some (jI (k : Int)), some (jO (se + (5 + 2 * c)))] [jI (a : Int), jO (se + 4), jI (c : Int), jO (se + 4)] 0 0 (jW (jW (M5, w.2) (se + 2) c (a : Int)) (se + 3) c (k : Int)) _
                          refine jWp.iald (pc' := 174) (j := a) mt rfl rfl (jird_of hK.k4) (b32_id (by omega) (by omega)) (jlt hK.k4 (by omega)) ?_
                          rw [show ((jW (jW (M5, w.2) (se + 2) c (a : Int)) (se + 3) c (k : Int)).1 (se + 4) a) = ((zL L2 a).2.2.2 : Int) from (((jW_a (by omega)).trans ((jW_a (by omega)).trans rfl)).trans h5a)]
                          show jWp 32 174 [some (jO se), some (jO s0), some (jI (d : Int)), some (jO e), some (jI (a : Int)), some (jI (k : Int)), some (jO (se + (5 + 2 * c)))] [jI ((zL L2 a).2.2.2 : Int), jI (c : Int), jO (se + 4)] 0 0 (jW (jW (M5, w.2) (se + 2) c (a : Int)) (se + 3) c (k : Int)) _
                          refine jWp.blk mt 2 ?_
                          show jWp 32 176 [some (jO se), some (jO s0), some (jI (d : Int)), some (jO e), some (jI (a : Int)), some (jI (k : Int)), some (jO (se + (5 + 2 * c)))] [jI (((zL L2 a).2.2.2 : Int) + 1), jI (c : Int), jO (se + 4)] 0 0 (jW (jW (M5, w.2) (se + 2) c (a : Int)) (se + 3) c (k : Int)) _
                          refine jWp.iast (pc' := 177) (j := c) mt rfl rfl (jtg hK.k4) (b32_id (by omega) (by omega)) (jlt hK.k4 (by omega)) ?_
                          show jWp 32 177 [some (jO se), some (jO s0), some (jI (d : Int)), some (jO e), some (jI (a : Int)), some (jI (k : Int)), some (jO (se + (5 + 2 * c)))] [] 0 0 (jW (jW (jW (M5, w.2) (se + 2) c (a : Int)) (se + 3) c (k : Int)) (se + 4) c (((zL L2 a).2.2.2 : Int) + 1)) _
                          refine jWp.blk mt 2 ?_
                          show _ ∧ _ ∧ jWp 32 179 [some (jO se), some (jO s0), some (jI (d : Int)), some (jO e), some (jI (a : Int)), some (jI (k : Int)), some (jO (se + (5 + 2 * c)))] [jO se, jO se] 0 0 (jW (jW (jW (M5, w.2) (se + 2) c (a : Int)) (se + 3) c (k : Int)) (se + 4) c (((zL L2 a).2.2.2 : Int) + 1)) _
                          refine ⟨rfl, rfl, ?_⟩
                          refine jWp.getI (pc' := 182) mt rfl rfl (jtg hK.k0) ?_
                          rw [show ((jW (jW (jW (M5, w.2) (se + 2) c (a : Int)) (se + 3) c (k : Int)) (se + 4) c (((zL L2 a).2.2.2 : Int) + 1)).1 se 0) = (c : Int) from (((jW_a (by omega)).trans ((jW_a (by omega)).trans ((jW_a (by omega)).trans rfl))).trans h5n)]
                          show jWp 32 182 [some (jO se), some (jO s0), some (jI (d : Int)), some (jO e), some (jI (a : Int)), some (jI (k : Int)), some (jO (se + (5 + 2 * c)))] [jI (c : Int), jO se] 0 0 (jW (jW (jW (M5, w.2) (se + 2) c (a : Int)) (se + 3) c (k : Int)) (se + 4) c (((zL L2 a).2.2.2 : Int) + 1)) _
                          refine jWp.blk mt 2 ?_
                          show jWp 32 184 [some (jO se), some (jO s0), some (jI (d : Int)), some (jO e), some (jI (a : Int)), some (jI (k : Int)), some (jO (se + (5 + 2 * c)))] [jI ((c : Int) + 1), jO se] 0 0 (jW (jW (jW (M5, w.2) (se + 2) c (a : Int)) (se + 3) c (k : Int)) (se + 4) c (((zL L2 a).2.2.2 : Int) + 1)) _
                          refine jWp.putI (pc' := 187) mt rfl rfl (jtg hK.k0) ?_
                          show jWp 32 187 [some (jO se), some (jO s0), some (jI (d : Int)), some (jO e), some (jI (a : Int)), some (jI (k : Int)), some (jO (se + (5 + 2 * c)))] [] 0 0 (jW (jW (jW (jW (M5, w.2) (se + 2) c (a : Int)) (se + 3) c (k : Int)) (se + 4) c (((zL L2 a).2.2.2 : Int) + 1)) se 0 ((c : Int) + 1)) _
                          refine jWp.blk mt 2 ?_
                          show jWp 32 63 [some (jO se), some (jO s0), some (jI (d : Int)), some (jO e), some (jI (a : Int)), some (jI ((k : Int) + 1)), some (jO (se + (5 + 2 * c)))] [] 0 0 (jW (jW (jW (jW (M5, w.2) (se + 2) c (a : Int)) (se + 3) c (k : Int)) (se + 4) c (((zL L2 a).2.2.2 : Int) + 1)) se 0 ((c : Int) + 1)) _
                          refine jWp.le (l := [some (jO se), some (jO s0), some (jI (d : Int)), some (jO e), some (jI (a : Int)), some (jI ((k : Int) + 1)), none]) (by exact ⟨rfl, rfl, rfl, rfl, rfl, rfl, trivial⟩) ?_
                          exact ih7 (k + 1) (c + 1) (L2 ++ [(zxF (zL L2 a).1 n k, a, k, (zL L2 a).2.2.2 + 1)]) (jW (jW (jW (jW (M5, w.2) (se + 2) c (a : Int)) (se + 3) c (k : Int)) (se + 4) c (((zL L2 a).2.2.2 : Int) + 1)) se 0 ((c : Int) + 1)).1 (by omega) (by rw [List.length_append, hc2]; rfl) (by rw [zL_l hA2.1]; omega) (fun b g1 g2 g3 => ((jW_f (by omega)).trans ((jW_f (by omega)).trans ((jW_f (by omega)).trans ((jW_f (by omega)).trans rfl)))).trans (hfr5 b g1 g2 g3)) (by
                refine cSL_n hC5 hBL2.1 ?_ (fun o ho => ⟨((jW_f (by omega)).trans ((jW_f (by omega)).trans ((jW_f (by omega)).trans ((jW_f (by omega)).trans rfl)))), ((jW_f (by omega)).trans ((jW_f (by omega)).trans ((jW_f (by omega)).trans ((jW_f (by omega)).trans rfl))))⟩) (fun o ho => ⟨((jW_a (by omega)).trans ((jW_a (by omega)).trans ((jW_a (by omega)).trans ((jW_k (by omega)).trans rfl)))), ((jW_a (by omega)).trans ((jW_a (by omega)).trans ((jW_k (by omega)).trans ((jW_a (by omega)).trans rfl)))), ((jW_a (by omega)).trans ((jW_k (by omega)).trans ((jW_a (by omega)).trans ((jW_a (by omega)).trans rfl))))⟩) (by rw [hc2]; exact hcn5) (by rw [hc2]; exact hcr) ?_ ?_ ?_
                · rw [hc2]; exact jW_s
                · rw [hc2]; exact ((jW_a (by omega)).trans ((jW_a (by omega)).trans ((jW_a (by omega)).trans jW_s)))
                · rw [hc2]; exact ((jW_a (by omega)).trans ((jW_a (by omega)).trans jW_s))
                · rw [hc2]; exact (((jW_a (by omega)).trans jW_s)).trans (by show _ = (((zL L2 a).2.2.2 + 1 : Nat) : Int); omega)) (zBL_n hBL2 (by omega) (by omega) (by omega) hcan) (zB3_n hB32 (by show L2.length ≤ 3 * a + 4; omega)) (fun x o ho => by
                rw [List.length_append] at ho
                simp only [List.length_cons, List.length_nil] at ho
                rcases Nat.lt_or_ge o L2.length with z | z
                · rw [zL_l z]; exact hGL2 x o z
                · rw [show o = L2.length by omega, zL_r]; exact hG.2.1 _ n k (hBL2.2.2.2 a (by omega)).1 (by omega) hcan (hGL2 x a (by omega))) ⟨by rw [List.length_append]; omega, by rw [zL_l hA2.1]; exact hA2.2⟩ (by
                rw [← hz2, show n - k = (n - (k + 1)) + 1 by omega]
                show _ = zbo n d (399 - a) (a + 1) (zbi n a (n - (k + 1)) (k + 1) (zba n a k L2))
                rw [zba_t ⟨hcan, Classical.not_not.mp (by assumption)⟩]) (by omega)
                      · have hcr' := hcr
                        show jWp 32 125 [some (jO se), some (jO s0), some (jI (d : Int)), some (jO e), some (jI (a : Int)), some (jI (k : Int)), some (jO (se + (5 + 2 * c)))] [jI 0] 0 0 (M5, w.2) _
                        refine jWp.ifc (b := true) mt rfl (by decide) rfl ?_
                        show jWp 32 187 [some (jO se), some (jO s0), some (jI (d : Int)), some (jO e), some (jI (a : Int)), some (jI (k : Int)), some (jO (se + (5 + 2 * c)))] [] 0 0 (M5, w.2) _
                        refine jWp.blk mt 2 ?_
                        show jWp 32 63 [some (jO se), some (jO s0), some (jI (d : Int)), some (jO e), some (jI (a : Int)), some (jI ((k : Int) + 1)), some (jO (se + (5 + 2 * c)))] [] 0 0 (M5, w.2) _
                        refine jWp.le (l := [some (jO se), some (jO s0), some (jI (d : Int)), some (jO e), some (jI (a : Int)), some (jI ((k : Int) + 1)), none]) (by exact ⟨rfl, rfl, rfl, rfl, rfl, rfl, trivial⟩) ?_
                        exact ih7 (k + 1) c L2 M5 (by omega) hc2 (by omega) hfr5 hC5 hBL2 hB32 hGL2 hA2 (by rw [← hz2, show n - k = (n - (k + 1)) + 1 by omega]; show _ = zbo n d (399 - a) (a + 1) (zbi n a (n - (k + 1)) (k + 1) (zba n a k L2)); rw [zba_f (fun z => by first | exact hcan z.1 | exact absurd z.2 (by assumption))]) (by omega)
            refine jWp.le (l := [some (jO se), some (jO s0), some (jI (d : Int)), some (jO e), some (jI (a : Int)), some (jI 0), none]) (by exact ⟨rfl, rfl, rfl, rfl, rfl, rfl, trivial⟩) ?_
            exact lp6 _ 0 c1 L1 M1 (by omega) hc1 (by omega) hfr1 hC1 hBL1 hB31 hGL1 ⟨by omega, by omega⟩ (by rw [← hz1, show 400 - a = (399 - a) + 1 by omega, zbo_t ⟨by omega, by omega⟩]; rfl) (Nat.lt_succ_self _)
  refine jWp.le (l := [some (jO se), some (jO s0), some (jI (d : Int)), some (jO e), some (jI 0), none, none]) (by exact ⟨rfl, rfl, rfl, rfl, rfl, trivial⟩) ?_
  exact lp1 _ 0 1 [(q, 0, 0, 0)] (jW (jW (jW (M0, w.2) (se + 3) 0 (-1)) (se + 4) 0 0) se 0 1).1 rfl (by omega) (fun b g1 g2 g3 => ((jW_f (by omega)).trans ((jW_f (by omega)).trans ((jW_f (by omega)).trans rfl))).trans (hbf.2 b (by omega) (by omega))) ⟨jW_s, fun o ho => by
    have eo : o = 0 := by simp only [List.length_cons, List.length_nil] at ho; omega
    subst eo
    refine ⟨?_, ?_, ((jW_a (by omega)).trans jW_s), ((jW_a (by omega)).trans ((jW_a (by omega)).trans jW_s)), fun z => absurd z (by omega)⟩
    · rw [show (jW (jW (jW (M0, w.2) (se + 3) 0 (-1)) (se + 4) 0 0) se 0 1).1 (se + (5 + 2 * 0)) = M0 (se + (5 + 2 * 0)) from ((jW_f (by omega)).trans ((jW_f (by omega)).trans ((jW_f (by omega)).trans rfl)))]
      exact hb0.trans hn0
    · rw [show (jW (jW (jW (M0, w.2) (se + 3) 0 (-1)) (se + 4) 0 0) se 0 1).1 (se + (6 + 2 * 0)) = M0 (se + (6 + 2 * 0)) from ((jW_f (by omega)).trans ((jW_f (by omega)).trans ((jW_f (by omega)).trans rfl)))]
      exact cR_C hbc hRR⟩ (zBL_0 hQ) (fun o ho z => by simp only [List.length_cons, List.length_nil] at ho; omega) (fun x o ho => by
    have eo : o = 0 := by simp only [List.length_cons, List.length_nil] at ho; omega
    subst eo
    exact hgq x) rfl (Nat.lt_succ_self _)
end
