def zNo : (Nat → Int) → Prop := fun _ => False
theorem zG_no : zG zNo := ⟨fun _ _ _ h => h.elim, fun _ _ _ _ _ _ h => h.elim, fun _ _ _ h => h.elim, fun _ _ _ h => h.elim, fun _ _ _ h => h.elim⟩
/-- an exchange in a walk: of a letter that may not be there -/
theorem C_makeW {w : jS} {s sc e f1 f2 n : Nat} {q : Nat → Int} (hks : w.2.1 s = (6, 0)) (hkc : w.2.1 sc = (100, 44)) (hrc : w.2.2.1 s 1 = some sc) (hn0 : w.1 s 0 = (n : Int)) (hke : w.2.1 e = (1, 0)) (hr1 : w.2.2.1 e 0 = some f1) (hr2 : w.2.2.1 e 1 = some f2) (hk1 : w.2.1 f1 = (2, 0)) (hk2 : w.2.1 f2 = (2, 0)) (hff : f1 ≠ f2) (hQ : zQ q n) (hRR : cR False (w.1 sc) q n) {k : Int} (hrk : r32 k) : jCall 1 [jO e, jO s, jI k] w (fun v w1 => ((0 ≤ k ∧ k < (n : Int)) ∧ (w1.2 = w.2 ∧ ∀ a, a ≠ f1 → a ≠ f2 → a ≠ sc → w1.1 a = w.1 a) ∧ ((v = some (jI 1) ∧ zcan q n k.toNat ∧ cR False (w1.1 sc) (zxF q n k.toNat) n) ∨ (v = some (jI 0) ∧ ¬ zcan q n k.toNat ∧ w1.1 sc = w.1 sc))) ∨ (¬ (0 ≤ k ∧ k < (n : Int)) ∧ v = some (jI 0) ∧ w1 = w)) := by
  by_cases h : 0 ≤ k ∧ k < (n : Int)
  · have e0 : ((k.toNat : Nat) : Int) = k := by omega
    have g := C_make (w := w) (s := s) (sc := sc) (e := e) (f1 := f1) (f2 := f2) (n := n) (k := k.toNat) (q := q) (g := False) (G := zNo) hks hkc hrc hn0 hQ.S.n4 hke hr1 hr2 hk1 hk2 hff zG_no (fun x => x.elim) hQ hRR (by omega)
    rw [e0] at g
    exact jCall.mono g (fun v w1 x => Or.inl ⟨h, x⟩)
  · exact jCall.mono (C_make_no hks hkc hrc hn0 hQ.S.n4 hke hr1 hr2 hk1 hk2 hff hrk h) (fun v w1 x => Or.inr ⟨h, x⟩)
set_option maxHeartbeats 4000000 in
set_option maxRecDepth 20000 in
theorem C_done {w : jS} {t tl F p : Nat} {τ : Nat → Int} (hk8 : w.2.1 t = (8, 0)) (hkl : w.2.1 tl = (100, 72)) (hrl : w.2.2.1 t 1 = some tl) (hF : w.1 t 0 = (F : Int)) (hF72 : F ≤ 72) (hτ : w.1 tl = τ) (hL : ∀ j, j < F → 0 ≤ τ j ∧ τ j ≤ 255) {s sc e f1 f2 n : Nat} {q : Nat → Int} (hks : w.2.1 s = (6, 0)) (hkc : w.2.1 sc = (100, 44)) (hrc : w.2.2.1 s 1 = some sc) (hn0 : w.1 s 0 = (n : Int)) (hke : w.2.1 e = (1, 0)) (hr1 : w.2.2.1 e 0 = some f1) (hr2 : w.2.2.1 e 1 = some f2) (hk1 : w.2.1 f1 = (2, 0)) (hk2 : w.2.1 f2 = (2, 0)) (hff : f1 ≠ f2) (hQ : zQ q n) (hRR : cR False (w.1 sc) q n) (hb0 : 0 ≤ zbh τ F p) (hp : p ≤ 100) : jCall 87 [jO t, jI (p : Int), jO s, jO e] w (fun v w1 => (w1.2 = w.2 ∧ ∀ a, a ≠ s → a ≠ sc → a ≠ f1 → a ≠ f2 → w1.1 a = w.1 a) ∧ ((v = some (jI 1) ∧ ∃ q2 n2, zdo (zlt τ F p) (zfg (zlt τ F (p + 1))) (zfg (zlt τ F (p + 2))) (znm τ F (p + 3)) q = some q2 ∧ zQ q2 n2 ∧ w1.1 s 0 = ((n2 : Nat) : Int) ∧ cR False (w1.1 sc) q2 n2) ∨ (v = some (jI 0) ∧ zdo (zlt τ F p) (zfg (zlt τ F (p + 1))) (zfg (zlt τ F (p + 2))) (znm τ F (p + 3)) q = none))) := by
  have mt : jtb 87 = jT87 := rfl
  have hsc : s ≠ sc := kne hks hkc (by decide)
  have h1s : f1 ≠ s := kne hk1 hks (by decide)
  have h1c : f1 ≠ sc := kne hk1 hkc (by decide)
  have h2s : f2 ≠ s := kne hk2 hks (by decide)
  have h2c : f2 ≠ sc := kne hk2 hkc (by decide)
  have hn1 := hQ.S.n0
  have hn4 := hQ.S.n4
  have hcd : zlt τ F p = 110 ∨ zlt τ F p = 109 ∨ zlt τ F p = 115 ∨ zlt τ F p = 119 ∨ zlt τ F p = 98 := zbh_cd hb0
  have hfb1 := zfg_b (zlt τ F (p + 1))
  have hfb2 := zfg_b (zlt τ F (p + 2))
  have hnb := znm_b τ F (p + 3)
  show jWp 87 0 [some (jO t), some (jI (p : Int)), some (jO s), some (jO e), none, none] [] 0 0 w _
  refine jWp.blk mt 4 ?_
  show _ ∧ jWp 87 4 [some (jO t), some (jI (p : Int)), some (jO s), some (jO e), none, none] [jI ((p : Int) + 1), jO t] 0 0 w _
  refine ⟨rfl, ?_⟩
  refine jWp.callv (as := [jO t, jI ((p : Int) + 1)]) (rest := []) mt rfl rfl rfl ⟨rfl, jtg hk8⟩ ?_
  refine jCall.mono (C_digitAt (w := w) hk8 hkl hrl hF hF72 hτ hL (p := (p + 1)) (by omega) (by omega)) (fun v9 w9 h9 => ?_)
  obtain ⟨rfl, h9⟩ := h9
  subst w9
  show jWp 87 7 [some (jO t), some (jI (p : Int)), some (jO s), some (jO e), none, none] [jI (zfg (zlt τ F (p + 1)))] 0 0 w _
  refine jWp.blk mt 5 ?_
  show _ ∧ jWp 87 13 [some (jO t), some (jI (p : Int)), some (jO s), some (jO e), some (jI (zfg (zlt τ F (p + 1)))), none] [jI ((p : Int) + 2), jO t] 0 0 w _
  refine ⟨rfl, ?_⟩
  refine jWp.callv (as := [jO t, jI ((p : Int) + 2)]) (rest := []) mt rfl rfl rfl ⟨rfl, jtg hk8⟩ ?_
  refine jCall.mono (C_digitAt (w := w) hk8 hkl hrl hF hF72 hτ hL (p := (p + 2)) (by omega) (by omega)) (fun v9 w9 h9 => ?_)
  obtain ⟨rfl, h9⟩ := h9
  subst w9
  show jWp 87 16 [some (jO t), some (jI (p : Int)), some (jO s), some (jO e), some (jI (zfg (zlt τ F (p + 1)))), none] [jI (zfg (zlt τ F (p + 2)))] 0 0 w _
  refine jWp.blk mt 3 ?_
  show _ ∧ jWp 87 20 [some (jO t), some (jI (p : Int)), some (jO s), some (jO e), some (jI (zfg (zlt τ F (p + 1)))), some (jI (zfg (zlt τ F (p + 2))))] [jI (p : Int), jO t] 0 0 w _
  refine ⟨rfl, ?_⟩
  refine jWp.callv (as := [jO t, jI (p : Int)]) (rest := []) mt rfl rfl rfl ⟨rfl, jtg hk8⟩ ?_
  refine jCall.mono (C_letterAt (w := w) hk8 hkl hrl hF hF72 hτ hL (p := p) (by omega) (by omega)) (fun v9 w9 h9 => ?_)
  obtain ⟨rfl, h9⟩ := h9
  subst w9
  show jWp 87 23 [some (jO t), some (jI (p : Int)), some (jO s), some (jO e), some (jI (zfg (zlt τ F (p + 1)))), some (jI (zfg (zlt τ F (p + 2))))] [jI (zlt τ F p)] 0 0 w _
  refine jWp.sw mt rfl (Or.inr ⟨_, _, rfl⟩) (b32_id (by have := zlt_b hL p; omega) (by have := zlt_b hL p; omega)) ?_
  show jWp 87 (jsw [(109, 71), (110, 64), (115, 79), (119, 88)] 97 (zlt τ F p)) [some (jO t), some (jI (p : Int)), some (jO s), some (jO e), some (jI (zfg (zlt τ F (p + 1)))), some (jI (zfg (zlt τ F (p + 2))))] [] 0 0 w _
  unfold jsw; by_cases h1 : 109 = (zlt τ F p)
  · rw [if_pos h1]
    refine jWp.blk mt 3 ?_
    show _ ∧ _ ∧ jWp 87 75 [some (jO t), some (jI (p : Int)), some (jO s), some (jO e), some (jI (zfg (zlt τ F (p + 1)))), some (jI (zfg (zlt τ F (p + 2))))] [jI (zfg (zlt τ F (p + 1))), jO s, jO e] 0 0 w _
    refine ⟨rfl, rfl, ?_⟩
    refine jWp.callv (as := [jO e, jO s, jI (zfg (zlt τ F (p + 1)))]) (rest := []) mt rfl rfl rfl ⟨rfl, jtg hke⟩ ?_
    refine jCall.mono (C_makeW (w := w) (n := n) (q := q) hks hkc hrc hn0 hke hr1 hr2 hk1 hk2 hff hQ hRR (k := (zfg (zlt τ F (p + 1)))) (by constructor <;> omega)) (fun v9 w9 h9 => ?_)
    rcases h9 with ⟨hk9, hfr, hh⟩ | ⟨hk9, rfl, h9⟩
    · obtain ⟨M1, G9⟩ := w9
      have hg : G9 = w.2 := hfr.1
      subst hg
      rcases hh with ⟨rfl, hcan, hcr⟩ | ⟨rfl, hcan, hcr⟩
      · have hcr' := hcr
        show jWp 87 78 [some (jO t), some (jI (p : Int)), some (jO s), some (jO e), some (jI (zfg (zlt τ F (p + 1)))), some (jI (zfg (zlt τ F (p + 2))))] [jI 1] 0 0 (M1, w.2) _
        refine jWp.iretz mt rfl ⟨rfl, rfl⟩ rfl (Or.inr rfl) ?_
        first
        | (have ec : zlt τ F p = 110 := by omega
           refine ⟨⟨rfl, fun a g1 g2 g3 g4 => hfr.2 a g1 g2⟩, Or.inl ⟨rfl, zNw (zfg (zlt τ F (p + 1))).toNat, (zfg (zlt τ F (p + 1))).toNat, ?_, zQ_new (by omega) (by omega), hz0.trans (by omega), hcr False⟩⟩
           rw [ec]; exact zdo_n.trans (if_pos hc9))
        | (have ec : zlt τ F p = 109 := by omega
           refine ⟨⟨rfl, fun a g1 g2 g3 g4 => hfr.2 a g3 g4 g2⟩, Or.inl ⟨rfl, _, n, ?_, zQ_x hQ (by omega) hcan, (congrFun (hfr.2 s h1s.symm h2s.symm hsc) 0).trans hn0, hcr⟩⟩
           rw [ec, zdo_m (by omega), hn1, show ((n : Int)).toNat = n from rfl]; exact if_pos hcan)
        | (have ec : zlt τ F p = 115 := by omega
           refine ⟨⟨rfl, fun a g1 g2 g3 g4 => hfr.2 a g2⟩, Or.inl ⟨rfl, _, n, ?_, zQ_st hQ (by omega) hc9.2, (congrFun (hfr.2 s hsc) 0).trans hn0, hcr⟩⟩
           rw [ec]; exact (zdo_s (by omega)).trans (if_pos (by omega)))
        | (have ec : zlt τ F p = 119 := by omega
           refine ⟨⟨rfl, fun a g1 g2 g3 g4 => hfr.2 a g2⟩, Or.inl ⟨rfl, _, n, ?_, zQ_sw hQ (by omega) (by omega), (congrFun (hfr.2 s hsc) 0).trans hn0, hcr⟩⟩
           rw [ec]; exact zdo_w (by omega) (by omega))
        | (have ec : zlt τ F p = 98 := by omega
           refine ⟨⟨rfl, fun a g1 g2 g3 g4 => hfr.2 a g2⟩, Or.inl ⟨rfl, _, n, ?_, zQ_tb hQ (by omega) (by omega) (by omega) (by omega), (congrFun (hfr.2 s hsc) 0).trans hn0, hcr⟩⟩
           rw [ec]; exact zdo_b (by omega) (by omega))
      · have hcr' := hcr
        show jWp 87 78 [some (jO t), some (jI (p : Int)), some (jO s), some (jO e), some (jI (zfg (zlt τ F (p + 1)))), some (jI (zfg (zlt τ F (p + 2))))] [jI 0] 0 0 (M1, w.2) _
        refine jWp.iretz mt rfl ⟨rfl, rfl⟩ rfl (Or.inl rfl) ?_
        have ec : zlt τ F p = 109 := by omega
        refine ⟨⟨rfl, fun a g1 g2 g3 g4 => hfr.2 a g3 g4 g2⟩, Or.inr ⟨rfl, ?_⟩⟩
        rw [ec, zdo_m (by omega), hn1, show ((n : Int)).toNat = n from rfl]
        exact if_neg hcan
    · subst w9
      show jWp 87 78 [some (jO t), some (jI (p : Int)), some (jO s), some (jO e), some (jI (zfg (zlt τ F (p + 1)))), some (jI (zfg (zlt τ F (p + 2))))] [jI 0] 0 0 w _
      refine jWp.iretz mt rfl ⟨rfl, rfl⟩ rfl (Or.inl rfl) ?_
      refine ⟨⟨rfl, fun _ _ _ _ _ => rfl⟩, Or.inr ⟨rfl, ?_⟩⟩
      by_cases ei : 0 ≤ (zfg (zlt τ F (p + 1))) ∧ (zfg (zlt τ F (p + 1))) < q 0
      · first
        | (have ec : zlt τ F p = 110 := by omega
           rw [ec]; exact zdo_n.trans (if_neg hc9))
        | (exfalso; omega)
        | (have ec : zlt τ F p = 115 := by omega
           rw [ec]; exact (zdo_s ei).trans (if_neg (by omega)))
        | (have ec : zlt τ F p = 119 := by omega
           rw [ec]; exact zdo_j (by decide) (by decide) (by decide) ei (by omega))
        | (have ec : zlt τ F p = 98 := by omega
           rw [ec]; exact zdo_j (by decide) (by decide) (by decide) ei (by omega))
      · first
        | (have ec : zlt τ F p = 110 := by omega
           rw [ec]; exact zdo_n.trans (if_neg hc9))
        | exact zdo_i (by omega) ei
  · rw [if_neg h1]
    unfold jsw; by_cases h2 : 110 = (zlt τ F p)
    · rw [if_pos h2]
      refine jWp.blk mt 2 ?_
      show _ ∧ jWp 87 67 [some (jO t), some (jI (p : Int)), some (jO s), some (jO e), some (jI (zfg (zlt τ F (p + 1)))), some (jI (zfg (zlt τ F (p + 2))))] [jI (zfg (zlt τ F (p + 1))), jO s] 0 0 w _
      refine ⟨rfl, ?_⟩
      refine jWp.callv (as := [jO s, jI (zfg (zlt τ F (p + 1)))]) (rest := []) mt rfl rfl rfl ⟨rfl, jtg hks⟩ ?_
      refine jCall.mono (C_clear (w := w) hks hkc hrc (l := (zfg (zlt τ F (p + 1)))) (by constructor <;> omega)) (fun v9 w9 h9 => ?_)
      obtain ⟨hA, hB⟩ := h9
      by_cases hc9 : 2 ≤ (zfg (zlt τ F (p + 1))) ∧ (zfg (zlt τ F (p + 1))) ≤ 4
      · obtain ⟨rfl, hfr, hz0, hcr⟩ := hA hc9
        obtain ⟨M1, G9⟩ := w9
        have hg : G9 = w.2 := hfr.1
        subst hg
        show jWp 87 70 [some (jO t), some (jI (p : Int)), some (jO s), some (jO e), some (jI (zfg (zlt τ F (p + 1)))), some (jI (zfg (zlt τ F (p + 2))))] [jI 1] 0 0 (M1, w.2) _
        refine jWp.iretz mt rfl ⟨rfl, rfl⟩ rfl (Or.inr rfl) ?_
        first
        | (have ec : zlt τ F p = 110 := by omega
           refine ⟨⟨rfl, fun a g1 g2 g3 g4 => hfr.2 a g1 g2⟩, Or.inl ⟨rfl, zNw (zfg (zlt τ F (p + 1))).toNat, (zfg (zlt τ F (p + 1))).toNat, ?_, zQ_new (by omega) (by omega), hz0.trans (by omega), hcr False⟩⟩
           rw [ec]; exact zdo_n.trans (if_pos hc9))
        | (have ec : zlt τ F p = 109 := by omega
           refine ⟨⟨rfl, fun a g1 g2 g3 g4 => hfr.2 a g3 g4 g2⟩, Or.inl ⟨rfl, _, n, ?_, zQ_x hQ (by omega) hcan, (congrFun (hfr.2 s h1s.symm h2s.symm hsc) 0).trans hn0, hcr⟩⟩
           rw [ec, zdo_m (by omega), hn1, show ((n : Int)).toNat = n from rfl]; exact if_pos hcan)
        | (have ec : zlt τ F p = 115 := by omega
           refine ⟨⟨rfl, fun a g1 g2 g3 g4 => hfr.2 a g2⟩, Or.inl ⟨rfl, _, n, ?_, zQ_st hQ (by omega) hc9.2, (congrFun (hfr.2 s hsc) 0).trans hn0, hcr⟩⟩
           rw [ec]; exact (zdo_s (by omega)).trans (if_pos (by omega)))
        | (have ec : zlt τ F p = 119 := by omega
           refine ⟨⟨rfl, fun a g1 g2 g3 g4 => hfr.2 a g2⟩, Or.inl ⟨rfl, _, n, ?_, zQ_sw hQ (by omega) (by omega), (congrFun (hfr.2 s hsc) 0).trans hn0, hcr⟩⟩
           rw [ec]; exact zdo_w (by omega) (by omega))
        | (have ec : zlt τ F p = 98 := by omega
           refine ⟨⟨rfl, fun a g1 g2 g3 g4 => hfr.2 a g2⟩, Or.inl ⟨rfl, _, n, ?_, zQ_tb hQ (by omega) (by omega) (by omega) (by omega), (congrFun (hfr.2 s hsc) 0).trans hn0, hcr⟩⟩
           rw [ec]; exact zdo_b (by omega) (by omega))
      · obtain ⟨rfl, h9⟩ := hB hc9
        subst w9
        show jWp 87 70 [some (jO t), some (jI (p : Int)), some (jO s), some (jO e), some (jI (zfg (zlt τ F (p + 1)))), some (jI (zfg (zlt τ F (p + 2))))] [jI 0] 0 0 w _
        refine jWp.iretz mt rfl ⟨rfl, rfl⟩ rfl (Or.inl rfl) ?_
        refine ⟨⟨rfl, fun _ _ _ _ _ => rfl⟩, Or.inr ⟨rfl, ?_⟩⟩
        by_cases ei : 0 ≤ (zfg (zlt τ F (p + 1))) ∧ (zfg (zlt τ F (p + 1))) < q 0
        · first
          | (have ec : zlt τ F p = 110 := by omega
             rw [ec]; exact zdo_n.trans (if_neg hc9))
          | (exfalso; omega)
          | (have ec : zlt τ F p = 115 := by omega
             rw [ec]; exact (zdo_s ei).trans (if_neg (by omega)))
          | (have ec : zlt τ F p = 119 := by omega
             rw [ec]; exact zdo_j (by decide) (by decide) (by decide) ei (by omega))
          | (have ec : zlt τ F p = 98 := by omega
             rw [ec]; exact zdo_j (by decide) (by decide) (by decide) ei (by omega))
        · first
          | (have ec : zlt τ F p = 110 := by omega
             rw [ec]; exact zdo_n.trans (if_neg hc9))
          | exact zdo_i (by omega) ei
    · rw [if_neg h2]
      unfold jsw; by_cases h3 : 115 = (zlt τ F p)
      · rw [if_pos h3]
        refine jWp.blk mt 3 ?_
        show _ ∧ jWp 87 84 [some (jO t), some (jI (p : Int)), some (jO s), some (jO e), some (jI (zfg (zlt τ F (p + 1)))), some (jI (zfg (zlt τ F (p + 2))))] [jI (zfg (zlt τ F (p + 2))), jI (zfg (zlt τ F (p + 1))), jO s] 0 0 w _
        refine ⟨rfl, ?_⟩
        refine jWp.callv (as := [jO s, jI (zfg (zlt τ F (p + 1))), jI (zfg (zlt τ F (p + 2)))]) (rest := []) mt rfl rfl rfl ⟨rfl, jtg hks⟩ ?_
        refine jCall.mono (C_tellFirst (w := w) (n := n) (q := q) (g := False) hks hkc hrc hn0 hQ.S.n4 hRR (i := (zfg (zlt τ F (p + 1)))) (j := (zfg (zlt τ F (p + 2)))) (by constructor <;> omega) (by constructor <;> omega)) (fun v9 w9 h9 => ?_)
        obtain ⟨hA, hB⟩ := h9
        by_cases hc9 : (0 ≤ (zfg (zlt τ F (p + 1))) ∧ (zfg (zlt τ F (p + 1))) < (n : Int)) ∧ 1 ≤ (zfg (zlt τ F (p + 2))) ∧ (zfg (zlt τ F (p + 2))) ≤ 9
        · obtain ⟨rfl, hfr, hcr⟩ := hA hc9
          obtain ⟨M1, G9⟩ := w9
          have hg : G9 = w.2 := hfr.1
          subst hg
          show jWp 87 87 [some (jO t), some (jI (p : Int)), some (jO s), some (jO e), some (jI (zfg (zlt τ F (p + 1)))), some (jI (zfg (zlt τ F (p + 2))))] [jI 1] 0 0 (M1, w.2) _
          refine jWp.iretz mt rfl ⟨rfl, rfl⟩ rfl (Or.inr rfl) ?_
          first
          | (have ec : zlt τ F p = 110 := by omega
             refine ⟨⟨rfl, fun a g1 g2 g3 g4 => hfr.2 a g1 g2⟩, Or.inl ⟨rfl, zNw (zfg (zlt τ F (p + 1))).toNat, (zfg (zlt τ F (p + 1))).toNat, ?_, zQ_new (by omega) (by omega), hz0.trans (by omega), hcr False⟩⟩
             rw [ec]; exact zdo_n.trans (if_pos hc9))
          | (have ec : zlt τ F p = 109 := by omega
             refine ⟨⟨rfl, fun a g1 g2 g3 g4 => hfr.2 a g3 g4 g2⟩, Or.inl ⟨rfl, _, n, ?_, zQ_x hQ (by omega) hcan, (congrFun (hfr.2 s h1s.symm h2s.symm hsc) 0).trans hn0, hcr⟩⟩
             rw [ec, zdo_m (by omega), hn1, show ((n : Int)).toNat = n from rfl]; exact if_pos hcan)
          | (have ec : zlt τ F p = 115 := by omega
             refine ⟨⟨rfl, fun a g1 g2 g3 g4 => hfr.2 a g2⟩, Or.inl ⟨rfl, _, n, ?_, zQ_st hQ (by omega) hc9.2, (congrFun (hfr.2 s hsc) 0).trans hn0, hcr⟩⟩
             rw [ec]; exact (zdo_s (by omega)).trans (if_pos (by omega)))
          | (have ec : zlt τ F p = 119 := by omega
             refine ⟨⟨rfl, fun a g1 g2 g3 g4 => hfr.2 a g2⟩, Or.inl ⟨rfl, _, n, ?_, zQ_sw hQ (by omega) (by omega), (congrFun (hfr.2 s hsc) 0).trans hn0, hcr⟩⟩
             rw [ec]; exact zdo_w (by omega) (by omega))
          | (have ec : zlt τ F p = 98 := by omega
             refine ⟨⟨rfl, fun a g1 g2 g3 g4 => hfr.2 a g2⟩, Or.inl ⟨rfl, _, n, ?_, zQ_tb hQ (by omega) (by omega) (by omega) (by omega), (congrFun (hfr.2 s hsc) 0).trans hn0, hcr⟩⟩
             rw [ec]; exact zdo_b (by omega) (by omega))
        · obtain ⟨rfl, h9⟩ := hB hc9
          subst w9
          show jWp 87 87 [some (jO t), some (jI (p : Int)), some (jO s), some (jO e), some (jI (zfg (zlt τ F (p + 1)))), some (jI (zfg (zlt τ F (p + 2))))] [jI 0] 0 0 w _
          refine jWp.iretz mt rfl ⟨rfl, rfl⟩ rfl (Or.inl rfl) ?_
          refine ⟨⟨rfl, fun _ _ _ _ _ => rfl⟩, Or.inr ⟨rfl, ?_⟩⟩
          by_cases ei : 0 ≤ (zfg (zlt τ F (p + 1))) ∧ (zfg (zlt τ F (p + 1))) < q 0
          · first
            | (have ec : zlt τ F p = 110 := by omega
               rw [ec]; exact zdo_n.trans (if_neg hc9))
            | (exfalso; omega)
            | (have ec : zlt τ F p = 115 := by omega
               rw [ec]; exact (zdo_s ei).trans (if_neg (by omega)))
            | (have ec : zlt τ F p = 119 := by omega
               rw [ec]; exact zdo_j (by decide) (by decide) (by decide) ei (by omega))
            | (have ec : zlt τ F p = 98 := by omega
               rw [ec]; exact zdo_j (by decide) (by decide) (by decide) ei (by omega))
          · first
            | (have ec : zlt τ F p = 110 := by omega
               rw [ec]; exact zdo_n.trans (if_neg hc9))
            | exact zdo_i (by omega) ei
      · rw [if_neg h3]
        unfold jsw; by_cases h4 : 119 = (zlt τ F p)
        · rw [if_pos h4]
          refine jWp.blk mt 3 ?_
          show _ ∧ jWp 87 93 [some (jO t), some (jI (p : Int)), some (jO s), some (jO e), some (jI (zfg (zlt τ F (p + 1)))), some (jI (zfg (zlt τ F (p + 2))))] [jI (zfg (zlt τ F (p + 2))), jI (zfg (zlt τ F (p + 1))), jO s] 0 0 w _
          refine ⟨rfl, ?_⟩
          refine jWp.callv (as := [jO s, jI (zfg (zlt τ F (p + 1))), jI (zfg (zlt τ F (p + 2)))]) (rest := []) mt rfl rfl rfl ⟨rfl, jtg hks⟩ ?_
          refine jCall.mono (C_places (w := w) (n := n) (q := q) (g := False) hks hkc hrc hn0 hQ.S.n4 hRR (i := (zfg (zlt τ F (p + 1)))) (j := (zfg (zlt τ F (p + 2)))) (by constructor <;> omega) (by constructor <;> omega)) (fun v9 w9 h9 => ?_)
          obtain ⟨hA, hB⟩ := h9
          by_cases hc9 : (0 ≤ (zfg (zlt τ F (p + 1))) ∧ (zfg (zlt τ F (p + 1))) < (n : Int)) ∧ (0 ≤ (zfg (zlt τ F (p + 2))) ∧ (zfg (zlt τ F (p + 2))) < (n : Int)) ∧ (zfg (zlt τ F (p + 1))) ≠ (zfg (zlt τ F (p + 2)))
          · obtain ⟨rfl, hfr, hcr⟩ := hA hc9
            obtain ⟨M1, G9⟩ := w9
            have hg : G9 = w.2 := hfr.1
            subst hg
            show jWp 87 96 [some (jO t), some (jI (p : Int)), some (jO s), some (jO e), some (jI (zfg (zlt τ F (p + 1)))), some (jI (zfg (zlt τ F (p + 2))))] [jI 1] 0 0 (M1, w.2) _
            refine jWp.iretz mt rfl ⟨rfl, rfl⟩ rfl (Or.inr rfl) ?_
            first
            | (have ec : zlt τ F p = 110 := by omega
               refine ⟨⟨rfl, fun a g1 g2 g3 g4 => hfr.2 a g1 g2⟩, Or.inl ⟨rfl, zNw (zfg (zlt τ F (p + 1))).toNat, (zfg (zlt τ F (p + 1))).toNat, ?_, zQ_new (by omega) (by omega), hz0.trans (by omega), hcr False⟩⟩
               rw [ec]; exact zdo_n.trans (if_pos hc9))
            | (have ec : zlt τ F p = 109 := by omega
               refine ⟨⟨rfl, fun a g1 g2 g3 g4 => hfr.2 a g3 g4 g2⟩, Or.inl ⟨rfl, _, n, ?_, zQ_x hQ (by omega) hcan, (congrFun (hfr.2 s h1s.symm h2s.symm hsc) 0).trans hn0, hcr⟩⟩
               rw [ec, zdo_m (by omega), hn1, show ((n : Int)).toNat = n from rfl]; exact if_pos hcan)
            | (have ec : zlt τ F p = 115 := by omega
               refine ⟨⟨rfl, fun a g1 g2 g3 g4 => hfr.2 a g2⟩, Or.inl ⟨rfl, _, n, ?_, zQ_st hQ (by omega) hc9.2, (congrFun (hfr.2 s hsc) 0).trans hn0, hcr⟩⟩
               rw [ec]; exact (zdo_s (by omega)).trans (if_pos (by omega)))
            | (have ec : zlt τ F p = 119 := by omega
               refine ⟨⟨rfl, fun a g1 g2 g3 g4 => hfr.2 a g2⟩, Or.inl ⟨rfl, _, n, ?_, zQ_sw hQ (by omega) (by omega), (congrFun (hfr.2 s hsc) 0).trans hn0, hcr⟩⟩
               rw [ec]; exact zdo_w (by omega) (by omega))
            | (have ec : zlt τ F p = 98 := by omega
               refine ⟨⟨rfl, fun a g1 g2 g3 g4 => hfr.2 a g2⟩, Or.inl ⟨rfl, _, n, ?_, zQ_tb hQ (by omega) (by omega) (by omega) (by omega), (congrFun (hfr.2 s hsc) 0).trans hn0, hcr⟩⟩
               rw [ec]; exact zdo_b (by omega) (by omega))
          · obtain ⟨rfl, h9⟩ := hB hc9
            subst w9
            show jWp 87 96 [some (jO t), some (jI (p : Int)), some (jO s), some (jO e), some (jI (zfg (zlt τ F (p + 1)))), some (jI (zfg (zlt τ F (p + 2))))] [jI 0] 0 0 w _
            refine jWp.iretz mt rfl ⟨rfl, rfl⟩ rfl (Or.inl rfl) ?_
            refine ⟨⟨rfl, fun _ _ _ _ _ => rfl⟩, Or.inr ⟨rfl, ?_⟩⟩
            by_cases ei : 0 ≤ (zfg (zlt τ F (p + 1))) ∧ (zfg (zlt τ F (p + 1))) < q 0
            · first
              | (have ec : zlt τ F p = 110 := by omega
                 rw [ec]; exact zdo_n.trans (if_neg hc9))
              | (exfalso; omega)
              | (have ec : zlt τ F p = 115 := by omega
                 rw [ec]; exact (zdo_s ei).trans (if_neg (by omega)))
              | (have ec : zlt τ F p = 119 := by omega
                 rw [ec]; exact zdo_j (by decide) (by decide) (by decide) ei (by omega))
              | (have ec : zlt τ F p = 98 := by omega
                 rw [ec]; exact zdo_j (by decide) (by decide) (by decide) ei (by omega))
            · first
              | (have ec : zlt τ F p = 110 := by omega
                 rw [ec]; exact zdo_n.trans (if_neg hc9))
              | exact zdo_i (by omega) ei
        · rw [if_neg h4]
          unfold jsw
          refine jWp.blk mt 7 ?_
          show _ ∧ _ ∧ jWp 87 106 [some (jO t), some (jI (p : Int)), some (jO s), some (jO e), some (jI (zfg (zlt τ F (p + 1)))), some (jI (zfg (zlt τ F (p + 2))))] [jI ((p : Int) + 3), jO t, jI (zfg (zlt τ F (p + 2))), jI (zfg (zlt τ F (p + 1))), jO s] 0 0 w _
          refine ⟨rfl, rfl, ?_⟩
          refine jWp.callv (as := [jO t, jI ((p : Int) + 3)]) (rest := [jI (zfg (zlt τ F (p + 2))), jI (zfg (zlt τ F (p + 1))), jO s]) mt rfl rfl rfl ⟨rfl, jtg hk8⟩ ?_
          refine jCall.mono (C_numberAt (w := w) hk8 hkl hrl hF hF72 hτ hL (p := (p + 3)) (by omega) (by omega)) (fun v9 w9 h9 => ?_)
          obtain ⟨rfl, h9⟩ := h9
          subst w9
          show jWp 87 109 [some (jO t), some (jI (p : Int)), some (jO s), some (jO e), some (jI (zfg (zlt τ F (p + 1)))), some (jI (zfg (zlt τ F (p + 2))))] [jI (znm τ F (p + 3)), jI (zfg (zlt τ F (p + 2))), jI (zfg (zlt τ F (p + 1))), jO s] 0 0 w _
          refine jWp.callv (as := [jO s, jI (zfg (zlt τ F (p + 1))), jI (zfg (zlt τ F (p + 2))), jI (znm τ F (p + 3))]) (rest := []) mt rfl rfl rfl ⟨rfl, jtg hks⟩ ?_
          refine jCall.mono (C_tellEntry (w := w) (n := n) (q := q) (g := False) hks hkc hrc hn0 hQ.S.n4 hRR (i := (zfg (zlt τ F (p + 1)))) (j := (zfg (zlt τ F (p + 2)))) (v := (znm τ F (p + 3))) (by constructor <;> omega) (by constructor <;> omega) (by constructor <;> omega)) (fun v9 w9 h9 => ?_)
          obtain ⟨hA, hB⟩ := h9
          by_cases hc9 : (0 ≤ (zfg (zlt τ F (p + 1))) ∧ (zfg (zlt τ F (p + 1))) < (n : Int)) ∧ (0 ≤ (zfg (zlt τ F (p + 2))) ∧ (zfg (zlt τ F (p + 2))) < (n : Int)) ∧ (zfg (zlt τ F (p + 1))) ≠ (zfg (zlt τ F (p + 2))) ∧ -9 ≤ (znm τ F (p + 3)) ∧ (znm τ F (p + 3)) ≤ 9
          · obtain ⟨rfl, hfr, hcr⟩ := hA hc9
            obtain ⟨M1, G9⟩ := w9
            have hg : G9 = w.2 := hfr.1
            subst hg
            show jWp 87 112 [some (jO t), some (jI (p : Int)), some (jO s), some (jO e), some (jI (zfg (zlt τ F (p + 1)))), some (jI (zfg (zlt τ F (p + 2))))] [jI 1] 0 0 (M1, w.2) _
            refine jWp.iretz mt rfl ⟨rfl, rfl⟩ rfl (Or.inr rfl) ?_
            first
            | (have ec : zlt τ F p = 110 := by omega
               refine ⟨⟨rfl, fun a g1 g2 g3 g4 => hfr.2 a g1 g2⟩, Or.inl ⟨rfl, zNw (zfg (zlt τ F (p + 1))).toNat, (zfg (zlt τ F (p + 1))).toNat, ?_, zQ_new (by omega) (by omega), hz0.trans (by omega), hcr False⟩⟩
               rw [ec]; exact zdo_n.trans (if_pos hc9))
            | (have ec : zlt τ F p = 109 := by omega
               refine ⟨⟨rfl, fun a g1 g2 g3 g4 => hfr.2 a g3 g4 g2⟩, Or.inl ⟨rfl, _, n, ?_, zQ_x hQ (by omega) hcan, (congrFun (hfr.2 s h1s.symm h2s.symm hsc) 0).trans hn0, hcr⟩⟩
               rw [ec, zdo_m (by omega), hn1, show ((n : Int)).toNat = n from rfl]; exact if_pos hcan)
            | (have ec : zlt τ F p = 115 := by omega
               refine ⟨⟨rfl, fun a g1 g2 g3 g4 => hfr.2 a g2⟩, Or.inl ⟨rfl, _, n, ?_, zQ_st hQ (by omega) hc9.2, (congrFun (hfr.2 s hsc) 0).trans hn0, hcr⟩⟩
               rw [ec]; exact (zdo_s (by omega)).trans (if_pos (by omega)))
            | (have ec : zlt τ F p = 119 := by omega
               refine ⟨⟨rfl, fun a g1 g2 g3 g4 => hfr.2 a g2⟩, Or.inl ⟨rfl, _, n, ?_, zQ_sw hQ (by omega) (by omega), (congrFun (hfr.2 s hsc) 0).trans hn0, hcr⟩⟩
               rw [ec]; exact zdo_w (by omega) (by omega))
            | (have ec : zlt τ F p = 98 := by omega
               refine ⟨⟨rfl, fun a g1 g2 g3 g4 => hfr.2 a g2⟩, Or.inl ⟨rfl, _, n, ?_, zQ_tb hQ (by omega) (by omega) (by omega) (by omega), (congrFun (hfr.2 s hsc) 0).trans hn0, hcr⟩⟩
               rw [ec]; exact zdo_b (by omega) (by omega))
          · obtain ⟨rfl, h9⟩ := hB hc9
            subst w9
            show jWp 87 112 [some (jO t), some (jI (p : Int)), some (jO s), some (jO e), some (jI (zfg (zlt τ F (p + 1)))), some (jI (zfg (zlt τ F (p + 2))))] [jI 0] 0 0 w _
            refine jWp.iretz mt rfl ⟨rfl, rfl⟩ rfl (Or.inl rfl) ?_
            refine ⟨⟨rfl, fun _ _ _ _ _ => rfl⟩, Or.inr ⟨rfl, ?_⟩⟩
            by_cases ei : 0 ≤ (zfg (zlt τ F (p + 1))) ∧ (zfg (zlt τ F (p + 1))) < q 0
            · first
              | (have ec : zlt τ F p = 110 := by omega
                 rw [ec]; exact zdo_n.trans (if_neg hc9))
              | (exfalso; omega)
              | (have ec : zlt τ F p = 115 := by omega
                 rw [ec]; exact (zdo_s ei).trans (if_neg (by omega)))
              | (have ec : zlt τ F p = 119 := by omega
                 rw [ec]; exact zdo_j (by decide) (by decide) (by decide) ei (by omega))
              | (have ec : zlt τ F p = 98 := by omega
                 rw [ec]; exact zdo_j (by decide) (by decide) (by decide) ei (by omega))
            · first
              | (have ec : zlt τ F p = 110 := by omega
                 rw [ec]; exact zdo_n.trans (if_neg hc9))
              | exact zdo_i (by omega) ei
