def PK (g : (Nat → Nat × Nat) × (Nat → Nat → Option Nat) × Nat × Nat) (pa : Nat) : Prop := g.1 pa = (3, 0) ∧ g.1 (pa + 1) = (103, 8) ∧ g.2.1 pa 1 = some (pa + 1) ∧ (∀ i, i < 8 → g.2.1 (pa + 1) i = some (pa + (2 + 2 * i))) ∧ (∀ i, i < 8 → g.1 (pa + (2 + 2 * i)) = (6, 0)) ∧ (∀ i, i < 8 → g.1 (pa + (3 + 2 * i)) = (100, 44)) ∧ ∀ i, i < 8 → g.2.1 (pa + (2 + 2 * i)) 1 = some (pa + (3 + 2 * i))
/-- a seed's object and cells as others were -/
def cpy (N : Nat → Nat → Int) (s sc : Nat) (N0 : Nat → Nat → Int) (s2 sc2 : Nat) : Prop := N s 0 = N0 s2 0 ∧ ∀ j, j < 44 → N sc j = N0 sc2 j
set_option maxHeartbeats 4000000 in
set_option maxRecDepth 20000 in
theorem C_drop {w : jS} {pa : Nat} (hP : PK w.2 pa) : jCall 12 [jO pa] w (fun v w1 => v = none ∧ w1.2 = w.2 ∧ (∀ b, b ≠ pa → (∀ x, x < 8 → b ≠ pa + (2 + 2 * x) ∧ b ≠ pa + (3 + 2 * x)) → w1.1 b = w.1 b) ∧ w1.1 pa 0 = 7 ∧ ∀ x, x < 7 → cpy w1.1 (pa + (2 + 2 * x)) (pa + (3 + 2 * x)) w.1 (pa + (2 + 2 * (x + 1))) (pa + (3 + 2 * (x + 1)))) := by
  have mt : jtb 12 = jT12 := rfl
  show jWp 12 0 [some (jO pa), none] [] 0 0 w _
  refine jWp.blk mt 2 ?_
  show jWp 12 2 [some (jO pa), some (jI 0)] [] 0 0 w _
  have lp1 : ∀ (N : Nat) (i : Nat) (M1 : Nat → Nat → Int) (hi : i ≤ 7) (hF : ∀ b, (∀ x, x < 8 → b ≠ pa + (2 + 2 * x) ∧ b ≠ pa + (3 + 2 * x)) → M1 b = w.1 b) (hA : ∀ x, x < i → cpy M1 (pa + (2 + 2 * x)) (pa + (3 + 2 * x)) w.1 (pa + (2 + 2 * (x + 1))) (pa + (3 + 2 * (x + 1)))) (hB : ∀ x, i ≤ x → x < 8 → M1 (pa + (2 + 2 * x)) = w.1 (pa + (2 + 2 * x)) ∧ M1 (pa + (3 + 2 * x)) = w.1 (pa + (3 + 2 * x))), 8 - i < N → jWp 12 2 [some (jO pa), some (jI (i : Int))] [] 0 0 (M1, w.2) (fun v w1 => v = none ∧ w1.2 = w.2 ∧ (∀ b, b ≠ pa → (∀ x, x < 8 → b ≠ pa + (2 + 2 * x) ∧ b ≠ pa + (3 + 2 * x)) → w1.1 b = w.1 b) ∧ w1.1 pa 0 = 7 ∧ ∀ x, x < 7 → cpy w1.1 (pa + (2 + 2 * x)) (pa + (3 + 2 * x)) w.1 (pa + (2 + 2 * (x + 1))) (pa + (3 + 2 * (x + 1)))) := by
    intro N
    induction N with
    | zero => intro i M1 hi hF hA hB hm; omega
    | succ N ih2 =>
      intro i M1 hi hF hA hB hm
      refine jWp.blk mt 4 ?_
      show jWp 12 7 [some (jO pa), some (jI (i : Int))] [jI 8, jI ((i : Int) + 1)] 0 0 (M1, w.2) _
      refine jWp.icmp (pc' := 10) mt rfl rfl (b32_id (by omega) (by omega)) (show b32 8 = 8 by decide) (fun h3 => ?_) (fun h3 => ?_)
      · have h3 : 8 ≤ ((i : Int) + 1) := h3
        refine jWp.blk mt 2 ?_
        show _ ∧ jWp 12 36 [some (jO pa), some (jI (i : Int))] [jI 7, jO pa] 0 0 (M1, w.2) _
        refine ⟨rfl, ?_⟩
        refine jWp.putI (pc' := 39) mt rfl rfl (jtg hP.1) ?_
        show jWp 12 39 [some (jO pa), some (jI (i : Int))] [] 0 0 (jW (M1, w.2) pa 0 7) _
        refine jWp.vret mt rfl ⟨rfl, rfl⟩ rfl ?_
        exact ⟨rfl, rfl, fun b h0 hb => (jW_f h0).trans (hF b hb), jW_s, fun x hx => ⟨(jW_a (by omega)).trans (hA x (by omega)).1, fun j hj => (jW_a (by omega)).trans ((hA x (by omega)).2 j hj)⟩⟩
      · have h3 : ((i : Int) + 1) < 8 := h3
        refine jWp.blk mt 1 ?_
        show _ ∧ jWp 12 11 [some (jO pa), some (jI (i : Int))] [jO pa] 0 0 (M1, w.2) _
        refine ⟨rfl, ?_⟩
        refine jWp.getR (pc' := 14) (o := (pa + 1)) mt rfl rfl (jtg hP.1) hP.2.2.1 ?_
        show jWp 12 14 [some (jO pa), some (jI (i : Int))] [jO (pa + 1)] 0 0 (M1, w.2) _
        refine jWp.blk mt 1 ?_
        show jWp 12 15 [some (jO pa), some (jI (i : Int))] [jI (i : Int), jO (pa + 1)] 0 0 (M1, w.2) _
        refine jWp.aald (pc' := 16) (j := i) (o := (pa + (2 + 2 * i))) mt rfl rfl (jrg hP.2.1 (by decide) (by decide)) (b32_id (by omega) (by omega)) (jlt hP.2.1 (by omega)) (hP.2.2.2.1 i (by omega)) ?_
        show jWp 12 16 [some (jO pa), some (jI (i : Int))] [jO (pa + (2 + 2 * i))] 0 0 (M1, w.2) _
        refine jWp.blk mt 1 ?_
        show _ ∧ jWp 12 17 [some (jO pa), some (jI (i : Int))] [jO pa, jO (pa + (2 + 2 * i))] 0 0 (M1, w.2) _
        refine ⟨rfl, ?_⟩
        refine jWp.getR (pc' := 20) (o := (pa + 1)) mt rfl rfl (jtg hP.1) hP.2.2.1 ?_
        show jWp 12 20 [some (jO pa), some (jI (i : Int))] [jO (pa + 1), jO (pa + (2 + 2 * i))] 0 0 (M1, w.2) _
        refine jWp.blk mt 3 ?_
        show jWp 12 23 [some (jO pa), some (jI (i : Int))] [jI ((i : Int) + 1), jO (pa + 1), jO (pa + (2 + 2 * i))] 0 0 (M1, w.2) _
        refine jWp.aald (pc' := 24) (j := (i + 1)) (o := (pa + (2 + 2 * (i + 1)))) mt rfl rfl (jrg hP.2.1 (by decide) (by decide)) (by rw [b32_id (by omega) (by omega)]; omega) (jlt hP.2.1 (by omega)) (hP.2.2.2.1 (i + 1) (by omega)) ?_
        show jWp 12 24 [some (jO pa), some (jI (i : Int))] [jO (pa + (2 + 2 * (i + 1))), jO (pa + (2 + 2 * i))] 0 0 (M1, w.2) _
        refine jWp.callv (as := [jO (pa + (2 + 2 * i)), jO (pa + (2 + 2 * (i + 1)))]) (rest := []) mt rfl rfl rfl ⟨rfl, jtg (hP.2.2.2.2.1 _ (by omega))⟩ ?_
        refine jCall.mono (C_become (w := (M1, w.2)) (s := pa + (2 + 2 * i)) (sc := pa + (3 + 2 * i)) (s2 := pa + (2 + 2 * (i + 1))) (sc2 := pa + (3 + 2 * (i + 1))) (hP.2.2.2.2.1 i (by omega)) (hP.2.2.2.2.2.1 i (by omega)) (hP.2.2.2.2.2.2 i (by omega)) (hP.2.2.2.2.1 (i + 1) (by omega)) (hP.2.2.2.2.2.1 (i + 1) (by omega)) (hP.2.2.2.2.2.2 (i + 1) (by omega)) rfl) (fun v9 w9 h9 => ?_)
        obtain ⟨rfl, hbf, hb0, hbc⟩ := h9
        obtain ⟨M2, G9⟩ := w9
        have hg : G9 = w.2 := hbf.1
        subst hg
        show jWp 12 27 [some (jO pa), some (jI (i : Int))] [] 0 0 (M2, w.2) _
        refine jWp.blk mt 2 ?_
        show jWp 12 2 [some (jO pa), some (jI ((i : Int) + 1))] [] 0 0 (M2, w.2) _
        refine jWp.le (l := [some (jO pa), some (jI ((i : Int) + 1))]) (by exact ⟨rfl, rfl, trivial⟩) ?_
        exact ih2 (i + 1) M2 (by omega) (fun b hb => (hbf.2 b (hb i (by omega)).1 (hb i (by omega)).2).trans (hF b hb)) (fun x hx => by rcases Nat.lt_or_ge x i with e | e; exact ⟨(congrFun (hbf.2 _ (by omega) (by omega)) 0).trans (hA x e).1, fun j hj => (congrFun (hbf.2 _ (by omega) (by omega)) j).trans ((hA x e).2 j hj)⟩; rw [show x = i by omega]; exact ⟨hb0.trans (congrFun (hB (i + 1) (by omega) (by omega)).1 0), fun j hj => (hbc j hj).trans (congrFun (hB (i + 1) (by omega) (by omega)).2 j)⟩) (fun x h1 h2 => ⟨(hbf.2 _ (by omega) (by omega)).trans (hB x (by omega) h2).1, (hbf.2 _ (by omega) (by omega)).trans (hB x (by omega) h2).2⟩) (by omega)
  refine jWp.le (l := [some (jO pa), some (jI 0)]) (by exact ⟨rfl, rfl, trivial⟩) ?_
  exact lp1 _ 0 w.1 (by omega) (fun _ _ => rfl) (fun x hx => absurd hx (by omega)) (fun _ _ _ => ⟨rfl, rfl⟩) (Nat.lt_succ_self _)
set_option maxHeartbeats 4000000 in
set_option maxRecDepth 20000 in
theorem C_pkeep {w : jS} {pa : Nat} (hP : PK w.2 pa) {s sc : Nat} (hks : w.2.1 s = (6, 0)) (hkc : w.2.1 sc = (100, 44)) (hrc : w.2.2.1 s 1 = some sc) {u : Nat} (hu : w.1 pa 0 = (u : Int)) (hu8 : u ≤ 8) (hsp : s ≠ pa) (hcp : sc ≠ pa) (hsx1 : ∀ x, x < 8 → s ≠ pa + (2 + 2 * x) ∧ s ≠ pa + (3 + 2 * x)) (hsx2 : ∀ x, x < 8 → sc ≠ pa + (2 + 2 * x) ∧ sc ≠ pa + (3 + 2 * x)) : jCall 11 [jO pa, jO s] w (fun v w1 => v = none ∧ w1.2 = w.2 ∧ (∀ b, b ≠ pa → (∀ x, x < 8 → b ≠ pa + (2 + 2 * x) ∧ b ≠ pa + (3 + 2 * x)) → w1.1 b = w.1 b) ∧ ((u < 8 ∧ w1.1 pa 0 = (u : Int) + 1 ∧ (∀ x, x < u → w1.1 (pa + (2 + 2 * x)) = w.1 (pa + (2 + 2 * x)) ∧ w1.1 (pa + (3 + 2 * x)) = w.1 (pa + (3 + 2 * x))) ∧ cpy w1.1 (pa + (2 + 2 * u)) (pa + (3 + 2 * u)) w.1 s sc) ∨ (u = 8 ∧ w1.1 pa 0 = 8 ∧ (∀ x, x < 7 → cpy w1.1 (pa + (2 + 2 * x)) (pa + (3 + 2 * x)) w.1 (pa + (2 + 2 * (x + 1))) (pa + (3 + 2 * (x + 1)))) ∧ cpy w1.1 (pa + (2 + 2 * 7)) (pa + (3 + 2 * 7)) w.1 s sc))) := by
  have mt : jtb 11 = jT11 := rfl
  show jWp 11 0 [some (jO pa), some (jO s)] [] 0 0 w _
  refine jWp.blk mt 1 ?_
  show _ ∧ jWp 11 1 [some (jO pa), some (jO s)] [jO pa] 0 0 w _
  refine ⟨rfl, ?_⟩
  refine jWp.getI (pc' := 4) mt rfl rfl (jtg hP.1) ?_
  rw [show (w.1 pa 0) = (u : Int) from hu]
  show jWp 11 4 [some (jO pa), some (jO s)] [jI (u : Int)] 0 0 w _
  refine jWp.blk mt 1 ?_
  show jWp 11 6 [some (jO pa), some (jO s)] [jI 8, jI (u : Int)] 0 0 w _
  refine jWp.icmp (pc' := 9) mt rfl rfl (b32_id (by omega) (by omega)) (show b32 8 = 8 by decide) (fun h1 => ?_) (fun h1 => ?_)
  · have h1 : (u : Int) < 8 := h1
    refine jWp.blk mt 1 ?_
    show _ ∧ jWp 11 14 [some (jO pa), some (jO s)] [jO pa] 0 0 w _
    refine ⟨rfl, ?_⟩
    refine jWp.getI (pc' := 17) mt rfl rfl (jtg hP.1) ?_
    rw [show (w.1 pa 0) = (u : Int) from hu]
    show jWp 11 17 [some (jO pa), some (jO s)] [jI (u : Int)] 0 0 w _
    refine jWp.ifz (pc' := 20) mt rfl rfl (b32_id (by omega) (by omega)) (fun h2 => ?_) (fun h2 => ?_)
    · have h2 : (u : Int) < 0 := h2
      refine jWp.vret mt rfl ⟨rfl, rfl⟩ rfl ?_
      exfalso; omega
    · have h2 : 0 ≤ (u : Int) := h2
      refine jWp.blk mt 1 ?_
      show _ ∧ jWp 11 21 [some (jO pa), some (jO s)] [jO pa] 0 0 w _
      refine ⟨rfl, ?_⟩
      refine jWp.getI (pc' := 24) mt rfl rfl (jtg hP.1) ?_
      rw [show (w.1 pa 0) = (u : Int) from hu]
      show jWp 11 24 [some (jO pa), some (jO s)] [jI (u : Int)] 0 0 w _
      refine jWp.blk mt 1 ?_
      show jWp 11 26 [some (jO pa), some (jO s)] [jI 8, jI (u : Int)] 0 0 w _
      refine jWp.icmp (pc' := 29) mt rfl rfl (b32_id (by omega) (by omega)) (show b32 8 = 8 by decide) (fun h3 => ?_) (fun h3 => ?_)
      · have h3 : 8 ≤ (u : Int) := h3
        refine jWp.vret mt rfl ⟨rfl, rfl⟩ rfl ?_
        exfalso; omega
      · have h3 : (u : Int) < 8 := h3
        refine jWp.blk mt 1 ?_
        show _ ∧ jWp 11 30 [some (jO pa), some (jO s)] [jO pa] 0 0 w _
        refine ⟨rfl, ?_⟩
        refine jWp.getR (pc' := 33) (o := (pa + 1)) mt rfl rfl (jtg hP.1) hP.2.2.1 ?_
        show jWp 11 33 [some (jO pa), some (jO s)] [jO (pa + 1)] 0 0 w _
        refine jWp.blk mt 1 ?_
        show _ ∧ jWp 11 34 [some (jO pa), some (jO s)] [jO pa, jO (pa + 1)] 0 0 w _
        refine ⟨rfl, ?_⟩
        refine jWp.getI (pc' := 37) mt rfl rfl (jtg hP.1) ?_
        rw [show (w.1 pa 0) = (u : Int) from hu]
        show jWp 11 37 [some (jO pa), some (jO s)] [jI (u : Int), jO (pa + 1)] 0 0 w _
        refine jWp.aald (pc' := 38) (j := u) (o := (pa + (2 + 2 * u))) mt rfl rfl (jrg hP.2.1 (by decide) (by decide)) (b32_id (by omega) (by omega)) (jlt hP.2.1 (by omega)) (hP.2.2.2.1 u (by omega)) ?_
        show jWp 11 38 [some (jO pa), some (jO s)] [jO (pa + (2 + 2 * u))] 0 0 w _
        refine jWp.blk mt 1 ?_
        show _ ∧ jWp 11 39 [some (jO pa), some (jO s)] [jO s, jO (pa + (2 + 2 * u))] 0 0 w _
        refine ⟨rfl, ?_⟩
        refine jWp.callv (as := [jO (pa + (2 + 2 * u)), jO s]) (rest := []) mt rfl rfl rfl ⟨rfl, jtg (hP.2.2.2.2.1 _ (by omega))⟩ ?_
        refine jCall.mono (C_become (w := w) (s := pa + (2 + 2 * u)) (sc := pa + (3 + 2 * u)) (s2 := s) (sc2 := sc) (hP.2.2.2.2.1 u (by omega)) (hP.2.2.2.2.2.1 u (by omega)) (hP.2.2.2.2.2.2 u (by omega)) hks hkc hrc rfl) (fun v9 w9 h9 => ?_)
        obtain ⟨rfl, hbf, hb0, hbc⟩ := h9
        obtain ⟨M2, G9⟩ := w9
        have hg : G9 = w.2 := hbf.1
        subst hg
        show jWp 11 42 [some (jO pa), some (jO s)] [] 0 0 (M2, w.2) _
        refine jWp.blk mt 2 ?_
        show _ ∧ _ ∧ jWp 11 44 [some (jO pa), some (jO s)] [jO pa, jO pa] 0 0 (M2, w.2) _
        refine ⟨rfl, rfl, ?_⟩
        refine jWp.getI (pc' := 47) mt rfl rfl (jtg hP.1) ?_
        rw [show ((M2, w.2).1 pa 0) = (u : Int) from ((congrFun (hbf.2 pa (by omega) (by omega)) 0).trans hu)]
        show jWp 11 47 [some (jO pa), some (jO s)] [jI (u : Int), jO pa] 0 0 (M2, w.2) _
        refine jWp.blk mt 2 ?_
        show jWp 11 49 [some (jO pa), some (jO s)] [jI ((u : Int) + 1), jO pa] 0 0 (M2, w.2) _
        refine jWp.putI (pc' := 52) mt rfl rfl (jtg hP.1) ?_
        show jWp 11 52 [some (jO pa), some (jO s)] [] 0 0 (jW (M2, w.2) pa 0 ((u : Int) + 1)) _
        refine jWp.vret mt rfl ⟨rfl, rfl⟩ rfl ?_
        refine ⟨rfl, rfl, fun b h0 hb => (jW_f h0).trans (hbf.2 b (hb u (by omega)).1 (hb u (by omega)).2), Or.inl ⟨by omega, jW_s, fun x hx => ⟨(jW_f (by omega)).trans (hbf.2 _ (by omega) (by omega)), (jW_f (by omega)).trans (hbf.2 _ (by omega) (by omega))⟩, ?_⟩⟩
        exact ⟨(jW_a (by omega)).trans hb0, fun j hj => (jW_a (by omega)).trans (hbc j hj)⟩
  · have h1 : 8 ≤ (u : Int) := h1
    refine jWp.blk mt 1 ?_
    show _ ∧ jWp 11 10 [some (jO pa), some (jO s)] [jO pa] 0 0 w _
    refine ⟨rfl, ?_⟩
    refine jWp.callv (as := [jO pa]) (rest := []) mt rfl rfl rfl ⟨rfl, jtg hP.1⟩ ?_
    refine jCall.mono (C_drop hP) (fun v9 w9 h9 => ?_)
    obtain ⟨rfl, hdg, hdf, hd7, hdc⟩ := h9
    obtain ⟨M1, G9⟩ := w9
    have hg : G9 = w.2 := hdg
    subst hg
    have hd7 : M1 pa 0 = 7 := hd7
    show jWp 11 13 [some (jO pa), some (jO s)] [] 0 0 (M1, w.2) _
    refine jWp.blk mt 1 ?_
    show _ ∧ jWp 11 14 [some (jO pa), some (jO s)] [jO pa] 0 0 (M1, w.2) _
    refine ⟨rfl, ?_⟩
    refine jWp.getI (pc' := 17) mt rfl rfl (jtg hP.1) ?_
    rw [show ((M1, w.2).1 pa 0) = 7 from hd7]
    show jWp 11 17 [some (jO pa), some (jO s)] [jI 7] 0 0 (M1, w.2) _
    refine jWp.ifc (b := false) mt rfl (by decide) rfl ?_
    show jWp 11 20 [some (jO pa), some (jO s)] [] 0 0 (M1, w.2) _
    refine jWp.blk mt 1 ?_
    show _ ∧ jWp 11 21 [some (jO pa), some (jO s)] [jO pa] 0 0 (M1, w.2) _
    refine ⟨rfl, ?_⟩
    refine jWp.getI (pc' := 24) mt rfl rfl (jtg hP.1) ?_
    rw [show ((M1, w.2).1 pa 0) = 7 from hd7]
    show jWp 11 24 [some (jO pa), some (jO s)] [jI 7] 0 0 (M1, w.2) _
    refine jWp.blk mt 1 ?_
    show jWp 11 26 [some (jO pa), some (jO s)] [jI 8, jI 7] 0 0 (M1, w.2) _
    refine jWp.icmp (pc' := 29) mt rfl rfl (show b32 7 = 7 by decide) (show b32 8 = 8 by decide) (fun h4 => ?_) (fun h4 => ?_)
    · exact absurd (show 8 ≤ (7 : Int) from h4) (by decide)
    · have h4 := h4
      refine jWp.blk mt 1 ?_
      show _ ∧ jWp 11 30 [some (jO pa), some (jO s)] [jO pa] 0 0 (M1, w.2) _
      refine ⟨rfl, ?_⟩
      refine jWp.getR (pc' := 33) (o := (pa + 1)) mt rfl rfl (jtg hP.1) hP.2.2.1 ?_
      show jWp 11 33 [some (jO pa), some (jO s)] [jO (pa + 1)] 0 0 (M1, w.2) _
      refine jWp.blk mt 1 ?_
      show _ ∧ jWp 11 34 [some (jO pa), some (jO s)] [jO pa, jO (pa + 1)] 0 0 (M1, w.2) _
      refine ⟨rfl, ?_⟩
      refine jWp.getI (pc' := 37) mt rfl rfl (jtg hP.1) ?_
      rw [show ((M1, w.2).1 pa 0) = 7 from hd7]
      show jWp 11 37 [some (jO pa), some (jO s)] [jI 7, jO (pa + 1)] 0 0 (M1, w.2) _
      refine jWp.aald (pc' := 38) (j := 7) (o := (pa + (2 + 2 * 7))) mt rfl rfl (jrg hP.2.1 (by decide) (by decide)) (by decide) (jlt hP.2.1 (by decide)) (hP.2.2.2.1 7 (by omega)) ?_
      show jWp 11 38 [some (jO pa), some (jO s)] [jO (pa + (2 + 2 * 7))] 0 0 (M1, w.2) _
      refine jWp.blk mt 1 ?_
      show _ ∧ jWp 11 39 [some (jO pa), some (jO s)] [jO s, jO (pa + (2 + 2 * 7))] 0 0 (M1, w.2) _
      refine ⟨rfl, ?_⟩
      refine jWp.callv (as := [jO (pa + (2 + 2 * 7)), jO s]) (rest := []) mt rfl rfl rfl ⟨rfl, jtg (hP.2.2.2.2.1 _ (by omega))⟩ ?_
      refine jCall.mono (C_become (w := (M1, w.2)) (s := pa + (2 + 2 * 7)) (sc := pa + (3 + 2 * 7)) (s2 := s) (sc2 := sc) (hP.2.2.2.2.1 7 (by omega)) (hP.2.2.2.2.2.1 7 (by omega)) (hP.2.2.2.2.2.2 7 (by omega)) hks hkc hrc rfl) (fun v9 w9 h9 => ?_)
      obtain ⟨rfl, hbf, hb0, hbc⟩ := h9
      obtain ⟨M2, G9⟩ := w9
      have hg : G9 = w.2 := hbf.1
      subst hg
      show jWp 11 42 [some (jO pa), some (jO s)] [] 0 0 (M2, w.2) _
      refine jWp.blk mt 2 ?_
      show _ ∧ _ ∧ jWp 11 44 [some (jO pa), some (jO s)] [jO pa, jO pa] 0 0 (M2, w.2) _
      refine ⟨rfl, rfl, ?_⟩
      refine jWp.getI (pc' := 47) mt rfl rfl (jtg hP.1) ?_
      rw [show ((M2, w.2).1 pa 0) = 7 from ((congrFun (hbf.2 pa (by omega) (by omega)) 0).trans hd7)]
      show jWp 11 47 [some (jO pa), some (jO s)] [jI 7, jO pa] 0 0 (M2, w.2) _
      refine jWp.blk mt 2 ?_
      show jWp 11 49 [some (jO pa), some (jO s)] [jI 8, jO pa] 0 0 (M2, w.2) _
      refine jWp.putI (pc' := 52) mt rfl rfl (jtg hP.1) ?_
      show jWp 11 52 [some (jO pa), some (jO s)] [] 0 0 (jW (M2, w.2) pa 0 8) _
      refine jWp.vret mt rfl ⟨rfl, rfl⟩ rfl ?_
      refine ⟨rfl, rfl, fun b h0 hb => (jW_f h0).trans ((hbf.2 b (hb 7 (by omega)).1 (hb 7 (by omega)).2).trans (hdf b h0 hb)), Or.inr ⟨by omega, jW_s, fun x hx => ?_, ?_⟩⟩
      · exact ⟨(jW_a (by omega)).trans ((congrFun (hbf.2 _ (by omega) (by omega)) 0).trans (hdc x hx).1), fun j hj => (jW_a (by omega)).trans ((congrFun (hbf.2 _ (by omega) (by omega)) j).trans ((hdc x hx).2 j hj))⟩
      · exact ⟨(jW_a (by omega)).trans (hb0.trans (congrFun (hdf s hsp hsx1) 0)), fun j hj => (jW_a (by omega)).trans ((hbc j hj).trans (congrFun (hdf sc hcp hsx2) j))⟩
set_option maxHeartbeats 4000000 in
set_option maxRecDepth 20000 in
theorem C_takeBack {w : jS} {pa : Nat} (hP : PK w.2 pa) {s sc : Nat} (hks : w.2.1 s = (6, 0)) (hkc : w.2.1 sc = (100, 44)) (hrc : w.2.2.1 s 1 = some sc) {u : Nat} (hu : w.1 pa 0 = (u : Int)) (hu8 : u ≤ 8) (hsp : s ≠ pa) (hcp : sc ≠ pa) : jCall 13 [jO pa, jO s] w (fun v w1 => (u = 0 → v = some (jI 0) ∧ w1 = w) ∧ (1 ≤ u → v = some (jI 1) ∧ w1.2 = w.2 ∧ (∀ b, b ≠ pa → b ≠ s → b ≠ sc → w1.1 b = w.1 b) ∧ w1.1 pa 0 = (u : Int) - 1 ∧ cpy w1.1 s sc w.1 (pa + (2 + 2 * (u - 1))) (pa + (3 + 2 * (u - 1))))) := by
  have mt : jtb 13 = jT13 := rfl
  show jWp 13 0 [some (jO pa), some (jO s)] [] 0 0 w _
  refine jWp.blk mt 1 ?_
  show _ ∧ jWp 13 1 [some (jO pa), some (jO s)] [jO pa] 0 0 w _
  refine ⟨rfl, ?_⟩
  refine jWp.getI (pc' := 4) mt rfl rfl (jtg hP.1) ?_
  rw [show (w.1 pa 0) = (u : Int) from hu]
  show jWp 13 4 [some (jO pa), some (jO s)] [jI (u : Int)] 0 0 w _
  refine jWp.blk mt 1 ?_
  show jWp 13 5 [some (jO pa), some (jO s)] [jI 1, jI (u : Int)] 0 0 w _
  refine jWp.icmp (pc' := 8) mt rfl rfl (b32_id (by omega) (by omega)) (show b32 1 = 1 by decide) (fun h1 => ?_) (fun h1 => ?_)
  · have h1 : (u : Int) < 1 := h1
    refine jWp.blk mt 1 ?_
    show jWp 13 18 [some (jO pa), some (jO s)] [jI 0] 0 0 w _
    refine jWp.iretz mt rfl ⟨rfl, rfl⟩ rfl (Or.inl rfl) ?_
    first
    | exact ⟨fun c => ⟨rfl, rfl⟩, fun c => by exfalso; omega⟩
    | (exfalso; omega)
  · have h1 : 1 ≤ (u : Int) := h1
    refine jWp.blk mt 1 ?_
    show _ ∧ jWp 13 9 [some (jO pa), some (jO s)] [jO pa] 0 0 w _
    refine ⟨rfl, ?_⟩
    refine jWp.getI (pc' := 12) mt rfl rfl (jtg hP.1) ?_
    rw [show (w.1 pa 0) = (u : Int) from hu]
    show jWp 13 12 [some (jO pa), some (jO s)] [jI (u : Int)] 0 0 w _
    refine jWp.blk mt 1 ?_
    show jWp 13 14 [some (jO pa), some (jO s)] [jI 8, jI (u : Int)] 0 0 w _
    refine jWp.icmp (pc' := 17) mt rfl rfl (b32_id (by omega) (by omega)) (show b32 8 = 8 by decide) (fun h2 => ?_) (fun h2 => ?_)
    · have h2 : (u : Int) ≤ 8 := h2
      refine jWp.blk mt 2 ?_
      show _ ∧ _ ∧ jWp 13 21 [some (jO pa), some (jO s)] [jO pa, jO pa] 0 0 w _
      refine ⟨rfl, rfl, ?_⟩
      refine jWp.getI (pc' := 24) mt rfl rfl (jtg hP.1) ?_
      rw [show (w.1 pa 0) = (u : Int) from hu]
      show jWp 13 24 [some (jO pa), some (jO s)] [jI (u : Int), jO pa] 0 0 w _
      refine jWp.blk mt 2 ?_
      show jWp 13 26 [some (jO pa), some (jO s)] [jI ((u : Int) - 1), jO pa] 0 0 w _
      refine jWp.putI (pc' := 29) mt rfl rfl (jtg hP.1) ?_
      show jWp 13 29 [some (jO pa), some (jO s)] [] 0 0 (jW w pa 0 ((u : Int) - 1)) _
      refine jWp.blk mt 2 ?_
      show _ ∧ _ ∧ jWp 13 31 [some (jO pa), some (jO s)] [jO pa, jO s] 0 0 (jW w pa 0 ((u : Int) - 1)) _
      refine ⟨rfl, rfl, ?_⟩
      refine jWp.getR (pc' := 34) (o := (pa + 1)) mt rfl rfl (jtg hP.1) hP.2.2.1 ?_
      show jWp 13 34 [some (jO pa), some (jO s)] [jO (pa + 1), jO s] 0 0 (jW w pa 0 ((u : Int) - 1)) _
      refine jWp.blk mt 1 ?_
      show _ ∧ jWp 13 35 [some (jO pa), some (jO s)] [jO pa, jO (pa + 1), jO s] 0 0 (jW w pa 0 ((u : Int) - 1)) _
      refine ⟨rfl, ?_⟩
      refine jWp.getI (pc' := 38) mt rfl rfl (jtg hP.1) ?_
      rw [show ((jW w pa 0 ((u : Int) - 1)).1 pa 0) = ((u : Int) - 1) from jW_s]
      show jWp 13 38 [some (jO pa), some (jO s)] [jI ((u : Int) - 1), jO (pa + 1), jO s] 0 0 (jW w pa 0 ((u : Int) - 1)) _
      refine jWp.aald (pc' := 39) (j := (u - 1)) (o := (pa + (2 + 2 * (u - 1)))) mt rfl rfl (jrg hP.2.1 (by decide) (by decide)) (by rw [b32_id (by omega) (by omega)]; omega) (jlt hP.2.1 (by omega)) (hP.2.2.2.1 (u - 1) (by omega)) ?_
      show jWp 13 39 [some (jO pa), some (jO s)] [jO (pa + (2 + 2 * (u - 1))), jO s] 0 0 (jW w pa 0 ((u : Int) - 1)) _
      refine jWp.callv (as := [jO s, jO (pa + (2 + 2 * (u - 1)))]) (rest := []) mt rfl rfl rfl ⟨rfl, jtg hks⟩ ?_
      refine jCall.mono (C_become (w := (jW w pa 0 ((u : Int) - 1))) (s := s) (sc := sc) (s2 := pa + (2 + 2 * (u - 1))) (sc2 := pa + (3 + 2 * (u - 1))) hks hkc hrc (hP.2.2.2.2.1 (u - 1) (by omega)) (hP.2.2.2.2.2.1 (u - 1) (by omega)) (hP.2.2.2.2.2.2 (u - 1) (by omega)) rfl) (fun v9 w9 h9 => ?_)
      obtain ⟨rfl, hbf, hb0, hbc⟩ := h9
      obtain ⟨M2, G9⟩ := w9
      have hg : G9 = w.2 := hbf.1
      subst hg
      show jWp 13 42 [some (jO pa), some (jO s)] [] 0 0 (M2, w.2) _
      refine jWp.blk mt 1 ?_
      show jWp 13 43 [some (jO pa), some (jO s)] [jI 1] 0 0 (M2, w.2) _
      refine jWp.iretz mt rfl ⟨rfl, rfl⟩ rfl (Or.inr rfl) ?_
      refine ⟨fun c => by exfalso; omega, fun c => ⟨rfl, rfl, fun b h0 g1 g2 => (hbf.2 b g1 g2).trans (jW_f h0), ?_, ?_, fun j hj => ?_⟩⟩
      · exact (congrFun (hbf.2 pa (Ne.symm hsp) (Ne.symm hcp)) 0).trans jW_s
      · exact hb0.trans (jW_a (by omega))
      · exact (hbc j hj).trans (jW_a (by omega))
    · have h2 : 8 < (u : Int) := h2
      refine jWp.blk mt 1 ?_
      show jWp 13 18 [some (jO pa), some (jO s)] [jI 0] 0 0 w _
      refine jWp.iretz mt rfl ⟨rfl, rfl⟩ rfl (Or.inl rfl) ?_
      first
      | exact ⟨fun c => ⟨rfl, rfl⟩, fun c => by exfalso; omega⟩
      | (exfalso; omega)
set_option maxHeartbeats 4000000 in
set_option maxRecDepth 20000 in
theorem C_pforget {w : jS} {pa : Nat} (hkp : w.2.1 pa = (3, 0)) : jCall 14 [jO pa] w (fun v w1 => v = none ∧ w1 = jW w pa 0 0) := by
  have mt : jtb 14 = jT14 := rfl
  show jWp 14 0 [some (jO pa)] [] 0 0 w _
  refine jWp.blk mt 2 ?_
  show _ ∧ jWp 14 2 [some (jO pa)] [jI 0, jO pa] 0 0 w _
  refine ⟨rfl, ?_⟩
  refine jWp.putI (pc' := 5) mt rfl rfl (jtg hkp) ?_
  show jWp 14 5 [some (jO pa)] [] 0 0 (jW w pa 0 0) _
  refine jWp.vret mt rfl ⟨rfl, rfl⟩ rfl ?_
  exact ⟨rfl, rfl⟩
set_option maxHeartbeats 4000000 in
set_option maxRecDepth 20000 in
theorem C_tforget {w : jS} {t : Nat} (hk8 : w.2.1 t = (8, 0)) : jCall 81 [jO t] w (fun v w1 => v = none ∧ w1 = jW w t 0 0) := by
  have mt : jtb 81 = jT81 := rfl
  show jWp 81 0 [some (jO t)] [] 0 0 w _
  refine jWp.blk mt 2 ?_
  show _ ∧ jWp 81 2 [some (jO t)] [jI 0, jO t] 0 0 w _
  refine ⟨rfl, ?_⟩
  refine jWp.putI (pc' := 5) mt rfl rfl (jtg hk8) ?_
  show jWp 81 5 [some (jO t)] [] 0 0 (jW w t 0 0) _
  refine jWp.vret mt rfl ⟨rfl, rfl⟩ rfl ?_
  exact ⟨rfl, rfl⟩
