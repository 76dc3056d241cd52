section
/-- what a statement does to a seed -/
noncomputable def zdo (c i j v : Int) (q : Nat → Int) : Option (Nat → Int) :=
  if c = 110 then (if 2 ≤ i ∧ i ≤ 4 then some (zNw i.toNat) else none)
  else if ¬ (0 ≤ i ∧ i < q 0) then none
  else if c = 109 then @ite (Option (Nat → Int)) (zcan q (q 0).toNat i.toNat) (Classical.propDecidable _) (some (zxF q (q 0).toNat i.toNat)) none
  else if c = 115 then (if 0 < j then some (zBg (zset q (17 + i.toNat) j)) else none)
  else if ¬ (0 ≤ j ∧ j < q 0) ∨ i = j then none
  else if c = 98 then some (zBg (zset (zset q (1 + (4 * i.toNat + j.toNat)) v) (1 + (4 * j.toNat + i.toNat)) (-v)))
  else some (zSp q i.toNat j.toNat)
theorem zdo_n {i j v : Int} {q : Nat → Int} : zdo 110 i j v q = if 2 ≤ i ∧ i ≤ 4 then some (zNw i.toNat) else none := if_pos rfl
theorem zdo_i {c i j v : Int} {q : Nat → Int} (hc : c ≠ 110) (h : ¬ (0 ≤ i ∧ i < q 0)) : zdo c i j v q = none := (if_neg hc).trans (if_pos h)
theorem zdo_m {i j v : Int} {q : Nat → Int} (h : 0 ≤ i ∧ i < q 0) : zdo 109 i j v q = @ite (Option (Nat → Int)) (zcan q (q 0).toNat i.toNat) (Classical.propDecidable _) (some (zxF q (q 0).toNat i.toNat)) none := (if_neg (by decide)).trans ((if_neg (fun g => g h)).trans (if_pos rfl))
theorem zdo_s {i j v : Int} {q : Nat → Int} (h : 0 ≤ i ∧ i < q 0) : zdo 115 i j v q = if 0 < j then some (zBg (zset q (17 + i.toNat) j)) else none := (if_neg (by decide)).trans ((if_neg (fun g => g h)).trans ((if_neg (by decide)).trans (if_pos rfl)))
theorem zdo_j {c i j v : Int} {q : Nat → Int} (h0 : c ≠ 110) (h1 : c ≠ 109) (h2 : c ≠ 115) (h : 0 ≤ i ∧ i < q 0) (g : ¬ (0 ≤ j ∧ j < q 0) ∨ i = j) : zdo c i j v q = none := (if_neg h0).trans ((if_neg (fun g => g h)).trans ((if_neg h1).trans ((if_neg h2).trans (if_pos g))))
theorem zdo_b {i j v : Int} {q : Nat → Int} (h : 0 ≤ i ∧ i < q 0) (g : ¬ (¬ (0 ≤ j ∧ j < q 0) ∨ i = j)) : zdo 98 i j v q = some (zBg (zset (zset q (1 + (4 * i.toNat + j.toNat)) v) (1 + (4 * j.toNat + i.toNat)) (-v))) := (if_neg (by decide)).trans ((if_neg (fun g => g h)).trans ((if_neg (by decide)).trans ((if_neg (by decide)).trans ((if_neg g).trans (if_pos rfl)))))
theorem zdo_w {i j v : Int} {q : Nat → Int} (h : 0 ≤ i ∧ i < q 0) (g : ¬ (¬ (0 ≤ j ∧ j < q 0) ∨ i = j)) : zdo 119 i j v q = some (zSp q i.toNat j.toNat) := (if_neg (by decide)).trans ((if_neg (fun g => g h)).trans ((if_neg (by decide)).trans ((if_neg (by decide)).trans ((if_neg g).trans (if_neg (by decide))))))
def zcd (c : Int) : Prop := c = 110 ∨ c = 109 ∨ c = 115 ∨ c = 119 ∨ c = 98
/-- a statement leads from seeds to seeds -/
theorem zdo_Q {c i j v : Int} {q q' : Nat → Int} {n : Nat} (hq : zQ q n) (hc : zcd c) (hj : c = 115 → j ≤ 9) (hv : c = 98 → -9 ≤ v ∧ v ≤ 9) (h : zdo c i j v q = some q') : ∃ n', zQ q' n' := by
  have h0 := hq.S.n0
  have hn := hq.S.n4
  by_cases e : c = 110
  · subst e
    rw [zdo_n] at h
    split at h
    · cases h
      exact ⟨_, zQ_new (by omega) (by omega)⟩
    · cases h
  · by_cases hi : 0 ≤ i ∧ i < q 0
    · rcases hc with hc | rfl | rfl | rfl | rfl
      · exact absurd hc e
      · rw [zdo_m hi] at h
        by_cases g : zcan q (q 0).toNat i.toNat
        · rw [if_pos g] at h
          cases h
          rw [show (q 0).toNat = n by omega] at g ⊢
          exact ⟨n, zQ_x hq (by omega) g⟩
        · rw [if_neg g] at h
          cases h
      · rw [zdo_s hi] at h
        split at h
        · cases h
          exact ⟨n, zQ_st hq (by omega) ⟨by omega, hj rfl⟩⟩
        · cases h
      · by_cases g : ¬ (0 ≤ j ∧ j < q 0) ∨ i = j
        · rw [zdo_j (by decide) (by decide) (by decide) hi g] at h
          cases h
        · rw [zdo_w hi g] at h
          cases h
          exact ⟨n, zQ_sw hq (by omega) (by omega)⟩
      · by_cases g : ¬ (0 ≤ j ∧ j < q 0) ∨ i = j
        · rw [zdo_j (by decide) (by decide) (by decide) hi g] at h
          cases h
        · rw [zdo_b hi g] at h
          cases h
          exact ⟨n, zQ_tb hq (by omega) (by omega) (by omega) (hv rfl)⟩
    · rw [zdo_i e hi] at h
      cases h
/-- the same statement on seeds that agree -/
theorem zdo_c {c i j v : Int} {S q : Nat → Int} {n : Nat} (hq : zQ q n) (hc : zcd c) (h : zeq S q) : (zdo c i j v S = none ∧ zdo c i j v q = none) ∨ ∃ S' q', zdo c i j v S = some S' ∧ zdo c i j v q = some q' ∧ zeq S' q' := by
  have h0 := hq.S.n0
  have hn := hq.S.n4
  have e0 : S 0 = q 0 := h 0 (by omega)
  by_cases e : c = 110
  · subst e
    rw [zdo_n, zdo_n]
    split
    · exact Or.inr ⟨_, _, rfl, rfl, fun _ _ => rfl⟩
    · exact Or.inl ⟨rfl, rfl⟩
  · by_cases hi : 0 ≤ i ∧ i < q 0
    · have hi' : 0 ≤ i ∧ i < S 0 := by omega
      rcases hc with hc | rfl | rfl | rfl | rfl
      · exact absurd hc e
      · rw [zdo_m hi, zdo_m hi', e0, show (q 0).toNat = n by omega]
        by_cases g : zcan q n i.toNat
        · rw [if_pos g, if_pos ((zcan_q h hn (by omega)).mpr g)]
          exact Or.inr ⟨_, _, rfl, rfl, zxF_c h hn (by omega)⟩
        · rw [if_neg g, if_neg (fun g2 => g ((zcan_q h hn (by omega)).mp g2))]
          exact Or.inl ⟨rfl, rfl⟩
      · rw [zdo_s hi, zdo_s hi']
        split
        · exact Or.inr ⟨_, _, rfl, rfl, zBg_c (zset_c h)⟩
        · exact Or.inl ⟨rfl, rfl⟩
      · by_cases g : ¬ (0 ≤ j ∧ j < q 0) ∨ i = j
        · rw [zdo_j (by decide) (by decide) (by decide) hi g, zdo_j (by decide) (by decide) (by decide) hi' (by omega)]
          exact Or.inl ⟨rfl, rfl⟩
        · rw [zdo_w hi g, zdo_w hi' (by omega)]
          exact Or.inr ⟨_, _, rfl, rfl, zSp_c (by omega) (by omega) h⟩
      · by_cases g : ¬ (0 ≤ j ∧ j < q 0) ∨ i = j
        · rw [zdo_j (by decide) (by decide) (by decide) hi g, zdo_j (by decide) (by decide) (by decide) hi' (by omega)]
          exact Or.inl ⟨rfl, rfl⟩
        · rw [zdo_b hi g, zdo_b hi' (by omega)]
          exact Or.inr ⟨_, _, rfl, rfl, zBg_c (zset_c (zset_c h))⟩
    · rw [zdo_i e hi, zdo_i e (by omega)]
      exact Or.inl ⟨rfl, rfl⟩
/-- what doing a statement works with -/
def zdf (w : jS) (m : Nat) (w1 : jS) : Prop := w1.2 = w.2 ∧ (∀ a, a ≠ m → a ≠ m + 6 → a ≠ m + 16 → w1.1 a = w.1 a) ∧ ∀ j, j ≠ 11 → j ≠ 12 → w1.1 m j = w.1 m j
theorem zdf_A {w : jS} {m : Nat} {T : Nat → Int} : zdf w m (kA w (m + 16) T) := ⟨rfl, fun a _ _ h => kA_f h, fun j _ _ => kA_a (by omega)⟩
theorem zdf_0 {w : jS} {m : Nat} : zdf w m w := ⟨rfl, fun _ _ _ _ => rfl, fun _ _ _ => rfl⟩
theorem zeq_0 {S : Nat → Int} : zeq S S := fun _ _ => rfl
set_option maxHeartbeats 4000000 in
set_option maxRecDepth 20000 in
theorem E_isDone {w : jS} {m : Nat} (hW : MW w.2 m) {n : Nat} {c : Int} (hQ : zQ (w.1 (m + 16)) n) (hc : zcd c) (h0n : 0 ≤ w.1 (m + 422) 0 ∧ w.1 (m + 422) 0 ≤ 9) (h1n : c = 115 ∨ c = 119 ∨ c = 98 → 0 ≤ w.1 (m + 422) 1 ∧ w.1 (m + 422) 1 ≤ 9) (h2n : c = 98 → -9 ≤ w.1 (m + 422) 2 ∧ w.1 (m + 422) 2 ≤ 9) : jCall 205 [jO m, jI c] w (fun v w1 => zdf w m w1 ∧ ((v = some (jI 1) ∧ ∃ q, zdo c (w.1 (m + 422) 0) (w.1 (m + 422) 1) (w.1 (m + 422) 2) (w.1 (m + 16)) = some q ∧ zeq (w1.1 (m + 16)) q) ∨ (v = some (jI 0) ∧ zdo c (w.1 (m + 422) 0) (w.1 (m + 422) 1) (w.1 (m + 422) 2) (w.1 (m + 16)) = none))) := by
  have mt : jtb 205 = jT205 := rfl
  have hcd : c = 110 ∨ c = 109 ∨ c = 115 ∨ c = 119 ∨ c = 98 := hc
  have hcr : 98 ≤ c ∧ c ≤ 119 := by omega
  have hn4 := hQ.S.n4
  show jWp 205 0 [some (jO m), some (jI c), none, none] [] 0 0 w _
  refine jWp.blk mt 1 ?_
  show _ ∧ jWp 205 1 [some (jO m), some (jI c), none, none] [jO m] 0 0 w _
  refine ⟨rfl, ?_⟩
  refine jWp.getR (pc' := 4) (o := (m + 422)) mt rfl rfl (jtg hW.K0) hW.R26 ?_
  show jWp 205 4 [some (jO m), some (jI c), none, none] [jO (m + 422)] 0 0 w _
  refine jWp.blk mt 1 ?_
  show jWp 205 5 [some (jO m), some (jI c), none, none] [jI 0, jO (m + 422)] 0 0 w _
  refine jWp.iald (pc' := 6) (j := 0) mt rfl rfl (jird_of hW.K422) (by decide) (jlt hW.K422 (by decide)) ?_
  show jWp 205 6 [some (jO m), some (jI c), none, none] [jI (w.1 (m + 422) 0)] 0 0 w _
  refine jWp.blk mt 2 ?_
  show _ ∧ jWp 205 8 [some (jO m), some (jI c), some (jI (w.1 (m + 422) 0)), none] [jO m] 0 0 w _
  refine ⟨rfl, ?_⟩
  refine jWp.getR (pc' := 11) (o := (m + 422)) mt rfl rfl (jtg hW.K0) hW.R26 ?_
  show jWp 205 11 [some (jO m), some (jI c), some (jI (w.1 (m + 422) 0)), none] [jO (m + 422)] 0 0 w _
  refine jWp.blk mt 1 ?_
  show jWp 205 12 [some (jO m), some (jI c), some (jI (w.1 (m + 422) 0)), none] [jI 1, jO (m + 422)] 0 0 w _
  refine jWp.iald (pc' := 13) (j := 1) mt rfl rfl (jird_of hW.K422) (by decide) (jlt hW.K422 (by decide)) ?_
  show jWp 205 13 [some (jO m), some (jI c), some (jI (w.1 (m + 422) 0)), none] [jI (w.1 (m + 422) 1)] 0 0 w _
  refine jWp.blk mt 3 ?_
  show jWp 205 17 [some (jO m), some (jI c), some (jI (w.1 (m + 422) 0)), some (jI (w.1 (m + 422) 1))] [jI 110, jI c] 0 0 w _
  refine jWp.icmp (pc' := 20) mt rfl rfl (b32_id (by omega) (by omega)) (show b32 110 = 110 by decide) (fun h1 => ?_) (fun h1 => ?_)
  · have h1 : c ≠ 110 := h1
    refine jWp.blk mt 1 ?_
    show _ ∧ jWp 205 56 [some (jO m), some (jI c), some (jI (w.1 (m + 422) 0)), some (jI (w.1 (m + 422) 1))] [jO m] 0 0 w _
    refine ⟨rfl, ?_⟩
    refine jWp.getR (pc' := 59) (o := (m + 16)) mt rfl rfl (jtg hW.K0) hW.R16 ?_
    show jWp 205 59 [some (jO m), some (jI c), some (jI (w.1 (m + 422) 0)), some (jI (w.1 (m + 422) 1))] [jO (m + 16)] 0 0 w _
    refine jWp.blk mt 1 ?_
    show jWp 205 60 [some (jO m), some (jI c), some (jI (w.1 (m + 422) 0)), some (jI (w.1 (m + 422) 1))] [jI (w.1 (m + 422) 0), jO (m + 16)] 0 0 w _
    refine jWp.calls (as := [jO (m + 16), jI (w.1 (m + 422) 0)]) (rest := []) mt rfl rfl rfl rfl ?_
    refine jCall.mono ((by have h := E_isIn (w := w) (q := m + 16) (n := n) (i := (w.1 (m + 422) 0)) hW.K16 hQ.S.n0 hQ.S.n4 (by constructor <;> omega); exact h)) (fun v9 w9 h9 => ?_)
    rcases h9 with ⟨rfl, h9, h2⟩ | ⟨rfl, h9, h2⟩ <;> subst w9
    · have h2 : 0 ≤ (w.1 (m + 422) 0) ∧ (w.1 (m + 422) 0) < (n : Int) := h2
      show jWp 205 63 [some (jO m), some (jI c), some (jI (w.1 (m + 422) 0)), some (jI (w.1 (m + 422) 1))] [jI 1] 0 0 w _
      refine jWp.ifc (b := true) mt rfl (by decide) rfl ?_
      show jWp 205 68 [some (jO m), some (jI c), some (jI (w.1 (m + 422) 0)), some (jI (w.1 (m + 422) 1))] [] 0 0 w _
      refine jWp.blk mt 2 ?_
      show jWp 205 71 [some (jO m), some (jI c), some (jI (w.1 (m + 422) 0)), some (jI (w.1 (m + 422) 1))] [jI 109, jI c] 0 0 w _
      refine jWp.icmp (pc' := 74) mt rfl rfl (b32_id (by omega) (by omega)) (show b32 109 = 109 by decide) (fun h3 => ?_) (fun h3 => ?_)
      · have h3 : c ≠ 109 := h3
        refine jWp.blk mt 2 ?_
        show jWp 205 87 [some (jO m), some (jI c), some (jI (w.1 (m + 422) 0)), some (jI (w.1 (m + 422) 1))] [jI 115, jI c] 0 0 w _
        refine jWp.icmp (pc' := 90) mt rfl rfl (b32_id (by omega) (by omega)) (show b32 115 = 115 by decide) (fun h4 => ?_) (fun h4 => ?_)
        · have h4 : c ≠ 115 := h4
          refine jWp.blk mt 1 ?_
          show _ ∧ jWp 205 120 [some (jO m), some (jI c), some (jI (w.1 (m + 422) 0)), some (jI (w.1 (m + 422) 1))] [jO m] 0 0 w _
          refine ⟨rfl, ?_⟩
          refine jWp.getR (pc' := 123) (o := (m + 16)) mt rfl rfl (jtg hW.K0) hW.R16 ?_
          show jWp 205 123 [some (jO m), some (jI c), some (jI (w.1 (m + 422) 0)), some (jI (w.1 (m + 422) 1))] [jO (m + 16)] 0 0 w _
          refine jWp.blk mt 1 ?_
          show jWp 205 124 [some (jO m), some (jI c), some (jI (w.1 (m + 422) 0)), some (jI (w.1 (m + 422) 1))] [jI (w.1 (m + 422) 1), jO (m + 16)] 0 0 w _
          refine jWp.calls (as := [jO (m + 16), jI (w.1 (m + 422) 1)]) (rest := []) mt rfl rfl rfl rfl ?_
          refine jCall.mono ((by have h := E_isIn (w := w) (q := m + 16) (n := n) (i := (w.1 (m + 422) 1)) hW.K16 hQ.S.n0 hQ.S.n4 (by constructor <;> omega); exact h)) (fun v9 w9 h9 => ?_)
          rcases h9 with ⟨rfl, h9, h5⟩ | ⟨rfl, h9, h5⟩ <;> subst w9
          · have h5 : 0 ≤ (w.1 (m + 422) 1) ∧ (w.1 (m + 422) 1) < (n : Int) := h5
            show jWp 205 127 [some (jO m), some (jI c), some (jI (w.1 (m + 422) 0)), some (jI (w.1 (m + 422) 1))] [jI 1] 0 0 w _
            refine jWp.ifc (b := false) mt rfl (by decide) rfl ?_
            show jWp 205 130 [some (jO m), some (jI c), some (jI (w.1 (m + 422) 0)), some (jI (w.1 (m + 422) 1))] [] 0 0 w _
            refine jWp.blk mt 2 ?_
            show jWp 205 132 [some (jO m), some (jI c), some (jI (w.1 (m + 422) 0)), some (jI (w.1 (m + 422) 1))] [jI (w.1 (m + 422) 1), jI (w.1 (m + 422) 0)] 0 0 w _
            refine jWp.icmp (pc' := 135) mt rfl rfl (b32_id (by omega) (by omega)) (b32_id (by omega) (by omega)) (fun h6 => ?_) (fun h6 => ?_)
            · have h6 : (w.1 (m + 422) 0) ≠ (w.1 (m + 422) 1) := h6
              refine jWp.blk mt 2 ?_
              show jWp 205 140 [some (jO m), some (jI c), some (jI (w.1 (m + 422) 0)), some (jI (w.1 (m + 422) 1))] [jI 98, jI c] 0 0 w _
              refine jWp.icmp (pc' := 143) mt rfl rfl (b32_id (by omega) (by omega)) (show b32 98 = 98 by decide) (fun h7 => ?_) (fun h7 => ?_)
              · have h7 : c ≠ 98 := h7
                refine jWp.blk mt 1 ?_
                show _ ∧ jWp 205 163 [some (jO m), some (jI c), some (jI (w.1 (m + 422) 0)), some (jI (w.1 (m + 422) 1))] [jO m] 0 0 w _
                refine ⟨rfl, ?_⟩
                refine jWp.getR (pc' := 166) (o := (m + 16)) mt rfl rfl (jtg hW.K0) hW.R16 ?_
                show jWp 205 166 [some (jO m), some (jI c), some (jI (w.1 (m + 422) 0)), some (jI (w.1 (m + 422) 1))] [jO (m + 16)] 0 0 w _
                refine jWp.blk mt 2 ?_
                show jWp 205 168 [some (jO m), some (jI c), some (jI (w.1 (m + 422) 0)), some (jI (w.1 (m + 422) 1))] [jI (w.1 (m + 422) 1), jI (w.1 (m + 422) 0), jO (m + 16)] 0 0 w _
                refine jWp.calls (as := [jO (m + 16), jI (w.1 (m + 422) 0), jI (w.1 (m + 422) 1)]) (rest := []) mt rfl rfl rfl rfl ?_
                refine jCall.mono ((by have h := E_swaps (w := w) (q := m + 16) (i := (w.1 (m + 422) 0).toNat) (j := (w.1 (m + 422) 1).toNat) hW.K16 (by have := hQ.S.n4; omega) (by have := hQ.S.n4; omega); rw [show (((w.1 (m + 422) 0).toNat : Nat) : Int) = w.1 (m + 422) 0 by omega, show (((w.1 (m + 422) 1).toNat : Nat) : Int) = w.1 (m + 422) 1 by omega] at h; exact h)) (fun v9 w9 h9 => ?_)
                obtain ⟨rfl, S9, h9, hS9⟩ := h9
                subst h9
                have hE9 := zswp_e hS9
                show jWp 205 171 [some (jO m), some (jI c), some (jI (w.1 (m + 422) 0)), some (jI (w.1 (m + 422) 1))] [] 0 0 (kA w (m + 16) S9) _
                refine jWp.blk mt 1 ?_
                show jWp 205 172 [some (jO m), some (jI c), some (jI (w.1 (m + 422) 0)), some (jI (w.1 (m + 422) 1))] [jI 1] 0 0 (kA w (m + 16) S9) _
                refine jWp.iretz mt rfl ⟨rfl, rfl⟩ rfl (Or.inr rfl) ?_
                have hn0 := hQ.S.n0
                first
                | (have ec : c = 110 := by omega
                   subst ec
                   refine ⟨zdf_A, Or.inl ⟨rfl, _, zdo_n.trans (if_pos (by omega)), ?_⟩⟩
                   rw [kA_fs]; exact hE9)
                | (have ec : c = 115 := by omega
                   subst ec
                   refine ⟨zdf_A, Or.inl ⟨rfl, _, (zdo_s (by omega)).trans (if_pos (by omega)), ?_⟩⟩
                   rw [kA_fs]; exact hE9)
                | (have ec : c = 98 := by omega
                   subst ec
                   refine ⟨zdf_A, Or.inl ⟨rfl, _, zdo_b (by omega) (by omega), ?_⟩⟩
                   rw [kA_fs]; exact hE9)
                | (have ec : c = 119 := by unfold zcd at hc; omega
                   subst ec
                   refine ⟨zdf_A, Or.inl ⟨rfl, _, zdo_w (by omega) (by omega), ?_⟩⟩
                   rw [kA_fs]; exact hE9)
                | (exfalso; omega)
              · have h7 : c = 98 := h7
                refine jWp.blk mt 2 ?_
                show _ ∧ _ ∧ jWp 205 145 [some (jO m), some (jI c), some (jI (w.1 (m + 422) 0)), some (jI (w.1 (m + 422) 1))] [jO m, jO m] 0 0 w _
                refine ⟨rfl, rfl, ?_⟩
                refine jWp.getR (pc' := 148) (o := (m + 16)) mt rfl rfl (jtg hW.K0) hW.R16 ?_
                show jWp 205 148 [some (jO m), some (jI c), some (jI (w.1 (m + 422) 0)), some (jI (w.1 (m + 422) 1))] [jO (m + 16), jO m] 0 0 w _
                refine jWp.blk mt 3 ?_
                show _ ∧ jWp 205 151 [some (jO m), some (jI c), some (jI (w.1 (m + 422) 0)), some (jI (w.1 (m + 422) 1))] [jO m, jI (w.1 (m + 422) 1), jI (w.1 (m + 422) 0), jO (m + 16), jO m] 0 0 w _
                refine ⟨rfl, ?_⟩
                refine jWp.getR (pc' := 154) (o := (m + 422)) mt rfl rfl (jtg hW.K0) hW.R26 ?_
                show jWp 205 154 [some (jO m), some (jI c), some (jI (w.1 (m + 422) 0)), some (jI (w.1 (m + 422) 1))] [jO (m + 422), jI (w.1 (m + 422) 1), jI (w.1 (m + 422) 0), jO (m + 16), jO m] 0 0 w _
                refine jWp.blk mt 1 ?_
                show jWp 205 155 [some (jO m), some (jI c), some (jI (w.1 (m + 422) 0)), some (jI (w.1 (m + 422) 1))] [jI 2, jO (m + 422), jI (w.1 (m + 422) 1), jI (w.1 (m + 422) 0), jO (m + 16), jO m] 0 0 w _
                refine jWp.iald (pc' := 156) (j := 2) mt rfl rfl (jird_of hW.K422) (by decide) (jlt hW.K422 (by decide)) ?_
                show jWp 205 156 [some (jO m), some (jI c), some (jI (w.1 (m + 422) 0)), some (jI (w.1 (m + 422) 1))] [jI (w.1 (m + 422) 2), jI (w.1 (m + 422) 1), jI (w.1 (m + 422) 0), jO (m + 16), jO m] 0 0 w _
                refine jWp.callv (as := [jO m, jO (m + 16), jI (w.1 (m + 422) 0), jI (w.1 (m + 422) 1), jI (w.1 (m + 422) 2)]) (rest := []) mt rfl rfl rfl ⟨rfl, jtg hW.K0⟩ ?_
                refine jCall.mono ((by have h := E_puts (w := w) (q := m + 16) (i := (w.1 (m + 422) 0).toNat) (j := (w.1 (m + 422) 1).toNat) (v := w.1 (m + 422) 2) hW.K0 hW.K16 (by have := hQ.S.n4; omega) (by have := hQ.S.n4; omega) (by omega); rw [show (((w.1 (m + 422) 0).toNat : Nat) : Int) = w.1 (m + 422) 0 by omega, show (((w.1 (m + 422) 1).toNat : Nat) : Int) = w.1 (m + 422) 1 by omega] at h; exact h)) (fun v9 w9 h9 => ?_)
                obtain ⟨rfl, S9, h9, hS9⟩ := h9
                subst h9
                have hE9 := zbg_e hS9
                show jWp 205 159 [some (jO m), some (jI c), some (jI (w.1 (m + 422) 0)), some (jI (w.1 (m + 422) 1))] [] 0 0 (kA w (m + 16) S9) _
                refine jWp.blk mt 2 ?_
                show jWp 205 172 [some (jO m), some (jI c), some (jI (w.1 (m + 422) 0)), some (jI (w.1 (m + 422) 1))] [jI 1] 0 0 (kA w (m + 16) S9) _
                refine jWp.iretz mt rfl ⟨rfl, rfl⟩ rfl (Or.inr rfl) ?_
                have hn0 := hQ.S.n0
                first
                | (have ec : c = 110 := by omega
                   subst ec
                   refine ⟨zdf_A, Or.inl ⟨rfl, _, zdo_n.trans (if_pos (by omega)), ?_⟩⟩
                   rw [kA_fs]; exact hE9)
                | (have ec : c = 115 := by omega
                   subst ec
                   refine ⟨zdf_A, Or.inl ⟨rfl, _, (zdo_s (by omega)).trans (if_pos (by omega)), ?_⟩⟩
                   rw [kA_fs]; exact hE9)
                | (have ec : c = 98 := by omega
                   subst ec
                   refine ⟨zdf_A, Or.inl ⟨rfl, _, zdo_b (by omega) (by omega), ?_⟩⟩
                   rw [kA_fs]; exact hE9)
                | (have ec : c = 119 := by unfold zcd at hc; omega
                   subst ec
                   refine ⟨zdf_A, Or.inl ⟨rfl, _, zdo_w (by omega) (by omega), ?_⟩⟩
                   rw [kA_fs]; exact hE9)
                | (exfalso; omega)
            · have h6 : (w.1 (m + 422) 0) = (w.1 (m + 422) 1) := h6
              refine jWp.blk mt 1 ?_
              show jWp 205 136 [some (jO m), some (jI c), some (jI (w.1 (m + 422) 0)), some (jI (w.1 (m + 422) 1))] [jI 0] 0 0 w _
              refine jWp.iretz mt rfl ⟨rfl, rfl⟩ rfl (Or.inl rfl) ?_
              have hn0 := hQ.S.n0
              first
              | (have ec : c = 110 := by omega
                 subst ec
                 exact ⟨zdf_0, Or.inr ⟨rfl, zdo_n.trans (if_neg (by omega))⟩⟩)
              | exact ⟨zdf_0, Or.inr ⟨rfl, zdo_i (by omega) (by omega)⟩⟩
              | exact ⟨zdf_0, Or.inr ⟨rfl, zdo_j (by omega) (by omega) (by omega) (by omega) (by omega)⟩⟩
              | (exfalso; omega)
          · have h5 : ¬ (0 ≤ (w.1 (m + 422) 1) ∧ (w.1 (m + 422) 1) < (n : Int)) := h5
            show jWp 205 127 [some (jO m), some (jI c), some (jI (w.1 (m + 422) 0)), some (jI (w.1 (m + 422) 1))] [jI 0] 0 0 w _
            refine jWp.ifc (b := true) mt rfl (by decide) rfl ?_
            show jWp 205 135 [some (jO m), some (jI c), some (jI (w.1 (m + 422) 0)), some (jI (w.1 (m + 422) 1))] [] 0 0 w _
            refine jWp.blk mt 1 ?_
            show jWp 205 136 [some (jO m), some (jI c), some (jI (w.1 (m + 422) 0)), some (jI (w.1 (m + 422) 1))] [jI 0] 0 0 w _
            refine jWp.iretz mt rfl ⟨rfl, rfl⟩ rfl (Or.inl rfl) ?_
            have hn0 := hQ.S.n0
            first
            | (have ec : c = 110 := by omega
               subst ec
               exact ⟨zdf_0, Or.inr ⟨rfl, zdo_n.trans (if_neg (by omega))⟩⟩)
            | exact ⟨zdf_0, Or.inr ⟨rfl, zdo_i (by omega) (by omega)⟩⟩
            | exact ⟨zdf_0, Or.inr ⟨rfl, zdo_j (by omega) (by omega) (by omega) (by omega) (by omega)⟩⟩
            | (exfalso; omega)
        · have h4 : c = 115 := h4
          refine jWp.blk mt 1 ?_
          show _ ∧ jWp 205 91 [some (jO m), some (jI c), some (jI (w.1 (m + 422) 0)), some (jI (w.1 (m + 422) 1))] [jO m] 0 0 w _
          refine ⟨rfl, ?_⟩
          refine jWp.getR (pc' := 94) (o := (m + 16)) mt rfl rfl (jtg hW.K0) hW.R16 ?_
          show jWp 205 94 [some (jO m), some (jI c), some (jI (w.1 (m + 422) 0)), some (jI (w.1 (m + 422) 1))] [jO (m + 16)] 0 0 w _
          refine jWp.blk mt 4 ?_
          show jWp 205 99 [some (jO m), some (jI c), some (jI (w.1 (m + 422) 0)), some (jI (w.1 (m + 422) 1))] [jI (w.1 (m + 422) 1), jI (17 + (w.1 (m + 422) 0)), jO (m + 16)] 0 0 w _
          refine jWp.i2l (pc' := 100) mt rfl rfl (b32_id (by omega) (by omega)) ?_
          show jWp 205 100 [some (jO m), some (jI c), some (jI (w.1 (m + 422) 0)), some (jI (w.1 (m + 422) 1))] [jJ (w.1 (m + 422) 1), jI (17 + (w.1 (m + 422) 0)), jO (m + 16)] 0 0 w _
          refine jWp.last (pc' := 101) (j := (17 + (w.1 (m + 422) 0).toNat)) mt rfl rfl (jtg hW.K16) (by have := hQ.S.n4; rw [b32_id (by omega) (by omega)]; omega) (jlt hW.K16 (by have := hQ.S.n4; omega)) ?_
          show jWp 205 101 [some (jO m), some (jI c), some (jI (w.1 (m + 422) 0)), some (jI (w.1 (m + 422) 1))] [] 0 0 (jW w (m + 16) (17 + (w.1 (m + 422) 0).toNat) (w.1 (m + 422) 1)) _
          refine jWp.blk mt 2 ?_
          show _ ∧ _ ∧ jWp 205 103 [some (jO m), some (jI c), some (jI (w.1 (m + 422) 0)), some (jI (w.1 (m + 422) 1))] [jO m, jO m] 0 0 (jW w (m + 16) (17 + (w.1 (m + 422) 0).toNat) (w.1 (m + 422) 1)) _
          refine ⟨rfl, rfl, ?_⟩
          refine jWp.getR (pc' := 106) (o := (m + 16)) mt rfl rfl (jtg hW.K0) hW.R16 ?_
          show jWp 205 106 [some (jO m), some (jI c), some (jI (w.1 (m + 422) 0)), some (jI (w.1 (m + 422) 1))] [jO (m + 16), jO m] 0 0 (jW w (m + 16) (17 + (w.1 (m + 422) 0).toNat) (w.1 (m + 422) 1)) _
          refine jWp.callv (as := [jO m, jO (m + 16)]) (rest := []) mt rfl rfl rfl ⟨rfl, jtg hW.K0⟩ ?_
          refine jCall.mono (E_begun (w := (jW w (m + 16) (17 + (w.1 (m + 422) 0).toNat) (w.1 (m + 422) 1))) (q := m + 16) hW.K16) (fun v9 w9 h9 => ?_)
          obtain ⟨rfl, S9, h9, hS9⟩ := h9
          subst h9
          have hE9 := zbg_e hS9
          rw [show (jW w (m + 16) (17 + (w.1 (m + 422) 0).toNat) (w.1 (m + 422) 1)).1 (m + 16) = zset (w.1 (m + 16)) (17 + (w.1 (m + 422) 0).toNat) (w.1 (m + 422) 1) from by rw [kA_W0, kA_fs]] at hE9
          rw [show kA (jW w (m + 16) (17 + (w.1 (m + 422) 0).toNat) (w.1 (m + 422) 1)) (m + 16) S9 = kA w (m + 16) S9 from by rw [kA_W0, kA_A]]
          show jWp 205 109 [some (jO m), some (jI c), some (jI (w.1 (m + 422) 0)), some (jI (w.1 (m + 422) 1))] [] 0 0 (kA w (m + 16) S9) _
          refine jWp.blk mt 1 ?_
          show jWp 205 110 [some (jO m), some (jI c), some (jI (w.1 (m + 422) 0)), some (jI (w.1 (m + 422) 1))] [jI (w.1 (m + 422) 1)] 0 0 (kA w (m + 16) S9) _
          refine jWp.ifz (pc' := 113) mt rfl rfl (b32_id (by omega) (by omega)) (fun h8 => ?_) (fun h8 => ?_)
          · have h8 : (w.1 (m + 422) 1) ≤ 0 := h8
            refine jWp.blk mt 1 ?_
            show jWp 205 118 [some (jO m), some (jI c), some (jI (w.1 (m + 422) 0)), some (jI (w.1 (m + 422) 1))] [jI 0] 0 0 (kA w (m + 16) S9) _
            refine jWp.iretz mt rfl ⟨rfl, rfl⟩ rfl (Or.inl rfl) ?_
            have hn0 := hQ.S.n0
            first
            | (have ec : c = 115 := by omega
               subst ec
               exact ⟨zdf_A, Or.inr ⟨rfl, (zdo_s (by omega)).trans (if_neg (by omega))⟩⟩)
            | (exfalso; omega)
          · have h8 : 0 < (w.1 (m + 422) 1) := h8
            refine jWp.blk mt 2 ?_
            show jWp 205 118 [some (jO m), some (jI c), some (jI (w.1 (m + 422) 0)), some (jI (w.1 (m + 422) 1))] [jI 1] 0 0 (kA w (m + 16) S9) _
            refine jWp.iretz mt rfl ⟨rfl, rfl⟩ rfl (Or.inr rfl) ?_
            have hn0 := hQ.S.n0
            first
            | (have ec : c = 110 := by omega
               subst ec
               refine ⟨zdf_A, Or.inl ⟨rfl, _, zdo_n.trans (if_pos (by omega)), ?_⟩⟩
               rw [kA_fs]; exact hE9)
            | (have ec : c = 115 := by omega
               subst ec
               refine ⟨zdf_A, Or.inl ⟨rfl, _, (zdo_s (by omega)).trans (if_pos (by omega)), ?_⟩⟩
               rw [kA_fs]; exact hE9)
            | (have ec : c = 98 := by omega
               subst ec
               refine ⟨zdf_A, Or.inl ⟨rfl, _, zdo_b (by omega) (by omega), ?_⟩⟩
               rw [kA_fs]; exact hE9)
            | (have ec : c = 119 := by unfold zcd at hc; omega
               subst ec
               refine ⟨zdf_A, Or.inl ⟨rfl, _, zdo_w (by omega) (by omega), ?_⟩⟩
               rw [kA_fs]; exact hE9)
            | (exfalso; omega)
      · have h3 : c = 109 := h3
        refine jWp.blk mt 2 ?_
        show _ ∧ _ ∧ jWp 205 76 [some (jO m), some (jI c), some (jI (w.1 (m + 422) 0)), some (jI (w.1 (m + 422) 1))] [jO m, jO m] 0 0 w _
        refine ⟨rfl, rfl, ?_⟩
        refine jWp.getR (pc' := 79) (o := (m + 16)) mt rfl rfl (jtg hW.K0) hW.R16 ?_
        show jWp 205 79 [some (jO m), some (jI c), some (jI (w.1 (m + 422) 0)), some (jI (w.1 (m + 422) 1))] [jO (m + 16), jO m] 0 0 w _
        refine jWp.blk mt 1 ?_
        show jWp 205 80 [some (jO m), some (jI c), some (jI (w.1 (m + 422) 0)), some (jI (w.1 (m + 422) 1))] [jI (w.1 (m + 422) 0), jO (m + 16), jO m] 0 0 w _
        refine jWp.callv (as := [jO m, jO (m + 16), jI (w.1 (m + 422) 0)]) (rest := []) mt rfl rfl rfl ⟨rfl, jtg hW.K0⟩ ?_
        refine jCall.mono ((by have h := E_xany (w := w) (o := 16) (n := n) (k := (w.1 (m + 422) 0).toNat) hW hW.K16 hQ.S (by have := hQ.S.n4; omega); rw [show (((w.1 (m + 422) 0).toNat : Nat) : Int) = w.1 (m + 422) 0 by omega] at h; exact h)) (fun v9 w9 h9 => ?_)
        obtain ⟨hx9, hh⟩ := h9
        obtain ⟨M2, G9⟩ := w9
        have hg : G9 = w.2 := hx9.1
        subst hg
        have hdf : zdf w m (M2, w.2) := hx9
        rcases hh with ⟨rfl, hz⟩ | ⟨rfl, hzS, hz⟩
        · have hz' := hz
          show jWp 205 83 [some (jO m), some (jI c), some (jI (w.1 (m + 422) 0)), some (jI (w.1 (m + 422) 1))] [jI 1] 0 0 (M2, w.2) _
          refine jWp.iretz mt rfl ⟨rfl, rfl⟩ rfl (Or.inr rfl) ?_
          have hn0 := hQ.S.n0
          have ec : c = 109 := by omega
          subst ec
          rw [zdo_m (by omega), hn0, show ((n : Int)).toNat = n from rfl]
          exact ⟨hdf, Or.inl ⟨rfl, _, if_pos hz.1, zxn_F (by have := hQ.S.n4; omega) hz⟩⟩
        · have hzS' := hzS
          show jWp 205 83 [some (jO m), some (jI c), some (jI (w.1 (m + 422) 0)), some (jI (w.1 (m + 422) 1))] [jI 0] 0 0 (M2, w.2) _
          refine jWp.iretz mt rfl ⟨rfl, rfl⟩ rfl (Or.inl rfl) ?_
          have hn0 := hQ.S.n0
          have ec : c = 109 := by omega
          subst ec
          rw [zdo_m (by omega), hn0, show ((n : Int)).toNat = n from rfl]
          exact ⟨hdf, Or.inr ⟨rfl, if_neg hz⟩⟩
    · have h2 : ¬ (0 ≤ (w.1 (m + 422) 0) ∧ (w.1 (m + 422) 0) < (n : Int)) := h2
      show jWp 205 63 [some (jO m), some (jI c), some (jI (w.1 (m + 422) 0)), some (jI (w.1 (m + 422) 1))] [jI 0] 0 0 w _
      refine jWp.ifc (b := false) mt rfl (by decide) rfl ?_
      show jWp 205 66 [some (jO m), some (jI c), some (jI (w.1 (m + 422) 0)), some (jI (w.1 (m + 422) 1))] [] 0 0 w _
      refine jWp.blk mt 1 ?_
      show jWp 205 67 [some (jO m), some (jI c), some (jI (w.1 (m + 422) 0)), some (jI (w.1 (m + 422) 1))] [jI 0] 0 0 w _
      refine jWp.iretz mt rfl ⟨rfl, rfl⟩ rfl (Or.inl rfl) ?_
      have hn0 := hQ.S.n0
      first
      | (have ec : c = 110 := by omega
         subst ec
         exact ⟨zdf_0, Or.inr ⟨rfl, zdo_n.trans (if_neg (by omega))⟩⟩)
      | exact ⟨zdf_0, Or.inr ⟨rfl, zdo_i (by omega) (by omega)⟩⟩
      | exact ⟨zdf_0, Or.inr ⟨rfl, zdo_j (by omega) (by omega) (by omega) (by omega) (by omega)⟩⟩
      | (exfalso; omega)
  · have h1 : c = 110 := h1
    refine jWp.blk mt 1 ?_
    show jWp 205 21 [some (jO m), some (jI c), some (jI (w.1 (m + 422) 0)), some (jI (w.1 (m + 422) 1))] [jI (w.1 (m + 422) 0)] 0 0 w _
    refine jWp.i2l (pc' := 22) mt rfl rfl (b32_id (by omega) (by omega)) ?_
    show jWp 205 22 [some (jO m), some (jI c), some (jI (w.1 (m + 422) 0)), some (jI (w.1 (m + 422) 1))] [jJ (w.1 (m + 422) 0)] 0 0 w _
    refine jWp.blk mt 2 ?_
    show jWp 205 28 [some (jO m), some (jI c), some (jI (w.1 (m + 422) 0)), some (jI (w.1 (m + 422) 1))] [jJ 4, jJ 2, jJ (w.1 (m + 422) 0)] 0 0 w _
    refine jWp.calls (as := [jJ (w.1 (m + 422) 0), jJ 2, jJ 4]) (rest := []) mt rfl rfl rfl rfl ?_
    refine jCall.mono (E_in (b64_id (by omega) (by omega)) (show b64 2 = 2 by decide) (show b64 4 = 4 by decide)) (fun v9 w9 h9 => ?_)
    rcases h9 with ⟨rfl, h9, h10⟩ | ⟨rfl, h9, h10⟩ <;> subst w9
    · have h10 : 2 ≤ (w.1 (m + 422) 0) ∧ (w.1 (m + 422) 0) ≤ 4 := h10
      show jWp 205 31 [some (jO m), some (jI c), some (jI (w.1 (m + 422) 0)), some (jI (w.1 (m + 422) 1))] [jI 1] 0 0 w _
      refine jWp.ifc (b := false) mt rfl (by decide) rfl ?_
      show jWp 205 34 [some (jO m), some (jI c), some (jI (w.1 (m + 422) 0)), some (jI (w.1 (m + 422) 1))] [] 0 0 w _
      refine jWp.blk mt 2 ?_
      show _ ∧ _ ∧ jWp 205 36 [some (jO m), some (jI c), some (jI (w.1 (m + 422) 0)), some (jI (w.1 (m + 422) 1))] [jO m, jO m] 0 0 w _
      refine ⟨rfl, rfl, ?_⟩
      refine jWp.getR (pc' := 39) (o := (m + 16)) mt rfl rfl (jtg hW.K0) hW.R16 ?_
      show jWp 205 39 [some (jO m), some (jI c), some (jI (w.1 (m + 422) 0)), some (jI (w.1 (m + 422) 1))] [jO (m + 16), jO m] 0 0 w _
      refine jWp.blk mt 1 ?_
      show jWp 205 40 [some (jO m), some (jI c), some (jI (w.1 (m + 422) 0)), some (jI (w.1 (m + 422) 1))] [jI (w.1 (m + 422) 0), jO (m + 16), jO m] 0 0 w _
      refine jWp.callv (as := [jO m, jO (m + 16), jI (w.1 (m + 422) 0)]) (rest := []) mt rfl rfl rfl ⟨rfl, jtg hW.K0⟩ ?_
      refine jCall.mono ((by have h := E_tells (w := w) (q := m + 16) (n := (w.1 (m + 422) 0).toNat) (M0 := (0, 0)) hW.K0 hW.K16 (by omega); rw [show (((w.1 (m + 422) 0).toNat : Nat) : Int) = w.1 (m + 422) 0 by omega] at h; exact h)) (fun v9 w9 h9 => ?_)
      obtain ⟨rfl, S9, h9, hS9⟩ := h9
      subst h9
      have hE9 := znew_e (n := (w.1 (m + 422) 0).toNat) ⟨hS9.1.trans (by omega), hS9.2⟩
      show jWp 205 43 [some (jO m), some (jI c), some (jI (w.1 (m + 422) 0)), some (jI (w.1 (m + 422) 1))] [] 0 0 (kA w (m + 16) S9) _
      refine jWp.blk mt 1 ?_
      show jWp 205 44 [some (jO m), some (jI c), some (jI (w.1 (m + 422) 0)), some (jI (w.1 (m + 422) 1))] [jI (w.1 (m + 422) 0)] 0 0 (kA w (m + 16) S9) _
      refine jWp.i2l (pc' := 45) mt rfl rfl (b32_id (by omega) (by omega)) ?_
      show jWp 205 45 [some (jO m), some (jI c), some (jI (w.1 (m + 422) 0)), some (jI (w.1 (m + 422) 1))] [jJ (w.1 (m + 422) 0)] 0 0 (kA w (m + 16) S9) _
      refine jWp.blk mt 2 ?_
      show jWp 205 51 [some (jO m), some (jI c), some (jI (w.1 (m + 422) 0)), some (jI (w.1 (m + 422) 1))] [jJ 4, jJ 2, jJ (w.1 (m + 422) 0)] 0 0 (kA w (m + 16) S9) _
      refine jWp.calls (as := [jJ (w.1 (m + 422) 0), jJ 2, jJ 4]) (rest := []) mt rfl rfl rfl rfl ?_
      refine jCall.mono (E_in (b64_id (by omega) (by omega)) (show b64 2 = 2 by decide) (show b64 4 = 4 by decide)) (fun v9 w9 h9 => ?_)
      rcases h9 with ⟨rfl, h9, h11⟩ | ⟨rfl, h9, h11⟩ <;> subst w9
      · have h11 : 2 ≤ (w.1 (m + 422) 0) ∧ (w.1 (m + 422) 0) ≤ 4 := h11
        show jWp 205 54 [some (jO m), some (jI c), some (jI (w.1 (m + 422) 0)), some (jI (w.1 (m + 422) 1))] [jI 1] 0 0 (kA w (m + 16) S9) _
        refine jWp.iretz mt rfl ⟨rfl, rfl⟩ rfl (Or.inr rfl) ?_
        have hn0 := hQ.S.n0
        first
        | (have ec : c = 110 := by omega
           subst ec
           refine ⟨zdf_A, Or.inl ⟨rfl, _, zdo_n.trans (if_pos (by omega)), ?_⟩⟩
           rw [kA_fs]; exact hE9)
        | (have ec : c = 115 := by omega
           subst ec
           refine ⟨zdf_A, Or.inl ⟨rfl, _, (zdo_s (by omega)).trans (if_pos (by omega)), ?_⟩⟩
           rw [kA_fs]; exact hE9)
        | (have ec : c = 98 := by omega
           subst ec
           refine ⟨zdf_A, Or.inl ⟨rfl, _, zdo_b (by omega) (by omega), ?_⟩⟩
           rw [kA_fs]; exact hE9)
        | (have ec : c = 119 := by unfold zcd at hc; omega
           subst ec
           refine ⟨zdf_A, Or.inl ⟨rfl, _, zdo_w (by omega) (by omega), ?_⟩⟩
           rw [kA_fs]; exact hE9)
        | (exfalso; omega)
      · have h11 : ¬ (2 ≤ (w.1 (m + 422) 0) ∧ (w.1 (m + 422) 0) ≤ 4) := h11
        show jWp 205 54 [some (jO m), some (jI c), some (jI (w.1 (m + 422) 0)), some (jI (w.1 (m + 422) 1))] [jI 0] 0 0 (kA w (m + 16) S9) _
        refine jWp.iretz mt rfl ⟨rfl, rfl⟩ rfl (Or.inl rfl) ?_
        have hn0 := hQ.S.n0
        first
        | (have ec : c = 115 := by omega
           subst ec
           exact ⟨zdf_A, Or.inr ⟨rfl, (zdo_s (by omega)).trans (if_neg (by omega))⟩⟩)
        | (exfalso; omega)
    · have h10 : ¬ (2 ≤ (w.1 (m + 422) 0) ∧ (w.1 (m + 422) 0) ≤ 4) := h10
      show jWp 205 31 [some (jO m), some (jI c), some (jI (w.1 (m + 422) 0)), some (jI (w.1 (m + 422) 1))] [jI 0] 0 0 w _
      refine jWp.ifc (b := true) mt rfl (by decide) rfl ?_
      show jWp 205 43 [some (jO m), some (jI c), some (jI (w.1 (m + 422) 0)), some (jI (w.1 (m + 422) 1))] [] 0 0 w _
      refine jWp.blk mt 1 ?_
      show jWp 205 44 [some (jO m), some (jI c), some (jI (w.1 (m + 422) 0)), some (jI (w.1 (m + 422) 1))] [jI (w.1 (m + 422) 0)] 0 0 w _
      refine jWp.i2l (pc' := 45) mt rfl rfl (b32_id (by omega) (by omega)) ?_
      show jWp 205 45 [some (jO m), some (jI c), some (jI (w.1 (m + 422) 0)), some (jI (w.1 (m + 422) 1))] [jJ (w.1 (m + 422) 0)] 0 0 w _
      refine jWp.blk mt 2 ?_
      show jWp 205 51 [some (jO m), some (jI c), some (jI (w.1 (m + 422) 0)), some (jI (w.1 (m + 422) 1))] [jJ 4, jJ 2, jJ (w.1 (m + 422) 0)] 0 0 w _
      refine jWp.calls (as := [jJ (w.1 (m + 422) 0), jJ 2, jJ 4]) (rest := []) mt rfl rfl rfl rfl ?_
      refine jCall.mono (E_in (b64_id (by omega) (by omega)) (show b64 2 = 2 by decide) (show b64 4 = 4 by decide)) (fun v9 w9 h9 => ?_)
      rcases h9 with ⟨rfl, h9, h12⟩ | ⟨rfl, h9, h12⟩ <;> subst w9
      · have h12 : 2 ≤ (w.1 (m + 422) 0) ∧ (w.1 (m + 422) 0) ≤ 4 := h12
        show jWp 205 54 [some (jO m), some (jI c), some (jI (w.1 (m + 422) 0)), some (jI (w.1 (m + 422) 1))] [jI 1] 0 0 w _
        refine jWp.iretz mt rfl ⟨rfl, rfl⟩ rfl (Or.inr rfl) ?_
        exfalso; omega
      · have h12 : ¬ (2 ≤ (w.1 (m + 422) 0) ∧ (w.1 (m + 422) 0) ≤ 4) := h12
        show jWp 205 54 [some (jO m), some (jI c), some (jI (w.1 (m + 422) 0)), some (jI (w.1 (m + 422) 1))] [jI 0] 0 0 w _
        refine jWp.iretz mt rfl ⟨rfl, rfl⟩ rfl (Or.inl rfl) ?_
        have hn0 := hQ.S.n0
        first
        | (have ec : c = 110 := by omega
           subst ec
           exact ⟨zdf_0, Or.inr ⟨rfl, zdo_n.trans (if_neg (by omega))⟩⟩)
        | exact ⟨zdf_0, Or.inr ⟨rfl, zdo_i (by omega) (by omega)⟩⟩
        | exact ⟨zdf_0, Or.inr ⟨rfl, zdo_j (by omega) (by omega) (by omega) (by omega) (by omega)⟩⟩
        | (exfalso; omega)
end
section
theorem zbh_cd {t : Nat → Int} {F p : Nat} (h : 0 ≤ zbh t F p) : zcd (zlt t F p) := by
  unfold zbh at h
  unfold zcd
  by_cases h1 : zlt t F p = 110 ∨ zlt t F p = 109
  · omega
  · rw [if_neg h1] at h
    by_cases h2 : zlt t F p = 115 ∨ zlt t F p = 119
    · omega
    · rw [if_neg h2] at h
      by_cases h3 : zlt t F p = 98
      · omega
      · rw [if_neg h3] at h
        omega
theorem zfg_b (c : Int) : -1 ≤ zfg c ∧ zfg c ≤ 9 := by
  unfold zfg
  split <;> omega
theorem znm_b (t : Nat → Int) (F p : Nat) : -9 ≤ znm t F p ∧ znm t F p ≤ 9 := by
  have h1 := zfg_b (zlt t F p)
  have h2 := zfg_b (zlt t F (p + 1))
  unfold znm
  split <;> omega
/-- the statements of a text, one behind the other: how many; or -1 less the place of the first misplaced letter -/
def zw1 (t : Nat → Int) (F : Nat) : Nat → Nat → Nat → Int
  | 0, _, k => (k : Int)
  | f + 1, p, k => if zbh t F p < 0 then zbh t F p else if (F : Int) ≤ zbh t F p then ((k + 1 : Nat) : Int) else zw1 t F f (zbh t F p).toNat (k + 1)
theorem zw1_n {t : Nat → Int} {F f p k : Nat} (h : zbh t F p < 0) : zw1 t F (f + 1) p k = zbh t F p := if_pos h
theorem zw1_e {t : Nat → Int} {F f p k b : Nat} (h : zbh t F p = (b : Int)) (g : F ≤ b) : zw1 t F (f + 1) p k = ((k + 1 : Nat) : Int) := (if_neg (by omega)).trans (if_pos (by omega))
theorem zw1_g {t : Nat → Int} {F f p k b : Nat} (h : zbh t F p = (b : Int)) (g : b < F) : zw1 t F (f + 1) p k = zw1 t F f b (k + 1) := by
  show (if _ then _ else if _ then _ else _) = _
  rw [if_neg (by omega), if_neg (by omega), show (zbh t F p).toNat = b by omega]
/-- the statements of a text done: the seed then, or the place of the first that can't be -/
noncomputable def zw2 (t : Nat → Int) (F : Nat) : Nat → Nat → (Nat → Int) → (Nat → Int) ⊕ Nat
  | 0, _, q => .inl q
  | f + 1, p, q => if F ≤ p then .inl q else if zbh t F p < 0 then .inr p else
    match zdo (zlt t F p) (zfg (zlt t F (p + 1))) (zfg (zlt t F (p + 2))) (znm t F (p + 3)) q with
    | none => .inr p
    | some q' => zw2 t F f (zbh t F p).toNat q'
theorem zw2_e {t : Nat → Int} {F f p : Nat} {q : Nat → Int} (h : F ≤ p) : zw2 t F (f + 1) p q = .inl q := if_pos h
theorem zw2_n {t : Nat → Int} {F f p : Nat} {q : Nat → Int} (h : ¬ F ≤ p) (g : zbh t F p < 0) : zw2 t F (f + 1) p q = .inr p := (if_neg h).trans (if_pos g)
theorem zw2_f {t : Nat → Int} {F f p : Nat} {q : Nat → Int} (h : ¬ F ≤ p) (g : ¬ zbh t F p < 0) (d : zdo (zlt t F p) (zfg (zlt t F (p + 1))) (zfg (zlt t F (p + 2))) (znm t F (p + 3)) q = none) : zw2 t F (f + 1) p q = .inr p := by
  refine ((if_neg h).trans (if_neg g)).trans ?_
  rw [d]
theorem zw2_g {t : Nat → Int} {F f p b : Nat} {q q' : Nat → Int} (h : ¬ F ≤ p) (g : zbh t F p = (b : Int)) (d : zdo (zlt t F p) (zfg (zlt t F (p + 1))) (zfg (zlt t F (p + 2))) (znm t F (p + 3)) q = some q') : zw2 t F (f + 1) p q = zw2 t F f b q' := by
  refine ((if_neg h).trans (if_neg (by omega))).trans ?_
  rw [d, g]
  rfl
def zr2 : (Nat → Int) ⊕ Nat → (Nat → Int) ⊕ Nat → Prop
  | .inl S, .inl q => zeq S q
  | .inr x, .inr y => x = y
  | _, _ => False
theorem zr2_0 : ∀ a, zr2 a a
  | .inl _ => fun _ _ => rfl
  | .inr _ => rfl
theorem zr2_t : ∀ {a b c}, zr2 a b → zr2 b c → zr2 a c
  | .inl _, .inl _, .inl _, h, g => zeq_t h g
  | .inr _, .inr _, .inr _, h, g => Eq.trans h g
  | .inl _, .inl _, .inr _, _, g => g.elim
  | .inl _, .inr _, _, h, _ => h.elim
  | .inr _, .inl _, _, h, _ => h.elim
  | .inr _, .inr _, .inl _, _, g => g.elim
theorem zw2_c {t : Nat → Int} {F : Nat} : ∀ (f p n : Nat) (S q : Nat → Int), zQ q n → zeq S q → zr2 (zw2 t F f p S) (zw2 t F f p q)
  | 0, _, _, _, _, _, h => h
  | f + 1, p, n, S, q, hq, h => by
    by_cases e : F ≤ p
    · rw [zw2_e e, zw2_e e]
      exact h
    · by_cases g : zbh t F p < 0
      · rw [zw2_n e g, zw2_n e g]
        rfl
      · have hc := zbh_cd (t := t) (F := F) (p := p) (by omega)
        obtain ⟨b, hb⟩ : ∃ b : Nat, zbh t F p = (b : Int) := ⟨(zbh t F p).toNat, by omega⟩
        rcases zdo_c (i := zfg (zlt t F (p + 1))) (j := zfg (zlt t F (p + 2))) (v := znm t F (p + 3)) hq hc h with ⟨d1, d2⟩ | ⟨S', q', d1, d2, h'⟩
        · rw [zw2_f e g d1, zw2_f e g d2]
          rfl
        · rw [zw2_g e hb d1, zw2_g e hb d2]
          obtain ⟨n', hq'⟩ := zdo_Q hq hc (fun _ => (zfg_b _).2) (fun _ => znm_b _ _ _) d2
          exact zw2_c f b n' S' q' hq' h'
/-- the reference but for the seed and the past; the letters are no more -/
def mfW (w : jS) (m : Nat) (w1 : jS) : Prop := w1.2 = w.2 ∧ (∀ a, (a < m ∨ m + 430 ≤ a ∨ a = m + 2 ∨ a = m + 3 ∨ a = m + 421 ∨ a = m + 423 ∨ (m + 425 ≤ a ∧ a ≤ m + 429)) → w1.1 a = w.1 a) ∧ w1.1 m 24 = 0 ∧ w1.1 m 31 = w.1 m 31
theorem zfinW {w W w3 : jS} {m u : Nat} {T : Nat → Int} (hq : mq w m W) (hc : zcom (jW W m 24 0) m u ((jW W m 24 0).1 (m + 1)) w3) : mfW w m (kA w3 (m + 1) T) ∧ zpst w m u (w.1 (m + 1)) (kA w3 (m + 1) T) ∧ w3.1 (m + 16) = W.1 (m + 16) := by
  obtain ⟨f1, f2, hg, hc⟩ := hc
  have e1 : (jW W m 24 0).1 (m + 1) = w.1 (m + 1) := (jW_f (by omega)).trans (hq.2.1 _ (by omega))
  have e8 : ∀ x, x < 8 → (jW W m 24 0).1 (m + (8 + x)) = w.1 (m + (8 + x)) := fun x hx => (jW_f (by omega)).trans (hq.2.1 _ (by omega))
  rw [e1] at hc
  refine ⟨⟨hg.trans hq.1, fun a ha => ?_, ?_, ?_⟩, ?_, (f1 (m + 16) (by omega) (fun x hx => by omega)).trans (jW_f (by omega))⟩
  · exact (kA_f (by omega)).trans ((f1 a (by omega) (fun x hx => by omega)).trans ((jW_f (by omega)).trans (hq.2.1 a (by omega))))
  · exact (kA_a (by omega)).trans ((f2 24 (by decide)).trans jW_s)
  · exact (kA_a (by omega)).trans ((f2 31 (by decide)).trans ((jW_k (by decide)).trans hq.2.2.2.2))
  · rcases hc with ⟨a1, a2, a3, a4⟩ | ⟨a1, a2, a3, a4⟩
    · exact Or.inl ⟨a1, (kA_a (by omega)).trans a2, fun x hx => (kA_f (by omega)).trans ((a3 x hx).trans (e8 x (by omega))), fun c hc => (kA_a (by omega)).trans (a4 c hc)⟩
    · exact Or.inr ⟨a1, (kA_a (by omega)).trans a2, fun x hx c hc => (kA_a (by omega)).trans ((a3 x hx c hc).trans (congrFun (e8 (x + 1) (by omega)) c)), fun c hc => (kA_a (by omega)).trans (a4 c hc)⟩
/-- what both parts of a walk work with -/
def zwf (w : jS) (m : Nat) (w1 : jS) : Prop := w1.2 = w.2 ∧ (∀ a, a ≠ m → a ≠ m + 6 → a ≠ m + 16 → a ≠ m + 422 → w1.1 a = w.1 a) ∧ ∀ j, j ≠ 11 → j ≠ 12 → j ≠ 25 → w1.1 m j = w.1 m j
theorem zwf_q {w w1 : jS} {m : Nat} (h : zwf w m w1) : mq w m w1 := ⟨h.1, fun a ha => h.2.1 a (by omega) (by omega) (by omega) (by omega), h.2.2 15 (by decide) (by decide) (by decide), h.2.2 24 (by decide) (by decide) (by decide), h.2.2 31 (by decide) (by decide) (by decide)⟩
theorem zwf_t {w w1 w2 : jS} {m : Nat} (h : zwf w m w1) (g : zwf w1 m w2) : zwf w m w2 := ⟨g.1.trans h.1, fun a h0 h6 h16 h4 => (g.2.1 a h0 h6 h16 h4).trans (h.2.1 a h0 h6 h16 h4), fun j h1 h2 h3 => (g.2.2 j h1 h2 h3).trans (h.2.2 j h1 h2 h3)⟩
theorem zwf_s {w w1 : jS} {m : Nat} (h : zsg w m w1) : zwf w m w1 := ⟨h.1, fun a h0 _ _ h4 => h.2.1 a h0 h4, fun j _ _ h3 => h.2.2 j h3⟩
theorem zwf_d {w w1 : jS} {m : Nat} (h : zdf w m w1) : zwf w m w1 := ⟨h.1, fun a h0 h6 h16 _ => h.2.1 a h0 h6 h16, fun j h1 h2 _ => h.2.2 j h1 h2⟩
theorem zwf_0 {w : jS} {m : Nat} : zwf w m w := ⟨rfl, fun _ _ _ _ _ => rfl, fun _ _ _ _ => rfl⟩
theorem zwf_p {w : jS} {m : Nat} {x : Int} : zwf w m (jW w m 25 x) := ⟨rfl, fun _ h _ _ _ => jW_f h, fun _ _ _ h => jW_k h⟩
theorem zwf_A {w : jS} {m : Nat} {T : Nat → Int} : zwf w m (kA w (m + 16) T) := ⟨rfl, fun _ _ _ h _ => kA_f h, fun _ _ _ _ => kA_a (by omega)⟩
/-- what isn't told by a statement doesn't matter to it -/
theorem zdoN {t N q q' : Nat → Int} {F p : Nat} (h : zst1 t F p N) (hq : q = q') : zdo (zlt t F p) (N 0) (N 1) (N 2) q = zdo (zlt t F p) (zfg (zlt t F (p + 1))) (zfg (zlt t F (p + 2))) (znm t F (p + 3)) q' := by
  subst hq
  obtain ⟨h0, h1, h2, h3⟩ := h
  rw [h1.1]
  rcases h0 with e | e | e | e | e
  · rw [e, zdo_n, zdo_n]
  · rw [e]
    by_cases g : 0 ≤ zfg (zlt t F (p + 1)) ∧ zfg (zlt t F (p + 1)) < q 0
    · rw [zdo_m g, zdo_m g]
    · rw [zdo_i (by decide) g, zdo_i (by decide) g]
  · rw [(h2 (Or.inl e)).1, e]
    by_cases g : 0 ≤ zfg (zlt t F (p + 1)) ∧ zfg (zlt t F (p + 1)) < q 0
    · rw [zdo_s g, zdo_s g]
    · rw [zdo_i (by decide) g, zdo_i (by decide) g]
  · rw [(h2 (Or.inr (Or.inl e))).1, e]
    by_cases g : 0 ≤ zfg (zlt t F (p + 1)) ∧ zfg (zlt t F (p + 1)) < q 0
    · by_cases k : ¬ (0 ≤ zfg (zlt t F (p + 2)) ∧ zfg (zlt t F (p + 2)) < q 0) ∨ zfg (zlt t F (p + 1)) = zfg (zlt t F (p + 2))
      · rw [zdo_j (by decide) (by decide) (by decide) g k, zdo_j (by decide) (by decide) (by decide) g k]
      · rw [zdo_w g k, zdo_w g k]
    · rw [zdo_i (by decide) g, zdo_i (by decide) g]
  · rw [(h2 (Or.inr (Or.inr e))).1, (h3 e).1]
theorem zr2_i : ∀ {a : (Nat → Int) ⊕ Nat} {x : Nat}, zr2 (.inr x) a → a = .inr x
  | .inr _, _, h => by rw [show _ = _ from h]
  | .inl _, _, h => h.elim
theorem zr2_l : ∀ {a : (Nat → Int) ⊕ Nat} {S : Nat → Int}, zr2 (.inl S) a → ∃ q, a = .inl q ∧ zeq S q
  | .inl q, _, h => ⟨q, rfl, h⟩
  | .inr _, _, h => h.elim
set_option maxHeartbeats 4000000 in
set_option maxRecDepth 20000 in
theorem E_walk {w : jS} {m : Nat} (hW : MW w.2 m) {n u F : Nat} {t : Nat → Int} (hQ : zQ (w.1 (m + 1)) n) (hu : w.1 m 15 = (u : Int)) (hu8 : u ≤ 8) (hF : w.1 m 24 = (F : Int)) (hF72 : F ≤ 72) (ht : w.1 (m + 421) = t) (hL : ∀ j, j < F → 0 ≤ t j ∧ t j ≤ 255) : jCall 206 [jO m] w (fun v w1 => ((zw1 t F 73 0 0) < 0 → v = some (jI (-999 + (zw1 t F 73 0 0))) ∧ ∃ w2, mq w m w2 ∧ w1 = jW w2 m 24 0) ∧ (0 ≤ (zw1 t F 73 0 0) → (∀ b, (zw2 t F 73 0 (w.1 (m + 1))) = .inr b → v = some (jI (-2000 - (b : Int))) ∧ ∃ w2, mq w m w2 ∧ w1 = jW w2 m 24 0) ∧ ∀ q, (zw2 t F 73 0 (w.1 (m + 1))) = .inl q → v = some (jI (zw1 t F 73 0 0)) ∧ zeq (w1.1 (m + 1)) q ∧ zpst w m u (w.1 (m + 1)) w1 ∧ mfW w m w1)) := by
  have mt : jtb 206 = jT206 := rfl
  show jWp 206 0 [some (jO m), none, none, none, none, none] [] 0 0 w _
  refine jWp.blk mt 1 ?_
  show _ ∧ jWp 206 1 [some (jO m), none, none, none, none, none] [jO m] 0 0 w _
  refine ⟨rfl, ?_⟩
  refine jWp.getI (pc' := 4) mt rfl rfl (jtg hW.K0) ?_
  rw [show (w.1 m 24) = (F : Int) from hF]
  show jWp 206 4 [some (jO m), none, none, none, none, none] [jI (F : Int)] 0 0 w _
  refine jWp.blk mt 3 ?_
  show _ ∧ jWp 206 7 [some (jO m), some (jI (F : Int)), none, none, none, none] [jI 0, jO m] 0 0 w _
  refine ⟨rfl, ?_⟩
  refine jWp.putI (pc' := 10) mt rfl rfl (jtg hW.K0) ?_
  show jWp 206 10 [some (jO m), some (jI (F : Int)), none, none, none, none] [] 0 0 (jW w m 25 0) _
  refine jWp.blk mt 4 ?_
  show jWp 206 14 [some (jO m), some (jI (F : Int)), some (jI 0), some (jI 1), none, none] [] 0 0 (jW w m 25 0) _
  have lp1 : ∀ (N : Nat) (k p : Nat) (s : Int) (M1 : Nat → Nat → Int) (hw1 : zwf w m (M1, w.2)) (hp : M1 m 25 = (p : Int)) (hp1 : (s = 1 ∧ k ≤ p ∧ p ≤ F ∧ (k = 0 ∨ p < F → zw1 t F (73 - k) p k = (zw1 t F 73 0 0)) ∧ (k ≠ 0 → F ≤ p → (k : Int) = (zw1 t F 73 0 0))) ∨ (s = 0 ∧ (zw1 t F 73 0 0) = -1 - (p : Int) ∧ p ≤ 100)) (hk : k ≤ 73), 80 - k < N → jWp 206 14 [some (jO m), some (jI (F : Int)), some (jI (k : Int)), some (jI s), none, none] [] 0 0 (M1, w.2) (fun v w1 => ((zw1 t F 73 0 0) < 0 → v = some (jI (-999 + (zw1 t F 73 0 0))) ∧ ∃ w2, mq w m w2 ∧ w1 = jW w2 m 24 0) ∧ (0 ≤ (zw1 t F 73 0 0) → (∀ b, (zw2 t F 73 0 (w.1 (m + 1))) = .inr b → v = some (jI (-2000 - (b : Int))) ∧ ∃ w2, mq w m w2 ∧ w1 = jW w2 m 24 0) ∧ ∀ q, (zw2 t F 73 0 (w.1 (m + 1))) = .inl q → v = some (jI (zw1 t F 73 0 0)) ∧ zeq (w1.1 (m + 1)) q ∧ zpst w m u (w.1 (m + 1)) w1 ∧ mfW w m w1)) := by
    intro N
    induction N with
    | zero => intro k p s M1 hw1 hp hp1 hk hm; omega
    | succ N ih2 =>
      intro k p s M1 hw1 hp hp1 hk hm
      have hr1 : s = 1 → k = 0 ∨ p < F → zw1 t F (73 - k) p k = (zw1 t F 73 0 0) := fun e => by
        rcases hp1 with ⟨_, _, _, h, _⟩ | ⟨e2, _⟩
        · exact h
        · omega
      have hk1 : s = 1 → k ≠ 0 → F ≤ p → (k : Int) = (zw1 t F 73 0 0) := fun e => by
        rcases hp1 with ⟨_, _, _, _, h⟩ | ⟨e2, _⟩
        · exact h
        · omega
      refine jWp.blk mt 1 ?_
      show jWp 206 15 [some (jO m), some (jI (F : Int)), some (jI (k : Int)), some (jI s), none, none] [jI s] 0 0 (M1, w.2) _
      refine jWp.ifz (pc' := 18) mt rfl rfl (b32_id (by omega) (by omega)) (fun h3 => ?_) (fun h3 => ?_)
      · have h3 : s = 0 := h3
        refine jWp.blk mt 1 ?_
        show jWp 206 42 [some (jO m), some (jI (F : Int)), some (jI (k : Int)), some (jI s), none, none] [jI s] 0 0 (M1, w.2) _
        refine jWp.ifz (pc' := 45) mt rfl rfl (b32_id (by omega) (by omega)) (fun h4 => ?_) (fun h4 => ?_)
        · have h4 : s ≠ 0 := h4
          refine jWp.blk mt 1 ?_
          show _ ∧ jWp 206 60 [some (jO m), some (jI (F : Int)), some (jI (k : Int)), some (jI s), none, none] [jO m] 0 0 (M1, w.2) _
          refine ⟨rfl, ?_⟩
          refine jWp.getR (pc' := 63) (o := (m + 1)) mt rfl rfl (jtg hW.K0) hW.R0 ?_
          show jWp 206 63 [some (jO m), some (jI (F : Int)), some (jI (k : Int)), some (jI s), none, none] [jO (m + 1)] 0 0 (M1, w.2) _
          refine jWp.blk mt 1 ?_
          show _ ∧ jWp 206 64 [some (jO m), some (jI (F : Int)), some (jI (k : Int)), some (jI s), none, none] [jO m, jO (m + 1)] 0 0 (M1, w.2) _
          refine ⟨rfl, ?_⟩
          refine jWp.getR (pc' := 67) (o := (m + 16)) mt rfl rfl (jtg hW.K0) hW.R16 ?_
          show jWp 206 67 [some (jO m), some (jI (F : Int)), some (jI (k : Int)), some (jI s), none, none] [jO (m + 16), jO (m + 1)] 0 0 (M1, w.2) _
          refine jWp.calls (as := [jO (m + 1), jO (m + 16)]) (rest := []) mt rfl rfl rfl rfl ?_
          refine jCall.mono (E_copies (w := (M1, w.2)) (a := m + 1) (q := m + 16) hW.K1 hW.K16 (by omega)) (fun v9 w9 h9 => ?_)
          obtain ⟨rfl, T5, h9, hT6⟩ := h9
          subst h9
          show jWp 206 70 [some (jO m), some (jI (F : Int)), some (jI (k : Int)), some (jI s), none, none] [] 0 0 (kA (M1, w.2) (m + 16) T5) _
          refine jWp.blk mt 2 ?_
          show _ ∧ jWp 206 72 [some (jO m), some (jI (F : Int)), some (jI (k : Int)), some (jI s), none, none] [jI 0, jO m] 0 0 (kA (M1, w.2) (m + 16) T5) _
          refine ⟨rfl, ?_⟩
          refine jWp.putI (pc' := 75) mt rfl rfl (jtg hW.K0) ?_
          show jWp 206 75 [some (jO m), some (jI (F : Int)), some (jI (k : Int)), some (jI s), none, none] [] 0 0 (jW (kA (M1, w.2) (m + 16) T5) m 25 0) _
          refine jWp.blk mt 2 ?_
          show jWp 206 78 [some (jO m), some (jI (F : Int)), some (jI (k : Int)), some (jI s), some (jI 0), none] [] 0 0 (jW (kA (M1, w.2) (m + 16) T5) m 25 0) _
          have lp7 : ∀ (N : Nat) (f p bb : Nat) (s : Int) (M2 : Nat → Nat → Int) (hw2 : zwf w m (M2, w.2)) (hp : M2 m 25 = (p : Int)) (hp2 : (s = 1 ∧ zr2 (zw2 t F f p (M2 (m + 16))) (zw2 t F 73 0 (w.1 (m + 1))) ∧ F + 1 ≤ p + f ∧ p ≤ F ∧ ∃ n2, zQ (M2 (m + 16)) n2) ∨ (s = 0 ∧ (zw2 t F 73 0 (w.1 (m + 1))) = .inr bb)) (hpF : p ≤ 100) (hbF : bb ≤ 100), (101 - p) + s.toNat < N → jWp 206 78 [some (jO m), some (jI (F : Int)), some (jI (k : Int)), some (jI s), some (jI (bb : Int)), none] [] 0 0 (M2, w.2) (fun v w1 => ((zw1 t F 73 0 0) < 0 → v = some (jI (-999 + (zw1 t F 73 0 0))) ∧ ∃ w2, mq w m w2 ∧ w1 = jW w2 m 24 0) ∧ (0 ≤ (zw1 t F 73 0 0) → (∀ b, (zw2 t F 73 0 (w.1 (m + 1))) = .inr b → v = some (jI (-2000 - (b : Int))) ∧ ∃ w2, mq w m w2 ∧ w1 = jW w2 m 24 0) ∧ ∀ q, (zw2 t F 73 0 (w.1 (m + 1))) = .inl q → v = some (jI (zw1 t F 73 0 0)) ∧ zeq (w1.1 (m + 1)) q ∧ zpst w m u (w.1 (m + 1)) w1 ∧ mfW w m w1)) := by
            intro N
            induction N with
            | zero => intro f p bb s M2 hw2 hp hp2 hpF hbF hm; omega
            | succ N ih8 =>
              intro f p bb s M2 hw2 hp hp2 hpF hbF hm
              have hr2 : s = 1 → zr2 (zw2 t F f p (M2 (m + 16))) (zw2 t F 73 0 (w.1 (m + 1))) := fun e => by
                rcases hp2 with ⟨_, h, _⟩ | ⟨e2, _⟩
                · exact h
                · omega
              have hx2 : ∃ n2, s = 1 → zQ (M2 (m + 16)) n2 := by
                rcases hp2 with ⟨_, _, _, _, n2, h⟩ | ⟨e2, _⟩
                · exact ⟨n2, fun _ => h⟩
                · exact ⟨0, fun e => by omega⟩
              obtain ⟨n2, hQ2⟩ := hx2
              refine jWp.blk mt 1 ?_
              show jWp 206 79 [some (jO m), some (jI (F : Int)), some (jI (k : Int)), some (jI s), some (jI (bb : Int)), none] [jI s] 0 0 (M2, w.2) _
              refine jWp.ifz (pc' := 82) mt rfl rfl (b32_id (by omega) (by omega)) (fun h9 => ?_) (fun h9 => ?_)
              · have h9 : s = 0 := h9
                refine jWp.blk mt 2 ?_
                show _ ∧ jWp 206 129 [some (jO m), some (jI (F : Int)), some (jI (k : Int)), some (jI s), some (jI (bb : Int)), none] [jI 0, jO m] 0 0 (M2, w.2) _
                refine ⟨rfl, ?_⟩
                refine jWp.putI (pc' := 132) mt rfl rfl (jtg hW.K0) ?_
                show jWp 206 132 [some (jO m), some (jI (F : Int)), some (jI (k : Int)), some (jI s), some (jI (bb : Int)), none] [] 0 0 (jW (M2, w.2) m 24 0) _
                refine jWp.blk mt 1 ?_
                show jWp 206 133 [some (jO m), some (jI (F : Int)), some (jI (k : Int)), some (jI s), some (jI (bb : Int)), none] [jI s] 0 0 (jW (M2, w.2) m 24 0) _
                refine jWp.ifz (pc' := 136) mt rfl rfl (b32_id (by omega) (by omega)) (fun h10 => ?_) (fun h10 => ?_)
                · have h10 : s ≠ 0 := h10
                  refine jWp.blk mt 2 ?_
                  show _ ∧ _ ∧ jWp 206 145 [some (jO m), some (jI (F : Int)), some (jI (k : Int)), some (jI s), some (jI (bb : Int)), none] [jO m, jO m] 0 0 (jW (M2, w.2) m 24 0) _
                  refine ⟨rfl, rfl, ?_⟩
                  refine jWp.getR (pc' := 148) (o := (m + 1)) mt rfl rfl (jtg hW.K0) hW.R0 ?_
                  show jWp 206 148 [some (jO m), some (jI (F : Int)), some (jI (k : Int)), some (jI s), some (jI (bb : Int)), none] [jO (m + 1), jO m] 0 0 (jW (M2, w.2) m 24 0) _
                  refine jWp.callv (as := [jO m, jO (m + 1)]) (rest := []) mt rfl rfl rfl ⟨rfl, jtg hW.K0⟩ ?_
                  refine jCall.mono (E_comes (w := (jW (M2, w.2) m 24 0)) (u := u) (b := 1) hW ((jW_k (by decide)).trans ((hw2.2.2 15 (by decide) (by decide) (by decide)).trans hu)) hu8 hW.K1 (by decide) (Or.inl (by decide))) (fun v9 w9 h9 => ?_)
                  obtain ⟨rfl, hzc⟩ := h9
                  obtain ⟨M5, G5⟩ := w9
                  have hg : G5 = w.2 := hzc.2.2.1
                  subst hg
                  show jWp 206 151 [some (jO m), some (jI (F : Int)), some (jI (k : Int)), some (jI s), some (jI (bb : Int)), none] [] 0 0 (M5, w.2) _
                  refine jWp.blk mt 1 ?_
                  show _ ∧ jWp 206 152 [some (jO m), some (jI (F : Int)), some (jI (k : Int)), some (jI s), some (jI (bb : Int)), none] [jO m] 0 0 (M5, w.2) _
                  refine ⟨rfl, ?_⟩
                  refine jWp.getR (pc' := 155) (o := (m + 16)) mt rfl rfl (jtg hW.K0) hW.R16 ?_
                  show jWp 206 155 [some (jO m), some (jI (F : Int)), some (jI (k : Int)), some (jI s), some (jI (bb : Int)), none] [jO (m + 16)] 0 0 (M5, w.2) _
                  refine jWp.blk mt 1 ?_
                  show _ ∧ jWp 206 156 [some (jO m), some (jI (F : Int)), some (jI (k : Int)), some (jI s), some (jI (bb : Int)), none] [jO m, jO (m + 16)] 0 0 (M5, w.2) _
                  refine ⟨rfl, ?_⟩
                  refine jWp.getR (pc' := 159) (o := (m + 1)) mt rfl rfl (jtg hW.K0) hW.R0 ?_
                  show jWp 206 159 [some (jO m), some (jI (F : Int)), some (jI (k : Int)), some (jI s), some (jI (bb : Int)), none] [jO (m + 1), jO (m + 16)] 0 0 (M5, w.2) _
                  refine jWp.calls (as := [jO (m + 16), jO (m + 1)]) (rest := []) mt rfl rfl rfl rfl ?_
                  refine jCall.mono (E_copies (w := (M5, w.2)) (a := m + 16) (q := m + 1) hW.K16 hW.K1 (by omega)) (fun v9 w9 h9 => ?_)
                  obtain ⟨rfl, T11, h9, hT12⟩ := h9
                  subst h9
                  show jWp 206 162 [some (jO m), some (jI (F : Int)), some (jI (k : Int)), some (jI s), some (jI (bb : Int)), none] [] 0 0 (kA (M5, w.2) (m + 1) T11) _
                  refine jWp.blk mt 1 ?_
                  show jWp 206 163 [some (jO m), some (jI (F : Int)), some (jI (k : Int)), some (jI s), some (jI (bb : Int)), none] [jI (k : Int)] 0 0 (kA (M5, w.2) (m + 1) T11) _
                  refine jWp.ireti mt rfl ⟨rfl, rfl⟩ rfl ?_
                  have hZ := zfinW (T := T11) (zwf_q hw2) hzc
                  have hin : ∃ q, (zw2 t F 73 0 (w.1 (m + 1))) = .inl q ∧ zeq (M2 (m + 16)) q := by
                    rcases hp2 with ⟨e, hr2, g1, g2, g3⟩ | ⟨e, g⟩
                    · rw [show f = (f - 1) + 1 by omega, zw2_e (by omega)] at hr2
                      exact zr2_l hr2
                    · exfalso; omega
                  obtain ⟨q9, hq9, he9⟩ := hin
                  refine ⟨fun hn => ?_, fun hn => ⟨fun b2 hb2 => ?_, fun q2 hq2 => ⟨?_, ?_, hZ.2.1, hZ.1⟩⟩⟩
                  · exfalso; omega
                  · rw [hq9] at hb2
                    cases hb2
                  · rw [hk1 (by omega) (by omega) (by omega)]
                  · rw [hq9] at hq2
                    cases hq2
                    rw [kA_fs]
                    exact fun j hj => ((hT12 j hj).trans (congrFun hZ.2.2 j)).trans (he9 j hj)
                · have h10 : s = 0 := h10
                  refine jWp.blk mt 3 ?_
                  show jWp 206 142 [some (jO m), some (jI (F : Int)), some (jI (k : Int)), some (jI s), some (jI (bb : Int)), none] [jI ((-2000) - (bb : Int))] 0 0 (jW (M2, w.2) m 24 0) _
                  refine jWp.ireti mt rfl ⟨rfl, rfl⟩ rfl ?_
                  refine ⟨fun hn => ?_, fun hn => ⟨fun b2 hb2 => ⟨?_, (M2, w.2), zwf_q hw2, rfl⟩, fun q2 hq2 => ?_⟩⟩
                  · exfalso; omega
                  · rcases hp2 with ⟨e, _⟩ | ⟨e, g⟩
                    · exfalso; omega
                    · rw [g] at hb2
                      cases hb2
                      rfl
                  · exfalso
                    rcases hp2 with ⟨e, _⟩ | ⟨e, g⟩
                    · omega
                    · rw [g] at hq2
                      cases hq2
              · have h9 : s ≠ 0 := h9
                refine jWp.blk mt 1 ?_
                show _ ∧ jWp 206 83 [some (jO m), some (jI (F : Int)), some (jI (k : Int)), some (jI s), some (jI (bb : Int)), none] [jO m] 0 0 (M2, w.2) _
                refine ⟨rfl, ?_⟩
                refine jWp.getI (pc' := 86) mt rfl rfl (jtg hW.K0) ?_
                rw [show ((M2, w.2).1 m 25) = (p : Int) from hp]
                show jWp 206 86 [some (jO m), some (jI (F : Int)), some (jI (k : Int)), some (jI s), some (jI (bb : Int)), none] [jI (p : Int)] 0 0 (M2, w.2) _
                refine jWp.blk mt 1 ?_
                show jWp 206 87 [some (jO m), some (jI (F : Int)), some (jI (k : Int)), some (jI s), some (jI (bb : Int)), none] [jI (F : Int), jI (p : Int)] 0 0 (M2, w.2) _
                refine jWp.icmp (pc' := 90) mt rfl rfl (b32_id (by omega) (by omega)) (b32_id (by omega) (by omega)) (fun h13 => ?_) (fun h13 => ?_)
                · have h13 : (F : Int) ≤ (p : Int) := h13
                  refine jWp.blk mt 2 ?_
                  show _ ∧ jWp 206 129 [some (jO m), some (jI (F : Int)), some (jI (k : Int)), some (jI s), some (jI (bb : Int)), none] [jI 0, jO m] 0 0 (M2, w.2) _
                  refine ⟨rfl, ?_⟩
                  refine jWp.putI (pc' := 132) mt rfl rfl (jtg hW.K0) ?_
                  show jWp 206 132 [some (jO m), some (jI (F : Int)), some (jI (k : Int)), some (jI s), some (jI (bb : Int)), none] [] 0 0 (jW (M2, w.2) m 24 0) _
                  refine jWp.blk mt 1 ?_
                  show jWp 206 133 [some (jO m), some (jI (F : Int)), some (jI (k : Int)), some (jI s), some (jI (bb : Int)), none] [jI s] 0 0 (jW (M2, w.2) m 24 0) _
                  refine jWp.ifz (pc' := 136) mt rfl rfl (b32_id (by omega) (by omega)) (fun h14 => ?_) (fun h14 => ?_)
                  · have h14 : s ≠ 0 := h14
                    refine jWp.blk mt 2 ?_
                    show _ ∧ _ ∧ jWp 206 145 [some (jO m), some (jI (F : Int)), some (jI (k : Int)), some (jI s), some (jI (bb : Int)), none] [jO m, jO m] 0 0 (jW (M2, w.2) m 24 0) _
                    refine ⟨rfl, rfl, ?_⟩
                    refine jWp.getR (pc' := 148) (o := (m + 1)) mt rfl rfl (jtg hW.K0) hW.R0 ?_
                    show jWp 206 148 [some (jO m), some (jI (F : Int)), some (jI (k : Int)), some (jI s), some (jI (bb : Int)), none] [jO (m + 1), jO m] 0 0 (jW (M2, w.2) m 24 0) _
                    refine jWp.callv (as := [jO m, jO (m + 1)]) (rest := []) mt rfl rfl rfl ⟨rfl, jtg hW.K0⟩ ?_
                    refine jCall.mono (E_comes (w := (jW (M2, w.2) m 24 0)) (u := u) (b := 1) hW ((jW_k (by decide)).trans ((hw2.2.2 15 (by decide) (by decide) (by decide)).trans hu)) hu8 hW.K1 (by decide) (Or.inl (by decide))) (fun v9 w9 h9 => ?_)
                    obtain ⟨rfl, hzc⟩ := h9
                    obtain ⟨M5, G5⟩ := w9
                    have hg : G5 = w.2 := hzc.2.2.1
                    subst hg
                    show jWp 206 151 [some (jO m), some (jI (F : Int)), some (jI (k : Int)), some (jI s), some (jI (bb : Int)), none] [] 0 0 (M5, w.2) _
                    refine jWp.blk mt 1 ?_
                    show _ ∧ jWp 206 152 [some (jO m), some (jI (F : Int)), some (jI (k : Int)), some (jI s), some (jI (bb : Int)), none] [jO m] 0 0 (M5, w.2) _
                    refine ⟨rfl, ?_⟩
                    refine jWp.getR (pc' := 155) (o := (m + 16)) mt rfl rfl (jtg hW.K0) hW.R16 ?_
                    show jWp 206 155 [some (jO m), some (jI (F : Int)), some (jI (k : Int)), some (jI s), some (jI (bb : Int)), none] [jO (m + 16)] 0 0 (M5, w.2) _
                    refine jWp.blk mt 1 ?_
                    show _ ∧ jWp 206 156 [some (jO m), some (jI (F : Int)), some (jI (k : Int)), some (jI s), some (jI (bb : Int)), none] [jO m, jO (m + 16)] 0 0 (M5, w.2) _
                    refine ⟨rfl, ?_⟩
                    refine jWp.getR (pc' := 159) (o := (m + 1)) mt rfl rfl (jtg hW.K0) hW.R0 ?_
                    show jWp 206 159 [some (jO m), some (jI (F : Int)), some (jI (k : Int)), some (jI s), some (jI (bb : Int)), none] [jO (m + 1), jO (m + 16)] 0 0 (M5, w.2) _
                    refine jWp.calls (as := [jO (m + 16), jO (m + 1)]) (rest := []) mt rfl rfl rfl rfl ?_
                    refine jCall.mono (E_copies (w := (M5, w.2)) (a := m + 16) (q := m + 1) hW.K16 hW.K1 (by omega)) (fun v9 w9 h9 => ?_)
                    obtain ⟨rfl, T15, h9, hT16⟩ := h9
                    subst h9
                    show jWp 206 162 [some (jO m), some (jI (F : Int)), some (jI (k : Int)), some (jI s), some (jI (bb : Int)), none] [] 0 0 (kA (M5, w.2) (m + 1) T15) _
                    refine jWp.blk mt 1 ?_
                    show jWp 206 163 [some (jO m), some (jI (F : Int)), some (jI (k : Int)), some (jI s), some (jI (bb : Int)), none] [jI (k : Int)] 0 0 (kA (M5, w.2) (m + 1) T15) _
                    refine jWp.ireti mt rfl ⟨rfl, rfl⟩ rfl ?_
                    have hZ := zfinW (T := T15) (zwf_q hw2) hzc
                    have hin : ∃ q, (zw2 t F 73 0 (w.1 (m + 1))) = .inl q ∧ zeq (M2 (m + 16)) q := by
                      rcases hp2 with ⟨e, hr2, g1, g2, g3⟩ | ⟨e, g⟩
                      · rw [show f = (f - 1) + 1 by omega, zw2_e (by omega)] at hr2
                        exact zr2_l hr2
                      · exfalso; omega
                    obtain ⟨q9, hq9, he9⟩ := hin
                    refine ⟨fun hn => ?_, fun hn => ⟨fun b2 hb2 => ?_, fun q2 hq2 => ⟨?_, ?_, hZ.2.1, hZ.1⟩⟩⟩
                    · exfalso; omega
                    · rw [hq9] at hb2
                      cases hb2
                    · rw [hk1 (by omega) (by omega) (by omega)]
                    · rw [hq9] at hq2
                      cases hq2
                      rw [kA_fs]
                      exact fun j hj => ((hT16 j hj).trans (congrFun hZ.2.2 j)).trans (he9 j hj)
                  · have h14 : s = 0 := h14
                    refine jWp.blk mt 3 ?_
                    show jWp 206 142 [some (jO m), some (jI (F : Int)), some (jI (k : Int)), some (jI s), some (jI (bb : Int)), none] [jI ((-2000) - (bb : Int))] 0 0 (jW (M2, w.2) m 24 0) _
                    refine jWp.ireti mt rfl ⟨rfl, rfl⟩ rfl ?_
                    refine ⟨fun hn => ?_, fun hn => ⟨fun b2 hb2 => ⟨?_, (M2, w.2), zwf_q hw2, rfl⟩, fun q2 hq2 => ?_⟩⟩
                    · exfalso; omega
                    · rcases hp2 with ⟨e, _⟩ | ⟨e, g⟩
                      · exfalso; omega
                      · rw [g] at hb2
                        cases hb2
                        rfl
                    · exfalso
                      rcases hp2 with ⟨e, _⟩ | ⟨e, g⟩
                      · omega
                      · rw [g] at hq2
                        cases hq2
                · have h13 : (p : Int) < (F : Int) := h13
                  refine jWp.blk mt 1 ?_
                  show _ ∧ jWp 206 91 [some (jO m), some (jI (F : Int)), some (jI (k : Int)), some (jI s), some (jI (bb : Int)), none] [jO m] 0 0 (M2, w.2) _
                  refine ⟨rfl, ?_⟩
                  refine jWp.getI (pc' := 94) mt rfl rfl (jtg hW.K0) ?_
                  rw [show ((M2, w.2).1 m 25) = (p : Int) from hp]
                  show jWp 206 94 [some (jO m), some (jI (F : Int)), some (jI (k : Int)), some (jI s), some (jI (bb : Int)), none] [jI (p : Int)] 0 0 (M2, w.2) _
                  refine jWp.blk mt 2 ?_
                  show _ ∧ jWp 206 97 [some (jO m), some (jI (F : Int)), some (jI (k : Int)), some (jI s), some (jI (p : Int)), none] [jO m] 0 0 (M2, w.2) _
                  refine ⟨rfl, ?_⟩
                  refine jWp.callv (as := [jO m]) (rest := []) mt rfl rfl rfl ⟨rfl, jtg hW.K0⟩ ?_
                  refine jCall.mono (E_here (w := (M2, w.2)) (F := F) (p := p) (t := t) hW ((hw2.2.2 24 (by decide) (by decide) (by decide)).trans hF) hF72 hp (by omega) ((hw2.2.1 (m + 421) (by omega) (by omega) (by omega) (by omega)).trans ht) hL) (fun v9 w9 h9 => ?_)
                  obtain ⟨rfl, h9⟩ := h9
                  subst w9
                  show jWp 206 100 [some (jO m), some (jI (F : Int)), some (jI (k : Int)), some (jI s), some (jI (p : Int)), none] [jI (zlt t F p)] 0 0 (M2, w.2) _
                  refine jWp.blk mt 2 ?_
                  show _ ∧ jWp 206 103 [some (jO m), some (jI (F : Int)), some (jI (k : Int)), some (jI s), some (jI (p : Int)), some (jI (zlt t F p))] [jO m] 0 0 (M2, w.2) _
                  refine ⟨rfl, ?_⟩
                  refine jWp.callv (as := [jO m]) (rest := []) mt rfl rfl rfl ⟨rfl, jtg hW.K0⟩ ?_
                  refine jCall.mono (E_hasStatement (w := (M2, w.2)) (F := F) (p := p) (t := t) hW ((hw2.2.2 24 (by decide) (by decide) (by decide)).trans hF) hF72 hp (by omega) ((hw2.2.1 (m + 421) (by omega) (by omega) (by omega) (by omega)).trans ht) hL) (fun v9 w9 h9 => ?_)
                  obtain ⟨b, hsg, hb, hh⟩ := h9
                  obtain ⟨M3, G9⟩ := w9
                  have hg : G9 = w.2 := hsg.1
                  subst hg
                  have hw3 : zwf w m (M3, w.2) := zwf_t hw2 (zwf_s hsg)
                  have hb : M3 m 25 = (b : Int) := hb
                  rcases hh with ⟨rfl, hz, hz1, hz2, hz3, hz4⟩ | ⟨rfl, hz, hz1, hz2⟩
                  · have hz' := hz
                    show jWp 206 106 [some (jO m), some (jI (F : Int)), some (jI (k : Int)), some (jI s), some (jI (p : Int)), some (jI (zlt t F p))] [jI 1] 0 0 (M3, w.2) _
                    refine jWp.ifc (b := false) mt rfl (by decide) rfl ?_
                    show jWp 206 109 [some (jO m), some (jI (F : Int)), some (jI (k : Int)), some (jI s), some (jI (p : Int)), some (jI (zlt t F p))] [] 0 0 (M3, w.2) _
                    refine jWp.blk mt 2 ?_
                    show _ ∧ jWp 206 112 [some (jO m), some (jI (F : Int)), some (jI (k : Int)), some (jI s), some (jI (p : Int)), some (jI (zlt t F p))] [jI (zlt t F p), jO m] 0 0 (M3, w.2) _
                    refine ⟨rfl, ?_⟩
                    refine jWp.callv (as := [jO m, jI (zlt t F p)]) (rest := []) mt rfl rfl rfl ⟨rfl, jtg hW.K0⟩ ?_
                    refine jCall.mono (E_isDone (w := (M3, w.2)) (n := n2) (c := zlt t F p) hW (by rw [show ((M3, w.2) : jS).1 (m + 16) = M2 (m + 16) from hsg.2.1 (m + 16) (by omega) (by omega)]; exact hQ2 (by omega)) (zbh_cd (by omega)) ⟨hz4.2.1.2.1, hz4.2.1.2.2⟩ (fun h => (hz4.2.2.1 h).2) (fun h => (hz4.2.2.2 h).2)) (fun v9 w9 h9 => ?_)
                    obtain ⟨hdf, hh⟩ := h9
                    obtain ⟨M4, G9⟩ := w9
                    have hg : G9 = w.2 := hdf.1
                    subst hg
                    have hw4 : zwf w m (M4, w.2) := zwf_t hw3 (zwf_d hdf)
                    have hb4 : M4 m 25 = (b : Int) := (hdf.2.2 25 (by decide) (by decide)).trans hb
                    have hc3 : M3 (m + 16) = M2 (m + 16) := hsg.2.1 (m + 16) (by omega) (by omega)
                    rcases hh with ⟨rfl, q4, hd, he⟩ | ⟨rfl, hd⟩
                    · have hd : zdo (zlt t F p) (M3 (m + 422) 0) (M3 (m + 422) 1) (M3 (m + 422) 2) (M3 (m + 16)) = some q4 := hd
                      have hD := (zdoN hz4 hc3).symm.trans hd
                      show jWp 206 115 [some (jO m), some (jI (F : Int)), some (jI (k : Int)), some (jI s), some (jI (p : Int)), some (jI (zlt t F p))] [jI 1] 0 0 (M4, w.2) _
                      refine jWp.ifc (b := false) mt rfl (by decide) rfl ?_
                      show jWp 206 118 [some (jO m), some (jI (F : Int)), some (jI (k : Int)), some (jI s), some (jI (p : Int)), some (jI (zlt t F p))] [] 0 0 (M4, w.2) _
                      refine jWp.blk mt 4 ?_
                      show jWp 206 78 [some (jO m), some (jI (F : Int)), some (jI (k : Int)), some (jI 1), some (jI (p : Int)), some (jI (zlt t F p))] [] 0 0 (M4, w.2) _
                      refine jWp.le (l := [some (jO m), some (jI (F : Int)), some (jI (k : Int)), some (jI 1), some (jI (p : Int)), none]) (by exact ⟨rfl, rfl, rfl, rfl, rfl, trivial⟩) ?_
                      exact ih8 (f - 1) b p 1 M4 hw4 hb4 (Or.inl ⟨rfl, by
                have q2 := hr2 (by omega)
                rw [show f = (f - 1) + 1 by omega, zw2_g (by omega) hz hD] at q2
                obtain ⟨n4, hQ4⟩ := zdo_Q (hQ2 (by omega)) (zbh_cd (by omega)) (fun _ => (zfg_b _).2) (fun _ => znm_b _ _ _) hD
                exact zr2_t (zw2_c (f - 1) b n4 _ _ hQ4 he) q2, by omega, by omega, by
                obtain ⟨n4, hQ4⟩ := zdo_Q (hQ2 (by omega)) (zbh_cd (by omega)) (fun _ => (zfg_b _).2) (fun _ => znm_b _ _ _) hD
                exact ⟨n4, zQ_c he hQ4⟩⟩) (by omega) (by omega) (by omega)
                    · have hd : zdo (zlt t F p) (M3 (m + 422) 0) (M3 (m + 422) 1) (M3 (m + 422) 2) (M3 (m + 16)) = none := hd
                      have hD := (zdoN hz4 hc3).symm.trans hd
                      show jWp 206 115 [some (jO m), some (jI (F : Int)), some (jI (k : Int)), some (jI s), some (jI (p : Int)), some (jI (zlt t F p))] [jI 0] 0 0 (M4, w.2) _
                      refine jWp.ifc (b := true) mt rfl (by decide) rfl ?_
                      show jWp 206 122 [some (jO m), some (jI (F : Int)), some (jI (k : Int)), some (jI s), some (jI (p : Int)), some (jI (zlt t F p))] [] 0 0 (M4, w.2) _
                      refine jWp.blk mt 3 ?_
                      show jWp 206 78 [some (jO m), some (jI (F : Int)), some (jI (k : Int)), some (jI 0), some (jI (p : Int)), some (jI (zlt t F p))] [] 0 0 (M4, w.2) _
                      refine jWp.le (l := [some (jO m), some (jI (F : Int)), some (jI (k : Int)), some (jI 0), some (jI (p : Int)), none]) (by exact ⟨rfl, rfl, rfl, rfl, rfl, trivial⟩) ?_
                      exact ih8 f b p 0 M4 hw4 hb4 (Or.inr ⟨rfl, by
                have q2 := hr2 (by omega)
                rw [show f = (f - 1) + 1 by omega, zw2_f (by omega) (by omega) hD] at q2
                exact zr2_i q2⟩) (by omega) (by omega) (by omega)
                  · have hz' := hz
                    show jWp 206 106 [some (jO m), some (jI (F : Int)), some (jI (k : Int)), some (jI s), some (jI (p : Int)), some (jI (zlt t F p))] [jI 0] 0 0 (M3, w.2) _
                    refine jWp.ifc (b := true) mt rfl (by decide) rfl ?_
                    show jWp 206 122 [some (jO m), some (jI (F : Int)), some (jI (k : Int)), some (jI s), some (jI (p : Int)), some (jI (zlt t F p))] [] 0 0 (M3, w.2) _
                    refine jWp.blk mt 3 ?_
                    show jWp 206 78 [some (jO m), some (jI (F : Int)), some (jI (k : Int)), some (jI 0), some (jI (p : Int)), some (jI (zlt t F p))] [] 0 0 (M3, w.2) _
                    refine jWp.le (l := [some (jO m), some (jI (F : Int)), some (jI (k : Int)), some (jI 0), some (jI (p : Int)), none]) (by exact ⟨rfl, rfl, rfl, rfl, rfl, trivial⟩) ?_
                    exact ih8 f b p 0 M3 hw3 hb (Or.inr ⟨rfl, by
                have q2 := hr2 (by omega)
                rw [show f = (f - 1) + 1 by omega, zw2_n (by omega) (by omega)] at q2
                exact zr2_i q2⟩) (by omega) (by omega) (by omega)
          refine jWp.le (l := [some (jO m), some (jI (F : Int)), some (jI (k : Int)), some (jI s), some (jI 0), none]) (by exact ⟨rfl, rfl, rfl, rfl, rfl, trivial⟩) ?_
          exact lp7 _ 73 0 0 s (jW (kA (M1, w.2) (m + 16) T5) m 25 0).1 (zwf_t hw1 (zwf_t zwf_A zwf_p)) jW_s (Or.inl ⟨by omega, by rw [show (jW (kA (M1, w.2) (m + 16) T5) m 25 0).1 (m + 16) = T5 from (jW_f (by omega)).trans kA_fs]; exact zw2_c 73 0 n _ _ hQ (fun j hj => ((hT6 j hj).trans (congrFun (hw1.2.1 (m + 1) (by omega) (by omega) (by omega) (by omega)) j)) : zeq T5 (w.1 (m + 1))), by omega, by omega, n, by rw [show (jW (kA (M1, w.2) (m + 16) T5) m 25 0).1 (m + 16) = T5 from (jW_f (by omega)).trans kA_fs]; exact zQ_c (fun j hj => ((hT6 j hj).trans (congrFun (hw1.2.1 (m + 1) (by omega) (by omega) (by omega) (by omega)) j)) : zeq T5 (w.1 (m + 1))) hQ⟩) (by omega) (by omega) (Nat.lt_succ_self _)
        · have h4 : s = 0 := h4
          refine jWp.blk mt 2 ?_
          show _ ∧ jWp 206 47 [some (jO m), some (jI (F : Int)), some (jI (k : Int)), some (jI s), none, none] [jI 0, jO m] 0 0 (M1, w.2) _
          refine ⟨rfl, ?_⟩
          refine jWp.putI (pc' := 50) mt rfl rfl (jtg hW.K0) ?_
          show jWp 206 50 [some (jO m), some (jI (F : Int)), some (jI (k : Int)), some (jI s), none, none] [] 0 0 (jW (M1, w.2) m 24 0) _
          refine jWp.blk mt 2 ?_
          show _ ∧ jWp 206 54 [some (jO m), some (jI (F : Int)), some (jI (k : Int)), some (jI s), none, none] [jO m, jI (-1000)] 0 0 (jW (M1, w.2) m 24 0) _
          refine ⟨rfl, ?_⟩
          refine jWp.getI (pc' := 57) mt rfl rfl (jtg hW.K0) ?_
          rw [show ((jW (M1, w.2) m 24 0).1 m 25) = (p : Int) from (((jW_k (by decide)).trans rfl).trans hp)]
          show jWp 206 57 [some (jO m), some (jI (F : Int)), some (jI (k : Int)), some (jI s), none, none] [jI (p : Int), jI (-1000)] 0 0 (jW (M1, w.2) m 24 0) _
          refine jWp.blk mt 1 ?_
          show jWp 206 58 [some (jO m), some (jI (F : Int)), some (jI (k : Int)), some (jI s), none, none] [jI ((-1000) - (p : Int))] 0 0 (jW (M1, w.2) m 24 0) _
          refine jWp.ireti mt rfl ⟨rfl, rfl⟩ rfl ?_
          refine ⟨fun hn => ⟨?_, (M1, w.2), zwf_q hw1, rfl⟩, fun hn => ?_⟩
          · rcases hp1 with ⟨e, _⟩ | ⟨e, g, _⟩
            · exfalso; omega
            · rw [show ((-1000) - (p : Int)) = -999 + (zw1 t F 73 0 0) by omega]
          · exfalso
            rcases hp1 with ⟨e, _⟩ | ⟨e, g, _⟩ <;> omega
      · have h3 : s ≠ 0 := h3
        refine jWp.blk mt 1 ?_
        show jWp 206 19 [some (jO m), some (jI (F : Int)), some (jI (k : Int)), some (jI s), none, none] [jI (k : Int)] 0 0 (M1, w.2) _
        refine jWp.ifz (pc' := 22) mt rfl rfl (b32_id (by omega) (by omega)) (fun h17 => ?_) (fun h17 => ?_)
        · have h17 : (k : Int) = 0 := h17
          refine jWp.blk mt 1 ?_
          show _ ∧ jWp 206 31 [some (jO m), some (jI (F : Int)), some (jI (k : Int)), some (jI s), none, none] [jO m] 0 0 (M1, w.2) _
          refine ⟨rfl, ?_⟩
          refine jWp.callv (as := [jO m]) (rest := []) mt rfl rfl rfl ⟨rfl, jtg hW.K0⟩ ?_
          refine jCall.mono (E_hasStatement (w := (M1, w.2)) (F := F) (p := p) (t := t) hW ((hw1.2.2 24 (by decide) (by decide) (by decide)).trans hF) hF72 hp (by omega) ((hw1.2.1 (m + 421) (by omega) (by omega) (by omega) (by omega)).trans ht) hL) (fun v9 w9 h9 => ?_)
          obtain ⟨b, hsg, hb, hh⟩ := h9
          obtain ⟨M2, G9⟩ := w9
          have hg : G9 = w.2 := hsg.1
          subst hg
          have hw2 : zwf w m (M2, w.2) := zwf_t hw1 (zwf_s hsg)
          have hb : M2 m 25 = (b : Int) := hb
          rcases hh with ⟨rfl, hz, hz1, hz2, hz3, hz4⟩ | ⟨rfl, hz, hz1, hz2⟩
          · have hz' := hz
            show jWp 206 34 [some (jO m), some (jI (F : Int)), some (jI (k : Int)), some (jI s), none, none] [jI 1] 0 0 (M2, w.2) _
            refine jWp.blk mt 3 ?_
            show jWp 206 14 [some (jO m), some (jI (F : Int)), some (jI ((k : Int) + 1)), some (jI 1), none, none] [] 0 0 (M2, w.2) _
            refine jWp.le (l := [some (jO m), some (jI (F : Int)), some (jI ((k : Int) + 1)), some (jI 1), none, none]) (by exact ⟨rfl, rfl, rfl, rfl, trivial⟩) ?_
            exact ih2 (k + 1) b 1 M2 hw2 hb (Or.inl ⟨rfl, by omega, by omega, fun g => by rw [← hr1 (by omega) (by omega), show 73 - k = (73 - (k + 1)) + 1 by omega, zw1_g hz (by omega)], fun _ g => by rw [← hr1 (by omega) (by omega), show 73 - k = (72 - k) + 1 by omega, zw1_e hz g]⟩) (by omega) (by omega)
          · have hz' := hz
            show jWp 206 34 [some (jO m), some (jI (F : Int)), some (jI (k : Int)), some (jI s), none, none] [jI 0] 0 0 (M2, w.2) _
            refine jWp.blk mt 3 ?_
            show jWp 206 14 [some (jO m), some (jI (F : Int)), some (jI ((k : Int) + 1)), some (jI 0), none, none] [] 0 0 (M2, w.2) _
            refine jWp.le (l := [some (jO m), some (jI (F : Int)), some (jI ((k : Int) + 1)), some (jI 0), none, none]) (by exact ⟨rfl, rfl, rfl, rfl, trivial⟩) ?_
            exact ih2 (k + 1) b 0 M2 hw2 hb (Or.inr ⟨rfl, by rw [← hr1 (by omega) (by omega), show 73 - k = (72 - k) + 1 by omega, zw1_n (by omega), hz], by omega⟩) (by omega) (by omega)
        · have h17 : (k : Int) ≠ 0 := h17
          refine jWp.blk mt 1 ?_
          show _ ∧ jWp 206 23 [some (jO m), some (jI (F : Int)), some (jI (k : Int)), some (jI s), none, none] [jO m] 0 0 (M1, w.2) _
          refine ⟨rfl, ?_⟩
          refine jWp.getI (pc' := 26) mt rfl rfl (jtg hW.K0) ?_
          rw [show ((M1, w.2).1 m 25) = (p : Int) from hp]
          show jWp 206 26 [some (jO m), some (jI (F : Int)), some (jI (k : Int)), some (jI s), none, none] [jI (p : Int)] 0 0 (M1, w.2) _
          refine jWp.blk mt 1 ?_
          show jWp 206 27 [some (jO m), some (jI (F : Int)), some (jI (k : Int)), some (jI s), none, none] [jI (F : Int), jI (p : Int)] 0 0 (M1, w.2) _
          refine jWp.icmp (pc' := 30) mt rfl rfl (b32_id (by omega) (by omega)) (b32_id (by omega) (by omega)) (fun h18 => ?_) (fun h18 => ?_)
          · have h18 : (F : Int) ≤ (p : Int) := h18
            refine jWp.blk mt 1 ?_
            show jWp 206 42 [some (jO m), some (jI (F : Int)), some (jI (k : Int)), some (jI s), none, none] [jI s] 0 0 (M1, w.2) _
            refine jWp.ifz (pc' := 45) mt rfl rfl (b32_id (by omega) (by omega)) (fun h19 => ?_) (fun h19 => ?_)
            · have h19 : s ≠ 0 := h19
              refine jWp.blk mt 1 ?_
              show _ ∧ jWp 206 60 [some (jO m), some (jI (F : Int)), some (jI (k : Int)), some (jI s), none, none] [jO m] 0 0 (M1, w.2) _
              refine ⟨rfl, ?_⟩
              refine jWp.getR (pc' := 63) (o := (m + 1)) mt rfl rfl (jtg hW.K0) hW.R0 ?_
              show jWp 206 63 [some (jO m), some (jI (F : Int)), some (jI (k : Int)), some (jI s), none, none] [jO (m + 1)] 0 0 (M1, w.2) _
              refine jWp.blk mt 1 ?_
              show _ ∧ jWp 206 64 [some (jO m), some (jI (F : Int)), some (jI (k : Int)), some (jI s), none, none] [jO m, jO (m + 1)] 0 0 (M1, w.2) _
              refine ⟨rfl, ?_⟩
              refine jWp.getR (pc' := 67) (o := (m + 16)) mt rfl rfl (jtg hW.K0) hW.R16 ?_
              show jWp 206 67 [some (jO m), some (jI (F : Int)), some (jI (k : Int)), some (jI s), none, none] [jO (m + 16), jO (m + 1)] 0 0 (M1, w.2) _
              refine jWp.calls (as := [jO (m + 1), jO (m + 16)]) (rest := []) mt rfl rfl rfl rfl ?_
              refine jCall.mono (E_copies (w := (M1, w.2)) (a := m + 1) (q := m + 16) hW.K1 hW.K16 (by omega)) (fun v9 w9 h9 => ?_)
              obtain ⟨rfl, T20, h9, hT21⟩ := h9
              subst h9
              show jWp 206 70 [some (jO m), some (jI (F : Int)), some (jI (k : Int)), some (jI s), none, none] [] 0 0 (kA (M1, w.2) (m + 16) T20) _
              refine jWp.blk mt 2 ?_
              show _ ∧ jWp 206 72 [some (jO m), some (jI (F : Int)), some (jI (k : Int)), some (jI s), none, none] [jI 0, jO m] 0 0 (kA (M1, w.2) (m + 16) T20) _
              refine ⟨rfl, ?_⟩
              refine jWp.putI (pc' := 75) mt rfl rfl (jtg hW.K0) ?_
              show jWp 206 75 [some (jO m), some (jI (F : Int)), some (jI (k : Int)), some (jI s), none, none] [] 0 0 (jW (kA (M1, w.2) (m + 16) T20) m 25 0) _
              refine jWp.blk mt 2 ?_
              show jWp 206 78 [some (jO m), some (jI (F : Int)), some (jI (k : Int)), some (jI s), some (jI 0), none] [] 0 0 (jW (kA (M1, w.2) (m + 16) T20) m 25 0) _
              have lp22 : ∀ (N : Nat) (f p bb : Nat) (s : Int) (M2 : Nat → Nat → Int) (hw2 : zwf w m (M2, w.2)) (hp : M2 m 25 = (p : Int)) (hp2 : (s = 1 ∧ zr2 (zw2 t F f p (M2 (m + 16))) (zw2 t F 73 0 (w.1 (m + 1))) ∧ F + 1 ≤ p + f ∧ p ≤ F ∧ ∃ n2, zQ (M2 (m + 16)) n2) ∨ (s = 0 ∧ (zw2 t F 73 0 (w.1 (m + 1))) = .inr bb)) (hpF : p ≤ 100) (hbF : bb ≤ 100), (101 - p) + s.toNat < N → jWp 206 78 [some (jO m), some (jI (F : Int)), some (jI (k : Int)), some (jI s), some (jI (bb : Int)), none] [] 0 0 (M2, w.2) (fun v w1 => ((zw1 t F 73 0 0) < 0 → v = some (jI (-999 + (zw1 t F 73 0 0))) ∧ ∃ w2, mq w m w2 ∧ w1 = jW w2 m 24 0) ∧ (0 ≤ (zw1 t F 73 0 0) → (∀ b, (zw2 t F 73 0 (w.1 (m + 1))) = .inr b → v = some (jI (-2000 - (b : Int))) ∧ ∃ w2, mq w m w2 ∧ w1 = jW w2 m 24 0) ∧ ∀ q, (zw2 t F 73 0 (w.1 (m + 1))) = .inl q → v = some (jI (zw1 t F 73 0 0)) ∧ zeq (w1.1 (m + 1)) q ∧ zpst w m u (w.1 (m + 1)) w1 ∧ mfW w m w1)) := by
                intro N
                induction N with
                | zero => intro f p bb s M2 hw2 hp hp2 hpF hbF hm; omega
                | succ N ih23 =>
                  intro f p bb s M2 hw2 hp hp2 hpF hbF hm
                  have hr2 : s = 1 → zr2 (zw2 t F f p (M2 (m + 16))) (zw2 t F 73 0 (w.1 (m + 1))) := fun e => by
                    rcases hp2 with ⟨_, h, _⟩ | ⟨e2, _⟩
                    · exact h
                    · omega
                  have hx2 : ∃ n2, s = 1 → zQ (M2 (m + 16)) n2 := by
                    rcases hp2 with ⟨_, _, _, _, n2, h⟩ | ⟨e2, _⟩
                    · exact ⟨n2, fun _ => h⟩
                    · exact ⟨0, fun e => by omega⟩
                  obtain ⟨n2, hQ2⟩ := hx2
                  refine jWp.blk mt 1 ?_
                  show jWp 206 79 [some (jO m), some (jI (F : Int)), some (jI (k : Int)), some (jI s), some (jI (bb : Int)), none] [jI s] 0 0 (M2, w.2) _
                  refine jWp.ifz (pc' := 82) mt rfl rfl (b32_id (by omega) (by omega)) (fun h24 => ?_) (fun h24 => ?_)
                  · have h24 : s = 0 := h24
                    refine jWp.blk mt 2 ?_
                    show _ ∧ jWp 206 129 [some (jO m), some (jI (F : Int)), some (jI (k : Int)), some (jI s), some (jI (bb : Int)), none] [jI 0, jO m] 0 0 (M2, w.2) _
                    refine ⟨rfl, ?_⟩
                    refine jWp.putI (pc' := 132) mt rfl rfl (jtg hW.K0) ?_
                    show jWp 206 132 [some (jO m), some (jI (F : Int)), some (jI (k : Int)), some (jI s), some (jI (bb : Int)), none] [] 0 0 (jW (M2, w.2) m 24 0) _
                    refine jWp.blk mt 1 ?_
                    show jWp 206 133 [some (jO m), some (jI (F : Int)), some (jI (k : Int)), some (jI s), some (jI (bb : Int)), none] [jI s] 0 0 (jW (M2, w.2) m 24 0) _
                    refine jWp.ifz (pc' := 136) mt rfl rfl (b32_id (by omega) (by omega)) (fun h25 => ?_) (fun h25 => ?_)
                    · have h25 : s ≠ 0 := h25
                      refine jWp.blk mt 2 ?_
                      show _ ∧ _ ∧ jWp 206 145 [some (jO m), some (jI (F : Int)), some (jI (k : Int)), some (jI s), some (jI (bb : Int)), none] [jO m, jO m] 0 0 (jW (M2, w.2) m 24 0) _
                      refine ⟨rfl, rfl, ?_⟩
                      refine jWp.getR (pc' := 148) (o := (m + 1)) mt rfl rfl (jtg hW.K0) hW.R0 ?_
                      show jWp 206 148 [some (jO m), some (jI (F : Int)), some (jI (k : Int)), some (jI s), some (jI (bb : Int)), none] [jO (m + 1), jO m] 0 0 (jW (M2, w.2) m 24 0) _
                      refine jWp.callv (as := [jO m, jO (m + 1)]) (rest := []) mt rfl rfl rfl ⟨rfl, jtg hW.K0⟩ ?_
                      refine jCall.mono (E_comes (w := (jW (M2, w.2) m 24 0)) (u := u) (b := 1) hW ((jW_k (by decide)).trans ((hw2.2.2 15 (by decide) (by decide) (by decide)).trans hu)) hu8 hW.K1 (by decide) (Or.inl (by decide))) (fun v9 w9 h9 => ?_)
                      obtain ⟨rfl, hzc⟩ := h9
                      obtain ⟨M5, G5⟩ := w9
                      have hg : G5 = w.2 := hzc.2.2.1
                      subst hg
                      show jWp 206 151 [some (jO m), some (jI (F : Int)), some (jI (k : Int)), some (jI s), some (jI (bb : Int)), none] [] 0 0 (M5, w.2) _
                      refine jWp.blk mt 1 ?_
                      show _ ∧ jWp 206 152 [some (jO m), some (jI (F : Int)), some (jI (k : Int)), some (jI s), some (jI (bb : Int)), none] [jO m] 0 0 (M5, w.2) _
                      refine ⟨rfl, ?_⟩
                      refine jWp.getR (pc' := 155) (o := (m + 16)) mt rfl rfl (jtg hW.K0) hW.R16 ?_
                      show jWp 206 155 [some (jO m), some (jI (F : Int)), some (jI (k : Int)), some (jI s), some (jI (bb : Int)), none] [jO (m + 16)] 0 0 (M5, w.2) _
                      refine jWp.blk mt 1 ?_
                      show _ ∧ jWp 206 156 [some (jO m), some (jI (F : Int)), some (jI (k : Int)), some (jI s), some (jI (bb : Int)), none] [jO m, jO (m + 16)] 0 0 (M5, w.2) _
                      refine ⟨rfl, ?_⟩
                      refine jWp.getR (pc' := 159) (o := (m + 1)) mt rfl rfl (jtg hW.K0) hW.R0 ?_
                      show jWp 206 159 [some (jO m), some (jI (F : Int)), some (jI (k : Int)), some (jI s), some (jI (bb : Int)), none] [jO (m + 1), jO (m + 16)] 0 0 (M5, w.2) _
                      refine jWp.calls (as := [jO (m + 16), jO (m + 1)]) (rest := []) mt rfl rfl rfl rfl ?_
                      refine jCall.mono (E_copies (w := (M5, w.2)) (a := m + 16) (q := m + 1) hW.K16 hW.K1 (by omega)) (fun v9 w9 h9 => ?_)
                      obtain ⟨rfl, T26, h9, hT27⟩ := h9
                      subst h9
                      show jWp 206 162 [some (jO m), some (jI (F : Int)), some (jI (k : Int)), some (jI s), some (jI (bb : Int)), none] [] 0 0 (kA (M5, w.2) (m + 1) T26) _
                      refine jWp.blk mt 1 ?_
                      show jWp 206 163 [some (jO m), some (jI (F : Int)), some (jI (k : Int)), some (jI s), some (jI (bb : Int)), none] [jI (k : Int)] 0 0 (kA (M5, w.2) (m + 1) T26) _
                      refine jWp.ireti mt rfl ⟨rfl, rfl⟩ rfl ?_
                      have hZ := zfinW (T := T26) (zwf_q hw2) hzc
                      have hin : ∃ q, (zw2 t F 73 0 (w.1 (m + 1))) = .inl q ∧ zeq (M2 (m + 16)) q := by
                        rcases hp2 with ⟨e, hr2, g1, g2, g3⟩ | ⟨e, g⟩
                        · rw [show f = (f - 1) + 1 by omega, zw2_e (by omega)] at hr2
                          exact zr2_l hr2
                        · exfalso; omega
                      obtain ⟨q9, hq9, he9⟩ := hin
                      refine ⟨fun hn => ?_, fun hn => ⟨fun b2 hb2 => ?_, fun q2 hq2 => ⟨?_, ?_, hZ.2.1, hZ.1⟩⟩⟩
                      · exfalso; omega
                      · rw [hq9] at hb2
                        cases hb2
                      · rw [hk1 (by omega) (by omega) (by omega)]
                      · rw [hq9] at hq2
                        cases hq2
                        rw [kA_fs]
                        exact fun j hj => ((hT27 j hj).trans (congrFun hZ.2.2 j)).trans (he9 j hj)
                    · have h25 : s = 0 := h25
                      refine jWp.blk mt 3 ?_
                      show jWp 206 142 [some (jO m), some (jI (F : Int)), some (jI (k : Int)), some (jI s), some (jI (bb : Int)), none] [jI ((-2000) - (bb : Int))] 0 0 (jW (M2, w.2) m 24 0) _
                      refine jWp.ireti mt rfl ⟨rfl, rfl⟩ rfl ?_
                      refine ⟨fun hn => ?_, fun hn => ⟨fun b2 hb2 => ⟨?_, (M2, w.2), zwf_q hw2, rfl⟩, fun q2 hq2 => ?_⟩⟩
                      · exfalso; omega
                      · rcases hp2 with ⟨e, _⟩ | ⟨e, g⟩
                        · exfalso; omega
                        · rw [g] at hb2
                          cases hb2
                          rfl
                      · exfalso
                        rcases hp2 with ⟨e, _⟩ | ⟨e, g⟩
                        · omega
                        · rw [g] at hq2
                          cases hq2
                  · have h24 : s ≠ 0 := h24
                    refine jWp.blk mt 1 ?_
                    show _ ∧ jWp 206 83 [some (jO m), some (jI (F : Int)), some (jI (k : Int)), some (jI s), some (jI (bb : Int)), none] [jO m] 0 0 (M2, w.2) _
                    refine ⟨rfl, ?_⟩
                    refine jWp.getI (pc' := 86) mt rfl rfl (jtg hW.K0) ?_
                    rw [show ((M2, w.2).1 m 25) = (p : Int) from hp]
                    show jWp 206 86 [some (jO m), some (jI (F : Int)), some (jI (k : Int)), some (jI s), some (jI (bb : Int)), none] [jI (p : Int)] 0 0 (M2, w.2) _
                    refine jWp.blk mt 1 ?_
                    show jWp 206 87 [some (jO m), some (jI (F : Int)), some (jI (k : Int)), some (jI s), some (jI (bb : Int)), none] [jI (F : Int), jI (p : Int)] 0 0 (M2, w.2) _
                    refine jWp.icmp (pc' := 90) mt rfl rfl (b32_id (by omega) (by omega)) (b32_id (by omega) (by omega)) (fun h28 => ?_) (fun h28 => ?_)
                    · have h28 : (F : Int) ≤ (p : Int) := h28
                      refine jWp.blk mt 2 ?_
                      show _ ∧ jWp 206 129 [some (jO m), some (jI (F : Int)), some (jI (k : Int)), some (jI s), some (jI (bb : Int)), none] [jI 0, jO m] 0 0 (M2, w.2) _
                      refine ⟨rfl, ?_⟩
                      refine jWp.putI (pc' := 132) mt rfl rfl (jtg hW.K0) ?_
                      show jWp 206 132 [some (jO m), some (jI (F : Int)), some (jI (k : Int)), some (jI s), some (jI (bb : Int)), none] [] 0 0 (jW (M2, w.2) m 24 0) _
                      refine jWp.blk mt 1 ?_
                      show jWp 206 133 [some (jO m), some (jI (F : Int)), some (jI (k : Int)), some (jI s), some (jI (bb : Int)), none] [jI s] 0 0 (jW (M2, w.2) m 24 0) _
                      refine jWp.ifz (pc' := 136) mt rfl rfl (b32_id (by omega) (by omega)) (fun h29 => ?_) (fun h29 => ?_)
                      · have h29 : s ≠ 0 := h29
                        refine jWp.blk mt 2 ?_
                        show _ ∧ _ ∧ jWp 206 145 [some (jO m), some (jI (F : Int)), some (jI (k : Int)), some (jI s), some (jI (bb : Int)), none] [jO m, jO m] 0 0 (jW (M2, w.2) m 24 0) _
                        refine ⟨rfl, rfl, ?_⟩
                        refine jWp.getR (pc' := 148) (o := (m + 1)) mt rfl rfl (jtg hW.K0) hW.R0 ?_
                        show jWp 206 148 [some (jO m), some (jI (F : Int)), some (jI (k : Int)), some (jI s), some (jI (bb : Int)), none] [jO (m + 1), jO m] 0 0 (jW (M2, w.2) m 24 0) _
                        refine jWp.callv (as := [jO m, jO (m + 1)]) (rest := []) mt rfl rfl rfl ⟨rfl, jtg hW.K0⟩ ?_
                        refine jCall.mono (E_comes (w := (jW (M2, w.2) m 24 0)) (u := u) (b := 1) hW ((jW_k (by decide)).trans ((hw2.2.2 15 (by decide) (by decide) (by decide)).trans hu)) hu8 hW.K1 (by decide) (Or.inl (by decide))) (fun v9 w9 h9 => ?_)
                        obtain ⟨rfl, hzc⟩ := h9
                        obtain ⟨M5, G5⟩ := w9
                        have hg : G5 = w.2 := hzc.2.2.1
                        subst hg
                        show jWp 206 151 [some (jO m), some (jI (F : Int)), some (jI (k : Int)), some (jI s), some (jI (bb : Int)), none] [] 0 0 (M5, w.2) _
                        refine jWp.blk mt 1 ?_
                        show _ ∧ jWp 206 152 [some (jO m), some (jI (F : Int)), some (jI (k : Int)), some (jI s), some (jI (bb : Int)), none] [jO m] 0 0 (M5, w.2) _
                        refine ⟨rfl, ?_⟩
                        refine jWp.getR (pc' := 155) (o := (m + 16)) mt rfl rfl (jtg hW.K0) hW.R16 ?_
                        show jWp 206 155 [some (jO m), some (jI (F : Int)), some (jI (k : Int)), some (jI s), some (jI (bb : Int)), none] [jO (m + 16)] 0 0 (M5, w.2) _
                        refine jWp.blk mt 1 ?_
                        show _ ∧ jWp 206 156 [some (jO m), some (jI (F : Int)), some (jI (k : Int)), some (jI s), some (jI (bb : Int)), none] [jO m, jO (m + 16)] 0 0 (M5, w.2) _
                        refine ⟨rfl, ?_⟩
                        refine jWp.getR (pc' := 159) (o := (m + 1)) mt rfl rfl (jtg hW.K0) hW.R0 ?_
                        show jWp 206 159 [some (jO m), some (jI (F : Int)), some (jI (k : Int)), some (jI s), some (jI (bb : Int)), none] [jO (m + 1), jO (m + 16)] 0 0 (M5, w.2) _
                        refine jWp.calls (as := [jO (m + 16), jO (m + 1)]) (rest := []) mt rfl rfl rfl rfl ?_
                        refine jCall.mono (E_copies (w := (M5, w.2)) (a := m + 16) (q := m + 1) hW.K16 hW.K1 (by omega)) (fun v9 w9 h9 => ?_)
                        obtain ⟨rfl, T30, h9, hT31⟩ := h9
                        subst h9
                        show jWp 206 162 [some (jO m), some (jI (F : Int)), some (jI (k : Int)), some (jI s), some (jI (bb : Int)), none] [] 0 0 (kA (M5, w.2) (m + 1) T30) _
                        refine jWp.blk mt 1 ?_
                        show jWp 206 163 [some (jO m), some (jI (F : Int)), some (jI (k : Int)), some (jI s), some (jI (bb : Int)), none] [jI (k : Int)] 0 0 (kA (M5, w.2) (m + 1) T30) _
                        refine jWp.ireti mt rfl ⟨rfl, rfl⟩ rfl ?_
                        have hZ := zfinW (T := T30) (zwf_q hw2) hzc
                        have hin : ∃ q, (zw2 t F 73 0 (w.1 (m + 1))) = .inl q ∧ zeq (M2 (m + 16)) q := by
                          rcases hp2 with ⟨e, hr2, g1, g2, g3⟩ | ⟨e, g⟩
                          · rw [show f = (f - 1) + 1 by omega, zw2_e (by omega)] at hr2
                            exact zr2_l hr2
                          · exfalso; omega
                        obtain ⟨q9, hq9, he9⟩ := hin
                        refine ⟨fun hn => ?_, fun hn => ⟨fun b2 hb2 => ?_, fun q2 hq2 => ⟨?_, ?_, hZ.2.1, hZ.1⟩⟩⟩
                        · exfalso; omega
                        · rw [hq9] at hb2
                          cases hb2
                        · rw [hk1 (by omega) (by omega) (by omega)]
                        · rw [hq9] at hq2
                          cases hq2
                          rw [kA_fs]
                          exact fun j hj => ((hT31 j hj).trans (congrFun hZ.2.2 j)).trans (he9 j hj)
                      · have h29 : s = 0 := h29
                        refine jWp.blk mt 3 ?_
                        show jWp 206 142 [some (jO m), some (jI (F : Int)), some (jI (k : Int)), some (jI s), some (jI (bb : Int)), none] [jI ((-2000) - (bb : Int))] 0 0 (jW (M2, w.2) m 24 0) _
                        refine jWp.ireti mt rfl ⟨rfl, rfl⟩ rfl ?_
                        refine ⟨fun hn => ?_, fun hn => ⟨fun b2 hb2 => ⟨?_, (M2, w.2), zwf_q hw2, rfl⟩, fun q2 hq2 => ?_⟩⟩
                        · exfalso; omega
                        · rcases hp2 with ⟨e, _⟩ | ⟨e, g⟩
                          · exfalso; omega
                          · rw [g] at hb2
                            cases hb2
                            rfl
                        · exfalso
                          rcases hp2 with ⟨e, _⟩ | ⟨e, g⟩
                          · omega
                          · rw [g] at hq2
                            cases hq2
                    · have h28 : (p : Int) < (F : Int) := h28
                      refine jWp.blk mt 1 ?_
                      show _ ∧ jWp 206 91 [some (jO m), some (jI (F : Int)), some (jI (k : Int)), some (jI s), some (jI (bb : Int)), none] [jO m] 0 0 (M2, w.2) _
                      refine ⟨rfl, ?_⟩
                      refine jWp.getI (pc' := 94) mt rfl rfl (jtg hW.K0) ?_
                      rw [show ((M2, w.2).1 m 25) = (p : Int) from hp]
                      show jWp 206 94 [some (jO m), some (jI (F : Int)), some (jI (k : Int)), some (jI s), some (jI (bb : Int)), none] [jI (p : Int)] 0 0 (M2, w.2) _
                      refine jWp.blk mt 2 ?_
                      show _ ∧ jWp 206 97 [some (jO m), some (jI (F : Int)), some (jI (k : Int)), some (jI s), some (jI (p : Int)), none] [jO m] 0 0 (M2, w.2) _
                      refine ⟨rfl, ?_⟩
                      refine jWp.callv (as := [jO m]) (rest := []) mt rfl rfl rfl ⟨rfl, jtg hW.K0⟩ ?_
                      refine jCall.mono (E_here (w := (M2, w.2)) (F := F) (p := p) (t := t) hW ((hw2.2.2 24 (by decide) (by decide) (by decide)).trans hF) hF72 hp (by omega) ((hw2.2.1 (m + 421) (by omega) (by omega) (by omega) (by omega)).trans ht) hL) (fun v9 w9 h9 => ?_)
                      obtain ⟨rfl, h9⟩ := h9
                      subst w9
                      show jWp 206 100 [some (jO m), some (jI (F : Int)), some (jI (k : Int)), some (jI s), some (jI (p : Int)), none] [jI (zlt t F p)] 0 0 (M2, w.2) _
                      refine jWp.blk mt 2 ?_
                      show _ ∧ jWp 206 103 [some (jO m), some (jI (F : Int)), some (jI (k : Int)), some (jI s), some (jI (p : Int)), some (jI (zlt t F p))] [jO m] 0 0 (M2, w.2) _
                      refine ⟨rfl, ?_⟩
                      refine jWp.callv (as := [jO m]) (rest := []) mt rfl rfl rfl ⟨rfl, jtg hW.K0⟩ ?_
                      refine jCall.mono (E_hasStatement (w := (M2, w.2)) (F := F) (p := p) (t := t) hW ((hw2.2.2 24 (by decide) (by decide) (by decide)).trans hF) hF72 hp (by omega) ((hw2.2.1 (m + 421) (by omega) (by omega) (by omega) (by omega)).trans ht) hL) (fun v9 w9 h9 => ?_)
                      obtain ⟨b, hsg, hb, hh⟩ := h9
                      obtain ⟨M3, G9⟩ := w9
                      have hg : G9 = w.2 := hsg.1
                      subst hg
                      have hw3 : zwf w m (M3, w.2) := zwf_t hw2 (zwf_s hsg)
                      have hb : M3 m 25 = (b : Int) := hb
                      rcases hh with ⟨rfl, hz, hz1, hz2, hz3, hz4⟩ | ⟨rfl, hz, hz1, hz2⟩
                      · have hz' := hz
                        show jWp 206 106 [some (jO m), some (jI (F : Int)), some (jI (k : Int)), some (jI s), some (jI (p : Int)), some (jI (zlt t F p))] [jI 1] 0 0 (M3, w.2) _
                        refine jWp.ifc (b := false) mt rfl (by decide) rfl ?_
                        show jWp 206 109 [some (jO m), some (jI (F : Int)), some (jI (k : Int)), some (jI s), some (jI (p : Int)), some (jI (zlt t F p))] [] 0 0 (M3, w.2) _
                        refine jWp.blk mt 2 ?_
                        show _ ∧ jWp 206 112 [some (jO m), some (jI (F : Int)), some (jI (k : Int)), some (jI s), some (jI (p : Int)), some (jI (zlt t F p))] [jI (zlt t F p), jO m] 0 0 (M3, w.2) _
                        refine ⟨rfl, ?_⟩
                        refine jWp.callv (as := [jO m, jI (zlt t F p)]) (rest := []) mt rfl rfl rfl ⟨rfl, jtg hW.K0⟩ ?_
                        refine jCall.mono (E_isDone (w := (M3, w.2)) (n := n2) (c := zlt t F p) hW (by rw [show ((M3, w.2) : jS).1 (m + 16) = M2 (m + 16) from hsg.2.1 (m + 16) (by omega) (by omega)]; exact hQ2 (by omega)) (zbh_cd (by omega)) ⟨hz4.2.1.2.1, hz4.2.1.2.2⟩ (fun h => (hz4.2.2.1 h).2) (fun h => (hz4.2.2.2 h).2)) (fun v9 w9 h9 => ?_)
                        obtain ⟨hdf, hh⟩ := h9
                        obtain ⟨M4, G9⟩ := w9
                        have hg : G9 = w.2 := hdf.1
                        subst hg
                        have hw4 : zwf w m (M4, w.2) := zwf_t hw3 (zwf_d hdf)
                        have hb4 : M4 m 25 = (b : Int) := (hdf.2.2 25 (by decide) (by decide)).trans hb
                        have hc3 : M3 (m + 16) = M2 (m + 16) := hsg.2.1 (m + 16) (by omega) (by omega)
                        rcases hh with ⟨rfl, q4, hd, he⟩ | ⟨rfl, hd⟩
                        · have hd : zdo (zlt t F p) (M3 (m + 422) 0) (M3 (m + 422) 1) (M3 (m + 422) 2) (M3 (m + 16)) = some q4 := hd
                          have hD := (zdoN hz4 hc3).symm.trans hd
                          show jWp 206 115 [some (jO m), some (jI (F : Int)), some (jI (k : Int)), some (jI s), some (jI (p : Int)), some (jI (zlt t F p))] [jI 1] 0 0 (M4, w.2) _
                          refine jWp.ifc (b := false) mt rfl (by decide) rfl ?_
                          show jWp 206 118 [some (jO m), some (jI (F : Int)), some (jI (k : Int)), some (jI s), some (jI (p : Int)), some (jI (zlt t F p))] [] 0 0 (M4, w.2) _
                          refine jWp.blk mt 4 ?_
                          show jWp 206 78 [some (jO m), some (jI (F : Int)), some (jI (k : Int)), some (jI 1), some (jI (p : Int)), some (jI (zlt t F p))] [] 0 0 (M4, w.2) _
                          refine jWp.le (l := [some (jO m), some (jI (F : Int)), some (jI (k : Int)), some (jI 1), some (jI (p : Int)), none]) (by exact ⟨rfl, rfl, rfl, rfl, rfl, trivial⟩) ?_
                          exact ih23 (f - 1) b p 1 M4 hw4 hb4 (Or.inl ⟨rfl, by
                have q2 := hr2 (by omega)
                rw [show f = (f - 1) + 1 by omega, zw2_g (by omega) hz hD] at q2
                obtain ⟨n4, hQ4⟩ := zdo_Q (hQ2 (by omega)) (zbh_cd (by omega)) (fun _ => (zfg_b _).2) (fun _ => znm_b _ _ _) hD
                exact zr2_t (zw2_c (f - 1) b n4 _ _ hQ4 he) q2, by omega, by omega, by
                obtain ⟨n4, hQ4⟩ := zdo_Q (hQ2 (by omega)) (zbh_cd (by omega)) (fun _ => (zfg_b _).2) (fun _ => znm_b _ _ _) hD
                exact ⟨n4, zQ_c he hQ4⟩⟩) (by omega) (by omega) (by omega)
                        · have hd : zdo (zlt t F p) (M3 (m + 422) 0) (M3 (m + 422) 1) (M3 (m + 422) 2) (M3 (m + 16)) = none := hd
                          have hD := (zdoN hz4 hc3).symm.trans hd
                          show jWp 206 115 [some (jO m), some (jI (F : Int)), some (jI (k : Int)), some (jI s), some (jI (p : Int)), some (jI (zlt t F p))] [jI 0] 0 0 (M4, w.2) _
                          refine jWp.ifc (b := true) mt rfl (by decide) rfl ?_
                          show jWp 206 122 [some (jO m), some (jI (F : Int)), some (jI (k : Int)), some (jI s), some (jI (p : Int)), some (jI (zlt t F p))] [] 0 0 (M4, w.2) _
                          refine jWp.blk mt 3 ?_
                          show jWp 206 78 [some (jO m), some (jI (F : Int)), some (jI (k : Int)), some (jI 0), some (jI (p : Int)), some (jI (zlt t F p))] [] 0 0 (M4, w.2) _
                          refine jWp.le (l := [some (jO m), some (jI (F : Int)), some (jI (k : Int)), some (jI 0), some (jI (p : Int)), none]) (by exact ⟨rfl, rfl, rfl, rfl, rfl, trivial⟩) ?_
                          exact ih23 f b p 0 M4 hw4 hb4 (Or.inr ⟨rfl, by
                have q2 := hr2 (by omega)
                rw [show f = (f - 1) + 1 by omega, zw2_f (by omega) (by omega) hD] at q2
                exact zr2_i q2⟩) (by omega) (by omega) (by omega)
                      · have hz' := hz
                        show jWp 206 106 [some (jO m), some (jI (F : Int)), some (jI (k : Int)), some (jI s), some (jI (p : Int)), some (jI (zlt t F p))] [jI 0] 0 0 (M3, w.2) _
                        refine jWp.ifc (b := true) mt rfl (by decide) rfl ?_
                        show jWp 206 122 [some (jO m), some (jI (F : Int)), some (jI (k : Int)), some (jI s), some (jI (p : Int)), some (jI (zlt t F p))] [] 0 0 (M3, w.2) _
                        refine jWp.blk mt 3 ?_
                        show jWp 206 78 [some (jO m), some (jI (F : Int)), some (jI (k : Int)), some (jI 0), some (jI (p : Int)), some (jI (zlt t F p))] [] 0 0 (M3, w.2) _
                        refine jWp.le (l := [some (jO m), some (jI (F : Int)), some (jI (k : Int)), some (jI 0), some (jI (p : Int)), none]) (by exact ⟨rfl, rfl, rfl, rfl, rfl, trivial⟩) ?_
                        exact ih23 f b p 0 M3 hw3 hb (Or.inr ⟨rfl, by
                have q2 := hr2 (by omega)
                rw [show f = (f - 1) + 1 by omega, zw2_n (by omega) (by omega)] at q2
                exact zr2_i q2⟩) (by omega) (by omega) (by omega)
              refine jWp.le (l := [some (jO m), some (jI (F : Int)), some (jI (k : Int)), some (jI s), some (jI 0), none]) (by exact ⟨rfl, rfl, rfl, rfl, rfl, trivial⟩) ?_
              exact lp22 _ 73 0 0 s (jW (kA (M1, w.2) (m + 16) T20) m 25 0).1 (zwf_t hw1 (zwf_t zwf_A zwf_p)) jW_s (Or.inl ⟨by omega, by rw [show (jW (kA (M1, w.2) (m + 16) T20) m 25 0).1 (m + 16) = T20 from (jW_f (by omega)).trans kA_fs]; exact zw2_c 73 0 n _ _ hQ (fun j hj => ((hT21 j hj).trans (congrFun (hw1.2.1 (m + 1) (by omega) (by omega) (by omega) (by omega)) j)) : zeq T20 (w.1 (m + 1))), by omega, by omega, n, by rw [show (jW (kA (M1, w.2) (m + 16) T20) m 25 0).1 (m + 16) = T20 from (jW_f (by omega)).trans kA_fs]; exact zQ_c (fun j hj => ((hT21 j hj).trans (congrFun (hw1.2.1 (m + 1) (by omega) (by omega) (by omega) (by omega)) j)) : zeq T20 (w.1 (m + 1))) hQ⟩) (by omega) (by omega) (Nat.lt_succ_self _)
            · have h19 : s = 0 := h19
              refine jWp.blk mt 2 ?_
              show _ ∧ jWp 206 47 [some (jO m), some (jI (F : Int)), some (jI (k : Int)), some (jI s), none, none] [jI 0, jO m] 0 0 (M1, w.2) _
              refine ⟨rfl, ?_⟩
              refine jWp.putI (pc' := 50) mt rfl rfl (jtg hW.K0) ?_
              show jWp 206 50 [some (jO m), some (jI (F : Int)), some (jI (k : Int)), some (jI s), none, none] [] 0 0 (jW (M1, w.2) m 24 0) _
              refine jWp.blk mt 2 ?_
              show _ ∧ jWp 206 54 [some (jO m), some (jI (F : Int)), some (jI (k : Int)), some (jI s), none, none] [jO m, jI (-1000)] 0 0 (jW (M1, w.2) m 24 0) _
              refine ⟨rfl, ?_⟩
              refine jWp.getI (pc' := 57) mt rfl rfl (jtg hW.K0) ?_
              rw [show ((jW (M1, w.2) m 24 0).1 m 25) = (p : Int) from (((jW_k (by decide)).trans rfl).trans hp)]
              show jWp 206 57 [some (jO m), some (jI (F : Int)), some (jI (k : Int)), some (jI s), none, none] [jI (p : Int), jI (-1000)] 0 0 (jW (M1, w.2) m 24 0) _
              refine jWp.blk mt 1 ?_
              show jWp 206 58 [some (jO m), some (jI (F : Int)), some (jI (k : Int)), some (jI s), none, none] [jI ((-1000) - (p : Int))] 0 0 (jW (M1, w.2) m 24 0) _
              refine jWp.ireti mt rfl ⟨rfl, rfl⟩ rfl ?_
              refine ⟨fun hn => ⟨?_, (M1, w.2), zwf_q hw1, rfl⟩, fun hn => ?_⟩
              · rcases hp1 with ⟨e, _⟩ | ⟨e, g, _⟩
                · exfalso; omega
                · rw [show ((-1000) - (p : Int)) = -999 + (zw1 t F 73 0 0) by omega]
              · exfalso
                rcases hp1 with ⟨e, _⟩ | ⟨e, g, _⟩ <;> omega
          · have h18 : (p : Int) < (F : Int) := h18
            refine jWp.blk mt 1 ?_
            show _ ∧ jWp 206 31 [some (jO m), some (jI (F : Int)), some (jI (k : Int)), some (jI s), none, none] [jO m] 0 0 (M1, w.2) _
            refine ⟨rfl, ?_⟩
            refine jWp.callv (as := [jO m]) (rest := []) mt rfl rfl rfl ⟨rfl, jtg hW.K0⟩ ?_
            refine jCall.mono (E_hasStatement (w := (M1, w.2)) (F := F) (p := p) (t := t) hW ((hw1.2.2 24 (by decide) (by decide) (by decide)).trans hF) hF72 hp (by omega) ((hw1.2.1 (m + 421) (by omega) (by omega) (by omega) (by omega)).trans ht) hL) (fun v9 w9 h9 => ?_)
            obtain ⟨b, hsg, hb, hh⟩ := h9
            obtain ⟨M2, G9⟩ := w9
            have hg : G9 = w.2 := hsg.1
            subst hg
            have hw2 : zwf w m (M2, w.2) := zwf_t hw1 (zwf_s hsg)
            have hb : M2 m 25 = (b : Int) := hb
            rcases hh with ⟨rfl, hz, hz1, hz2, hz3, hz4⟩ | ⟨rfl, hz, hz1, hz2⟩
            · have hz' := hz
              show jWp 206 34 [some (jO m), some (jI (F : Int)), some (jI (k : Int)), some (jI s), none, none] [jI 1] 0 0 (M2, w.2) _
              refine jWp.blk mt 3 ?_
              show jWp 206 14 [some (jO m), some (jI (F : Int)), some (jI ((k : Int) + 1)), some (jI 1), none, none] [] 0 0 (M2, w.2) _
              refine jWp.le (l := [some (jO m), some (jI (F : Int)), some (jI ((k : Int) + 1)), some (jI 1), none, none]) (by exact ⟨rfl, rfl, rfl, rfl, trivial⟩) ?_
              exact ih2 (k + 1) b 1 M2 hw2 hb (Or.inl ⟨rfl, by omega, by omega, fun g => by rw [← hr1 (by omega) (by omega), show 73 - k = (73 - (k + 1)) + 1 by omega, zw1_g hz (by omega)], fun _ g => by rw [← hr1 (by omega) (by omega), show 73 - k = (72 - k) + 1 by omega, zw1_e hz g]⟩) (by omega) (by omega)
            · have hz' := hz
              show jWp 206 34 [some (jO m), some (jI (F : Int)), some (jI (k : Int)), some (jI s), none, none] [jI 0] 0 0 (M2, w.2) _
              refine jWp.blk mt 3 ?_
              show jWp 206 14 [some (jO m), some (jI (F : Int)), some (jI ((k : Int) + 1)), some (jI 0), none, none] [] 0 0 (M2, w.2) _
              refine jWp.le (l := [some (jO m), some (jI (F : Int)), some (jI ((k : Int) + 1)), some (jI 0), none, none]) (by exact ⟨rfl, rfl, rfl, rfl, trivial⟩) ?_
              exact ih2 (k + 1) b 0 M2 hw2 hb (Or.inr ⟨rfl, by rw [← hr1 (by omega) (by omega), show 73 - k = (72 - k) + 1 by omega, zw1_n (by omega), hz], by omega⟩) (by omega) (by omega)
  refine jWp.le (l := [some (jO m), some (jI (F : Int)), some (jI 0), some (jI 1), none, none]) (by exact ⟨rfl, rfl, rfl, rfl, trivial⟩) ?_
  exact lp1 _ 0 0 1 (jW w m 25 0).1 zwf_p jW_s (Or.inl ⟨rfl, by omega, by omega, fun _ => rfl, fun g => absurd rfl g⟩) (by omega) (Nat.lt_succ_self _)
end
section
/-- a seed that is found: the seed, the place it comes from, by which letter, how far away -/
abbrev zE : Type := (Nat → Int) × Nat × Nat × Nat
def zE0 : zE := (fun _ => 0, 0, 0, 0)
def zL (L : List zE) (o : Nat) : zE := L.getD o zE0
theorem zL_l {L : List zE} {e : zE} {o : Nat} (h : o < L.length) : zL (L ++ [e]) o = zL L o := by
  unfold zL
  rw [List.getD_eq_getElem?_getD, List.getD_eq_getElem?_getD, List.getElem?_append_left h]
theorem zL_r {L : List zE} {e : zE} : zL (L ++ [e]) L.length = e := by
  unfold zL
  rw [List.getD_eq_getElem?_getD, List.getElem?_append_right (Nat.le_refl _), Nat.sub_self]
  rfl
def znw2 (L : List zE) (n : Nat) (S : Nat → Int) : Prop := ∀ o, o < L.length → ¬ zal (zL L o).1 S n
/-- one more seed, if it can be and is new -/
noncomputable def zba (n at9 k : Nat) (L : List zE) : List zE := @ite (List zE) (zcan (zL L at9).1 n k ∧ znw2 L n (zxF (zL L at9).1 n k)) (Classical.propDecidable _) (L ++ [(zxF (zL L at9).1 n k, at9, k, (zL L at9).2.2.2 + 1)]) L
theorem zba_t {n at9 k : Nat} {L : List zE} (h : zcan (zL L at9).1 n k ∧ znw2 L n (zxF (zL L at9).1 n k)) : zba n at9 k L = L ++ [(zxF (zL L at9).1 n k, at9, k, (zL L at9).2.2.2 + 1)] := if_pos h
theorem zba_f {n at9 k : Nat} {L : List zE} (h : ¬ (zcan (zL L at9).1 n k ∧ znw2 L n (zxF (zL L at9).1 n k))) : zba n at9 k L = L := if_neg h
/-- all letters of one seed, from one on -/
noncomputable def zbi (n at9 : Nat) : Nat → Nat → List zE → List zE
  | 0, _, L => L
  | f + 1, k, L => zbi n at9 f (k + 1) (zba n at9 k L)
/-- all seeds, from one on, that are nearer than that -/
noncomputable def zbo (n d : Nat) : Nat → Nat → List zE → List zE
  | 0, _, L => L
  | f + 1, a, L => if a < L.length ∧ (zL L a).2.2.2 < d then zbo n d f (a + 1) (zbi n a n 0 L) else L
theorem zbo_t {n d f a : Nat} {L : List zE} (h : a < L.length ∧ (zL L a).2.2.2 < d) : zbo n d (f + 1) a L = zbo n d f (a + 1) (zbi n a n 0 L) := if_pos h
theorem zbo_f {n d f a : Nat} {L : List zE} (h : ¬ (a < L.length ∧ (zL L a).2.2.2 < d)) : zbo n d f a L = L := by
  cases f with
  | zero => rfl
  | succ f => exact if_neg h
noncomputable def zBF (n d : Nat) (q : Nat → Int) : List zE := zbo n d 400 0 [(q, 0, 0, 0)]
/-- what is so of all seeds that are found -/
def zBL (n : Nat) (q : Nat → Int) (L : List zE) : Prop := 1 ≤ L.length ∧ (zL L 0).1 = q ∧ (zL L 0).2.2.2 = 0 ∧ ∀ o, o < L.length → zQ (zL L o).1 n ∧ (1 ≤ o → (zL L o).2.1 < o ∧ (zL L o).2.2.1 < n ∧ o ≤ 4 * ((zL L o).2.1 + 1) ∧ (zL L o).2.2.2 = (zL L (zL L o).2.1).2.2.2 + 1 ∧ zcan (zL L (zL L o).2.1).1 n (zL L o).2.2.1 ∧ (zL L o).1 = zxF (zL L (zL L o).2.1).1 n (zL L o).2.2.1)
theorem zBL_0 {n : Nat} {q : Nat → Int} (hq : zQ q n) : zBL n q [(q, 0, 0, 0)] := by
  refine ⟨Nat.le_refl 1, rfl, rfl, fun o ho => ?_⟩
  have h : o = 0 := by simp only [List.length_cons, List.length_nil] at ho; omega
  subst h
  exact ⟨hq, fun g => absurd g (by omega)⟩
theorem zBL_n {n a k : Nat} {q : Nat → Int} {L : List zE} (h : zBL n q L) (ha : a < L.length) (hk : k < n) (hl : L.length ≤ 4 * (a + 1)) (hc : zcan (zL L a).1 n k) : zBL n q (L ++ [(zxF (zL L a).1 n k, a, k, (zL L a).2.2.2 + 1)]) := by
  have hn := (h.2.2.2 a ha).1.S.n4
  refine ⟨by rw [List.length_append]; omega, by rw [zL_l h.1]; exact h.2.1, by rw [zL_l h.1]; exact h.2.2.1, fun o ho => ?_⟩
  rw [List.length_append] at ho
  simp only [List.length_cons, List.length_nil] at ho
  rcases Nat.lt_or_ge o L.length with g | g
  · have e := h.2.2.2 o g
    rw [zL_l g]
    refine ⟨e.1, fun g1 => ?_⟩
    have f := e.2 g1
    rw [zL_l (by omega)]
    exact f
  · have e : o = L.length := by omega
    subst e
    rw [zL_r]
    exact ⟨zQ_x (h.2.2.2 a ha).1 (by omega) hc, fun _ => ⟨ha, hk, hl, by rw [zL_l ha], by rw [zL_l ha]; exact hc, by rw [zL_l ha]⟩⟩
def zBd : Nat → Nat
  | 0 => 0
  | d + 1 => 4 * (zBd d + 1)
theorem zBL_d {n : Nat} {q : Nat → Int} {L : List zE} (h : zBL n q L) : ∀ d o, o < L.length → (zL L o).2.2.2 ≤ d → o ≤ zBd d
  | 0, o, ho, hd => by
    rcases Nat.eq_zero_or_pos o with e | e
    · rw [e]
      exact Nat.zero_le _
    · have := ((h.2.2.2 o ho).2 e).2.2.2.1
      omega
  | d + 1, o, ho, hd => by
    rcases Nat.eq_zero_or_pos o with e | e
    · rw [e]
      exact Nat.zero_le _
    · have g := (h.2.2.2 o ho).2 e
      have := zBL_d h d (zL L o).2.1 (by omega) (by omega)
      show o ≤ 4 * (zBd d + 1)
      omega
theorem zBL_w {n : Nat} {q : Nat → Int} {L : List zE} (h : zBL n q L) : ∀ N o, o < N → o < L.length → (zL L o).2.2.2 ≤ o
  | 0, _, g, _ => absurd g (by omega)
  | N + 1, o, g, ho => by
    rcases Nat.eq_zero_or_pos o with e | e
    · rw [e, h.2.2.1]
      exact Nat.le_refl 0
    · have f := (h.2.2.2 o ho).2 e
      have := zBL_w h N (zL L o).2.1 (by omega) (by omega)
      omega
/-- the reference's seeds that are found, as it holds them -/
def zRL (N : Nat → Nat → Int) (m : Nat) (L : List zE) : Prop := N m 21 = (L.length : Int) ∧ ∀ o, o < L.length → zeq (N (m + (18 + o))) (zL L o).1 ∧ N (m + 420) o = ((zL L o).2.2.2 : Int) ∧ (1 ≤ o → N (m + 418) o = ((zL L o).2.1 : Int) ∧ N (m + 419) o = ((zL L o).2.2.1 : Int))
theorem zRL_k {N N' : Nat → Nat → Int} {m : Nat} {L : List zE} (h : zRL N m L) (h21 : N' m 21 = N m 21) (hs : ∀ o, o < L.length → N' (m + (18 + o)) = N (m + (18 + o))) (h1 : N' (m + 418) = N (m + 418)) (h2 : N' (m + 419) = N (m + 419)) (h3 : N' (m + 420) = N (m + 420)) : zRL N' m L := by
  refine ⟨h21.trans h.1, fun o ho => ?_⟩
  rw [hs o ho, h1, h2, h3]
  exact h.2 o ho
theorem zRL_n {N N' : Nat → Nat → Int} {m : Nat} {L : List zE} {e : zE} (h : zRL N m L) (h21 : N' m 21 = ((L.length + 1 : Nat) : Int)) (hs : ∀ o, o ≤ L.length → N' (m + (18 + o)) = N (m + (18 + o))) (h1 : ∀ o, o < L.length → N' (m + 418) o = N (m + 418) o ∧ N' (m + 419) o = N (m + 419) o ∧ N' (m + 420) o = N (m + 420) o) (hz : zeq (N (m + (18 + L.length))) e.1) (g1 : N' (m + 418) L.length = (e.2.1 : Int)) (g2 : N' (m + 419) L.length = (e.2.2.1 : Int)) (g3 : N' (m + 420) L.length = (e.2.2.2 : Int)) : zRL N' m (L ++ [e]) := by
  refine ⟨by rw [h21, List.length_append]; rfl, fun o ho => ?_⟩
  rw [List.length_append] at ho
  simp only [List.length_cons, List.length_nil] at ho
  rcases Nat.lt_or_ge o L.length with g | g
  · rw [zL_l g, hs o (by omega), (h1 o g).1, (h1 o g).2.1, (h1 o g).2.2]
    exact h.2 o g
  · have e2 : o = L.length := by omega
    subst e2
    rw [zL_r, hs _ (Nat.le_refl _)]
    exact ⟨hz, g3, fun _ => ⟨g1, g2⟩⟩
set_option maxHeartbeats 4000000 in
set_option maxRecDepth 20000 in
theorem E_finds {w : jS} {m : Nat} (hW : MW w.2 m) {n d : Nat} (hQ : zQ (w.1 (m + 1)) n) (hd : d ≤ 4) : jCall 189 [jO m, jI (d : Int)] w (fun v w1 => v = none ∧ mq w m w1 ∧ zRL w1.1 m (zBF n d (w.1 (m + 1))) ∧ zBL n (w.1 (m + 1)) (zBF n d (w.1 (m + 1))) ∧ (zBF n d (w.1 (m + 1))).length ≤ 341) := by
  have mt : jtb 189 = jT189 := rfl
  have hn4 := hQ.S.n4
  have hn2 := hQ.S.n2
  show jWp 189 0 [some (jO m), some (jI (d : Int)), none, none, none, none] [] 0 0 w _
  refine jWp.blk mt 1 ?_
  show _ ∧ jWp 189 1 [some (jO m), some (jI (d : Int)), none, none, none, none] [jO m] 0 0 w _
  refine ⟨rfl, ?_⟩
  refine jWp.getR (pc' := 4) (o := (m + 1)) mt rfl rfl (jtg hW.K0) hW.R0 ?_
  show jWp 189 4 [some (jO m), some (jI (d : Int)), none, none, none, none] [jO (m + 1)] 0 0 w _
  refine jWp.blk mt 1 ?_
  show _ ∧ jWp 189 5 [some (jO m), some (jI (d : Int)), none, none, none, none] [jO m, jO (m + 1)] 0 0 w _
  refine ⟨rfl, ?_⟩
  refine jWp.getR (pc' := 8) (o := (m + 17)) mt rfl rfl (jtg hW.K0) hW.R17 ?_
  show jWp 189 8 [some (jO m), some (jI (d : Int)), none, none, none, none] [jO (m + 17), jO (m + 1)] 0 0 w _
  refine jWp.blk mt 1 ?_
  show jWp 189 9 [some (jO m), some (jI (d : Int)), none, none, none, none] [jI 0, jO (m + 17), jO (m + 1)] 0 0 w _
  refine jWp.aald (pc' := 10) (j := 0) (o := (m + (18 + 0))) mt rfl rfl (jrg hW.K17 (by decide) (by decide)) (by decide) (jlt hW.K17 (by decide)) (hW.RFo 0 (by omega)) ?_
  show jWp 189 10 [some (jO m), some (jI (d : Int)), none, none, none, none] [jO (m + (18 + 0)), jO (m + 1)] 0 0 w _
  refine jWp.calls (as := [jO (m + 1), jO (m + (18 + 0))]) (rest := []) mt rfl rfl rfl rfl ?_
  refine jCall.mono (E_copies (w := w) (a := m + 1) (q := m + (18 + 0)) hW.K1 (hW.KF _ (by omega)) (by omega)) (fun v9 w9 h9 => ?_)
  obtain ⟨rfl, T9, h9, hT9⟩ := h9
  subst h9
  show jWp 189 13 [some (jO m), some (jI (d : Int)), none, none, none, none] [] 0 0 (kA w (m + (18 + 0)) T9) _
  refine jWp.blk mt 1 ?_
  show _ ∧ jWp 189 14 [some (jO m), some (jI (d : Int)), none, none, none, none] [jO m] 0 0 (kA w (m + (18 + 0)) T9) _
  refine ⟨rfl, ?_⟩
  refine jWp.getR (pc' := 17) (o := (m + 420)) mt rfl rfl (jtg hW.K0) hW.R20 ?_
  show jWp 189 17 [some (jO m), some (jI (d : Int)), none, none, none, none] [jO (m + 420)] 0 0 (kA w (m + (18 + 0)) T9) _
  refine jWp.blk mt 2 ?_
  show jWp 189 19 [some (jO m), some (jI (d : Int)), none, none, none, none] [jI 0, jI 0, jO (m + 420)] 0 0 (kA w (m + (18 + 0)) T9) _
  refine jWp.iast (pc' := 20) (j := 0) mt rfl rfl (jtg hW.K420) (by decide) (jlt hW.K420 (by decide)) ?_
  show jWp 189 20 [some (jO m), some (jI (d : Int)), none, none, none, none] [] 0 0 (jW (kA w (m + (18 + 0)) T9) (m + 420) 0 0) _
  refine jWp.blk mt 2 ?_
  show _ ∧ jWp 189 22 [some (jO m), some (jI (d : Int)), none, none, none, none] [jI 1, jO m] 0 0 (jW (kA w (m + (18 + 0)) T9) (m + 420) 0 0) _
  refine ⟨rfl, ?_⟩
  refine jWp.putI (pc' := 25) mt rfl rfl (jtg hW.K0) ?_
  show jWp 189 25 [some (jO m), some (jI (d : Int)), none, none, none, none] [] 0 0 (jW (jW (kA w (m + (18 + 0)) T9) (m + 420) 0 0) m 21 1) _
  refine jWp.blk mt 2 ?_
  show jWp 189 27 [some (jO m), some (jI (d : Int)), some (jI 0), none, none, none] [] 0 0 (jW (jW (kA w (m + (18 + 0)) T9) (m + 420) 0 0) m 21 1) _
  have lp1 : ∀ (N : Nat) (a c1 : Nat) (L1 : List zE) (M1 : Nat → Nat → Int) (hc1 : L1.length = c1) (hcc : c1 ≤ 341 ∧ a ≤ c1 ∧ c1 ≤ 1 + 4 * a) (hmq1 : mq w m (M1, w.2)) (hRL1 : zRL M1 m L1) (hBL1 : zBL n (w.1 (m + 1)) L1) (hr1 : zbo n d (400 - a) a L1 = zBF n d (w.1 (m + 1))), 342 - a < N → jWp 189 27 [some (jO m), some (jI (d : Int)), some (jI (a : Int)), none, none, none] [] 0 0 (M1, w.2) (fun v w1 => v = none ∧ mq w m w1 ∧ zRL w1.1 m (zBF n d (w.1 (m + 1))) ∧ zBL n (w.1 (m + 1)) (zBF n d (w.1 (m + 1))) ∧ (zBF n d (w.1 (m + 1))).length ≤ 341) := by
    intro N
    induction N with
    | zero => intro a c1 L1 M1 hc1 hcc hmq1 hRL1 hBL1 hr1 hm; omega
    | succ N ih2 =>
      intro a c1 L1 M1 hc1 hcc hmq1 hRL1 hBL1 hr1 hm
      have haw : a < c1 → (zL L1 a).2.2.2 ≤ a := fun g => zBL_w hBL1 (a + 1) a (by omega) (by omega)
      have h84 : a < c1 → (zL L1 a).2.2.2 < d → a ≤ 84 := fun g1 g2 => zBL_d hBL1 3 a (by omega) (by omega)
      refine jWp.blk mt 2 ?_
      show _ ∧ jWp 189 29 [some (jO m), some (jI (d : Int)), some (jI (a : Int)), none, none, none] [jO m, jI (a : Int)] 0 0 (M1, w.2) _
      refine ⟨rfl, ?_⟩
      refine jWp.getI (pc' := 32) mt rfl rfl (jtg hW.K0) ?_
      rw [show ((M1, w.2).1 m 21) = (c1 : Int) from (hRL1.1.trans (by rw [hc1]))]
      show jWp 189 32 [some (jO m), some (jI (d : Int)), some (jI (a : Int)), none, none, none] [jI (c1 : Int), jI (a : Int)] 0 0 (M1, w.2) _
      refine jWp.icmp (pc' := 35) mt rfl rfl (b32_id (by omega) (by omega)) (b32_id (by omega) (by omega)) (fun h3 => ?_) (fun h3 => ?_)
      · have h3 : (c1 : Int) ≤ (a : Int) := h3
        refine jWp.vret mt rfl ⟨rfl, rfl⟩ rfl ?_
        rw [show zBF n d (w.1 (m + 1)) = L1 from by rw [← hr1, zbo_f (fun g => by omega)]]
        exact ⟨rfl, hmq1, hRL1, hBL1, by omega⟩
      · have h3 : (a : Int) < (c1 : Int) := h3
        refine jWp.blk mt 1 ?_
        show _ ∧ jWp 189 36 [some (jO m), some (jI (d : Int)), some (jI (a : Int)), none, none, none] [jO m] 0 0 (M1, w.2) _
        refine ⟨rfl, ?_⟩
        refine jWp.getR (pc' := 39) (o := (m + 420)) mt rfl rfl (jtg hW.K0) hW.R20 ?_
        show jWp 189 39 [some (jO m), some (jI (d : Int)), some (jI (a : Int)), none, none, none] [jO (m + 420)] 0 0 (M1, w.2) _
        refine jWp.blk mt 1 ?_
        show jWp 189 40 [some (jO m), some (jI (d : Int)), some (jI (a : Int)), none, none, none] [jI (a : Int), jO (m + 420)] 0 0 (M1, w.2) _
        refine jWp.iald (pc' := 41) (j := a) mt rfl rfl (jird_of hW.K420) (b32_id (by omega) (by omega)) (jlt hW.K420 (by omega)) ?_
        rw [show ((M1, w.2).1 (m + 420) a) = ((zL L1 a).2.2.2 : Int) from (hRL1.2 a (by omega)).2.1]
        show jWp 189 41 [some (jO m), some (jI (d : Int)), some (jI (a : Int)), none, none, none] [jI ((zL L1 a).2.2.2 : Int)] 0 0 (M1, w.2) _
        refine jWp.blk mt 1 ?_
        show jWp 189 42 [some (jO m), some (jI (d : Int)), some (jI (a : Int)), none, none, none] [jI (d : Int), jI ((zL L1 a).2.2.2 : Int)] 0 0 (M1, w.2) _
        refine jWp.icmp (pc' := 45) mt rfl rfl (b32_id (by omega) (by omega)) (b32_id (by omega) (by omega)) (fun h4 => ?_) (fun h4 => ?_)
        · have h4 : (d : Int) ≤ ((zL L1 a).2.2.2 : Int) := h4
          refine jWp.vret mt rfl ⟨rfl, rfl⟩ rfl ?_
          rw [show zBF n d (w.1 (m + 1)) = L1 from by rw [← hr1, zbo_f (fun g => by omega)]]
          exact ⟨rfl, hmq1, hRL1, hBL1, by omega⟩
        · have h4 : ((zL L1 a).2.2.2 : Int) < (d : Int) := h4
          refine jWp.blk mt 2 ?_
          show jWp 189 47 [some (jO m), some (jI (d : Int)), some (jI (a : Int)), some (jI 0), none, none] [] 0 0 (M1, w.2) _
          have lp5 : ∀ (N : Nat) (k c : Nat) (L2 : List zE) (M2 : Nat → Nat → Int) (hk : k ≤ n) (hc2 : L2.length = c) (hcc2 : c ≤ 1 + 4 * a + k) (hmq2 : mq w m (M2, w.2)) (hRL2 : zRL M2 m L2) (hBL2 : zBL n (w.1 (m + 1)) L2) (hA2 : a < L2.length ∧ (zL L2 a).2.2.2 < d) (hr2 : zbo n d (399 - a) (a + 1) (zbi n a (n - k) k L2) = zBF n d (w.1 (m + 1))), n - k < N → jWp 189 47 [some (jO m), some (jI (d : Int)), some (jI (a : Int)), some (jI (k : Int)), none, none] [] 0 0 (M2, w.2) (fun v w1 => v = none ∧ mq w m w1 ∧ zRL w1.1 m (zBF n d (w.1 (m + 1))) ∧ zBL n (w.1 (m + 1)) (zBF n d (w.1 (m + 1))) ∧ (zBF n d (w.1 (m + 1))).length ≤ 341) := by
            intro N
            induction N with
            | zero => intro k c L2 M2 hk hc2 hcc2 hmq2 hRL2 hBL2 hA2 hr2 hm; omega
            | succ N ih6 =>
              intro k c L2 M2 hk hc2 hcc2 hmq2 hRL2 hBL2 hA2 hr2 hm
              have h84b := h84 (by omega) (by omega)
              refine jWp.blk mt 1 ?_
              show jWp 189 48 [some (jO m), some (jI (d : Int)), some (jI (a : Int)), some (jI (k : Int)), none, none] [jI (k : Int)] 0 0 (M2, w.2) _
              refine jWp.i2l (pc' := 49) mt rfl rfl (b32_id (by omega) (by omega)) ?_
              show jWp 189 49 [some (jO m), some (jI (d : Int)), some (jI (a : Int)), some (jI (k : Int)), none, none] [jJ (k : Int)] 0 0 (M2, w.2) _
              refine jWp.blk mt 1 ?_
              show _ ∧ jWp 189 50 [some (jO m), some (jI (d : Int)), some (jI (a : Int)), some (jI (k : Int)), none, none] [jO m, jJ (k : Int)] 0 0 (M2, w.2) _
              refine ⟨rfl, ?_⟩
              refine jWp.getR (pc' := 53) (o := (m + 1)) mt rfl rfl (jtg hW.K0) hW.R0 ?_
              show jWp 189 53 [some (jO m), some (jI (d : Int)), some (jI (a : Int)), some (jI (k : Int)), none, none] [jO (m + 1), jJ (k : Int)] 0 0 (M2, w.2) _
              refine jWp.blk mt 1 ?_
              show jWp 189 54 [some (jO m), some (jI (d : Int)), some (jI (a : Int)), some (jI (k : Int)), none, none] [jI 0, jO (m + 1), jJ (k : Int)] 0 0 (M2, w.2) _
              refine jWp.lald (pc' := 55) (j := 0) mt rfl rfl (jtg hW.K1) (by decide) (jlt hW.K1 (by decide)) ?_
              rw [show ((M2, w.2).1 (m + 1) 0) = (n : Int) from ((congrFun (hmq2.2.1 (m + 1) (by omega)) 0).trans hQ.S.n0)]
              show jWp 189 55 [some (jO m), some (jI (d : Int)), some (jI (a : Int)), some (jI (k : Int)), none, none] [jJ (n : Int), jJ (k : Int)] 0 0 (M2, w.2) _
              refine jWp.lcmp (pc' := 59) mt rfl rfl rfl (b64_id (by omega) (by omega)) (b64_id (by omega) (by omega)) (fun h7 => ?_) (fun h7 => ?_)
              · have h7 : (n : Int) ≤ (k : Int) := h7
                refine jWp.blk mt 2 ?_
                show jWp 189 27 [some (jO m), some (jI (d : Int)), some (jI ((a : Int) + 1)), some (jI (k : Int)), none, none] [] 0 0 (M2, w.2) _
                refine jWp.le (l := [some (jO m), some (jI (d : Int)), some (jI ((a : Int) + 1)), none, none, none]) (by exact ⟨rfl, rfl, rfl, trivial⟩) ?_
                exact ih2 (a + 1) c L2 M2 hc2 (by omega) hmq2 hRL2 hBL2 (by rw [← hr2, show n - k = 0 by omega, show 400 - (a + 1) = 399 - a by omega]; rfl) (by omega)
              · have h7 : (k : Int) < (n : Int) := h7
                refine jWp.blk mt 1 ?_
                show _ ∧ jWp 189 60 [some (jO m), some (jI (d : Int)), some (jI (a : Int)), some (jI (k : Int)), none, none] [jO m] 0 0 (M2, w.2) _
                refine ⟨rfl, ?_⟩
                refine jWp.getR (pc' := 63) (o := (m + 17)) mt rfl rfl (jtg hW.K0) hW.R17 ?_
                show jWp 189 63 [some (jO m), some (jI (d : Int)), some (jI (a : Int)), some (jI (k : Int)), none, none] [jO (m + 17)] 0 0 (M2, w.2) _
                refine jWp.blk mt 1 ?_
                show jWp 189 64 [some (jO m), some (jI (d : Int)), some (jI (a : Int)), some (jI (k : Int)), none, none] [jI (a : Int), jO (m + 17)] 0 0 (M2, w.2) _
                refine jWp.aald (pc' := 65) (j := a) (o := (m + (18 + a))) mt rfl rfl (jrg hW.K17 (by decide) (by decide)) (b32_id (by omega) (by omega)) (jlt hW.K17 (by omega)) (hW.RFo a (by omega)) ?_
                show jWp 189 65 [some (jO m), some (jI (d : Int)), some (jI (a : Int)), some (jI (k : Int)), none, none] [jO (m + (18 + a))] 0 0 (M2, w.2) _
                refine jWp.blk mt 1 ?_
                show _ ∧ jWp 189 66 [some (jO m), some (jI (d : Int)), some (jI (a : Int)), some (jI (k : Int)), none, none] [jO m, jO (m + (18 + a))] 0 0 (M2, w.2) _
                refine ⟨rfl, ?_⟩
                refine jWp.getR (pc' := 69) (o := (m + 17)) mt rfl rfl (jtg hW.K0) hW.R17 ?_
                show jWp 189 69 [some (jO m), some (jI (d : Int)), some (jI (a : Int)), some (jI (k : Int)), none, none] [jO (m + 17), jO (m + (18 + a))] 0 0 (M2, w.2) _
                refine jWp.blk mt 1 ?_
                show _ ∧ jWp 189 70 [some (jO m), some (jI (d : Int)), some (jI (a : Int)), some (jI (k : Int)), none, none] [jO m, jO (m + 17), jO (m + (18 + a))] 0 0 (M2, w.2) _
                refine ⟨rfl, ?_⟩
                refine jWp.getI (pc' := 73) mt rfl rfl (jtg hW.K0) ?_
                rw [show ((M2, w.2).1 m 21) = (c : Int) from (hRL2.1.trans (by rw [hc2]))]
                show jWp 189 73 [some (jO m), some (jI (d : Int)), some (jI (a : Int)), some (jI (k : Int)), none, none] [jI (c : Int), jO (m + 17), jO (m + (18 + a))] 0 0 (M2, w.2) _
                refine jWp.aald (pc' := 74) (j := c) (o := (m + (18 + c))) mt rfl rfl (jrg hW.K17 (by decide) (by decide)) (b32_id (by omega) (by omega)) (jlt hW.K17 (by omega)) (hW.RFo c (by omega)) ?_
                show jWp 189 74 [some (jO m), some (jI (d : Int)), some (jI (a : Int)), some (jI (k : Int)), none, none] [jO (m + (18 + c)), jO (m + (18 + a))] 0 0 (M2, w.2) _
                refine jWp.calls (as := [jO (m + (18 + a)), jO (m + (18 + c))]) (rest := []) mt rfl rfl rfl rfl ?_
                refine jCall.mono (E_copies (w := (M2, w.2)) (a := m + (18 + a)) (q := m + (18 + c)) (hW.KF _ (by omega)) (hW.KF _ (by omega)) (by omega)) (fun v9 w9 h9 => ?_)
                obtain ⟨rfl, T9, h9, hT9⟩ := h9
                subst h9
                have hTz : zeq T9 (zL L2 a).1 := fun j hj => (hT9 j hj).trans ((hRL2.2 a (by omega)).1 j hj)
                show jWp 189 77 [some (jO m), some (jI (d : Int)), some (jI (a : Int)), some (jI (k : Int)), none, none] [] 0 0 (kA (M2, w.2) (m + (18 + c)) T9) _
                refine jWp.blk mt 2 ?_
                show _ ∧ _ ∧ jWp 189 79 [some (jO m), some (jI (d : Int)), some (jI (a : Int)), some (jI (k : Int)), none, none] [jO m, jO m] 0 0 (kA (M2, w.2) (m + (18 + c)) T9) _
                refine ⟨rfl, rfl, ?_⟩
                refine jWp.getR (pc' := 82) (o := (m + 17)) mt rfl rfl (jtg hW.K0) hW.R17 ?_
                show jWp 189 82 [some (jO m), some (jI (d : Int)), some (jI (a : Int)), some (jI (k : Int)), none, none] [jO (m + 17), jO m] 0 0 (kA (M2, w.2) (m + (18 + c)) T9) _
                refine jWp.blk mt 1 ?_
                show _ ∧ jWp 189 83 [some (jO m), some (jI (d : Int)), some (jI (a : Int)), some (jI (k : Int)), none, none] [jO m, jO (m + 17), jO m] 0 0 (kA (M2, w.2) (m + (18 + c)) T9) _
                refine ⟨rfl, ?_⟩
                refine jWp.getI (pc' := 86) mt rfl rfl (jtg hW.K0) ?_
                rw [show ((kA (M2, w.2) (m + (18 + c)) T9).1 m 21) = (c : Int) from (((kA_a (by omega)).trans rfl).trans (hRL2.1.trans (by rw [hc2])))]
                show jWp 189 86 [some (jO m), some (jI (d : Int)), some (jI (a : Int)), some (jI (k : Int)), none, none] [jI (c : Int), jO (m + 17), jO m] 0 0 (kA (M2, w.2) (m + (18 + c)) T9) _
                refine jWp.aald (pc' := 87) (j := c) (o := (m + (18 + c))) mt rfl rfl (jrg hW.K17 (by decide) (by decide)) (b32_id (by omega) (by omega)) (jlt hW.K17 (by omega)) (hW.RFo c (by omega)) ?_
                show jWp 189 87 [some (jO m), some (jI (d : Int)), some (jI (a : Int)), some (jI (k : Int)), none, none] [jO (m + (18 + c)), jO m] 0 0 (kA (M2, w.2) (m + (18 + c)) T9) _
                refine jWp.blk mt 1 ?_
                show jWp 189 88 [some (jO m), some (jI (d : Int)), some (jI (a : Int)), some (jI (k : Int)), none, none] [jI (k : Int), jO (m + (18 + c)), jO m] 0 0 (kA (M2, w.2) (m + (18 + c)) T9) _
                refine jWp.callv (as := [jO m, jO (m + (18 + c)), jI (k : Int)]) (rest := []) mt rfl rfl rfl ⟨rfl, jtg hW.K0⟩ ?_
                refine jCall.mono (E_xany (w := (kA (M2, w.2) (m + (18 + c)) T9)) (o := 18 + c) (n := n) (k := k) hW (hW.KF c (by omega)) (by rw [show (kA (M2, w.2) (m + (18 + c)) T9).1 (m + (18 + c)) = T9 from kA_fs]; exact zeq_S hTz (hBL2.2.2.2 a (by omega)).1.S) (by omega)) (fun v9 w9 h9 => ?_)
                obtain ⟨hx, hh⟩ := h9
                obtain ⟨M3, G9⟩ := w9
                have hg : G9 = w.2 := hx.1
                subst hg
                have hmq3 : mq w m (M3, w.2) := mq_t (mq_A hmq2 (by omega)) (mq_x (Or.inr (by omega)) hx)
                have h3m : ∀ b, b ≠ m → b ≠ m + 6 → b ≠ m + (18 + c) → M3 b = M2 b := fun b g1 g2 g3 => (hx.2.1 b g1 g2 g3).trans (kA_f g3)
                have h321 : M3 m 21 = (c : Int) := (hx.2.2 21 (by decide) (by decide)).trans ((kA_a (by omega)).trans (hRL2.1.trans (by rw [hc2])))
                have h3a : M3 (m + 420) a = ((zL L2 a).2.2.2 : Int) := (congrFun (h3m (m + 420) (by omega) (by omega) (by omega)) a).trans (hRL2.2 a (by omega)).2.1
                have hRL3 : zRL M3 m L2 := zRL_k hRL2 (h321.trans ((hRL2.1.trans (by rw [hc2])).symm)) (fun o ho => h3m _ (by omega) (by omega) (by omega)) (h3m _ (by omega) (by omega) (by omega)) (h3m _ (by omega) (by omega) (by omega)) (h3m _ (by omega) (by omega) (by omega))
                rw [show (kA (M2, w.2) (m + (18 + c)) T9).1 (m + (18 + c)) = T9 from kA_fs] at hh
                have hSn : ∀ hk : k < n, zS (M3 (m + (18 + c))) n := fun hk => by
                  rcases hh with ⟨_, hz⟩ | ⟨_, hz, _⟩
                  · exact zxn_S (zeq_S hTz (hBL2.2.2.2 a (by omega)).1.S) (by omega) hz
                  · rw [show M3 (m + (18 + c)) = T9 from hz]; exact zeq_S hTz (hBL2.2.2.2 a (by omega)).1.S
                rcases hh with ⟨rfl, hz⟩ | ⟨rfl, hzS, hz⟩
                · have hnew : zeq (M3 (m + (18 + c))) (zxF (zL L2 a).1 n k) := zeq_t (zxn_F (by omega) hz) (zxF_c hTz hn4 (by omega))
                  have hcan : zcan (zL L2 a).1 n k := (zcan_q hTz hn4 (by omega)).mp hz.1
                  show jWp 189 91 [some (jO m), some (jI (d : Int)), some (jI (a : Int)), some (jI (k : Int)), none, none] [jI 1] 0 0 (M3, w.2) _
                  refine jWp.blk mt 3 ?_
                  show jWp 189 96 [some (jO m), some (jI (d : Int)), some (jI (a : Int)), some (jI (k : Int)), some (jI 1), some (jI 0)] [] 0 0 (M3, w.2) _
                  have lp8 : ∀ (N : Nat) (x : Nat) (s : Int) (hx9 : x ≤ c) (hs : (s = 1 ∧ zcan (zL L2 a).1 n k ∧ zeq (M3 (m + (18 + c))) (zxF (zL L2 a).1 n k) ∧ ∀ y, y < x → ¬ zal (zL L2 y).1 (zxF (zL L2 a).1 n k) n) ∨ (s = 0 ∧ ¬ (zcan (zL L2 a).1 n k ∧ znw2 L2 n (zxF (zL L2 a).1 n k)))), c - x < N → jWp 189 96 [some (jO m), some (jI (d : Int)), some (jI (a : Int)), some (jI (k : Int)), some (jI s), some (jI (x : Int))] [] 0 0 (M3, w.2) (fun v w1 => v = none ∧ mq w m w1 ∧ zRL w1.1 m (zBF n d (w.1 (m + 1))) ∧ zBL n (w.1 (m + 1)) (zBF n d (w.1 (m + 1))) ∧ (zBF n d (w.1 (m + 1))).length ≤ 341) := by
                    intro N
                    induction N with
                    | zero => intro x s hx9 hs hm; omega
                    | succ N ih9 =>
                      intro x s hx9 hs hm
                      have hsx : s = 1 → s = 1 ∧ zcan (zL L2 a).1 n k ∧ zeq (M3 (m + (18 + c))) (zxF (zL L2 a).1 n k) ∧ ∀ y, y < x → ¬ zal (zL L2 y).1 (zxF (zL L2 a).1 n k) n := fun e => by
                        rcases hs with g | g
                        · exact g
                        · exact absurd g.1 (by omega)
                      refine jWp.blk mt 2 ?_
                      show _ ∧ jWp 189 99 [some (jO m), some (jI (d : Int)), some (jI (a : Int)), some (jI (k : Int)), some (jI s), some (jI (x : Int))] [jO m, jI (x : Int)] 0 0 (M3, w.2) _
                      refine ⟨rfl, ?_⟩
                      refine jWp.getI (pc' := 102) mt rfl rfl (jtg hW.K0) ?_
                      rw [show ((M3, w.2).1 m 21) = (c : Int) from h321]
                      show jWp 189 102 [some (jO m), some (jI (d : Int)), some (jI (a : Int)), some (jI (k : Int)), some (jI s), some (jI (x : Int))] [jI (c : Int), jI (x : Int)] 0 0 (M3, w.2) _
                      refine jWp.icmp (pc' := 105) mt rfl rfl (b32_id (by omega) (by omega)) (b32_id (by omega) (by omega)) (fun h10 => ?_) (fun h10 => ?_)
                      · have h10 : (c : Int) ≤ (x : Int) := h10
                        refine jWp.blk mt 1 ?_
                        show jWp 189 147 [some (jO m), some (jI (d : Int)), some (jI (a : Int)), some (jI (k : Int)), some (jI s), some (jI (x : Int))] [jI s] 0 0 (M3, w.2) _
                        refine jWp.ifz (pc' := 150) mt rfl rfl (b32_id (by omega) (by omega)) (fun h11 => ?_) (fun h11 => ?_)
                        · have h11 : s = 0 := h11
                          refine jWp.blk mt 2 ?_
                          show jWp 189 47 [some (jO m), some (jI (d : Int)), some (jI (a : Int)), some (jI ((k : Int) + 1)), some (jI s), some (jI (x : Int))] [] 0 0 (M3, w.2) _
                          refine jWp.le (l := [some (jO m), some (jI (d : Int)), some (jI (a : Int)), some (jI ((k : Int) + 1)), none, none]) (by exact ⟨rfl, rfl, rfl, rfl, trivial⟩) ?_
                          exact ih6 (k + 1) c L2 M3 (by omega) hc2 (by omega) hmq3 hRL3 hBL2 hA2 (by rw [← hr2, show n - k = (n - (k + 1)) + 1 by omega]; show _ = zbo n d (399 - a) (a + 1) (zbi n a (n - (k + 1)) (k + 1) (zba n a k L2)); rw [zba_f (by rcases hs with g | g; exact absurd g.1 (by omega); exact g.2)]) (by omega)
                        · have h11 : s ≠ 0 := h11
                          refine jWp.blk mt 1 ?_
                          show _ ∧ jWp 189 151 [some (jO m), some (jI (d : Int)), some (jI (a : Int)), some (jI (k : Int)), some (jI s), some (jI (x : Int))] [jO m] 0 0 (M3, w.2) _
                          refine ⟨rfl, ?_⟩
                          refine jWp.getR (pc' := 154) (o := (m + 418)) mt rfl rfl (jtg hW.K0) hW.R18 ?_
                          show jWp 189 154 [some (jO m), some (jI (d : Int)), some (jI (a : Int)), some (jI (k : Int)), some (jI s), some (jI (x : Int))] [jO (m + 418)] 0 0 (M3, w.2) _
                          refine jWp.blk mt 1 ?_
                          show _ ∧ jWp 189 155 [some (jO m), some (jI (d : Int)), some (jI (a : Int)), some (jI (k : Int)), some (jI s), some (jI (x : Int))] [jO m, jO (m + 418)] 0 0 (M3, w.2) _
                          refine ⟨rfl, ?_⟩
                          refine jWp.getI (pc' := 158) mt rfl rfl (jtg hW.K0) ?_
                          rw [show ((M3, w.2).1 m 21) = (c : Int) from h321]
                          show jWp 189 158 [some (jO m), some (jI (d : Int)), some (jI (a : Int)), some (jI (k : Int)), some (jI s), some (jI (x : Int))] [jI (c : Int), jO (m + 418)] 0 0 (M3, w.2) _
                          refine jWp.blk mt 1 ?_
                          show jWp 189 159 [some (jO m), some (jI (d : Int)), some (jI (a : Int)), some (jI (k : Int)), some (jI s), some (jI (x : Int))] [jI (a : Int), jI (c : Int), jO (m + 418)] 0 0 (M3, w.2) _
                          refine jWp.iast (pc' := 160) (j := c) mt rfl rfl (jtg hW.K418) (b32_id (by omega) (by omega)) (jlt hW.K418 (by omega)) ?_
                          show jWp 189 160 [some (jO m), some (jI (d : Int)), some (jI (a : Int)), some (jI (k : Int)), some (jI s), some (jI (x : Int))] [] 0 0 (jW (M3, w.2) (m + 418) c (a : Int)) _
                          refine jWp.blk mt 1 ?_
                          show _ ∧ jWp 189 161 [some (jO m), some (jI (d : Int)), some (jI (a : Int)), some (jI (k : Int)), some (jI s), some (jI (x : Int))] [jO m] 0 0 (jW (M3, w.2) (m + 418) c (a : Int)) _
                          refine ⟨rfl, ?_⟩
                          refine jWp.getR (pc' := 164) (o := (m + 419)) mt rfl rfl (jtg hW.K0) hW.R19 ?_
                          show jWp 189 164 [some (jO m), some (jI (d : Int)), some (jI (a : Int)), some (jI (k : Int)), some (jI s), some (jI (x : Int))] [jO (m + 419)] 0 0 (jW (M3, w.2) (m + 418) c (a : Int)) _
                          refine jWp.blk mt 1 ?_
                          show _ ∧ jWp 189 165 [some (jO m), some (jI (d : Int)), some (jI (a : Int)), some (jI (k : Int)), some (jI s), some (jI (x : Int))] [jO m, jO (m + 419)] 0 0 (jW (M3, w.2) (m + 418) c (a : Int)) _
                          refine ⟨rfl, ?_⟩
                          refine jWp.getI (pc' := 168) mt rfl rfl (jtg hW.K0) ?_
                          rw [show ((jW (M3, w.2) (m + 418) c (a : Int)).1 m 21) = (c : Int) from (((jW_a (by omega)).trans rfl).trans h321)]
                          show jWp 189 168 [some (jO m), some (jI (d : Int)), some (jI (a : Int)), some (jI (k : Int)), some (jI s), some (jI (x : Int))] [jI (c : Int), jO (m + 419)] 0 0 (jW (M3, w.2) (m + 418) c (a : Int)) _
                          refine jWp.blk mt 1 ?_
                          show jWp 189 169 [some (jO m), some (jI (d : Int)), some (jI (a : Int)), some (jI (k : Int)), some (jI s), some (jI (x : Int))] [jI (k : Int), jI (c : Int), jO (m + 419)] 0 0 (jW (M3, w.2) (m + 418) c (a : Int)) _
                          refine jWp.iast (pc' := 170) (j := c) mt rfl rfl (jtg hW.K419) (b32_id (by omega) (by omega)) (jlt hW.K419 (by omega)) ?_
                          show jWp 189 170 [some (jO m), some (jI (d : Int)), some (jI (a : Int)), some (jI (k : Int)), some (jI s), some (jI (x : Int))] [] 0 0 (jW (jW (M3, w.2) (m + 418) c (a : Int)) (m + 419) c (k : Int)) _
                          refine jWp.blk mt 1 ?_
                          show _ ∧ jWp 189 171 [some (jO m), some (jI (d : Int)), some (jI (a : Int)), some (jI (k : Int)), some (jI s), some (jI (x : Int))] [jO m] 0 0 (jW (jW (M3, w.2) (m + 418) c (a : Int)) (m + 419) c (k : Int)) _
                          refine ⟨rfl, ?_⟩
                          refine jWp.getR (pc' := 174) (o := (m + 420)) mt rfl rfl (jtg hW.K0) hW.R20 ?_
                          show jWp 189 174 [some (jO m), some (jI (d : Int)), some (jI (a : Int)), some (jI (k : Int)), some (jI s), some (jI (x : Int))] [jO (m + 420)] 0 0 (jW (jW (M3, w.2) (m + 418) c (a : Int)) (m + 419) c (k : Int)) _
                          refine jWp.blk mt 1 ?_
                          show _ ∧ jWp 189 175 [some (jO m), some (jI (d : Int)), some (jI (a : Int)), some (jI (k : Int)), some (jI s), some (jI (x : Int))] [jO m, jO (m + 420)] 0 0 (jW (jW (M3, w.2) (m + 418) c (a : Int)) (m + 419) c (k : Int)) _
                          refine ⟨rfl, ?_⟩
                          refine jWp.getI (pc' := 178) mt rfl rfl (jtg hW.K0) ?_
                          rw [show ((jW (jW (M3, w.2) (m + 418) c (a : Int)) (m + 419) c (k : Int)).1 m 21) = (c : Int) from (((jW_a (by omega)).trans ((jW_a (by omega)).trans rfl)).trans h321)]
                          show jWp 189 178 [some (jO m), some (jI (d : Int)), some (jI (a : Int)), some (jI (k : Int)), some (jI s), some (jI (x : Int))] [jI (c : Int), jO (m + 420)] 0 0 (jW (jW (M3, w.2) (m + 418) c (a : Int)) (m + 419) c (k : Int)) _
                          refine jWp.blk mt 1 ?_
                          show _ ∧ jWp 189 179 [some (jO m), some (jI (d : Int)), some (jI (a : Int)), some (jI (k : Int)), some (jI s), some (jI (x : Int))] [jO m, jI (c : Int), jO (m + 420)] 0 0 (jW (jW (M3, w.2) (m + 418) c (a : Int)) (m + 419) c (k : Int)) _
                          refine ⟨rfl, ?_⟩
                          refine jWp.getR (pc' := 182) (o := (m + 420)) mt rfl rfl (jtg hW.K0) hW.R20 ?_
                          show jWp 189 182 [some (jO m), some (jI (d : Int)), some (jI (a : Int)), some (jI (k : Int)), some (jI s), some (jI (x : Int))] [jO (m + 420), jI (c : Int), jO (m + 420)] 0 0 (jW (jW (M3, w.2) (m + 418) c (a : Int)) (m + 419) c (k : Int)) _
                          refine jWp.blk mt 1 ?_
                          show jWp 189 183 [some (jO m), some (jI (d : Int)), some (jI (a : Int)), some (jI (k : Int)), some (jI s), some (jI (x : Int))] [jI (a : Int), jO (m + 420), jI (c : Int), jO (m + 420)] 0 0 (jW (jW (M3, w.2) (m + 418) c (a : Int)) (m + 419) c (k : Int)) _
                          refine jWp.iald (pc' := 184) (j := a) mt rfl rfl (jird_of hW.K420) (b32_id (by omega) (by omega)) (jlt hW.K420 (by omega)) ?_
                          rw [show ((jW (jW (M3, w.2) (m + 418) c (a : Int)) (m + 419) c (k : Int)).1 (m + 420) a) = ((zL L2 a).2.2.2 : Int) from (((jW_a (by omega)).trans ((jW_a (by omega)).trans rfl)).trans h3a)]
                          show jWp 189 184 [some (jO m), some (jI (d : Int)), some (jI (a : Int)), some (jI (k : Int)), some (jI s), some (jI (x : Int))] [jI ((zL L2 a).2.2.2 : Int), jI (c : Int), jO (m + 420)] 0 0 (jW (jW (M3, w.2) (m + 418) c (a : Int)) (m + 419) c (k : Int)) _
                          refine jWp.blk mt 2 ?_
                          show jWp 189 186 [some (jO m), some (jI (d : Int)), some (jI (a : Int)), some (jI (k : Int)), some (jI s), some (jI (x : Int))] [jI (((zL L2 a).2.2.2 : Int) + 1), jI (c : Int), jO (m + 420)] 0 0 (jW (jW (M3, w.2) (m + 418) c (a : Int)) (m + 419) c (k : Int)) _
                          refine jWp.iast (pc' := 187) (j := c) mt rfl rfl (jtg hW.K420) (b32_id (by omega) (by omega)) (jlt hW.K420 (by omega)) ?_
                          show jWp 189 187 [some (jO m), some (jI (d : Int)), some (jI (a : Int)), some (jI (k : Int)), some (jI s), some (jI (x : Int))] [] 0 0 (jW (jW (jW (M3, w.2) (m + 418) c (a : Int)) (m + 419) c (k : Int)) (m + 420) c (((zL L2 a).2.2.2 : Int) + 1)) _
                          refine jWp.blk mt 2 ?_
                          show _ ∧ _ ∧ jWp 189 189 [some (jO m), some (jI (d : Int)), some (jI (a : Int)), some (jI (k : Int)), some (jI s), some (jI (x : Int))] [jO m, jO m] 0 0 (jW (jW (jW (M3, w.2) (m + 418) c (a : Int)) (m + 419) c (k : Int)) (m + 420) c (((zL L2 a).2.2.2 : Int) + 1)) _
                          refine ⟨rfl, rfl, ?_⟩
                          refine jWp.getI (pc' := 192) mt rfl rfl (jtg hW.K0) ?_
                          rw [show ((jW (jW (jW (M3, w.2) (m + 418) c (a : Int)) (m + 419) c (k : Int)) (m + 420) c (((zL L2 a).2.2.2 : Int) + 1)).1 m 21) = (c : Int) from (((jW_a (by omega)).trans ((jW_a (by omega)).trans ((jW_a (by omega)).trans rfl))).trans h321)]
                          show jWp 189 192 [some (jO m), some (jI (d : Int)), some (jI (a : Int)), some (jI (k : Int)), some (jI s), some (jI (x : Int))] [jI (c : Int), jO m] 0 0 (jW (jW (jW (M3, w.2) (m + 418) c (a : Int)) (m + 419) c (k : Int)) (m + 420) c (((zL L2 a).2.2.2 : Int) + 1)) _
                          refine jWp.blk mt 2 ?_
                          show jWp 189 194 [some (jO m), some (jI (d : Int)), some (jI (a : Int)), some (jI (k : Int)), some (jI s), some (jI (x : Int))] [jI ((c : Int) + 1), jO m] 0 0 (jW (jW (jW (M3, w.2) (m + 418) c (a : Int)) (m + 419) c (k : Int)) (m + 420) c (((zL L2 a).2.2.2 : Int) + 1)) _
                          refine jWp.putI (pc' := 197) mt rfl rfl (jtg hW.K0) ?_
                          show jWp 189 197 [some (jO m), some (jI (d : Int)), some (jI (a : Int)), some (jI (k : Int)), some (jI s), some (jI (x : Int))] [] 0 0 (jW (jW (jW (jW (M3, w.2) (m + 418) c (a : Int)) (m + 419) c (k : Int)) (m + 420) c (((zL L2 a).2.2.2 : Int) + 1)) m 21 ((c : Int) + 1)) _
                          refine jWp.blk mt 2 ?_
                          show jWp 189 47 [some (jO m), some (jI (d : Int)), some (jI (a : Int)), some (jI ((k : Int) + 1)), some (jI s), some (jI (x : Int))] [] 0 0 (jW (jW (jW (jW (M3, w.2) (m + 418) c (a : Int)) (m + 419) c (k : Int)) (m + 420) c (((zL L2 a).2.2.2 : Int) + 1)) m 21 ((c : Int) + 1)) _
                          refine jWp.le (l := [some (jO m), some (jI (d : Int)), some (jI (a : Int)), some (jI ((k : Int) + 1)), none, none]) (by exact ⟨rfl, rfl, rfl, rfl, trivial⟩) ?_
                          exact ih6 (k + 1) (c + 1) (L2 ++ [(zxF (zL L2 a).1 n k, a, k, (zL L2 a).2.2.2 + 1)]) (jW (jW (jW (jW (M3, w.2) (m + 418) c (a : Int)) (m + 419) c (k : Int)) (m + 420) c (((zL L2 a).2.2.2 : Int) + 1)) m 21 ((c : Int) + 1)).1 (by omega) (by rw [List.length_append, hc2]; rfl) (by omega) (mq_S (mq_W (mq_W (mq_W hmq3 (by omega)) (by omega)) (by omega)) (by decide)) (by
                have hs1 := hsx (by omega)
                refine zRL_n hRL3 ?_ (fun o ho => ((jW_f (by omega)).trans ((jW_f (by omega)).trans ((jW_f (by omega)).trans ((jW_f (by omega)).trans rfl))))) (fun o ho => ⟨((jW_a (by omega)).trans ((jW_a (by omega)).trans ((jW_a (by omega)).trans ((jW_k (by omega)).trans rfl)))), ((jW_a (by omega)).trans ((jW_a (by omega)).trans ((jW_k (by omega)).trans ((jW_a (by omega)).trans rfl)))), ((jW_a (by omega)).trans ((jW_k (by omega)).trans ((jW_a (by omega)).trans ((jW_a (by omega)).trans rfl))))⟩) (by rw [hc2]; exact hs1.2.2.1) ?_ ?_ ?_
                · rw [hc2]; exact jW_s
                · rw [hc2]; exact ((jW_a (by omega)).trans ((jW_a (by omega)).trans ((jW_a (by omega)).trans jW_s)))
                · rw [hc2]; exact ((jW_a (by omega)).trans ((jW_a (by omega)).trans jW_s))
                · rw [hc2]; exact (((jW_a (by omega)).trans jW_s)).trans (by show _ = (((zL L2 a).2.2.2 + 1 : Nat) : Int); omega)) (zBL_n hBL2 (by omega) (by omega) (by omega) (hsx (by omega)).2.1) ⟨by rw [List.length_append]; omega, by rw [zL_l hA2.1]; exact hA2.2⟩ (by
                have hs1 := hsx (by omega)
                rw [← hr2, show n - k = (n - (k + 1)) + 1 by omega]
                show _ = zbo n d (399 - a) (a + 1) (zbi n a (n - (k + 1)) (k + 1) (zba n a k L2))
                rw [zba_t ⟨hs1.2.1, fun o ho => hs1.2.2.2 o (by omega)⟩]) (by omega)
                      · have h10 : (x : Int) < (c : Int) := h10
                        refine jWp.blk mt 1 ?_
                        show jWp 189 107 [some (jO m), some (jI (d : Int)), some (jI (a : Int)), some (jI (k : Int)), some (jI s), some (jI (x : Int))] [jI s] 0 0 (M3, w.2) _
                        refine jWp.ifz (pc' := 110) mt rfl rfl (b32_id (by omega) (by omega)) (fun h12 => ?_) (fun h12 => ?_)
                        · have h12 : s = 0 := h12
                          refine jWp.blk mt 1 ?_
                          show jWp 189 147 [some (jO m), some (jI (d : Int)), some (jI (a : Int)), some (jI (k : Int)), some (jI s), some (jI (x : Int))] [jI s] 0 0 (M3, w.2) _
                          refine jWp.ifz (pc' := 150) mt rfl rfl (b32_id (by omega) (by omega)) (fun h13 => ?_) (fun h13 => ?_)
                          · have h13 : s = 0 := h13
                            refine jWp.blk mt 2 ?_
                            show jWp 189 47 [some (jO m), some (jI (d : Int)), some (jI (a : Int)), some (jI ((k : Int) + 1)), some (jI s), some (jI (x : Int))] [] 0 0 (M3, w.2) _
                            refine jWp.le (l := [some (jO m), some (jI (d : Int)), some (jI (a : Int)), some (jI ((k : Int) + 1)), none, none]) (by exact ⟨rfl, rfl, rfl, rfl, trivial⟩) ?_
                            exact ih6 (k + 1) c L2 M3 (by omega) hc2 (by omega) hmq3 hRL3 hBL2 hA2 (by rw [← hr2, show n - k = (n - (k + 1)) + 1 by omega]; show _ = zbo n d (399 - a) (a + 1) (zbi n a (n - (k + 1)) (k + 1) (zba n a k L2)); rw [zba_f (by rcases hs with g | g; exact absurd g.1 (by omega); exact g.2)]) (by omega)
                          · have h13 : s ≠ 0 := h13
                            refine jWp.blk mt 1 ?_
                            show _ ∧ jWp 189 151 [some (jO m), some (jI (d : Int)), some (jI (a : Int)), some (jI (k : Int)), some (jI s), some (jI (x : Int))] [jO m] 0 0 (M3, w.2) _
                            refine ⟨rfl, ?_⟩
                            refine jWp.getR (pc' := 154) (o := (m + 418)) mt rfl rfl (jtg hW.K0) hW.R18 ?_
                            show jWp 189 154 [some (jO m), some (jI (d : Int)), some (jI (a : Int)), some (jI (k : Int)), some (jI s), some (jI (x : Int))] [jO (m + 418)] 0 0 (M3, w.2) _
                            refine jWp.blk mt 1 ?_
                            show _ ∧ jWp 189 155 [some (jO m), some (jI (d : Int)), some (jI (a : Int)), some (jI (k : Int)), some (jI s), some (jI (x : Int))] [jO m, jO (m + 418)] 0 0 (M3, w.2) _
                            refine ⟨rfl, ?_⟩
                            refine jWp.getI (pc' := 158) mt rfl rfl (jtg hW.K0) ?_
                            rw [show ((M3, w.2).1 m 21) = (c : Int) from h321]
                            show jWp 189 158 [some (jO m), some (jI (d : Int)), some (jI (a : Int)), some (jI (k : Int)), some (jI s), some (jI (x : Int))] [jI (c : Int), jO (m + 418)] 0 0 (M3, w.2) _
                            refine jWp.blk mt 1 ?_
                            show jWp 189 159 [some (jO m), some (jI (d : Int)), some (jI (a : Int)), some (jI (k : Int)), some (jI s), some (jI (x : Int))] [jI (a : Int), jI (c : Int), jO (m + 418)] 0 0 (M3, w.2) _
                            refine jWp.iast (pc' := 160) (j := c) mt rfl rfl (jtg hW.K418) (b32_id (by omega) (by omega)) (jlt hW.K418 (by omega)) ?_
                            show jWp 189 160 [some (jO m), some (jI (d : Int)), some (jI (a : Int)), some (jI (k : Int)), some (jI s), some (jI (x : Int))] [] 0 0 (jW (M3, w.2) (m + 418) c (a : Int)) _
                            refine jWp.blk mt 1 ?_
                            show _ ∧ jWp 189 161 [some (jO m), some (jI (d : Int)), some (jI (a : Int)), some (jI (k : Int)), some (jI s), some (jI (x : Int))] [jO m] 0 0 (jW (M3, w.2) (m + 418) c (a : Int)) _
                            refine ⟨rfl, ?_⟩
                            refine jWp.getR (pc' := 164) (o := (m + 419)) mt rfl rfl (jtg hW.K0) hW.R19 ?_
                            show jWp 189 164 [some (jO m), some (jI (d : Int)), some (jI (a : Int)), some (jI (k : Int)), some (jI s), some (jI (x : Int))] [jO (m + 419)] 0 0 (jW (M3, w.2) (m + 418) c (a : Int)) _
                            refine jWp.blk mt 1 ?_
                            show _ ∧ jWp 189 165 [some (jO m), some (jI (d : Int)), some (jI (a : Int)), some (jI (k : Int)), some (jI s), some (jI (x : Int))] [jO m, jO (m + 419)] 0 0 (jW (M3, w.2) (m + 418) c (a : Int)) _
                            refine ⟨rfl, ?_⟩
                            refine jWp.getI (pc' := 168) mt rfl rfl (jtg hW.K0) ?_
                            rw [show ((jW (M3, w.2) (m + 418) c (a : Int)).1 m 21) = (c : Int) from (((jW_a (by omega)).trans rfl).trans h321)]
                            show jWp 189 168 [some (jO m), some (jI (d : Int)), some (jI (a : Int)), some (jI (k : Int)), some (jI s), some (jI (x : Int))] [jI (c : Int), jO (m + 419)] 0 0 (jW (M3, w.2) (m + 418) c (a : Int)) _
                            refine jWp.blk mt 1 ?_
                            show jWp 189 169 [some (jO m), some (jI (d : Int)), some (jI (a : Int)), some (jI (k : Int)), some (jI s), some (jI (x : Int))] [jI (k : Int), jI (c : Int), jO (m + 419)] 0 0 (jW (M3, w.2) (m + 418) c (a : Int)) _
                            refine jWp.iast (pc' := 170) (j := c) mt rfl rfl (jtg hW.K419) (b32_id (by omega) (by omega)) (jlt hW.K419 (by omega)) ?_
                            show jWp 189 170 [some (jO m), some (jI (d : Int)), some (jI (a : Int)), some (jI (k : Int)), some (jI s), some (jI (x : Int))] [] 0 0 (jW (jW (M3, w.2) (m + 418) c (a : Int)) (m + 419) c (k : Int)) _
                            refine jWp.blk mt 1 ?_
                            show _ ∧ jWp 189 171 [some (jO m), some (jI (d : Int)), some (jI (a : Int)), some (jI (k : Int)), some (jI s), some (jI (x : Int))] [jO m] 0 0 (jW (jW (M3, w.2) (m + 418) c (a : Int)) (m + 419) c (k : Int)) _
                            refine ⟨rfl, ?_⟩
                            refine jWp.getR (pc' := 174) (o := (m + 420)) mt rfl rfl (jtg hW.K0) hW.R20 ?_
                            show jWp 189 174 [some (jO m), some (jI (d : Int)), some (jI (a : Int)), some (jI (k : Int)), some (jI s), some (jI (x : Int))] [jO (m + 420)] 0 0 (jW (jW (M3, w.2) (m + 418) c (a : Int)) (m + 419) c (k : Int)) _
                            refine jWp.blk mt 1 ?_
                            show _ ∧ jWp 189 175 [some (jO m), some (jI (d : Int)), some (jI (a : Int)), some (jI (k : Int)), some (jI s), some (jI (x : Int))] [jO m, jO (m + 420)] 0 0 (jW (jW (M3, w.2) (m + 418) c (a : Int)) (m + 419) c (k : Int)) _
                            refine ⟨rfl, ?_⟩
                            refine jWp.getI (pc' := 178) mt rfl rfl (jtg hW.K0) ?_
                            rw [show ((jW (jW (M3, w.2) (m + 418) c (a : Int)) (m + 419) c (k : Int)).1 m 21) = (c : Int) from (((jW_a (by omega)).trans ((jW_a (by omega)).trans rfl)).trans h321)]
                            show jWp 189 178 [some (jO m), some (jI (d : Int)), some (jI (a : Int)), some (jI (k : Int)), some (jI s), some (jI (x : Int))] [jI (c : Int), jO (m + 420)] 0 0 (jW (jW (M3, w.2) (m + 418) c (a : Int)) (m + 419) c (k : Int)) _
                            refine jWp.blk mt 1 ?_
                            show _ ∧ jWp 189 179 [some (jO m), some (jI (d : Int)), some (jI (a : Int)), some (jI (k : Int)), some (jI s), some (jI (x : Int))] [jO m, jI (c : Int), jO (m + 420)] 0 0 (jW (jW (M3, w.2) (m + 418) c (a : Int)) (m + 419) c (k : Int)) _
                            refine ⟨rfl, ?_⟩
                            refine jWp.getR (pc' := 182) (o := (m + 420)) mt rfl rfl (jtg hW.K0) hW.R20 ?_
                            show jWp 189 182 [some (jO m), some (jI (d : Int)), some (jI (a : Int)), some (jI (k : Int)), some (jI s), some (jI (x : Int))] [jO (m + 420), jI (c : Int), jO (m + 420)] 0 0 (jW (jW (M3, w.2) (m + 418) c (a : Int)) (m + 419) c (k : Int)) _
                            refine jWp.blk mt 1 ?_
                            show jWp 189 183 [some (jO m), some (jI (d : Int)), some (jI (a : Int)), some (jI (k : Int)), some (jI s), some (jI (x : Int))] [jI (a : Int), jO (m + 420), jI (c : Int), jO (m + 420)] 0 0 (jW (jW (M3, w.2) (m + 418) c (a : Int)) (m + 419) c (k : Int)) _
                            refine jWp.iald (pc' := 184) (j := a) mt rfl rfl (jird_of hW.K420) (b32_id (by omega) (by omega)) (jlt hW.K420 (by omega)) ?_
                            rw [show ((jW (jW (M3, w.2) (m + 418) c (a : Int)) (m + 419) c (k : Int)).1 (m + 420) a) = ((zL L2 a).2.2.2 : Int) from (((jW_a (by omega)).trans ((jW_a (by omega)).trans rfl)).trans h3a)]
                            show jWp 189 184 [some (jO m), some (jI (d : Int)), some (jI (a : Int)), some (jI (k : Int)), some (jI s), some (jI (x : Int))] [jI ((zL L2 a).2.2.2 : Int), jI (c : Int), jO (m + 420)] 0 0 (jW (jW (M3, w.2) (m + 418) c (a : Int)) (m + 419) c (k : Int)) _
                            refine jWp.blk mt 2 ?_
                            show jWp 189 186 [some (jO m), some (jI (d : Int)), some (jI (a : Int)), some (jI (k : Int)), some (jI s), some (jI (x : Int))] [jI (((zL L2 a).2.2.2 : Int) + 1), jI (c : Int), jO (m + 420)] 0 0 (jW (jW (M3, w.2) (m + 418) c (a : Int)) (m + 419) c (k : Int)) _
                            refine jWp.iast (pc' := 187) (j := c) mt rfl rfl (jtg hW.K420) (b32_id (by omega) (by omega)) (jlt hW.K420 (by omega)) ?_
                            show jWp 189 187 [some (jO m), some (jI (d : Int)), some (jI (a : Int)), some (jI (k : Int)), some (jI s), some (jI (x : Int))] [] 0 0 (jW (jW (jW (M3, w.2) (m + 418) c (a : Int)) (m + 419) c (k : Int)) (m + 420) c (((zL L2 a).2.2.2 : Int) + 1)) _
                            refine jWp.blk mt 2 ?_
                            show _ ∧ _ ∧ jWp 189 189 [some (jO m), some (jI (d : Int)), some (jI (a : Int)), some (jI (k : Int)), some (jI s), some (jI (x : Int))] [jO m, jO m] 0 0 (jW (jW (jW (M3, w.2) (m + 418) c (a : Int)) (m + 419) c (k : Int)) (m + 420) c (((zL L2 a).2.2.2 : Int) + 1)) _
                            refine ⟨rfl, rfl, ?_⟩
                            refine jWp.getI (pc' := 192) mt rfl rfl (jtg hW.K0) ?_
                            rw [show ((jW (jW (jW (M3, w.2) (m + 418) c (a : Int)) (m + 419) c (k : Int)) (m + 420) c (((zL L2 a).2.2.2 : Int) + 1)).1 m 21) = (c : Int) from (((jW_a (by omega)).trans ((jW_a (by omega)).trans ((jW_a (by omega)).trans rfl))).trans h321)]
                            show jWp 189 192 [some (jO m), some (jI (d : Int)), some (jI (a : Int)), some (jI (k : Int)), some (jI s), some (jI (x : Int))] [jI (c : Int), jO m] 0 0 (jW (jW (jW (M3, w.2) (m + 418) c (a : Int)) (m + 419) c (k : Int)) (m + 420) c (((zL L2 a).2.2.2 : Int) + 1)) _
                            refine jWp.blk mt 2 ?_
                            show jWp 189 194 [some (jO m), some (jI (d : Int)), some (jI (a : Int)), some (jI (k : Int)), some (jI s), some (jI (x : Int))] [jI ((c : Int) + 1), jO m] 0 0 (jW (jW (jW (M3, w.2) (m + 418) c (a : Int)) (m + 419) c (k : Int)) (m + 420) c (((zL L2 a).2.2.2 : Int) + 1)) _
                            refine jWp.putI (pc' := 197) mt rfl rfl (jtg hW.K0) ?_
                            show jWp 189 197 [some (jO m), some (jI (d : Int)), some (jI (a : Int)), some (jI (k : Int)), some (jI s), some (jI (x : Int))] [] 0 0 (jW (jW (jW (jW (M3, w.2) (m + 418) c (a : Int)) (m + 419) c (k : Int)) (m + 420) c (((zL L2 a).2.2.2 : Int) + 1)) m 21 ((c : Int) + 1)) _
                            refine jWp.blk mt 2 ?_
                            show jWp 189 47 [some (jO m), some (jI (d : Int)), some (jI (a : Int)), some (jI ((k : Int) + 1)), some (jI s), some (jI (x : Int))] [] 0 0 (jW (jW (jW (jW (M3, w.2) (m + 418) c (a : Int)) (m + 419) c (k : Int)) (m + 420) c (((zL L2 a).2.2.2 : Int) + 1)) m 21 ((c : Int) + 1)) _
                            refine jWp.le (l := [some (jO m), some (jI (d : Int)), some (jI (a : Int)), some (jI ((k : Int) + 1)), none, none]) (by exact ⟨rfl, rfl, rfl, rfl, trivial⟩) ?_
                            exact ih6 (k + 1) (c + 1) (L2 ++ [(zxF (zL L2 a).1 n k, a, k, (zL L2 a).2.2.2 + 1)]) (jW (jW (jW (jW (M3, w.2) (m + 418) c (a : Int)) (m + 419) c (k : Int)) (m + 420) c (((zL L2 a).2.2.2 : Int) + 1)) m 21 ((c : Int) + 1)).1 (by omega) (by rw [List.length_append, hc2]; rfl) (by omega) (mq_S (mq_W (mq_W (mq_W hmq3 (by omega)) (by omega)) (by omega)) (by decide)) (by
                have hs1 := hsx (by omega)
                refine zRL_n hRL3 ?_ (fun o ho => ((jW_f (by omega)).trans ((jW_f (by omega)).trans ((jW_f (by omega)).trans ((jW_f (by omega)).trans rfl))))) (fun o ho => ⟨((jW_a (by omega)).trans ((jW_a (by omega)).trans ((jW_a (by omega)).trans ((jW_k (by omega)).trans rfl)))), ((jW_a (by omega)).trans ((jW_a (by omega)).trans ((jW_k (by omega)).trans ((jW_a (by omega)).trans rfl)))), ((jW_a (by omega)).trans ((jW_k (by omega)).trans ((jW_a (by omega)).trans ((jW_a (by omega)).trans rfl))))⟩) (by rw [hc2]; exact hs1.2.2.1) ?_ ?_ ?_
                · rw [hc2]; exact jW_s
                · rw [hc2]; exact ((jW_a (by omega)).trans ((jW_a (by omega)).trans ((jW_a (by omega)).trans jW_s)))
                · rw [hc2]; exact ((jW_a (by omega)).trans ((jW_a (by omega)).trans jW_s))
                · rw [hc2]; exact (((jW_a (by omega)).trans jW_s)).trans (by show _ = (((zL L2 a).2.2.2 + 1 : Nat) : Int); omega)) (zBL_n hBL2 (by omega) (by omega) (by omega) (hsx (by omega)).2.1) ⟨by rw [List.length_append]; omega, by rw [zL_l hA2.1]; exact hA2.2⟩ (by
                have hs1 := hsx (by omega)
                rw [← hr2, show n - k = (n - (k + 1)) + 1 by omega]
                show _ = zbo n d (399 - a) (a + 1) (zbi n a (n - (k + 1)) (k + 1) (zba n a k L2))
                rw [zba_t ⟨hs1.2.1, fun o ho => hs1.2.2.2 o (by omega)⟩]) (by omega)
                        · have h12 : s ≠ 0 := h12
                          refine jWp.blk mt 1 ?_
                          show _ ∧ jWp 189 111 [some (jO m), some (jI (d : Int)), some (jI (a : Int)), some (jI (k : Int)), some (jI s), some (jI (x : Int))] [jO m] 0 0 (M3, w.2) _
                          refine ⟨rfl, ?_⟩
                          refine jWp.getR (pc' := 114) (o := (m + 17)) mt rfl rfl (jtg hW.K0) hW.R17 ?_
                          show jWp 189 114 [some (jO m), some (jI (d : Int)), some (jI (a : Int)), some (jI (k : Int)), some (jI s), some (jI (x : Int))] [jO (m + 17)] 0 0 (M3, w.2) _
                          refine jWp.blk mt 1 ?_
                          show jWp 189 116 [some (jO m), some (jI (d : Int)), some (jI (a : Int)), some (jI (k : Int)), some (jI s), some (jI (x : Int))] [jI (x : Int), jO (m + 17)] 0 0 (M3, w.2) _
                          refine jWp.aald (pc' := 117) (j := x) (o := (m + (18 + x))) mt rfl rfl (jrg hW.K17 (by decide) (by decide)) (b32_id (by omega) (by omega)) (jlt hW.K17 (by omega)) (hW.RFo x (by omega)) ?_
                          show jWp 189 117 [some (jO m), some (jI (d : Int)), some (jI (a : Int)), some (jI (k : Int)), some (jI s), some (jI (x : Int))] [jO (m + (18 + x))] 0 0 (M3, w.2) _
                          refine jWp.blk mt 1 ?_
                          show _ ∧ jWp 189 118 [some (jO m), some (jI (d : Int)), some (jI (a : Int)), some (jI (k : Int)), some (jI s), some (jI (x : Int))] [jO m, jO (m + (18 + x))] 0 0 (M3, w.2) _
                          refine ⟨rfl, ?_⟩
                          refine jWp.getR (pc' := 121) (o := (m + 17)) mt rfl rfl (jtg hW.K0) hW.R17 ?_
                          show jWp 189 121 [some (jO m), some (jI (d : Int)), some (jI (a : Int)), some (jI (k : Int)), some (jI s), some (jI (x : Int))] [jO (m + 17), jO (m + (18 + x))] 0 0 (M3, w.2) _
                          refine jWp.blk mt 1 ?_
                          show _ ∧ jWp 189 122 [some (jO m), some (jI (d : Int)), some (jI (a : Int)), some (jI (k : Int)), some (jI s), some (jI (x : Int))] [jO m, jO (m + 17), jO (m + (18 + x))] 0 0 (M3, w.2) _
                          refine ⟨rfl, ?_⟩
                          refine jWp.getI (pc' := 125) mt rfl rfl (jtg hW.K0) ?_
                          rw [show ((M3, w.2).1 m 21) = (c : Int) from h321]
                          show jWp 189 125 [some (jO m), some (jI (d : Int)), some (jI (a : Int)), some (jI (k : Int)), some (jI s), some (jI (x : Int))] [jI (c : Int), jO (m + 17), jO (m + (18 + x))] 0 0 (M3, w.2) _
                          refine jWp.aald (pc' := 126) (j := c) (o := (m + (18 + c))) mt rfl rfl (jrg hW.K17 (by decide) (by decide)) (b32_id (by omega) (by omega)) (jlt hW.K17 (by omega)) (hW.RFo c (by omega)) ?_
                          show jWp 189 126 [some (jO m), some (jI (d : Int)), some (jI (a : Int)), some (jI (k : Int)), some (jI s), some (jI (x : Int))] [jO (m + (18 + c)), jO (m + (18 + x))] 0 0 (M3, w.2) _
                          refine jWp.calls (as := [jO (m + (18 + x)), jO (m + (18 + c))]) (rest := []) mt rfl rfl rfl rfl ?_
                          refine jCall.mono (E_areAlike (w := (M3, w.2)) (q := m + (18 + x)) (p := m + (18 + c)) (n := n) (hW.KF x (by omega)) (hW.KF c (by omega)) (zeq_S (hRL3.2 x (by omega)).1 (hBL2.2.2.2 x (by omega)).1.S) (hSn (by omega))) (fun v9 w9 h9 => ?_)
                          rcases h9 with ⟨rfl, h9, h14⟩ | ⟨rfl, h9, h14⟩ <;> subst w9
                          · have h14 : zal (M3 (m + (18 + x))) (M3 (m + (18 + c))) n := h14
                            show jWp 189 129 [some (jO m), some (jI (d : Int)), some (jI (a : Int)), some (jI (k : Int)), some (jI s), some (jI (x : Int))] [jI 1] 0 0 (M3, w.2) _
                            refine jWp.ifc (b := true) mt rfl (by decide) rfl ?_
                            show jWp 189 136 [some (jO m), some (jI (d : Int)), some (jI (a : Int)), some (jI (k : Int)), some (jI s), some (jI (x : Int))] [] 0 0 (M3, w.2) _
                            refine jWp.blk mt 4 ?_
                            show jWp 189 96 [some (jO m), some (jI (d : Int)), some (jI (a : Int)), some (jI (k : Int)), some (jI 0), some (jI ((x : Int) + 1))] [] 0 0 (M3, w.2) _
                            refine jWp.le (l := [some (jO m), some (jI (d : Int)), some (jI (a : Int)), some (jI (k : Int)), some (jI 0), some (jI ((x : Int) + 1))]) (by exact ⟨rfl, rfl, rfl, rfl, rfl, rfl, trivial⟩) ?_
                            exact ih9 (x + 1) 0 (by omega) (by have hs1 := hsx (by omega); exact Or.inr ⟨rfl, fun g => g.2 x (by omega) ((zal_c hn4 (hRL3.2 x (by omega)).1 hs1.2.2.1).mp (by assumption))⟩) (by omega)
                          · have h14 : ¬ (zal (M3 (m + (18 + x))) (M3 (m + (18 + c))) n) := h14
                            show jWp 189 129 [some (jO m), some (jI (d : Int)), some (jI (a : Int)), some (jI (k : Int)), some (jI s), some (jI (x : Int))] [jI 0] 0 0 (M3, w.2) _
                            refine jWp.ifc (b := false) mt rfl (by decide) rfl ?_
                            show jWp 189 132 [some (jO m), some (jI (d : Int)), some (jI (a : Int)), some (jI (k : Int)), some (jI s), some (jI (x : Int))] [] 0 0 (M3, w.2) _
                            refine jWp.blk mt 5 ?_
                            show jWp 189 96 [some (jO m), some (jI (d : Int)), some (jI (a : Int)), some (jI (k : Int)), some (jI 1), some (jI ((x : Int) + 1))] [] 0 0 (M3, w.2) _
                            refine jWp.le (l := [some (jO m), some (jI (d : Int)), some (jI (a : Int)), some (jI (k : Int)), some (jI 1), some (jI ((x : Int) + 1))]) (by exact ⟨rfl, rfl, rfl, rfl, rfl, rfl, trivial⟩) ?_
                            exact ih9 (x + 1) 1 (by omega) (by have hs1 := hsx (by omega); exact Or.inl ⟨rfl, hs1.2.1, hs1.2.2.1, fun y hy => by rcases Nat.lt_or_ge y x with e | e; exact hs1.2.2.2 y e; rw [show y = x by omega]; exact fun g => absurd ((zal_c hn4 (hRL3.2 x (by omega)).1 hs1.2.2.1).mpr g) (by assumption)⟩) (by omega)
                  refine jWp.le (l := [some (jO m), some (jI (d : Int)), some (jI (a : Int)), some (jI (k : Int)), some (jI 1), some (jI 0)]) (by exact ⟨rfl, rfl, rfl, rfl, rfl, rfl, trivial⟩) ?_
                  exact lp8 _ 0 1 (by omega) (Or.inl ⟨rfl, hcan, hnew, fun y hy => absurd hy (by omega)⟩) (Nat.lt_succ_self _)
                · have hcan : ¬ zcan (zL L2 a).1 n k := fun g => hz ((zcan_q hTz hn4 (by omega)).mpr g)
                  show jWp 189 91 [some (jO m), some (jI (d : Int)), some (jI (a : Int)), some (jI (k : Int)), none, none] [jI 0] 0 0 (M3, w.2) _
                  refine jWp.blk mt 3 ?_
                  show jWp 189 96 [some (jO m), some (jI (d : Int)), some (jI (a : Int)), some (jI (k : Int)), some (jI 0), some (jI 0)] [] 0 0 (M3, w.2) _
                  have lp15 : ∀ (N : Nat) (x : Nat) (s : Int) (hx9 : x ≤ c) (hs : (s = 1 ∧ zcan (zL L2 a).1 n k ∧ zeq (M3 (m + (18 + c))) (zxF (zL L2 a).1 n k) ∧ ∀ y, y < x → ¬ zal (zL L2 y).1 (zxF (zL L2 a).1 n k) n) ∨ (s = 0 ∧ ¬ (zcan (zL L2 a).1 n k ∧ znw2 L2 n (zxF (zL L2 a).1 n k)))), c - x < N → jWp 189 96 [some (jO m), some (jI (d : Int)), some (jI (a : Int)), some (jI (k : Int)), some (jI s), some (jI (x : Int))] [] 0 0 (M3, w.2) (fun v w1 => v = none ∧ mq w m w1 ∧ zRL w1.1 m (zBF n d (w.1 (m + 1))) ∧ zBL n (w.1 (m + 1)) (zBF n d (w.1 (m + 1))) ∧ (zBF n d (w.1 (m + 1))).length ≤ 341) := by
                    intro N
                    induction N with
                    | zero => intro x s hx9 hs hm; omega
                    | succ N ih16 =>
                      intro x s hx9 hs hm
                      have hsx : s = 1 → s = 1 ∧ zcan (zL L2 a).1 n k ∧ zeq (M3 (m + (18 + c))) (zxF (zL L2 a).1 n k) ∧ ∀ y, y < x → ¬ zal (zL L2 y).1 (zxF (zL L2 a).1 n k) n := fun e => by
                        rcases hs with g | g
                        · exact g
                        · exact absurd g.1 (by omega)
                      refine jWp.blk mt 2 ?_
                      show _ ∧ jWp 189 99 [some (jO m), some (jI (d : Int)), some (jI (a : Int)), some (jI (k : Int)), some (jI s), some (jI (x : Int))] [jO m, jI (x : Int)] 0 0 (M3, w.2) _
                      refine ⟨rfl, ?_⟩
                      refine jWp.getI (pc' := 102) mt rfl rfl (jtg hW.K0) ?_
                      rw [show ((M3, w.2).1 m 21) = (c : Int) from h321]
                      show jWp 189 102 [some (jO m), some (jI (d : Int)), some (jI (a : Int)), some (jI (k : Int)), some (jI s), some (jI (x : Int))] [jI (c : Int), jI (x : Int)] 0 0 (M3, w.2) _
                      refine jWp.icmp (pc' := 105) mt rfl rfl (b32_id (by omega) (by omega)) (b32_id (by omega) (by omega)) (fun h17 => ?_) (fun h17 => ?_)
                      · have h17 : (c : Int) ≤ (x : Int) := h17
                        refine jWp.blk mt 1 ?_
                        show jWp 189 147 [some (jO m), some (jI (d : Int)), some (jI (a : Int)), some (jI (k : Int)), some (jI s), some (jI (x : Int))] [jI s] 0 0 (M3, w.2) _
                        refine jWp.ifz (pc' := 150) mt rfl rfl (b32_id (by omega) (by omega)) (fun h18 => ?_) (fun h18 => ?_)
                        · have h18 : s = 0 := h18
                          refine jWp.blk mt 2 ?_
                          show jWp 189 47 [some (jO m), some (jI (d : Int)), some (jI (a : Int)), some (jI ((k : Int) + 1)), some (jI s), some (jI (x : Int))] [] 0 0 (M3, w.2) _
                          refine jWp.le (l := [some (jO m), some (jI (d : Int)), some (jI (a : Int)), some (jI ((k : Int) + 1)), none, none]) (by exact ⟨rfl, rfl, rfl, rfl, trivial⟩) ?_
                          exact ih6 (k + 1) c L2 M3 (by omega) hc2 (by omega) hmq3 hRL3 hBL2 hA2 (by rw [← hr2, show n - k = (n - (k + 1)) + 1 by omega]; show _ = zbo n d (399 - a) (a + 1) (zbi n a (n - (k + 1)) (k + 1) (zba n a k L2)); rw [zba_f (by rcases hs with g | g; exact absurd g.1 (by omega); exact g.2)]) (by omega)
                        · have h18 : s ≠ 0 := h18
                          refine jWp.blk mt 1 ?_
                          show _ ∧ jWp 189 151 [some (jO m), some (jI (d : Int)), some (jI (a : Int)), some (jI (k : Int)), some (jI s), some (jI (x : Int))] [jO m] 0 0 (M3, w.2) _
                          refine ⟨rfl, ?_⟩
                          refine jWp.getR (pc' := 154) (o := (m + 418)) mt rfl rfl (jtg hW.K0) hW.R18 ?_
                          show jWp 189 154 [some (jO m), some (jI (d : Int)), some (jI (a : Int)), some (jI (k : Int)), some (jI s), some (jI (x : Int))] [jO (m + 418)] 0 0 (M3, w.2) _
                          refine jWp.blk mt 1 ?_
                          show _ ∧ jWp 189 155 [some (jO m), some (jI (d : Int)), some (jI (a : Int)), some (jI (k : Int)), some (jI s), some (jI (x : Int))] [jO m, jO (m + 418)] 0 0 (M3, w.2) _
                          refine ⟨rfl, ?_⟩
                          refine jWp.getI (pc' := 158) mt rfl rfl (jtg hW.K0) ?_
                          rw [show ((M3, w.2).1 m 21) = (c : Int) from h321]
                          show jWp 189 158 [some (jO m), some (jI (d : Int)), some (jI (a : Int)), some (jI (k : Int)), some (jI s), some (jI (x : Int))] [jI (c : Int), jO (m + 418)] 0 0 (M3, w.2) _
                          refine jWp.blk mt 1 ?_
                          show jWp 189 159 [some (jO m), some (jI (d : Int)), some (jI (a : Int)), some (jI (k : Int)), some (jI s), some (jI (x : Int))] [jI (a : Int), jI (c : Int), jO (m + 418)] 0 0 (M3, w.2) _
                          refine jWp.iast (pc' := 160) (j := c) mt rfl rfl (jtg hW.K418) (b32_id (by omega) (by omega)) (jlt hW.K418 (by omega)) ?_
                          show jWp 189 160 [some (jO m), some (jI (d : Int)), some (jI (a : Int)), some (jI (k : Int)), some (jI s), some (jI (x : Int))] [] 0 0 (jW (M3, w.2) (m + 418) c (a : Int)) _
                          refine jWp.blk mt 1 ?_
                          show _ ∧ jWp 189 161 [some (jO m), some (jI (d : Int)), some (jI (a : Int)), some (jI (k : Int)), some (jI s), some (jI (x : Int))] [jO m] 0 0 (jW (M3, w.2) (m + 418) c (a : Int)) _
                          refine ⟨rfl, ?_⟩
                          refine jWp.getR (pc' := 164) (o := (m + 419)) mt rfl rfl (jtg hW.K0) hW.R19 ?_
                          show jWp 189 164 [some (jO m), some (jI (d : Int)), some (jI (a : Int)), some (jI (k : Int)), some (jI s), some (jI (x : Int))] [jO (m + 419)] 0 0 (jW (M3, w.2) (m + 418) c (a : Int)) _
                          refine jWp.blk mt 1 ?_
                          show _ ∧ jWp 189 165 [some (jO m), some (jI (d : Int)), some (jI (a : Int)), some (jI (k : Int)), some (jI s), some (jI (x : Int))] [jO m, jO (m + 419)] 0 0 (jW (M3, w.2) (m + 418) c (a : Int)) _
                          refine ⟨rfl, ?_⟩
                          refine jWp.getI (pc' := 168) mt rfl rfl (jtg hW.K0) ?_
                          rw [show ((jW (M3, w.2) (m + 418) c (a : Int)).1 m 21) = (c : Int) from (((jW_a (by omega)).trans rfl).trans h321)]
                          show jWp 189 168 [some (jO m), some (jI (d : Int)), some (jI (a : Int)), some (jI (k : Int)), some (jI s), some (jI (x : Int))] [jI (c : Int), jO (m + 419)] 0 0 (jW (M3, w.2) (m + 418) c (a : Int)) _
                          refine jWp.blk mt 1 ?_
                          show jWp 189 169 [some (jO m), some (jI (d : Int)), some (jI (a : Int)), some (jI (k : Int)), some (jI s), some (jI (x : Int))] [jI (k : Int), jI (c : Int), jO (m + 419)] 0 0 (jW (M3, w.2) (m + 418) c (a : Int)) _
                          refine jWp.iast (pc' := 170) (j := c) mt rfl rfl (jtg hW.K419) (b32_id (by omega) (by omega)) (jlt hW.K419 (by omega)) ?_
                          show jWp 189 170 [some (jO m), some (jI (d : Int)), some (jI (a : Int)), some (jI (k : Int)), some (jI s), some (jI (x : Int))] [] 0 0 (jW (jW (M3, w.2) (m + 418) c (a : Int)) (m + 419) c (k : Int)) _
                          refine jWp.blk mt 1 ?_
                          show _ ∧ jWp 189 171 [some (jO m), some (jI (d : Int)), some (jI (a : Int)), some (jI (k : Int)), some (jI s), some (jI (x : Int))] [jO m] 0 0 (jW (jW (M3, w.2) (m + 418) c (a : Int)) (m + 419) c (k : Int)) _
                          refine ⟨rfl, ?_⟩
                          refine jWp.getR (pc' := 174) (o := (m + 420)) mt rfl rfl (jtg hW.K0) hW.R20 ?_
                          show jWp 189 174 [some (jO m), some (jI (d : Int)), some (jI (a : Int)), some (jI (k : Int)), some (jI s), some (jI (x : Int))] [jO (m + 420)] 0 0 (jW (jW (M3, w.2) (m + 418) c (a : Int)) (m + 419) c (k : Int)) _
                          refine jWp.blk mt 1 ?_
                          show _ ∧ jWp 189 175 [some (jO m), some (jI (d : Int)), some (jI (a : Int)), some (jI (k : Int)), some (jI s), some (jI (x : Int))] [jO m, jO (m + 420)] 0 0 (jW (jW (M3, w.2) (m + 418) c (a : Int)) (m + 419) c (k : Int)) _
                          refine ⟨rfl, ?_⟩
                          refine jWp.getI (pc' := 178) mt rfl rfl (jtg hW.K0) ?_
                          rw [show ((jW (jW (M3, w.2) (m + 418) c (a : Int)) (m + 419) c (k : Int)).1 m 21) = (c : Int) from (((jW_a (by omega)).trans ((jW_a (by omega)).trans rfl)).trans h321)]
                          show jWp 189 178 [some (jO m), some (jI (d : Int)), some (jI (a : Int)), some (jI (k : Int)), some (jI s), some (jI (x : Int))] [jI (c : Int), jO (m + 420)] 0 0 (jW (jW (M3, w.2) (m + 418) c (a : Int)) (m + 419) c (k : Int)) _
                          refine jWp.blk mt 1 ?_
                          show _ ∧ jWp 189 179 [some (jO m), some (jI (d : Int)), some (jI (a : Int)), some (jI (k : Int)), some (jI s), some (jI (x : Int))] [jO m, jI (c : Int), jO (m + 420)] 0 0 (jW (jW (M3, w.2) (m + 418) c (a : Int)) (m + 419) c (k : Int)) _
                          refine ⟨rfl, ?_⟩
                          refine jWp.getR (pc' := 182) (o := (m + 420)) mt rfl rfl (jtg hW.K0) hW.R20 ?_
                          show jWp 189 182 [some (jO m), some (jI (d : Int)), some (jI (a : Int)), some (jI (k : Int)), some (jI s), some (jI (x : Int))] [jO (m + 420), jI (c : Int), jO (m + 420)] 0 0 (jW (jW (M3, w.2) (m + 418) c (a : Int)) (m + 419) c (k : Int)) _
                          refine jWp.blk mt 1 ?_
                          show jWp 189 183 [some (jO m), some (jI (d : Int)), some (jI (a : Int)), some (jI (k : Int)), some (jI s), some (jI (x : Int))] [jI (a : Int), jO (m + 420), jI (c : Int), jO (m + 420)] 0 0 (jW (jW (M3, w.2) (m + 418) c (a : Int)) (m + 419) c (k : Int)) _
                          refine jWp.iald (pc' := 184) (j := a) mt rfl rfl (jird_of hW.K420) (b32_id (by omega) (by omega)) (jlt hW.K420 (by omega)) ?_
                          rw [show ((jW (jW (M3, w.2) (m + 418) c (a : Int)) (m + 419) c (k : Int)).1 (m + 420) a) = ((zL L2 a).2.2.2 : Int) from (((jW_a (by omega)).trans ((jW_a (by omega)).trans rfl)).trans h3a)]
                          show jWp 189 184 [some (jO m), some (jI (d : Int)), some (jI (a : Int)), some (jI (k : Int)), some (jI s), some (jI (x : Int))] [jI ((zL L2 a).2.2.2 : Int), jI (c : Int), jO (m + 420)] 0 0 (jW (jW (M3, w.2) (m + 418) c (a : Int)) (m + 419) c (k : Int)) _
                          refine jWp.blk mt 2 ?_
                          show jWp 189 186 [some (jO m), some (jI (d : Int)), some (jI (a : Int)), some (jI (k : Int)), some (jI s), some (jI (x : Int))] [jI (((zL L2 a).2.2.2 : Int) + 1), jI (c : Int), jO (m + 420)] 0 0 (jW (jW (M3, w.2) (m + 418) c (a : Int)) (m + 419) c (k : Int)) _
                          refine jWp.iast (pc' := 187) (j := c) mt rfl rfl (jtg hW.K420) (b32_id (by omega) (by omega)) (jlt hW.K420 (by omega)) ?_
                          show jWp 189 187 [some (jO m), some (jI (d : Int)), some (jI (a : Int)), some (jI (k : Int)), some (jI s), some (jI (x : Int))] [] 0 0 (jW (jW (jW (M3, w.2) (m + 418) c (a : Int)) (m + 419) c (k : Int)) (m + 420) c (((zL L2 a).2.2.2 : Int) + 1)) _
                          refine jWp.blk mt 2 ?_
                          show _ ∧ _ ∧ jWp 189 189 [some (jO m), some (jI (d : Int)), some (jI (a : Int)), some (jI (k : Int)), some (jI s), some (jI (x : Int))] [jO m, jO m] 0 0 (jW (jW (jW (M3, w.2) (m + 418) c (a : Int)) (m + 419) c (k : Int)) (m + 420) c (((zL L2 a).2.2.2 : Int) + 1)) _
                          refine ⟨rfl, rfl, ?_⟩
                          refine jWp.getI (pc' := 192) mt rfl rfl (jtg hW.K0) ?_
                          rw [show ((jW (jW (jW (M3, w.2) (m + 418) c (a : Int)) (m + 419) c (k : Int)) (m + 420) c (((zL L2 a).2.2.2 : Int) + 1)).1 m 21) = (c : Int) from (((jW_a (by omega)).trans ((jW_a (by omega)).trans ((jW_a (by omega)).trans rfl))).trans h321)]
                          show jWp 189 192 [some (jO m), some (jI (d : Int)), some (jI (a : Int)), some (jI (k : Int)), some (jI s), some (jI (x : Int))] [jI (c : Int), jO m] 0 0 (jW (jW (jW (M3, w.2) (m + 418) c (a : Int)) (m + 419) c (k : Int)) (m + 420) c (((zL L2 a).2.2.2 : Int) + 1)) _
                          refine jWp.blk mt 2 ?_
                          show jWp 189 194 [some (jO m), some (jI (d : Int)), some (jI (a : Int)), some (jI (k : Int)), some (jI s), some (jI (x : Int))] [jI ((c : Int) + 1), jO m] 0 0 (jW (jW (jW (M3, w.2) (m + 418) c (a : Int)) (m + 419) c (k : Int)) (m + 420) c (((zL L2 a).2.2.2 : Int) + 1)) _
                          refine jWp.putI (pc' := 197) mt rfl rfl (jtg hW.K0) ?_
                          show jWp 189 197 [some (jO m), some (jI (d : Int)), some (jI (a : Int)), some (jI (k : Int)), some (jI s), some (jI (x : Int))] [] 0 0 (jW (jW (jW (jW (M3, w.2) (m + 418) c (a : Int)) (m + 419) c (k : Int)) (m + 420) c (((zL L2 a).2.2.2 : Int) + 1)) m 21 ((c : Int) + 1)) _
                          refine jWp.blk mt 2 ?_
                          show jWp 189 47 [some (jO m), some (jI (d : Int)), some (jI (a : Int)), some (jI ((k : Int) + 1)), some (jI s), some (jI (x : Int))] [] 0 0 (jW (jW (jW (jW (M3, w.2) (m + 418) c (a : Int)) (m + 419) c (k : Int)) (m + 420) c (((zL L2 a).2.2.2 : Int) + 1)) m 21 ((c : Int) + 1)) _
                          refine jWp.le (l := [some (jO m), some (jI (d : Int)), some (jI (a : Int)), some (jI ((k : Int) + 1)), none, none]) (by exact ⟨rfl, rfl, rfl, rfl, trivial⟩) ?_
                          exact ih6 (k + 1) (c + 1) (L2 ++ [(zxF (zL L2 a).1 n k, a, k, (zL L2 a).2.2.2 + 1)]) (jW (jW (jW (jW (M3, w.2) (m + 418) c (a : Int)) (m + 419) c (k : Int)) (m + 420) c (((zL L2 a).2.2.2 : Int) + 1)) m 21 ((c : Int) + 1)).1 (by omega) (by rw [List.length_append, hc2]; rfl) (by omega) (mq_S (mq_W (mq_W (mq_W hmq3 (by omega)) (by omega)) (by omega)) (by decide)) (by
                have hs1 := hsx (by omega)
                refine zRL_n hRL3 ?_ (fun o ho => ((jW_f (by omega)).trans ((jW_f (by omega)).trans ((jW_f (by omega)).trans ((jW_f (by omega)).trans rfl))))) (fun o ho => ⟨((jW_a (by omega)).trans ((jW_a (by omega)).trans ((jW_a (by omega)).trans ((jW_k (by omega)).trans rfl)))), ((jW_a (by omega)).trans ((jW_a (by omega)).trans ((jW_k (by omega)).trans ((jW_a (by omega)).trans rfl)))), ((jW_a (by omega)).trans ((jW_k (by omega)).trans ((jW_a (by omega)).trans ((jW_a (by omega)).trans rfl))))⟩) (by rw [hc2]; exact hs1.2.2.1) ?_ ?_ ?_
                · rw [hc2]; exact jW_s
                · rw [hc2]; exact ((jW_a (by omega)).trans ((jW_a (by omega)).trans ((jW_a (by omega)).trans jW_s)))
                · rw [hc2]; exact ((jW_a (by omega)).trans ((jW_a (by omega)).trans jW_s))
                · rw [hc2]; exact (((jW_a (by omega)).trans jW_s)).trans (by show _ = (((zL L2 a).2.2.2 + 1 : Nat) : Int); omega)) (zBL_n hBL2 (by omega) (by omega) (by omega) (hsx (by omega)).2.1) ⟨by rw [List.length_append]; omega, by rw [zL_l hA2.1]; exact hA2.2⟩ (by
                have hs1 := hsx (by omega)
                rw [← hr2, show n - k = (n - (k + 1)) + 1 by omega]
                show _ = zbo n d (399 - a) (a + 1) (zbi n a (n - (k + 1)) (k + 1) (zba n a k L2))
                rw [zba_t ⟨hs1.2.1, fun o ho => hs1.2.2.2 o (by omega)⟩]) (by omega)
                      · have h17 : (x : Int) < (c : Int) := h17
                        refine jWp.blk mt 1 ?_
                        show jWp 189 107 [some (jO m), some (jI (d : Int)), some (jI (a : Int)), some (jI (k : Int)), some (jI s), some (jI (x : Int))] [jI s] 0 0 (M3, w.2) _
                        refine jWp.ifz (pc' := 110) mt rfl rfl (b32_id (by omega) (by omega)) (fun h19 => ?_) (fun h19 => ?_)
                        · have h19 : s = 0 := h19
                          refine jWp.blk mt 1 ?_
                          show jWp 189 147 [some (jO m), some (jI (d : Int)), some (jI (a : Int)), some (jI (k : Int)), some (jI s), some (jI (x : Int))] [jI s] 0 0 (M3, w.2) _
                          refine jWp.ifz (pc' := 150) mt rfl rfl (b32_id (by omega) (by omega)) (fun h20 => ?_) (fun h20 => ?_)
                          · have h20 : s = 0 := h20
                            refine jWp.blk mt 2 ?_
                            show jWp 189 47 [some (jO m), some (jI (d : Int)), some (jI (a : Int)), some (jI ((k : Int) + 1)), some (jI s), some (jI (x : Int))] [] 0 0 (M3, w.2) _
                            refine jWp.le (l := [some (jO m), some (jI (d : Int)), some (jI (a : Int)), some (jI ((k : Int) + 1)), none, none]) (by exact ⟨rfl, rfl, rfl, rfl, trivial⟩) ?_
                            exact ih6 (k + 1) c L2 M3 (by omega) hc2 (by omega) hmq3 hRL3 hBL2 hA2 (by rw [← hr2, show n - k = (n - (k + 1)) + 1 by omega]; show _ = zbo n d (399 - a) (a + 1) (zbi n a (n - (k + 1)) (k + 1) (zba n a k L2)); rw [zba_f (by rcases hs with g | g; exact absurd g.1 (by omega); exact g.2)]) (by omega)
                          · have h20 : s ≠ 0 := h20
                            refine jWp.blk mt 1 ?_
                            show _ ∧ jWp 189 151 [some (jO m), some (jI (d : Int)), some (jI (a : Int)), some (jI (k : Int)), some (jI s), some (jI (x : Int))] [jO m] 0 0 (M3, w.2) _
                            refine ⟨rfl, ?_⟩
                            refine jWp.getR (pc' := 154) (o := (m + 418)) mt rfl rfl (jtg hW.K0) hW.R18 ?_
                            show jWp 189 154 [some (jO m), some (jI (d : Int)), some (jI (a : Int)), some (jI (k : Int)), some (jI s), some (jI (x : Int))] [jO (m + 418)] 0 0 (M3, w.2) _
                            refine jWp.blk mt 1 ?_
                            show _ ∧ jWp 189 155 [some (jO m), some (jI (d : Int)), some (jI (a : Int)), some (jI (k : Int)), some (jI s), some (jI (x : Int))] [jO m, jO (m + 418)] 0 0 (M3, w.2) _
                            refine ⟨rfl, ?_⟩
                            refine jWp.getI (pc' := 158) mt rfl rfl (jtg hW.K0) ?_
                            rw [show ((M3, w.2).1 m 21) = (c : Int) from h321]
                            show jWp 189 158 [some (jO m), some (jI (d : Int)), some (jI (a : Int)), some (jI (k : Int)), some (jI s), some (jI (x : Int))] [jI (c : Int), jO (m + 418)] 0 0 (M3, w.2) _
                            refine jWp.blk mt 1 ?_
                            show jWp 189 159 [some (jO m), some (jI (d : Int)), some (jI (a : Int)), some (jI (k : Int)), some (jI s), some (jI (x : Int))] [jI (a : Int), jI (c : Int), jO (m + 418)] 0 0 (M3, w.2) _
                            refine jWp.iast (pc' := 160) (j := c) mt rfl rfl (jtg hW.K418) (b32_id (by omega) (by omega)) (jlt hW.K418 (by omega)) ?_
                            show jWp 189 160 [some (jO m), some (jI (d : Int)), some (jI (a : Int)), some (jI (k : Int)), some (jI s), some (jI (x : Int))] [] 0 0 (jW (M3, w.2) (m + 418) c (a : Int)) _
                            refine jWp.blk mt 1 ?_
                            show _ ∧ jWp 189 161 [some (jO m), some (jI (d : Int)), some (jI (a : Int)), some (jI (k : Int)), some (jI s), some (jI (x : Int))] [jO m] 0 0 (jW (M3, w.2) (m + 418) c (a : Int)) _
                            refine ⟨rfl, ?_⟩
                            refine jWp.getR (pc' := 164) (o := (m + 419)) mt rfl rfl (jtg hW.K0) hW.R19 ?_
                            show jWp 189 164 [some (jO m), some (jI (d : Int)), some (jI (a : Int)), some (jI (k : Int)), some (jI s), some (jI (x : Int))] [jO (m + 419)] 0 0 (jW (M3, w.2) (m + 418) c (a : Int)) _
                            refine jWp.blk mt 1 ?_
                            show _ ∧ jWp 189 165 [some (jO m), some (jI (d : Int)), some (jI (a : Int)), some (jI (k : Int)), some (jI s), some (jI (x : Int))] [jO m, jO (m + 419)] 0 0 (jW (M3, w.2) (m + 418) c (a : Int)) _
                            refine ⟨rfl, ?_⟩
                            refine jWp.getI (pc' := 168) mt rfl rfl (jtg hW.K0) ?_
                            rw [show ((jW (M3, w.2) (m + 418) c (a : Int)).1 m 21) = (c : Int) from (((jW_a (by omega)).trans rfl).trans h321)]
                            show jWp 189 168 [some (jO m), some (jI (d : Int)), some (jI (a : Int)), some (jI (k : Int)), some (jI s), some (jI (x : Int))] [jI (c : Int), jO (m + 419)] 0 0 (jW (M3, w.2) (m + 418) c (a : Int)) _
                            refine jWp.blk mt 1 ?_
                            show jWp 189 169 [some (jO m), some (jI (d : Int)), some (jI (a : Int)), some (jI (k : Int)), some (jI s), some (jI (x : Int))] [jI (k : Int), jI (c : Int), jO (m + 419)] 0 0 (jW (M3, w.2) (m + 418) c (a : Int)) _
                            refine jWp.iast (pc' := 170) (j := c) mt rfl rfl (jtg hW.K419) (b32_id (by omega) (by omega)) (jlt hW.K419 (by omega)) ?_
                            show jWp 189 170 [some (jO m), some (jI (d : Int)), some (jI (a : Int)), some (jI (k : Int)), some (jI s), some (jI (x : Int))] [] 0 0 (jW (jW (M3, w.2) (m + 418) c (a : Int)) (m + 419) c (k : Int)) _
                            refine jWp.blk mt 1 ?_
                            show _ ∧ jWp 189 171 [some (jO m), some (jI (d : Int)), some (jI (a : Int)), some (jI (k : Int)), some (jI s), some (jI (x : Int))] [jO m] 0 0 (jW (jW (M3, w.2) (m + 418) c (a : Int)) (m + 419) c (k : Int)) _
                            refine ⟨rfl, ?_⟩
                            refine jWp.getR (pc' := 174) (o := (m + 420)) mt rfl rfl (jtg hW.K0) hW.R20 ?_
                            show jWp 189 174 [some (jO m), some (jI (d : Int)), some (jI (a : Int)), some (jI (k : Int)), some (jI s), some (jI (x : Int))] [jO (m + 420)] 0 0 (jW (jW (M3, w.2) (m + 418) c (a : Int)) (m + 419) c (k : Int)) _
                            refine jWp.blk mt 1 ?_
                            show _ ∧ jWp 189 175 [some (jO m), some (jI (d : Int)), some (jI (a : Int)), some (jI (k : Int)), some (jI s), some (jI (x : Int))] [jO m, jO (m + 420)] 0 0 (jW (jW (M3, w.2) (m + 418) c (a : Int)) (m + 419) c (k : Int)) _
                            refine ⟨rfl, ?_⟩
                            refine jWp.getI (pc' := 178) mt rfl rfl (jtg hW.K0) ?_
                            rw [show ((jW (jW (M3, w.2) (m + 418) c (a : Int)) (m + 419) c (k : Int)).1 m 21) = (c : Int) from (((jW_a (by omega)).trans ((jW_a (by omega)).trans rfl)).trans h321)]
                            show jWp 189 178 [some (jO m), some (jI (d : Int)), some (jI (a : Int)), some (jI (k : Int)), some (jI s), some (jI (x : Int))] [jI (c : Int), jO (m + 420)] 0 0 (jW (jW (M3, w.2) (m + 418) c (a : Int)) (m + 419) c (k : Int)) _
                            refine jWp.blk mt 1 ?_
                            show _ ∧ jWp 189 179 [some (jO m), some (jI (d : Int)), some (jI (a : Int)), some (jI (k : Int)), some (jI s), some (jI (x : Int))] [jO m, jI (c : Int), jO (m + 420)] 0 0 (jW (jW (M3, w.2) (m + 418) c (a : Int)) (m + 419) c (k : Int)) _
                            refine ⟨rfl, ?_⟩
                            refine jWp.getR (pc' := 182) (o := (m + 420)) mt rfl rfl (jtg hW.K0) hW.R20 ?_
                            show jWp 189 182 [some (jO m), some (jI (d : Int)), some (jI (a : Int)), some (jI (k : Int)), some (jI s), some (jI (x : Int))] [jO (m + 420), jI (c : Int), jO (m + 420)] 0 0 (jW (jW (M3, w.2) (m + 418) c (a : Int)) (m + 419) c (k : Int)) _
                            refine jWp.blk mt 1 ?_
                            show jWp 189 183 [some (jO m), some (jI (d : Int)), some (jI (a : Int)), some (jI (k : Int)), some (jI s), some (jI (x : Int))] [jI (a : Int), jO (m + 420), jI (c : Int), jO (m + 420)] 0 0 (jW (jW (M3, w.2) (m + 418) c (a : Int)) (m + 419) c (k : Int)) _
                            refine jWp.iald (pc' := 184) (j := a) mt rfl rfl (jird_of hW.K420) (b32_id (by omega) (by omega)) (jlt hW.K420 (by omega)) ?_
                            rw [show ((jW (jW (M3, w.2) (m + 418) c (a : Int)) (m + 419) c (k : Int)).1 (m + 420) a) = ((zL L2 a).2.2.2 : Int) from (((jW_a (by omega)).trans ((jW_a (by omega)).trans rfl)).trans h3a)]
                            show jWp 189 184 [some (jO m), some (jI (d : Int)), some (jI (a : Int)), some (jI (k : Int)), some (jI s), some (jI (x : Int))] [jI ((zL L2 a).2.2.2 : Int), jI (c : Int), jO (m + 420)] 0 0 (jW (jW (M3, w.2) (m + 418) c (a : Int)) (m + 419) c (k : Int)) _
                            refine jWp.blk mt 2 ?_
                            show jWp 189 186 [some (jO m), some (jI (d : Int)), some (jI (a : Int)), some (jI (k : Int)), some (jI s), some (jI (x : Int))] [jI (((zL L2 a).2.2.2 : Int) + 1), jI (c : Int), jO (m + 420)] 0 0 (jW (jW (M3, w.2) (m + 418) c (a : Int)) (m + 419) c (k : Int)) _
                            refine jWp.iast (pc' := 187) (j := c) mt rfl rfl (jtg hW.K420) (b32_id (by omega) (by omega)) (jlt hW.K420 (by omega)) ?_
                            show jWp 189 187 [some (jO m), some (jI (d : Int)), some (jI (a : Int)), some (jI (k : Int)), some (jI s), some (jI (x : Int))] [] 0 0 (jW (jW (jW (M3, w.2) (m + 418) c (a : Int)) (m + 419) c (k : Int)) (m + 420) c (((zL L2 a).2.2.2 : Int) + 1)) _
                            refine jWp.blk mt 2 ?_
                            show _ ∧ _ ∧ jWp 189 189 [some (jO m), some (jI (d : Int)), some (jI (a : Int)), some (jI (k : Int)), some (jI s), some (jI (x : Int))] [jO m, jO m] 0 0 (jW (jW (jW (M3, w.2) (m + 418) c (a : Int)) (m + 419) c (k : Int)) (m + 420) c (((zL L2 a).2.2.2 : Int) + 1)) _
                            refine ⟨rfl, rfl, ?_⟩
                            refine jWp.getI (pc' := 192) mt rfl rfl (jtg hW.K0) ?_
                            rw [show ((jW (jW (jW (M3, w.2) (m + 418) c (a : Int)) (m + 419) c (k : Int)) (m + 420) c (((zL L2 a).2.2.2 : Int) + 1)).1 m 21) = (c : Int) from (((jW_a (by omega)).trans ((jW_a (by omega)).trans ((jW_a (by omega)).trans rfl))).trans h321)]
                            show jWp 189 192 [some (jO m), some (jI (d : Int)), some (jI (a : Int)), some (jI (k : Int)), some (jI s), some (jI (x : Int))] [jI (c : Int), jO m] 0 0 (jW (jW (jW (M3, w.2) (m + 418) c (a : Int)) (m + 419) c (k : Int)) (m + 420) c (((zL L2 a).2.2.2 : Int) + 1)) _
                            refine jWp.blk mt 2 ?_
                            show jWp 189 194 [some (jO m), some (jI (d : Int)), some (jI (a : Int)), some (jI (k : Int)), some (jI s), some (jI (x : Int))] [jI ((c : Int) + 1), jO m] 0 0 (jW (jW (jW (M3, w.2) (m + 418) c (a : Int)) (m + 419) c (k : Int)) (m + 420) c (((zL L2 a).2.2.2 : Int) + 1)) _
                            refine jWp.putI (pc' := 197) mt rfl rfl (jtg hW.K0) ?_
                            show jWp 189 197 [some (jO m), some (jI (d : Int)), some (jI (a : Int)), some (jI (k : Int)), some (jI s), some (jI (x : Int))] [] 0 0 (jW (jW (jW (jW (M3, w.2) (m + 418) c (a : Int)) (m + 419) c (k : Int)) (m + 420) c (((zL L2 a).2.2.2 : Int) + 1)) m 21 ((c : Int) + 1)) _
                            refine jWp.blk mt 2 ?_
                            show jWp 189 47 [some (jO m), some (jI (d : Int)), some (jI (a : Int)), some (jI ((k : Int) + 1)), some (jI s), some (jI (x : Int))] [] 0 0 (jW (jW (jW (jW (M3, w.2) (m + 418) c (a : Int)) (m + 419) c (k : Int)) (m + 420) c (((zL L2 a).2.2.2 : Int) + 1)) m 21 ((c : Int) + 1)) _
                            refine jWp.le (l := [some (jO m), some (jI (d : Int)), some (jI (a : Int)), some (jI ((k : Int) + 1)), none, none]) (by exact ⟨rfl, rfl, rfl, rfl, trivial⟩) ?_
                            exact ih6 (k + 1) (c + 1) (L2 ++ [(zxF (zL L2 a).1 n k, a, k, (zL L2 a).2.2.2 + 1)]) (jW (jW (jW (jW (M3, w.2) (m + 418) c (a : Int)) (m + 419) c (k : Int)) (m + 420) c (((zL L2 a).2.2.2 : Int) + 1)) m 21 ((c : Int) + 1)).1 (by omega) (by rw [List.length_append, hc2]; rfl) (by omega) (mq_S (mq_W (mq_W (mq_W hmq3 (by omega)) (by omega)) (by omega)) (by decide)) (by
                have hs1 := hsx (by omega)
                refine zRL_n hRL3 ?_ (fun o ho => ((jW_f (by omega)).trans ((jW_f (by omega)).trans ((jW_f (by omega)).trans ((jW_f (by omega)).trans rfl))))) (fun o ho => ⟨((jW_a (by omega)).trans ((jW_a (by omega)).trans ((jW_a (by omega)).trans ((jW_k (by omega)).trans rfl)))), ((jW_a (by omega)).trans ((jW_a (by omega)).trans ((jW_k (by omega)).trans ((jW_a (by omega)).trans rfl)))), ((jW_a (by omega)).trans ((jW_k (by omega)).trans ((jW_a (by omega)).trans ((jW_a (by omega)).trans rfl))))⟩) (by rw [hc2]; exact hs1.2.2.1) ?_ ?_ ?_
                · rw [hc2]; exact jW_s
                · rw [hc2]; exact ((jW_a (by omega)).trans ((jW_a (by omega)).trans ((jW_a (by omega)).trans jW_s)))
                · rw [hc2]; exact ((jW_a (by omega)).trans ((jW_a (by omega)).trans jW_s))
                · rw [hc2]; exact (((jW_a (by omega)).trans jW_s)).trans (by show _ = (((zL L2 a).2.2.2 + 1 : Nat) : Int); omega)) (zBL_n hBL2 (by omega) (by omega) (by omega) (hsx (by omega)).2.1) ⟨by rw [List.length_append]; omega, by rw [zL_l hA2.1]; exact hA2.2⟩ (by
                have hs1 := hsx (by omega)
                rw [← hr2, show n - k = (n - (k + 1)) + 1 by omega]
                show _ = zbo n d (399 - a) (a + 1) (zbi n a (n - (k + 1)) (k + 1) (zba n a k L2))
                rw [zba_t ⟨hs1.2.1, fun o ho => hs1.2.2.2 o (by omega)⟩]) (by omega)
                        · have h19 : s ≠ 0 := h19
                          refine jWp.blk mt 1 ?_
                          show _ ∧ jWp 189 111 [some (jO m), some (jI (d : Int)), some (jI (a : Int)), some (jI (k : Int)), some (jI s), some (jI (x : Int))] [jO m] 0 0 (M3, w.2) _
                          refine ⟨rfl, ?_⟩
                          refine jWp.getR (pc' := 114) (o := (m + 17)) mt rfl rfl (jtg hW.K0) hW.R17 ?_
                          show jWp 189 114 [some (jO m), some (jI (d : Int)), some (jI (a : Int)), some (jI (k : Int)), some (jI s), some (jI (x : Int))] [jO (m + 17)] 0 0 (M3, w.2) _
                          refine jWp.blk mt 1 ?_
                          show jWp 189 116 [some (jO m), some (jI (d : Int)), some (jI (a : Int)), some (jI (k : Int)), some (jI s), some (jI (x : Int))] [jI (x : Int), jO (m + 17)] 0 0 (M3, w.2) _
                          refine jWp.aald (pc' := 117) (j := x) (o := (m + (18 + x))) mt rfl rfl (jrg hW.K17 (by decide) (by decide)) (b32_id (by omega) (by omega)) (jlt hW.K17 (by omega)) (hW.RFo x (by omega)) ?_
                          show jWp 189 117 [some (jO m), some (jI (d : Int)), some (jI (a : Int)), some (jI (k : Int)), some (jI s), some (jI (x : Int))] [jO (m + (18 + x))] 0 0 (M3, w.2) _
                          refine jWp.blk mt 1 ?_
                          show _ ∧ jWp 189 118 [some (jO m), some (jI (d : Int)), some (jI (a : Int)), some (jI (k : Int)), some (jI s), some (jI (x : Int))] [jO m, jO (m + (18 + x))] 0 0 (M3, w.2) _
                          refine ⟨rfl, ?_⟩
                          refine jWp.getR (pc' := 121) (o := (m + 17)) mt rfl rfl (jtg hW.K0) hW.R17 ?_
                          show jWp 189 121 [some (jO m), some (jI (d : Int)), some (jI (a : Int)), some (jI (k : Int)), some (jI s), some (jI (x : Int))] [jO (m + 17), jO (m + (18 + x))] 0 0 (M3, w.2) _
                          refine jWp.blk mt 1 ?_
                          show _ ∧ jWp 189 122 [some (jO m), some (jI (d : Int)), some (jI (a : Int)), some (jI (k : Int)), some (jI s), some (jI (x : Int))] [jO m, jO (m + 17), jO (m + (18 + x))] 0 0 (M3, w.2) _
                          refine ⟨rfl, ?_⟩
                          refine jWp.getI (pc' := 125) mt rfl rfl (jtg hW.K0) ?_
                          rw [show ((M3, w.2).1 m 21) = (c : Int) from h321]
                          show jWp 189 125 [some (jO m), some (jI (d : Int)), some (jI (a : Int)), some (jI (k : Int)), some (jI s), some (jI (x : Int))] [jI (c : Int), jO (m + 17), jO (m + (18 + x))] 0 0 (M3, w.2) _
                          refine jWp.aald (pc' := 126) (j := c) (o := (m + (18 + c))) mt rfl rfl (jrg hW.K17 (by decide) (by decide)) (b32_id (by omega) (by omega)) (jlt hW.K17 (by omega)) (hW.RFo c (by omega)) ?_
                          show jWp 189 126 [some (jO m), some (jI (d : Int)), some (jI (a : Int)), some (jI (k : Int)), some (jI s), some (jI (x : Int))] [jO (m + (18 + c)), jO (m + (18 + x))] 0 0 (M3, w.2) _
                          refine jWp.calls (as := [jO (m + (18 + x)), jO (m + (18 + c))]) (rest := []) mt rfl rfl rfl rfl ?_
                          refine jCall.mono (E_areAlike (w := (M3, w.2)) (q := m + (18 + x)) (p := m + (18 + c)) (n := n) (hW.KF x (by omega)) (hW.KF c (by omega)) (zeq_S (hRL3.2 x (by omega)).1 (hBL2.2.2.2 x (by omega)).1.S) (hSn (by omega))) (fun v9 w9 h9 => ?_)
                          rcases h9 with ⟨rfl, h9, h21⟩ | ⟨rfl, h9, h21⟩ <;> subst w9
                          · have h21 : zal (M3 (m + (18 + x))) (M3 (m + (18 + c))) n := h21
                            show jWp 189 129 [some (jO m), some (jI (d : Int)), some (jI (a : Int)), some (jI (k : Int)), some (jI s), some (jI (x : Int))] [jI 1] 0 0 (M3, w.2) _
                            refine jWp.ifc (b := true) mt rfl (by decide) rfl ?_
                            show jWp 189 136 [some (jO m), some (jI (d : Int)), some (jI (a : Int)), some (jI (k : Int)), some (jI s), some (jI (x : Int))] [] 0 0 (M3, w.2) _
                            refine jWp.blk mt 4 ?_
                            show jWp 189 96 [some (jO m), some (jI (d : Int)), some (jI (a : Int)), some (jI (k : Int)), some (jI 0), some (jI ((x : Int) + 1))] [] 0 0 (M3, w.2) _
                            refine jWp.le (l := [some (jO m), some (jI (d : Int)), some (jI (a : Int)), some (jI (k : Int)), some (jI 0), some (jI ((x : Int) + 1))]) (by exact ⟨rfl, rfl, rfl, rfl, rfl, rfl, trivial⟩) ?_
                            exact ih16 (x + 1) 0 (by omega) (by have hs1 := hsx (by omega); exact Or.inr ⟨rfl, fun g => g.2 x (by omega) ((zal_c hn4 (hRL3.2 x (by omega)).1 hs1.2.2.1).mp (by assumption))⟩) (by omega)
                          · have h21 : ¬ (zal (M3 (m + (18 + x))) (M3 (m + (18 + c))) n) := h21
                            show jWp 189 129 [some (jO m), some (jI (d : Int)), some (jI (a : Int)), some (jI (k : Int)), some (jI s), some (jI (x : Int))] [jI 0] 0 0 (M3, w.2) _
                            refine jWp.ifc (b := false) mt rfl (by decide) rfl ?_
                            show jWp 189 132 [some (jO m), some (jI (d : Int)), some (jI (a : Int)), some (jI (k : Int)), some (jI s), some (jI (x : Int))] [] 0 0 (M3, w.2) _
                            refine jWp.blk mt 5 ?_
                            show jWp 189 96 [some (jO m), some (jI (d : Int)), some (jI (a : Int)), some (jI (k : Int)), some (jI 1), some (jI ((x : Int) + 1))] [] 0 0 (M3, w.2) _
                            refine jWp.le (l := [some (jO m), some (jI (d : Int)), some (jI (a : Int)), some (jI (k : Int)), some (jI 1), some (jI ((x : Int) + 1))]) (by exact ⟨rfl, rfl, rfl, rfl, rfl, rfl, trivial⟩) ?_
                            exact ih16 (x + 1) 1 (by omega) (by have hs1 := hsx (by omega); exact Or.inl ⟨rfl, hs1.2.1, hs1.2.2.1, fun y hy => by rcases Nat.lt_or_ge y x with e | e; exact hs1.2.2.2 y e; rw [show y = x by omega]; exact fun g => absurd ((zal_c hn4 (hRL3.2 x (by omega)).1 hs1.2.2.1).mpr g) (by assumption)⟩) (by omega)
                  refine jWp.le (l := [some (jO m), some (jI (d : Int)), some (jI (a : Int)), some (jI (k : Int)), some (jI 0), some (jI 0)]) (by exact ⟨rfl, rfl, rfl, rfl, rfl, rfl, trivial⟩) ?_
                  exact lp15 _ 0 0 (by omega) (Or.inr ⟨rfl, fun g => hcan g.1⟩) (Nat.lt_succ_self _)
          refine jWp.le (l := [some (jO m), some (jI (d : Int)), some (jI (a : Int)), some (jI 0), none, none]) (by exact ⟨rfl, rfl, rfl, rfl, trivial⟩) ?_
          exact lp5 _ 0 c1 L1 M1 (by omega) hc1 (by omega) hmq1 hRL1 hBL1 ⟨by omega, by omega⟩ (by rw [← hr1, show 400 - a = (399 - a) + 1 by omega, zbo_t ⟨by omega, by omega⟩]; rfl) (Nat.lt_succ_self _)
  refine jWp.le (l := [some (jO m), some (jI (d : Int)), some (jI 0), none, none, none]) (by exact ⟨rfl, rfl, rfl, trivial⟩) ?_
  exact lp1 _ 0 1 [((w.1 (m + 1)), 0, 0, 0)] (jW (jW (kA w (m + (18 + 0)) T9) (m + 420) 0 0) m 21 1).1 rfl (by omega) (mq_S (mq_W (mq_A mq_0 (by omega)) (by omega)) (by decide)) ⟨jW_s, fun o ho => by
    have e : o = 0 := by simp only [List.length_cons, List.length_nil] at ho; omega
    subst e
    refine ⟨?_, ((jW_a (by omega)).trans jW_s), fun g => absurd g (by omega)⟩
    rw [show (jW (jW (kA w (m + (18 + 0)) T9) (m + 420) 0 0) m 21 1).1 (m + (18 + 0)) = T9 from ((jW_f (by omega)).trans ((jW_f (by omega)).trans kA_fs))]
    exact hT9⟩ (zBL_0 hQ) rfl (Nat.lt_succ_self _)
end
