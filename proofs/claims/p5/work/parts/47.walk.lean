/-- what a statement does to a seed -/
noncomputable def zdo (c i j v : Int) (q : Nat → Int) : Option (Nat → Int) :=
  if c = 110 then (if 2 ≤ i ∧ i ≤ 4 then some (zNw i.toNat) else none)
  else if ¬ (0 ≤ i ∧ i < q 0) then none
  else if c = 109 then @ite (Option (Nat → Int)) (zcan q (q 0).toNat i.toNat) (Classical.propDecidable _) (some (zxF q (q 0).toNat i.toNat)) none
  else if c = 115 then (if 0 < j then some (zBg (zset q (17 + i.toNat) j)) else none)
  else if ¬ (0 ≤ j ∧ j < q 0) ∨ i = j then none
  else if c = 98 then some (zBg (zset (zset q (1 + (4 * i.toNat + j.toNat)) v) (1 + (4 * j.toNat + i.toNat)) (-v)))
  else some (zSp q i.toNat j.toNat)
theorem zdo_n {i j v : Int} {q : Nat → Int} : zdo 110 i j v q = if 2 ≤ i ∧ i ≤ 4 then some (zNw i.toNat) else none := if_pos rfl
theorem zdo_i {c i j v : Int} {q : Nat → Int} (hc : c ≠ 110) (h : ¬ (0 ≤ i ∧ i < q 0)) : zdo c i j v q = none := (if_neg hc).trans (if_pos h)
theorem zdo_m {i j v : Int} {q : Nat → Int} (h : 0 ≤ i ∧ i < q 0) : zdo 109 i j v q = @ite (Option (Nat → Int)) (zcan q (q 0).toNat i.toNat) (Classical.propDecidable _) (some (zxF q (q 0).toNat i.toNat)) none := (if_neg (by decide)).trans ((if_neg (fun g => g h)).trans (if_pos rfl))
theorem zdo_s {i j v : Int} {q : Nat → Int} (h : 0 ≤ i ∧ i < q 0) : zdo 115 i j v q = if 0 < j then some (zBg (zset q (17 + i.toNat) j)) else none := (if_neg (by decide)).trans ((if_neg (fun g => g h)).trans ((if_neg (by decide)).trans (if_pos rfl)))
theorem zdo_j {c i j v : Int} {q : Nat → Int} (h0 : c ≠ 110) (h1 : c ≠ 109) (h2 : c ≠ 115) (h : 0 ≤ i ∧ i < q 0) (g : ¬ (0 ≤ j ∧ j < q 0) ∨ i = j) : zdo c i j v q = none := (if_neg h0).trans ((if_neg (fun g => g h)).trans ((if_neg h1).trans ((if_neg h2).trans (if_pos g))))
theorem zdo_b {i j v : Int} {q : Nat → Int} (h : 0 ≤ i ∧ i < q 0) (g : ¬ (¬ (0 ≤ j ∧ j < q 0) ∨ i = j)) : zdo 98 i j v q = some (zBg (zset (zset q (1 + (4 * i.toNat + j.toNat)) v) (1 + (4 * j.toNat + i.toNat)) (-v))) := (if_neg (by decide)).trans ((if_neg (fun g => g h)).trans ((if_neg (by decide)).trans ((if_neg (by decide)).trans ((if_neg g).trans (if_pos rfl)))))
theorem zdo_w {i j v : Int} {q : Nat → Int} (h : 0 ≤ i ∧ i < q 0) (g : ¬ (¬ (0 ≤ j ∧ j < q 0) ∨ i = j)) : zdo 119 i j v q = some (zSp q i.toNat j.toNat) := (if_neg (by decide)).trans ((if_neg (fun g => g h)).trans ((if_neg (by decide)).trans ((if_neg (by decide)).trans ((if_neg g).trans (if_neg (by decide))))))
def zcd (c : Int) : Prop := c = 110 ∨ c = 109 ∨ c = 115 ∨ c = 119 ∨ c = 98
/-- a statement leads from seeds to seeds -/
theorem zdo_Q {c i j v : Int} {q q' : Nat → Int} {n : Nat} (hq : zQ q n) (hc : zcd c) (hj : c = 115 → j ≤ 9) (hv : c = 98 → -9 ≤ v ∧ v ≤ 9) (h : zdo c i j v q = some q') : ∃ n', zQ q' n' := by
  have h0 := hq.S.n0
  have hn := hq.S.n4
  by_cases e : c = 110
  · subst e
    rw [zdo_n] at h
    split at h
    · cases h
      exact ⟨_, zQ_new (by omega) (by omega)⟩
    · cases h
  · by_cases hi : 0 ≤ i ∧ i < q 0
    · rcases hc with hc | rfl | rfl | rfl | rfl
      · exact absurd hc e
      · rw [zdo_m hi] at h
        by_cases g : zcan q (q 0).toNat i.toNat
        · rw [if_pos g] at h
          cases h
          rw [show (q 0).toNat = n by omega] at g ⊢
          exact ⟨n, zQ_x hq (by omega) g⟩
        · rw [if_neg g] at h
          cases h
      · rw [zdo_s hi] at h
        split at h
        · cases h
          exact ⟨n, zQ_st hq (by omega) ⟨by omega, hj rfl⟩⟩
        · cases h
      · by_cases g : ¬ (0 ≤ j ∧ j < q 0) ∨ i = j
        · rw [zdo_j (by decide) (by decide) (by decide) hi g] at h
          cases h
        · rw [zdo_w hi g] at h
          cases h
          exact ⟨n, zQ_sw hq (by omega) (by omega)⟩
      · by_cases g : ¬ (0 ≤ j ∧ j < q 0) ∨ i = j
        · rw [zdo_j (by decide) (by decide) (by decide) hi g] at h
          cases h
        · rw [zdo_b hi g] at h
          cases h
          exact ⟨n, zQ_tb hq (by omega) (by omega) (by omega) (hv rfl)⟩
    · rw [zdo_i e hi] at h
      cases h
/-- the same statement on seeds that agree -/
theorem zdo_c {c i j v : Int} {S q : Nat → Int} {n : Nat} (hq : zQ q n) (hc : zcd c) (h : zeq S q) : (zdo c i j v S = none ∧ zdo c i j v q = none) ∨ ∃ S' q', zdo c i j v S = some S' ∧ zdo c i j v q = some q' ∧ zeq S' q' := by
  have h0 := hq.S.n0
  have hn := hq.S.n4
  have e0 : S 0 = q 0 := h 0 (by omega)
  by_cases e : c = 110
  · subst e
    rw [zdo_n, zdo_n]
    split
    · exact Or.inr ⟨_, _, rfl, rfl, fun _ _ => rfl⟩
    · exact Or.inl ⟨rfl, rfl⟩
  · by_cases hi : 0 ≤ i ∧ i < q 0
    · have hi' : 0 ≤ i ∧ i < S 0 := by omega
      rcases hc with hc | rfl | rfl | rfl | rfl
      · exact absurd hc e
      · rw [zdo_m hi, zdo_m hi', e0, show (q 0).toNat = n by omega]
        by_cases g : zcan q n i.toNat
        · rw [if_pos g, if_pos ((zcan_q h hn (by omega)).mpr g)]
          exact Or.inr ⟨_, _, rfl, rfl, zxF_c h hn (by omega)⟩
        · rw [if_neg g, if_neg (fun g2 => g ((zcan_q h hn (by omega)).mp g2))]
          exact Or.inl ⟨rfl, rfl⟩
      · rw [zdo_s hi, zdo_s hi']
        split
        · exact Or.inr ⟨_, _, rfl, rfl, zBg_c (zset_c h)⟩
        · exact Or.inl ⟨rfl, rfl⟩
      · by_cases g : ¬ (0 ≤ j ∧ j < q 0) ∨ i = j
        · rw [zdo_j (by decide) (by decide) (by decide) hi g, zdo_j (by decide) (by decide) (by decide) hi' (by omega)]
          exact Or.inl ⟨rfl, rfl⟩
        · rw [zdo_w hi g, zdo_w hi' (by omega)]
          exact Or.inr ⟨_, _, rfl, rfl, zSp_c (by omega) (by omega) h⟩
      · by_cases g : ¬ (0 ≤ j ∧ j < q 0) ∨ i = j
        · rw [zdo_j (by decide) (by decide) (by decide) hi g, zdo_j (by decide) (by decide) (by decide) hi' (by omega)]
          exact Or.inl ⟨rfl, rfl⟩
        · rw [zdo_b hi g, zdo_b hi' (by omega)]
          exact Or.inr ⟨_, _, rfl, rfl, zBg_c (zset_c (zset_c h))⟩
    · rw [zdo_i e hi, zdo_i e (by omega)]
      exact Or.inl ⟨rfl, rfl⟩
/-- what doing a statement works with -/
def zdf (w : jS) (m : Nat) (w1 : jS) : Prop := w1.2 = w.2 ∧ (∀ a, a ≠ m → a ≠ m + 6 → a ≠ m + 16 → w1.1 a = w.1 a) ∧ ∀ j, j ≠ 11 → j ≠ 12 → w1.1 m j = w.1 m j
theorem zdf_A {w : jS} {m : Nat} {T : Nat → Int} : zdf w m (kA w (m + 16) T) := ⟨rfl, fun a _ _ h => kA_f h, fun j _ _ => kA_a (by omega)⟩
theorem zdf_0 {w : jS} {m : Nat} : zdf w m w := ⟨rfl, fun _ _ _ _ => rfl, fun _ _ _ => rfl⟩
theorem zeq_0 {S : Nat → Int} : zeq S S := fun _ _ => rfl
set_option maxHeartbeats 4000000 in
set_option maxRecDepth 20000 in
theorem E_isDone {w : jS} {m : Nat} (hW : MW w.2 m) {n : Nat} {c : Int} (hQ : zQ (w.1 (m + 16)) n) (hc : zcd c) (h0n : 0 ≤ w.1 (m + 422) 0 ∧ w.1 (m + 422) 0 ≤ 9) (h1n : c = 115 ∨ c = 119 ∨ c = 98 → 0 ≤ w.1 (m + 422) 1 ∧ w.1 (m + 422) 1 ≤ 9) (h2n : c = 98 → -9 ≤ w.1 (m + 422) 2 ∧ w.1 (m + 422) 2 ≤ 9) : jCall 205 [jO m, jI c] w (fun v w1 => zdf w m w1 ∧ ((v = some (jI 1) ∧ ∃ q, zdo c (w.1 (m + 422) 0) (w.1 (m + 422) 1) (w.1 (m + 422) 2) (w.1 (m + 16)) = some q ∧ zeq (w1.1 (m + 16)) q) ∨ (v = some (jI 0) ∧ zdo c (w.1 (m + 422) 0) (w.1 (m + 422) 1) (w.1 (m + 422) 2) (w.1 (m + 16)) = none))) := by
  have mt : jtb 205 = jT205 := rfl
  have hcd : c = 110 ∨ c = 109 ∨ c = 115 ∨ c = 119 ∨ c = 98 := hc
  have hcr : 98 ≤ c ∧ c ≤ 119 := by omega
  have hn4 := hQ.S.n4
  show jWp 205 0 [some (jO m), some (jI c), none, none] [] 0 0 w _
  refine jWp.blk mt 1 ?_
  show _ ∧ jWp 205 1 [some (jO m), some (jI c), none, none] [jO m] 0 0 w _
  refine ⟨rfl, ?_⟩
  refine jWp.getR (pc' := 4) (o := (m + 422)) mt rfl rfl (jtg hW.K0) hW.R26 ?_
  show jWp 205 4 [some (jO m), some (jI c), none, none] [jO (m + 422)] 0 0 w _
  refine jWp.blk mt 1 ?_
  show jWp 205 5 [some (jO m), some (jI c), none, none] [jI 0, jO (m + 422)] 0 0 w _
  refine jWp.iald (pc' := 6) (j := 0) mt rfl rfl (jird_of hW.K422) (by decide) (jlt hW.K422 (by decide)) ?_
  show jWp 205 6 [some (jO m), some (jI c), none, none] [jI (w.1 (m + 422) 0)] 0 0 w _
  refine jWp.blk mt 2 ?_
  show _ ∧ jWp 205 8 [some (jO m), some (jI c), some (jI (w.1 (m + 422) 0)), none] [jO m] 0 0 w _
  refine ⟨rfl, ?_⟩
  refine jWp.getR (pc' := 11) (o := (m + 422)) mt rfl rfl (jtg hW.K0) hW.R26 ?_
  show jWp 205 11 [some (jO m), some (jI c), some (jI (w.1 (m + 422) 0)), none] [jO (m + 422)] 0 0 w _
  refine jWp.blk mt 1 ?_
  show jWp 205 12 [some (jO m), some (jI c), some (jI (w.1 (m + 422) 0)), none] [jI 1, jO (m + 422)] 0 0 w _
  refine jWp.iald (pc' := 13) (j := 1) mt rfl rfl (jird_of hW.K422) (by decide) (jlt hW.K422 (by decide)) ?_
  show jWp 205 13 [some (jO m), some (jI c), some (jI (w.1 (m + 422) 0)), none] [jI (w.1 (m + 422) 1)] 0 0 w _
  refine jWp.blk mt 3 ?_
  show jWp 205 17 [some (jO m), some (jI c), some (jI (w.1 (m + 422) 0)), some (jI (w.1 (m + 422) 1))] [jI 110, jI c] 0 0 w _
  refine jWp.icmp (pc' := 20) mt rfl rfl (b32_id (by omega) (by omega)) (show b32 110 = 110 by decide) (fun h1 => ?_) (fun h1 => ?_)
  · have h1 : c ≠ 110 := h1
    refine jWp.blk mt 1 ?_
    show _ ∧ jWp 205 56 [some (jO m), some (jI c), some (jI (w.1 (m + 422) 0)), some (jI (w.1 (m + 422) 1))] [jO m] 0 0 w _
    refine ⟨rfl, ?_⟩
    refine jWp.getR (pc' := 59) (o := (m + 16)) mt rfl rfl (jtg hW.K0) hW.R16 ?_
    show jWp 205 59 [some (jO m), some (jI c), some (jI (w.1 (m + 422) 0)), some (jI (w.1 (m + 422) 1))] [jO (m + 16)] 0 0 w _
    refine jWp.blk mt 1 ?_
    show jWp 205 60 [some (jO m), some (jI c), some (jI (w.1 (m + 422) 0)), some (jI (w.1 (m + 422) 1))] [jI (w.1 (m + 422) 0), jO (m + 16)] 0 0 w _
    refine jWp.calls (as := [jO (m + 16), jI (w.1 (m + 422) 0)]) (rest := []) mt rfl rfl rfl rfl ?_
    refine jCall.mono ((by have h := E_isIn (w := w) (q := m + 16) (n := n) (i := (w.1 (m + 422) 0)) hW.K16 hQ.S.n0 hQ.S.n4 (by constructor <;> omega); exact h)) (fun v9 w9 h9 => ?_)
    rcases h9 with ⟨rfl, h9, h2⟩ | ⟨rfl, h9, h2⟩ <;> subst w9
    · have h2 : 0 ≤ (w.1 (m + 422) 0) ∧ (w.1 (m + 422) 0) < (n : Int) := h2
      show jWp 205 63 [some (jO m), some (jI c), some (jI (w.1 (m + 422) 0)), some (jI (w.1 (m + 422) 1))] [jI 1] 0 0 w _
      refine jWp.ifc (b := true) mt rfl (by decide) rfl ?_
      show jWp 205 68 [some (jO m), some (jI c), some (jI (w.1 (m + 422) 0)), some (jI (w.1 (m + 422) 1))] [] 0 0 w _
      refine jWp.blk mt 2 ?_
      show jWp 205 71 [some (jO m), some (jI c), some (jI (w.1 (m + 422) 0)), some (jI (w.1 (m + 422) 1))] [jI 109, jI c] 0 0 w _
      refine jWp.icmp (pc' := 74) mt rfl rfl (b32_id (by omega) (by omega)) (show b32 109 = 109 by decide) (fun h3 => ?_) (fun h3 => ?_)
      · have h3 : c ≠ 109 := h3
        refine jWp.blk mt 2 ?_
        show jWp 205 87 [some (jO m), some (jI c), some (jI (w.1 (m + 422) 0)), some (jI (w.1 (m + 422) 1))] [jI 115, jI c] 0 0 w _
        refine jWp.icmp (pc' := 90) mt rfl rfl (b32_id (by omega) (by omega)) (show b32 115 = 115 by decide) (fun h4 => ?_) (fun h4 => ?_)
        · have h4 : c ≠ 115 := h4
          refine jWp.blk mt 1 ?_
          show _ ∧ jWp 205 120 [some (jO m), some (jI c), some (jI (w.1 (m + 422) 0)), some (jI (w.1 (m + 422) 1))] [jO m] 0 0 w _
          refine ⟨rfl, ?_⟩
          refine jWp.getR (pc' := 123) (o := (m + 16)) mt rfl rfl (jtg hW.K0) hW.R16 ?_
          show jWp 205 123 [some (jO m), some (jI c), some (jI (w.1 (m + 422) 0)), some (jI (w.1 (m + 422) 1))] [jO (m + 16)] 0 0 w _
          refine jWp.blk mt 1 ?_
          show jWp 205 124 [some (jO m), some (jI c), some (jI (w.1 (m + 422) 0)), some (jI (w.1 (m + 422) 1))] [jI (w.1 (m + 422) 1), jO (m + 16)] 0 0 w _
          refine jWp.calls (as := [jO (m + 16), jI (w.1 (m + 422) 1)]) (rest := []) mt rfl rfl rfl rfl ?_
          refine jCall.mono ((by have h := E_isIn (w := w) (q := m + 16) (n := n) (i := (w.1 (m + 422) 1)) hW.K16 hQ.S.n0 hQ.S.n4 (by constructor <;> omega); exact h)) (fun v9 w9 h9 => ?_)
          rcases h9 with ⟨rfl, h9, h5⟩ | ⟨rfl, h9, h5⟩ <;> subst w9
          · have h5 : 0 ≤ (w.1 (m + 422) 1) ∧ (w.1 (m + 422) 1) < (n : Int) := h5
            show jWp 205 127 [some (jO m), some (jI c), some (jI (w.1 (m + 422) 0)), some (jI (w.1 (m + 422) 1))] [jI 1] 0 0 w _
            refine jWp.ifc (b := false) mt rfl (by decide) rfl ?_
            show jWp 205 130 [some (jO m), some (jI c), some (jI (w.1 (m + 422) 0)), some (jI (w.1 (m + 422) 1))] [] 0 0 w _
            refine jWp.blk mt 2 ?_
            show jWp 205 132 [some (jO m), some (jI c), some (jI (w.1 (m + 422) 0)), some (jI (w.1 (m + 422) 1))] [jI (w.1 (m + 422) 1), jI (w.1 (m + 422) 0)] 0 0 w _
            refine jWp.icmp (pc' := 135) mt rfl rfl (b32_id (by omega) (by omega)) (b32_id (by omega) (by omega)) (fun h6 => ?_) (fun h6 => ?_)
            · have h6 : (w.1 (m + 422) 0) ≠ (w.1 (m + 422) 1) := h6
              refine jWp.blk mt 2 ?_
              show jWp 205 140 [some (jO m), some (jI c), some (jI (w.1 (m + 422) 0)), some (jI (w.1 (m + 422) 1))] [jI 98, jI c] 0 0 w _
              refine jWp.icmp (pc' := 143) mt rfl rfl (b32_id (by omega) (by omega)) (show b32 98 = 98 by decide) (fun h7 => ?_) (fun h7 => ?_)
              · have h7 : c ≠ 98 := h7
                refine jWp.blk mt 1 ?_
                show _ ∧ jWp 205 163 [some (jO m), some (jI c), some (jI (w.1 (m + 422) 0)), some (jI (w.1 (m + 422) 1))] [jO m] 0 0 w _
                refine ⟨rfl, ?_⟩
                refine jWp.getR (pc' := 166) (o := (m + 16)) mt rfl rfl (jtg hW.K0) hW.R16 ?_
                show jWp 205 166 [some (jO m), some (jI c), some (jI (w.1 (m + 422) 0)), some (jI (w.1 (m + 422) 1))] [jO (m + 16)] 0 0 w _
                refine jWp.blk mt 2 ?_
                show jWp 205 168 [some (jO m), some (jI c), some (jI (w.1 (m + 422) 0)), some (jI (w.1 (m + 422) 1))] [jI (w.1 (m + 422) 1), jI (w.1 (m + 422) 0), jO (m + 16)] 0 0 w _
                refine jWp.calls (as := [jO (m + 16), jI (w.1 (m + 422) 0), jI (w.1 (m + 422) 1)]) (rest := []) mt rfl rfl rfl rfl ?_
                refine jCall.mono ((by have h := E_swaps (w := w) (q := m + 16) (i := (w.1 (m + 422) 0).toNat) (j := (w.1 (m + 422) 1).toNat) hW.K16 (by have := hQ.S.n4; omega) (by have := hQ.S.n4; omega); rw [show (((w.1 (m + 422) 0).toNat : Nat) : Int) = w.1 (m + 422) 0 by omega, show (((w.1 (m + 422) 1).toNat : Nat) : Int) = w.1 (m + 422) 1 by omega] at h; exact h)) (fun v9 w9 h9 => ?_)
                obtain ⟨rfl, S9, h9, hS9⟩ := h9
                subst h9
                have hE9 := zswp_e hS9
                show jWp 205 171 [some (jO m), some (jI c), some (jI (w.1 (m + 422) 0)), some (jI (w.1 (m + 422) 1))] [] 0 0 (kA w (m + 16) S9) _
                refine jWp.blk mt 1 ?_
                show jWp 205 172 [some (jO m), some (jI c), some (jI (w.1 (m + 422) 0)), some (jI (w.1 (m + 422) 1))] [jI 1] 0 0 (kA w (m + 16) S9) _
                refine jWp.iretz mt rfl ⟨rfl, rfl⟩ rfl (Or.inr rfl) ?_
                have hn0 := hQ.S.n0
                first
                | (have ec : c = 110 := by omega
                   subst ec
                   refine ⟨zdf_A, Or.inl ⟨rfl, _, zdo_n.trans (if_pos (by omega)), ?_⟩⟩
                   rw [kA_fs]; exact hE9)
                | (have ec : c = 115 := by omega
                   subst ec
                   refine ⟨zdf_A, Or.inl ⟨rfl, _, (zdo_s (by omega)).trans (if_pos (by omega)), ?_⟩⟩
                   rw [kA_fs]; exact hE9)
                | (have ec : c = 98 := by omega
                   subst ec
                   refine ⟨zdf_A, Or.inl ⟨rfl, _, zdo_b (by omega) (by omega), ?_⟩⟩
                   rw [kA_fs]; exact hE9)
                | (have ec : c = 119 := by unfold zcd at hc; omega
                   subst ec
                   refine ⟨zdf_A, Or.inl ⟨rfl, _, zdo_w (by omega) (by omega), ?_⟩⟩
                   rw [kA_fs]; exact hE9)
                | (exfalso; omega)
              · have h7 : c = 98 := h7
                refine jWp.blk mt 2 ?_
                show _ ∧ _ ∧ jWp 205 145 [some (jO m), some (jI c), some (jI (w.1 (m + 422) 0)), some (jI (w.1 (m + 422) 1))] [jO m, jO m] 0 0 w _
                refine ⟨rfl, rfl, ?_⟩
                refine jWp.getR (pc' := 148) (o := (m + 16)) mt rfl rfl (jtg hW.K0) hW.R16 ?_
                show jWp 205 148 [some (jO m), some (jI c), some (jI (w.1 (m + 422) 0)), some (jI (w.1 (m + 422) 1))] [jO (m + 16), jO m] 0 0 w _
                refine jWp.blk mt 3 ?_
                show _ ∧ jWp 205 151 [some (jO m), some (jI c), some (jI (w.1 (m + 422) 0)), some (jI (w.1 (m + 422) 1))] [jO m, jI (w.1 (m + 422) 1), jI (w.1 (m + 422) 0), jO (m + 16), jO m] 0 0 w _
                refine ⟨rfl, ?_⟩
                refine jWp.getR (pc' := 154) (o := (m + 422)) mt rfl rfl (jtg hW.K0) hW.R26 ?_
                show jWp 205 154 [some (jO m), some (jI c), some (jI (w.1 (m + 422) 0)), some (jI (w.1 (m + 422) 1))] [jO (m + 422), jI (w.1 (m + 422) 1), jI (w.1 (m + 422) 0), jO (m + 16), jO m] 0 0 w _
                refine jWp.blk mt 1 ?_
                show jWp 205 155 [some (jO m), some (jI c), some (jI (w.1 (m + 422) 0)), some (jI (w.1 (m + 422) 1))] [jI 2, jO (m + 422), jI (w.1 (m + 422) 1), jI (w.1 (m + 422) 0), jO (m + 16), jO m] 0 0 w _
                refine jWp.iald (pc' := 156) (j := 2) mt rfl rfl (jird_of hW.K422) (by decide) (jlt hW.K422 (by decide)) ?_
                show jWp 205 156 [some (jO m), some (jI c), some (jI (w.1 (m + 422) 0)), some (jI (w.1 (m + 422) 1))] [jI (w.1 (m + 422) 2), jI (w.1 (m + 422) 1), jI (w.1 (m + 422) 0), jO (m + 16), jO m] 0 0 w _
                refine jWp.callv (as := [jO m, jO (m + 16), jI (w.1 (m + 422) 0), jI (w.1 (m + 422) 1), jI (w.1 (m + 422) 2)]) (rest := []) mt rfl rfl rfl ⟨rfl, jtg hW.K0⟩ ?_
                refine jCall.mono ((by have h := E_puts (w := w) (q := m + 16) (i := (w.1 (m + 422) 0).toNat) (j := (w.1 (m + 422) 1).toNat) (v := w.1 (m + 422) 2) hW.K0 hW.K16 (by have := hQ.S.n4; omega) (by have := hQ.S.n4; omega) (by omega); rw [show (((w.1 (m + 422) 0).toNat : Nat) : Int) = w.1 (m + 422) 0 by omega, show (((w.1 (m + 422) 1).toNat : Nat) : Int) = w.1 (m + 422) 1 by omega] at h; exact h)) (fun v9 w9 h9 => ?_)
                obtain ⟨rfl, S9, h9, hS9⟩ := h9
                subst h9
                have hE9 := zbg_e hS9
                show jWp 205 159 [some (jO m), some (jI c), some (jI (w.1 (m + 422) 0)), some (jI (w.1 (m + 422) 1))] [] 0 0 (kA w (m + 16) S9) _
                refine jWp.blk mt 2 ?_
                show jWp 205 172 [some (jO m), some (jI c), some (jI (w.1 (m + 422) 0)), some (jI (w.1 (m + 422) 1))] [jI 1] 0 0 (kA w (m + 16) S9) _
                refine jWp.iretz mt rfl ⟨rfl, rfl⟩ rfl (Or.inr rfl) ?_
                have hn0 := hQ.S.n0
                first
                | (have ec : c = 110 := by omega
                   subst ec
                   refine ⟨zdf_A, Or.inl ⟨rfl, _, zdo_n.trans (if_pos (by omega)), ?_⟩⟩
                   rw [kA_fs]; exact hE9)
                | (have ec : c = 115 := by omega
                   subst ec
                   refine ⟨zdf_A, Or.inl ⟨rfl, _, (zdo_s (by omega)).trans (if_pos (by omega)), ?_⟩⟩
                   rw [kA_fs]; exact hE9)
                | (have ec : c = 98 := by omega
                   subst ec
                   refine ⟨zdf_A, Or.inl ⟨rfl, _, zdo_b (by omega) (by omega), ?_⟩⟩
                   rw [kA_fs]; exact hE9)
                | (have ec : c = 119 := by unfold zcd at hc; omega
                   subst ec
                   refine ⟨zdf_A, Or.inl ⟨rfl, _, zdo_w (by omega) (by omega), ?_⟩⟩
                   rw [kA_fs]; exact hE9)
                | (exfalso; omega)
            · have h6 : (w.1 (m + 422) 0) = (w.1 (m + 422) 1) := h6
              refine jWp.blk mt 1 ?_
              show jWp 205 136 [some (jO m), some (jI c), some (jI (w.1 (m + 422) 0)), some (jI (w.1 (m + 422) 1))] [jI 0] 0 0 w _
              refine jWp.iretz mt rfl ⟨rfl, rfl⟩ rfl (Or.inl rfl) ?_
              have hn0 := hQ.S.n0
              first
              | (have ec : c = 110 := by omega
                 subst ec
                 exact ⟨zdf_0, Or.inr ⟨rfl, zdo_n.trans (if_neg (by omega))⟩⟩)
              | exact ⟨zdf_0, Or.inr ⟨rfl, zdo_i (by omega) (by omega)⟩⟩
              | exact ⟨zdf_0, Or.inr ⟨rfl, zdo_j (by omega) (by omega) (by omega) (by omega) (by omega)⟩⟩
              | (exfalso; omega)
          · have h5 : ¬ (0 ≤ (w.1 (m + 422) 1) ∧ (w.1 (m + 422) 1) < (n : Int)) := h5
            show jWp 205 127 [some (jO m), some (jI c), some (jI (w.1 (m + 422) 0)), some (jI (w.1 (m + 422) 1))] [jI 0] 0 0 w _
            refine jWp.ifc (b := true) mt rfl (by decide) rfl ?_
            show jWp 205 135 [some (jO m), some (jI c), some (jI (w.1 (m + 422) 0)), some (jI (w.1 (m + 422) 1))] [] 0 0 w _
            refine jWp.blk mt 1 ?_
            show jWp 205 136 [some (jO m), some (jI c), some (jI (w.1 (m + 422) 0)), some (jI (w.1 (m + 422) 1))] [jI 0] 0 0 w _
            refine jWp.iretz mt rfl ⟨rfl, rfl⟩ rfl (Or.inl rfl) ?_
            have hn0 := hQ.S.n0
            first
            | (have ec : c = 110 := by omega
               subst ec
               exact ⟨zdf_0, Or.inr ⟨rfl, zdo_n.trans (if_neg (by omega))⟩⟩)
            | exact ⟨zdf_0, Or.inr ⟨rfl, zdo_i (by omega) (by omega)⟩⟩
            | exact ⟨zdf_0, Or.inr ⟨rfl, zdo_j (by omega) (by omega) (by omega) (by omega) (by omega)⟩⟩
            | (exfalso; omega)
        · have h4 : c = 115 := h4
          refine jWp.blk mt 1 ?_
          show _ ∧ jWp 205 91 [some (jO m), some (jI c), some (jI (w.1 (m + 422) 0)), some (jI (w.1 (m + 422) 1))] [jO m] 0 0 w _
          refine ⟨rfl, ?_⟩
          refine jWp.getR (pc' := 94) (o := (m + 16)) mt rfl rfl (jtg hW.K0) hW.R16 ?_
          show jWp 205 94 [some (jO m), some (jI c), some (jI (w.1 (m + 422) 0)), some (jI (w.1 (m + 422) 1))] [jO (m + 16)] 0 0 w _
          refine jWp.blk mt 4 ?_
          show jWp 205 99 [some (jO m), some (jI c), some (jI (w.1 (m + 422) 0)), some (jI (w.1 (m + 422) 1))] [jI (w.1 (m + 422) 1), jI (17 + (w.1 (m + 422) 0)), jO (m + 16)] 0 0 w _
          refine jWp.i2l (pc' := 100) mt rfl rfl (b32_id (by omega) (by omega)) ?_
          show jWp 205 100 [some (jO m), some (jI c), some (jI (w.1 (m + 422) 0)), some (jI (w.1 (m + 422) 1))] [jJ (w.1 (m + 422) 1), jI (17 + (w.1 (m + 422) 0)), jO (m + 16)] 0 0 w _
          refine jWp.last (pc' := 101) (j := (17 + (w.1 (m + 422) 0).toNat)) mt rfl rfl (jtg hW.K16) (by have := hQ.S.n4; rw [b32_id (by omega) (by omega)]; omega) (jlt hW.K16 (by have := hQ.S.n4; omega)) ?_
          show jWp 205 101 [some (jO m), some (jI c), some (jI (w.1 (m + 422) 0)), some (jI (w.1 (m + 422) 1))] [] 0 0 (jW w (m + 16) (17 + (w.1 (m + 422) 0).toNat) (w.1 (m + 422) 1)) _
          refine jWp.blk mt 2 ?_
          show _ ∧ _ ∧ jWp 205 103 [some (jO m), some (jI c), some (jI (w.1 (m + 422) 0)), some (jI (w.1 (m + 422) 1))] [jO m, jO m] 0 0 (jW w (m + 16) (17 + (w.1 (m + 422) 0).toNat) (w.1 (m + 422) 1)) _
          refine ⟨rfl, rfl, ?_⟩
          refine jWp.getR (pc' := 106) (o := (m + 16)) mt rfl rfl (jtg hW.K0) hW.R16 ?_
          show jWp 205 106 [some (jO m), some (jI c), some (jI (w.1 (m + 422) 0)), some (jI (w.1 (m + 422) 1))] [jO (m + 16), jO m] 0 0 (jW w (m + 16) (17 + (w.1 (m + 422) 0).toNat) (w.1 (m + 422) 1)) _
          refine jWp.callv (as := [jO m, jO (m + 16)]) (rest := []) mt rfl rfl rfl ⟨rfl, jtg hW.K0⟩ ?_
          refine jCall.mono (E_begun (w := (jW w (m + 16) (17 + (w.1 (m + 422) 0).toNat) (w.1 (m + 422) 1))) (q := m + 16) hW.K16) (fun v9 w9 h9 => ?_)
          obtain ⟨rfl, S9, h9, hS9⟩ := h9
          subst h9
          have hE9 := zbg_e hS9
          rw [show (jW w (m + 16) (17 + (w.1 (m + 422) 0).toNat) (w.1 (m + 422) 1)).1 (m + 16) = zset (w.1 (m + 16)) (17 + (w.1 (m + 422) 0).toNat) (w.1 (m + 422) 1) from by rw [kA_W0, kA_fs]] at hE9
          rw [show kA (jW w (m + 16) (17 + (w.1 (m + 422) 0).toNat) (w.1 (m + 422) 1)) (m + 16) S9 = kA w (m + 16) S9 from by rw [kA_W0, kA_A]]
          show jWp 205 109 [some (jO m), some (jI c), some (jI (w.1 (m + 422) 0)), some (jI (w.1 (m + 422) 1))] [] 0 0 (kA w (m + 16) S9) _
          refine jWp.blk mt 1 ?_
          show jWp 205 110 [some (jO m), some (jI c), some (jI (w.1 (m + 422) 0)), some (jI (w.1 (m + 422) 1))] [jI (w.1 (m + 422) 1)] 0 0 (kA w (m + 16) S9) _
          refine jWp.ifz (pc' := 113) mt rfl rfl (b32_id (by omega) (by omega)) (fun h8 => ?_) (fun h8 => ?_)
          · have h8 : (w.1 (m + 422) 1) ≤ 0 := h8
            refine jWp.blk mt 1 ?_
            show jWp 205 118 [some (jO m), some (jI c), some (jI (w.1 (m + 422) 0)), some (jI (w.1 (m + 422) 1))] [jI 0] 0 0 (kA w (m + 16) S9) _
            refine jWp.iretz mt rfl ⟨rfl, rfl⟩ rfl (Or.inl rfl) ?_
            have hn0 := hQ.S.n0
            first
            | (have ec : c = 115 := by omega
               subst ec
               exact ⟨zdf_A, Or.inr ⟨rfl, (zdo_s (by omega)).trans (if_neg (by omega))⟩⟩)
            | (exfalso; omega)
          · have h8 : 0 < (w.1 (m + 422) 1) := h8
            refine jWp.blk mt 2 ?_
            show jWp 205 118 [some (jO m), some (jI c), some (jI (w.1 (m + 422) 0)), some (jI (w.1 (m + 422) 1))] [jI 1] 0 0 (kA w (m + 16) S9) _
            refine jWp.iretz mt rfl ⟨rfl, rfl⟩ rfl (Or.inr rfl) ?_
            have hn0 := hQ.S.n0
            first
            | (have ec : c = 110 := by omega
               subst ec
               refine ⟨zdf_A, Or.inl ⟨rfl, _, zdo_n.trans (if_pos (by omega)), ?_⟩⟩
               rw [kA_fs]; exact hE9)
            | (have ec : c = 115 := by omega
               subst ec
               refine ⟨zdf_A, Or.inl ⟨rfl, _, (zdo_s (by omega)).trans (if_pos (by omega)), ?_⟩⟩
               rw [kA_fs]; exact hE9)
            | (have ec : c = 98 := by omega
               subst ec
               refine ⟨zdf_A, Or.inl ⟨rfl, _, zdo_b (by omega) (by omega), ?_⟩⟩
               rw [kA_fs]; exact hE9)
            | (have ec : c = 119 := by unfold zcd at hc; omega
               subst ec
               refine ⟨zdf_A, Or.inl ⟨rfl, _, zdo_w (by omega) (by omega), ?_⟩⟩
               rw [kA_fs]; exact hE9)
            | (exfalso; omega)
      · have h3 : c = 109 := h3
        refine jWp.blk mt 2 ?_
        show _ ∧ _ ∧ jWp 205 76 [some (jO m), some (jI c), some (jI (w.1 (m + 422) 0)), some (jI (w.1 (m + 422) 1))] [jO m, jO m] 0 0 w _
        refine ⟨rfl, rfl, ?_⟩
        refine jWp.getR (pc' := 79) (o := (m + 16)) mt rfl rfl (jtg hW.K0) hW.R16 ?_
        show jWp 205 79 [some (jO m), some (jI c), some (jI (w.1 (m + 422) 0)), some (jI (w.1 (m + 422) 1))] [jO (m + 16), jO m] 0 0 w _
        refine jWp.blk mt 1 ?_
        show jWp 205 80 [some (jO m), some (jI c), some (jI (w.1 (m + 422) 0)), some (jI (w.1 (m + 422) 1))] [jI (w.1 (m + 422) 0), jO (m + 16), jO m] 0 0 w _
        refine jWp.callv (as := [jO m, jO (m + 16), jI (w.1 (m + 422) 0)]) (rest := []) mt rfl rfl rfl ⟨rfl, jtg hW.K0⟩ ?_
        refine jCall.mono ((by have h := E_xany (w := w) (o := 16) (n := n) (k := (w.1 (m + 422) 0).toNat) hW hW.K16 hQ.S (by have := hQ.S.n4; omega); rw [show (((w.1 (m + 422) 0).toNat : Nat) : Int) = w.1 (m + 422) 0 by omega] at h; exact h)) (fun v9 w9 h9 => ?_)
        obtain ⟨hx9, hh⟩ := h9
        obtain ⟨M2, G9⟩ := w9
        have hg : G9 = w.2 := hx9.1
        subst hg
        have hdf : zdf w m (M2, w.2) := hx9
        rcases hh with ⟨rfl, hz⟩ | ⟨rfl, hzS, hz⟩
        · have hz' := hz
          show jWp 205 83 [some (jO m), some (jI c), some (jI (w.1 (m + 422) 0)), some (jI (w.1 (m + 422) 1))] [jI 1] 0 0 (M2, w.2) _
          refine jWp.iretz mt rfl ⟨rfl, rfl⟩ rfl (Or.inr rfl) ?_
          have hn0 := hQ.S.n0
          have ec : c = 109 := by omega
          subst ec
          rw [zdo_m (by omega), hn0, show ((n : Int)).toNat = n from rfl]
          exact ⟨hdf, Or.inl ⟨rfl, _, if_pos hz.1, zxn_F (by have := hQ.S.n4; omega) hz⟩⟩
        · have hzS' := hzS
          show jWp 205 83 [some (jO m), some (jI c), some (jI (w.1 (m + 422) 0)), some (jI (w.1 (m + 422) 1))] [jI 0] 0 0 (M2, w.2) _
          refine jWp.iretz mt rfl ⟨rfl, rfl⟩ rfl (Or.inl rfl) ?_
          have hn0 := hQ.S.n0
          have ec : c = 109 := by omega
          subst ec
          rw [zdo_m (by omega), hn0, show ((n : Int)).toNat = n from rfl]
          exact ⟨hdf, Or.inr ⟨rfl, if_neg hz⟩⟩
    · have h2 : ¬ (0 ≤ (w.1 (m + 422) 0) ∧ (w.1 (m + 422) 0) < (n : Int)) := h2
      show jWp 205 63 [some (jO m), some (jI c), some (jI (w.1 (m + 422) 0)), some (jI (w.1 (m + 422) 1))] [jI 0] 0 0 w _
      refine jWp.ifc (b := false) mt rfl (by decide) rfl ?_
      show jWp 205 66 [some (jO m), some (jI c), some (jI (w.1 (m + 422) 0)), some (jI (w.1 (m + 422) 1))] [] 0 0 w _
      refine jWp.blk mt 1 ?_
      show jWp 205 67 [some (jO m), some (jI c), some (jI (w.1 (m + 422) 0)), some (jI (w.1 (m + 422) 1))] [jI 0] 0 0 w _
      refine jWp.iretz mt rfl ⟨rfl, rfl⟩ rfl (Or.inl rfl) ?_
      have hn0 := hQ.S.n0
      first
      | (have ec : c = 110 := by omega
         subst ec
         exact ⟨zdf_0, Or.inr ⟨rfl, zdo_n.trans (if_neg (by omega))⟩⟩)
      | exact ⟨zdf_0, Or.inr ⟨rfl, zdo_i (by omega) (by omega)⟩⟩
      | exact ⟨zdf_0, Or.inr ⟨rfl, zdo_j (by omega) (by omega) (by omega) (by omega) (by omega)⟩⟩
      | (exfalso; omega)
  · have h1 : c = 110 := h1
    refine jWp.blk mt 1 ?_
    show jWp 205 21 [some (jO m), some (jI c), some (jI (w.1 (m + 422) 0)), some (jI (w.1 (m + 422) 1))] [jI (w.1 (m + 422) 0)] 0 0 w _
    refine jWp.i2l (pc' := 22) mt rfl rfl (b32_id (by omega) (by omega)) ?_
    show jWp 205 22 [some (jO m), some (jI c), some (jI (w.1 (m + 422) 0)), some (jI (w.1 (m + 422) 1))] [jJ (w.1 (m + 422) 0)] 0 0 w _
    refine jWp.blk mt 2 ?_
    show jWp 205 28 [some (jO m), some (jI c), some (jI (w.1 (m + 422) 0)), some (jI (w.1 (m + 422) 1))] [jJ 4, jJ 2, jJ (w.1 (m + 422) 0)] 0 0 w _
    refine jWp.calls (as := [jJ (w.1 (m + 422) 0), jJ 2, jJ 4]) (rest := []) mt rfl rfl rfl rfl ?_
    refine jCall.mono (E_in (b64_id (by omega) (by omega)) (show b64 2 = 2 by decide) (show b64 4 = 4 by decide)) (fun v9 w9 h9 => ?_)
    rcases h9 with ⟨rfl, h9, h10⟩ | ⟨rfl, h9, h10⟩ <;> subst w9
    · have h10 : 2 ≤ (w.1 (m + 422) 0) ∧ (w.1 (m + 422) 0) ≤ 4 := h10
      show jWp 205 31 [some (jO m), some (jI c), some (jI (w.1 (m + 422) 0)), some (jI (w.1 (m + 422) 1))] [jI 1] 0 0 w _
      refine jWp.ifc (b := false) mt rfl (by decide) rfl ?_
      show jWp 205 34 [some (jO m), some (jI c), some (jI (w.1 (m + 422) 0)), some (jI (w.1 (m + 422) 1))] [] 0 0 w _
      refine jWp.blk mt 2 ?_
      show _ ∧ _ ∧ jWp 205 36 [some (jO m), some (jI c), some (jI (w.1 (m + 422) 0)), some (jI (w.1 (m + 422) 1))] [jO m, jO m] 0 0 w _
      refine ⟨rfl, rfl, ?_⟩
      refine jWp.getR (pc' := 39) (o := (m + 16)) mt rfl rfl (jtg hW.K0) hW.R16 ?_
      show jWp 205 39 [some (jO m), some (jI c), some (jI (w.1 (m + 422) 0)), some (jI (w.1 (m + 422) 1))] [jO (m + 16), jO m] 0 0 w _
      refine jWp.blk mt 1 ?_
      show jWp 205 40 [some (jO m), some (jI c), some (jI (w.1 (m + 422) 0)), some (jI (w.1 (m + 422) 1))] [jI (w.1 (m + 422) 0), jO (m + 16), jO m] 0 0 w _
      refine jWp.callv (as := [jO m, jO (m + 16), jI (w.1 (m + 422) 0)]) (rest := []) mt rfl rfl rfl ⟨rfl, jtg hW.K0⟩ ?_
      refine jCall.mono ((by have h := E_tells (w := w) (q := m + 16) (n := (w.1 (m + 422) 0).toNat) (M0 := (0, 0)) hW.K0 hW.K16 (by omega); rw [show (((w.1 (m + 422) 0).toNat : Nat) : Int) = w.1 (m + 422) 0 by omega] at h; exact h)) (fun v9 w9 h9 => ?_)
      obtain ⟨rfl, S9, h9, hS9⟩ := h9
      subst h9
      have hE9 := znew_e (n := (w.1 (m + 422) 0).toNat) ⟨hS9.1.trans (by omega), hS9.2⟩
      show jWp 205 43 [some (jO m), some (jI c), some (jI (w.1 (m + 422) 0)), some (jI (w.1 (m + 422) 1))] [] 0 0 (kA w (m + 16) S9) _
      refine jWp.blk mt 1 ?_
      show jWp 205 44 [some (jO m), some (jI c), some (jI (w.1 (m + 422) 0)), some (jI (w.1 (m + 422) 1))] [jI (w.1 (m + 422) 0)] 0 0 (kA w (m + 16) S9) _
      refine jWp.i2l (pc' := 45) mt rfl rfl (b32_id (by omega) (by omega)) ?_
      show jWp 205 45 [some (jO m), some (jI c), some (jI (w.1 (m + 422) 0)), some (jI (w.1 (m + 422) 1))] [jJ (w.1 (m + 422) 0)] 0 0 (kA w (m + 16) S9) _
      refine jWp.blk mt 2 ?_
      show jWp 205 51 [some (jO m), some (jI c), some (jI (w.1 (m + 422) 0)), some (jI (w.1 (m + 422) 1))] [jJ 4, jJ 2, jJ (w.1 (m + 422) 0)] 0 0 (kA w (m + 16) S9) _
      refine jWp.calls (as := [jJ (w.1 (m + 422) 0), jJ 2, jJ 4]) (rest := []) mt rfl rfl rfl rfl ?_
      refine jCall.mono (E_in (b64_id (by omega) (by omega)) (show b64 2 = 2 by decide) (show b64 4 = 4 by decide)) (fun v9 w9 h9 => ?_)
      rcases h9 with ⟨rfl, h9, h11⟩ | ⟨rfl, h9, h11⟩ <;> subst w9
      · have h11 : 2 ≤ (w.1 (m + 422) 0) ∧ (w.1 (m + 422) 0) ≤ 4 := h11
        show jWp 205 54 [some (jO m), some (jI c), some (jI (w.1 (m + 422) 0)), some (jI (w.1 (m + 422) 1))] [jI 1] 0 0 (kA w (m + 16) S9) _
        refine jWp.iretz mt rfl ⟨rfl, rfl⟩ rfl (Or.inr rfl) ?_
        have hn0 := hQ.S.n0
        first
        | (have ec : c = 110 := by omega
           subst ec
           refine ⟨zdf_A, Or.inl ⟨rfl, _, zdo_n.trans (if_pos (by omega)), ?_⟩⟩
           rw [kA_fs]; exact hE9)
        | (have ec : c = 115 := by omega
           subst ec
           refine ⟨zdf_A, Or.inl ⟨rfl, _, (zdo_s (by omega)).trans (if_pos (by omega)), ?_⟩⟩
           rw [kA_fs]; exact hE9)
        | (have ec : c = 98 := by omega
           subst ec
           refine ⟨zdf_A, Or.inl ⟨rfl, _, zdo_b (by omega) (by omega), ?_⟩⟩
           rw [kA_fs]; exact hE9)
        | (have ec : c = 119 := by unfold zcd at hc; omega
           subst ec
           refine ⟨zdf_A, Or.inl ⟨rfl, _, zdo_w (by omega) (by omega), ?_⟩⟩
           rw [kA_fs]; exact hE9)
        | (exfalso; omega)
      · have h11 : ¬ (2 ≤ (w.1 (m + 422) 0) ∧ (w.1 (m + 422) 0) ≤ 4) := h11
        show jWp 205 54 [some (jO m), some (jI c), some (jI (w.1 (m + 422) 0)), some (jI (w.1 (m + 422) 1))] [jI 0] 0 0 (kA w (m + 16) S9) _
        refine jWp.iretz mt rfl ⟨rfl, rfl⟩ rfl (Or.inl rfl) ?_
        have hn0 := hQ.S.n0
        first
        | (have ec : c = 115 := by omega
           subst ec
           exact ⟨zdf_A, Or.inr ⟨rfl, (zdo_s (by omega)).trans (if_neg (by omega))⟩⟩)
        | (exfalso; omega)
    · have h10 : ¬ (2 ≤ (w.1 (m + 422) 0) ∧ (w.1 (m + 422) 0) ≤ 4) := h10
      show jWp 205 31 [some (jO m), some (jI c), some (jI (w.1 (m + 422) 0)), some (jI (w.1 (m + 422) 1))] [jI 0] 0 0 w _
      refine jWp.ifc (b := true) mt rfl (by decide) rfl ?_
      show jWp 205 43 [some (jO m), some (jI c), some (jI (w.1 (m + 422) 0)), some (jI (w.1 (m + 422) 1))] [] 0 0 w _
      refine jWp.blk mt 1 ?_
      show jWp 205 44 [some (jO m), some (jI c), some (jI (w.1 (m + 422) 0)), some (jI (w.1 (m + 422) 1))] [jI (w.1 (m + 422) 0)] 0 0 w _
      refine jWp.i2l (pc' := 45) mt rfl rfl (b32_id (by omega) (by omega)) ?_
      show jWp 205 45 [some (jO m), some (jI c), some (jI (w.1 (m + 422) 0)), some (jI (w.1 (m + 422) 1))] [jJ (w.1 (m + 422) 0)] 0 0 w _
      refine jWp.blk mt 2 ?_
      show jWp 205 51 [some (jO m), some (jI c), some (jI (w.1 (m + 422) 0)), some (jI (w.1 (m + 422) 1))] [jJ 4, jJ 2, jJ (w.1 (m + 422) 0)] 0 0 w _
      refine jWp.calls (as := [jJ (w.1 (m + 422) 0), jJ 2, jJ 4]) (rest := []) mt rfl rfl rfl rfl ?_
      refine jCall.mono (E_in (b64_id (by omega) (by omega)) (show b64 2 = 2 by decide) (show b64 4 = 4 by decide)) (fun v9 w9 h9 => ?_)
      rcases h9 with ⟨rfl, h9, h12⟩ | ⟨rfl, h9, h12⟩ <;> subst w9
      · have h12 : 2 ≤ (w.1 (m + 422) 0) ∧ (w.1 (m + 422) 0) ≤ 4 := h12
        show jWp 205 54 [some (jO m), some (jI c), some (jI (w.1 (m + 422) 0)), some (jI (w.1 (m + 422) 1))] [jI 1] 0 0 w _
        refine jWp.iretz mt rfl ⟨rfl, rfl⟩ rfl (Or.inr rfl) ?_
        exfalso; omega
      · have h12 : ¬ (2 ≤ (w.1 (m + 422) 0) ∧ (w.1 (m + 422) 0) ≤ 4) := h12
        show jWp 205 54 [some (jO m), some (jI c), some (jI (w.1 (m + 422) 0)), some (jI (w.1 (m + 422) 1))] [jI 0] 0 0 w _
        refine jWp.iretz mt rfl ⟨rfl, rfl⟩ rfl (Or.inl rfl) ?_
        have hn0 := hQ.S.n0
        first
        | (have ec : c = 110 := by omega
           subst ec
           exact ⟨zdf_0, Or.inr ⟨rfl, zdo_n.trans (if_neg (by omega))⟩⟩)
        | exact ⟨zdf_0, Or.inr ⟨rfl, zdo_i (by omega) (by omega)⟩⟩
        | exact ⟨zdf_0, Or.inr ⟨rfl, zdo_j (by omega) (by omega) (by omega) (by omega) (by omega)⟩⟩
        | (exfalso; omega)
