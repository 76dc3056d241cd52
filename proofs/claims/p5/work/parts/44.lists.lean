set_option maxHeartbeats 4000000 in
set_option maxRecDepth 20000 in
theorem E_unlike {w : jS} {m : Nat} (hW : MW w.2 m) {c : Nat} (hR : zRw (w.1 (m + 2)) c) {r y : Int} (hrr : r32 r) (hry : r32 y) : jCall 158 [jO m, jI r, jI y] w (fun v w1 => ((¬ (0 ≤ r ∧ r < (c : Int)) ∨ ¬ (0 ≤ y ∧ y < (c : Int))) → jno w m 1 (jI (-1)) v w1) ∧ (¬ (¬ (0 ≤ r ∧ r < (c : Int)) ∨ ¬ (0 ≤ y ∧ y < (c : Int))) → ∃ (t : Nat → Int) (len : Nat) (why left : Int) (t' : Nat → Int) (len' : Nat) (why' left' : Int), zTR (w.1 (m + 2)) r.toNat t len why left ∧ zTR (w.1 (m + 2)) y.toNat t' len' why' left' ∧ v = some (jI (zff (fun k => ¬ (k < len ↔ k < len') ∨ (k < len ∧ t k ≠ t' k)) 60 0)) ∧ mq w m w1)) := by
  have mt : jtb 158 = jT158 := rfl
  have hc4 := hR.2.1
  have hrr1 : -2147483648 ≤ r ∧ r < 2147483648 := hrr
  have hry1 : -2147483648 ≤ y ∧ y < 2147483648 := hry
  show jWp 158 0 [some (jO m), some (jI r), some (jI y), none, none] [] 0 0 w _
  refine jWp.blk mt 2 ?_
  show _ ∧ jWp 158 2 [some (jO m), some (jI r), some (jI y), none, none] [jI r, jO m] 0 0 w _
  refine ⟨rfl, ?_⟩
  refine jWp.callv (as := [jO m, jI r]) (rest := []) mt rfl rfl rfl ⟨rfl, jtg hW.K0⟩ ?_
  refine jCall.mono (E_isRow hW hR hrr) (fun v9 w9 h9 => ?_)
  rcases h9 with ⟨rfl, h9, h1⟩ | ⟨rfl, h9, h1⟩ <;> subst w9
  · have h1 : 0 ≤ r ∧ r < (c : Int) := h1
    show jWp 158 5 [some (jO m), some (jI r), some (jI y), none, none] [jI 1] 0 0 w _
    obtain ⟨r1, rfl⟩ : ∃ r1 : Nat, r = (r1 : Int) := ⟨r.toNat, by omega⟩
    show jWp 158 5 [some (jO m), some (jI (r1 : Int)), some (jI y), none, none] [jI 1] 0 0 w _
    have hRr := hR.2.2 r1 (by omega)
    have hRo := zO_b hRr.1.1 hRr.1.2
    refine jWp.ifc (b := false) mt rfl (by decide) rfl ?_
    show jWp 158 8 [some (jO m), some (jI (r1 : Int)), some (jI y), none, none] [] 0 0 w _
    refine jWp.blk mt 2 ?_
    show _ ∧ jWp 158 10 [some (jO m), some (jI (r1 : Int)), some (jI y), none, none] [jI y, jO m] 0 0 w _
    refine ⟨rfl, ?_⟩
    refine jWp.callv (as := [jO m, jI y]) (rest := []) mt rfl rfl rfl ⟨rfl, jtg hW.K0⟩ ?_
    refine jCall.mono (E_isRow hW hR hry) (fun v9 w9 h9 => ?_)
    rcases h9 with ⟨rfl, h9, h2⟩ | ⟨rfl, h9, h2⟩ <;> subst w9
    · have h2 : 0 ≤ y ∧ y < (c : Int) := h2
      show jWp 158 13 [some (jO m), some (jI (r1 : Int)), some (jI y), none, none] [jI 1] 0 0 w _
      obtain ⟨y1, rfl⟩ : ∃ y1 : Nat, y = (y1 : Int) := ⟨y.toNat, by omega⟩
      show jWp 158 13 [some (jO m), some (jI (r1 : Int)), some (jI (y1 : Int)), none, none] [jI 1] 0 0 w _
      have hRy := hR.2.2 y1 (by omega)
      have hRo := zO_b hRy.1.1 hRy.1.2
      refine jWp.ifc (b := true) mt rfl (by decide) rfl ?_
      show jWp 158 22 [some (jO m), some (jI (r1 : Int)), some (jI (y1 : Int)), none, none] [] 0 0 w _
      refine jWp.blk mt 2 ?_
      show _ ∧ jWp 158 24 [some (jO m), some (jI (r1 : Int)), some (jI (y1 : Int)), none, none] [jI (y1 : Int), jO m] 0 0 w _
      refine ⟨rfl, ?_⟩
      refine jWp.callv (as := [jO m, jI (y1 : Int)]) (rest := []) mt rfl rfl rfl ⟨rfl, jtg hW.K0⟩ ?_
      refine jCall.mono (E_termsW (w := w) (W := w) (x := y1) hW hR (by omega) mq_0) (fun v9 w9 h9 => ?_)
      obtain ⟨rfl, hF, hmq, len, why, left, k4, k5, k6, hTR⟩ := h9
      obtain ⟨M1, G9⟩ := w9
      have hg : G9 = w.2 := hmq.1
      subst hg
      have k4 : M1 m 4 = (len : Int) := k4
      have hTR : zTR (w.1 (m + 2)) y1 (M1 (m + 4)) len why left := hTR
      have hTb := zTR_b hR (by omega) hTR
      have hM2 : M1 (m + 2) = w.1 (m + 2) := hmq.2.1 _ (by omega)
      show jWp 158 27 [some (jO m), some (jI (r1 : Int)), some (jI (y1 : Int)), none, none] [] 0 0 (M1, w.2) _
      refine jWp.blk mt 1 ?_
      show _ ∧ jWp 158 28 [some (jO m), some (jI (r1 : Int)), some (jI (y1 : Int)), none, none] [jO m] 0 0 (M1, w.2) _
      refine ⟨rfl, ?_⟩
      refine jWp.getI (pc' := 31) mt rfl rfl (jtg hW.K0) ?_
      rw [show ((M1, w.2).1 m 4) = (len : Int) from k4]
      show jWp 158 31 [some (jO m), some (jI (r1 : Int)), some (jI (y1 : Int)), none, none] [jI (len : Int)] 0 0 (M1, w.2) _
      refine jWp.blk mt 3 ?_
      show jWp 158 35 [some (jO m), some (jI (r1 : Int)), some (jI (y1 : Int)), some (jI (len : Int)), some (jI 0)] [] 0 0 (M1, w.2) _
      have lp4 : ∀ (N : Nat) (e : Nat) (T : Nat → Int) (he : e ≤ len) (hTT : ∀ j, j < e → T j = M1 (m + 4) j), len - e < N → jWp 158 35 [some (jO m), some (jI (r1 : Int)), some (jI (y1 : Int)), some (jI (len : Int)), some (jI (e : Int))] [] 0 0 (kA (M1, w.2) (m + 5) T) (fun v w1 => ((¬ (0 ≤ (r1 : Int) ∧ (r1 : Int) < (c : Int)) ∨ ¬ (0 ≤ (y1 : Int) ∧ (y1 : Int) < (c : Int))) → jno w m 1 (jI (-1)) v w1) ∧ (¬ (¬ (0 ≤ (r1 : Int) ∧ (r1 : Int) < (c : Int)) ∨ ¬ (0 ≤ (y1 : Int) ∧ (y1 : Int) < (c : Int))) → ∃ (t : Nat → Int) (len : Nat) (why left : Int) (t' : Nat → Int) (len' : Nat) (why' left' : Int), zTR (w.1 (m + 2)) (r1 : Int).toNat t len why left ∧ zTR (w.1 (m + 2)) (y1 : Int).toNat t' len' why' left' ∧ v = some (jI (zff (fun k => ¬ (k < len ↔ k < len') ∨ (k < len ∧ t k ≠ t' k)) 60 0)) ∧ mq w m w1)) := by
        intro N
        induction N with
        | zero => intro e T he hTT hm; omega
        | succ N ih5 =>
          intro e T he hTT hm
          have hl60 := hTb.1
          refine jWp.blk mt 2 ?_
          show jWp 158 38 [some (jO m), some (jI (r1 : Int)), some (jI (y1 : Int)), some (jI (len : Int)), some (jI (e : Int))] [jI (len : Int), jI (e : Int)] 0 0 (kA (M1, w.2) (m + 5) T) _
          refine jWp.icmp (pc' := 41) mt rfl rfl (b32_id (by omega) (by omega)) (b32_id (by omega) (by omega)) (fun h6 => ?_) (fun h6 => ?_)
          · have h6 : (len : Int) ≤ (e : Int) := h6
            refine jWp.blk mt 2 ?_
            show _ ∧ jWp 158 63 [some (jO m), some (jI (r1 : Int)), some (jI (y1 : Int)), some (jI (len : Int)), some (jI (e : Int))] [jI (r1 : Int), jO m] 0 0 (kA (M1, w.2) (m + 5) T) _
            refine ⟨rfl, ?_⟩
            refine jWp.callv (as := [jO m, jI (r1 : Int)]) (rest := []) mt rfl rfl rfl ⟨rfl, jtg hW.K0⟩ ?_
            refine jCall.mono (E_termsW (w := w) (W := (kA (M1, w.2) (m + 5) T)) (x := r1) hW hR (by omega) (mq_A hmq (by omega))) (fun v9 w9 h9 => ?_)
            obtain ⟨rfl, hFb, hmqb, lenb, whyb, leftb, k4b, k5b, k6b, hTRb⟩ := h9
            obtain ⟨M2, G9⟩ := w9
            have hg : G9 = w.2 := hmqb.1
            subst hg
            have k4b : M2 m 4 = (lenb : Int) := k4b
            have hTRb : zTR (w.1 (m + 2)) r1 (M2 (m + 4)) lenb whyb leftb := hTRb
            have hTbb := zTR_b hR (by omega) hTRb
            have hM2b : M2 (m + 2) = w.1 (m + 2) := hmqb.2.1 _ (by omega)
            show jWp 158 66 [some (jO m), some (jI (r1 : Int)), some (jI (y1 : Int)), some (jI (len : Int)), some (jI (e : Int))] [] 0 0 (M2, w.2) _
            refine jWp.blk mt 2 ?_
            show jWp 158 69 [some (jO m), some (jI (r1 : Int)), some (jI (y1 : Int)), some (jI (len : Int)), some (jI 0)] [] 0 0 (M2, w.2) _
            have lp8 : ∀ (N : Nat) (k : Nat) (hk : k ≤ 60) (hr : zff (fun k => ¬ (k < lenb ↔ k < len) ∨ (k < lenb ∧ M2 (m + 4) k ≠ M1 (m + 4) k)) (60 - k) k = zff (fun k => ¬ (k < lenb ↔ k < len) ∨ (k < lenb ∧ M2 (m + 4) k ≠ M1 (m + 4) k)) 60 0), 60 - k < N → jWp 158 69 [some (jO m), some (jI (r1 : Int)), some (jI (y1 : Int)), some (jI (len : Int)), some (jI (k : Int))] [] 0 0 (M2, w.2) (fun v w1 => ((¬ (0 ≤ (r1 : Int) ∧ (r1 : Int) < (c : Int)) ∨ ¬ (0 ≤ (y1 : Int) ∧ (y1 : Int) < (c : Int))) → jno w m 1 (jI (-1)) v w1) ∧ (¬ (¬ (0 ≤ (r1 : Int) ∧ (r1 : Int) < (c : Int)) ∨ ¬ (0 ≤ (y1 : Int) ∧ (y1 : Int) < (c : Int))) → ∃ (t : Nat → Int) (len : Nat) (why left : Int) (t' : Nat → Int) (len' : Nat) (why' left' : Int), zTR (w.1 (m + 2)) (r1 : Int).toNat t len why left ∧ zTR (w.1 (m + 2)) (y1 : Int).toNat t' len' why' left' ∧ v = some (jI (zff (fun k => ¬ (k < len ↔ k < len') ∨ (k < len ∧ t k ≠ t' k)) 60 0)) ∧ mq w m w1)) := by
              intro N
              induction N with
              | zero => intro k hk hr hm; omega
              | succ N ih9 =>
                intro k hk hr hm
                have hT5 : M2 (m + 5) = T := (hFb.2.1 (m + 5) (by omega) (by omega)).trans kA_fs
                have hok : k < len → M2 (m + 5) k = M1 (m + 4) k := fun h => by rw [hT5]; exact hTT k (by omega)
                have hf : k < len → _ := fun h => hTb.2.2 k h
                have hfb : k < lenb → _ := fun h => hTbb.2.2 k h
                have hl60b := hTbb.1
                refine jWp.blk mt 2 ?_
                show jWp 158 73 [some (jO m), some (jI (r1 : Int)), some (jI (y1 : Int)), some (jI (len : Int)), some (jI (k : Int))] [jI 60, jI (k : Int)] 0 0 (M2, w.2) _
                refine jWp.icmp (pc' := 76) mt rfl rfl (b32_id (by omega) (by omega)) (show b32 60 = 60 by decide) (fun h10 => ?_) (fun h10 => ?_)
                · have h10 : 60 ≤ (k : Int) := h10
                  refine jWp.blk mt 1 ?_
                  show jWp 158 142 [some (jO m), some (jI (r1 : Int)), some (jI (y1 : Int)), some (jI (len : Int)), some (jI (k : Int))] [jI (-9)] 0 0 (M2, w.2) _
                  refine jWp.ireti mt rfl ⟨rfl, rfl⟩ rfl ?_
                  try rw [show ((r1 : Nat) : Int).toNat = r1 from rfl]
                  try rw [show ((y1 : Nat) : Int).toNat = y1 from rfl]
                  refine ⟨fun c0 => ?_, fun c0 => ?_⟩
                  all_goals first
                  | (exfalso; omega)
                  | exact ⟨rfl, rfl⟩
                  | exact ⟨M2 (m + 4), lenb, whyb, leftb, M1 (m + 4), len, why, left, hTRb, hTR, by rw [← hr, show 60 - k = 0 by omega]; rfl, hmqb⟩
                · have h10 : (k : Int) < 60 := h10
                  refine jWp.blk mt 2 ?_
                  show _ ∧ jWp 158 79 [some (jO m), some (jI (r1 : Int)), some (jI (y1 : Int)), some (jI (len : Int)), some (jI (k : Int))] [jO m, jI (k : Int)] 0 0 (M2, w.2) _
                  refine ⟨rfl, ?_⟩
                  refine jWp.getI (pc' := 82) mt rfl rfl (jtg hW.K0) ?_
                  rw [show ((M2, w.2).1 m 4) = (lenb : Int) from k4b]
                  show jWp 158 82 [some (jO m), some (jI (r1 : Int)), some (jI (y1 : Int)), some (jI (len : Int)), some (jI (k : Int))] [jI (lenb : Int), jI (k : Int)] 0 0 (M2, w.2) _
                  refine jWp.icmp (pc' := 85) mt rfl rfl (b32_id (by omega) (by omega)) (b32_id (by omega) (by omega)) (fun h11 => ?_) (fun h11 => ?_)
                  · have h11 : (lenb : Int) ≤ (k : Int) := h11
                    refine jWp.blk mt 3 ?_
                    show jWp 158 93 [some (jO m), some (jI (r1 : Int)), some (jI (y1 : Int)), some (jI (len : Int)), some (jI (k : Int))] [jI (len : Int), jI (k : Int), jI 0] 0 0 (M2, w.2) _
                    refine jWp.icmp (pc' := 96) mt rfl rfl (b32_id (by omega) (by omega)) (b32_id (by omega) (by omega)) (fun h12 => ?_) (fun h12 => ?_)
                    · have h12 : (len : Int) ≤ (k : Int) := h12
                      refine jWp.blk mt 1 ?_
                      show jWp 158 101 [some (jO m), some (jI (r1 : Int)), some (jI (y1 : Int)), some (jI (len : Int)), some (jI (k : Int))] [jI 0, jI 0] 0 0 (M2, w.2) _
                      refine jWp.icmp (pc' := 104) mt rfl rfl (show b32 0 = 0 by decide) (show b32 0 = 0 by decide) (fun h13 => ?_) (fun h13 => ?_)
                      · exact absurd (show (0 : Int) ≠ 0 from h13) (by decide)
                      · have h13 := h13
                        refine jWp.blk mt 2 ?_
                        show _ ∧ jWp 158 107 [some (jO m), some (jI (r1 : Int)), some (jI (y1 : Int)), some (jI (len : Int)), some (jI (k : Int))] [jO m, jI (k : Int)] 0 0 (M2, w.2) _
                        refine ⟨rfl, ?_⟩
                        refine jWp.getI (pc' := 110) mt rfl rfl (jtg hW.K0) ?_
                        rw [show ((M2, w.2).1 m 4) = (lenb : Int) from k4b]
                        show jWp 158 110 [some (jO m), some (jI (r1 : Int)), some (jI (y1 : Int)), some (jI (len : Int)), some (jI (k : Int))] [jI (lenb : Int), jI (k : Int)] 0 0 (M2, w.2) _
                        refine jWp.icmp (pc' := 113) mt rfl rfl (b32_id (by omega) (by omega)) (b32_id (by omega) (by omega)) (fun h14 => ?_) (fun h14 => ?_)
                        · have h14 : (lenb : Int) ≤ (k : Int) := h14
                          refine jWp.blk mt 2 ?_
                          show jWp 158 69 [some (jO m), some (jI (r1 : Int)), some (jI (y1 : Int)), some (jI (len : Int)), some (jI ((k : Int) + 1))] [] 0 0 (M2, w.2) _
                          refine jWp.le (l := [some (jO m), some (jI (r1 : Int)), some (jI (y1 : Int)), some (jI (len : Int)), some (jI ((k : Int) + 1))]) (by exact ⟨rfl, rfl, rfl, rfl, rfl, trivial⟩) ?_
                          exact ih9 (k + 1) (by omega) (by rw [← hr, show 60 - k = (60 - (k + 1)) + 1 by omega, zff_f (by omega)]) (by omega)
                        · have h14 : (k : Int) < (lenb : Int) := h14
                          refine jWp.blk mt 1 ?_
                          show _ ∧ jWp 158 114 [some (jO m), some (jI (r1 : Int)), some (jI (y1 : Int)), some (jI (len : Int)), some (jI (k : Int))] [jO m] 0 0 (M2, w.2) _
                          refine ⟨rfl, ?_⟩
                          refine jWp.getR (pc' := 117) (o := (m + 4)) mt rfl rfl (jtg hW.K0) hW.R3 ?_
                          show jWp 158 117 [some (jO m), some (jI (r1 : Int)), some (jI (y1 : Int)), some (jI (len : Int)), some (jI (k : Int))] [jO (m + 4)] 0 0 (M2, w.2) _
                          refine jWp.blk mt 1 ?_
                          show jWp 158 119 [some (jO m), some (jI (r1 : Int)), some (jI (y1 : Int)), some (jI (len : Int)), some (jI (k : Int))] [jI (k : Int), jO (m + 4)] 0 0 (M2, w.2) _
                          refine jWp.lald (pc' := 120) (j := k) mt rfl rfl (jtg hW.K4) (b32_id (by omega) (by omega)) (jlt hW.K4 (by omega)) ?_
                          rw [show ((M2, w.2).1 (m + 4) k) = (M2 (m + 4) k) from rfl]
                          show jWp 158 120 [some (jO m), some (jI (r1 : Int)), some (jI (y1 : Int)), some (jI (len : Int)), some (jI (k : Int))] [jJ (M2 (m + 4) k)] 0 0 (M2, w.2) _
                          refine jWp.blk mt 1 ?_
                          show _ ∧ jWp 158 121 [some (jO m), some (jI (r1 : Int)), some (jI (y1 : Int)), some (jI (len : Int)), some (jI (k : Int))] [jO m, jJ (M2 (m + 4) k)] 0 0 (M2, w.2) _
                          refine ⟨rfl, ?_⟩
                          refine jWp.getR (pc' := 124) (o := (m + 5)) mt rfl rfl (jtg hW.K0) hW.R10 ?_
                          show jWp 158 124 [some (jO m), some (jI (r1 : Int)), some (jI (y1 : Int)), some (jI (len : Int)), some (jI (k : Int))] [jO (m + 5), jJ (M2 (m + 4) k)] 0 0 (M2, w.2) _
                          refine jWp.blk mt 1 ?_
                          show jWp 158 126 [some (jO m), some (jI (r1 : Int)), some (jI (y1 : Int)), some (jI (len : Int)), some (jI (k : Int))] [jI (k : Int), jO (m + 5), jJ (M2 (m + 4) k)] 0 0 (M2, w.2) _
                          refine jWp.lald (pc' := 127) (j := k) mt rfl rfl (jtg hW.K5) (b32_id (by omega) (by omega)) (jlt hW.K5 (by omega)) ?_
                          rw [show ((M2, w.2).1 (m + 5) k) = (M2 (m + 5) k) from rfl]
                          show jWp 158 127 [some (jO m), some (jI (r1 : Int)), some (jI (y1 : Int)), some (jI (len : Int)), some (jI (k : Int))] [jJ (M2 (m + 5) k), jJ (M2 (m + 4) k)] 0 0 (M2, w.2) _
                          refine jWp.lcmp (pc' := 131) mt rfl rfl rfl (b64_id (by omega) (by omega)) (b64_id (by omega) (by omega)) (fun h15 => ?_) (fun h15 => ?_)
                          · have h15 : (M2 (m + 4) k) = (M2 (m + 5) k) := h15
                            refine jWp.blk mt 2 ?_
                            show jWp 158 69 [some (jO m), some (jI (r1 : Int)), some (jI (y1 : Int)), some (jI (len : Int)), some (jI ((k : Int) + 1))] [] 0 0 (M2, w.2) _
                            refine jWp.le (l := [some (jO m), some (jI (r1 : Int)), some (jI (y1 : Int)), some (jI (len : Int)), some (jI ((k : Int) + 1))]) (by exact ⟨rfl, rfl, rfl, rfl, rfl, trivial⟩) ?_
                            exact ih9 (k + 1) (by omega) (by rw [← hr, show 60 - k = (60 - (k + 1)) + 1 by omega, zff_f (by omega)]) (by omega)
                          · have h15 : (M2 (m + 4) k) ≠ (M2 (m + 5) k) := h15
                            refine jWp.blk mt 1 ?_
                            show jWp 158 133 [some (jO m), some (jI (r1 : Int)), some (jI (y1 : Int)), some (jI (len : Int)), some (jI (k : Int))] [jI (k : Int)] 0 0 (M2, w.2) _
                            refine jWp.ireti mt rfl ⟨rfl, rfl⟩ rfl ?_
                            try rw [show ((r1 : Nat) : Int).toNat = r1 from rfl]
                            try rw [show ((y1 : Nat) : Int).toNat = y1 from rfl]
                            refine ⟨fun c0 => ?_, fun c0 => ?_⟩
                            all_goals first
                            | (exfalso; omega)
                            | exact ⟨rfl, rfl⟩
                            | exact ⟨M2 (m + 4), lenb, whyb, leftb, M1 (m + 4), len, why, left, hTRb, hTR, by rw [← hr, show 60 - k = (60 - (k + 1)) + 1 by omega, zff_t (by omega)], hmqb⟩
                    · have h12 : (k : Int) < (len : Int) := h12
                      refine jWp.blk mt 2 ?_
                      show jWp 158 101 [some (jO m), some (jI (r1 : Int)), some (jI (y1 : Int)), some (jI (len : Int)), some (jI (k : Int))] [jI 1, jI 0] 0 0 (M2, w.2) _
                      refine jWp.icmp (pc' := 104) mt rfl rfl (show b32 0 = 0 by decide) (show b32 1 = 1 by decide) (fun h16 => ?_) (fun h16 => ?_)
                      · have h16 := h16
                        refine jWp.blk mt 1 ?_
                        show jWp 158 133 [some (jO m), some (jI (r1 : Int)), some (jI (y1 : Int)), some (jI (len : Int)), some (jI (k : Int))] [jI (k : Int)] 0 0 (M2, w.2) _
                        refine jWp.ireti mt rfl ⟨rfl, rfl⟩ rfl ?_
                        try rw [show ((r1 : Nat) : Int).toNat = r1 from rfl]
                        try rw [show ((y1 : Nat) : Int).toNat = y1 from rfl]
                        refine ⟨fun c0 => ?_, fun c0 => ?_⟩
                        all_goals first
                        | (exfalso; omega)
                        | exact ⟨rfl, rfl⟩
                        | exact ⟨M2 (m + 4), lenb, whyb, leftb, M1 (m + 4), len, why, left, hTRb, hTR, by rw [← hr, show 60 - k = (60 - (k + 1)) + 1 by omega, zff_t (by omega)], hmqb⟩
                      · exact absurd (show (0 : Int) = 1 from h16) (by decide)
                  · have h11 : (k : Int) < (lenb : Int) := h11
                    refine jWp.blk mt 4 ?_
                    show jWp 158 93 [some (jO m), some (jI (r1 : Int)), some (jI (y1 : Int)), some (jI (len : Int)), some (jI (k : Int))] [jI (len : Int), jI (k : Int), jI 1] 0 0 (M2, w.2) _
                    refine jWp.icmp (pc' := 96) mt rfl rfl (b32_id (by omega) (by omega)) (b32_id (by omega) (by omega)) (fun h17 => ?_) (fun h17 => ?_)
                    · have h17 : (len : Int) ≤ (k : Int) := h17
                      refine jWp.blk mt 1 ?_
                      show jWp 158 101 [some (jO m), some (jI (r1 : Int)), some (jI (y1 : Int)), some (jI (len : Int)), some (jI (k : Int))] [jI 0, jI 1] 0 0 (M2, w.2) _
                      refine jWp.icmp (pc' := 104) mt rfl rfl (show b32 1 = 1 by decide) (show b32 0 = 0 by decide) (fun h18 => ?_) (fun h18 => ?_)
                      · have h18 := h18
                        refine jWp.blk mt 1 ?_
                        show jWp 158 133 [some (jO m), some (jI (r1 : Int)), some (jI (y1 : Int)), some (jI (len : Int)), some (jI (k : Int))] [jI (k : Int)] 0 0 (M2, w.2) _
                        refine jWp.ireti mt rfl ⟨rfl, rfl⟩ rfl ?_
                        try rw [show ((r1 : Nat) : Int).toNat = r1 from rfl]
                        try rw [show ((y1 : Nat) : Int).toNat = y1 from rfl]
                        refine ⟨fun c0 => ?_, fun c0 => ?_⟩
                        all_goals first
                        | (exfalso; omega)
                        | exact ⟨rfl, rfl⟩
                        | exact ⟨M2 (m + 4), lenb, whyb, leftb, M1 (m + 4), len, why, left, hTRb, hTR, by rw [← hr, show 60 - k = (60 - (k + 1)) + 1 by omega, zff_t (by omega)], hmqb⟩
                      · exact absurd (show (1 : Int) = 0 from h18) (by decide)
                    · have h17 : (k : Int) < (len : Int) := h17
                      refine jWp.blk mt 2 ?_
                      show jWp 158 101 [some (jO m), some (jI (r1 : Int)), some (jI (y1 : Int)), some (jI (len : Int)), some (jI (k : Int))] [jI 1, jI 1] 0 0 (M2, w.2) _
                      refine jWp.icmp (pc' := 104) mt rfl rfl (show b32 1 = 1 by decide) (show b32 1 = 1 by decide) (fun h19 => ?_) (fun h19 => ?_)
                      · exact absurd (show (1 : Int) ≠ 1 from h19) (by decide)
                      · have h19 := h19
                        refine jWp.blk mt 2 ?_
                        show _ ∧ jWp 158 107 [some (jO m), some (jI (r1 : Int)), some (jI (y1 : Int)), some (jI (len : Int)), some (jI (k : Int))] [jO m, jI (k : Int)] 0 0 (M2, w.2) _
                        refine ⟨rfl, ?_⟩
                        refine jWp.getI (pc' := 110) mt rfl rfl (jtg hW.K0) ?_
                        rw [show ((M2, w.2).1 m 4) = (lenb : Int) from k4b]
                        show jWp 158 110 [some (jO m), some (jI (r1 : Int)), some (jI (y1 : Int)), some (jI (len : Int)), some (jI (k : Int))] [jI (lenb : Int), jI (k : Int)] 0 0 (M2, w.2) _
                        refine jWp.icmp (pc' := 113) mt rfl rfl (b32_id (by omega) (by omega)) (b32_id (by omega) (by omega)) (fun h20 => ?_) (fun h20 => ?_)
                        · have h20 : (lenb : Int) ≤ (k : Int) := h20
                          refine jWp.blk mt 2 ?_
                          show jWp 158 69 [some (jO m), some (jI (r1 : Int)), some (jI (y1 : Int)), some (jI (len : Int)), some (jI ((k : Int) + 1))] [] 0 0 (M2, w.2) _
                          refine jWp.le (l := [some (jO m), some (jI (r1 : Int)), some (jI (y1 : Int)), some (jI (len : Int)), some (jI ((k : Int) + 1))]) (by exact ⟨rfl, rfl, rfl, rfl, rfl, trivial⟩) ?_
                          exact ih9 (k + 1) (by omega) (by rw [← hr, show 60 - k = (60 - (k + 1)) + 1 by omega, zff_f (by omega)]) (by omega)
                        · have h20 : (k : Int) < (lenb : Int) := h20
                          refine jWp.blk mt 1 ?_
                          show _ ∧ jWp 158 114 [some (jO m), some (jI (r1 : Int)), some (jI (y1 : Int)), some (jI (len : Int)), some (jI (k : Int))] [jO m] 0 0 (M2, w.2) _
                          refine ⟨rfl, ?_⟩
                          refine jWp.getR (pc' := 117) (o := (m + 4)) mt rfl rfl (jtg hW.K0) hW.R3 ?_
                          show jWp 158 117 [some (jO m), some (jI (r1 : Int)), some (jI (y1 : Int)), some (jI (len : Int)), some (jI (k : Int))] [jO (m + 4)] 0 0 (M2, w.2) _
                          refine jWp.blk mt 1 ?_
                          show jWp 158 119 [some (jO m), some (jI (r1 : Int)), some (jI (y1 : Int)), some (jI (len : Int)), some (jI (k : Int))] [jI (k : Int), jO (m + 4)] 0 0 (M2, w.2) _
                          refine jWp.lald (pc' := 120) (j := k) mt rfl rfl (jtg hW.K4) (b32_id (by omega) (by omega)) (jlt hW.K4 (by omega)) ?_
                          rw [show ((M2, w.2).1 (m + 4) k) = (M2 (m + 4) k) from rfl]
                          show jWp 158 120 [some (jO m), some (jI (r1 : Int)), some (jI (y1 : Int)), some (jI (len : Int)), some (jI (k : Int))] [jJ (M2 (m + 4) k)] 0 0 (M2, w.2) _
                          refine jWp.blk mt 1 ?_
                          show _ ∧ jWp 158 121 [some (jO m), some (jI (r1 : Int)), some (jI (y1 : Int)), some (jI (len : Int)), some (jI (k : Int))] [jO m, jJ (M2 (m + 4) k)] 0 0 (M2, w.2) _
                          refine ⟨rfl, ?_⟩
                          refine jWp.getR (pc' := 124) (o := (m + 5)) mt rfl rfl (jtg hW.K0) hW.R10 ?_
                          show jWp 158 124 [some (jO m), some (jI (r1 : Int)), some (jI (y1 : Int)), some (jI (len : Int)), some (jI (k : Int))] [jO (m + 5), jJ (M2 (m + 4) k)] 0 0 (M2, w.2) _
                          refine jWp.blk mt 1 ?_
                          show jWp 158 126 [some (jO m), some (jI (r1 : Int)), some (jI (y1 : Int)), some (jI (len : Int)), some (jI (k : Int))] [jI (k : Int), jO (m + 5), jJ (M2 (m + 4) k)] 0 0 (M2, w.2) _
                          refine jWp.lald (pc' := 127) (j := k) mt rfl rfl (jtg hW.K5) (b32_id (by omega) (by omega)) (jlt hW.K5 (by omega)) ?_
                          rw [show ((M2, w.2).1 (m + 5) k) = (M2 (m + 5) k) from rfl]
                          show jWp 158 127 [some (jO m), some (jI (r1 : Int)), some (jI (y1 : Int)), some (jI (len : Int)), some (jI (k : Int))] [jJ (M2 (m + 5) k), jJ (M2 (m + 4) k)] 0 0 (M2, w.2) _
                          refine jWp.lcmp (pc' := 131) mt rfl rfl rfl (b64_id (by omega) (by omega)) (b64_id (by omega) (by omega)) (fun h21 => ?_) (fun h21 => ?_)
                          · have h21 : (M2 (m + 4) k) = (M2 (m + 5) k) := h21
                            refine jWp.blk mt 2 ?_
                            show jWp 158 69 [some (jO m), some (jI (r1 : Int)), some (jI (y1 : Int)), some (jI (len : Int)), some (jI ((k : Int) + 1))] [] 0 0 (M2, w.2) _
                            refine jWp.le (l := [some (jO m), some (jI (r1 : Int)), some (jI (y1 : Int)), some (jI (len : Int)), some (jI ((k : Int) + 1))]) (by exact ⟨rfl, rfl, rfl, rfl, rfl, trivial⟩) ?_
                            exact ih9 (k + 1) (by omega) (by rw [← hr, show 60 - k = (60 - (k + 1)) + 1 by omega, zff_f (by omega)]) (by omega)
                          · have h21 : (M2 (m + 4) k) ≠ (M2 (m + 5) k) := h21
                            refine jWp.blk mt 1 ?_
                            show jWp 158 133 [some (jO m), some (jI (r1 : Int)), some (jI (y1 : Int)), some (jI (len : Int)), some (jI (k : Int))] [jI (k : Int)] 0 0 (M2, w.2) _
                            refine jWp.ireti mt rfl ⟨rfl, rfl⟩ rfl ?_
                            try rw [show ((r1 : Nat) : Int).toNat = r1 from rfl]
                            try rw [show ((y1 : Nat) : Int).toNat = y1 from rfl]
                            refine ⟨fun c0 => ?_, fun c0 => ?_⟩
                            all_goals first
                            | (exfalso; omega)
                            | exact ⟨rfl, rfl⟩
                            | exact ⟨M2 (m + 4), lenb, whyb, leftb, M1 (m + 4), len, why, left, hTRb, hTR, by rw [← hr, show 60 - k = (60 - (k + 1)) + 1 by omega, zff_t (by omega)], hmqb⟩
            refine jWp.le (l := [some (jO m), some (jI (r1 : Int)), some (jI (y1 : Int)), some (jI (len : Int)), some (jI 0)]) (by exact ⟨rfl, rfl, rfl, rfl, rfl, trivial⟩) ?_
            exact lp8 _ 0 (by omega) rfl (Nat.lt_succ_self _)
          · have h6 : (e : Int) < (len : Int) := h6
            refine jWp.blk mt 1 ?_
            show _ ∧ jWp 158 42 [some (jO m), some (jI (r1 : Int)), some (jI (y1 : Int)), some (jI (len : Int)), some (jI (e : Int))] [jO m] 0 0 (kA (M1, w.2) (m + 5) T) _
            refine ⟨rfl, ?_⟩
            refine jWp.getR (pc' := 45) (o := (m + 5)) mt rfl rfl (jtg hW.K0) hW.R10 ?_
            show jWp 158 45 [some (jO m), some (jI (r1 : Int)), some (jI (y1 : Int)), some (jI (len : Int)), some (jI (e : Int))] [jO (m + 5)] 0 0 (kA (M1, w.2) (m + 5) T) _
            refine jWp.blk mt 2 ?_
            show _ ∧ jWp 158 48 [some (jO m), some (jI (r1 : Int)), some (jI (y1 : Int)), some (jI (len : Int)), some (jI (e : Int))] [jO m, jI (e : Int), jO (m + 5)] 0 0 (kA (M1, w.2) (m + 5) T) _
            refine ⟨rfl, ?_⟩
            refine jWp.getR (pc' := 51) (o := (m + 4)) mt rfl rfl (jtg hW.K0) hW.R3 ?_
            show jWp 158 51 [some (jO m), some (jI (r1 : Int)), some (jI (y1 : Int)), some (jI (len : Int)), some (jI (e : Int))] [jO (m + 4), jI (e : Int), jO (m + 5)] 0 0 (kA (M1, w.2) (m + 5) T) _
            refine jWp.blk mt 1 ?_
            show jWp 158 53 [some (jO m), some (jI (r1 : Int)), some (jI (y1 : Int)), some (jI (len : Int)), some (jI (e : Int))] [jI (e : Int), jO (m + 4), jI (e : Int), jO (m + 5)] 0 0 (kA (M1, w.2) (m + 5) T) _
            refine jWp.lald (pc' := 54) (j := e) mt rfl rfl (jtg hW.K4) (b32_id (by omega) (by omega)) (jlt hW.K4 (by omega)) ?_
            rw [show ((kA (M1, w.2) (m + 5) T).1 (m + 4) e) = (M1 (m + 4) e) from ((kA_a (by omega)).trans rfl)]
            show jWp 158 54 [some (jO m), some (jI (r1 : Int)), some (jI (y1 : Int)), some (jI (len : Int)), some (jI (e : Int))] [jJ (M1 (m + 4) e), jI (e : Int), jO (m + 5)] 0 0 (kA (M1, w.2) (m + 5) T) _
            refine jWp.last (pc' := 55) (j := e) mt rfl rfl (jtg hW.K5) (b32_id (by omega) (by omega)) (jlt hW.K5 (by omega)) ?_
            rw [show jW (kA (M1, w.2) (m + 5) T) (m + 5) e (M1 (m + 4) e) = (kA (M1, w.2) (m + 5) (zset T e (M1 (m + 4) e))) from kA_W]
            show jWp 158 55 [some (jO m), some (jI (r1 : Int)), some (jI (y1 : Int)), some (jI (len : Int)), some (jI (e : Int))] [] 0 0 (kA (M1, w.2) (m + 5) (zset T e (M1 (m + 4) e))) _
            refine jWp.blk mt 2 ?_
            show jWp 158 35 [some (jO m), some (jI (r1 : Int)), some (jI (y1 : Int)), some (jI (len : Int)), some (jI ((e : Int) + 1))] [] 0 0 (kA (M1, w.2) (m + 5) (zset T e (M1 (m + 4) e))) _
            refine jWp.le (l := [some (jO m), some (jI (r1 : Int)), some (jI (y1 : Int)), some (jI (len : Int)), some (jI ((e : Int) + 1))]) (by exact ⟨rfl, rfl, rfl, rfl, rfl, trivial⟩) ?_
            exact ih5 (e + 1) _ (by omega) (fun j hj => by rcases Nat.lt_or_ge j e with g | g; rw [zset_n (by omega)]; exact hTT j g; rw [show j = e by omega, zset_s]) (by omega)
      refine jWp.le (l := [some (jO m), some (jI (r1 : Int)), some (jI (y1 : Int)), some (jI (len : Int)), some (jI 0)]) (by exact ⟨rfl, rfl, rfl, rfl, rfl, trivial⟩) ?_
      have key := lp4 _ 0 (((M1, w.2) : jS).1 (m + 5)) (by omega) (fun j hj => absurd hj (by omega)) (Nat.lt_succ_self _)
      rw [kA_self] at key
      exact key
    · have h2 : ¬ (0 ≤ y ∧ y < (c : Int)) := h2
      show jWp 158 13 [some (jO m), some (jI (r1 : Int)), some (jI y), none, none] [jI 0] 0 0 w _
      refine jWp.ifc (b := false) mt rfl (by decide) rfl ?_
      show jWp 158 16 [some (jO m), some (jI (r1 : Int)), some (jI y), none, none] [] 0 0 w _
      refine jWp.blk mt 2 ?_
      show _ ∧ jWp 158 18 [some (jO m), some (jI (r1 : Int)), some (jI y), none, none] [jI (-1), jO m] 0 0 w _
      refine ⟨rfl, ?_⟩
      refine jWp.callv (as := [jO m, jI (-1)]) (rest := []) mt rfl rfl rfl ⟨rfl, jtg hW.K0⟩ ?_
      refine jCall.mono (E_refuses (w := w) (j := 1) hW (by decide) (by decide)) (fun v9 w9 h9 => ?_)
      obtain ⟨rfl, h9⟩ := h9
      subst h9
      show jWp 158 21 [some (jO m), some (jI (r1 : Int)), some (jI y), none, none] [jI (-1)] 0 0 (jW w (m + 3) 1 ((w.1 (m + 3) 1) + 1)) _
      refine jWp.ireti mt rfl ⟨rfl, rfl⟩ rfl ?_
      refine ⟨fun c0 => ?_, fun c0 => ?_⟩
      all_goals first
      | (exfalso; omega)
      | exact ⟨rfl, rfl⟩
  · have h1 : ¬ (0 ≤ r ∧ r < (c : Int)) := h1
    show jWp 158 5 [some (jO m), some (jI r), some (jI y), none, none] [jI 0] 0 0 w _
    refine jWp.ifc (b := true) mt rfl (by decide) rfl ?_
    show jWp 158 16 [some (jO m), some (jI r), some (jI y), none, none] [] 0 0 w _
    refine jWp.blk mt 2 ?_
    show _ ∧ jWp 158 18 [some (jO m), some (jI r), some (jI y), none, none] [jI (-1), jO m] 0 0 w _
    refine ⟨rfl, ?_⟩
    refine jWp.callv (as := [jO m, jI (-1)]) (rest := []) mt rfl rfl rfl ⟨rfl, jtg hW.K0⟩ ?_
    refine jCall.mono (E_refuses (w := w) (j := 1) hW (by decide) (by decide)) (fun v9 w9 h9 => ?_)
    obtain ⟨rfl, h9⟩ := h9
    subst h9
    show jWp 158 21 [some (jO m), some (jI r), some (jI y), none, none] [jI (-1)] 0 0 (jW w (m + 3) 1 ((w.1 (m + 3) 1) + 1)) _
    refine jWp.ireti mt rfl ⟨rfl, rfl⟩ rfl ?_
    refine ⟨fun c0 => ?_, fun c0 => ?_⟩
    all_goals first
    | (exfalso; omega)
    | exact ⟨rfl, rfl⟩
set_option maxHeartbeats 4000000 in
set_option maxRecDepth 20000 in
theorem E_judge {w : jS} {m : Nat} (hW : MW w.2 m) (hz : ∀ x, x < 3 → -1 ≤ w.1 (m + 423) x ∧ w.1 (m + 423) x ≤ 40) (hI : ∀ x, x < 3 → ∀ j, j < 40 → r32 (w.1 (m + (425 + x)) j)) {c : Nat} (hR : zRw (w.1 (m + 2)) c) {l r : Int} (hrl : r32 l) (hrr : r32 r) : jCall 212 [jO m, jI l, jI r] w (fun v w1 => ((¬ (0 ≤ l ∧ l ≤ 2) ∨ ¬ (0 ≤ r ∧ r < (c : Int))) → jno w m 1 (jI (-1)) v w1) ∧ (¬ (¬ (0 ≤ l ∧ l ≤ 2) ∨ ¬ (0 ≤ r ∧ r < (c : Int))) → ((w.1 (m + 423) l.toNat) < 0) → v = some (jI (-11)) ∧ w1 = w) ∧ (¬ (¬ (0 ≤ l ∧ l ≤ 2) ∨ ¬ (0 ≤ r ∧ r < (c : Int))) → ¬ ((w.1 (m + 423) l.toNat) < 0) → ∃ (t : Nat → Int) (len : Nat) (why left : Int), zTR (w.1 (m + 2)) r.toNat t len why left ∧ v = some (jI (zff (fun k => ¬ k < len ∨ (w.1 (m + (425 + l.toNat))) k ≠ t k) (w.1 (m + 423) l.toNat).toNat 0)) ∧ mq w m w1)) := by
  have mt : jtb 212 = jT212 := rfl
  have hc4 := hR.2.1
  have hrr1 : -2147483648 ≤ r ∧ r < 2147483648 := hrr
  have hrl1 : -2147483648 ≤ l ∧ l < 2147483648 := hrl
  show jWp 212 0 [some (jO m), some (jI l), some (jI r), none] [] 0 0 w _
  refine jWp.blk mt 1 ?_
  show jWp 212 1 [some (jO m), some (jI l), some (jI r), none] [jI l] 0 0 w _
  refine jWp.calls (as := [jI l]) (rest := []) mt rfl rfl rfl rfl ?_
  refine jCall.mono (E_isList hrl) (fun v9 w9 h9 => ?_)
  rcases h9 with ⟨rfl, h9, h1⟩ | ⟨rfl, h9, h1⟩ <;> subst w9
  · have h1 : 0 ≤ l ∧ l ≤ 2 := h1
    show jWp 212 4 [some (jO m), some (jI l), some (jI r), none] [jI 1] 0 0 w _
    obtain ⟨l1, rfl⟩ : ∃ l1 : Nat, l = (l1 : Int) := ⟨l.toNat, by omega⟩
    show jWp 212 4 [some (jO m), some (jI (l1 : Int)), some (jI r), none] [jI 1] 0 0 w _
    have hz2 : -1 ≤ w.1 (m + 423) l1 ∧ w.1 (m + 423) l1 ≤ 40 := hz l1 (by omega)
    refine jWp.ifc (b := false) mt rfl (by decide) rfl ?_
    show jWp 212 7 [some (jO m), some (jI (l1 : Int)), some (jI r), none] [] 0 0 w _
    refine jWp.blk mt 2 ?_
    show _ ∧ jWp 212 9 [some (jO m), some (jI (l1 : Int)), some (jI r), none] [jI r, jO m] 0 0 w _
    refine ⟨rfl, ?_⟩
    refine jWp.callv (as := [jO m, jI r]) (rest := []) mt rfl rfl rfl ⟨rfl, jtg hW.K0⟩ ?_
    refine jCall.mono (E_isRow hW hR hrr) (fun v9 w9 h9 => ?_)
    rcases h9 with ⟨rfl, h9, h2⟩ | ⟨rfl, h9, h2⟩ <;> subst w9
    · have h2 : 0 ≤ r ∧ r < (c : Int) := h2
      show jWp 212 12 [some (jO m), some (jI (l1 : Int)), some (jI r), none] [jI 1] 0 0 w _
      obtain ⟨r1, rfl⟩ : ∃ r1 : Nat, r = (r1 : Int) := ⟨r.toNat, by omega⟩
      show jWp 212 12 [some (jO m), some (jI (l1 : Int)), some (jI (r1 : Int)), none] [jI 1] 0 0 w _
      have hRr := hR.2.2 r1 (by omega)
      have hRo := zO_b hRr.1.1 hRr.1.2
      refine jWp.ifc (b := true) mt rfl (by decide) rfl ?_
      show jWp 212 21 [some (jO m), some (jI (l1 : Int)), some (jI (r1 : Int)), none] [] 0 0 w _
      refine jWp.blk mt 1 ?_
      show _ ∧ jWp 212 22 [some (jO m), some (jI (l1 : Int)), some (jI (r1 : Int)), none] [jO m] 0 0 w _
      refine ⟨rfl, ?_⟩
      refine jWp.getR (pc' := 25) (o := (m + 423)) mt rfl rfl (jtg hW.K0) hW.R27 ?_
      show jWp 212 25 [some (jO m), some (jI (l1 : Int)), some (jI (r1 : Int)), none] [jO (m + 423)] 0 0 w _
      refine jWp.blk mt 1 ?_
      show jWp 212 26 [some (jO m), some (jI (l1 : Int)), some (jI (r1 : Int)), none] [jI (l1 : Int), jO (m + 423)] 0 0 w _
      refine jWp.iald (pc' := 27) (j := l1) mt rfl rfl (jird_of hW.K423) (b32_id (by omega) (by omega)) (jlt hW.K423 (by omega)) ?_
      show jWp 212 27 [some (jO m), some (jI (l1 : Int)), some (jI (r1 : Int)), none] [jI (w.1 (m + 423) l1)] 0 0 w _
      refine jWp.ifz (pc' := 30) mt rfl rfl (b32_id (by omega) (by omega)) (fun h3 => ?_) (fun h3 => ?_)
      · have h3 : 0 ≤ (w.1 (m + 423) l1) := h3
        refine jWp.blk mt 2 ?_
        show _ ∧ jWp 212 35 [some (jO m), some (jI (l1 : Int)), some (jI (r1 : Int)), none] [jI (r1 : Int), jO m] 0 0 w _
        refine ⟨rfl, ?_⟩
        refine jWp.callv (as := [jO m, jI (r1 : Int)]) (rest := []) mt rfl rfl rfl ⟨rfl, jtg hW.K0⟩ ?_
        refine jCall.mono (E_termsW (w := w) (W := w) (x := r1) hW hR (by omega) mq_0) (fun v9 w9 h9 => ?_)
        obtain ⟨rfl, hF, hmq, len, why, left, k4, k5, k6, hTR⟩ := h9
        obtain ⟨M1, G9⟩ := w9
        have hg : G9 = w.2 := hmq.1
        subst hg
        have k4 : M1 m 4 = (len : Int) := k4
        have hTR : zTR (w.1 (m + 2)) r1 (M1 (m + 4)) len why left := hTR
        have hTb := zTR_b hR (by omega) hTR
        have hM2 : M1 (m + 2) = w.1 (m + 2) := hmq.2.1 _ (by omega)
        show jWp 212 38 [some (jO m), some (jI (l1 : Int)), some (jI (r1 : Int)), none] [] 0 0 (M1, w.2) _
        refine jWp.blk mt 2 ?_
        show jWp 212 40 [some (jO m), some (jI (l1 : Int)), some (jI (r1 : Int)), some (jI 0)] [] 0 0 (M1, w.2) _
        have lp5 : ∀ (N : Nat) (k : Nat) (hk : k ≤ (w.1 (m + 423) l1).toNat) (hr : zff (fun k => ¬ k < len ∨ (w.1 (m + (425 + l1))) k ≠ M1 (m + 4) k) ((w.1 (m + 423) l1).toNat - k) k = zff (fun k => ¬ k < len ∨ (w.1 (m + (425 + l1))) k ≠ M1 (m + 4) k) (w.1 (m + 423) l1).toNat 0), (w.1 (m + 423) l1).toNat - k < N → jWp 212 40 [some (jO m), some (jI (l1 : Int)), some (jI (r1 : Int)), some (jI (k : Int))] [] 0 0 (M1, w.2) (fun v w1 => ((¬ (0 ≤ (l1 : Int) ∧ (l1 : Int) ≤ 2) ∨ ¬ (0 ≤ (r1 : Int) ∧ (r1 : Int) < (c : Int))) → jno w m 1 (jI (-1)) v w1) ∧ (¬ (¬ (0 ≤ (l1 : Int) ∧ (l1 : Int) ≤ 2) ∨ ¬ (0 ≤ (r1 : Int) ∧ (r1 : Int) < (c : Int))) → ((w.1 (m + 423) (l1 : Int).toNat) < 0) → v = some (jI (-11)) ∧ w1 = w) ∧ (¬ (¬ (0 ≤ (l1 : Int) ∧ (l1 : Int) ≤ 2) ∨ ¬ (0 ≤ (r1 : Int) ∧ (r1 : Int) < (c : Int))) → ¬ ((w.1 (m + 423) (l1 : Int).toNat) < 0) → ∃ (t : Nat → Int) (len : Nat) (why left : Int), zTR (w.1 (m + 2)) (r1 : Int).toNat t len why left ∧ v = some (jI (zff (fun k => ¬ k < len ∨ (w.1 (m + (425 + (l1 : Int).toNat))) k ≠ t k) (w.1 (m + 423) (l1 : Int).toNat).toNat 0)) ∧ mq w m w1)) := by
          intro N
          induction N with
          | zero => intro k hk hr hm; omega
          | succ N ih6 =>
            intro k hk hr hm
            have hf : k < len → _ := fun h => hTb.2.2 k h
            have hl60 := hTb.1
            have hi9 : k < 40 → -2147483648 ≤ w.1 (m + (425 + l1)) k ∧ w.1 (m + (425 + l1)) k < 2147483648 := fun h => hI l1 (by omega) k h
            refine jWp.blk mt 2 ?_
            show _ ∧ jWp 212 42 [some (jO m), some (jI (l1 : Int)), some (jI (r1 : Int)), some (jI (k : Int))] [jO m, jI (k : Int)] 0 0 (M1, w.2) _
            refine ⟨rfl, ?_⟩
            refine jWp.getR (pc' := 45) (o := (m + 423)) mt rfl rfl (jtg hW.K0) hW.R27 ?_
            show jWp 212 45 [some (jO m), some (jI (l1 : Int)), some (jI (r1 : Int)), some (jI (k : Int))] [jO (m + 423), jI (k : Int)] 0 0 (M1, w.2) _
            refine jWp.blk mt 1 ?_
            show jWp 212 46 [some (jO m), some (jI (l1 : Int)), some (jI (r1 : Int)), some (jI (k : Int))] [jI (l1 : Int), jO (m + 423), jI (k : Int)] 0 0 (M1, w.2) _
            refine jWp.iald (pc' := 47) (j := l1) mt rfl rfl (jird_of hW.K423) (b32_id (by omega) (by omega)) (jlt hW.K423 (by omega)) ?_
            rw [show ((M1, w.2).1 (m + 423) l1) = (w.1 (m + 423) l1) from (congrFun (hmq.2.1 _ (by omega)) _)]
            show jWp 212 47 [some (jO m), some (jI (l1 : Int)), some (jI (r1 : Int)), some (jI (k : Int))] [jI (w.1 (m + 423) l1), jI (k : Int)] 0 0 (M1, w.2) _
            refine jWp.icmp (pc' := 50) mt rfl rfl (b32_id (by omega) (by omega)) (b32_id (by omega) (by omega)) (fun h7 => ?_) (fun h7 => ?_)
            · have h7 : (w.1 (m + 423) l1) ≤ (k : Int) := h7
              refine jWp.blk mt 1 ?_
              show jWp 212 86 [some (jO m), some (jI (l1 : Int)), some (jI (r1 : Int)), some (jI (k : Int))] [jI (-9)] 0 0 (M1, w.2) _
              refine jWp.ireti mt rfl ⟨rfl, rfl⟩ rfl ?_
              try rw [show ((r1 : Nat) : Int).toNat = r1 from rfl]
              try rw [show ((l1 : Nat) : Int).toNat = l1 from rfl]
              refine ⟨fun c0 => ?_, fun c0 c1 => ?_, fun c0 c1 => ?_⟩
              all_goals first
              | (exfalso; omega)
              | exact ⟨rfl, rfl⟩
              | exact ⟨M1 (m + 4), len, why, left, hTR, by rw [← hr, show (w.1 (m + 423) l1).toNat - k = 0 by omega]; rfl, hmq⟩
            · have h7 : (k : Int) < (w.1 (m + 423) l1) := h7
              refine jWp.blk mt 2 ?_
              show _ ∧ jWp 212 52 [some (jO m), some (jI (l1 : Int)), some (jI (r1 : Int)), some (jI (k : Int))] [jO m, jI (k : Int)] 0 0 (M1, w.2) _
              refine ⟨rfl, ?_⟩
              refine jWp.getI (pc' := 55) mt rfl rfl (jtg hW.K0) ?_
              rw [show ((M1, w.2).1 m 4) = (len : Int) from k4]
              show jWp 212 55 [some (jO m), some (jI (l1 : Int)), some (jI (r1 : Int)), some (jI (k : Int))] [jI (len : Int), jI (k : Int)] 0 0 (M1, w.2) _
              refine jWp.icmp (pc' := 58) mt rfl rfl (b32_id (by omega) (by omega)) (b32_id (by omega) (by omega)) (fun h8 => ?_) (fun h8 => ?_)
              · have h8 : (len : Int) ≤ (k : Int) := h8
                refine jWp.blk mt 1 ?_
                show jWp 212 77 [some (jO m), some (jI (l1 : Int)), some (jI (r1 : Int)), some (jI (k : Int))] [jI (k : Int)] 0 0 (M1, w.2) _
                refine jWp.ireti mt rfl ⟨rfl, rfl⟩ rfl ?_
                try rw [show ((r1 : Nat) : Int).toNat = r1 from rfl]
                try rw [show ((l1 : Nat) : Int).toNat = l1 from rfl]
                refine ⟨fun c0 => ?_, fun c0 c1 => ?_, fun c0 c1 => ?_⟩
                all_goals first
                | (exfalso; omega)
                | exact ⟨rfl, rfl⟩
                | exact ⟨M1 (m + 4), len, why, left, hTR, by rw [← hr, show (w.1 (m + 423) l1).toNat - k = ((w.1 (m + 423) l1).toNat - (k + 1)) + 1 by omega, zff_t (by omega)], hmq⟩
              · have h8 : (k : Int) < (len : Int) := h8
                refine jWp.blk mt 1 ?_
                show _ ∧ jWp 212 59 [some (jO m), some (jI (l1 : Int)), some (jI (r1 : Int)), some (jI (k : Int))] [jO m] 0 0 (M1, w.2) _
                refine ⟨rfl, ?_⟩
                refine jWp.getR (pc' := 62) (o := (m + 424)) mt rfl rfl (jtg hW.K0) hW.R28 ?_
                show jWp 212 62 [some (jO m), some (jI (l1 : Int)), some (jI (r1 : Int)), some (jI (k : Int))] [jO (m + 424)] 0 0 (M1, w.2) _
                refine jWp.blk mt 1 ?_
                show jWp 212 63 [some (jO m), some (jI (l1 : Int)), some (jI (r1 : Int)), some (jI (k : Int))] [jI (l1 : Int), jO (m + 424)] 0 0 (M1, w.2) _
                refine jWp.aald (pc' := 64) (j := l1) (o := (m + (425 + l1))) mt rfl rfl (jrg hW.K424 (by decide) (by decide)) (b32_id (by omega) (by omega)) (jlt hW.K424 (by omega)) (hW.RI l1 (by omega)) ?_
                show jWp 212 64 [some (jO m), some (jI (l1 : Int)), some (jI (r1 : Int)), some (jI (k : Int))] [jO (m + (425 + l1))] 0 0 (M1, w.2) _
                refine jWp.blk mt 1 ?_
                show jWp 212 65 [some (jO m), some (jI (l1 : Int)), some (jI (r1 : Int)), some (jI (k : Int))] [jI (k : Int), jO (m + (425 + l1))] 0 0 (M1, w.2) _
                refine jWp.lald (pc' := 66) (j := k) mt rfl rfl (jtg (hW.KI _ (by omega))) (b32_id (by omega) (by omega)) (jlt (hW.KI _ (by omega)) (by omega)) ?_
                rw [show ((M1, w.2).1 (m + (425 + l1)) k) = (w.1 (m + (425 + l1)) k) from (congrFun (hmq.2.1 _ (by omega)) _)]
                show jWp 212 66 [some (jO m), some (jI (l1 : Int)), some (jI (r1 : Int)), some (jI (k : Int))] [jJ (w.1 (m + (425 + l1)) k)] 0 0 (M1, w.2) _
                refine jWp.blk mt 1 ?_
                show _ ∧ jWp 212 67 [some (jO m), some (jI (l1 : Int)), some (jI (r1 : Int)), some (jI (k : Int))] [jO m, jJ (w.1 (m + (425 + l1)) k)] 0 0 (M1, w.2) _
                refine ⟨rfl, ?_⟩
                refine jWp.getR (pc' := 70) (o := (m + 4)) mt rfl rfl (jtg hW.K0) hW.R3 ?_
                show jWp 212 70 [some (jO m), some (jI (l1 : Int)), some (jI (r1 : Int)), some (jI (k : Int))] [jO (m + 4), jJ (w.1 (m + (425 + l1)) k)] 0 0 (M1, w.2) _
                refine jWp.blk mt 1 ?_
                show jWp 212 71 [some (jO m), some (jI (l1 : Int)), some (jI (r1 : Int)), some (jI (k : Int))] [jI (k : Int), jO (m + 4), jJ (w.1 (m + (425 + l1)) k)] 0 0 (M1, w.2) _
                refine jWp.lald (pc' := 72) (j := k) mt rfl rfl (jtg hW.K4) (b32_id (by omega) (by omega)) (jlt hW.K4 (by omega)) ?_
                rw [show ((M1, w.2).1 (m + 4) k) = (M1 (m + 4) k) from rfl]
                show jWp 212 72 [some (jO m), some (jI (l1 : Int)), some (jI (r1 : Int)), some (jI (k : Int))] [jJ (M1 (m + 4) k), jJ (w.1 (m + (425 + l1)) k)] 0 0 (M1, w.2) _
                refine jWp.lcmp (pc' := 76) mt rfl rfl rfl (b64_id (by omega) (by omega)) (b64_id (by omega) (by omega)) (fun h9 => ?_) (fun h9 => ?_)
                · have h9 : (w.1 (m + (425 + l1)) k) = (M1 (m + 4) k) := h9
                  refine jWp.blk mt 2 ?_
                  show jWp 212 40 [some (jO m), some (jI (l1 : Int)), some (jI (r1 : Int)), some (jI ((k : Int) + 1))] [] 0 0 (M1, w.2) _
                  refine jWp.le (l := [some (jO m), some (jI (l1 : Int)), some (jI (r1 : Int)), some (jI ((k : Int) + 1))]) (by exact ⟨rfl, rfl, rfl, rfl, trivial⟩) ?_
                  exact ih6 (k + 1) (by omega) (by rw [← hr, show (w.1 (m + 423) l1).toNat - k = ((w.1 (m + 423) l1).toNat - (k + 1)) + 1 by omega, zff_f (by omega)]) (by omega)
                · have h9 : (w.1 (m + (425 + l1)) k) ≠ (M1 (m + 4) k) := h9
                  refine jWp.blk mt 1 ?_
                  show jWp 212 77 [some (jO m), some (jI (l1 : Int)), some (jI (r1 : Int)), some (jI (k : Int))] [jI (k : Int)] 0 0 (M1, w.2) _
                  refine jWp.ireti mt rfl ⟨rfl, rfl⟩ rfl ?_
                  try rw [show ((r1 : Nat) : Int).toNat = r1 from rfl]
                  try rw [show ((l1 : Nat) : Int).toNat = l1 from rfl]
                  refine ⟨fun c0 => ?_, fun c0 c1 => ?_, fun c0 c1 => ?_⟩
                  all_goals first
                  | (exfalso; omega)
                  | exact ⟨rfl, rfl⟩
                  | exact ⟨M1 (m + 4), len, why, left, hTR, by rw [← hr, show (w.1 (m + 423) l1).toNat - k = ((w.1 (m + 423) l1).toNat - (k + 1)) + 1 by omega, zff_t (by omega)], hmq⟩
        refine jWp.le (l := [some (jO m), some (jI (l1 : Int)), some (jI (r1 : Int)), some (jI 0)]) (by exact ⟨rfl, rfl, rfl, rfl, trivial⟩) ?_
        exact lp5 _ 0 (by omega) rfl (Nat.lt_succ_self _)
      · have h3 : (w.1 (m + 423) l1) < 0 := h3
        refine jWp.blk mt 1 ?_
        show jWp 212 32 [some (jO m), some (jI (l1 : Int)), some (jI (r1 : Int)), none] [jI (-11)] 0 0 w _
        refine jWp.ireti mt rfl ⟨rfl, rfl⟩ rfl ?_
        try rw [show ((l1 : Nat) : Int).toNat = l1 from rfl]
        try rw [show ((r1 : Nat) : Int).toNat = r1 from rfl]
        refine ⟨fun c0 => ?_, fun c0 c1 => ?_, fun c0 c1 => ?_⟩
        all_goals first
        | (exfalso; omega)
        | exact ⟨rfl, rfl⟩
    · have h2 : ¬ (0 ≤ r ∧ r < (c : Int)) := h2
      show jWp 212 12 [some (jO m), some (jI (l1 : Int)), some (jI r), none] [jI 0] 0 0 w _
      refine jWp.ifc (b := false) mt rfl (by decide) rfl ?_
      show jWp 212 15 [some (jO m), some (jI (l1 : Int)), some (jI r), none] [] 0 0 w _
      refine jWp.blk mt 2 ?_
      show _ ∧ jWp 212 17 [some (jO m), some (jI (l1 : Int)), some (jI r), none] [jI (-1), jO m] 0 0 w _
      refine ⟨rfl, ?_⟩
      refine jWp.callv (as := [jO m, jI (-1)]) (rest := []) mt rfl rfl rfl ⟨rfl, jtg hW.K0⟩ ?_
      refine jCall.mono (E_refuses (w := w) (j := 1) hW (by decide) (by decide)) (fun v9 w9 h9 => ?_)
      obtain ⟨rfl, h9⟩ := h9
      subst h9
      show jWp 212 20 [some (jO m), some (jI (l1 : Int)), some (jI r), none] [jI (-1)] 0 0 (jW w (m + 3) 1 ((w.1 (m + 3) 1) + 1)) _
      refine jWp.ireti mt rfl ⟨rfl, rfl⟩ rfl ?_
      try rw [show ((l1 : Nat) : Int).toNat = l1 from rfl]
      try rw [show ((r1 : Nat) : Int).toNat = r1 from rfl]
      refine ⟨fun c0 => ?_, fun c0 c1 => ?_, fun c0 c1 => ?_⟩
      all_goals first
      | (exfalso; omega)
      | exact ⟨rfl, rfl⟩
  · have h1 : ¬ (0 ≤ l ∧ l ≤ 2) := h1
    show jWp 212 4 [some (jO m), some (jI l), some (jI r), none] [jI 0] 0 0 w _
    refine jWp.ifc (b := true) mt rfl (by decide) rfl ?_
    show jWp 212 15 [some (jO m), some (jI l), some (jI r), none] [] 0 0 w _
    refine jWp.blk mt 2 ?_
    show _ ∧ jWp 212 17 [some (jO m), some (jI l), some (jI r), none] [jI (-1), jO m] 0 0 w _
    refine ⟨rfl, ?_⟩
    refine jWp.callv (as := [jO m, jI (-1)]) (rest := []) mt rfl rfl rfl ⟨rfl, jtg hW.K0⟩ ?_
    refine jCall.mono (E_refuses (w := w) (j := 1) hW (by decide) (by decide)) (fun v9 w9 h9 => ?_)
    obtain ⟨rfl, h9⟩ := h9
    subst h9
    show jWp 212 20 [some (jO m), some (jI l), some (jI r), none] [jI (-1)] 0 0 (jW w (m + 3) 1 ((w.1 (m + 3) 1) + 1)) _
    refine jWp.ireti mt rfl ⟨rfl, rfl⟩ rfl ?_
    try rw [show ((l1 : Nat) : Int).toNat = l1 from rfl]
    try rw [show ((r1 : Nat) : Int).toNat = r1 from rfl]
    refine ⟨fun c0 => ?_, fun c0 c1 => ?_, fun c0 c1 => ?_⟩
    all_goals first
    | (exfalso; omega)
    | exact ⟨rfl, rfl⟩
/-- the numbers of a list behind so many terms laid into it -/
def zly (q t T : Nat → Int) (i n : Nat) : Prop := ∀ j, j < 40 → T j = if i ≤ j ∧ j < i + n then t (j - i) else q j
set_option maxHeartbeats 4000000 in
set_option maxRecDepth 20000 in
theorem E_lays {w : jS} {m : Nat} (hW : MW w.2 m) (hz : ∀ x, x < 3 → -1 ≤ w.1 (m + 423) x ∧ w.1 (m + 423) x ≤ 40) (hI : ∀ x, x < 3 → ∀ j, j < 40 → r32 (w.1 (m + (425 + x)) j)) {c : Nat} (hR : zRw (w.1 (m + 2)) c) {l i r : Int} (hrl : r32 l) (hri : r32 i) (hrr : r32 r) : jCall 216 [jO m, jI l, jI i, jI r] w (fun v w1 => ((¬ (0 ≤ l ∧ l ≤ 2) ∨ ¬ (0 ≤ r ∧ r < (c : Int))) → jno w m 1 (jI (-1)) v w1) ∧ (¬ (¬ (0 ≤ l ∧ l ≤ 2) ∨ ¬ (0 ≤ r ∧ r < (c : Int))) → ((w.1 (m + 423) l.toNat) < 0) → v = some (jI (-11)) ∧ w1 = w) ∧ (¬ (¬ (0 ≤ l ∧ l ≤ 2) ∨ ¬ (0 ≤ r ∧ r < (c : Int))) → ¬ ((w.1 (m + 423) l.toNat) < 0) → (¬ (0 ≤ i ∧ i < (w.1 (m + 423) l.toNat))) → v = some (jI (-13)) ∧ w1 = w) ∧ (¬ (¬ (0 ≤ l ∧ l ≤ 2) ∨ ¬ (0 ≤ r ∧ r < (c : Int))) → ¬ ((w.1 (m + 423) l.toNat) < 0) → ¬ (¬ (0 ≤ i ∧ i < (w.1 (m + 423) l.toNat))) → ∃ (t : Nat → Int) (len : Nat) (why left : Int), zTR (w.1 (m + 2)) r.toNat t len why left ∧ ∃ n : Nat, v = some (jI (n : Int)) ∧ (n ≤ len ∧ (i + (n : Int)) ≤ (w.1 (m + 423) l.toNat) ∧ (n < len → i + (n : Int) = (w.1 (m + 423) l.toNat))) ∧ ∃ w2 T, mq w m w2 ∧ w1 = kA w2 (m + (425 + l.toNat)) T ∧ zly (w.1 (m + (425 + l.toNat))) t T i.toNat n)) := by
  have mt : jtb 216 = jT216 := rfl
  have hc4 := hR.2.1
  have hrr1 : -2147483648 ≤ r ∧ r < 2147483648 := hrr
  have hrl1 : -2147483648 ≤ l ∧ l < 2147483648 := hrl
  have hri1 : -2147483648 ≤ i ∧ i < 2147483648 := hri
  show jWp 216 0 [some (jO m), some (jI l), some (jI i), some (jI r), none] [] 0 0 w _
  refine jWp.blk mt 1 ?_
  show jWp 216 1 [some (jO m), some (jI l), some (jI i), some (jI r), none] [jI l] 0 0 w _
  refine jWp.calls (as := [jI l]) (rest := []) mt rfl rfl rfl rfl ?_
  refine jCall.mono (E_isList hrl) (fun v9 w9 h9 => ?_)
  rcases h9 with ⟨rfl, h9, h1⟩ | ⟨rfl, h9, h1⟩ <;> subst w9
  · have h1 : 0 ≤ l ∧ l ≤ 2 := h1
    show jWp 216 4 [some (jO m), some (jI l), some (jI i), some (jI r), none] [jI 1] 0 0 w _
    obtain ⟨l1, rfl⟩ : ∃ l1 : Nat, l = (l1 : Int) := ⟨l.toNat, by omega⟩
    show jWp 216 4 [some (jO m), some (jI (l1 : Int)), some (jI i), some (jI r), none] [jI 1] 0 0 w _
    have hz2 : -1 ≤ w.1 (m + 423) l1 ∧ w.1 (m + 423) l1 ≤ 40 := hz l1 (by omega)
    refine jWp.ifc (b := false) mt rfl (by decide) rfl ?_
    show jWp 216 7 [some (jO m), some (jI (l1 : Int)), some (jI i), some (jI r), none] [] 0 0 w _
    refine jWp.blk mt 2 ?_
    show _ ∧ jWp 216 9 [some (jO m), some (jI (l1 : Int)), some (jI i), some (jI r), none] [jI r, jO m] 0 0 w _
    refine ⟨rfl, ?_⟩
    refine jWp.callv (as := [jO m, jI r]) (rest := []) mt rfl rfl rfl ⟨rfl, jtg hW.K0⟩ ?_
    refine jCall.mono (E_isRow hW hR hrr) (fun v9 w9 h9 => ?_)
    rcases h9 with ⟨rfl, h9, h2⟩ | ⟨rfl, h9, h2⟩ <;> subst w9
    · have h2 : 0 ≤ r ∧ r < (c : Int) := h2
      show jWp 216 12 [some (jO m), some (jI (l1 : Int)), some (jI i), some (jI r), none] [jI 1] 0 0 w _
      obtain ⟨r1, rfl⟩ : ∃ r1 : Nat, r = (r1 : Int) := ⟨r.toNat, by omega⟩
      show jWp 216 12 [some (jO m), some (jI (l1 : Int)), some (jI i), some (jI (r1 : Int)), none] [jI 1] 0 0 w _
      have hRr := hR.2.2 r1 (by omega)
      have hRo := zO_b hRr.1.1 hRr.1.2
      refine jWp.ifc (b := true) mt rfl (by decide) rfl ?_
      show jWp 216 21 [some (jO m), some (jI (l1 : Int)), some (jI i), some (jI (r1 : Int)), none] [] 0 0 w _
      refine jWp.blk mt 1 ?_
      show _ ∧ jWp 216 22 [some (jO m), some (jI (l1 : Int)), some (jI i), some (jI (r1 : Int)), none] [jO m] 0 0 w _
      refine ⟨rfl, ?_⟩
      refine jWp.getR (pc' := 25) (o := (m + 423)) mt rfl rfl (jtg hW.K0) hW.R27 ?_
      show jWp 216 25 [some (jO m), some (jI (l1 : Int)), some (jI i), some (jI (r1 : Int)), none] [jO (m + 423)] 0 0 w _
      refine jWp.blk mt 1 ?_
      show jWp 216 26 [some (jO m), some (jI (l1 : Int)), some (jI i), some (jI (r1 : Int)), none] [jI (l1 : Int), jO (m + 423)] 0 0 w _
      refine jWp.iald (pc' := 27) (j := l1) mt rfl rfl (jird_of hW.K423) (b32_id (by omega) (by omega)) (jlt hW.K423 (by omega)) ?_
      show jWp 216 27 [some (jO m), some (jI (l1 : Int)), some (jI i), some (jI (r1 : Int)), none] [jI (w.1 (m + 423) l1)] 0 0 w _
      refine jWp.ifz (pc' := 30) mt rfl rfl (b32_id (by omega) (by omega)) (fun h3 => ?_) (fun h3 => ?_)
      · have h3 : 0 ≤ (w.1 (m + 423) l1) := h3
        refine jWp.blk mt 1 ?_
        show jWp 216 34 [some (jO m), some (jI (l1 : Int)), some (jI i), some (jI (r1 : Int)), none] [jI i] 0 0 w _
        refine jWp.i2l (pc' := 35) mt rfl rfl (b32_id (by omega) (by omega)) ?_
        show jWp 216 35 [some (jO m), some (jI (l1 : Int)), some (jI i), some (jI (r1 : Int)), none] [jJ i] 0 0 w _
        refine jWp.blk mt 2 ?_
        show _ ∧ jWp 216 37 [some (jO m), some (jI (l1 : Int)), some (jI i), some (jI (r1 : Int)), none] [jO m, jJ 0, jJ i] 0 0 w _
        refine ⟨rfl, ?_⟩
        refine jWp.getR (pc' := 40) (o := (m + 423)) mt rfl rfl (jtg hW.K0) hW.R27 ?_
        show jWp 216 40 [some (jO m), some (jI (l1 : Int)), some (jI i), some (jI (r1 : Int)), none] [jO (m + 423), jJ 0, jJ i] 0 0 w _
        refine jWp.blk mt 1 ?_
        show jWp 216 41 [some (jO m), some (jI (l1 : Int)), some (jI i), some (jI (r1 : Int)), none] [jI (l1 : Int), jO (m + 423), jJ 0, jJ i] 0 0 w _
        refine jWp.iald (pc' := 42) (j := l1) mt rfl rfl (jird_of hW.K423) (b32_id (by omega) (by omega)) (jlt hW.K423 (by omega)) ?_
        show jWp 216 42 [some (jO m), some (jI (l1 : Int)), some (jI i), some (jI (r1 : Int)), none] [jI (w.1 (m + 423) l1), jJ 0, jJ i] 0 0 w _
        refine jWp.blk mt 2 ?_
        show jWp 216 44 [some (jO m), some (jI (l1 : Int)), some (jI i), some (jI (r1 : Int)), none] [jI ((w.1 (m + 423) l1) - 1), jJ 0, jJ i] 0 0 w _
        refine jWp.i2l (pc' := 45) mt rfl rfl (b32_id (by omega) (by omega)) ?_
        show jWp 216 45 [some (jO m), some (jI (l1 : Int)), some (jI i), some (jI (r1 : Int)), none] [jJ ((w.1 (m + 423) l1) - 1), jJ 0, jJ i] 0 0 w _
        refine jWp.calls (as := [jJ i, jJ 0, jJ ((w.1 (m + 423) l1) - 1)]) (rest := []) mt rfl rfl rfl rfl ?_
        refine jCall.mono (E_in (b64_id (by omega) (by omega)) (show b64 0 = 0 by decide) (b64_id (by omega) (by omega))) (fun v9 w9 h9 => ?_)
        rcases h9 with ⟨rfl, h9, h4⟩ | ⟨rfl, h9, h4⟩ <;> subst w9
        · have h4 : 0 ≤ i ∧ i ≤ ((w.1 (m + 423) l1) - 1) := h4
          show jWp 216 48 [some (jO m), some (jI (l1 : Int)), some (jI i), some (jI (r1 : Int)), none] [jI 1] 0 0 w _
          refine jWp.ifc (b := true) mt rfl (by decide) rfl ?_
          show jWp 216 54 [some (jO m), some (jI (l1 : Int)), some (jI i), some (jI (r1 : Int)), none] [] 0 0 w _
          obtain ⟨i1, rfl⟩ : ∃ i1 : Nat, i = (i1 : Int) := ⟨i.toNat, by omega⟩
          show jWp 216 54 [some (jO m), some (jI (l1 : Int)), some (jI (i1 : Int)), some (jI (r1 : Int)), none] [] 0 0 w _
          refine jWp.blk mt 2 ?_
          show _ ∧ jWp 216 56 [some (jO m), some (jI (l1 : Int)), some (jI (i1 : Int)), some (jI (r1 : Int)), none] [jI (r1 : Int), jO m] 0 0 w _
          refine ⟨rfl, ?_⟩
          refine jWp.callv (as := [jO m, jI (r1 : Int)]) (rest := []) mt rfl rfl rfl ⟨rfl, jtg hW.K0⟩ ?_
          refine jCall.mono (E_termsW (w := w) (W := w) (x := r1) hW hR (by omega) mq_0) (fun v9 w9 h9 => ?_)
          obtain ⟨rfl, hF, hmq, len, why, left, k4, k5, k6, hTR⟩ := h9
          obtain ⟨M1, G9⟩ := w9
          have hg : G9 = w.2 := hmq.1
          subst hg
          have k4 : M1 m 4 = (len : Int) := k4
          have hTR : zTR (w.1 (m + 2)) r1 (M1 (m + 4)) len why left := hTR
          have hTb := zTR_b hR (by omega) hTR
          have hM2 : M1 (m + 2) = w.1 (m + 2) := hmq.2.1 _ (by omega)
          show jWp 216 59 [some (jO m), some (jI (l1 : Int)), some (jI (i1 : Int)), some (jI (r1 : Int)), none] [] 0 0 (M1, w.2) _
          refine jWp.blk mt 2 ?_
          show jWp 216 62 [some (jO m), some (jI (l1 : Int)), some (jI (i1 : Int)), some (jI (r1 : Int)), some (jI 0)] [] 0 0 (M1, w.2) _
          have lp6 : ∀ (N : Nat) (n : Nat) (T : Nat → Int) (hn : n ≤ len ∧ ((i1 : Int) + (n : Int)) ≤ (w.1 (m + 423) l1)) (hT : zly (w.1 (m + (425 + l1))) (M1 (m + 4)) T i1 n), len - n < N → jWp 216 62 [some (jO m), some (jI (l1 : Int)), some (jI (i1 : Int)), some (jI (r1 : Int)), some (jI (n : Int))] [] 0 0 (kA (M1, w.2) (m + (425 + l1)) T) (fun v w1 => ((¬ (0 ≤ (l1 : Int) ∧ (l1 : Int) ≤ 2) ∨ ¬ (0 ≤ (r1 : Int) ∧ (r1 : Int) < (c : Int))) → jno w m 1 (jI (-1)) v w1) ∧ (¬ (¬ (0 ≤ (l1 : Int) ∧ (l1 : Int) ≤ 2) ∨ ¬ (0 ≤ (r1 : Int) ∧ (r1 : Int) < (c : Int))) → ((w.1 (m + 423) (l1 : Int).toNat) < 0) → v = some (jI (-11)) ∧ w1 = w) ∧ (¬ (¬ (0 ≤ (l1 : Int) ∧ (l1 : Int) ≤ 2) ∨ ¬ (0 ≤ (r1 : Int) ∧ (r1 : Int) < (c : Int))) → ¬ ((w.1 (m + 423) (l1 : Int).toNat) < 0) → (¬ (0 ≤ (i1 : Int) ∧ (i1 : Int) < (w.1 (m + 423) (l1 : Int).toNat))) → v = some (jI (-13)) ∧ w1 = w) ∧ (¬ (¬ (0 ≤ (l1 : Int) ∧ (l1 : Int) ≤ 2) ∨ ¬ (0 ≤ (r1 : Int) ∧ (r1 : Int) < (c : Int))) → ¬ ((w.1 (m + 423) (l1 : Int).toNat) < 0) → ¬ (¬ (0 ≤ (i1 : Int) ∧ (i1 : Int) < (w.1 (m + 423) (l1 : Int).toNat))) → ∃ (t : Nat → Int) (len : Nat) (why left : Int), zTR (w.1 (m + 2)) (r1 : Int).toNat t len why left ∧ ∃ n : Nat, v = some (jI (n : Int)) ∧ (n ≤ len ∧ ((i1 : Int) + (n : Int)) ≤ (w.1 (m + 423) (l1 : Int).toNat) ∧ (n < len → (i1 : Int) + (n : Int) = (w.1 (m + 423) (l1 : Int).toNat))) ∧ ∃ w2 T, mq w m w2 ∧ w1 = kA w2 (m + (425 + (l1 : Int).toNat)) T ∧ zly (w.1 (m + (425 + (l1 : Int).toNat))) t T (i1 : Int).toNat n)) := by
            intro N
            induction N with
            | zero => intro n T hn hT hm; omega
            | succ N ih7 =>
              intro n T hn hT hm
              have hl60 := hTb.1
              refine jWp.blk mt 2 ?_
              show _ ∧ jWp 216 65 [some (jO m), some (jI (l1 : Int)), some (jI (i1 : Int)), some (jI (r1 : Int)), some (jI (n : Int))] [jO m, jI (n : Int)] 0 0 (kA (M1, w.2) (m + (425 + l1)) T) _
              refine ⟨rfl, ?_⟩
              refine jWp.getI (pc' := 68) mt rfl rfl (jtg hW.K0) ?_
              rw [show ((kA (M1, w.2) (m + (425 + l1)) T).1 m 4) = (len : Int) from (((kA_a (by omega)).trans rfl).trans k4)]
              show jWp 216 68 [some (jO m), some (jI (l1 : Int)), some (jI (i1 : Int)), some (jI (r1 : Int)), some (jI (n : Int))] [jI (len : Int), jI (n : Int)] 0 0 (kA (M1, w.2) (m + (425 + l1)) T) _
              refine jWp.icmp (pc' := 71) mt rfl rfl (b32_id (by omega) (by omega)) (b32_id (by omega) (by omega)) (fun h8 => ?_) (fun h8 => ?_)
              · have h8 : (len : Int) ≤ (n : Int) := h8
                refine jWp.blk mt 1 ?_
                show jWp 216 110 [some (jO m), some (jI (l1 : Int)), some (jI (i1 : Int)), some (jI (r1 : Int)), some (jI (n : Int))] [jI (n : Int)] 0 0 (kA (M1, w.2) (m + (425 + l1)) T) _
                refine jWp.ireti mt rfl ⟨rfl, rfl⟩ rfl ?_
                try rw [show ((r1 : Nat) : Int).toNat = r1 from rfl]
                try rw [show ((l1 : Nat) : Int).toNat = l1 from rfl]
                try rw [show ((i1 : Nat) : Int).toNat = i1 from rfl]
                refine ⟨fun c0 => ?_, fun c0 c1 => ?_, fun c0 c1 c2 => ?_, fun c0 c1 c2 => ?_⟩
                all_goals first
                | (exfalso; omega)
                | exact ⟨rfl, rfl⟩
                | exact ⟨M1 (m + 4), len, why, left, hTR, n, rfl, by omega, (M1, w.2), T, hmq, rfl, hT⟩
              · have h8 : (n : Int) < (len : Int) := h8
                refine jWp.blk mt 4 ?_
                show _ ∧ jWp 216 76 [some (jO m), some (jI (l1 : Int)), some (jI (i1 : Int)), some (jI (r1 : Int)), some (jI (n : Int))] [jO m, jI ((i1 : Int) + (n : Int))] 0 0 (kA (M1, w.2) (m + (425 + l1)) T) _
                refine ⟨rfl, ?_⟩
                refine jWp.getR (pc' := 79) (o := (m + 423)) mt rfl rfl (jtg hW.K0) hW.R27 ?_
                show jWp 216 79 [some (jO m), some (jI (l1 : Int)), some (jI (i1 : Int)), some (jI (r1 : Int)), some (jI (n : Int))] [jO (m + 423), jI ((i1 : Int) + (n : Int))] 0 0 (kA (M1, w.2) (m + (425 + l1)) T) _
                refine jWp.blk mt 1 ?_
                show jWp 216 80 [some (jO m), some (jI (l1 : Int)), some (jI (i1 : Int)), some (jI (r1 : Int)), some (jI (n : Int))] [jI (l1 : Int), jO (m + 423), jI ((i1 : Int) + (n : Int))] 0 0 (kA (M1, w.2) (m + (425 + l1)) T) _
                refine jWp.iald (pc' := 81) (j := l1) mt rfl rfl (jird_of hW.K423) (b32_id (by omega) (by omega)) (jlt hW.K423 (by omega)) ?_
                rw [show ((kA (M1, w.2) (m + (425 + l1)) T).1 (m + 423) l1) = (w.1 (m + 423) l1) from (((kA_a (by omega)).trans rfl).trans (congrFun (hmq.2.1 _ (by omega)) _))]
                show jWp 216 81 [some (jO m), some (jI (l1 : Int)), some (jI (i1 : Int)), some (jI (r1 : Int)), some (jI (n : Int))] [jI (w.1 (m + 423) l1), jI ((i1 : Int) + (n : Int))] 0 0 (kA (M1, w.2) (m + (425 + l1)) T) _
                refine jWp.icmp (pc' := 84) mt rfl rfl (b32_id (by omega) (by omega)) (b32_id (by omega) (by omega)) (fun h9 => ?_) (fun h9 => ?_)
                · have h9 : (w.1 (m + 423) l1) ≤ ((i1 : Int) + (n : Int)) := h9
                  refine jWp.blk mt 1 ?_
                  show jWp 216 110 [some (jO m), some (jI (l1 : Int)), some (jI (i1 : Int)), some (jI (r1 : Int)), some (jI (n : Int))] [jI (n : Int)] 0 0 (kA (M1, w.2) (m + (425 + l1)) T) _
                  refine jWp.ireti mt rfl ⟨rfl, rfl⟩ rfl ?_
                  try rw [show ((r1 : Nat) : Int).toNat = r1 from rfl]
                  try rw [show ((l1 : Nat) : Int).toNat = l1 from rfl]
                  try rw [show ((i1 : Nat) : Int).toNat = i1 from rfl]
                  refine ⟨fun c0 => ?_, fun c0 c1 => ?_, fun c0 c1 c2 => ?_, fun c0 c1 c2 => ?_⟩
                  all_goals first
                  | (exfalso; omega)
                  | exact ⟨rfl, rfl⟩
                  | exact ⟨M1 (m + 4), len, why, left, hTR, n, rfl, by omega, (M1, w.2), T, hmq, rfl, hT⟩
                · have h9 : ((i1 : Int) + (n : Int)) < (w.1 (m + 423) l1) := h9
                  refine jWp.blk mt 1 ?_
                  show _ ∧ jWp 216 85 [some (jO m), some (jI (l1 : Int)), some (jI (i1 : Int)), some (jI (r1 : Int)), some (jI (n : Int))] [jO m] 0 0 (kA (M1, w.2) (m + (425 + l1)) T) _
                  refine ⟨rfl, ?_⟩
                  refine jWp.getR (pc' := 88) (o := (m + 424)) mt rfl rfl (jtg hW.K0) hW.R28 ?_
                  show jWp 216 88 [some (jO m), some (jI (l1 : Int)), some (jI (i1 : Int)), some (jI (r1 : Int)), some (jI (n : Int))] [jO (m + 424)] 0 0 (kA (M1, w.2) (m + (425 + l1)) T) _
                  refine jWp.blk mt 1 ?_
                  show jWp 216 89 [some (jO m), some (jI (l1 : Int)), some (jI (i1 : Int)), some (jI (r1 : Int)), some (jI (n : Int))] [jI (l1 : Int), jO (m + 424)] 0 0 (kA (M1, w.2) (m + (425 + l1)) T) _
                  refine jWp.aald (pc' := 90) (j := l1) (o := (m + (425 + l1))) mt rfl rfl (jrg hW.K424 (by decide) (by decide)) (b32_id (by omega) (by omega)) (jlt hW.K424 (by omega)) (hW.RI l1 (by omega)) ?_
                  show jWp 216 90 [some (jO m), some (jI (l1 : Int)), some (jI (i1 : Int)), some (jI (r1 : Int)), some (jI (n : Int))] [jO (m + (425 + l1))] 0 0 (kA (M1, w.2) (m + (425 + l1)) T) _
                  refine jWp.blk mt 4 ?_
                  show _ ∧ jWp 216 95 [some (jO m), some (jI (l1 : Int)), some (jI (i1 : Int)), some (jI (r1 : Int)), some (jI (n : Int))] [jO m, jI ((i1 : Int) + (n : Int)), jO (m + (425 + l1))] 0 0 (kA (M1, w.2) (m + (425 + l1)) T) _
                  refine ⟨rfl, ?_⟩
                  refine jWp.getR (pc' := 98) (o := (m + 4)) mt rfl rfl (jtg hW.K0) hW.R3 ?_
                  show jWp 216 98 [some (jO m), some (jI (l1 : Int)), some (jI (i1 : Int)), some (jI (r1 : Int)), some (jI (n : Int))] [jO (m + 4), jI ((i1 : Int) + (n : Int)), jO (m + (425 + l1))] 0 0 (kA (M1, w.2) (m + (425 + l1)) T) _
                  refine jWp.blk mt 1 ?_
                  show jWp 216 100 [some (jO m), some (jI (l1 : Int)), some (jI (i1 : Int)), some (jI (r1 : Int)), some (jI (n : Int))] [jI (n : Int), jO (m + 4), jI ((i1 : Int) + (n : Int)), jO (m + (425 + l1))] 0 0 (kA (M1, w.2) (m + (425 + l1)) T) _
                  refine jWp.lald (pc' := 101) (j := n) mt rfl rfl (jtg hW.K4) (b32_id (by omega) (by omega)) (jlt hW.K4 (by omega)) ?_
                  rw [show ((kA (M1, w.2) (m + (425 + l1)) T).1 (m + 4) n) = (M1 (m + 4) n) from ((kA_a (by omega)).trans rfl)]
                  show jWp 216 101 [some (jO m), some (jI (l1 : Int)), some (jI (i1 : Int)), some (jI (r1 : Int)), some (jI (n : Int))] [jJ (M1 (m + 4) n), jI ((i1 : Int) + (n : Int)), jO (m + (425 + l1))] 0 0 (kA (M1, w.2) (m + (425 + l1)) T) _
                  refine jWp.last (pc' := 102) (j := (i1 + n)) mt rfl rfl (jtg (hW.KI _ (by omega))) (by rw [b32_id (by omega) (by omega)]; omega) (jlt (hW.KI _ (by omega)) (by omega)) ?_
                  rw [show jW (kA (M1, w.2) (m + (425 + l1)) T) (m + (425 + l1)) (i1 + n) (M1 (m + 4) n) = (kA (M1, w.2) (m + (425 + l1)) (zset T (i1 + n) (M1 (m + 4) n))) from kA_W]
                  show jWp 216 102 [some (jO m), some (jI (l1 : Int)), some (jI (i1 : Int)), some (jI (r1 : Int)), some (jI (n : Int))] [] 0 0 (kA (M1, w.2) (m + (425 + l1)) (zset T (i1 + n) (M1 (m + 4) n))) _
                  refine jWp.blk mt 2 ?_
                  show jWp 216 62 [some (jO m), some (jI (l1 : Int)), some (jI (i1 : Int)), some (jI (r1 : Int)), some (jI ((n : Int) + 1))] [] 0 0 (kA (M1, w.2) (m + (425 + l1)) (zset T (i1 + n) (M1 (m + 4) n))) _
                  refine jWp.le (l := [some (jO m), some (jI (l1 : Int)), some (jI (i1 : Int)), some (jI (r1 : Int)), some (jI ((n : Int) + 1))]) (by exact ⟨rfl, rfl, rfl, rfl, rfl, trivial⟩) ?_
                  exact ih7 (n + 1) _ (by omega) (fun j hj => by rcases Nat.lt_or_ge j (i1 + n) with g | g; rw [zset_n (by omega), hT j hj]; by_cases e : i1 ≤ j; rw [if_pos (by omega), if_pos (by omega)]; rw [if_neg (by omega), if_neg (by omega)]; by_cases e : j = i1 + n; rw [e, zset_s, if_pos (by omega), show i1 + n - i1 = n by omega]; rw [zset_n e, hT j hj, if_neg (by omega), if_neg (by omega)]) (by omega)
          refine jWp.le (l := [some (jO m), some (jI (l1 : Int)), some (jI (i1 : Int)), some (jI (r1 : Int)), some (jI 0)]) (by exact ⟨rfl, rfl, rfl, rfl, rfl, trivial⟩) ?_
          have key := lp6 _ 0 (((M1, w.2) : jS).1 (m + (425 + l1))) (by omega) (fun j hj => by rw [if_neg (by omega)]; exact congrFun (hmq.2.1 (m + (425 + l1)) (by omega)) j) (Nat.lt_succ_self _)
          rw [kA_self] at key
          exact key
        · have h4 : ¬ (0 ≤ i ∧ i ≤ ((w.1 (m + 423) l1) - 1)) := h4
          show jWp 216 48 [some (jO m), some (jI (l1 : Int)), some (jI i), some (jI (r1 : Int)), none] [jI 0] 0 0 w _
          refine jWp.ifc (b := false) mt rfl (by decide) rfl ?_
          show jWp 216 51 [some (jO m), some (jI (l1 : Int)), some (jI i), some (jI (r1 : Int)), none] [] 0 0 w _
          refine jWp.blk mt 1 ?_
          show jWp 216 53 [some (jO m), some (jI (l1 : Int)), some (jI i), some (jI (r1 : Int)), none] [jI (-13)] 0 0 w _
          refine jWp.ireti mt rfl ⟨rfl, rfl⟩ rfl ?_
          try rw [show ((l1 : Nat) : Int).toNat = l1 from rfl]
          try rw [show ((r1 : Nat) : Int).toNat = r1 from rfl]
          try rw [show ((i1 : Nat) : Int).toNat = i1 from rfl]
          refine ⟨fun c0 => ?_, fun c0 c1 => ?_, fun c0 c1 c2 => ?_, fun c0 c1 c2 => ?_⟩
          all_goals first
          | (exfalso; omega)
          | exact ⟨rfl, rfl⟩
      · have h3 : (w.1 (m + 423) l1) < 0 := h3
        refine jWp.blk mt 1 ?_
        show jWp 216 32 [some (jO m), some (jI (l1 : Int)), some (jI i), some (jI (r1 : Int)), none] [jI (-11)] 0 0 w _
        refine jWp.ireti mt rfl ⟨rfl, rfl⟩ rfl ?_
        try rw [show ((l1 : Nat) : Int).toNat = l1 from rfl]
        try rw [show ((r1 : Nat) : Int).toNat = r1 from rfl]
        try rw [show ((i1 : Nat) : Int).toNat = i1 from rfl]
        refine ⟨fun c0 => ?_, fun c0 c1 => ?_, fun c0 c1 c2 => ?_, fun c0 c1 c2 => ?_⟩
        all_goals first
        | (exfalso; omega)
        | exact ⟨rfl, rfl⟩
    · have h2 : ¬ (0 ≤ r ∧ r < (c : Int)) := h2
      show jWp 216 12 [some (jO m), some (jI (l1 : Int)), some (jI i), some (jI r), none] [jI 0] 0 0 w _
      refine jWp.ifc (b := false) mt rfl (by decide) rfl ?_
      show jWp 216 15 [some (jO m), some (jI (l1 : Int)), some (jI i), some (jI r), none] [] 0 0 w _
      refine jWp.blk mt 2 ?_
      show _ ∧ jWp 216 17 [some (jO m), some (jI (l1 : Int)), some (jI i), some (jI r), none] [jI (-1), jO m] 0 0 w _
      refine ⟨rfl, ?_⟩
      refine jWp.callv (as := [jO m, jI (-1)]) (rest := []) mt rfl rfl rfl ⟨rfl, jtg hW.K0⟩ ?_
      refine jCall.mono (E_refuses (w := w) (j := 1) hW (by decide) (by decide)) (fun v9 w9 h9 => ?_)
      obtain ⟨rfl, h9⟩ := h9
      subst h9
      show jWp 216 20 [some (jO m), some (jI (l1 : Int)), some (jI i), some (jI r), none] [jI (-1)] 0 0 (jW w (m + 3) 1 ((w.1 (m + 3) 1) + 1)) _
      refine jWp.ireti mt rfl ⟨rfl, rfl⟩ rfl ?_
      try rw [show ((l1 : Nat) : Int).toNat = l1 from rfl]
      try rw [show ((r1 : Nat) : Int).toNat = r1 from rfl]
      try rw [show ((i1 : Nat) : Int).toNat = i1 from rfl]
      refine ⟨fun c0 => ?_, fun c0 c1 => ?_, fun c0 c1 c2 => ?_, fun c0 c1 c2 => ?_⟩
      all_goals first
      | (exfalso; omega)
      | exact ⟨rfl, rfl⟩
  · have h1 : ¬ (0 ≤ l ∧ l ≤ 2) := h1
    show jWp 216 4 [some (jO m), some (jI l), some (jI i), some (jI r), none] [jI 0] 0 0 w _
    refine jWp.ifc (b := true) mt rfl (by decide) rfl ?_
    show jWp 216 15 [some (jO m), some (jI l), some (jI i), some (jI r), none] [] 0 0 w _
    refine jWp.blk mt 2 ?_
    show _ ∧ jWp 216 17 [some (jO m), some (jI l), some (jI i), some (jI r), none] [jI (-1), jO m] 0 0 w _
    refine ⟨rfl, ?_⟩
    refine jWp.callv (as := [jO m, jI (-1)]) (rest := []) mt rfl rfl rfl ⟨rfl, jtg hW.K0⟩ ?_
    refine jCall.mono (E_refuses (w := w) (j := 1) hW (by decide) (by decide)) (fun v9 w9 h9 => ?_)
    obtain ⟨rfl, h9⟩ := h9
    subst h9
    show jWp 216 20 [some (jO m), some (jI l), some (jI i), some (jI r), none] [jI (-1)] 0 0 (jW w (m + 3) 1 ((w.1 (m + 3) 1) + 1)) _
    refine jWp.ireti mt rfl ⟨rfl, rfl⟩ rfl ?_
    try rw [show ((l1 : Nat) : Int).toNat = l1 from rfl]
    try rw [show ((r1 : Nat) : Int).toNat = r1 from rfl]
    try rw [show ((i1 : Nat) : Int).toNat = i1 from rfl]
    refine ⟨fun c0 => ?_, fun c0 c1 => ?_, fun c0 c1 c2 => ?_, fun c0 c1 c2 => ?_⟩
    all_goals first
    | (exfalso; omega)
    | exact ⟨rfl, rfl⟩
def zsl (t : Nat → Int) (s : Nat) : Prop := ∀ k, k < s → -10000 ≤ t k ∧ t k ≤ 10000
def zmd (law f : Int) (t : Nat → Int) (s : Nat) : Prop := ∀ n, (zO law).toNat ≤ n → n < s → zD law t n ≠ 0 ∧ t n * zD law t n = zP law f t n
set_option maxHeartbeats 4000000 in
set_option maxRecDepth 20000 in
theorem E_areSmall {w : jS} {m : Nat} (hW : MW w.2 m) (hz : ∀ x, x < 3 → -1 ≤ w.1 (m + 423) x ∧ w.1 (m + 423) x ≤ 40) (hI : ∀ x, x < 3 → ∀ j, j < 40 → r32 (w.1 (m + (425 + x)) j)) {l : Nat} (hl3 : l < 3) : jCall 208 [jO m, jI (l : Int)] w (jvb (zsl (w.1 (m + (425 + l))) (w.1 (m + 423) l).toNat) w) := by
  have mt : jtb 208 = jT208 := rfl
  have hzl := hz l hl3
  have hzl1 : -1 ≤ (w.1 (m + 423) l) ∧ (w.1 (m + 423) l) ≤ 40 := hzl
  show jWp 208 0 [some (jO m), some (jI (l : Int)), none] [] 0 0 w _
  refine jWp.blk mt 2 ?_
  show jWp 208 2 [some (jO m), some (jI (l : Int)), some (jI 0)] [] 0 0 w _
  have lp1 : ∀ (N : Nat) (k : Nat) (hk : k ≤ (w.1 (m + 423) l).toNat) (hA : ∀ x, x < k → -10000 ≤ (w.1 (m + (425 + l))) x ∧ (w.1 (m + (425 + l))) x ≤ 10000), (w.1 (m + 423) l).toNat - k < N → jWp 208 2 [some (jO m), some (jI (l : Int)), some (jI (k : Int))] [] 0 0 w (jvb (zsl (w.1 (m + (425 + l))) (w.1 (m + 423) l).toNat) w) := by
    intro N
    induction N with
    | zero => intro k hk hA hm; omega
    | succ N ih2 =>
      intro k hk hA hm
      have hi9 : k < 40 → -2147483648 ≤ w.1 (m + (425 + l)) k ∧ w.1 (m + (425 + l)) k < 2147483648 := fun h => hI l hl3 k h
      refine jWp.blk mt 2 ?_
      show _ ∧ jWp 208 4 [some (jO m), some (jI (l : Int)), some (jI (k : Int))] [jO m, jI (k : Int)] 0 0 w _
      refine ⟨rfl, ?_⟩
      refine jWp.getR (pc' := 7) (o := (m + 423)) mt rfl rfl (jtg hW.K0) hW.R27 ?_
      show jWp 208 7 [some (jO m), some (jI (l : Int)), some (jI (k : Int))] [jO (m + 423), jI (k : Int)] 0 0 w _
      refine jWp.blk mt 1 ?_
      show jWp 208 8 [some (jO m), some (jI (l : Int)), some (jI (k : Int))] [jI (l : Int), jO (m + 423), jI (k : Int)] 0 0 w _
      refine jWp.iald (pc' := 9) (j := l) mt rfl rfl (jird_of hW.K423) (b32_id (by omega) (by omega)) (jlt hW.K423 (by omega)) ?_
      show jWp 208 9 [some (jO m), some (jI (l : Int)), some (jI (k : Int))] [jI (w.1 (m + 423) l), jI (k : Int)] 0 0 w _
      refine jWp.icmp (pc' := 12) mt rfl rfl (b32_id (by omega) (by omega)) (b32_id (by omega) (by omega)) (fun h3 => ?_) (fun h3 => ?_)
      · have h3 : (w.1 (m + 423) l) ≤ (k : Int) := h3
        refine jWp.blk mt 1 ?_
        show jWp 208 41 [some (jO m), some (jI (l : Int)), some (jI (k : Int))] [jI 1] 0 0 w _
        refine jWp.iretz mt rfl ⟨rfl, rfl⟩ rfl (Or.inr rfl) ?_
        exact Or.inl ⟨rfl, rfl, fun x hx => hA x (by omega)⟩
      · have h3 : (k : Int) < (w.1 (m + 423) l) := h3
        refine jWp.blk mt 1 ?_
        show _ ∧ jWp 208 13 [some (jO m), some (jI (l : Int)), some (jI (k : Int))] [jO m] 0 0 w _
        refine ⟨rfl, ?_⟩
        refine jWp.getR (pc' := 16) (o := (m + 424)) mt rfl rfl (jtg hW.K0) hW.R28 ?_
        show jWp 208 16 [some (jO m), some (jI (l : Int)), some (jI (k : Int))] [jO (m + 424)] 0 0 w _
        refine jWp.blk mt 1 ?_
        show jWp 208 17 [some (jO m), some (jI (l : Int)), some (jI (k : Int))] [jI (l : Int), jO (m + 424)] 0 0 w _
        refine jWp.aald (pc' := 18) (j := l) (o := (m + (425 + l))) mt rfl rfl (jrg hW.K424 (by decide) (by decide)) (b32_id (by omega) (by omega)) (jlt hW.K424 (by omega)) (hW.RI l (by omega)) ?_
        show jWp 208 18 [some (jO m), some (jI (l : Int)), some (jI (k : Int))] [jO (m + (425 + l))] 0 0 w _
        refine jWp.blk mt 1 ?_
        show jWp 208 19 [some (jO m), some (jI (l : Int)), some (jI (k : Int))] [jI (k : Int), jO (m + (425 + l))] 0 0 w _
        refine jWp.lald (pc' := 20) (j := k) mt rfl rfl (jtg (hW.KI _ (by omega))) (b32_id (by omega) (by omega)) (jlt (hW.KI _ (by omega)) (by omega)) ?_
        show jWp 208 20 [some (jO m), some (jI (l : Int)), some (jI (k : Int))] [jJ (w.1 (m + (425 + l)) k)] 0 0 w _
        refine jWp.blk mt 2 ?_
        show jWp 208 26 [some (jO m), some (jI (l : Int)), some (jI (k : Int))] [jJ 10000, jJ (-10000), jJ (w.1 (m + (425 + l)) k)] 0 0 w _
        refine jWp.calls (as := [jJ (w.1 (m + (425 + l)) k), jJ (-10000), jJ 10000]) (rest := []) mt rfl rfl rfl rfl ?_
        refine jCall.mono (E_in (b64_id (by omega) (by omega)) (show b64 (-10000) = (-10000) by decide) (show b64 10000 = 10000 by decide)) (fun v9 w9 h9 => ?_)
        rcases h9 with ⟨rfl, h9, h4⟩ | ⟨rfl, h9, h4⟩ <;> subst w9
        · have h4 : (-10000) ≤ (w.1 (m + (425 + l)) k) ∧ (w.1 (m + (425 + l)) k) ≤ 10000 := h4
          show jWp 208 29 [some (jO m), some (jI (l : Int)), some (jI (k : Int))] [jI 1] 0 0 w _
          refine jWp.ifc (b := true) mt rfl (by decide) rfl ?_
          show jWp 208 34 [some (jO m), some (jI (l : Int)), some (jI (k : Int))] [] 0 0 w _
          refine jWp.blk mt 2 ?_
          show jWp 208 2 [some (jO m), some (jI (l : Int)), some (jI ((k : Int) + 1))] [] 0 0 w _
          refine jWp.le (l := [some (jO m), some (jI (l : Int)), some (jI ((k : Int) + 1))]) (by exact ⟨rfl, rfl, rfl, trivial⟩) ?_
          exact ih2 (k + 1) (by omega) (fun x hx => by rcases Nat.lt_or_ge x k with e | e; exact hA x e; rw [show x = k by omega]; omega) (by omega)
        · have h4 : ¬ ((-10000) ≤ (w.1 (m + (425 + l)) k) ∧ (w.1 (m + (425 + l)) k) ≤ 10000) := h4
          show jWp 208 29 [some (jO m), some (jI (l : Int)), some (jI (k : Int))] [jI 0] 0 0 w _
          refine jWp.ifc (b := false) mt rfl (by decide) rfl ?_
          show jWp 208 32 [some (jO m), some (jI (l : Int)), some (jI (k : Int))] [] 0 0 w _
          refine jWp.blk mt 1 ?_
          show jWp 208 33 [some (jO m), some (jI (l : Int)), some (jI (k : Int))] [jI 0] 0 0 w _
          refine jWp.iretz mt rfl ⟨rfl, rfl⟩ rfl (Or.inl rfl) ?_
          exact Or.inr ⟨rfl, rfl, fun g => by have g := g k (by omega); omega⟩
  refine jWp.le (l := [some (jO m), some (jI (l : Int)), some (jI 0)]) (by exact ⟨rfl, rfl, rfl, trivial⟩) ?_
  exact lp1 _ 0 (by omega) (fun x hx => absurd hx (by omega)) (Nat.lt_succ_self _)
theorem zmd_b {law f : Int} {t : Nat → Int} {n s : Nat} (hl0 : 0 ≤ law) (hl6 : law ≤ 6) (hf : 0 ≤ f ∧ f ≤ 9) (hs : zsl t s) (hq : (zO law).toNat ≤ n) (hn : n < s) : (-10000 ≤ zD law t n ∧ zD law t n ≤ 10000) ∧ (-200000000000000000 ≤ zP law f t n ∧ zP law f t n ≤ 200000000000000000) ∧ -100000000 ≤ t n * zD law t n ∧ t n * zD law t n ≤ 100000000 := by
  have hb := zO_b hl0 hl6
  have d : -10000 ≤ zD law t n ∧ zD law t n ≤ 10000 := by
    unfold zD
    split
    · omega
    · exact hs _ (by omega)
  exact ⟨d, zP_b hl0 hl6 hf hq (fun j hj => by have := hs j (by omega); omega), zmulA (hs n hn) d (by decide) (by decide)⟩
set_option maxHeartbeats 4000000 in
set_option maxRecDepth 20000 in
theorem E_isMade {w : jS} {m : Nat} (hW : MW w.2 m) (hz : ∀ x, x < 3 → -1 ≤ w.1 (m + 423) x ∧ w.1 (m + 423) x ≤ 40) (hI : ∀ x, x < 3 → ∀ j, j < 40 → r32 (w.1 (m + (425 + x)) j)) {l : Nat} (hl3 : l < 3) {law f : Int} (hl0 : 0 ≤ law) (hl6 : law ≤ 6) (hf : 0 ≤ f ∧ f ≤ 9) (hs : zsl (w.1 (m + (425 + l))) (w.1 (m + 423) l).toNat) : jCall 209 [jO m, jI (l : Int), jI law, jI f] w (jvb (zmd law f (w.1 (m + (425 + l))) (w.1 (m + 423) l).toNat) w) := by
  have mt : jtb 209 = jT209 := rfl
  have hzl := hz l hl3
  have hzl1 : -1 ≤ (w.1 (m + 423) l) ∧ (w.1 (m + 423) l) ≤ 40 := hzl
  have hob := zO_b hl0 hl6
  show jWp 209 0 [some (jO m), some (jI (l : Int)), some (jI law), some (jI f), none, none, none] [] 0 0 w _
  refine jWp.blk mt 1 ?_
  show jWp 209 1 [some (jO m), some (jI (l : Int)), some (jI law), some (jI f), none, none, none] [jI law] 0 0 w _
  refine jWp.calls (as := [jI law]) (rest := []) mt rfl rfl rfl rfl ?_
  refine jCall.mono (E_order hl0 hl6) (fun v9 w9 h9 => ?_)
  obtain ⟨rfl, h9⟩ := h9
  subst w9
  show jWp 209 4 [some (jO m), some (jI (l : Int)), some (jI law), some (jI f), none, none, none] [jI (zO law)] 0 0 w _
  refine jWp.blk mt 1 ?_
  show jWp 209 6 [some (jO m), some (jI (l : Int)), some (jI law), some (jI f), some (jI (zO law)), none, none] [] 0 0 w _
  have lp1 : ∀ (N : Nat) (n : Nat) (hn : (zO law).toNat ≤ n ∧ n < 50) (hA : ∀ x, (zO law).toNat ≤ x → x < n → zD law (w.1 (m + (425 + l))) x ≠ 0 ∧ (w.1 (m + (425 + l))) x * zD law (w.1 (m + (425 + l))) x = zP law f (w.1 (m + (425 + l))) x), 50 - n < N → jWp 209 6 [some (jO m), some (jI (l : Int)), some (jI law), some (jI f), some (jI (n : Int)), none, none] [] 0 0 w (jvb (zmd law f (w.1 (m + (425 + l))) (w.1 (m + 423) l).toNat) w) := by
    intro N
    induction N with
    | zero => intro n hn hA hm; omega
    | succ N ih2 =>
      intro n hn hA hm
      have hmb : n < (w.1 (m + 423) l).toNat → _ := fun h => zmd_b (t := (w.1 (m + (425 + l)))) (n := n) hl0 hl6 hf hs hn.1 h
      refine jWp.blk mt 2 ?_
      show _ ∧ jWp 209 9 [some (jO m), some (jI (l : Int)), some (jI law), some (jI f), some (jI (n : Int)), none, none] [jO m, jI (n : Int)] 0 0 w _
      refine ⟨rfl, ?_⟩
      refine jWp.getR (pc' := 12) (o := (m + 423)) mt rfl rfl (jtg hW.K0) hW.R27 ?_
      show jWp 209 12 [some (jO m), some (jI (l : Int)), some (jI law), some (jI f), some (jI (n : Int)), none, none] [jO (m + 423), jI (n : Int)] 0 0 w _
      refine jWp.blk mt 1 ?_
      show jWp 209 13 [some (jO m), some (jI (l : Int)), some (jI law), some (jI f), some (jI (n : Int)), none, none] [jI (l : Int), jO (m + 423), jI (n : Int)] 0 0 w _
      refine jWp.iald (pc' := 14) (j := l) mt rfl rfl (jird_of hW.K423) (b32_id (by omega) (by omega)) (jlt hW.K423 (by omega)) ?_
      show jWp 209 14 [some (jO m), some (jI (l : Int)), some (jI law), some (jI f), some (jI (n : Int)), none, none] [jI (w.1 (m + 423) l), jI (n : Int)] 0 0 w _
      refine jWp.icmp (pc' := 17) mt rfl rfl (b32_id (by omega) (by omega)) (b32_id (by omega) (by omega)) (fun h3 => ?_) (fun h3 => ?_)
      · have h3 : (w.1 (m + 423) l) ≤ (n : Int) := h3
        refine jWp.blk mt 1 ?_
        show jWp 209 77 [some (jO m), some (jI (l : Int)), some (jI law), some (jI f), some (jI (n : Int)), none, none] [jI 1] 0 0 w _
        refine jWp.iretz mt rfl ⟨rfl, rfl⟩ rfl (Or.inr rfl) ?_
        exact Or.inl ⟨rfl, rfl, fun x g1 g2 => hA x g1 (by omega)⟩
      · have h3 : (n : Int) < (w.1 (m + 423) l) := h3
        refine jWp.blk mt 1 ?_
        show _ ∧ jWp 209 18 [some (jO m), some (jI (l : Int)), some (jI law), some (jI f), some (jI (n : Int)), none, none] [jO m] 0 0 w _
        refine ⟨rfl, ?_⟩
        refine jWp.getR (pc' := 21) (o := (m + 424)) mt rfl rfl (jtg hW.K0) hW.R28 ?_
        show jWp 209 21 [some (jO m), some (jI (l : Int)), some (jI law), some (jI f), some (jI (n : Int)), none, none] [jO (m + 424)] 0 0 w _
        refine jWp.blk mt 1 ?_
        show jWp 209 22 [some (jO m), some (jI (l : Int)), some (jI law), some (jI f), some (jI (n : Int)), none, none] [jI (l : Int), jO (m + 424)] 0 0 w _
        refine jWp.aald (pc' := 23) (j := l) (o := (m + (425 + l))) mt rfl rfl (jrg hW.K424 (by decide) (by decide)) (b32_id (by omega) (by omega)) (jlt hW.K424 (by omega)) (hW.RI l (by omega)) ?_
        show jWp 209 23 [some (jO m), some (jI (l : Int)), some (jI law), some (jI f), some (jI (n : Int)), none, none] [jO (m + (425 + l))] 0 0 w _
        refine jWp.blk mt 2 ?_
        show jWp 209 26 [some (jO m), some (jI (l : Int)), some (jI law), some (jI f), some (jI (n : Int)), none, none] [jI (n : Int), jI law, jO (m + (425 + l))] 0 0 w _
        refine jWp.calls (as := [jO (m + (425 + l)), jI law, jI (n : Int)]) (rest := []) mt rfl rfl rfl rfl ?_
        refine jCall.mono (E_below (w := w) (a := m + (425 + l)) (n := n) (len := 40) (hW.KI l hl3) hl0 hl6 (by omega) (by omega) (by omega)) (fun v9 w9 h9 => ?_)
        obtain ⟨rfl, h9⟩ := h9
        subst w9
        show jWp 209 29 [some (jO m), some (jI (l : Int)), some (jI law), some (jI f), some (jI (n : Int)), none, none] [jJ (zD law (w.1 (m + (425 + l))) n)] 0 0 w _
        refine jWp.blk mt 3 ?_
        show jWp 209 34 [some (jO m), some (jI (l : Int)), some (jI law), some (jI f), some (jI (n : Int)), some (jJ (zD law (w.1 (m + (425 + l))) n)), none] [jJ 0, jJ (zD law (w.1 (m + (425 + l))) n)] 0 0 w _
        refine jWp.lcmp (pc' := 38) mt rfl rfl rfl (b64_id (by omega) (by omega)) (show b64 0 = 0 by decide) (fun h4 => ?_) (fun h4 => ?_)
        · have h4 : (zD law (w.1 (m + (425 + l))) n) = 0 := h4
          refine jWp.blk mt 1 ?_
          show jWp 209 69 [some (jO m), some (jI (l : Int)), some (jI law), some (jI f), some (jI (n : Int)), some (jJ (zD law (w.1 (m + (425 + l))) n)), none] [jI 0] 0 0 w _
          refine jWp.iretz mt rfl ⟨rfl, rfl⟩ rfl (Or.inl rfl) ?_
          exact Or.inr ⟨rfl, rfl, fun g => by have g := g n hn.1 (by omega); omega⟩
        · have h4 : (zD law (w.1 (m + (425 + l))) n) ≠ 0 := h4
          refine jWp.blk mt 1 ?_
          show _ ∧ jWp 209 39 [some (jO m), some (jI (l : Int)), some (jI law), some (jI f), some (jI (n : Int)), some (jJ (zD law (w.1 (m + (425 + l))) n)), none] [jO m] 0 0 w _
          refine ⟨rfl, ?_⟩
          refine jWp.getR (pc' := 42) (o := (m + 424)) mt rfl rfl (jtg hW.K0) hW.R28 ?_
          show jWp 209 42 [some (jO m), some (jI (l : Int)), some (jI law), some (jI f), some (jI (n : Int)), some (jJ (zD law (w.1 (m + (425 + l))) n)), none] [jO (m + 424)] 0 0 w _
          refine jWp.blk mt 1 ?_
          show jWp 209 43 [some (jO m), some (jI (l : Int)), some (jI law), some (jI f), some (jI (n : Int)), some (jJ (zD law (w.1 (m + (425 + l))) n)), none] [jI (l : Int), jO (m + 424)] 0 0 w _
          refine jWp.aald (pc' := 44) (j := l) (o := (m + (425 + l))) mt rfl rfl (jrg hW.K424 (by decide) (by decide)) (b32_id (by omega) (by omega)) (jlt hW.K424 (by omega)) (hW.RI l (by omega)) ?_
          show jWp 209 44 [some (jO m), some (jI (l : Int)), some (jI law), some (jI f), some (jI (n : Int)), some (jJ (zD law (w.1 (m + (425 + l))) n)), none] [jO (m + (425 + l))] 0 0 w _
          refine jWp.blk mt 1 ?_
          show jWp 209 46 [some (jO m), some (jI (l : Int)), some (jI law), some (jI f), some (jI (n : Int)), some (jJ (zD law (w.1 (m + (425 + l))) n)), none] [jI (n : Int), jO (m + (425 + l))] 0 0 w _
          refine jWp.lald (pc' := 47) (j := n) mt rfl rfl (jtg (hW.KI _ (by omega))) (b32_id (by omega) (by omega)) (jlt (hW.KI _ (by omega)) (by omega)) ?_
          show jWp 209 47 [some (jO m), some (jI (l : Int)), some (jI law), some (jI f), some (jI (n : Int)), some (jJ (zD law (w.1 (m + (425 + l))) n)), none] [jJ (w.1 (m + (425 + l)) n)] 0 0 w _
          refine jWp.blk mt 3 ?_
          show _ ∧ jWp 209 51 [some (jO m), some (jI (l : Int)), some (jI law), some (jI f), some (jI (n : Int)), some (jJ (zD law (w.1 (m + (425 + l))) n)), none] [jO m, jJ ((w.1 (m + (425 + l)) n) * (zD law (w.1 (m + (425 + l))) n))] 0 0 w _
          refine ⟨rfl, ?_⟩
          refine jWp.getR (pc' := 54) (o := (m + 424)) mt rfl rfl (jtg hW.K0) hW.R28 ?_
          show jWp 209 54 [some (jO m), some (jI (l : Int)), some (jI law), some (jI f), some (jI (n : Int)), some (jJ (zD law (w.1 (m + (425 + l))) n)), none] [jO (m + 424), jJ ((w.1 (m + (425 + l)) n) * (zD law (w.1 (m + (425 + l))) n))] 0 0 w _
          refine jWp.blk mt 1 ?_
          show jWp 209 55 [some (jO m), some (jI (l : Int)), some (jI law), some (jI f), some (jI (n : Int)), some (jJ (zD law (w.1 (m + (425 + l))) n)), none] [jI (l : Int), jO (m + 424), jJ ((w.1 (m + (425 + l)) n) * (zD law (w.1 (m + (425 + l))) n))] 0 0 w _
          refine jWp.aald (pc' := 56) (j := l) (o := (m + (425 + l))) mt rfl rfl (jrg hW.K424 (by decide) (by decide)) (b32_id (by omega) (by omega)) (jlt hW.K424 (by omega)) (hW.RI l (by omega)) ?_
          show jWp 209 56 [some (jO m), some (jI (l : Int)), some (jI law), some (jI f), some (jI (n : Int)), some (jJ (zD law (w.1 (m + (425 + l))) n)), none] [jO (m + (425 + l)), jJ ((w.1 (m + (425 + l)) n) * (zD law (w.1 (m + (425 + l))) n))] 0 0 w _
          refine jWp.blk mt 2 ?_
          show jWp 209 58 [some (jO m), some (jI (l : Int)), some (jI law), some (jI f), some (jI (n : Int)), some (jJ (zD law (w.1 (m + (425 + l))) n)), none] [jI f, jI law, jO (m + (425 + l)), jJ ((w.1 (m + (425 + l)) n) * (zD law (w.1 (m + (425 + l))) n))] 0 0 w _
          refine jWp.i2l (pc' := 59) mt rfl rfl (b32_id (by omega) (by omega)) ?_
          show jWp 209 59 [some (jO m), some (jI (l : Int)), some (jI law), some (jI f), some (jI (n : Int)), some (jJ (zD law (w.1 (m + (425 + l))) n)), none] [jJ f, jI law, jO (m + (425 + l)), jJ ((w.1 (m + (425 + l)) n) * (zD law (w.1 (m + (425 + l))) n))] 0 0 w _
          refine jWp.blk mt 1 ?_
          show jWp 209 61 [some (jO m), some (jI (l : Int)), some (jI law), some (jI f), some (jI (n : Int)), some (jJ (zD law (w.1 (m + (425 + l))) n)), none] [jI (n : Int), jJ f, jI law, jO (m + (425 + l)), jJ ((w.1 (m + (425 + l)) n) * (zD law (w.1 (m + (425 + l))) n))] 0 0 w _
          refine jWp.calls (as := [jO (m + (425 + l)), jI law, jJ f, jI (n : Int)]) (rest := [jJ ((w.1 (m + (425 + l)) n) * (zD law (w.1 (m + (425 + l))) n))]) mt rfl rfl rfl rfl ?_
          refine jCall.mono (E_above (w := w) (a := m + (425 + l)) (n := n) (len := 40) (hW.KI l hl3) hl0 hl6 (by omega) (by omega) (by omega)) (fun v9 w9 h9 => ?_)
          obtain ⟨rfl, h9⟩ := h9
          subst w9
          show jWp 209 64 [some (jO m), some (jI (l : Int)), some (jI law), some (jI f), some (jI (n : Int)), some (jJ (zD law (w.1 (m + (425 + l))) n)), none] [jJ (zP law f (w.1 (m + (425 + l))) n), jJ ((w.1 (m + (425 + l)) n) * (zD law (w.1 (m + (425 + l))) n))] 0 0 w _
          refine jWp.lcmp (pc' := 68) mt rfl rfl rfl (b64_id (by omega) (by omega)) (b64_id (by omega) (by omega)) (fun h5 => ?_) (fun h5 => ?_)
          · have h5 : ((w.1 (m + (425 + l)) n) * (zD law (w.1 (m + (425 + l))) n)) = (zP law f (w.1 (m + (425 + l))) n) := h5
            refine jWp.blk mt 2 ?_
            show jWp 209 6 [some (jO m), some (jI (l : Int)), some (jI law), some (jI f), some (jI ((n : Int) + 1)), some (jJ (zD law (w.1 (m + (425 + l))) n)), none] [] 0 0 w _
            refine jWp.le (l := [some (jO m), some (jI (l : Int)), some (jI law), some (jI f), some (jI ((n : Int) + 1)), none, none]) (by exact ⟨rfl, rfl, rfl, rfl, rfl, trivial⟩) ?_
            exact ih2 (n + 1) (by omega) (fun x g1 g2 => by rcases Nat.lt_or_ge x n with e | e; exact hA x g1 e; rw [show x = n by omega]; exact ⟨by omega, by omega⟩) (by omega)
          · have h5 : ((w.1 (m + (425 + l)) n) * (zD law (w.1 (m + (425 + l))) n)) ≠ (zP law f (w.1 (m + (425 + l))) n) := h5
            refine jWp.blk mt 1 ?_
            show jWp 209 69 [some (jO m), some (jI (l : Int)), some (jI law), some (jI f), some (jI (n : Int)), some (jJ (zD law (w.1 (m + (425 + l))) n)), none] [jI 0] 0 0 w _
            refine jWp.iretz mt rfl ⟨rfl, rfl⟩ rfl (Or.inl rfl) ?_
            exact Or.inr ⟨rfl, rfl, fun g => by have g := g n hn.1 (by omega); omega⟩
  refine jWp.le (l := [some (jO m), some (jI (l : Int)), some (jI law), some (jI f), some (jI (zO law)), none, none]) (by exact ⟨rfl, rfl, rfl, rfl, rfl, trivial⟩) ?_
  obtain ⟨o, ho⟩ : ∃ o : Nat, zO law = (o : Int) := ⟨(zO law).toNat, by omega⟩
  rw [ho]
  exact lp1 _ o (by omega) (fun x g1 g2 => absurd g1 (by omega)) (Nat.lt_succ_self _)
set_option maxHeartbeats 4000000 in
set_option maxRecDepth 20000 in
theorem E_laws {w : jS} {m : Nat} (hW : MW w.2 m) (hz : ∀ x, x < 3 → -1 ≤ w.1 (m + 423) x ∧ w.1 (m + 423) x ≤ 40) (hI : ∀ x, x < 3 → ∀ j, j < 40 → r32 (w.1 (m + (425 + x)) j)) {l f : Int} (hrl : r32 l) (hrf : r32 f) : jCall 210 [jO m, jI l, jI f] w (fun v w1 => ((¬ (0 ≤ l ∧ l ≤ 2)) → jno w m 1 (jI (-1)) v w1) ∧ (¬ (¬ (0 ≤ l ∧ l ≤ 2)) → (f < 0) → jno w m 4 (jI (-4)) v w1) ∧ (¬ (¬ (0 ≤ l ∧ l ≤ 2)) → ¬ (f < 0) → (9 < f) → jno w m 6 (jI (-6)) v w1) ∧ (¬ (¬ (0 ≤ l ∧ l ≤ 2)) → ¬ (f < 0) → ¬ (9 < f) → ((w.1 (m + 423) l.toNat) < 0) → v = some (jI (-11)) ∧ w1 = w) ∧ (¬ (¬ (0 ≤ l ∧ l ≤ 2)) → ¬ (f < 0) → ¬ (9 < f) → ¬ ((w.1 (m + 423) l.toNat) < 0) → (¬ zsl (w.1 (m + (425 + l.toNat))) (w.1 (m + 423) l.toNat).toNat) → jno w m 3 (jI (-3)) v w1) ∧ (¬ (¬ (0 ≤ l ∧ l ≤ 2)) → ¬ (f < 0) → ¬ (9 < f) → ¬ ((w.1 (m + 423) l.toNat) < 0) → ¬ (¬ zsl (w.1 (m + (425 + l.toNat))) (w.1 (m + 423) l.toNat).toNat) → v = some (jI (zbt (fun x : Nat => zmd (x : Int) f (w.1 (m + (425 + l.toNat))) (w.1 (m + 423) l.toNat).toNat) 7)) ∧ w1 = w)) := by
  have mt : jtb 210 = jT210 := rfl
  have hrl1 : -2147483648 ≤ l ∧ l < 2147483648 := hrl
  have hrf1 : -2147483648 ≤ f ∧ f < 2147483648 := hrf
  show jWp 210 0 [some (jO m), some (jI l), some (jI f), none, none] [] 0 0 w _
  refine jWp.blk mt 1 ?_
  show jWp 210 1 [some (jO m), some (jI l), some (jI f), none, none] [jI l] 0 0 w _
  refine jWp.calls (as := [jI l]) (rest := []) mt rfl rfl rfl rfl ?_
  refine jCall.mono (E_isList hrl) (fun v9 w9 h9 => ?_)
  rcases h9 with ⟨rfl, h9, h1⟩ | ⟨rfl, h9, h1⟩ <;> subst w9
  · have h1 : 0 ≤ l ∧ l ≤ 2 := h1
    show jWp 210 4 [some (jO m), some (jI l), some (jI f), none, none] [jI 1] 0 0 w _
    obtain ⟨l1, rfl⟩ : ∃ l1 : Nat, l = (l1 : Int) := ⟨l.toNat, by omega⟩
    show jWp 210 4 [some (jO m), some (jI (l1 : Int)), some (jI f), none, none] [jI 1] 0 0 w _
    have hz2 : -1 ≤ w.1 (m + 423) l1 ∧ w.1 (m + 423) l1 ≤ 40 := hz l1 (by omega)
    refine jWp.ifc (b := true) mt rfl (by decide) rfl ?_
    show jWp 210 13 [some (jO m), some (jI (l1 : Int)), some (jI f), none, none] [] 0 0 w _
    refine jWp.blk mt 1 ?_
    show jWp 210 14 [some (jO m), some (jI (l1 : Int)), some (jI f), none, none] [jI f] 0 0 w _
    refine jWp.ifz (pc' := 17) mt rfl rfl (b32_id (by omega) (by omega)) (fun h2 => ?_) (fun h2 => ?_)
    · have h2 : 0 ≤ f := h2
      refine jWp.blk mt 2 ?_
      show jWp 210 27 [some (jO m), some (jI (l1 : Int)), some (jI f), none, none] [jI 9, jI f] 0 0 w _
      refine jWp.icmp (pc' := 30) mt rfl rfl (b32_id (by omega) (by omega)) (show b32 9 = 9 by decide) (fun h3 => ?_) (fun h3 => ?_)
      · have h3 : f ≤ 9 := h3
        refine jWp.blk mt 1 ?_
        show _ ∧ jWp 210 38 [some (jO m), some (jI (l1 : Int)), some (jI f), none, none] [jO m] 0 0 w _
        refine ⟨rfl, ?_⟩
        refine jWp.getR (pc' := 41) (o := (m + 423)) mt rfl rfl (jtg hW.K0) hW.R27 ?_
        show jWp 210 41 [some (jO m), some (jI (l1 : Int)), some (jI f), none, none] [jO (m + 423)] 0 0 w _
        refine jWp.blk mt 1 ?_
        show jWp 210 42 [some (jO m), some (jI (l1 : Int)), some (jI f), none, none] [jI (l1 : Int), jO (m + 423)] 0 0 w _
        refine jWp.iald (pc' := 43) (j := l1) mt rfl rfl (jird_of hW.K423) (b32_id (by omega) (by omega)) (jlt hW.K423 (by omega)) ?_
        show jWp 210 43 [some (jO m), some (jI (l1 : Int)), some (jI f), none, none] [jI (w.1 (m + 423) l1)] 0 0 w _
        refine jWp.ifz (pc' := 46) mt rfl rfl (b32_id (by omega) (by omega)) (fun h4 => ?_) (fun h4 => ?_)
        · have h4 : 0 ≤ (w.1 (m + 423) l1) := h4
          refine jWp.blk mt 2 ?_
          show _ ∧ jWp 210 51 [some (jO m), some (jI (l1 : Int)), some (jI f), none, none] [jI (l1 : Int), jO m] 0 0 w _
          refine ⟨rfl, ?_⟩
          refine jWp.callv (as := [jO m, jI (l1 : Int)]) (rest := []) mt rfl rfl rfl ⟨rfl, jtg hW.K0⟩ ?_
          refine jCall.mono (E_areSmall (l := l1) hW hz hI (by omega)) (fun v9 w9 h9 => ?_)
          rcases h9 with ⟨rfl, h9, h5⟩ | ⟨rfl, h9, h5⟩ <;> subst w9
          · have h5 : zsl (w.1 (m + (425 + l1))) (w.1 (m + 423) l1).toNat := h5
            show jWp 210 54 [some (jO m), some (jI (l1 : Int)), some (jI f), none, none] [jI 1] 0 0 w _
            refine jWp.ifc (b := true) mt rfl (by decide) rfl ?_
            show jWp 210 64 [some (jO m), some (jI (l1 : Int)), some (jI f), none, none] [] 0 0 w _
            refine jWp.blk mt 4 ?_
            show jWp 210 69 [some (jO m), some (jI (l1 : Int)), some (jI f), some (jI 0), some (jI 0)] [] 0 0 w _
            have lp6 : ∀ (N : Nat) (k : Nat) (b : Int) (hk : k ≤ 7) (hb : b = zbt (fun x : Nat => zmd (x : Int) f (w.1 (m + (425 + l1))) (w.1 (m + 423) l1).toNat) k), 7 - k < N → jWp 210 69 [some (jO m), some (jI (l1 : Int)), some (jI f), some (jI b), some (jI (k : Int))] [] 0 0 w (fun v w1 => ((¬ (0 ≤ (l1 : Int) ∧ (l1 : Int) ≤ 2)) → jno w m 1 (jI (-1)) v w1) ∧ (¬ (¬ (0 ≤ (l1 : Int) ∧ (l1 : Int) ≤ 2)) → (f < 0) → jno w m 4 (jI (-4)) v w1) ∧ (¬ (¬ (0 ≤ (l1 : Int) ∧ (l1 : Int) ≤ 2)) → ¬ (f < 0) → (9 < f) → jno w m 6 (jI (-6)) v w1) ∧ (¬ (¬ (0 ≤ (l1 : Int) ∧ (l1 : Int) ≤ 2)) → ¬ (f < 0) → ¬ (9 < f) → ((w.1 (m + 423) (l1 : Int).toNat) < 0) → v = some (jI (-11)) ∧ w1 = w) ∧ (¬ (¬ (0 ≤ (l1 : Int) ∧ (l1 : Int) ≤ 2)) → ¬ (f < 0) → ¬ (9 < f) → ¬ ((w.1 (m + 423) (l1 : Int).toNat) < 0) → (¬ zsl (w.1 (m + (425 + (l1 : Int).toNat))) (w.1 (m + 423) (l1 : Int).toNat).toNat) → jno w m 3 (jI (-3)) v w1) ∧ (¬ (¬ (0 ≤ (l1 : Int) ∧ (l1 : Int) ≤ 2)) → ¬ (f < 0) → ¬ (9 < f) → ¬ ((w.1 (m + 423) (l1 : Int).toNat) < 0) → ¬ (¬ zsl (w.1 (m + (425 + (l1 : Int).toNat))) (w.1 (m + 423) (l1 : Int).toNat).toNat) → v = some (jI (zbt (fun x : Nat => zmd (x : Int) f (w.1 (m + (425 + (l1 : Int).toNat))) (w.1 (m + 423) (l1 : Int).toNat).toNat) 7)) ∧ w1 = w)) := by
              intro N
              induction N with
              | zero => intro k b hk hb hm; omega
              | succ N ih7 =>
                intro k b hk hb hm
                refine jWp.blk mt 2 ?_
                show jWp 210 73 [some (jO m), some (jI (l1 : Int)), some (jI f), some (jI b), some (jI (k : Int))] [jI 7, jI (k : Int)] 0 0 w _
                refine jWp.icmp (pc' := 76) mt rfl rfl (b32_id (by omega) (by omega)) (show b32 7 = 7 by decide) (fun h8 => ?_) (fun h8 => ?_)
                · have h8 : 7 ≤ (k : Int) := h8
                  refine jWp.blk mt 1 ?_
                  show jWp 210 105 [some (jO m), some (jI (l1 : Int)), some (jI f), some (jI b), some (jI (k : Int))] [jI b] 0 0 w _
                  refine jWp.ireti mt rfl ⟨rfl, rfl⟩ rfl ?_
                  try rw [show ((l1 : Nat) : Int).toNat = l1 from rfl]
                  refine ⟨fun c0 => ?_, fun c0 c1 => ?_, fun c0 c1 c2 => ?_, fun c0 c1 c2 c3 => ?_, fun c0 c1 c2 c3 c4 => ?_, fun c0 c1 c2 c3 c4 => ?_⟩
                  all_goals first
                  | (exfalso; omega)
                  | contradiction
                  | (exfalso; exact absurd (by assumption) c4)
                  | (exfalso; exact absurd (by assumption) c3)
                  | exact ⟨rfl, rfl⟩
                  | exact ⟨by rw [hb, show k = 7 by omega], rfl⟩
                · have h8 : (k : Int) < 7 := h8
                  refine jWp.blk mt 5 ?_
                  show _ ∧ jWp 210 82 [some (jO m), some (jI (l1 : Int)), some (jI f), some (jI b), some (jI (k : Int))] [jI f, jI (k : Int), jI (l1 : Int), jO m, jI b] 0 0 w _
                  refine ⟨rfl, ?_⟩
                  refine jWp.callv (as := [jO m, jI (l1 : Int), jI (k : Int), jI f]) (rest := [jI b]) mt rfl rfl rfl ⟨rfl, jtg hW.K0⟩ ?_
                  refine jCall.mono (E_isMade (l := l1) hW hz hI (by omega) (by omega) (by omega) (by omega) (by assumption)) (fun v9 w9 h9 => ?_)
                  rcases h9 with ⟨rfl, h9, h9⟩ | ⟨rfl, h9, h9⟩ <;> subst w9
                  · have h9 : zmd (k : Int) f (w.1 (m + (425 + l1))) (w.1 (m + 423) l1).toNat := h9
                    show jWp 210 85 [some (jO m), some (jI (l1 : Int)), some (jI f), some (jI b), some (jI (k : Int))] [jI 1, jI b] 0 0 w _
                    refine jWp.ifc (b := false) mt rfl (by decide) rfl ?_
                    show jWp 210 88 [some (jO m), some (jI (l1 : Int)), some (jI f), some (jI b), some (jI (k : Int))] [jI b] 0 0 w _
                    refine jWp.blk mt 8 ?_
                    show jWp 210 69 [some (jO m), some (jI (l1 : Int)), some (jI f), some (jI (jor b (jshl 1 (k : Int)))), some (jI ((k : Int) + 1))] [] 0 0 w _
                    refine jWp.le (l := [some (jO m), some (jI (l1 : Int)), some (jI f), some (jI (jor b (jshl 1 (k : Int)))), some (jI ((k : Int) + 1))]) (by exact ⟨rfl, rfl, rfl, rfl, rfl, trivial⟩) ?_
                    exact ih7 (k + 1) _ (by omega) (by rw [hb, zbt_t (p := (fun x : Nat => zmd (x : Int) f (w.1 (m + (425 + l1))) (w.1 (m + 423) l1).toNat)) (by assumption)]) (by omega)
                  · have h9 : ¬ (zmd (k : Int) f (w.1 (m + (425 + l1))) (w.1 (m + 423) l1).toNat) := h9
                    show jWp 210 85 [some (jO m), some (jI (l1 : Int)), some (jI f), some (jI b), some (jI (k : Int))] [jI 0, jI b] 0 0 w _
                    refine jWp.ifc (b := true) mt rfl (by decide) rfl ?_
                    show jWp 210 95 [some (jO m), some (jI (l1 : Int)), some (jI f), some (jI b), some (jI (k : Int))] [jI b] 0 0 w _
                    refine jWp.blk mt 5 ?_
                    show jWp 210 69 [some (jO m), some (jI (l1 : Int)), some (jI f), some (jI (jor b 0)), some (jI ((k : Int) + 1))] [] 0 0 w _
                    refine jWp.le (l := [some (jO m), some (jI (l1 : Int)), some (jI f), some (jI (jor b 0)), some (jI ((k : Int) + 1))]) (by exact ⟨rfl, rfl, rfl, rfl, rfl, trivial⟩) ?_
                    exact ih7 (k + 1) _ (by omega) (by rw [hb, jor_0 (zbt_r _ _), zbt_f (p := (fun x : Nat => zmd (x : Int) f (w.1 (m + (425 + l1))) (w.1 (m + 423) l1).toNat)) (by assumption)]) (by omega)
            refine jWp.le (l := [some (jO m), some (jI (l1 : Int)), some (jI f), some (jI 0), some (jI 0)]) (by exact ⟨rfl, rfl, rfl, rfl, rfl, trivial⟩) ?_
            exact lp6 _ 0 0 (by omega) rfl (Nat.lt_succ_self _)
          · have h5 : ¬ (zsl (w.1 (m + (425 + l1))) (w.1 (m + 423) l1).toNat) := h5
            show jWp 210 54 [some (jO m), some (jI (l1 : Int)), some (jI f), none, none] [jI 0] 0 0 w _
            refine jWp.ifc (b := false) mt rfl (by decide) rfl ?_
            show jWp 210 57 [some (jO m), some (jI (l1 : Int)), some (jI f), none, none] [] 0 0 w _
            refine jWp.blk mt 2 ?_
            show _ ∧ jWp 210 60 [some (jO m), some (jI (l1 : Int)), some (jI f), none, none] [jI (-3), jO m] 0 0 w _
            refine ⟨rfl, ?_⟩
            refine jWp.callv (as := [jO m, jI (-3)]) (rest := []) mt rfl rfl rfl ⟨rfl, jtg hW.K0⟩ ?_
            refine jCall.mono (E_refuses (w := w) (j := 3) hW (by decide) (by decide)) (fun v9 w9 h9 => ?_)
            obtain ⟨rfl, h9⟩ := h9
            subst h9
            show jWp 210 63 [some (jO m), some (jI (l1 : Int)), some (jI f), none, none] [jI (-3)] 0 0 (jW w (m + 3) 3 ((w.1 (m + 3) 3) + 1)) _
            refine jWp.ireti mt rfl ⟨rfl, rfl⟩ rfl ?_
            try rw [show ((l1 : Nat) : Int).toNat = l1 from rfl]
            refine ⟨fun c0 => ?_, fun c0 c1 => ?_, fun c0 c1 c2 => ?_, fun c0 c1 c2 c3 => ?_, fun c0 c1 c2 c3 c4 => ?_, fun c0 c1 c2 c3 c4 => ?_⟩
            all_goals first
            | (exfalso; omega)
            | contradiction
            | (exfalso; exact absurd (by assumption) c4)
            | (exfalso; exact absurd (by assumption) c3)
            | exact ⟨rfl, rfl⟩
            | exact ⟨by rw [hb, show k = 7 by omega], rfl⟩
        · have h4 : (w.1 (m + 423) l1) < 0 := h4
          refine jWp.blk mt 1 ?_
          show jWp 210 48 [some (jO m), some (jI (l1 : Int)), some (jI f), none, none] [jI (-11)] 0 0 w _
          refine jWp.ireti mt rfl ⟨rfl, rfl⟩ rfl ?_
          try rw [show ((l1 : Nat) : Int).toNat = l1 from rfl]
          refine ⟨fun c0 => ?_, fun c0 c1 => ?_, fun c0 c1 c2 => ?_, fun c0 c1 c2 c3 => ?_, fun c0 c1 c2 c3 c4 => ?_, fun c0 c1 c2 c3 c4 => ?_⟩
          all_goals first
          | (exfalso; omega)
          | contradiction
          | (exfalso; exact absurd (by assumption) c4)
          | (exfalso; exact absurd (by assumption) c3)
          | exact ⟨rfl, rfl⟩
          | exact ⟨by rw [hb, show k = 7 by omega], rfl⟩
      · have h3 : 9 < f := h3
        refine jWp.blk mt 2 ?_
        show _ ∧ jWp 210 33 [some (jO m), some (jI (l1 : Int)), some (jI f), none, none] [jI (-6), jO m] 0 0 w _
        refine ⟨rfl, ?_⟩
        refine jWp.callv (as := [jO m, jI (-6)]) (rest := []) mt rfl rfl rfl ⟨rfl, jtg hW.K0⟩ ?_
        refine jCall.mono (E_refuses (w := w) (j := 6) hW (by decide) (by decide)) (fun v9 w9 h9 => ?_)
        obtain ⟨rfl, h9⟩ := h9
        subst h9
        show jWp 210 36 [some (jO m), some (jI (l1 : Int)), some (jI f), none, none] [jI (-6)] 0 0 (jW w (m + 3) 6 ((w.1 (m + 3) 6) + 1)) _
        refine jWp.ireti mt rfl ⟨rfl, rfl⟩ rfl ?_
        try rw [show ((l1 : Nat) : Int).toNat = l1 from rfl]
        refine ⟨fun c0 => ?_, fun c0 c1 => ?_, fun c0 c1 c2 => ?_, fun c0 c1 c2 c3 => ?_, fun c0 c1 c2 c3 c4 => ?_, fun c0 c1 c2 c3 c4 => ?_⟩
        all_goals first
        | (exfalso; omega)
        | contradiction
        | (exfalso; exact absurd (by assumption) c4)
        | (exfalso; exact absurd (by assumption) c3)
        | exact ⟨rfl, rfl⟩
        | exact ⟨by rw [hb, show k = 7 by omega], rfl⟩
    · have h2 : f < 0 := h2
      refine jWp.blk mt 2 ?_
      show _ ∧ jWp 210 20 [some (jO m), some (jI (l1 : Int)), some (jI f), none, none] [jI (-4), jO m] 0 0 w _
      refine ⟨rfl, ?_⟩
      refine jWp.callv (as := [jO m, jI (-4)]) (rest := []) mt rfl rfl rfl ⟨rfl, jtg hW.K0⟩ ?_
      refine jCall.mono (E_refuses (w := w) (j := 4) hW (by decide) (by decide)) (fun v9 w9 h9 => ?_)
      obtain ⟨rfl, h9⟩ := h9
      subst h9
      show jWp 210 23 [some (jO m), some (jI (l1 : Int)), some (jI f), none, none] [jI (-4)] 0 0 (jW w (m + 3) 4 ((w.1 (m + 3) 4) + 1)) _
      refine jWp.ireti mt rfl ⟨rfl, rfl⟩ rfl ?_
      try rw [show ((l1 : Nat) : Int).toNat = l1 from rfl]
      refine ⟨fun c0 => ?_, fun c0 c1 => ?_, fun c0 c1 c2 => ?_, fun c0 c1 c2 c3 => ?_, fun c0 c1 c2 c3 c4 => ?_, fun c0 c1 c2 c3 c4 => ?_⟩
      all_goals first
      | (exfalso; omega)
      | contradiction
      | (exfalso; exact absurd (by assumption) c4)
      | (exfalso; exact absurd (by assumption) c3)
      | exact ⟨rfl, rfl⟩
      | exact ⟨by rw [hb, show k = 7 by omega], rfl⟩
  · have h1 : ¬ (0 ≤ l ∧ l ≤ 2) := h1
    show jWp 210 4 [some (jO m), some (jI l), some (jI f), none, none] [jI 0] 0 0 w _
    refine jWp.ifc (b := false) mt rfl (by decide) rfl ?_
    show jWp 210 7 [some (jO m), some (jI l), some (jI f), none, none] [] 0 0 w _
    refine jWp.blk mt 2 ?_
    show _ ∧ jWp 210 9 [some (jO m), some (jI l), some (jI f), none, none] [jI (-1), jO m] 0 0 w _
    refine ⟨rfl, ?_⟩
    refine jWp.callv (as := [jO m, jI (-1)]) (rest := []) mt rfl rfl rfl ⟨rfl, jtg hW.K0⟩ ?_
    refine jCall.mono (E_refuses (w := w) (j := 1) hW (by decide) (by decide)) (fun v9 w9 h9 => ?_)
    obtain ⟨rfl, h9⟩ := h9
    subst h9
    show jWp 210 12 [some (jO m), some (jI l), some (jI f), none, none] [jI (-1)] 0 0 (jW w (m + 3) 1 ((w.1 (m + 3) 1) + 1)) _
    refine jWp.ireti mt rfl ⟨rfl, rfl⟩ rfl ?_
    try rw [show ((l1 : Nat) : Int).toNat = l1 from rfl]
    refine ⟨fun c0 => ?_, fun c0 c1 => ?_, fun c0 c1 c2 => ?_, fun c0 c1 c2 c3 => ?_, fun c0 c1 c2 c3 c4 => ?_, fun c0 c1 c2 c3 c4 => ?_⟩
    all_goals first
    | (exfalso; omega)
    | contradiction
    | (exfalso; exact absurd (by assumption) c4)
    | (exfalso; exact absurd (by assumption) c3)
    | exact ⟨rfl, rfl⟩
    | exact ⟨by rw [hb, show k = 7 by omega], rfl⟩
set_option maxHeartbeats 4000000 in
set_option maxRecDepth 20000 in
theorem E_figures {w : jS} {m : Nat} (hW : MW w.2 m) (hz : ∀ x, x < 3 → -1 ≤ w.1 (m + 423) x ∧ w.1 (m + 423) x ≤ 40) (hI : ∀ x, x < 3 → ∀ j, j < 40 → r32 (w.1 (m + (425 + x)) j)) {l a : Int} (hrl : r32 l) (hra : r32 a) : jCall 211 [jO m, jI l, jI a] w (fun v w1 => ((¬ (0 ≤ l ∧ l ≤ 2)) → jno w m 1 (jI (-1)) v w1) ∧ (¬ (¬ (0 ≤ l ∧ l ≤ 2)) → (¬ (0 ≤ a ∧ a ≤ 6)) → jno w m 2 (jI (-2)) v w1) ∧ (¬ (¬ (0 ≤ l ∧ l ≤ 2)) → ¬ (¬ (0 ≤ a ∧ a ≤ 6)) → ((w.1 (m + 423) l.toNat) < 0) → v = some (jI (-11)) ∧ w1 = w) ∧ (¬ (¬ (0 ≤ l ∧ l ≤ 2)) → ¬ (¬ (0 ≤ a ∧ a ≤ 6)) → ¬ ((w.1 (m + 423) l.toNat) < 0) → (¬ zsl (w.1 (m + (425 + l.toNat))) (w.1 (m + 423) l.toNat).toNat) → jno w m 3 (jI (-3)) v w1) ∧ (¬ (¬ (0 ≤ l ∧ l ≤ 2)) → ¬ (¬ (0 ≤ a ∧ a ≤ 6)) → ¬ ((w.1 (m + 423) l.toNat) < 0) → ¬ (¬ zsl (w.1 (m + (425 + l.toNat))) (w.1 (m + 423) l.toNat).toNat) → v = some (jI (zbt (fun x : Nat => zmd a (x : Int) (w.1 (m + (425 + l.toNat))) (w.1 (m + 423) l.toNat).toNat) 10)) ∧ w1 = w)) := by
  have mt : jtb 211 = jT211 := rfl
  have hrl1 : -2147483648 ≤ l ∧ l < 2147483648 := hrl
  have hra1 : -2147483648 ≤ a ∧ a < 2147483648 := hra
  show jWp 211 0 [some (jO m), some (jI l), some (jI a), none, none] [] 0 0 w _
  refine jWp.blk mt 1 ?_
  show jWp 211 1 [some (jO m), some (jI l), some (jI a), none, none] [jI l] 0 0 w _
  refine jWp.calls (as := [jI l]) (rest := []) mt rfl rfl rfl rfl ?_
  refine jCall.mono (E_isList hrl) (fun v9 w9 h9 => ?_)
  rcases h9 with ⟨rfl, h9, h1⟩ | ⟨rfl, h9, h1⟩ <;> subst w9
  · have h1 : 0 ≤ l ∧ l ≤ 2 := h1
    show jWp 211 4 [some (jO m), some (jI l), some (jI a), none, none] [jI 1] 0 0 w _
    obtain ⟨l1, rfl⟩ : ∃ l1 : Nat, l = (l1 : Int) := ⟨l.toNat, by omega⟩
    show jWp 211 4 [some (jO m), some (jI (l1 : Int)), some (jI a), none, none] [jI 1] 0 0 w _
    have hz2 : -1 ≤ w.1 (m + 423) l1 ∧ w.1 (m + 423) l1 ≤ 40 := hz l1 (by omega)
    refine jWp.ifc (b := true) mt rfl (by decide) rfl ?_
    show jWp 211 13 [some (jO m), some (jI (l1 : Int)), some (jI a), none, none] [] 0 0 w _
    refine jWp.blk mt 1 ?_
    show jWp 211 14 [some (jO m), some (jI (l1 : Int)), some (jI a), none, none] [jI a] 0 0 w _
    refine jWp.i2l (pc' := 15) mt rfl rfl (b32_id (by omega) (by omega)) ?_
    show jWp 211 15 [some (jO m), some (jI (l1 : Int)), some (jI a), none, none] [jJ a] 0 0 w _
    refine jWp.blk mt 2 ?_
    show jWp 211 19 [some (jO m), some (jI (l1 : Int)), some (jI a), none, none] [jJ 6, jJ 0, jJ a] 0 0 w _
    refine jWp.calls (as := [jJ a, jJ 0, jJ 6]) (rest := []) mt rfl rfl rfl rfl ?_
    refine jCall.mono (E_in (b64_id (by omega) (by omega)) (show b64 0 = 0 by decide) (show b64 6 = 6 by decide)) (fun v9 w9 h9 => ?_)
    rcases h9 with ⟨rfl, h9, h2⟩ | ⟨rfl, h9, h2⟩ <;> subst w9
    · have h2 : 0 ≤ a ∧ a ≤ 6 := h2
      show jWp 211 22 [some (jO m), some (jI (l1 : Int)), some (jI a), none, none] [jI 1] 0 0 w _
      refine jWp.ifc (b := true) mt rfl (by decide) rfl ?_
      show jWp 211 32 [some (jO m), some (jI (l1 : Int)), some (jI a), none, none] [] 0 0 w _
      refine jWp.blk mt 1 ?_
      show _ ∧ jWp 211 33 [some (jO m), some (jI (l1 : Int)), some (jI a), none, none] [jO m] 0 0 w _
      refine ⟨rfl, ?_⟩
      refine jWp.getR (pc' := 36) (o := (m + 423)) mt rfl rfl (jtg hW.K0) hW.R27 ?_
      show jWp 211 36 [some (jO m), some (jI (l1 : Int)), some (jI a), none, none] [jO (m + 423)] 0 0 w _
      refine jWp.blk mt 1 ?_
      show jWp 211 37 [some (jO m), some (jI (l1 : Int)), some (jI a), none, none] [jI (l1 : Int), jO (m + 423)] 0 0 w _
      refine jWp.iald (pc' := 38) (j := l1) mt rfl rfl (jird_of hW.K423) (b32_id (by omega) (by omega)) (jlt hW.K423 (by omega)) ?_
      show jWp 211 38 [some (jO m), some (jI (l1 : Int)), some (jI a), none, none] [jI (w.1 (m + 423) l1)] 0 0 w _
      refine jWp.ifz (pc' := 41) mt rfl rfl (b32_id (by omega) (by omega)) (fun h3 => ?_) (fun h3 => ?_)
      · have h3 : 0 ≤ (w.1 (m + 423) l1) := h3
        refine jWp.blk mt 2 ?_
        show _ ∧ jWp 211 46 [some (jO m), some (jI (l1 : Int)), some (jI a), none, none] [jI (l1 : Int), jO m] 0 0 w _
        refine ⟨rfl, ?_⟩
        refine jWp.callv (as := [jO m, jI (l1 : Int)]) (rest := []) mt rfl rfl rfl ⟨rfl, jtg hW.K0⟩ ?_
        refine jCall.mono (E_areSmall (l := l1) hW hz hI (by omega)) (fun v9 w9 h9 => ?_)
        rcases h9 with ⟨rfl, h9, h4⟩ | ⟨rfl, h9, h4⟩ <;> subst w9
        · have h4 : zsl (w.1 (m + (425 + l1))) (w.1 (m + 423) l1).toNat := h4
          show jWp 211 49 [some (jO m), some (jI (l1 : Int)), some (jI a), none, none] [jI 1] 0 0 w _
          refine jWp.ifc (b := true) mt rfl (by decide) rfl ?_
          show jWp 211 59 [some (jO m), some (jI (l1 : Int)), some (jI a), none, none] [] 0 0 w _
          refine jWp.blk mt 4 ?_
          show jWp 211 64 [some (jO m), some (jI (l1 : Int)), some (jI a), some (jI 0), some (jI 0)] [] 0 0 w _
          have lp5 : ∀ (N : Nat) (k : Nat) (b : Int) (hk : k ≤ 10) (hb : b = zbt (fun x : Nat => zmd a (x : Int) (w.1 (m + (425 + l1))) (w.1 (m + 423) l1).toNat) k), 10 - k < N → jWp 211 64 [some (jO m), some (jI (l1 : Int)), some (jI a), some (jI b), some (jI (k : Int))] [] 0 0 w (fun v w1 => ((¬ (0 ≤ (l1 : Int) ∧ (l1 : Int) ≤ 2)) → jno w m 1 (jI (-1)) v w1) ∧ (¬ (¬ (0 ≤ (l1 : Int) ∧ (l1 : Int) ≤ 2)) → (¬ (0 ≤ a ∧ a ≤ 6)) → jno w m 2 (jI (-2)) v w1) ∧ (¬ (¬ (0 ≤ (l1 : Int) ∧ (l1 : Int) ≤ 2)) → ¬ (¬ (0 ≤ a ∧ a ≤ 6)) → ((w.1 (m + 423) (l1 : Int).toNat) < 0) → v = some (jI (-11)) ∧ w1 = w) ∧ (¬ (¬ (0 ≤ (l1 : Int) ∧ (l1 : Int) ≤ 2)) → ¬ (¬ (0 ≤ a ∧ a ≤ 6)) → ¬ ((w.1 (m + 423) (l1 : Int).toNat) < 0) → (¬ zsl (w.1 (m + (425 + (l1 : Int).toNat))) (w.1 (m + 423) (l1 : Int).toNat).toNat) → jno w m 3 (jI (-3)) v w1) ∧ (¬ (¬ (0 ≤ (l1 : Int) ∧ (l1 : Int) ≤ 2)) → ¬ (¬ (0 ≤ a ∧ a ≤ 6)) → ¬ ((w.1 (m + 423) (l1 : Int).toNat) < 0) → ¬ (¬ zsl (w.1 (m + (425 + (l1 : Int).toNat))) (w.1 (m + 423) (l1 : Int).toNat).toNat) → v = some (jI (zbt (fun x : Nat => zmd a (x : Int) (w.1 (m + (425 + (l1 : Int).toNat))) (w.1 (m + 423) (l1 : Int).toNat).toNat) 10)) ∧ w1 = w)) := by
            intro N
            induction N with
            | zero => intro k b hk hb hm; omega
            | succ N ih6 =>
              intro k b hk hb hm
              refine jWp.blk mt 2 ?_
              show jWp 211 68 [some (jO m), some (jI (l1 : Int)), some (jI a), some (jI b), some (jI (k : Int))] [jI 9, jI (k : Int)] 0 0 w _
              refine jWp.icmp (pc' := 71) mt rfl rfl (b32_id (by omega) (by omega)) (show b32 9 = 9 by decide) (fun h7 => ?_) (fun h7 => ?_)
              · have h7 : 9 < (k : Int) := h7
                refine jWp.blk mt 1 ?_
                show jWp 211 100 [some (jO m), some (jI (l1 : Int)), some (jI a), some (jI b), some (jI (k : Int))] [jI b] 0 0 w _
                refine jWp.ireti mt rfl ⟨rfl, rfl⟩ rfl ?_
                try rw [show ((l1 : Nat) : Int).toNat = l1 from rfl]
                refine ⟨fun c0 => ?_, fun c0 c1 => ?_, fun c0 c1 c2 => ?_, fun c0 c1 c2 c3 => ?_, fun c0 c1 c2 c3 => ?_⟩
                all_goals first
                | (exfalso; omega)
                | contradiction
                | (exfalso; exact absurd (by assumption) c4)
                | (exfalso; exact absurd (by assumption) c3)
                | exact ⟨rfl, rfl⟩
                | exact ⟨by rw [hb, show k = 10 by omega], rfl⟩
              · have h7 : (k : Int) ≤ 9 := h7
                refine jWp.blk mt 5 ?_
                show _ ∧ jWp 211 77 [some (jO m), some (jI (l1 : Int)), some (jI a), some (jI b), some (jI (k : Int))] [jI (k : Int), jI a, jI (l1 : Int), jO m, jI b] 0 0 w _
                refine ⟨rfl, ?_⟩
                refine jWp.callv (as := [jO m, jI (l1 : Int), jI a, jI (k : Int)]) (rest := [jI b]) mt rfl rfl rfl ⟨rfl, jtg hW.K0⟩ ?_
                refine jCall.mono (E_isMade (l := l1) hW hz hI (by omega) (by omega) (by omega) (by omega) (by assumption)) (fun v9 w9 h9 => ?_)
                rcases h9 with ⟨rfl, h9, h8⟩ | ⟨rfl, h9, h8⟩ <;> subst w9
                · have h8 : zmd a (k : Int) (w.1 (m + (425 + l1))) (w.1 (m + 423) l1).toNat := h8
                  show jWp 211 80 [some (jO m), some (jI (l1 : Int)), some (jI a), some (jI b), some (jI (k : Int))] [jI 1, jI b] 0 0 w _
                  refine jWp.ifc (b := false) mt rfl (by decide) rfl ?_
                  show jWp 211 83 [some (jO m), some (jI (l1 : Int)), some (jI a), some (jI b), some (jI (k : Int))] [jI b] 0 0 w _
                  refine jWp.blk mt 8 ?_
                  show jWp 211 64 [some (jO m), some (jI (l1 : Int)), some (jI a), some (jI (jor b (jshl 1 (k : Int)))), some (jI ((k : Int) + 1))] [] 0 0 w _
                  refine jWp.le (l := [some (jO m), some (jI (l1 : Int)), some (jI a), some (jI (jor b (jshl 1 (k : Int)))), some (jI ((k : Int) + 1))]) (by exact ⟨rfl, rfl, rfl, rfl, rfl, trivial⟩) ?_
                  exact ih6 (k + 1) _ (by omega) (by rw [hb, zbt_t (p := (fun x : Nat => zmd a (x : Int) (w.1 (m + (425 + l1))) (w.1 (m + 423) l1).toNat)) (by assumption)]) (by omega)
                · have h8 : ¬ (zmd a (k : Int) (w.1 (m + (425 + l1))) (w.1 (m + 423) l1).toNat) := h8
                  show jWp 211 80 [some (jO m), some (jI (l1 : Int)), some (jI a), some (jI b), some (jI (k : Int))] [jI 0, jI b] 0 0 w _
                  refine jWp.ifc (b := true) mt rfl (by decide) rfl ?_
                  show jWp 211 90 [some (jO m), some (jI (l1 : Int)), some (jI a), some (jI b), some (jI (k : Int))] [jI b] 0 0 w _
                  refine jWp.blk mt 5 ?_
                  show jWp 211 64 [some (jO m), some (jI (l1 : Int)), some (jI a), some (jI (jor b 0)), some (jI ((k : Int) + 1))] [] 0 0 w _
                  refine jWp.le (l := [some (jO m), some (jI (l1 : Int)), some (jI a), some (jI (jor b 0)), some (jI ((k : Int) + 1))]) (by exact ⟨rfl, rfl, rfl, rfl, rfl, trivial⟩) ?_
                  exact ih6 (k + 1) _ (by omega) (by rw [hb, jor_0 (zbt_r _ _), zbt_f (p := (fun x : Nat => zmd a (x : Int) (w.1 (m + (425 + l1))) (w.1 (m + 423) l1).toNat)) (by assumption)]) (by omega)
          refine jWp.le (l := [some (jO m), some (jI (l1 : Int)), some (jI a), some (jI 0), some (jI 0)]) (by exact ⟨rfl, rfl, rfl, rfl, rfl, trivial⟩) ?_
          exact lp5 _ 0 0 (by omega) rfl (Nat.lt_succ_self _)
        · have h4 : ¬ (zsl (w.1 (m + (425 + l1))) (w.1 (m + 423) l1).toNat) := h4
          show jWp 211 49 [some (jO m), some (jI (l1 : Int)), some (jI a), none, none] [jI 0] 0 0 w _
          refine jWp.ifc (b := false) mt rfl (by decide) rfl ?_
          show jWp 211 52 [some (jO m), some (jI (l1 : Int)), some (jI a), none, none] [] 0 0 w _
          refine jWp.blk mt 2 ?_
          show _ ∧ jWp 211 55 [some (jO m), some (jI (l1 : Int)), some (jI a), none, none] [jI (-3), jO m] 0 0 w _
          refine ⟨rfl, ?_⟩
          refine jWp.callv (as := [jO m, jI (-3)]) (rest := []) mt rfl rfl rfl ⟨rfl, jtg hW.K0⟩ ?_
          refine jCall.mono (E_refuses (w := w) (j := 3) hW (by decide) (by decide)) (fun v9 w9 h9 => ?_)
          obtain ⟨rfl, h9⟩ := h9
          subst h9
          show jWp 211 58 [some (jO m), some (jI (l1 : Int)), some (jI a), none, none] [jI (-3)] 0 0 (jW w (m + 3) 3 ((w.1 (m + 3) 3) + 1)) _
          refine jWp.ireti mt rfl ⟨rfl, rfl⟩ rfl ?_
          try rw [show ((l1 : Nat) : Int).toNat = l1 from rfl]
          refine ⟨fun c0 => ?_, fun c0 c1 => ?_, fun c0 c1 c2 => ?_, fun c0 c1 c2 c3 => ?_, fun c0 c1 c2 c3 => ?_⟩
          all_goals first
          | (exfalso; omega)
          | contradiction
          | (exfalso; exact absurd (by assumption) c4)
          | (exfalso; exact absurd (by assumption) c3)
          | exact ⟨rfl, rfl⟩
          | exact ⟨by rw [hb, show k = 10 by omega], rfl⟩
      · have h3 : (w.1 (m + 423) l1) < 0 := h3
        refine jWp.blk mt 1 ?_
        show jWp 211 43 [some (jO m), some (jI (l1 : Int)), some (jI a), none, none] [jI (-11)] 0 0 w _
        refine jWp.ireti mt rfl ⟨rfl, rfl⟩ rfl ?_
        try rw [show ((l1 : Nat) : Int).toNat = l1 from rfl]
        refine ⟨fun c0 => ?_, fun c0 c1 => ?_, fun c0 c1 c2 => ?_, fun c0 c1 c2 c3 => ?_, fun c0 c1 c2 c3 => ?_⟩
        all_goals first
        | (exfalso; omega)
        | contradiction
        | (exfalso; exact absurd (by assumption) c4)
        | (exfalso; exact absurd (by assumption) c3)
        | exact ⟨rfl, rfl⟩
        | exact ⟨by rw [hb, show k = 10 by omega], rfl⟩
    · have h2 : ¬ (0 ≤ a ∧ a ≤ 6) := h2
      show jWp 211 22 [some (jO m), some (jI (l1 : Int)), some (jI a), none, none] [jI 0] 0 0 w _
      refine jWp.ifc (b := false) mt rfl (by decide) rfl ?_
      show jWp 211 25 [some (jO m), some (jI (l1 : Int)), some (jI a), none, none] [] 0 0 w _
      refine jWp.blk mt 2 ?_
      show _ ∧ jWp 211 28 [some (jO m), some (jI (l1 : Int)), some (jI a), none, none] [jI (-2), jO m] 0 0 w _
      refine ⟨rfl, ?_⟩
      refine jWp.callv (as := [jO m, jI (-2)]) (rest := []) mt rfl rfl rfl ⟨rfl, jtg hW.K0⟩ ?_
      refine jCall.mono (E_refuses (w := w) (j := 2) hW (by decide) (by decide)) (fun v9 w9 h9 => ?_)
      obtain ⟨rfl, h9⟩ := h9
      subst h9
      show jWp 211 31 [some (jO m), some (jI (l1 : Int)), some (jI a), none, none] [jI (-2)] 0 0 (jW w (m + 3) 2 ((w.1 (m + 3) 2) + 1)) _
      refine jWp.ireti mt rfl ⟨rfl, rfl⟩ rfl ?_
      try rw [show ((l1 : Nat) : Int).toNat = l1 from rfl]
      refine ⟨fun c0 => ?_, fun c0 c1 => ?_, fun c0 c1 c2 => ?_, fun c0 c1 c2 c3 => ?_, fun c0 c1 c2 c3 => ?_⟩
      all_goals first
      | (exfalso; omega)
      | contradiction
      | (exfalso; exact absurd (by assumption) c4)
      | (exfalso; exact absurd (by assumption) c3)
      | exact ⟨rfl, rfl⟩
      | exact ⟨by rw [hb, show k = 10 by omega], rfl⟩
  · have h1 : ¬ (0 ≤ l ∧ l ≤ 2) := h1
    show jWp 211 4 [some (jO m), some (jI l), some (jI a), none, none] [jI 0] 0 0 w _
    refine jWp.ifc (b := false) mt rfl (by decide) rfl ?_
    show jWp 211 7 [some (jO m), some (jI l), some (jI a), none, none] [] 0 0 w _
    refine jWp.blk mt 2 ?_
    show _ ∧ jWp 211 9 [some (jO m), some (jI l), some (jI a), none, none] [jI (-1), jO m] 0 0 w _
    refine ⟨rfl, ?_⟩
    refine jWp.callv (as := [jO m, jI (-1)]) (rest := []) mt rfl rfl rfl ⟨rfl, jtg hW.K0⟩ ?_
    refine jCall.mono (E_refuses (w := w) (j := 1) hW (by decide) (by decide)) (fun v9 w9 h9 => ?_)
    obtain ⟨rfl, h9⟩ := h9
    subst h9
    show jWp 211 12 [some (jO m), some (jI l), some (jI a), none, none] [jI (-1)] 0 0 (jW w (m + 3) 1 ((w.1 (m + 3) 1) + 1)) _
    refine jWp.ireti mt rfl ⟨rfl, rfl⟩ rfl ?_
    try rw [show ((l1 : Nat) : Int).toNat = l1 from rfl]
    refine ⟨fun c0 => ?_, fun c0 c1 => ?_, fun c0 c1 c2 => ?_, fun c0 c1 c2 c3 => ?_, fun c0 c1 c2 c3 => ?_⟩
    all_goals first
    | (exfalso; omega)
    | contradiction
    | (exfalso; exact absurd (by assumption) c4)
    | (exfalso; exact absurd (by assumption) c3)
    | exact ⟨rfl, rfl⟩
    | exact ⟨by rw [hb, show k = 10 by omega], rfl⟩
