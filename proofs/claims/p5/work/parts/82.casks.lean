theorem zff_r {p : Nat → Prop} : ∀ f k, zff p f k < 0 ∨ ∃ j : Nat, zff p f k = (j : Int) ∧ k ≤ j ∧ j < k + f
  | 0, _ => Or.inl (by show (-9 : Int) < 0; decide)
  | f + 1, k => by
    by_cases h : p k
    · exact Or.inr ⟨k, zff_t h, by omega, by omega⟩
    · rw [zff_f h]
      rcases zff_r (p := p) f (k + 1) with g | ⟨j, g1, g2, g3⟩
      · exact Or.inl g
      · exact Or.inr ⟨j, g1, by omega, by omega⟩
theorem zfp_r {L : List zE} {n : Nat} {a b : Int} : zfp L n a b < 0 ∨ ∃ j : Nat, zfp L n a b = (j : Int) ∧ j < L.length := by
  rcases zff_r (p := fun o => zhv (zL L o).1 n a b) L.length 0 with g | ⟨j, g1, g2, g3⟩
  · exact Or.inl g
  · exact Or.inr ⟨j, g1, by omega⟩
set_option maxHeartbeats 4000000 in
set_option maxRecDepth 20000 in
theorem C_reached {w : jS} {x : Nat} (hX : CW w.2 x) {n : Nat} {q : Nat → Int} {g : Prop} (hQ : zQ q n) (hn0 : w.1 (x + 3) 0 = (n : Int)) (hRR : cR g (w.1 (x + 4)) q n) {G : (Nat → Int) → Prop} (hG : zG G) (hgq : g → G q) {d a : Int} (hrd : r32 d) (hra : r32 a) : jCall 113 [jO x, jI d, jI a] w (fun v w1 => ((d < 0) → cno w x 3 (jI (-4)) v w1) ∧ (¬ (d < 0) → (4 < d) → cno w x 5 (jI (-6)) v w1) ∧ (¬ (d < 0) → ¬ (4 < d) → (¬ (0 ≤ a ∧ a ≤ 3)) → cno w x 1 (jI (-2)) v w1) ∧ (¬ (d < 0) → ¬ (4 < d) → ¬ (¬ (0 ≤ a ∧ a ≤ 3)) → cq w x w1 ∧ (a = 0 → v = some (jI ((zBF n d.toNat q).length : Int))) ∧ (a = 1 → v = some (jI (zvo (zBF n d.toNat q) n (zBF n d.toNat q).length))) ∧ (a = 2 → ∃ y, v = some (jI y) ∧ (g → y = zgm (zBF n d.toNat q) n (zBF n d.toNat q).length)) ∧ (a = 3 → ∃ y, v = some (jI y) ∧ ((∀ o i, o < (zBF n d.toNat q).length → i < n → (zL (zBF n d.toNat q) o).1 (25 + i) = 1) → y = 0)))) := by
  have mt : jtb 113 = jT113 := rfl
  have hn2 := hQ.S.n2
  have hn4 := hQ.S.n4
  have hrd1 : -2147483648 ≤ d ∧ d < 2147483648 := hrd
  have hra1 : -2147483648 ≤ a ∧ a < 2147483648 := hra
  show jWp 113 0 [some (jO x), some (jI d), some (jI a)] [] 0 0 w _
  refine jWp.blk mt 1 ?_
  show jWp 113 1 [some (jO x), some (jI d), some (jI a)] [jI d] 0 0 w _
  refine jWp.ifz (pc' := 4) mt rfl rfl (b32_id (by omega) (by omega)) (fun h1 => ?_) (fun h1 => ?_)
  · have h1 : 0 ≤ d := h1
    refine jWp.blk mt 2 ?_
    show jWp 113 13 [some (jO x), some (jI d), some (jI a)] [jI 4, jI d] 0 0 w _
    refine jWp.icmp (pc' := 16) mt rfl rfl (b32_id (by omega) (by omega)) (show b32 4 = 4 by decide) (fun h2 => ?_) (fun h2 => ?_)
    · have h2 : d ≤ 4 := h2
      refine jWp.blk mt 1 ?_
      show jWp 113 24 [some (jO x), some (jI d), some (jI a)] [jI a] 0 0 w _
      refine jWp.ifz (pc' := 27) mt rfl rfl (b32_id (by omega) (by omega)) (fun h3 => ?_) (fun h3 => ?_)
      · have h3 : a < 0 := h3
        refine jWp.blk mt 2 ?_
        show _ ∧ jWp 113 35 [some (jO x), some (jI d), some (jI a)] [jI (-2), jO x] 0 0 w _
        refine ⟨rfl, ?_⟩
        refine jWp.callv (as := [jO x, jI (-2)]) (rest := []) mt rfl rfl rfl ⟨rfl, jtg hX.X0⟩ ?_
        refine jCall.mono (C_refuse (w := w) (j := 1) hX (by decide) (by decide)) (fun v9 w9 h9 => ?_)
        obtain ⟨rfl, h9⟩ := h9
        subst h9
        show jWp 113 38 [some (jO x), some (jI d), some (jI a)] [jI (-2)] 0 0 (jW w (x + 362) 1 ((w.1 (x + 362) 1) + 1)) _
        refine jWp.ireti mt rfl ⟨rfl, rfl⟩ rfl ?_
        refine ⟨fun c0 => ?_, fun c0 c1 => ?_, fun c0 c1 c2 => ?_, fun c0 c1 c2 => ?_⟩
        all_goals first
        | (exfalso; omega)
        | exact ⟨rfl, rfl⟩
      · have h3 : 0 ≤ a := h3
        refine jWp.blk mt 2 ?_
        show jWp 113 29 [some (jO x), some (jI d), some (jI a)] [jI 3, jI a] 0 0 w _
        refine jWp.icmp (pc' := 32) mt rfl rfl (b32_id (by omega) (by omega)) (show b32 3 = 3 by decide) (fun h4 => ?_) (fun h4 => ?_)
        · have h4 : a ≤ 3 := h4
          obtain ⟨d1, rfl⟩ : ∃ d1 : Nat, d = (d1 : Int) := ⟨d.toNat, by omega⟩
          show jWp 113 39 [some (jO x), some (jI (d1 : Int)), some (jI a)] [] 0 0 w _
          refine jWp.blk mt 1 ?_
          show _ ∧ jWp 113 40 [some (jO x), some (jI (d1 : Int)), some (jI a)] [jO x] 0 0 w _
          refine ⟨rfl, ?_⟩
          refine jWp.getR (pc' := 43) (o := (x + 12)) mt rfl rfl (jtg hX.X0) hX.R8 ?_
          show jWp 113 43 [some (jO x), some (jI (d1 : Int)), some (jI a)] [jO (x + 12)] 0 0 w _
          refine jWp.blk mt 1 ?_
          show _ ∧ jWp 113 44 [some (jO x), some (jI (d1 : Int)), some (jI a)] [jO x, jO (x + 12)] 0 0 w _
          refine ⟨rfl, ?_⟩
          refine jWp.getR (pc' := 47) (o := (x + 3)) mt rfl rfl (jtg hX.X0) hX.R4 ?_
          show jWp 113 47 [some (jO x), some (jI (d1 : Int)), some (jI a)] [jO (x + 3), jO (x + 12)] 0 0 w _
          refine jWp.blk mt 2 ?_
          show _ ∧ jWp 113 49 [some (jO x), some (jI (d1 : Int)), some (jI a)] [jO x, jI (d1 : Int), jO (x + 3), jO (x + 12)] 0 0 w _
          refine ⟨rfl, ?_⟩
          refine jWp.getR (pc' := 52) (o := (x + 9)) mt rfl rfl (jtg hX.X0) hX.R7 ?_
          show jWp 113 52 [some (jO x), some (jI (d1 : Int)), some (jI a)] [jO (x + 9), jI (d1 : Int), jO (x + 3), jO (x + 12)] 0 0 w _
          refine jWp.callv (as := [jO (x + 12), jO (x + 3), jI (d1 : Int), jO (x + 9)]) (rest := []) mt rfl rfl rfl ⟨rfl, jtg hX.XS.k0⟩ ?_
          refine jCall.mono (C_explore (w := w) (se := x + 12) (d := d1) (G := G) hX.XS hn4 (s0 := x + 3) (sc0 := x + 4) (e := x + 9) (f1 := x + 10) (f2 := x + 11) hG hgq hQ hX.X3 hX.X4 hX.Rc hn0 hRR hX.X9 hX.Ru hX.Rd hX.X10 hX.X11 (by omega) ⟨by omega, by omega, by omega, by omega⟩ (by omega)) (fun v9 w9 h9 => ?_)
          obtain ⟨rfl, hg1, hf1, hC1, hBL, hl, hGL⟩ := h9
          obtain ⟨M1, G9⟩ := w9
          have hg : G9 = w.2 := hg1
          subst hg
          have hcq : cq w x ((M1, w.2) : jS) := ⟨rfl, fun b g1 g2 g3 => hf1 b (by omega) (by omega) (by omega)⟩
          have hw4 : ∀ o, o < (zBF n d1 q).length → (zL (zBF n d1 q) o).2.2.2 ≤ d1 := zBF_w
          show jWp 113 55 [some (jO x), some (jI (d1 : Int)), some (jI a)] [] 0 0 (M1, w.2) _
          refine jWp.blk mt 1 ?_
          show jWp 113 56 [some (jO x), some (jI (d1 : Int)), some (jI a)] [jI a] 0 0 (M1, w.2) _
          refine jWp.sw mt rfl (Or.inl ⟨_, _, _, _, rfl⟩) (b32_id (by omega) (by omega)) ?_
          show jWp 113 (jsw [(0, 84), (1, 92), (2, 100)] 108 a) [some (jO x), some (jI (d1 : Int)), some (jI a)] [] 0 0 (M1, w.2) _
          unfold jsw; by_cases h5 : 0 = a
          · rw [if_pos h5]
            refine jWp.blk mt 1 ?_
            show _ ∧ jWp 113 85 [some (jO x), some (jI (d1 : Int)), some (jI a)] [jO x] 0 0 (M1, w.2) _
            refine ⟨rfl, ?_⟩
            refine jWp.getR (pc' := 88) (o := (x + 12)) mt rfl rfl (jtg hX.X0) hX.R8 ?_
            show jWp 113 88 [some (jO x), some (jI (d1 : Int)), some (jI a)] [jO (x + 12)] 0 0 (M1, w.2) _
            refine jWp.getI (pc' := 91) mt rfl rfl (jtg hX.XS.k0) ?_
            rw [show ((M1, w.2).1 (x + 12) 0) = ((zBF n d1 q).length : Int) from hC1.1]
            show jWp 113 91 [some (jO x), some (jI (d1 : Int)), some (jI a)] [jI ((zBF n d1 q).length : Int)] 0 0 (M1, w.2) _
            refine jWp.ireti mt rfl ⟨rfl, rfl⟩ rfl ?_
            refine ⟨fun c0 => ?_, fun c0 c1 => ?_, fun c0 c1 c2 => ?_, fun c0 c1 c2 => ?_⟩
            all_goals first
            | (exfalso; omega)
            | exact ⟨rfl, rfl⟩
            | exact ⟨hcq, fun z0 => by first | (exfalso; omega) | rfl | exact ⟨_, rfl, hyy⟩, fun z1 => by first | (exfalso; omega) | rfl | exact ⟨_, rfl, hyy⟩, fun z2 => by first | (exfalso; omega) | rfl | exact ⟨_, rfl, hyy⟩, fun z3 => by first | (exfalso; omega) | rfl | exact ⟨_, rfl, hyy⟩⟩
          · rw [if_neg h5]
            unfold jsw; by_cases h6 : 1 = a
            · rw [if_pos h6]
              refine jWp.blk mt 1 ?_
              show _ ∧ jWp 113 93 [some (jO x), some (jI (d1 : Int)), some (jI a)] [jO x] 0 0 (M1, w.2) _
              refine ⟨rfl, ?_⟩
              refine jWp.getR (pc' := 96) (o := (x + 12)) mt rfl rfl (jtg hX.X0) hX.R8 ?_
              show jWp 113 96 [some (jO x), some (jI (d1 : Int)), some (jI a)] [jO (x + 12)] 0 0 (M1, w.2) _
              refine jWp.callv (as := [jO (x + 12)]) (rest := []) mt rfl rfl rfl ⟨rfl, jtg hX.XS.k0⟩ ?_
              refine jCall.mono (C_unlikeValues (w := (M1, w.2)) (se := x + 12) hX.XS hn4 hC1 hBL hl) (fun v9 w9 h9 => ?_)
              obtain ⟨rfl, h9⟩ := h9
              subst w9
              show jWp 113 99 [some (jO x), some (jI (d1 : Int)), some (jI a)] [jI (zvo (zBF n d1 q) n (zBF n d1 q).length)] 0 0 (M1, w.2) _
              refine jWp.ireti mt rfl ⟨rfl, rfl⟩ rfl ?_
              refine ⟨fun c0 => ?_, fun c0 c1 => ?_, fun c0 c1 c2 => ?_, fun c0 c1 c2 => ?_⟩
              all_goals first
              | (exfalso; omega)
              | exact ⟨rfl, rfl⟩
              | exact ⟨hcq, fun z0 => by first | (exfalso; omega) | rfl | exact ⟨_, rfl, hyy⟩, fun z1 => by first | (exfalso; omega) | rfl | exact ⟨_, rfl, hyy⟩, fun z2 => by first | (exfalso; omega) | rfl | exact ⟨_, rfl, hyy⟩, fun z3 => by first | (exfalso; omega) | rfl | exact ⟨_, rfl, hyy⟩⟩
            · rw [if_neg h6]
              unfold jsw; by_cases h7 : 2 = a
              · rw [if_pos h7]
                refine jWp.blk mt 1 ?_
                show _ ∧ jWp 113 101 [some (jO x), some (jI (d1 : Int)), some (jI a)] [jO x] 0 0 (M1, w.2) _
                refine ⟨rfl, ?_⟩
                refine jWp.getR (pc' := 104) (o := (x + 12)) mt rfl rfl (jtg hX.X0) hX.R8 ?_
                show jWp 113 104 [some (jO x), some (jI (d1 : Int)), some (jI a)] [jO (x + 12)] 0 0 (M1, w.2) _
                refine jWp.callv (as := [jO (x + 12)]) (rest := []) mt rfl rfl rfl ⟨rfl, jtg hX.XS.k0⟩ ?_
                refine jCall.mono (C_seGreatest (w := (M1, w.2)) (se := x + 12) hX.XS hn4 hC1 hBL hl hG hGL) (fun v9 w9 h9 => ?_)
                obtain ⟨hw9, yw, rfl, hyy⟩ := h9
                subst hw9
                show jWp 113 107 [some (jO x), some (jI (d1 : Int)), some (jI a)] [jI yw] 0 0 (M1, w.2) _
                refine jWp.ireti mt rfl ⟨rfl, rfl⟩ rfl ?_
                refine ⟨fun c0 => ?_, fun c0 c1 => ?_, fun c0 c1 c2 => ?_, fun c0 c1 c2 => ?_⟩
                all_goals first
                | (exfalso; omega)
                | exact ⟨rfl, rfl⟩
                | exact ⟨hcq, fun z0 => by first | (exfalso; omega) | rfl | exact ⟨_, rfl, hyy⟩, fun z1 => by first | (exfalso; omega) | rfl | exact ⟨_, rfl, hyy⟩, fun z2 => by first | (exfalso; omega) | rfl | exact ⟨_, rfl, hyy⟩, fun z3 => by first | (exfalso; omega) | rfl | exact ⟨_, rfl, hyy⟩⟩
              · rw [if_neg h7]
                unfold jsw
                refine jWp.blk mt 1 ?_
                show _ ∧ jWp 113 109 [some (jO x), some (jI (d1 : Int)), some (jI a)] [jO x] 0 0 (M1, w.2) _
                refine ⟨rfl, ?_⟩
                refine jWp.getR (pc' := 112) (o := (x + 12)) mt rfl rfl (jtg hX.X0) hX.R8 ?_
                show jWp 113 112 [some (jO x), some (jI (d1 : Int)), some (jI a)] [jO (x + 12)] 0 0 (M1, w.2) _
                refine jWp.callv (as := [jO (x + 12)]) (rest := []) mt rfl rfl rfl ⟨rfl, jtg hX.XS.k0⟩ ?_
                refine jCall.mono (C_notWhole (w := (M1, w.2)) (se := x + 12) hX.XS hn4 hC1 hBL hl) (fun v9 w9 h9 => ?_)
                obtain ⟨hw9, yw, rfl, hyy⟩ := h9
                subst hw9
                show jWp 113 115 [some (jO x), some (jI (d1 : Int)), some (jI a)] [jI yw] 0 0 (M1, w.2) _
                refine jWp.ireti mt rfl ⟨rfl, rfl⟩ rfl ?_
                refine ⟨fun c0 => ?_, fun c0 c1 => ?_, fun c0 c1 c2 => ?_, fun c0 c1 c2 => ?_⟩
                all_goals first
                | (exfalso; omega)
                | exact ⟨rfl, rfl⟩
                | exact ⟨hcq, fun z0 => by first | (exfalso; omega) | rfl | exact ⟨_, rfl, hyy⟩, fun z1 => by first | (exfalso; omega) | rfl | exact ⟨_, rfl, hyy⟩, fun z2 => by first | (exfalso; omega) | rfl | exact ⟨_, rfl, hyy⟩, fun z3 => by first | (exfalso; omega) | rfl | exact ⟨_, rfl, hyy⟩⟩
        · have h4 : 3 < a := h4
          refine jWp.blk mt 2 ?_
          show _ ∧ jWp 113 35 [some (jO x), some (jI d), some (jI a)] [jI (-2), jO x] 0 0 w _
          refine ⟨rfl, ?_⟩
          refine jWp.callv (as := [jO x, jI (-2)]) (rest := []) mt rfl rfl rfl ⟨rfl, jtg hX.X0⟩ ?_
          refine jCall.mono (C_refuse (w := w) (j := 1) hX (by decide) (by decide)) (fun v9 w9 h9 => ?_)
          obtain ⟨rfl, h9⟩ := h9
          subst h9
          show jWp 113 38 [some (jO x), some (jI d), some (jI a)] [jI (-2)] 0 0 (jW w (x + 362) 1 ((w.1 (x + 362) 1) + 1)) _
          refine jWp.ireti mt rfl ⟨rfl, rfl⟩ rfl ?_
          refine ⟨fun c0 => ?_, fun c0 c1 => ?_, fun c0 c1 c2 => ?_, fun c0 c1 c2 => ?_⟩
          all_goals first
          | (exfalso; omega)
          | exact ⟨rfl, rfl⟩
    · have h2 : 4 < d := h2
      refine jWp.blk mt 2 ?_
      show _ ∧ jWp 113 19 [some (jO x), some (jI d), some (jI a)] [jI (-6), jO x] 0 0 w _
      refine ⟨rfl, ?_⟩
      refine jWp.callv (as := [jO x, jI (-6)]) (rest := []) mt rfl rfl rfl ⟨rfl, jtg hX.X0⟩ ?_
      refine jCall.mono (C_refuse (w := w) (j := 5) hX (by decide) (by decide)) (fun v9 w9 h9 => ?_)
      obtain ⟨rfl, h9⟩ := h9
      subst h9
      show jWp 113 22 [some (jO x), some (jI d), some (jI a)] [jI (-6)] 0 0 (jW w (x + 362) 5 ((w.1 (x + 362) 5) + 1)) _
      refine jWp.ireti mt rfl ⟨rfl, rfl⟩ rfl ?_
      refine ⟨fun c0 => ?_, fun c0 c1 => ?_, fun c0 c1 c2 => ?_, fun c0 c1 c2 => ?_⟩
      all_goals first
      | (exfalso; omega)
      | exact ⟨rfl, rfl⟩
  · have h1 : d < 0 := h1
    refine jWp.blk mt 2 ?_
    show _ ∧ jWp 113 7 [some (jO x), some (jI d), some (jI a)] [jI (-4), jO x] 0 0 w _
    refine ⟨rfl, ?_⟩
    refine jWp.callv (as := [jO x, jI (-4)]) (rest := []) mt rfl rfl rfl ⟨rfl, jtg hX.X0⟩ ?_
    refine jCall.mono (C_refuse (w := w) (j := 3) hX (by decide) (by decide)) (fun v9 w9 h9 => ?_)
    obtain ⟨rfl, h9⟩ := h9
    subst h9
    show jWp 113 10 [some (jO x), some (jI d), some (jI a)] [jI (-4)] 0 0 (jW w (x + 362) 3 ((w.1 (x + 362) 3) + 1)) _
    refine jWp.ireti mt rfl ⟨rfl, rfl⟩ rfl ?_
    refine ⟨fun c0 => ?_, fun c0 c1 => ?_, fun c0 c1 c2 => ?_, fun c0 c1 c2 => ?_⟩
    all_goals first
    | (exfalso; omega)
    | exact ⟨rfl, rfl⟩
set_option maxHeartbeats 4000000 in
set_option maxRecDepth 20000 in
theorem C_fewest {w : jS} {x : Nat} (hX : CW w.2 x) {n : Nat} {q : Nat → Int} {g : Prop} (hQ : zQ q n) (hn0 : w.1 (x + 3) 0 = (n : Int)) (hRR : cR g (w.1 (x + 4)) q n) {G : (Nat → Int) → Prop} (hG : zG G) (hgq : g → G q) {a b i : Int} (hra : r32 a) (hrb : r32 b) (hri : r32 i) : jCall 114 [jO x, jI a, jI b, jI i] w (fun v w1 => ((a < 0 ∨ b < 1 ∨ i < -1) → cno w x 3 (jI (-4)) v w1) ∧ (¬ (a < 0 ∨ b < 1 ∨ i < -1) → v = some (jI (zfw (zBF n 4 q) n a b i)) ∧ cq w x w1)) := by
  have mt : jtb 114 = jT114 := rfl
  have hn2 := hQ.S.n2
  have hn4 := hQ.S.n4
  have hri1 : -2147483648 ≤ i ∧ i < 2147483648 := hri
  have hra1 : -2147483648 ≤ a ∧ a < 2147483648 := hra
  have hrb1 : -2147483648 ≤ b ∧ b < 2147483648 := hrb
  show jWp 114 0 [some (jO x), some (jI a), some (jI b), some (jI i), none, none] [] 0 0 w _
  refine jWp.blk mt 1 ?_
  show jWp 114 1 [some (jO x), some (jI a), some (jI b), some (jI i), none, none] [jI a] 0 0 w _
  refine jWp.ifz (pc' := 4) mt rfl rfl (b32_id (by omega) (by omega)) (fun h1 => ?_) (fun h1 => ?_)
  · have h1 : a < 0 := h1
    refine jWp.blk mt 2 ?_
    show _ ∧ jWp 114 17 [some (jO x), some (jI a), some (jI b), some (jI i), none, none] [jI (-4), jO x] 0 0 w _
    refine ⟨rfl, ?_⟩
    refine jWp.callv (as := [jO x, jI (-4)]) (rest := []) mt rfl rfl rfl ⟨rfl, jtg hX.X0⟩ ?_
    refine jCall.mono (C_refuse (w := w) (j := 3) hX (by decide) (by decide)) (fun v9 w9 h9 => ?_)
    obtain ⟨rfl, h9⟩ := h9
    subst h9
    show jWp 114 20 [some (jO x), some (jI a), some (jI b), some (jI i), none, none] [jI (-4)] 0 0 (jW w (x + 362) 3 ((w.1 (x + 362) 3) + 1)) _
    refine jWp.ireti mt rfl ⟨rfl, rfl⟩ rfl ?_
    refine ⟨fun c0 => ?_, fun c0 => ?_⟩
    all_goals first
    | (exfalso; omega)
    | exact ⟨rfl, rfl⟩
  · have h1 : 0 ≤ a := h1
    refine jWp.blk mt 2 ?_
    show jWp 114 6 [some (jO x), some (jI a), some (jI b), some (jI i), none, none] [jI 1, jI b] 0 0 w _
    refine jWp.icmp (pc' := 9) mt rfl rfl (b32_id (by omega) (by omega)) (show b32 1 = 1 by decide) (fun h2 => ?_) (fun h2 => ?_)
    · have h2 : b < 1 := h2
      refine jWp.blk mt 2 ?_
      show _ ∧ jWp 114 17 [some (jO x), some (jI a), some (jI b), some (jI i), none, none] [jI (-4), jO x] 0 0 w _
      refine ⟨rfl, ?_⟩
      refine jWp.callv (as := [jO x, jI (-4)]) (rest := []) mt rfl rfl rfl ⟨rfl, jtg hX.X0⟩ ?_
      refine jCall.mono (C_refuse (w := w) (j := 3) hX (by decide) (by decide)) (fun v9 w9 h9 => ?_)
      obtain ⟨rfl, h9⟩ := h9
      subst h9
      show jWp 114 20 [some (jO x), some (jI a), some (jI b), some (jI i), none, none] [jI (-4)] 0 0 (jW w (x + 362) 3 ((w.1 (x + 362) 3) + 1)) _
      refine jWp.ireti mt rfl ⟨rfl, rfl⟩ rfl ?_
      refine ⟨fun c0 => ?_, fun c0 => ?_⟩
      all_goals first
      | (exfalso; omega)
      | exact ⟨rfl, rfl⟩
    · have h2 : 1 ≤ b := h2
      refine jWp.blk mt 2 ?_
      show jWp 114 11 [some (jO x), some (jI a), some (jI b), some (jI i), none, none] [jI (-1), jI i] 0 0 w _
      refine jWp.icmp (pc' := 14) mt rfl rfl (b32_id (by omega) (by omega)) (show b32 (-1) = (-1) by decide) (fun h3 => ?_) (fun h3 => ?_)
      · have h3 : (-1) ≤ i := h3
        refine jWp.blk mt 1 ?_
        show _ ∧ jWp 114 22 [some (jO x), some (jI a), some (jI b), some (jI i), none, none] [jO x] 0 0 w _
        refine ⟨rfl, ?_⟩
        refine jWp.getR (pc' := 25) (o := (x + 12)) mt rfl rfl (jtg hX.X0) hX.R8 ?_
        show jWp 114 25 [some (jO x), some (jI a), some (jI b), some (jI i), none, none] [jO (x + 12)] 0 0 w _
        refine jWp.blk mt 1 ?_
        show _ ∧ jWp 114 26 [some (jO x), some (jI a), some (jI b), some (jI i), none, none] [jO x, jO (x + 12)] 0 0 w _
        refine ⟨rfl, ?_⟩
        refine jWp.getR (pc' := 29) (o := (x + 3)) mt rfl rfl (jtg hX.X0) hX.R4 ?_
        show jWp 114 29 [some (jO x), some (jI a), some (jI b), some (jI i), none, none] [jO (x + 3), jO (x + 12)] 0 0 w _
        refine jWp.blk mt 2 ?_
        show _ ∧ jWp 114 31 [some (jO x), some (jI a), some (jI b), some (jI i), none, none] [jO x, jI 4, jO (x + 3), jO (x + 12)] 0 0 w _
        refine ⟨rfl, ?_⟩
        refine jWp.getR (pc' := 34) (o := (x + 9)) mt rfl rfl (jtg hX.X0) hX.R7 ?_
        show jWp 114 34 [some (jO x), some (jI a), some (jI b), some (jI i), none, none] [jO (x + 9), jI 4, jO (x + 3), jO (x + 12)] 0 0 w _
        refine jWp.callv (as := [jO (x + 12), jO (x + 3), jI 4, jO (x + 9)]) (rest := []) mt rfl rfl rfl ⟨rfl, jtg hX.XS.k0⟩ ?_
        refine jCall.mono (C_explore (w := w) (se := x + 12) (d := 4) (G := G) hX.XS hn4 (s0 := x + 3) (sc0 := x + 4) (e := x + 9) (f1 := x + 10) (f2 := x + 11) hG hgq hQ hX.X3 hX.X4 hX.Rc hn0 hRR hX.X9 hX.Ru hX.Rd hX.X10 hX.X11 (by omega) ⟨by omega, by omega, by omega, by omega⟩ (by omega)) (fun v9 w9 h9 => ?_)
        obtain ⟨rfl, hg1, hf1, hC1, hBL, hl, hGL⟩ := h9
        obtain ⟨M1, G9⟩ := w9
        have hg : G9 = w.2 := hg1
        subst hg
        have hcq : cq w x ((M1, w.2) : jS) := ⟨rfl, fun b g1 g2 g3 => hf1 b (by omega) (by omega) (by omega)⟩
        have hw4 : ∀ o, o < (zBF n 4 q).length → (zL (zBF n 4 q) o).2.2.2 ≤ 4 := zBF_w
        show jWp 114 37 [some (jO x), some (jI a), some (jI b), some (jI i), none, none] [] 0 0 (M1, w.2) _
        refine jWp.blk mt 1 ?_
        show _ ∧ jWp 114 38 [some (jO x), some (jI a), some (jI b), some (jI i), none, none] [jO x] 0 0 (M1, w.2) _
        refine ⟨rfl, ?_⟩
        refine jWp.getR (pc' := 41) (o := (x + 12)) mt rfl rfl (jtg hX.X0) hX.R8 ?_
        show jWp 114 41 [some (jO x), some (jI a), some (jI b), some (jI i), none, none] [jO (x + 12)] 0 0 (M1, w.2) _
        refine jWp.blk mt 1 ?_
        show jWp 114 42 [some (jO x), some (jI a), some (jI b), some (jI i), none, none] [jI a, jO (x + 12)] 0 0 (M1, w.2) _
        refine jWp.i2l (pc' := 43) mt rfl rfl (b32_id (by omega) (by omega)) ?_
        show jWp 114 43 [some (jO x), some (jI a), some (jI b), some (jI i), none, none] [jJ a, jO (x + 12)] 0 0 (M1, w.2) _
        refine jWp.blk mt 1 ?_
        show jWp 114 44 [some (jO x), some (jI a), some (jI b), some (jI i), none, none] [jI b, jJ a, jO (x + 12)] 0 0 (M1, w.2) _
        refine jWp.i2l (pc' := 45) mt rfl rfl (b32_id (by omega) (by omega)) ?_
        show jWp 114 45 [some (jO x), some (jI a), some (jI b), some (jI i), none, none] [jJ b, jJ a, jO (x + 12)] 0 0 (M1, w.2) _
        refine jWp.callv (as := [jO (x + 12), jJ a, jJ b]) (rest := []) mt rfl rfl rfl ⟨rfl, jtg hX.XS.k0⟩ ?_
        refine jCall.mono (C_firstWith (w := (M1, w.2)) (se := x + 12) (a := a) (b := b) hX.XS hn4 hC1 hBL hl (by omega) (by omega)) (fun v9 w9 h9 => ?_)
        obtain ⟨rfl, hw9⟩ := h9
        subst hw9
        rcases zfp_r (L := (zBF n 4 q)) (n := n) (a := a) (b := b) with hz | ⟨p, hp, hpl⟩
        · rw [show (if zfp (zBF n 4 q) n a b < 0 then -1 else zfp (zBF n 4 q) n a b) = -1 from if_pos hz]
          show jWp 114 48 [some (jO x), some (jI a), some (jI b), some (jI i), none, none] [jI (-1)] 0 0 (M1, w.2) _
          refine jWp.blk mt 2 ?_
          show jWp 114 52 [some (jO x), some (jI a), some (jI b), some (jI i), some (jI (-1)), none] [jI (-1)] 0 0 (M1, w.2) _
          refine jWp.ifc (b := false) mt rfl (by decide) rfl ?_
          show jWp 114 55 [some (jO x), some (jI a), some (jI b), some (jI i), some (jI (-1)), none] [] 0 0 (M1, w.2) _
          refine jWp.blk mt 1 ?_
          show jWp 114 57 [some (jO x), some (jI a), some (jI b), some (jI i), some (jI (-1)), none] [jI (-9)] 0 0 (M1, w.2) _
          refine jWp.ireti mt rfl ⟨rfl, rfl⟩ rfl ?_
          refine ⟨fun c0 => ?_, fun c0 => ⟨?_, hcq⟩⟩
          · exfalso; omega
          · unfold zfw
            first
            | (exfalso; omega)
            | (rw [if_pos hz]; done)
            | (rw [hp, if_neg (by omega), show ((p : Nat) : Int).toNat = p from rfl]
               first
               | (rw [if_pos (by omega)]; done)
               | (rw [if_neg (by omega), if_pos (by omega)]; done)
               | (rw [if_neg (by omega), if_neg (by omega)]; done))
        · rw [show (if zfp (zBF n 4 q) n a b < 0 then -1 else zfp (zBF n 4 q) n a b) = (p : Int) from (if_neg (by omega)).trans hp]
          have hwp := hw4 p hpl
          show jWp 114 48 [some (jO x), some (jI a), some (jI b), some (jI i), none, none] [jI (p : Int)] 0 0 (M1, w.2) _
          refine jWp.blk mt 2 ?_
          show jWp 114 52 [some (jO x), some (jI a), some (jI b), some (jI i), some (jI (p : Int)), none] [jI (p : Int)] 0 0 (M1, w.2) _
          refine jWp.ifz (pc' := 55) mt rfl rfl (b32_id (by omega) (by omega)) (fun h4 => ?_) (fun h4 => ?_)
          · have h4 : 0 ≤ (p : Int) := h4
            refine jWp.blk mt 1 ?_
            show _ ∧ jWp 114 59 [some (jO x), some (jI a), some (jI b), some (jI i), some (jI (p : Int)), none] [jO x] 0 0 (M1, w.2) _
            refine ⟨rfl, ?_⟩
            refine jWp.getR (pc' := 62) (o := (x + 12)) mt rfl rfl (jtg hX.X0) hX.R8 ?_
            show jWp 114 62 [some (jO x), some (jI a), some (jI b), some (jI i), some (jI (p : Int)), none] [jO (x + 12)] 0 0 (M1, w.2) _
            refine jWp.blk mt 1 ?_
            show jWp 114 64 [some (jO x), some (jI a), some (jI b), some (jI i), some (jI (p : Int)), none] [jI (p : Int), jO (x + 12)] 0 0 (M1, w.2) _
            refine jWp.callv (as := [jO (x + 12), jI (p : Int)]) (rest := []) mt rfl rfl rfl ⟨rfl, jtg hX.XS.k0⟩ ?_
            refine jCall.mono (C_stepsTo (w := (M1, w.2)) (se := x + 12) (o := p) hX.XS hn4 hC1 hBL hl hpl) (fun v9 w9 h9 => ?_)
            obtain ⟨rfl, h9⟩ := h9
            subst w9
            show jWp 114 67 [some (jO x), some (jI a), some (jI b), some (jI i), some (jI (p : Int)), none] [jI ((zL (zBF n 4 q) p).2.2.2 : Int)] 0 0 (M1, w.2) _
            refine jWp.blk mt 2 ?_
            show jWp 114 70 [some (jO x), some (jI a), some (jI b), some (jI i), some (jI (p : Int)), some (jI ((zL (zBF n 4 q) p).2.2.2 : Int))] [jI i] 0 0 (M1, w.2) _
            refine jWp.ifz (pc' := 73) mt rfl rfl (b32_id (by omega) (by omega)) (fun h5 => ?_) (fun h5 => ?_)
            · have h5 : 0 ≤ i := h5
              refine jWp.blk mt 2 ?_
              show jWp 114 79 [some (jO x), some (jI a), some (jI b), some (jI i), some (jI (p : Int)), some (jI ((zL (zBF n 4 q) p).2.2.2 : Int))] [jI ((zL (zBF n 4 q) p).2.2.2 : Int), jI i] 0 0 (M1, w.2) _
              refine jWp.icmp (pc' := 82) mt rfl rfl (b32_id (by omega) (by omega)) (b32_id (by omega) (by omega)) (fun h6 => ?_) (fun h6 => ?_)
              · have h6 : ((zL (zBF n 4 q) p).2.2.2 : Int) ≤ i := h6
                refine jWp.blk mt 1 ?_
                show jWp 114 97 [some (jO x), some (jI a), some (jI b), some (jI i), some (jI (p : Int)), some (jI ((zL (zBF n 4 q) p).2.2.2 : Int))] [jI (-9)] 0 0 (M1, w.2) _
                refine jWp.ireti mt rfl ⟨rfl, rfl⟩ rfl ?_
                refine ⟨fun c0 => ?_, fun c0 => ⟨?_, hcq⟩⟩
                · exfalso; omega
                · unfold zfw
                  first
                  | (exfalso; omega)
                  | (rw [if_pos hz]; done)
                  | (rw [hp, if_neg (by omega), show ((p : Nat) : Int).toNat = p from rfl]
                     first
                     | (rw [if_pos (by omega)]; done)
                     | (rw [if_neg (by omega), if_pos (by omega)]; done)
                     | (rw [if_neg (by omega), if_neg (by omega)]; done))
              · have h6 : i < ((zL (zBF n 4 q) p).2.2.2 : Int) := h6
                obtain ⟨i1, rfl⟩ : ∃ i1 : Nat, i = (i1 : Int) := ⟨i.toNat, by omega⟩
                show jWp 114 82 [some (jO x), some (jI a), some (jI b), some (jI (i1 : Int)), some (jI (p : Int)), some (jI ((zL (zBF n 4 q) p).2.2.2 : Int))] [] 0 0 (M1, w.2) _
                refine jWp.blk mt 1 ?_
                show _ ∧ jWp 114 83 [some (jO x), some (jI a), some (jI b), some (jI (i1 : Int)), some (jI (p : Int)), some (jI ((zL (zBF n 4 q) p).2.2.2 : Int))] [jO x] 0 0 (M1, w.2) _
                refine ⟨rfl, ?_⟩
                refine jWp.getR (pc' := 86) (o := (x + 12)) mt rfl rfl (jtg hX.X0) hX.R8 ?_
                show jWp 114 86 [some (jO x), some (jI a), some (jI b), some (jI (i1 : Int)), some (jI (p : Int)), some (jI ((zL (zBF n 4 q) p).2.2.2 : Int))] [jO (x + 12)] 0 0 (M1, w.2) _
                refine jWp.blk mt 2 ?_
                show jWp 114 89 [some (jO x), some (jI a), some (jI b), some (jI (i1 : Int)), some (jI (p : Int)), some (jI ((zL (zBF n 4 q) p).2.2.2 : Int))] [jI (i1 : Int), jI (p : Int), jO (x + 12)] 0 0 (M1, w.2) _
                refine jWp.callv (as := [jO (x + 12), jI (p : Int), jI (i1 : Int)]) (rest := []) mt rfl rfl rfl ⟨rfl, jtg hX.XS.k0⟩ ?_
                refine jCall.mono (C_letterTo (w := (M1, w.2)) (se := x + 12) (o := p) (i := i1) hX.XS hn4 hC1 hBL hl hpl (by omega) hw4) (fun v9 w9 h9 => ?_)
                obtain ⟨rfl, h9⟩ := h9
                subst w9
                show jWp 114 92 [some (jO x), some (jI a), some (jI b), some (jI (i1 : Int)), some (jI (p : Int)), some (jI ((zL (zBF n 4 q) p).2.2.2 : Int))] [jI ((zL (zBF n 4 q) (zan (zBF n 4 q) 5 p (i1 : Int))).2.2.1 : Int)] 0 0 (M1, w.2) _
                refine jWp.blk mt 1 ?_
                show jWp 114 97 [some (jO x), some (jI a), some (jI b), some (jI (i1 : Int)), some (jI (p : Int)), some (jI ((zL (zBF n 4 q) p).2.2.2 : Int))] [jI ((zL (zBF n 4 q) (zan (zBF n 4 q) 5 p (i1 : Int))).2.2.1 : Int)] 0 0 (M1, w.2) _
                refine jWp.ireti mt rfl ⟨rfl, rfl⟩ rfl ?_
                refine ⟨fun c0 => ?_, fun c0 => ⟨?_, hcq⟩⟩
                · exfalso; omega
                · unfold zfw
                  first
                  | (exfalso; omega)
                  | (rw [if_pos hz]; done)
                  | (rw [hp, if_neg (by omega), show ((p : Nat) : Int).toNat = p from rfl]
                     first
                     | (rw [if_pos (by omega)]; done)
                     | (rw [if_neg (by omega), if_pos (by omega)]; done)
                     | (rw [if_neg (by omega), if_neg (by omega)]; done))
            · have h5 : i < 0 := h5
              refine jWp.blk mt 1 ?_
              show jWp 114 75 [some (jO x), some (jI a), some (jI b), some (jI i), some (jI (p : Int)), some (jI ((zL (zBF n 4 q) p).2.2.2 : Int))] [jI ((zL (zBF n 4 q) p).2.2.2 : Int)] 0 0 (M1, w.2) _
              refine jWp.ireti mt rfl ⟨rfl, rfl⟩ rfl ?_
              refine ⟨fun c0 => ?_, fun c0 => ⟨?_, hcq⟩⟩
              · exfalso; omega
              · unfold zfw
                first
                | (exfalso; omega)
                | (rw [if_pos hz]; done)
                | (rw [hp, if_neg (by omega), show ((p : Nat) : Int).toNat = p from rfl]
                   first
                   | (rw [if_pos (by omega)]; done)
                   | (rw [if_neg (by omega), if_pos (by omega)]; done)
                   | (rw [if_neg (by omega), if_neg (by omega)]; done))
          · have h4 : (p : Int) < 0 := h4
            refine jWp.blk mt 1 ?_
            show jWp 114 57 [some (jO x), some (jI a), some (jI b), some (jI i), some (jI (p : Int)), none] [jI (-9)] 0 0 (M1, w.2) _
            refine jWp.ireti mt rfl ⟨rfl, rfl⟩ rfl ?_
            refine ⟨fun c0 => ?_, fun c0 => ⟨?_, hcq⟩⟩
            · exfalso; omega
            · unfold zfw
              first
              | (exfalso; omega)
              | (rw [if_pos hz]; done)
              | (rw [hp, if_neg (by omega), show ((p : Nat) : Int).toNat = p from rfl]
                 first
                 | (rw [if_pos (by omega)]; done)
                 | (rw [if_neg (by omega), if_pos (by omega)]; done)
                 | (rw [if_neg (by omega), if_neg (by omega)]; done))
      · have h3 : i < (-1) := h3
        refine jWp.blk mt 2 ?_
        show _ ∧ jWp 114 17 [some (jO x), some (jI a), some (jI b), some (jI i), none, none] [jI (-4), jO x] 0 0 w _
        refine ⟨rfl, ?_⟩
        refine jWp.callv (as := [jO x, jI (-4)]) (rest := []) mt rfl rfl rfl ⟨rfl, jtg hX.X0⟩ ?_
        refine jCall.mono (C_refuse (w := w) (j := 3) hX (by decide) (by decide)) (fun v9 w9 h9 => ?_)
        obtain ⟨rfl, h9⟩ := h9
        subst h9
        show jWp 114 20 [some (jO x), some (jI a), some (jI b), some (jI i), none, none] [jI (-4)] 0 0 (jW w (x + 362) 3 ((w.1 (x + 362) 3) + 1)) _
        refine jWp.ireti mt rfl ⟨rfl, rfl⟩ rfl ?_
        refine ⟨fun c0 => ?_, fun c0 => ?_⟩
        all_goals first
        | (exfalso; omega)
        | exact ⟨rfl, rfl⟩
set_option maxHeartbeats 4000000 in
set_option maxRecDepth 20000 in
theorem C_count {w : jS} {x : Nat} (hX : CW w.2 x) {n : Nat} {q : Nat → Int} {g : Prop} (hQ : zQ q n) (hn0 : w.1 (x + 3) 0 = (n : Int)) (hRR : cR g (w.1 (x + 4)) q n) {G : (Nat → Int) → Prop} (hG : zG G) (hgq : g → G q) {c F u : Nat} (hc : w.1 x 1 = (c : Int)) (hF : w.1 (x + 339) 0 = (F : Int)) (hu : w.1 (x + 341) 0 = (u : Int)) {what : Int} (hrw : r32 what) : jCall 127 [jO x, jI what] w (fun v w1 => w1 = w ∧ (what = 0 → v = some (jI (c : Int))) ∧ (what = 1 → v = some (jI (n : Int))) ∧ (what = 2 → v = some (jI (F : Int))) ∧ (what = 3 → v = some (jI (u : Int))) ∧ (what = 4 → v = some (jI (zcz q 16))) ∧ (what = 5 → ∃ y, v = some (jI y) ∧ (g → y = zgo q n n)) ∧ (11 ≤ what ∧ what ≤ 16 → v = some (jI (w.1 (x + 362) (what - 11).toNat))) ∧ ((what < 0 ∨ (5 < what ∧ what < 11) ∨ 16 < what) → v = some (jI (-9)))) := by
  have mt : jtb 127 = jT127 := rfl
  have hn2 := hQ.S.n2
  have hn4 := hQ.S.n4
  have hrw1 : -2147483648 ≤ what ∧ what < 2147483648 := hrw
  show jWp 127 0 [some (jO x), some (jI what)] [] 0 0 w _
  refine jWp.blk mt 1 ?_
  show jWp 127 1 [some (jO x), some (jI what)] [jI what] 0 0 w _
  refine jWp.sw mt rfl (Or.inl ⟨_, _, _, _, rfl⟩) (b32_id (by omega) (by omega)) ?_
  show jWp 127 (jsw [(0, 40), (1, 45), (2, 53), (3, 61), (4, 69), (5, 77)] 85 what) [some (jO x), some (jI what)] [] 0 0 w _
  unfold jsw; by_cases h1 : 0 = what
  · rw [if_pos h1]
    refine jWp.blk mt 1 ?_
    show _ ∧ jWp 127 41 [some (jO x), some (jI what)] [jO x] 0 0 w _
    refine ⟨rfl, ?_⟩
    refine jWp.getI (pc' := 44) mt rfl rfl (jtg hX.X0) ?_
    rw [show (w.1 x 1) = (c : Int) from hc]
    show jWp 127 44 [some (jO x), some (jI what)] [jI (c : Int)] 0 0 w _
    refine jWp.ireti mt rfl ⟨rfl, rfl⟩ rfl ?_
    refine ⟨rfl, fun z0 => ?_, fun z1 => ?_, fun z2 => ?_, fun z3 => ?_, fun z4 => ?_, fun z5 => ?_, fun z6 => ?_, fun z7 => ?_⟩
    all_goals first
    | (exfalso; omega)
    | rfl
    | exact ⟨_, rfl, fun gg => (zco_e hG hQ (hgq gg) gg hRR).1⟩
    | (rw [show ((what1 : Int) - 11).toNat = what1 - 11 by omega]; done)
  · rw [if_neg h1]
    unfold jsw; by_cases h2 : 1 = what
    · rw [if_pos h2]
      refine jWp.blk mt 1 ?_
      show _ ∧ jWp 127 46 [some (jO x), some (jI what)] [jO x] 0 0 w _
      refine ⟨rfl, ?_⟩
      refine jWp.getR (pc' := 49) (o := (x + 3)) mt rfl rfl (jtg hX.X0) hX.R4 ?_
      show jWp 127 49 [some (jO x), some (jI what)] [jO (x + 3)] 0 0 w _
      refine jWp.getI (pc' := 52) mt rfl rfl (jtg hX.X3) ?_
      rw [show (w.1 (x + 3) 0) = (n : Int) from hn0]
      show jWp 127 52 [some (jO x), some (jI what)] [jI (n : Int)] 0 0 w _
      refine jWp.ireti mt rfl ⟨rfl, rfl⟩ rfl ?_
      refine ⟨rfl, fun z0 => ?_, fun z1 => ?_, fun z2 => ?_, fun z3 => ?_, fun z4 => ?_, fun z5 => ?_, fun z6 => ?_, fun z7 => ?_⟩
      all_goals first
      | (exfalso; omega)
      | rfl
      | exact ⟨_, rfl, fun gg => (zco_e hG hQ (hgq gg) gg hRR).1⟩
      | (rw [show ((what1 : Int) - 11).toNat = what1 - 11 by omega]; done)
    · rw [if_neg h2]
      unfold jsw; by_cases h3 : 2 = what
      · rw [if_pos h3]
        refine jWp.blk mt 1 ?_
        show _ ∧ jWp 127 54 [some (jO x), some (jI what)] [jO x] 0 0 w _
        refine ⟨rfl, ?_⟩
        refine jWp.getR (pc' := 57) (o := (x + 339)) mt rfl rfl (jtg hX.X0) hX.R9 ?_
        show jWp 127 57 [some (jO x), some (jI what)] [jO (x + 339)] 0 0 w _
        refine jWp.getI (pc' := 60) mt rfl rfl (jtg hX.X339) ?_
        rw [show (w.1 (x + 339) 0) = (F : Int) from hF]
        show jWp 127 60 [some (jO x), some (jI what)] [jI (F : Int)] 0 0 w _
        refine jWp.ireti mt rfl ⟨rfl, rfl⟩ rfl ?_
        refine ⟨rfl, fun z0 => ?_, fun z1 => ?_, fun z2 => ?_, fun z3 => ?_, fun z4 => ?_, fun z5 => ?_, fun z6 => ?_, fun z7 => ?_⟩
        all_goals first
        | (exfalso; omega)
        | rfl
        | exact ⟨_, rfl, fun gg => (zco_e hG hQ (hgq gg) gg hRR).1⟩
        | (rw [show ((what1 : Int) - 11).toNat = what1 - 11 by omega]; done)
      · rw [if_neg h3]
        unfold jsw; by_cases h4 : 3 = what
        · rw [if_pos h4]
          refine jWp.blk mt 1 ?_
          show _ ∧ jWp 127 62 [some (jO x), some (jI what)] [jO x] 0 0 w _
          refine ⟨rfl, ?_⟩
          refine jWp.getR (pc' := 65) (o := (x + 341)) mt rfl rfl (jtg hX.X0) hX.R10 ?_
          show jWp 127 65 [some (jO x), some (jI what)] [jO (x + 341)] 0 0 w _
          refine jWp.getI (pc' := 68) mt rfl rfl (jtg hX.XP.1) ?_
          rw [show (w.1 (x + 341) 0) = (u : Int) from hu]
          show jWp 127 68 [some (jO x), some (jI what)] [jI (u : Int)] 0 0 w _
          refine jWp.ireti mt rfl ⟨rfl, rfl⟩ rfl ?_
          refine ⟨rfl, fun z0 => ?_, fun z1 => ?_, fun z2 => ?_, fun z3 => ?_, fun z4 => ?_, fun z5 => ?_, fun z6 => ?_, fun z7 => ?_⟩
          all_goals first
          | (exfalso; omega)
          | rfl
          | exact ⟨_, rfl, fun gg => (zco_e hG hQ (hgq gg) gg hRR).1⟩
          | (rw [show ((what1 : Int) - 11).toNat = what1 - 11 by omega]; done)
        · rw [if_neg h4]
          unfold jsw; by_cases h5 : 4 = what
          · rw [if_pos h5]
            refine jWp.blk mt 1 ?_
            show _ ∧ jWp 127 70 [some (jO x), some (jI what)] [jO x] 0 0 w _
            refine ⟨rfl, ?_⟩
            refine jWp.getR (pc' := 73) (o := (x + 3)) mt rfl rfl (jtg hX.X0) hX.R4 ?_
            show jWp 127 73 [some (jO x), some (jI what)] [jO (x + 3)] 0 0 w _
            refine jWp.callv (as := [jO (x + 3)]) (rest := []) mt rfl rfl rfl ⟨rfl, jtg hX.X3⟩ ?_
            refine jCall.mono ((by have h := C_entries (w := w) (s := x + 3) (sc := x + 4) (n := n) hX.X3 hX.X4 hX.Rc hn0 hn4 (fun e he => by rw [hRR.1 _ (by omega), cz_b he]; exact hQ.S.b e he); rw [zcei_e hQ hRR.1] at h; exact h)) (fun v9 w9 h9 => ?_)
            obtain ⟨rfl, h9⟩ := h9
            subst w9
            show jWp 127 76 [some (jO x), some (jI what)] [jI (zcz q 16)] 0 0 w _
            refine jWp.ireti mt rfl ⟨rfl, rfl⟩ rfl ?_
            refine ⟨rfl, fun z0 => ?_, fun z1 => ?_, fun z2 => ?_, fun z3 => ?_, fun z4 => ?_, fun z5 => ?_, fun z6 => ?_, fun z7 => ?_⟩
            all_goals first
            | (exfalso; omega)
            | rfl
            | exact ⟨_, rfl, fun gg => (zco_e hG hQ (hgq gg) gg hRR).1⟩
            | (rw [show ((what1 : Int) - 11).toNat = what1 - 11 by omega]; done)
          · rw [if_neg h5]
            unfold jsw; by_cases h6 : 5 = what
            · rw [if_pos h6]
              refine jWp.blk mt 1 ?_
              show _ ∧ jWp 127 78 [some (jO x), some (jI what)] [jO x] 0 0 w _
              refine ⟨rfl, ?_⟩
              refine jWp.getR (pc' := 81) (o := (x + 3)) mt rfl rfl (jtg hX.X0) hX.R4 ?_
              show jWp 127 81 [some (jO x), some (jI what)] [jO (x + 3)] 0 0 w _
              refine jWp.callv (as := [jO (x + 3)]) (rest := []) mt rfl rfl rfl ⟨rfl, jtg hX.X3⟩ ?_
              refine jCall.mono (C_greatest (w := w) (s := x + 3) (sc := x + 4) (n := n) hX.X3 hX.X4 hX.Rc hn0 hn4 hn2) (fun v9 w9 h9 => ?_)
              obtain ⟨rfl, h9⟩ := h9
              subst w9
              show jWp 127 84 [some (jO x), some (jI what)] [jI (zco (w.1 (x + 4)) n n)] 0 0 w _
              refine jWp.ireti mt rfl ⟨rfl, rfl⟩ rfl ?_
              refine ⟨rfl, fun z0 => ?_, fun z1 => ?_, fun z2 => ?_, fun z3 => ?_, fun z4 => ?_, fun z5 => ?_, fun z6 => ?_, fun z7 => ?_⟩
              all_goals first
              | (exfalso; omega)
              | rfl
              | exact ⟨_, rfl, fun gg => (zco_e hG hQ (hgq gg) gg hRR).1⟩
              | (rw [show ((what1 : Int) - 11).toNat = what1 - 11 by omega]; done)
            · rw [if_neg h6]
              unfold jsw
              refine jWp.blk mt 2 ?_
              show jWp 127 88 [some (jO x), some (jI what)] [jI 11, jI what] 0 0 w _
              refine jWp.icmp (pc' := 91) mt rfl rfl (b32_id (by omega) (by omega)) (show b32 11 = 11 by decide) (fun h7 => ?_) (fun h7 => ?_)
              · have h7 : what < 11 := h7
                refine jWp.blk mt 1 ?_
                show jWp 127 117 [some (jO x), some (jI what)] [jI (-9)] 0 0 w _
                refine jWp.ireti mt rfl ⟨rfl, rfl⟩ rfl ?_
                refine ⟨rfl, fun z0 => ?_, fun z1 => ?_, fun z2 => ?_, fun z3 => ?_, fun z4 => ?_, fun z5 => ?_, fun z6 => ?_, fun z7 => ?_⟩
                all_goals first
                | (exfalso; omega)
                | rfl
                | exact ⟨_, rfl, fun gg => (zco_e hG hQ (hgq gg) gg hRR).1⟩
                | (rw [show ((what1 : Int) - 11).toNat = what1 - 11 by omega]; done)
              · have h7 : 11 ≤ what := h7
                refine jWp.blk mt 4 ?_
                show _ ∧ jWp 127 96 [some (jO x), some (jI what)] [jO x, jI (what - 11)] 0 0 w _
                refine ⟨rfl, ?_⟩
                refine jWp.getR (pc' := 99) (o := (x + 362)) mt rfl rfl (jtg hX.X0) hX.R14 ?_
                show jWp 127 99 [some (jO x), some (jI what)] [jO (x + 362), jI (what - 11)] 0 0 w _
                refine jWp.alen (pc' := 100) (n := 6) mt rfl rfl (jird_of hX.X362) (by rw [hX.X362]) ?_
                show jWp 127 100 [some (jO x), some (jI what)] [jI 6, jI (what - 11)] 0 0 w _
                refine jWp.icmp (pc' := 103) mt rfl rfl (b32_id (by omega) (by omega)) (show b32 6 = 6 by decide) (fun h8 => ?_) (fun h8 => ?_)
                · have h8 : 6 ≤ (what - 11) := h8
                  refine jWp.blk mt 1 ?_
                  show jWp 127 117 [some (jO x), some (jI what)] [jI (-9)] 0 0 w _
                  refine jWp.ireti mt rfl ⟨rfl, rfl⟩ rfl ?_
                  refine ⟨rfl, fun z0 => ?_, fun z1 => ?_, fun z2 => ?_, fun z3 => ?_, fun z4 => ?_, fun z5 => ?_, fun z6 => ?_, fun z7 => ?_⟩
                  all_goals first
                  | (exfalso; omega)
                  | rfl
                  | exact ⟨_, rfl, fun gg => (zco_e hG hQ (hgq gg) gg hRR).1⟩
                  | (rw [show ((what1 : Int) - 11).toNat = what1 - 11 by omega]; done)
                · have h8 : (what - 11) < 6 := h8
                  obtain ⟨what1, rfl⟩ : ∃ what1 : Nat, what = (what1 : Int) := ⟨what.toNat, by omega⟩
                  show jWp 127 103 [some (jO x), some (jI (what1 : Int))] [] 0 0 w _
                  refine jWp.blk mt 1 ?_
                  show _ ∧ jWp 127 104 [some (jO x), some (jI (what1 : Int))] [jO x] 0 0 w _
                  refine ⟨rfl, ?_⟩
                  refine jWp.getR (pc' := 107) (o := (x + 362)) mt rfl rfl (jtg hX.X0) hX.R14 ?_
                  show jWp 127 107 [some (jO x), some (jI (what1 : Int))] [jO (x + 362)] 0 0 w _
                  refine jWp.blk mt 3 ?_
                  show jWp 127 111 [some (jO x), some (jI (what1 : Int))] [jI ((what1 : Int) - 11), jO (x + 362)] 0 0 w _
                  refine jWp.iald (pc' := 112) (j := (what1 - 11)) mt rfl rfl (jird_of hX.X362) (by rw [b32_id (by omega) (by omega)]; omega) (jlt hX.X362 (by omega)) ?_
                  show jWp 127 112 [some (jO x), some (jI (what1 : Int))] [jI (w.1 (x + 362) (what1 - 11))] 0 0 w _
                  refine jWp.blk mt 1 ?_
                  show jWp 127 117 [some (jO x), some (jI (what1 : Int))] [jI (w.1 (x + 362) (what1 - 11))] 0 0 w _
                  refine jWp.ireti mt rfl ⟨rfl, rfl⟩ rfl ?_
                  refine ⟨rfl, fun z0 => ?_, fun z1 => ?_, fun z2 => ?_, fun z3 => ?_, fun z4 => ?_, fun z5 => ?_, fun z6 => ?_, fun z7 => ?_⟩
                  all_goals first
                  | (exfalso; omega)
                  | rfl
                  | exact ⟨_, rfl, fun gg => (zco_e hG hQ (hgq gg) gg hRR).1⟩
                  | (rw [show ((what1 : Int) - 11).toNat = what1 - 11 by omega]; done)
