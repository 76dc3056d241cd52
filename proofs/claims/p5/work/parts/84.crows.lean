/-- the rows, as the class holds them -/
def cRW (w : jS) (x : Nat) (R : Nat → Int) (c : Nat) : Prop := w.1 x 1 = (c : Int) ∧ ∀ i, i < c → cRo w (x + (363 + 6 * i)) (x + (364 + 6 * i)) (x + (365 + 6 * i)) (R (1 + 10 * i)) (R (2 + 10 * i)) (fun y => R (3 + 10 * i + y))
set_option maxHeartbeats 4000000 in
set_option maxRecDepth 20000 in
theorem C_isRow {w : jS} {x : Nat} (hX : CW w.2 x) {c : Nat} (hc : w.1 x 1 = (c : Int)) (hc4 : c ≤ 4) {a : Int} (hra : r32 a) : jCall 128 [jO x, jI a] w (jvb (0 ≤ a ∧ a < (c : Int)) w) := by
  have mt : jtb 128 = jT128 := rfl
  have hra1 : -2147483648 ≤ a ∧ a < 2147483648 := hra
  show jWp 128 0 [some (jO x), some (jI a)] [] 0 0 w _
  refine jWp.blk mt 1 ?_
  show jWp 128 1 [some (jO x), some (jI a)] [jI a] 0 0 w _
  refine jWp.ifz (pc' := 4) mt rfl rfl (b32_id (by omega) (by omega)) (fun h1 => ?_) (fun h1 => ?_)
  · have h1 : a < 0 := h1
    refine jWp.blk mt 1 ?_
    show jWp 128 22 [some (jO x), some (jI a)] [jI 0] 0 0 w _
    refine jWp.iretz mt rfl ⟨rfl, rfl⟩ rfl (Or.inl rfl) ?_
    first
    | exact Or.inl ⟨rfl, rfl, by omega⟩
    | exact Or.inr ⟨rfl, rfl, by omega⟩
  · have h1 : 0 ≤ a := h1
    refine jWp.blk mt 2 ?_
    show _ ∧ jWp 128 6 [some (jO x), some (jI a)] [jO x, jI a] 0 0 w _
    refine ⟨rfl, ?_⟩
    refine jWp.getI (pc' := 9) mt rfl rfl (jtg hX.X0) ?_
    rw [show (w.1 x 1) = (c : Int) from hc]
    show jWp 128 9 [some (jO x), some (jI a)] [jI (c : Int), jI a] 0 0 w _
    refine jWp.icmp (pc' := 12) mt rfl rfl (b32_id (by omega) (by omega)) (b32_id (by omega) (by omega)) (fun h2 => ?_) (fun h2 => ?_)
    · have h2 : (c : Int) ≤ a := h2
      refine jWp.blk mt 1 ?_
      show jWp 128 22 [some (jO x), some (jI a)] [jI 0] 0 0 w _
      refine jWp.iretz mt rfl ⟨rfl, rfl⟩ rfl (Or.inl rfl) ?_
      first
      | exact Or.inl ⟨rfl, rfl, by omega⟩
      | exact Or.inr ⟨rfl, rfl, by omega⟩
    · have h2 : a < (c : Int) := h2
      refine jWp.blk mt 2 ?_
      show jWp 128 14 [some (jO x), some (jI a)] [jI 4, jI a] 0 0 w _
      refine jWp.icmp (pc' := 17) mt rfl rfl (b32_id (by omega) (by omega)) (show b32 4 = 4 by decide) (fun h3 => ?_) (fun h3 => ?_)
      · have h3 : 4 ≤ a := h3
        refine jWp.blk mt 1 ?_
        show jWp 128 22 [some (jO x), some (jI a)] [jI 0] 0 0 w _
        refine jWp.iretz mt rfl ⟨rfl, rfl⟩ rfl (Or.inl rfl) ?_
        first
        | exact Or.inl ⟨rfl, rfl, by omega⟩
        | exact Or.inr ⟨rfl, rfl, by omega⟩
      · have h3 : a < 4 := h3
        refine jWp.blk mt 2 ?_
        show jWp 128 22 [some (jO x), some (jI a)] [jI 1] 0 0 w _
        refine jWp.iretz mt rfl ⟨rfl, rfl⟩ rfl (Or.inr rfl) ?_
        first
        | exact Or.inl ⟨rfl, rfl, by omega⟩
        | exact Or.inr ⟨rfl, rfl, by omega⟩
set_option maxHeartbeats 4000000 in
set_option maxRecDepth 20000 in
theorem C_isList {w : jS} {x : Nat} (hX : CW w.2 x) {l : Int} (hrl : r32 l) : jCall 129 [jO x, jI l] w (jvb (0 ≤ l ∧ l ≤ 2) w) := by
  have mt : jtb 129 = jT129 := rfl
  have hrl1 : -2147483648 ≤ l ∧ l < 2147483648 := hrl
  show jWp 129 0 [some (jO x), some (jI l)] [] 0 0 w _
  refine jWp.blk mt 1 ?_
  show jWp 129 1 [some (jO x), some (jI l)] [jI l] 0 0 w _
  refine jWp.ifz (pc' := 4) mt rfl rfl (b32_id (by omega) (by omega)) (fun h1 => ?_) (fun h1 => ?_)
  · have h1 : l < 0 := h1
    refine jWp.blk mt 1 ?_
    show jWp 129 14 [some (jO x), some (jI l)] [jI 0] 0 0 w _
    refine jWp.iretz mt rfl ⟨rfl, rfl⟩ rfl (Or.inl rfl) ?_
    first
    | exact Or.inl ⟨rfl, rfl, by omega⟩
    | exact Or.inr ⟨rfl, rfl, by omega⟩
  · have h1 : 0 ≤ l := h1
    refine jWp.blk mt 2 ?_
    show jWp 129 6 [some (jO x), some (jI l)] [jI 3, jI l] 0 0 w _
    refine jWp.icmp (pc' := 9) mt rfl rfl (b32_id (by omega) (by omega)) (show b32 3 = 3 by decide) (fun h2 => ?_) (fun h2 => ?_)
    · have h2 : 3 ≤ l := h2
      refine jWp.blk mt 1 ?_
      show jWp 129 14 [some (jO x), some (jI l)] [jI 0] 0 0 w _
      refine jWp.iretz mt rfl ⟨rfl, rfl⟩ rfl (Or.inl rfl) ?_
      first
      | exact Or.inl ⟨rfl, rfl, by omega⟩
      | exact Or.inr ⟨rfl, rfl, by omega⟩
    · have h2 : l < 3 := h2
      refine jWp.blk mt 2 ?_
      show jWp 129 14 [some (jO x), some (jI l)] [jI 1] 0 0 w _
      refine jWp.iretz mt rfl ⟨rfl, rfl⟩ rfl (Or.inr rfl) ?_
      first
      | exact Or.inl ⟨rfl, rfl, by omega⟩
      | exact Or.inr ⟨rfl, rfl, by omega⟩
set_option maxHeartbeats 4000000 in
set_option maxRecDepth 20000 in
theorem C_of {w : jS} {x : Nat} (hX : CW w.2 x) {c : Nat} {R : Nat → Int} (hR : zRw R c) (hRW : cRW w x R c) (hO : jOK w) {a b : Int} (hra : r32 a) (hrb : r32 b) : jCall 94 [jO x, jI a, jI b] w (fun v w1 => ((¬ (0 ≤ a ∧ a < (c : Int))) → cno w x 0 (jI (-1)) v w1) ∧ (¬ (¬ (0 ≤ a ∧ a < (c : Int))) → (¬ (0 ≤ b ∧ b ≤ 6)) → cno w x 1 (jI (-2)) v w1) ∧ (¬ (¬ (0 ≤ a ∧ a < (c : Int))) → ¬ (¬ (0 ≤ b ∧ b ≤ 6)) → ∃ (t : Nat → Int) (len : Nat) (why left : Int), zTR R a.toNat t len why left ∧ w1 = w ∧ (b = 0 → v = some (jI (R (1 + 10 * a.toNat)))) ∧ (b = 1 → v = some (jI (R (2 + 10 * a.toNat)))) ∧ (b = 2 → v = some (jI (zO (R (1 + 10 * a.toNat))))) ∧ (b = 3 → v = some (jI (len : Int))) ∧ (b = 4 → v = some (jI why)) ∧ (b = 5 → v = some (jI left)) ∧ (b = 6 → v = some (jI (zff (fun k => t k < 1) len 0))))) := by
  have mt : jtb 94 = jT94 := rfl
  have hc4 := hR.2.1
  have hra1 : -2147483648 ≤ a ∧ a < 2147483648 := hra
  have hrb1 : -2147483648 ≤ b ∧ b < 2147483648 := hrb
  show jWp 94 0 [some (jO x), some (jI a), some (jI b), none] [] 0 0 w _
  refine jWp.blk mt 2 ?_
  show _ ∧ jWp 94 2 [some (jO x), some (jI a), some (jI b), none] [jI a, jO x] 0 0 w _
  refine ⟨rfl, ?_⟩
  refine jWp.callv (as := [jO x, jI a]) (rest := []) mt rfl rfl rfl ⟨rfl, jtg hX.X0⟩ ?_
  refine jCall.mono (C_isRow (w := w) hX hRW.1 hR.2.1 hra) (fun v9 w9 h9 => ?_)
  rcases h9 with ⟨rfl, h9, h1⟩ | ⟨rfl, h9, h1⟩ <;> subst w9
  · have h1 : 0 ≤ a ∧ a < (c : Int) := h1
    show jWp 94 5 [some (jO x), some (jI a), some (jI b), none] [jI 1] 0 0 w _
    obtain ⟨a1, rfl⟩ : ∃ a1 : Nat, a = (a1 : Int) := ⟨a.toNat, by omega⟩
    show jWp 94 5 [some (jO x), some (jI (a1 : Int)), some (jI b), none] [jI 1] 0 0 w _
    obtain ⟨hlaw, hfig, hst, len, why, left, hlen, hwhy, hleft, hgr, hen⟩ := hRW.2 a1 (by omega)
    have hTR : zTR R a1 (w.1 (x + (365 + 6 * a1))) len why left := ⟨hgr, hen⟩
    have hTb := zTR_b hR (by omega) hTR
    have hRl := hR.2.2 a1 (by omega)
    show jWp 94 5 [some (jO x), some (jI (a1 : Int)), some (jI b), none] [jI 1] 0 0 w _
    refine jWp.ifc (b := true) mt rfl (by decide) rfl ?_
    show jWp 94 14 [some (jO x), some (jI (a1 : Int)), some (jI b), none] [] 0 0 w _
    refine jWp.blk mt 1 ?_
    show _ ∧ jWp 94 15 [some (jO x), some (jI (a1 : Int)), some (jI b), none] [jO x] 0 0 w _
    refine ⟨rfl, ?_⟩
    refine jWp.getR (pc' := 18) (o := (x + 1)) mt rfl rfl (jtg hX.X0) hX.R0 ?_
    show jWp 94 18 [some (jO x), some (jI (a1 : Int)), some (jI b), none] [jO (x + 1)] 0 0 w _
    refine jWp.blk mt 1 ?_
    show jWp 94 19 [some (jO x), some (jI (a1 : Int)), some (jI b), none] [jI (a1 : Int), jO (x + 1)] 0 0 w _
    refine jWp.aald (pc' := 20) (j := a1) (o := (x + (363 + 6 * a1))) mt rfl rfl (jrg hX.X1 (by decide) (by decide)) (by rw [b32_id (by omega) (by omega)] <;> omega) (jlt hX.X1 (by omega)) (hX.RR a1 (by omega)) ?_
    show jWp 94 20 [some (jO x), some (jI (a1 : Int)), some (jI b), none] [jO (x + (363 + 6 * a1))] 0 0 w _
    refine jWp.blk mt 2 ?_
    show _ ∧ jWp 94 22 [some (jO x), some (jI (a1 : Int)), some (jI b), some (jO (x + (363 + 6 * a1)))] [jI b] 0 0 w _
    refine ⟨rfl, ?_⟩
    refine jWp.sw mt rfl (Or.inl ⟨_, _, _, _, rfl⟩) (b32_id (by omega) (by omega)) ?_
    show jWp 94 (jsw [(0, 64), (1, 69), (2, 74), (3, 79), (4, 84), (5, 89), (6, 94)] 99 b) [some (jO x), some (jI (a1 : Int)), some (jI b), some (jO (x + (363 + 6 * a1)))] [] 0 0 w _
    unfold jsw; by_cases h2 : 0 = b
    · rw [if_pos h2]
      refine jWp.blk mt 1 ?_
      show _ ∧ jWp 94 65 [some (jO x), some (jI (a1 : Int)), some (jI b), some (jO (x + (363 + 6 * a1)))] [jO (x + (363 + 6 * a1))] 0 0 w _
      refine ⟨rfl, ?_⟩
      refine jWp.getI (pc' := 68) mt rfl rfl (jtg (hX.KR a1 (by omega))) ?_
      rw [show (w.1 (x + (363 + 6 * a1)) 0) = (R (1 + 10 * a1)) from hlaw]
      show jWp 94 68 [some (jO x), some (jI (a1 : Int)), some (jI b), some (jO (x + (363 + 6 * a1)))] [jI (R (1 + 10 * a1))] 0 0 w _
      refine jWp.ireti mt rfl ⟨rfl, rfl⟩ rfl ?_
      refine ⟨fun c0 => ?_, fun c0 c1 => ?_, fun c0 c1 => ?_⟩
      all_goals first
      | (exfalso; omega)
      | exact ⟨rfl, rfl⟩
      | exact ⟨_, len, why, left, hTR, rfl, fun z => by first | (exfalso; omega) | rfl, fun z => by first | (exfalso; omega) | rfl, fun z => by first | (exfalso; omega) | rfl, fun z => by first | (exfalso; omega) | rfl, fun z => by first | (exfalso; omega) | rfl, fun z => by first | (exfalso; omega) | rfl, fun z => by first | (exfalso; omega) | rfl⟩
    · rw [if_neg h2]
      unfold jsw; by_cases h3 : 1 = b
      · rw [if_pos h3]
        refine jWp.blk mt 1 ?_
        show _ ∧ jWp 94 70 [some (jO x), some (jI (a1 : Int)), some (jI b), some (jO (x + (363 + 6 * a1)))] [jO (x + (363 + 6 * a1))] 0 0 w _
        refine ⟨rfl, ?_⟩
        refine jWp.getI (pc' := 73) mt rfl rfl (jtg (hX.KR a1 (by omega))) ?_
        rw [show (w.1 (x + (363 + 6 * a1)) 1) = (R (2 + 10 * a1)) from hfig]
        show jWp 94 73 [some (jO x), some (jI (a1 : Int)), some (jI b), some (jO (x + (363 + 6 * a1)))] [jI (R (2 + 10 * a1))] 0 0 w _
        refine jWp.ireti mt rfl ⟨rfl, rfl⟩ rfl ?_
        refine ⟨fun c0 => ?_, fun c0 c1 => ?_, fun c0 c1 => ?_⟩
        all_goals first
        | (exfalso; omega)
        | exact ⟨rfl, rfl⟩
        | exact ⟨_, len, why, left, hTR, rfl, fun z => by first | (exfalso; omega) | rfl, fun z => by first | (exfalso; omega) | rfl, fun z => by first | (exfalso; omega) | rfl, fun z => by first | (exfalso; omega) | rfl, fun z => by first | (exfalso; omega) | rfl, fun z => by first | (exfalso; omega) | rfl, fun z => by first | (exfalso; omega) | rfl⟩
      · rw [if_neg h3]
        unfold jsw; by_cases h4 : 2 = b
        · rw [if_pos h4]
          refine jWp.blk mt 1 ?_
          show _ ∧ jWp 94 75 [some (jO x), some (jI (a1 : Int)), some (jI b), some (jO (x + (363 + 6 * a1)))] [jO (x + (363 + 6 * a1))] 0 0 w _
          refine ⟨rfl, ?_⟩
          refine jWp.callv (as := [jO (x + (363 + 6 * a1))]) (rest := []) mt rfl rfl rfl ⟨rfl, jtg (hX.KR a1 (by omega))⟩ ?_
          refine jCall.mono (E_ord (w := w) (r := x + (363 + 6 * a1)) (hX.KR a1 (by omega)) hO hlaw hRl.1.1 hRl.1.2) (fun v9 w9 h9 => ?_)
          obtain ⟨rfl, h9⟩ := h9
          subst w9
          show jWp 94 78 [some (jO x), some (jI (a1 : Int)), some (jI b), some (jO (x + (363 + 6 * a1)))] [jI (zO (R (1 + 10 * a1)))] 0 0 w _
          refine jWp.ireti mt rfl ⟨rfl, rfl⟩ rfl ?_
          refine ⟨fun c0 => ?_, fun c0 c1 => ?_, fun c0 c1 => ?_⟩
          all_goals first
          | (exfalso; omega)
          | exact ⟨rfl, rfl⟩
          | exact ⟨_, len, why, left, hTR, rfl, fun z => by first | (exfalso; omega) | rfl, fun z => by first | (exfalso; omega) | rfl, fun z => by first | (exfalso; omega) | rfl, fun z => by first | (exfalso; omega) | rfl, fun z => by first | (exfalso; omega) | rfl, fun z => by first | (exfalso; omega) | rfl, fun z => by first | (exfalso; omega) | rfl⟩
        · rw [if_neg h4]
          unfold jsw; by_cases h5 : 3 = b
          · rw [if_pos h5]
            refine jWp.blk mt 1 ?_
            show _ ∧ jWp 94 80 [some (jO x), some (jI (a1 : Int)), some (jI b), some (jO (x + (363 + 6 * a1)))] [jO (x + (363 + 6 * a1))] 0 0 w _
            refine ⟨rfl, ?_⟩
            refine jWp.getI (pc' := 83) mt rfl rfl (jtg (hX.KR a1 (by omega))) ?_
            rw [show (w.1 (x + (363 + 6 * a1)) 2) = (len : Int) from hlen]
            show jWp 94 83 [some (jO x), some (jI (a1 : Int)), some (jI b), some (jO (x + (363 + 6 * a1)))] [jI (len : Int)] 0 0 w _
            refine jWp.ireti mt rfl ⟨rfl, rfl⟩ rfl ?_
            refine ⟨fun c0 => ?_, fun c0 c1 => ?_, fun c0 c1 => ?_⟩
            all_goals first
            | (exfalso; omega)
            | exact ⟨rfl, rfl⟩
            | exact ⟨_, len, why, left, hTR, rfl, fun z => by first | (exfalso; omega) | rfl, fun z => by first | (exfalso; omega) | rfl, fun z => by first | (exfalso; omega) | rfl, fun z => by first | (exfalso; omega) | rfl, fun z => by first | (exfalso; omega) | rfl, fun z => by first | (exfalso; omega) | rfl, fun z => by first | (exfalso; omega) | rfl⟩
          · rw [if_neg h5]
            unfold jsw; by_cases h6 : 4 = b
            · rw [if_pos h6]
              refine jWp.blk mt 1 ?_
              show _ ∧ jWp 94 85 [some (jO x), some (jI (a1 : Int)), some (jI b), some (jO (x + (363 + 6 * a1)))] [jO (x + (363 + 6 * a1))] 0 0 w _
              refine ⟨rfl, ?_⟩
              refine jWp.getI (pc' := 88) mt rfl rfl (jtg (hX.KR a1 (by omega))) ?_
              rw [show (w.1 (x + (363 + 6 * a1)) 3) = why from hwhy]
              show jWp 94 88 [some (jO x), some (jI (a1 : Int)), some (jI b), some (jO (x + (363 + 6 * a1)))] [jI why] 0 0 w _
              refine jWp.ireti mt rfl ⟨rfl, rfl⟩ rfl ?_
              refine ⟨fun c0 => ?_, fun c0 c1 => ?_, fun c0 c1 => ?_⟩
              all_goals first
              | (exfalso; omega)
              | exact ⟨rfl, rfl⟩
              | exact ⟨_, len, why, left, hTR, rfl, fun z => by first | (exfalso; omega) | rfl, fun z => by first | (exfalso; omega) | rfl, fun z => by first | (exfalso; omega) | rfl, fun z => by first | (exfalso; omega) | rfl, fun z => by first | (exfalso; omega) | rfl, fun z => by first | (exfalso; omega) | rfl, fun z => by first | (exfalso; omega) | rfl⟩
            · rw [if_neg h6]
              unfold jsw; by_cases h7 : 5 = b
              · rw [if_pos h7]
                refine jWp.blk mt 1 ?_
                show _ ∧ jWp 94 90 [some (jO x), some (jI (a1 : Int)), some (jI b), some (jO (x + (363 + 6 * a1)))] [jO (x + (363 + 6 * a1))] 0 0 w _
                refine ⟨rfl, ?_⟩
                refine jWp.getI (pc' := 93) mt rfl rfl (jtg (hX.KR a1 (by omega))) ?_
                rw [show (w.1 (x + (363 + 6 * a1)) 4) = left from hleft]
                show jWp 94 93 [some (jO x), some (jI (a1 : Int)), some (jI b), some (jO (x + (363 + 6 * a1)))] [jI left] 0 0 w _
                refine jWp.ireti mt rfl ⟨rfl, rfl⟩ rfl ?_
                refine ⟨fun c0 => ?_, fun c0 c1 => ?_, fun c0 c1 => ?_⟩
                all_goals first
                | (exfalso; omega)
                | exact ⟨rfl, rfl⟩
                | exact ⟨_, len, why, left, hTR, rfl, fun z => by first | (exfalso; omega) | rfl, fun z => by first | (exfalso; omega) | rfl, fun z => by first | (exfalso; omega) | rfl, fun z => by first | (exfalso; omega) | rfl, fun z => by first | (exfalso; omega) | rfl, fun z => by first | (exfalso; omega) | rfl, fun z => by first | (exfalso; omega) | rfl⟩
              · rw [if_neg h7]
                unfold jsw; by_cases h8 : 6 = b
                · rw [if_pos h8]
                  refine jWp.blk mt 1 ?_
                  show _ ∧ jWp 94 95 [some (jO x), some (jI (a1 : Int)), some (jI b), some (jO (x + (363 + 6 * a1)))] [jO (x + (363 + 6 * a1))] 0 0 w _
                  refine ⟨rfl, ?_⟩
                  refine jWp.callv (as := [jO (x + (363 + 6 * a1))]) (rest := []) mt rfl rfl rfl ⟨rfl, jtg (hX.KR a1 (by omega))⟩ ?_
                  refine jCall.mono (C_firstBelow (w := w) (r := x + (363 + 6 * a1)) (rt := x + (365 + 6 * a1)) (len := len) (hX.KR a1 (by omega)) (hX.KRt a1 (by omega)) (hX.RRt a1 (by omega)) hlen (by omega) hTb.2.2) (fun v9 w9 h9 => ?_)
                  obtain ⟨rfl, h9⟩ := h9
                  subst w9
                  show jWp 94 98 [some (jO x), some (jI (a1 : Int)), some (jI b), some (jO (x + (363 + 6 * a1)))] [jI (zff (fun k => w.1 (x + (365 + 6 * a1)) k < 1) len 0)] 0 0 w _
                  refine jWp.ireti mt rfl ⟨rfl, rfl⟩ rfl ?_
                  refine ⟨fun c0 => ?_, fun c0 c1 => ?_, fun c0 c1 => ?_⟩
                  all_goals first
                  | (exfalso; omega)
                  | exact ⟨rfl, rfl⟩
                  | exact ⟨_, len, why, left, hTR, rfl, fun z => by first | (exfalso; omega) | rfl, fun z => by first | (exfalso; omega) | rfl, fun z => by first | (exfalso; omega) | rfl, fun z => by first | (exfalso; omega) | rfl, fun z => by first | (exfalso; omega) | rfl, fun z => by first | (exfalso; omega) | rfl, fun z => by first | (exfalso; omega) | rfl⟩
                · rw [if_neg h8]
                  unfold jsw
                  refine jWp.blk mt 2 ?_
                  show _ ∧ jWp 94 102 [some (jO x), some (jI (a1 : Int)), some (jI b), some (jO (x + (363 + 6 * a1)))] [jI (-2), jO x] 0 0 w _
                  refine ⟨rfl, ?_⟩
                  refine jWp.callv (as := [jO x, jI (-2)]) (rest := []) mt rfl rfl rfl ⟨rfl, jtg hX.X0⟩ ?_
                  refine jCall.mono (C_refuse (w := w) (j := 1) hX (by decide) (by decide)) (fun v9 w9 h9 => ?_)
                  obtain ⟨rfl, h9⟩ := h9
                  subst h9
                  show jWp 94 105 [some (jO x), some (jI (a1 : Int)), some (jI b), some (jO (x + (363 + 6 * a1)))] [jI (-2)] 0 0 (jW w (x + 362) 1 ((w.1 (x + 362) 1) + 1)) _
                  refine jWp.ireti mt rfl ⟨rfl, rfl⟩ rfl ?_
                  refine ⟨fun c0 => ?_, fun c0 c1 => ?_, fun c0 c1 => ?_⟩
                  all_goals first
                  | (exfalso; omega)
                  | exact ⟨rfl, rfl⟩
                  | exact ⟨_, len, why, left, hTR, rfl, fun z => by first | (exfalso; omega) | rfl, fun z => by first | (exfalso; omega) | rfl, fun z => by first | (exfalso; omega) | rfl, fun z => by first | (exfalso; omega) | rfl, fun z => by first | (exfalso; omega) | rfl, fun z => by first | (exfalso; omega) | rfl, fun z => by first | (exfalso; omega) | rfl⟩
  · have h1 : ¬ (0 ≤ a ∧ a < (c : Int)) := h1
    show jWp 94 5 [some (jO x), some (jI a), some (jI b), none] [jI 0] 0 0 w _
    refine jWp.ifc (b := false) mt rfl (by decide) rfl ?_
    show jWp 94 8 [some (jO x), some (jI a), some (jI b), none] [] 0 0 w _
    refine jWp.blk mt 2 ?_
    show _ ∧ jWp 94 10 [some (jO x), some (jI a), some (jI b), none] [jI (-1), jO x] 0 0 w _
    refine ⟨rfl, ?_⟩
    refine jWp.callv (as := [jO x, jI (-1)]) (rest := []) mt rfl rfl rfl ⟨rfl, jtg hX.X0⟩ ?_
    refine jCall.mono (C_refuse (w := w) (j := 0) hX (by decide) (by decide)) (fun v9 w9 h9 => ?_)
    obtain ⟨rfl, h9⟩ := h9
    subst h9
    show jWp 94 13 [some (jO x), some (jI a), some (jI b), none] [jI (-1)] 0 0 (jW w (x + 362) 0 ((w.1 (x + 362) 0) + 1)) _
    refine jWp.ireti mt rfl ⟨rfl, rfl⟩ rfl ?_
    refine ⟨fun c0 => ?_, fun c0 c1 => ?_, fun c0 c1 => ?_⟩
    all_goals first
    | (exfalso; omega)
    | exact ⟨rfl, rfl⟩
    | exact ⟨_, len, why, left, hTR, rfl, fun z => by first | (exfalso; omega) | rfl, fun z => by first | (exfalso; omega) | rfl, fun z => by first | (exfalso; omega) | rfl, fun z => by first | (exfalso; omega) | rfl, fun z => by first | (exfalso; omega) | rfl, fun z => by first | (exfalso; omega) | rfl, fun z => by first | (exfalso; omega) | rfl⟩
theorem zta_l {t : Nat → Int} {len n : Nat} (h : n < len) : zta t len n = t n := by
  unfold zta
  rw [if_pos (by omega)]
set_option maxHeartbeats 4000000 in
set_option maxRecDepth 20000 in
theorem C_term {w : jS} {x : Nat} (hX : CW w.2 x) {c : Nat} {R : Nat → Int} (hR : zRw R c) (hRW : cRW w x R c) {a n : Int} (hra : r32 a) (hrn : r32 n) : jCall 95 [jO x, jI a, jI n] w (fun v w1 => ((¬ (0 ≤ a ∧ a < (c : Int))) → cno w x 0 (jI (1000000000 - (-1))) v w1) ∧ (¬ (¬ (0 ≤ a ∧ a < (c : Int))) → (n < 0) → cno w x 3 (jI (1000000000 - (-4))) v w1) ∧ (¬ (¬ (0 ≤ a ∧ a < (c : Int))) → ¬ (n < 0) → ∃ (t : Nat → Int) (len : Nat) (why left : Int), zTR R a.toNat t len why left ∧ ((n.toNat < len ∧ v = some (jI (t n.toNat)) ∧ w1 = w) ∨ (¬ n.toNat < len ∧ cno w x 2 (jI (1000000000 - (-3))) v w1)))) := by
  have mt : jtb 95 = jT95 := rfl
  have hc4 := hR.2.1
  have hra1 : -2147483648 ≤ a ∧ a < 2147483648 := hra
  have hrn1 : -2147483648 ≤ n ∧ n < 2147483648 := hrn
  show jWp 95 0 [some (jO x), some (jI a), some (jI n)] [] 0 0 w _
  refine jWp.blk mt 2 ?_
  show _ ∧ jWp 95 2 [some (jO x), some (jI a), some (jI n)] [jI a, jO x] 0 0 w _
  refine ⟨rfl, ?_⟩
  refine jWp.callv (as := [jO x, jI a]) (rest := []) mt rfl rfl rfl ⟨rfl, jtg hX.X0⟩ ?_
  refine jCall.mono (C_isRow (w := w) hX hRW.1 hR.2.1 hra) (fun v9 w9 h9 => ?_)
  rcases h9 with ⟨rfl, h9, h1⟩ | ⟨rfl, h9, h1⟩ <;> subst w9
  · have h1 : 0 ≤ a ∧ a < (c : Int) := h1
    show jWp 95 5 [some (jO x), some (jI a), some (jI n)] [jI 1] 0 0 w _
    obtain ⟨a1, rfl⟩ : ∃ a1 : Nat, a = (a1 : Int) := ⟨a.toNat, by omega⟩
    show jWp 95 5 [some (jO x), some (jI (a1 : Int)), some (jI n)] [jI 1] 0 0 w _
    obtain ⟨hlaw, hfig, hst, len, why, left, hlen, hwhy, hleft, hgr, hen⟩ := hRW.2 a1 (by omega)
    have hTR : zTR R a1 (w.1 (x + (365 + 6 * a1))) len why left := ⟨hgr, hen⟩
    have hTb := zTR_b hR (by omega) hTR
    have hRl := hR.2.2 a1 (by omega)
    show jWp 95 5 [some (jO x), some (jI (a1 : Int)), some (jI n)] [jI 1] 0 0 w _
    refine jWp.ifc (b := true) mt rfl (by decide) rfl ?_
    show jWp 95 14 [some (jO x), some (jI (a1 : Int)), some (jI n)] [] 0 0 w _
    refine jWp.blk mt 1 ?_
    show jWp 95 15 [some (jO x), some (jI (a1 : Int)), some (jI n)] [jI n] 0 0 w _
    refine jWp.ifz (pc' := 18) mt rfl rfl (b32_id (by omega) (by omega)) (fun h2 => ?_) (fun h2 => ?_)
    · have h2 : 0 ≤ n := h2
      refine jWp.blk mt 1 ?_
      show _ ∧ jWp 95 26 [some (jO x), some (jI (a1 : Int)), some (jI n)] [jO x] 0 0 w _
      refine ⟨rfl, ?_⟩
      refine jWp.getR (pc' := 29) (o := (x + 1)) mt rfl rfl (jtg hX.X0) hX.R0 ?_
      show jWp 95 29 [some (jO x), some (jI (a1 : Int)), some (jI n)] [jO (x + 1)] 0 0 w _
      refine jWp.blk mt 1 ?_
      show jWp 95 30 [some (jO x), some (jI (a1 : Int)), some (jI n)] [jI (a1 : Int), jO (x + 1)] 0 0 w _
      refine jWp.aald (pc' := 31) (j := a1) (o := (x + (363 + 6 * a1))) mt rfl rfl (jrg hX.X1 (by decide) (by decide)) (by rw [b32_id (by omega) (by omega)] <;> omega) (jlt hX.X1 (by omega)) (hX.RR a1 (by omega)) ?_
      show jWp 95 31 [some (jO x), some (jI (a1 : Int)), some (jI n)] [jO (x + (363 + 6 * a1))] 0 0 w _
      refine jWp.blk mt 1 ?_
      show jWp 95 32 [some (jO x), some (jI (a1 : Int)), some (jI n)] [jI n, jO (x + (363 + 6 * a1))] 0 0 w _
      refine jWp.callv (as := [jO (x + (363 + 6 * a1)), jI n]) (rest := []) mt rfl rfl rfl ⟨rfl, jtg (hX.KR a1 (by omega))⟩ ?_
      refine jCall.mono (C_reaches (w := w) (r := x + (363 + 6 * a1)) (rt := x + (365 + 6 * a1)) (len := len) (hX.KR a1 (by omega)) (hX.KRt a1 (by omega)) (hX.RRt a1 (by omega)) hlen (by omega) hTb.2.2 hrn) (fun v9 w9 h9 => ?_)
      rcases h9 with ⟨rfl, h9, h3⟩ | ⟨rfl, h9, h3⟩ <;> subst w9
      · have h3 : 0 ≤ n ∧ n < (len : Int) := h3
        show jWp 95 35 [some (jO x), some (jI (a1 : Int)), some (jI n)] [jI 1] 0 0 w _
        obtain ⟨n1, rfl⟩ : ∃ n1 : Nat, n = (n1 : Int) := ⟨n.toNat, by omega⟩
        show jWp 95 35 [some (jO x), some (jI (a1 : Int)), some (jI (n1 : Int))] [jI 1] 0 0 w _
        refine jWp.ifc (b := true) mt rfl (by decide) rfl ?_
        show jWp 95 45 [some (jO x), some (jI (a1 : Int)), some (jI (n1 : Int))] [] 0 0 w _
        refine jWp.blk mt 1 ?_
        show _ ∧ jWp 95 46 [some (jO x), some (jI (a1 : Int)), some (jI (n1 : Int))] [jO x] 0 0 w _
        refine ⟨rfl, ?_⟩
        refine jWp.getR (pc' := 49) (o := (x + 1)) mt rfl rfl (jtg hX.X0) hX.R0 ?_
        show jWp 95 49 [some (jO x), some (jI (a1 : Int)), some (jI (n1 : Int))] [jO (x + 1)] 0 0 w _
        refine jWp.blk mt 1 ?_
        show jWp 95 50 [some (jO x), some (jI (a1 : Int)), some (jI (n1 : Int))] [jI (a1 : Int), jO (x + 1)] 0 0 w _
        refine jWp.aald (pc' := 51) (j := a1) (o := (x + (363 + 6 * a1))) mt rfl rfl (jrg hX.X1 (by decide) (by decide)) (by rw [b32_id (by omega) (by omega)] <;> omega) (jlt hX.X1 (by omega)) (hX.RR a1 (by omega)) ?_
        show jWp 95 51 [some (jO x), some (jI (a1 : Int)), some (jI (n1 : Int))] [jO (x + (363 + 6 * a1))] 0 0 w _
        refine jWp.blk mt 1 ?_
        show jWp 95 52 [some (jO x), some (jI (a1 : Int)), some (jI (n1 : Int))] [jI (n1 : Int), jO (x + (363 + 6 * a1))] 0 0 w _
        refine jWp.callv (as := [jO (x + (363 + 6 * a1)), jI (n1 : Int)]) (rest := []) mt rfl rfl rfl ⟨rfl, jtg (hX.KR a1 (by omega))⟩ ?_
        refine jCall.mono (C_termAt (w := w) (r := x + (363 + 6 * a1)) (rt := x + (365 + 6 * a1)) (len := len) (hX.KR a1 (by omega)) (hX.KRt a1 (by omega)) (hX.RRt a1 (by omega)) hlen (by omega) hTb.2.2 (n := n1) (by omega)) (fun v9 w9 h9 => ?_)
        obtain ⟨rfl, h9⟩ := h9
        subst w9
        show jWp 95 55 [some (jO x), some (jI (a1 : Int)), some (jI (n1 : Int))] [jI (zta (w.1 (x + (365 + 6 * a1))) len n1)] 0 0 w _
        refine jWp.ireti mt rfl ⟨rfl, rfl⟩ rfl ?_
        refine ⟨fun c0 => ?_, fun c0 c1 => ?_, fun c0 c1 => ?_⟩
        all_goals first
        | (exfalso; omega)
        | exact ⟨rfl, rfl⟩
        | exact ⟨_, len, why, left, hTR, Or.inl ⟨by omega, by rw [zta_l (by omega)]; rfl, rfl⟩⟩
        | exact ⟨_, len, why, left, hTR, Or.inr ⟨by omega, rfl, rfl⟩⟩
      · have h3 : ¬ (0 ≤ n ∧ n < (len : Int)) := h3
        show jWp 95 35 [some (jO x), some (jI (a1 : Int)), some (jI n)] [jI 0] 0 0 w _
        refine jWp.ifc (b := false) mt rfl (by decide) rfl ?_
        show jWp 95 38 [some (jO x), some (jI (a1 : Int)), some (jI n)] [] 0 0 w _
        refine jWp.blk mt 2 ?_
        show _ ∧ jWp 95 41 [some (jO x), some (jI (a1 : Int)), some (jI n)] [jI (-3), jO x] 0 0 w _
        refine ⟨rfl, ?_⟩
        refine jWp.callv (as := [jO x, jI (-3)]) (rest := []) mt rfl rfl rfl ⟨rfl, jtg hX.X0⟩ ?_
        refine jCall.mono (C_far (w := w) (j := 2) hX (by decide) (by decide)) (fun v9 w9 h9 => ?_)
        obtain ⟨rfl, h9⟩ := h9
        subst h9
        show jWp 95 44 [some (jO x), some (jI (a1 : Int)), some (jI n)] [jI (1000000000 - (-3))] 0 0 (jW w (x + 362) 2 ((w.1 (x + 362) 2) + 1)) _
        refine jWp.ireti mt rfl ⟨rfl, rfl⟩ rfl ?_
        refine ⟨fun c0 => ?_, fun c0 c1 => ?_, fun c0 c1 => ?_⟩
        all_goals first
        | (exfalso; omega)
        | exact ⟨rfl, rfl⟩
        | exact ⟨_, len, why, left, hTR, Or.inl ⟨by omega, by rw [zta_l (by omega)]; rfl, rfl⟩⟩
        | exact ⟨_, len, why, left, hTR, Or.inr ⟨by omega, rfl, rfl⟩⟩
    · have h2 : n < 0 := h2
      refine jWp.blk mt 2 ?_
      show _ ∧ jWp 95 21 [some (jO x), some (jI (a1 : Int)), some (jI n)] [jI (-4), jO x] 0 0 w _
      refine ⟨rfl, ?_⟩
      refine jWp.callv (as := [jO x, jI (-4)]) (rest := []) mt rfl rfl rfl ⟨rfl, jtg hX.X0⟩ ?_
      refine jCall.mono (C_far (w := w) (j := 3) hX (by decide) (by decide)) (fun v9 w9 h9 => ?_)
      obtain ⟨rfl, h9⟩ := h9
      subst h9
      show jWp 95 24 [some (jO x), some (jI (a1 : Int)), some (jI n)] [jI (1000000000 - (-4))] 0 0 (jW w (x + 362) 3 ((w.1 (x + 362) 3) + 1)) _
      refine jWp.ireti mt rfl ⟨rfl, rfl⟩ rfl ?_
      refine ⟨fun c0 => ?_, fun c0 c1 => ?_, fun c0 c1 => ?_⟩
      all_goals first
      | (exfalso; omega)
      | exact ⟨rfl, rfl⟩
      | exact ⟨_, len, why, left, hTR, Or.inl ⟨by omega, by rw [zta_l (by omega)]; rfl, rfl⟩⟩
      | exact ⟨_, len, why, left, hTR, Or.inr ⟨by omega, rfl, rfl⟩⟩
  · have h1 : ¬ (0 ≤ a ∧ a < (c : Int)) := h1
    show jWp 95 5 [some (jO x), some (jI a), some (jI n)] [jI 0] 0 0 w _
    refine jWp.ifc (b := false) mt rfl (by decide) rfl ?_
    show jWp 95 8 [some (jO x), some (jI a), some (jI n)] [] 0 0 w _
    refine jWp.blk mt 2 ?_
    show _ ∧ jWp 95 10 [some (jO x), some (jI a), some (jI n)] [jI (-1), jO x] 0 0 w _
    refine ⟨rfl, ?_⟩
    refine jWp.callv (as := [jO x, jI (-1)]) (rest := []) mt rfl rfl rfl ⟨rfl, jtg hX.X0⟩ ?_
    refine jCall.mono (C_far (w := w) (j := 0) hX (by decide) (by decide)) (fun v9 w9 h9 => ?_)
    obtain ⟨rfl, h9⟩ := h9
    subst h9
    show jWp 95 13 [some (jO x), some (jI a), some (jI n)] [jI (1000000000 - (-1))] 0 0 (jW w (x + 362) 0 ((w.1 (x + 362) 0) + 1)) _
    refine jWp.ireti mt rfl ⟨rfl, rfl⟩ rfl ?_
    refine ⟨fun c0 => ?_, fun c0 c1 => ?_, fun c0 c1 => ?_⟩
    all_goals first
    | (exfalso; omega)
    | exact ⟨rfl, rfl⟩
    | exact ⟨_, len, why, left, hTR, Or.inl ⟨by omega, by rw [zta_l (by omega)]; rfl, rfl⟩⟩
    | exact ⟨_, len, why, left, hTR, Or.inr ⟨by omega, rfl, rfl⟩⟩
set_option maxHeartbeats 4000000 in
set_option maxRecDepth 20000 in
theorem C_kept {w : jS} {x : Nat} (hX : CW w.2 x) {c : Nat} {R : Nat → Int} (hR : zRw R c) (hRW : cRW w x R c) {a n b : Int} (hra : r32 a) (hrn : r32 n) (hrb : r32 b) : jCall 96 [jO x, jI a, jI n, jI b] w (fun v w1 => ((¬ (0 ≤ a ∧ a < (c : Int))) → cno w x 0 (jJ (4000000000000000000 - (-1))) v w1) ∧ (¬ (¬ (0 ≤ a ∧ a < (c : Int))) → (¬ (0 ≤ b ∧ b ≤ 1)) → cno w x 1 (jJ (4000000000000000000 - (-2))) v w1) ∧ (¬ (¬ (0 ≤ a ∧ a < (c : Int))) → ¬ (¬ (0 ≤ b ∧ b ≤ 1)) → (n < 0) → cno w x 3 (jJ (4000000000000000000 - (-4))) v w1) ∧ (¬ (¬ (0 ≤ a ∧ a < (c : Int))) → ¬ (¬ (0 ≤ b ∧ b ≤ 1)) → ¬ (n < 0) → ∃ (t : Nat → Int) (len : Nat) (why left : Int), zTR R a.toNat t len why left ∧ ((zkp (R (1 + 10 * a.toNat)) t len n.toNat ∧ v = some (jJ (if b = 0 then (zu (zku (R (1 + 10 * a.toNat)) (R (2 + 10 * a.toNat)) t n.toNat) (zkd (R (1 + 10 * a.toNat)) t n.toNat)) else (zv (zku (R (1 + 10 * a.toNat)) (R (2 + 10 * a.toNat)) t n.toNat) (zkd (R (1 + 10 * a.toNat)) t n.toNat)))) ∧ cq w x w1) ∨ (¬ zkp (R (1 + 10 * a.toNat)) t len n.toNat ∧ cno w x 2 (jJ (4000000000000000000 - (-3))) v w1)))) := by
  have mt : jtb 96 = jT96 := rfl
  have hc4 := hR.2.1
  have hra1 : -2147483648 ≤ a ∧ a < 2147483648 := hra
  have hrn1 : -2147483648 ≤ n ∧ n < 2147483648 := hrn
  have hrb1 : -2147483648 ≤ b ∧ b < 2147483648 := hrb
  show jWp 96 0 [some (jO x), some (jI a), some (jI n), some (jI b)] [] 0 0 w _
  refine jWp.blk mt 2 ?_
  show _ ∧ jWp 96 2 [some (jO x), some (jI a), some (jI n), some (jI b)] [jI a, jO x] 0 0 w _
  refine ⟨rfl, ?_⟩
  refine jWp.callv (as := [jO x, jI a]) (rest := []) mt rfl rfl rfl ⟨rfl, jtg hX.X0⟩ ?_
  refine jCall.mono (C_isRow (w := w) hX hRW.1 hR.2.1 hra) (fun v9 w9 h9 => ?_)
  rcases h9 with ⟨rfl, h9, h1⟩ | ⟨rfl, h9, h1⟩ <;> subst w9
  · have h1 : 0 ≤ a ∧ a < (c : Int) := h1
    show jWp 96 5 [some (jO x), some (jI a), some (jI n), some (jI b)] [jI 1] 0 0 w _
    obtain ⟨a1, rfl⟩ : ∃ a1 : Nat, a = (a1 : Int) := ⟨a.toNat, by omega⟩
    show jWp 96 5 [some (jO x), some (jI (a1 : Int)), some (jI n), some (jI b)] [jI 1] 0 0 w _
    obtain ⟨hlaw, hfig, hst, len, why, left, hlen, hwhy, hleft, hgr, hen⟩ := hRW.2 a1 (by omega)
    have hTR : zTR R a1 (w.1 (x + (365 + 6 * a1))) len why left := ⟨hgr, hen⟩
    have hTb := zTR_b hR (by omega) hTR
    have hRl := hR.2.2 a1 (by omega)
    show jWp 96 5 [some (jO x), some (jI (a1 : Int)), some (jI n), some (jI b)] [jI 1] 0 0 w _
    refine jWp.ifc (b := true) mt rfl (by decide) rfl ?_
    show jWp 96 14 [some (jO x), some (jI (a1 : Int)), some (jI n), some (jI b)] [] 0 0 w _
    refine jWp.blk mt 1 ?_
    show jWp 96 15 [some (jO x), some (jI (a1 : Int)), some (jI n), some (jI b)] [jI b] 0 0 w _
    refine jWp.ifz (pc' := 18) mt rfl rfl (b32_id (by omega) (by omega)) (fun h2 => ?_) (fun h2 => ?_)
    · have h2 : b = 0 := h2
      refine jWp.blk mt 1 ?_
      show jWp 96 31 [some (jO x), some (jI (a1 : Int)), some (jI n), some (jI b)] [jI n] 0 0 w _
      refine jWp.ifz (pc' := 34) mt rfl rfl (b32_id (by omega) (by omega)) (fun h3 => ?_) (fun h3 => ?_)
      · have h3 : 0 ≤ n := h3
        obtain ⟨n1, rfl⟩ : ∃ n1 : Nat, n = (n1 : Int) := ⟨n.toNat, by omega⟩
        show jWp 96 41 [some (jO x), some (jI (a1 : Int)), some (jI (n1 : Int)), some (jI b)] [] 0 0 w _
        refine jWp.blk mt 1 ?_
        show _ ∧ jWp 96 42 [some (jO x), some (jI (a1 : Int)), some (jI (n1 : Int)), some (jI b)] [jO x] 0 0 w _
        refine ⟨rfl, ?_⟩
        refine jWp.getR (pc' := 45) (o := (x + 1)) mt rfl rfl (jtg hX.X0) hX.R0 ?_
        show jWp 96 45 [some (jO x), some (jI (a1 : Int)), some (jI (n1 : Int)), some (jI b)] [jO (x + 1)] 0 0 w _
        refine jWp.blk mt 1 ?_
        show jWp 96 46 [some (jO x), some (jI (a1 : Int)), some (jI (n1 : Int)), some (jI b)] [jI (a1 : Int), jO (x + 1)] 0 0 w _
        refine jWp.aald (pc' := 47) (j := a1) (o := (x + (363 + 6 * a1))) mt rfl rfl (jrg hX.X1 (by decide) (by decide)) (by rw [b32_id (by omega) (by omega)] <;> omega) (jlt hX.X1 (by omega)) (hX.RR a1 (by omega)) ?_
        show jWp 96 47 [some (jO x), some (jI (a1 : Int)), some (jI (n1 : Int)), some (jI b)] [jO (x + (363 + 6 * a1))] 0 0 w _
        refine jWp.blk mt 2 ?_
        show _ ∧ jWp 96 49 [some (jO x), some (jI (a1 : Int)), some (jI (n1 : Int)), some (jI b)] [jO x, jI (n1 : Int), jO (x + (363 + 6 * a1))] 0 0 w _
        refine ⟨rfl, ?_⟩
        refine jWp.getR (pc' := 52) (o := (x + 360)) mt rfl rfl (jtg hX.X0) hX.R12 ?_
        show jWp 96 52 [some (jO x), some (jI (a1 : Int)), some (jI (n1 : Int)), some (jI b)] [jO (x + 360), jI (n1 : Int), jO (x + (363 + 6 * a1))] 0 0 w _
        refine jWp.callv (as := [jO (x + (363 + 6 * a1)), jI (n1 : Int), jO (x + 360)]) (rest := []) mt rfl rfl rfl ⟨rfl, jtg (hX.KR a1 (by omega))⟩ ?_
        refine jCall.mono (C_keep (w := w) (r := x + (363 + 6 * a1)) (rt := x + (365 + 6 * a1)) (len := len) (hX.KR a1 (by omega)) (hX.KRt a1 (by omega)) (hX.RRt a1 (by omega)) hlen (by omega) hTb.2.2 (fk := x + 360) (n := n1) hX.X360 hlaw hfig hRl.1.1 hRl.1.2 hRl.2.1 (by omega)) (fun v9 w9 h9 => ?_)
        rcases h9 with ⟨rfl, hk9, hw9, hub, hvb⟩ | ⟨rfl, hk9, hw9⟩ <;> subst w9
        · have hk9' := hk9
          show jWp 96 55 [some (jO x), some (jI (a1 : Int)), some (jI (n1 : Int)), some (jI b)] [jI 1] 0 0 (jW (jW w (x + 360) 0 (zu (zku (R (1 + 10 * a1)) (R (2 + 10 * a1)) (w.1 (x + (365 + 6 * a1))) n1) (zkd (R (1 + 10 * a1)) (w.1 (x + (365 + 6 * a1))) n1))) (x + 360) 1 (zv (zku (R (1 + 10 * a1)) (R (2 + 10 * a1)) (w.1 (x + (365 + 6 * a1))) n1) (zkd (R (1 + 10 * a1)) (w.1 (x + (365 + 6 * a1))) n1))) _
          refine jWp.ifc (b := true) mt rfl (by decide) rfl ?_
          show jWp 96 65 [some (jO x), some (jI (a1 : Int)), some (jI (n1 : Int)), some (jI b)] [] 0 0 (jW (jW w (x + 360) 0 (zu (zku (R (1 + 10 * a1)) (R (2 + 10 * a1)) (w.1 (x + (365 + 6 * a1))) n1) (zkd (R (1 + 10 * a1)) (w.1 (x + (365 + 6 * a1))) n1))) (x + 360) 1 (zv (zku (R (1 + 10 * a1)) (R (2 + 10 * a1)) (w.1 (x + (365 + 6 * a1))) n1) (zkd (R (1 + 10 * a1)) (w.1 (x + (365 + 6 * a1))) n1))) _
          refine jWp.blk mt 1 ?_
          show jWp 96 66 [some (jO x), some (jI (a1 : Int)), some (jI (n1 : Int)), some (jI b)] [jI b] 0 0 (jW (jW w (x + 360) 0 (zu (zku (R (1 + 10 * a1)) (R (2 + 10 * a1)) (w.1 (x + (365 + 6 * a1))) n1) (zkd (R (1 + 10 * a1)) (w.1 (x + (365 + 6 * a1))) n1))) (x + 360) 1 (zv (zku (R (1 + 10 * a1)) (R (2 + 10 * a1)) (w.1 (x + (365 + 6 * a1))) n1) (zkd (R (1 + 10 * a1)) (w.1 (x + (365 + 6 * a1))) n1))) _
          refine jWp.ifz (pc' := 69) mt rfl rfl (b32_id (by omega) (by omega)) (fun h4 => ?_) (fun h4 => ?_)
          · have h4 : b ≠ 0 := h4
            refine jWp.blk mt 1 ?_
            show _ ∧ jWp 96 80 [some (jO x), some (jI (a1 : Int)), some (jI (n1 : Int)), some (jI b)] [jO x] 0 0 (jW (jW w (x + 360) 0 (zu (zku (R (1 + 10 * a1)) (R (2 + 10 * a1)) (w.1 (x + (365 + 6 * a1))) n1) (zkd (R (1 + 10 * a1)) (w.1 (x + (365 + 6 * a1))) n1))) (x + 360) 1 (zv (zku (R (1 + 10 * a1)) (R (2 + 10 * a1)) (w.1 (x + (365 + 6 * a1))) n1) (zkd (R (1 + 10 * a1)) (w.1 (x + (365 + 6 * a1))) n1))) _
            refine ⟨rfl, ?_⟩
            refine jWp.getR (pc' := 83) (o := (x + 360)) mt rfl rfl (jtg hX.X0) hX.R12 ?_
            show jWp 96 83 [some (jO x), some (jI (a1 : Int)), some (jI (n1 : Int)), some (jI b)] [jO (x + 360)] 0 0 (jW (jW w (x + 360) 0 (zu (zku (R (1 + 10 * a1)) (R (2 + 10 * a1)) (w.1 (x + (365 + 6 * a1))) n1) (zkd (R (1 + 10 * a1)) (w.1 (x + (365 + 6 * a1))) n1))) (x + 360) 1 (zv (zku (R (1 + 10 * a1)) (R (2 + 10 * a1)) (w.1 (x + (365 + 6 * a1))) n1) (zkd (R (1 + 10 * a1)) (w.1 (x + (365 + 6 * a1))) n1))) _
            refine jWp.getJ (pc' := 86) mt rfl rfl (jtg hX.X360) ?_
            rw [show ((jW (jW w (x + 360) 0 (zu (zku (R (1 + 10 * a1)) (R (2 + 10 * a1)) (w.1 (x + (365 + 6 * a1))) n1) (zkd (R (1 + 10 * a1)) (w.1 (x + (365 + 6 * a1))) n1))) (x + 360) 1 (zv (zku (R (1 + 10 * a1)) (R (2 + 10 * a1)) (w.1 (x + (365 + 6 * a1))) n1) (zkd (R (1 + 10 * a1)) (w.1 (x + (365 + 6 * a1))) n1))).1 (x + 360) 1) = (zv (zku (R (1 + 10 * a1)) (R (2 + 10 * a1)) (w.1 (x + (365 + 6 * a1))) n1) (zkd (R (1 + 10 * a1)) (w.1 (x + (365 + 6 * a1))) n1)) from jW_s]
            show jWp 96 86 [some (jO x), some (jI (a1 : Int)), some (jI (n1 : Int)), some (jI b)] [jJ (zv (zku (R (1 + 10 * a1)) (R (2 + 10 * a1)) (w.1 (x + (365 + 6 * a1))) n1) (zkd (R (1 + 10 * a1)) (w.1 (x + (365 + 6 * a1))) n1))] 0 0 (jW (jW w (x + 360) 0 (zu (zku (R (1 + 10 * a1)) (R (2 + 10 * a1)) (w.1 (x + (365 + 6 * a1))) n1) (zkd (R (1 + 10 * a1)) (w.1 (x + (365 + 6 * a1))) n1))) (x + 360) 1 (zv (zku (R (1 + 10 * a1)) (R (2 + 10 * a1)) (w.1 (x + (365 + 6 * a1))) n1) (zkd (R (1 + 10 * a1)) (w.1 (x + (365 + 6 * a1))) n1))) _
            refine jWp.lret mt rfl ⟨rfl, rfl⟩ rfl ?_
            refine ⟨fun c0 => ?_, fun c0 c1 => ?_, fun c0 c1 c2 => ?_, fun c0 c1 c2 => ?_⟩
            all_goals first
            | (exfalso; omega)
            | exact ⟨rfl, rfl⟩
            | exact ⟨_, len, why, left, hTR, Or.inr ⟨hk9, rfl, rfl⟩⟩
            | exact ⟨_, len, why, left, hTR, Or.inl ⟨hk9, by rw [if_pos (by omega)]; rfl, rfl, fun z g1 g2 g3 => (jW_f g2).trans (jW_f g2)⟩⟩
            | exact ⟨_, len, why, left, hTR, Or.inl ⟨hk9, by rw [if_neg (by omega)]; rfl, rfl, fun z g1 g2 g3 => (jW_f g2).trans (jW_f g2)⟩⟩
          · have h4 : b = 0 := h4
            refine jWp.blk mt 1 ?_
            show _ ∧ jWp 96 70 [some (jO x), some (jI (a1 : Int)), some (jI (n1 : Int)), some (jI b)] [jO x] 0 0 (jW (jW w (x + 360) 0 (zu (zku (R (1 + 10 * a1)) (R (2 + 10 * a1)) (w.1 (x + (365 + 6 * a1))) n1) (zkd (R (1 + 10 * a1)) (w.1 (x + (365 + 6 * a1))) n1))) (x + 360) 1 (zv (zku (R (1 + 10 * a1)) (R (2 + 10 * a1)) (w.1 (x + (365 + 6 * a1))) n1) (zkd (R (1 + 10 * a1)) (w.1 (x + (365 + 6 * a1))) n1))) _
            refine ⟨rfl, ?_⟩
            refine jWp.getR (pc' := 73) (o := (x + 360)) mt rfl rfl (jtg hX.X0) hX.R12 ?_
            show jWp 96 73 [some (jO x), some (jI (a1 : Int)), some (jI (n1 : Int)), some (jI b)] [jO (x + 360)] 0 0 (jW (jW w (x + 360) 0 (zu (zku (R (1 + 10 * a1)) (R (2 + 10 * a1)) (w.1 (x + (365 + 6 * a1))) n1) (zkd (R (1 + 10 * a1)) (w.1 (x + (365 + 6 * a1))) n1))) (x + 360) 1 (zv (zku (R (1 + 10 * a1)) (R (2 + 10 * a1)) (w.1 (x + (365 + 6 * a1))) n1) (zkd (R (1 + 10 * a1)) (w.1 (x + (365 + 6 * a1))) n1))) _
            refine jWp.getJ (pc' := 76) mt rfl rfl (jtg hX.X360) ?_
            rw [show ((jW (jW w (x + 360) 0 (zu (zku (R (1 + 10 * a1)) (R (2 + 10 * a1)) (w.1 (x + (365 + 6 * a1))) n1) (zkd (R (1 + 10 * a1)) (w.1 (x + (365 + 6 * a1))) n1))) (x + 360) 1 (zv (zku (R (1 + 10 * a1)) (R (2 + 10 * a1)) (w.1 (x + (365 + 6 * a1))) n1) (zkd (R (1 + 10 * a1)) (w.1 (x + (365 + 6 * a1))) n1))).1 (x + 360) 0) = (zu (zku (R (1 + 10 * a1)) (R (2 + 10 * a1)) (w.1 (x + (365 + 6 * a1))) n1) (zkd (R (1 + 10 * a1)) (w.1 (x + (365 + 6 * a1))) n1)) from ((jW_k (by decide)).trans jW_s)]
            show jWp 96 76 [some (jO x), some (jI (a1 : Int)), some (jI (n1 : Int)), some (jI b)] [jJ (zu (zku (R (1 + 10 * a1)) (R (2 + 10 * a1)) (w.1 (x + (365 + 6 * a1))) n1) (zkd (R (1 + 10 * a1)) (w.1 (x + (365 + 6 * a1))) n1))] 0 0 (jW (jW w (x + 360) 0 (zu (zku (R (1 + 10 * a1)) (R (2 + 10 * a1)) (w.1 (x + (365 + 6 * a1))) n1) (zkd (R (1 + 10 * a1)) (w.1 (x + (365 + 6 * a1))) n1))) (x + 360) 1 (zv (zku (R (1 + 10 * a1)) (R (2 + 10 * a1)) (w.1 (x + (365 + 6 * a1))) n1) (zkd (R (1 + 10 * a1)) (w.1 (x + (365 + 6 * a1))) n1))) _
            refine jWp.blk mt 1 ?_
            show jWp 96 86 [some (jO x), some (jI (a1 : Int)), some (jI (n1 : Int)), some (jI b)] [jJ (zu (zku (R (1 + 10 * a1)) (R (2 + 10 * a1)) (w.1 (x + (365 + 6 * a1))) n1) (zkd (R (1 + 10 * a1)) (w.1 (x + (365 + 6 * a1))) n1))] 0 0 (jW (jW w (x + 360) 0 (zu (zku (R (1 + 10 * a1)) (R (2 + 10 * a1)) (w.1 (x + (365 + 6 * a1))) n1) (zkd (R (1 + 10 * a1)) (w.1 (x + (365 + 6 * a1))) n1))) (x + 360) 1 (zv (zku (R (1 + 10 * a1)) (R (2 + 10 * a1)) (w.1 (x + (365 + 6 * a1))) n1) (zkd (R (1 + 10 * a1)) (w.1 (x + (365 + 6 * a1))) n1))) _
            refine jWp.lret mt rfl ⟨rfl, rfl⟩ rfl ?_
            refine ⟨fun c0 => ?_, fun c0 c1 => ?_, fun c0 c1 c2 => ?_, fun c0 c1 c2 => ?_⟩
            all_goals first
            | (exfalso; omega)
            | exact ⟨rfl, rfl⟩
            | exact ⟨_, len, why, left, hTR, Or.inr ⟨hk9, rfl, rfl⟩⟩
            | exact ⟨_, len, why, left, hTR, Or.inl ⟨hk9, by rw [if_pos (by omega)]; rfl, rfl, fun z g1 g2 g3 => (jW_f g2).trans (jW_f g2)⟩⟩
            | exact ⟨_, len, why, left, hTR, Or.inl ⟨hk9, by rw [if_neg (by omega)]; rfl, rfl, fun z g1 g2 g3 => (jW_f g2).trans (jW_f g2)⟩⟩
        · have hk9' := hk9
          show jWp 96 55 [some (jO x), some (jI (a1 : Int)), some (jI (n1 : Int)), some (jI b)] [jI 0] 0 0 w _
          refine jWp.ifc (b := false) mt rfl (by decide) rfl ?_
          show jWp 96 58 [some (jO x), some (jI (a1 : Int)), some (jI (n1 : Int)), some (jI b)] [] 0 0 w _
          refine jWp.blk mt 2 ?_
          show _ ∧ jWp 96 61 [some (jO x), some (jI (a1 : Int)), some (jI (n1 : Int)), some (jI b)] [jI (-3), jO x] 0 0 w _
          refine ⟨rfl, ?_⟩
          refine jWp.callv (as := [jO x, jI (-3)]) (rest := []) mt rfl rfl rfl ⟨rfl, jtg hX.X0⟩ ?_
          refine jCall.mono (C_farther (w := w) (j := 2) hX (by decide) (by decide)) (fun v9 w9 h9 => ?_)
          obtain ⟨rfl, h9⟩ := h9
          subst h9
          show jWp 96 64 [some (jO x), some (jI (a1 : Int)), some (jI (n1 : Int)), some (jI b)] [jJ (4000000000000000000 - (-3))] 0 0 (jW w (x + 362) 2 ((w.1 (x + 362) 2) + 1)) _
          refine jWp.lret mt rfl ⟨rfl, rfl⟩ rfl ?_
          refine ⟨fun c0 => ?_, fun c0 c1 => ?_, fun c0 c1 c2 => ?_, fun c0 c1 c2 => ?_⟩
          all_goals first
          | (exfalso; omega)
          | exact ⟨rfl, rfl⟩
          | exact ⟨_, len, why, left, hTR, Or.inr ⟨hk9, rfl, rfl⟩⟩
          | exact ⟨_, len, why, left, hTR, Or.inl ⟨hk9, by rw [if_pos (by omega)]; rfl, rfl, fun z g1 g2 g3 => (jW_f g2).trans (jW_f g2)⟩⟩
          | exact ⟨_, len, why, left, hTR, Or.inl ⟨hk9, by rw [if_neg (by omega)]; rfl, rfl, fun z g1 g2 g3 => (jW_f g2).trans (jW_f g2)⟩⟩
      · have h3 : n < 0 := h3
        refine jWp.blk mt 2 ?_
        show _ ∧ jWp 96 37 [some (jO x), some (jI (a1 : Int)), some (jI n), some (jI b)] [jI (-4), jO x] 0 0 w _
        refine ⟨rfl, ?_⟩
        refine jWp.callv (as := [jO x, jI (-4)]) (rest := []) mt rfl rfl rfl ⟨rfl, jtg hX.X0⟩ ?_
        refine jCall.mono (C_farther (w := w) (j := 3) hX (by decide) (by decide)) (fun v9 w9 h9 => ?_)
        obtain ⟨rfl, h9⟩ := h9
        subst h9
        show jWp 96 40 [some (jO x), some (jI (a1 : Int)), some (jI n), some (jI b)] [jJ (4000000000000000000 - (-4))] 0 0 (jW w (x + 362) 3 ((w.1 (x + 362) 3) + 1)) _
        refine jWp.lret mt rfl ⟨rfl, rfl⟩ rfl ?_
        refine ⟨fun c0 => ?_, fun c0 c1 => ?_, fun c0 c1 c2 => ?_, fun c0 c1 c2 => ?_⟩
        all_goals first
        | (exfalso; omega)
        | exact ⟨rfl, rfl⟩
        | exact ⟨_, len, why, left, hTR, Or.inr ⟨hk9, rfl, rfl⟩⟩
        | exact ⟨_, len, why, left, hTR, Or.inl ⟨hk9, by rw [if_pos (by omega)]; rfl, rfl, fun z g1 g2 g3 => (jW_f g2).trans (jW_f g2)⟩⟩
        | exact ⟨_, len, why, left, hTR, Or.inl ⟨hk9, by rw [if_neg (by omega)]; rfl, rfl, fun z g1 g2 g3 => (jW_f g2).trans (jW_f g2)⟩⟩
    · have h2 : b ≠ 0 := h2
      refine jWp.blk mt 2 ?_
      show jWp 96 20 [some (jO x), some (jI (a1 : Int)), some (jI n), some (jI b)] [jI 1, jI b] 0 0 w _
      refine jWp.icmp (pc' := 23) mt rfl rfl (b32_id (by omega) (by omega)) (show b32 1 = 1 by decide) (fun h5 => ?_) (fun h5 => ?_)
      · have h5 : b = 1 := h5
        refine jWp.blk mt 1 ?_
        show jWp 96 31 [some (jO x), some (jI (a1 : Int)), some (jI n), some (jI b)] [jI n] 0 0 w _
        refine jWp.ifz (pc' := 34) mt rfl rfl (b32_id (by omega) (by omega)) (fun h6 => ?_) (fun h6 => ?_)
        · have h6 : 0 ≤ n := h6
          obtain ⟨n1, rfl⟩ : ∃ n1 : Nat, n = (n1 : Int) := ⟨n.toNat, by omega⟩
          show jWp 96 41 [some (jO x), some (jI (a1 : Int)), some (jI (n1 : Int)), some (jI b)] [] 0 0 w _
          refine jWp.blk mt 1 ?_
          show _ ∧ jWp 96 42 [some (jO x), some (jI (a1 : Int)), some (jI (n1 : Int)), some (jI b)] [jO x] 0 0 w _
          refine ⟨rfl, ?_⟩
          refine jWp.getR (pc' := 45) (o := (x + 1)) mt rfl rfl (jtg hX.X0) hX.R0 ?_
          show jWp 96 45 [some (jO x), some (jI (a1 : Int)), some (jI (n1 : Int)), some (jI b)] [jO (x + 1)] 0 0 w _
          refine jWp.blk mt 1 ?_
          show jWp 96 46 [some (jO x), some (jI (a1 : Int)), some (jI (n1 : Int)), some (jI b)] [jI (a1 : Int), jO (x + 1)] 0 0 w _
          refine jWp.aald (pc' := 47) (j := a1) (o := (x + (363 + 6 * a1))) mt rfl rfl (jrg hX.X1 (by decide) (by decide)) (by rw [b32_id (by omega) (by omega)] <;> omega) (jlt hX.X1 (by omega)) (hX.RR a1 (by omega)) ?_
          show jWp 96 47 [some (jO x), some (jI (a1 : Int)), some (jI (n1 : Int)), some (jI b)] [jO (x + (363 + 6 * a1))] 0 0 w _
          refine jWp.blk mt 2 ?_
          show _ ∧ jWp 96 49 [some (jO x), some (jI (a1 : Int)), some (jI (n1 : Int)), some (jI b)] [jO x, jI (n1 : Int), jO (x + (363 + 6 * a1))] 0 0 w _
          refine ⟨rfl, ?_⟩
          refine jWp.getR (pc' := 52) (o := (x + 360)) mt rfl rfl (jtg hX.X0) hX.R12 ?_
          show jWp 96 52 [some (jO x), some (jI (a1 : Int)), some (jI (n1 : Int)), some (jI b)] [jO (x + 360), jI (n1 : Int), jO (x + (363 + 6 * a1))] 0 0 w _
          refine jWp.callv (as := [jO (x + (363 + 6 * a1)), jI (n1 : Int), jO (x + 360)]) (rest := []) mt rfl rfl rfl ⟨rfl, jtg (hX.KR a1 (by omega))⟩ ?_
          refine jCall.mono (C_keep (w := w) (r := x + (363 + 6 * a1)) (rt := x + (365 + 6 * a1)) (len := len) (hX.KR a1 (by omega)) (hX.KRt a1 (by omega)) (hX.RRt a1 (by omega)) hlen (by omega) hTb.2.2 (fk := x + 360) (n := n1) hX.X360 hlaw hfig hRl.1.1 hRl.1.2 hRl.2.1 (by omega)) (fun v9 w9 h9 => ?_)
          rcases h9 with ⟨rfl, hk9, hw9, hub, hvb⟩ | ⟨rfl, hk9, hw9⟩ <;> subst w9
          · have hk9' := hk9
            show jWp 96 55 [some (jO x), some (jI (a1 : Int)), some (jI (n1 : Int)), some (jI b)] [jI 1] 0 0 (jW (jW w (x + 360) 0 (zu (zku (R (1 + 10 * a1)) (R (2 + 10 * a1)) (w.1 (x + (365 + 6 * a1))) n1) (zkd (R (1 + 10 * a1)) (w.1 (x + (365 + 6 * a1))) n1))) (x + 360) 1 (zv (zku (R (1 + 10 * a1)) (R (2 + 10 * a1)) (w.1 (x + (365 + 6 * a1))) n1) (zkd (R (1 + 10 * a1)) (w.1 (x + (365 + 6 * a1))) n1))) _
            refine jWp.ifc (b := true) mt rfl (by decide) rfl ?_
            show jWp 96 65 [some (jO x), some (jI (a1 : Int)), some (jI (n1 : Int)), some (jI b)] [] 0 0 (jW (jW w (x + 360) 0 (zu (zku (R (1 + 10 * a1)) (R (2 + 10 * a1)) (w.1 (x + (365 + 6 * a1))) n1) (zkd (R (1 + 10 * a1)) (w.1 (x + (365 + 6 * a1))) n1))) (x + 360) 1 (zv (zku (R (1 + 10 * a1)) (R (2 + 10 * a1)) (w.1 (x + (365 + 6 * a1))) n1) (zkd (R (1 + 10 * a1)) (w.1 (x + (365 + 6 * a1))) n1))) _
            refine jWp.blk mt 1 ?_
            show jWp 96 66 [some (jO x), some (jI (a1 : Int)), some (jI (n1 : Int)), some (jI b)] [jI b] 0 0 (jW (jW w (x + 360) 0 (zu (zku (R (1 + 10 * a1)) (R (2 + 10 * a1)) (w.1 (x + (365 + 6 * a1))) n1) (zkd (R (1 + 10 * a1)) (w.1 (x + (365 + 6 * a1))) n1))) (x + 360) 1 (zv (zku (R (1 + 10 * a1)) (R (2 + 10 * a1)) (w.1 (x + (365 + 6 * a1))) n1) (zkd (R (1 + 10 * a1)) (w.1 (x + (365 + 6 * a1))) n1))) _
            refine jWp.ifz (pc' := 69) mt rfl rfl (b32_id (by omega) (by omega)) (fun h7 => ?_) (fun h7 => ?_)
            · have h7 : b ≠ 0 := h7
              refine jWp.blk mt 1 ?_
              show _ ∧ jWp 96 80 [some (jO x), some (jI (a1 : Int)), some (jI (n1 : Int)), some (jI b)] [jO x] 0 0 (jW (jW w (x + 360) 0 (zu (zku (R (1 + 10 * a1)) (R (2 + 10 * a1)) (w.1 (x + (365 + 6 * a1))) n1) (zkd (R (1 + 10 * a1)) (w.1 (x + (365 + 6 * a1))) n1))) (x + 360) 1 (zv (zku (R (1 + 10 * a1)) (R (2 + 10 * a1)) (w.1 (x + (365 + 6 * a1))) n1) (zkd (R (1 + 10 * a1)) (w.1 (x + (365 + 6 * a1))) n1))) _
              refine ⟨rfl, ?_⟩
              refine jWp.getR (pc' := 83) (o := (x + 360)) mt rfl rfl (jtg hX.X0) hX.R12 ?_
              show jWp 96 83 [some (jO x), some (jI (a1 : Int)), some (jI (n1 : Int)), some (jI b)] [jO (x + 360)] 0 0 (jW (jW w (x + 360) 0 (zu (zku (R (1 + 10 * a1)) (R (2 + 10 * a1)) (w.1 (x + (365 + 6 * a1))) n1) (zkd (R (1 + 10 * a1)) (w.1 (x + (365 + 6 * a1))) n1))) (x + 360) 1 (zv (zku (R (1 + 10 * a1)) (R (2 + 10 * a1)) (w.1 (x + (365 + 6 * a1))) n1) (zkd (R (1 + 10 * a1)) (w.1 (x + (365 + 6 * a1))) n1))) _
              refine jWp.getJ (pc' := 86) mt rfl rfl (jtg hX.X360) ?_
              rw [show ((jW (jW w (x + 360) 0 (zu (zku (R (1 + 10 * a1)) (R (2 + 10 * a1)) (w.1 (x + (365 + 6 * a1))) n1) (zkd (R (1 + 10 * a1)) (w.1 (x + (365 + 6 * a1))) n1))) (x + 360) 1 (zv (zku (R (1 + 10 * a1)) (R (2 + 10 * a1)) (w.1 (x + (365 + 6 * a1))) n1) (zkd (R (1 + 10 * a1)) (w.1 (x + (365 + 6 * a1))) n1))).1 (x + 360) 1) = (zv (zku (R (1 + 10 * a1)) (R (2 + 10 * a1)) (w.1 (x + (365 + 6 * a1))) n1) (zkd (R (1 + 10 * a1)) (w.1 (x + (365 + 6 * a1))) n1)) from jW_s]
              show jWp 96 86 [some (jO x), some (jI (a1 : Int)), some (jI (n1 : Int)), some (jI b)] [jJ (zv (zku (R (1 + 10 * a1)) (R (2 + 10 * a1)) (w.1 (x + (365 + 6 * a1))) n1) (zkd (R (1 + 10 * a1)) (w.1 (x + (365 + 6 * a1))) n1))] 0 0 (jW (jW w (x + 360) 0 (zu (zku (R (1 + 10 * a1)) (R (2 + 10 * a1)) (w.1 (x + (365 + 6 * a1))) n1) (zkd (R (1 + 10 * a1)) (w.1 (x + (365 + 6 * a1))) n1))) (x + 360) 1 (zv (zku (R (1 + 10 * a1)) (R (2 + 10 * a1)) (w.1 (x + (365 + 6 * a1))) n1) (zkd (R (1 + 10 * a1)) (w.1 (x + (365 + 6 * a1))) n1))) _
              refine jWp.lret mt rfl ⟨rfl, rfl⟩ rfl ?_
              refine ⟨fun c0 => ?_, fun c0 c1 => ?_, fun c0 c1 c2 => ?_, fun c0 c1 c2 => ?_⟩
              all_goals first
              | (exfalso; omega)
              | exact ⟨rfl, rfl⟩
              | exact ⟨_, len, why, left, hTR, Or.inr ⟨hk9, rfl, rfl⟩⟩
              | exact ⟨_, len, why, left, hTR, Or.inl ⟨hk9, by rw [if_pos (by omega)]; rfl, rfl, fun z g1 g2 g3 => (jW_f g2).trans (jW_f g2)⟩⟩
              | exact ⟨_, len, why, left, hTR, Or.inl ⟨hk9, by rw [if_neg (by omega)]; rfl, rfl, fun z g1 g2 g3 => (jW_f g2).trans (jW_f g2)⟩⟩
            · have h7 : b = 0 := h7
              refine jWp.blk mt 1 ?_
              show _ ∧ jWp 96 70 [some (jO x), some (jI (a1 : Int)), some (jI (n1 : Int)), some (jI b)] [jO x] 0 0 (jW (jW w (x + 360) 0 (zu (zku (R (1 + 10 * a1)) (R (2 + 10 * a1)) (w.1 (x + (365 + 6 * a1))) n1) (zkd (R (1 + 10 * a1)) (w.1 (x + (365 + 6 * a1))) n1))) (x + 360) 1 (zv (zku (R (1 + 10 * a1)) (R (2 + 10 * a1)) (w.1 (x + (365 + 6 * a1))) n1) (zkd (R (1 + 10 * a1)) (w.1 (x + (365 + 6 * a1))) n1))) _
              refine ⟨rfl, ?_⟩
              refine jWp.getR (pc' := 73) (o := (x + 360)) mt rfl rfl (jtg hX.X0) hX.R12 ?_
              show jWp 96 73 [some (jO x), some (jI (a1 : Int)), some (jI (n1 : Int)), some (jI b)] [jO (x + 360)] 0 0 (jW (jW w (x + 360) 0 (zu (zku (R (1 + 10 * a1)) (R (2 + 10 * a1)) (w.1 (x + (365 + 6 * a1))) n1) (zkd (R (1 + 10 * a1)) (w.1 (x + (365 + 6 * a1))) n1))) (x + 360) 1 (zv (zku (R (1 + 10 * a1)) (R (2 + 10 * a1)) (w.1 (x + (365 + 6 * a1))) n1) (zkd (R (1 + 10 * a1)) (w.1 (x + (365 + 6 * a1))) n1))) _
              refine jWp.getJ (pc' := 76) mt rfl rfl (jtg hX.X360) ?_
              rw [show ((jW (jW w (x + 360) 0 (zu (zku (R (1 + 10 * a1)) (R (2 + 10 * a1)) (w.1 (x + (365 + 6 * a1))) n1) (zkd (R (1 + 10 * a1)) (w.1 (x + (365 + 6 * a1))) n1))) (x + 360) 1 (zv (zku (R (1 + 10 * a1)) (R (2 + 10 * a1)) (w.1 (x + (365 + 6 * a1))) n1) (zkd (R (1 + 10 * a1)) (w.1 (x + (365 + 6 * a1))) n1))).1 (x + 360) 0) = (zu (zku (R (1 + 10 * a1)) (R (2 + 10 * a1)) (w.1 (x + (365 + 6 * a1))) n1) (zkd (R (1 + 10 * a1)) (w.1 (x + (365 + 6 * a1))) n1)) from ((jW_k (by decide)).trans jW_s)]
              show jWp 96 76 [some (jO x), some (jI (a1 : Int)), some (jI (n1 : Int)), some (jI b)] [jJ (zu (zku (R (1 + 10 * a1)) (R (2 + 10 * a1)) (w.1 (x + (365 + 6 * a1))) n1) (zkd (R (1 + 10 * a1)) (w.1 (x + (365 + 6 * a1))) n1))] 0 0 (jW (jW w (x + 360) 0 (zu (zku (R (1 + 10 * a1)) (R (2 + 10 * a1)) (w.1 (x + (365 + 6 * a1))) n1) (zkd (R (1 + 10 * a1)) (w.1 (x + (365 + 6 * a1))) n1))) (x + 360) 1 (zv (zku (R (1 + 10 * a1)) (R (2 + 10 * a1)) (w.1 (x + (365 + 6 * a1))) n1) (zkd (R (1 + 10 * a1)) (w.1 (x + (365 + 6 * a1))) n1))) _
              refine jWp.blk mt 1 ?_
              show jWp 96 86 [some (jO x), some (jI (a1 : Int)), some (jI (n1 : Int)), some (jI b)] [jJ (zu (zku (R (1 + 10 * a1)) (R (2 + 10 * a1)) (w.1 (x + (365 + 6 * a1))) n1) (zkd (R (1 + 10 * a1)) (w.1 (x + (365 + 6 * a1))) n1))] 0 0 (jW (jW w (x + 360) 0 (zu (zku (R (1 + 10 * a1)) (R (2 + 10 * a1)) (w.1 (x + (365 + 6 * a1))) n1) (zkd (R (1 + 10 * a1)) (w.1 (x + (365 + 6 * a1))) n1))) (x + 360) 1 (zv (zku (R (1 + 10 * a1)) (R (2 + 10 * a1)) (w.1 (x + (365 + 6 * a1))) n1) (zkd (R (1 + 10 * a1)) (w.1 (x + (365 + 6 * a1))) n1))) _
              refine jWp.lret mt rfl ⟨rfl, rfl⟩ rfl ?_
              refine ⟨fun c0 => ?_, fun c0 c1 => ?_, fun c0 c1 c2 => ?_, fun c0 c1 c2 => ?_⟩
              all_goals first
              | (exfalso; omega)
              | exact ⟨rfl, rfl⟩
              | exact ⟨_, len, why, left, hTR, Or.inr ⟨hk9, rfl, rfl⟩⟩
              | exact ⟨_, len, why, left, hTR, Or.inl ⟨hk9, by rw [if_pos (by omega)]; rfl, rfl, fun z g1 g2 g3 => (jW_f g2).trans (jW_f g2)⟩⟩
              | exact ⟨_, len, why, left, hTR, Or.inl ⟨hk9, by rw [if_neg (by omega)]; rfl, rfl, fun z g1 g2 g3 => (jW_f g2).trans (jW_f g2)⟩⟩
          · have hk9' := hk9
            show jWp 96 55 [some (jO x), some (jI (a1 : Int)), some (jI (n1 : Int)), some (jI b)] [jI 0] 0 0 w _
            refine jWp.ifc (b := false) mt rfl (by decide) rfl ?_
            show jWp 96 58 [some (jO x), some (jI (a1 : Int)), some (jI (n1 : Int)), some (jI b)] [] 0 0 w _
            refine jWp.blk mt 2 ?_
            show _ ∧ jWp 96 61 [some (jO x), some (jI (a1 : Int)), some (jI (n1 : Int)), some (jI b)] [jI (-3), jO x] 0 0 w _
            refine ⟨rfl, ?_⟩
            refine jWp.callv (as := [jO x, jI (-3)]) (rest := []) mt rfl rfl rfl ⟨rfl, jtg hX.X0⟩ ?_
            refine jCall.mono (C_farther (w := w) (j := 2) hX (by decide) (by decide)) (fun v9 w9 h9 => ?_)
            obtain ⟨rfl, h9⟩ := h9
            subst h9
            show jWp 96 64 [some (jO x), some (jI (a1 : Int)), some (jI (n1 : Int)), some (jI b)] [jJ (4000000000000000000 - (-3))] 0 0 (jW w (x + 362) 2 ((w.1 (x + 362) 2) + 1)) _
            refine jWp.lret mt rfl ⟨rfl, rfl⟩ rfl ?_
            refine ⟨fun c0 => ?_, fun c0 c1 => ?_, fun c0 c1 c2 => ?_, fun c0 c1 c2 => ?_⟩
            all_goals first
            | (exfalso; omega)
            | exact ⟨rfl, rfl⟩
            | exact ⟨_, len, why, left, hTR, Or.inr ⟨hk9, rfl, rfl⟩⟩
            | exact ⟨_, len, why, left, hTR, Or.inl ⟨hk9, by rw [if_pos (by omega)]; rfl, rfl, fun z g1 g2 g3 => (jW_f g2).trans (jW_f g2)⟩⟩
            | exact ⟨_, len, why, left, hTR, Or.inl ⟨hk9, by rw [if_neg (by omega)]; rfl, rfl, fun z g1 g2 g3 => (jW_f g2).trans (jW_f g2)⟩⟩
        · have h6 : n < 0 := h6
          refine jWp.blk mt 2 ?_
          show _ ∧ jWp 96 37 [some (jO x), some (jI (a1 : Int)), some (jI n), some (jI b)] [jI (-4), jO x] 0 0 w _
          refine ⟨rfl, ?_⟩
          refine jWp.callv (as := [jO x, jI (-4)]) (rest := []) mt rfl rfl rfl ⟨rfl, jtg hX.X0⟩ ?_
          refine jCall.mono (C_farther (w := w) (j := 3) hX (by decide) (by decide)) (fun v9 w9 h9 => ?_)
          obtain ⟨rfl, h9⟩ := h9
          subst h9
          show jWp 96 40 [some (jO x), some (jI (a1 : Int)), some (jI n), some (jI b)] [jJ (4000000000000000000 - (-4))] 0 0 (jW w (x + 362) 3 ((w.1 (x + 362) 3) + 1)) _
          refine jWp.lret mt rfl ⟨rfl, rfl⟩ rfl ?_
          refine ⟨fun c0 => ?_, fun c0 c1 => ?_, fun c0 c1 c2 => ?_, fun c0 c1 c2 => ?_⟩
          all_goals first
          | (exfalso; omega)
          | exact ⟨rfl, rfl⟩
          | exact ⟨_, len, why, left, hTR, Or.inr ⟨hk9, rfl, rfl⟩⟩
          | exact ⟨_, len, why, left, hTR, Or.inl ⟨hk9, by rw [if_pos (by omega)]; rfl, rfl, fun z g1 g2 g3 => (jW_f g2).trans (jW_f g2)⟩⟩
          | exact ⟨_, len, why, left, hTR, Or.inl ⟨hk9, by rw [if_neg (by omega)]; rfl, rfl, fun z g1 g2 g3 => (jW_f g2).trans (jW_f g2)⟩⟩
      · have h5 : b ≠ 1 := h5
        refine jWp.blk mt 2 ?_
        show _ ∧ jWp 96 26 [some (jO x), some (jI (a1 : Int)), some (jI n), some (jI b)] [jI (-2), jO x] 0 0 w _
        refine ⟨rfl, ?_⟩
        refine jWp.callv (as := [jO x, jI (-2)]) (rest := []) mt rfl rfl rfl ⟨rfl, jtg hX.X0⟩ ?_
        refine jCall.mono (C_farther (w := w) (j := 1) hX (by decide) (by decide)) (fun v9 w9 h9 => ?_)
        obtain ⟨rfl, h9⟩ := h9
        subst h9
        show jWp 96 29 [some (jO x), some (jI (a1 : Int)), some (jI n), some (jI b)] [jJ (4000000000000000000 - (-2))] 0 0 (jW w (x + 362) 1 ((w.1 (x + 362) 1) + 1)) _
        refine jWp.lret mt rfl ⟨rfl, rfl⟩ rfl ?_
        refine ⟨fun c0 => ?_, fun c0 c1 => ?_, fun c0 c1 c2 => ?_, fun c0 c1 c2 => ?_⟩
        all_goals first
        | (exfalso; omega)
        | exact ⟨rfl, rfl⟩
        | exact ⟨_, len, why, left, hTR, Or.inr ⟨hk9, rfl, rfl⟩⟩
        | exact ⟨_, len, why, left, hTR, Or.inl ⟨hk9, by rw [if_pos (by omega)]; rfl, rfl, fun z g1 g2 g3 => (jW_f g2).trans (jW_f g2)⟩⟩
        | exact ⟨_, len, why, left, hTR, Or.inl ⟨hk9, by rw [if_neg (by omega)]; rfl, rfl, fun z g1 g2 g3 => (jW_f g2).trans (jW_f g2)⟩⟩
  · have h1 : ¬ (0 ≤ a ∧ a < (c : Int)) := h1
    show jWp 96 5 [some (jO x), some (jI a), some (jI n), some (jI b)] [jI 0] 0 0 w _
    refine jWp.ifc (b := false) mt rfl (by decide) rfl ?_
    show jWp 96 8 [some (jO x), some (jI a), some (jI n), some (jI b)] [] 0 0 w _
    refine jWp.blk mt 2 ?_
    show _ ∧ jWp 96 10 [some (jO x), some (jI a), some (jI n), some (jI b)] [jI (-1), jO x] 0 0 w _
    refine ⟨rfl, ?_⟩
    refine jWp.callv (as := [jO x, jI (-1)]) (rest := []) mt rfl rfl rfl ⟨rfl, jtg hX.X0⟩ ?_
    refine jCall.mono (C_farther (w := w) (j := 0) hX (by decide) (by decide)) (fun v9 w9 h9 => ?_)
    obtain ⟨rfl, h9⟩ := h9
    subst h9
    show jWp 96 13 [some (jO x), some (jI a), some (jI n), some (jI b)] [jJ (4000000000000000000 - (-1))] 0 0 (jW w (x + 362) 0 ((w.1 (x + 362) 0) + 1)) _
    refine jWp.lret mt rfl ⟨rfl, rfl⟩ rfl ?_
    refine ⟨fun c0 => ?_, fun c0 c1 => ?_, fun c0 c1 c2 => ?_, fun c0 c1 c2 => ?_⟩
    all_goals first
    | (exfalso; omega)
    | exact ⟨rfl, rfl⟩
    | exact ⟨_, len, why, left, hTR, Or.inr ⟨hk9, rfl, rfl⟩⟩
    | exact ⟨_, len, why, left, hTR, Or.inl ⟨hk9, by rw [if_pos (by omega)]; rfl, rfl, fun z g1 g2 g3 => (jW_f g2).trans (jW_f g2)⟩⟩
    | exact ⟨_, len, why, left, hTR, Or.inl ⟨hk9, by rw [if_neg (by omega)]; rfl, rfl, fun z g1 g2 g3 => (jW_f g2).trans (jW_f g2)⟩⟩
set_option maxHeartbeats 4000000 in
set_option maxRecDepth 20000 in
theorem C_common {w : jS} {x : Nat} (hX : CW w.2 x) {c : Nat} {R : Nat → Int} (hR : zRw R c) (hRW : cRW w x R c) {a : Int} (hra : r32 a) : jCall 98 [jO x, jI a] w (fun v w1 => ((¬ (0 ≤ a ∧ a < (c : Int))) → cno w x 0 (jI (-1)) v w1) ∧ (¬ (¬ (0 ≤ a ∧ a < (c : Int))) → ∃ (t : Nat → Int) (len : Nat) (why left : Int), zTR R a.toNat t len why left ∧ v = some (jI (zff (fun k => zg (t k) (t (k + 1)) ≠ 1) (len - 1) 0)) ∧ w1 = w)) := by
  have mt : jtb 98 = jT98 := rfl
  have hc4 := hR.2.1
  have hra1 : -2147483648 ≤ a ∧ a < 2147483648 := hra
  show jWp 98 0 [some (jO x), some (jI a)] [] 0 0 w _
  refine jWp.blk mt 2 ?_
  show _ ∧ jWp 98 2 [some (jO x), some (jI a)] [jI a, jO x] 0 0 w _
  refine ⟨rfl, ?_⟩
  refine jWp.callv (as := [jO x, jI a]) (rest := []) mt rfl rfl rfl ⟨rfl, jtg hX.X0⟩ ?_
  refine jCall.mono (C_isRow (w := w) hX hRW.1 hR.2.1 hra) (fun v9 w9 h9 => ?_)
  rcases h9 with ⟨rfl, h9, h1⟩ | ⟨rfl, h9, h1⟩ <;> subst w9
  · have h1 : 0 ≤ a ∧ a < (c : Int) := h1
    show jWp 98 5 [some (jO x), some (jI a)] [jI 1] 0 0 w _
    obtain ⟨a1, rfl⟩ : ∃ a1 : Nat, a = (a1 : Int) := ⟨a.toNat, by omega⟩
    show jWp 98 5 [some (jO x), some (jI (a1 : Int))] [jI 1] 0 0 w _
    obtain ⟨hlaw, hfig, hst, len, why, left, hlen, hwhy, hleft, hgr, hen⟩ := hRW.2 a1 (by omega)
    have hTR : zTR R a1 (w.1 (x + (365 + 6 * a1))) len why left := ⟨hgr, hen⟩
    have hTb := zTR_b hR (by omega) hTR
    have hRl := hR.2.2 a1 (by omega)
    show jWp 98 5 [some (jO x), some (jI (a1 : Int))] [jI 1] 0 0 w _
    refine jWp.ifc (b := false) mt rfl (by decide) rfl ?_
    show jWp 98 8 [some (jO x), some (jI (a1 : Int))] [] 0 0 w _
    refine jWp.blk mt 1 ?_
    show _ ∧ jWp 98 9 [some (jO x), some (jI (a1 : Int))] [jO x] 0 0 w _
    refine ⟨rfl, ?_⟩
    refine jWp.getR (pc' := 12) (o := (x + 1)) mt rfl rfl (jtg hX.X0) hX.R0 ?_
    show jWp 98 12 [some (jO x), some (jI (a1 : Int))] [jO (x + 1)] 0 0 w _
    refine jWp.blk mt 1 ?_
    show jWp 98 13 [some (jO x), some (jI (a1 : Int))] [jI (a1 : Int), jO (x + 1)] 0 0 w _
    refine jWp.aald (pc' := 14) (j := a1) (o := (x + (363 + 6 * a1))) mt rfl rfl (jrg hX.X1 (by decide) (by decide)) (by rw [b32_id (by omega) (by omega)] <;> omega) (jlt hX.X1 (by omega)) (hX.RR a1 (by omega)) ?_
    show jWp 98 14 [some (jO x), some (jI (a1 : Int))] [jO (x + (363 + 6 * a1))] 0 0 w _
    refine jWp.callv (as := [jO (x + (363 + 6 * a1))]) (rest := []) mt rfl rfl rfl ⟨rfl, jtg (hX.KR a1 (by omega))⟩ ?_
    refine jCall.mono (C_firstCommon (w := w) (r := x + (363 + 6 * a1)) (rt := x + (365 + 6 * a1)) (len := len) (hX.KR a1 (by omega)) (hX.KRt a1 (by omega)) (hX.RRt a1 (by omega)) hlen (by omega) hTb.2.2 (by omega)) (fun v9 w9 h9 => ?_)
    obtain ⟨rfl, h9⟩ := h9
    subst w9
    show jWp 98 17 [some (jO x), some (jI (a1 : Int))] [jI (zff (fun k => zg (w.1 (x + (365 + 6 * a1)) k) (w.1 (x + (365 + 6 * a1)) (k + 1)) ≠ 1) (len - 1) 0)] 0 0 w _
    refine jWp.blk mt 1 ?_
    show jWp 98 25 [some (jO x), some (jI (a1 : Int))] [jI (zff (fun k => zg (w.1 (x + (365 + 6 * a1)) k) (w.1 (x + (365 + 6 * a1)) (k + 1)) ≠ 1) (len - 1) 0)] 0 0 w _
    refine jWp.ireti mt rfl ⟨rfl, rfl⟩ rfl ?_
    refine ⟨fun c0 => ?_, fun c0 => ?_⟩
    all_goals first
    | (exfalso; omega)
    | exact ⟨rfl, rfl⟩
    | exact ⟨_, len, why, left, hTR, rfl, rfl⟩
  · have h1 : ¬ (0 ≤ a ∧ a < (c : Int)) := h1
    show jWp 98 5 [some (jO x), some (jI a)] [jI 0] 0 0 w _
    refine jWp.ifc (b := true) mt rfl (by decide) rfl ?_
    show jWp 98 20 [some (jO x), some (jI a)] [] 0 0 w _
    refine jWp.blk mt 2 ?_
    show _ ∧ jWp 98 22 [some (jO x), some (jI a)] [jI (-1), jO x] 0 0 w _
    refine ⟨rfl, ?_⟩
    refine jWp.callv (as := [jO x, jI (-1)]) (rest := []) mt rfl rfl rfl ⟨rfl, jtg hX.X0⟩ ?_
    refine jCall.mono (C_refuse (w := w) (j := 0) hX (by decide) (by decide)) (fun v9 w9 h9 => ?_)
    obtain ⟨rfl, h9⟩ := h9
    subst h9
    show jWp 98 25 [some (jO x), some (jI a)] [jI (-1)] 0 0 (jW w (x + 362) 0 ((w.1 (x + 362) 0) + 1)) _
    refine jWp.ireti mt rfl ⟨rfl, rfl⟩ rfl ?_
    refine ⟨fun c0 => ?_, fun c0 => ?_⟩
    all_goals first
    | (exfalso; omega)
    | exact ⟨rfl, rfl⟩
    | exact ⟨_, len, why, left, hTR, rfl, rfl⟩
set_option maxHeartbeats 4000000 in
set_option maxRecDepth 20000 in
theorem C_divided {w : jS} {x : Nat} (hX : CW w.2 x) {c : Nat} {R : Nat → Int} (hR : zRw R c) (hRW : cRW w x R c) {a : Int} (hra : r32 a) {d : Int} (hrd : r32 d) : jCall 99 [jO x, jI a, jI d] w (fun v w1 => ((¬ (0 ≤ a ∧ a < (c : Int))) → cno w x 0 (jI (-1)) v w1) ∧ (¬ (¬ (0 ≤ a ∧ a < (c : Int))) → (d < 2) → cno w x 3 (jI (-4)) v w1) ∧ (¬ (¬ (0 ≤ a ∧ a < (c : Int))) → ¬ (d < 2) → (9999 < d) → cno w x 5 (jI (-6)) v w1) ∧ (¬ (¬ (0 ≤ a ∧ a < (c : Int))) → ¬ (d < 2) → ¬ (9999 < d) → ∃ (t : Nat → Int) (len : Nat) (why left : Int), zTR R a.toNat t len why left ∧ v = some (jI (zff (fun k => Int.tmod (t k) d = 0) len 0)) ∧ w1 = w)) := by
  have mt : jtb 99 = jT99 := rfl
  have hc4 := hR.2.1
  have hra1 : -2147483648 ≤ a ∧ a < 2147483648 := hra
  have hrd1 : -2147483648 ≤ d ∧ d < 2147483648 := hrd
  show jWp 99 0 [some (jO x), some (jI a), some (jI d)] [] 0 0 w _
  refine jWp.blk mt 2 ?_
  show _ ∧ jWp 99 2 [some (jO x), some (jI a), some (jI d)] [jI a, jO x] 0 0 w _
  refine ⟨rfl, ?_⟩
  refine jWp.callv (as := [jO x, jI a]) (rest := []) mt rfl rfl rfl ⟨rfl, jtg hX.X0⟩ ?_
  refine jCall.mono (C_isRow (w := w) hX hRW.1 hR.2.1 hra) (fun v9 w9 h9 => ?_)
  rcases h9 with ⟨rfl, h9, h1⟩ | ⟨rfl, h9, h1⟩ <;> subst w9
  · have h1 : 0 ≤ a ∧ a < (c : Int) := h1
    show jWp 99 5 [some (jO x), some (jI a), some (jI d)] [jI 1] 0 0 w _
    obtain ⟨a1, rfl⟩ : ∃ a1 : Nat, a = (a1 : Int) := ⟨a.toNat, by omega⟩
    show jWp 99 5 [some (jO x), some (jI (a1 : Int)), some (jI d)] [jI 1] 0 0 w _
    obtain ⟨hlaw, hfig, hst, len, why, left, hlen, hwhy, hleft, hgr, hen⟩ := hRW.2 a1 (by omega)
    have hTR : zTR R a1 (w.1 (x + (365 + 6 * a1))) len why left := ⟨hgr, hen⟩
    have hTb := zTR_b hR (by omega) hTR
    have hRl := hR.2.2 a1 (by omega)
    show jWp 99 5 [some (jO x), some (jI (a1 : Int)), some (jI d)] [jI 1] 0 0 w _
    refine jWp.ifc (b := true) mt rfl (by decide) rfl ?_
    show jWp 99 14 [some (jO x), some (jI (a1 : Int)), some (jI d)] [] 0 0 w _
    refine jWp.blk mt 2 ?_
    show jWp 99 16 [some (jO x), some (jI (a1 : Int)), some (jI d)] [jI 2, jI d] 0 0 w _
    refine jWp.icmp (pc' := 19) mt rfl rfl (b32_id (by omega) (by omega)) (show b32 2 = 2 by decide) (fun h2 => ?_) (fun h2 => ?_)
    · have h2 : 2 ≤ d := h2
      refine jWp.blk mt 2 ?_
      show jWp 99 30 [some (jO x), some (jI (a1 : Int)), some (jI d)] [jI 9999, jI d] 0 0 w _
      refine jWp.icmp (pc' := 33) mt rfl rfl (b32_id (by omega) (by omega)) (show b32 9999 = 9999 by decide) (fun h3 => ?_) (fun h3 => ?_)
      · have h3 : d ≤ 9999 := h3
        refine jWp.blk mt 1 ?_
        show _ ∧ jWp 99 41 [some (jO x), some (jI (a1 : Int)), some (jI d)] [jO x] 0 0 w _
        refine ⟨rfl, ?_⟩
        refine jWp.getR (pc' := 44) (o := (x + 1)) mt rfl rfl (jtg hX.X0) hX.R0 ?_
        show jWp 99 44 [some (jO x), some (jI (a1 : Int)), some (jI d)] [jO (x + 1)] 0 0 w _
        refine jWp.blk mt 1 ?_
        show jWp 99 45 [some (jO x), some (jI (a1 : Int)), some (jI d)] [jI (a1 : Int), jO (x + 1)] 0 0 w _
        refine jWp.aald (pc' := 46) (j := a1) (o := (x + (363 + 6 * a1))) mt rfl rfl (jrg hX.X1 (by decide) (by decide)) (by rw [b32_id (by omega) (by omega)] <;> omega) (jlt hX.X1 (by omega)) (hX.RR a1 (by omega)) ?_
        show jWp 99 46 [some (jO x), some (jI (a1 : Int)), some (jI d)] [jO (x + (363 + 6 * a1))] 0 0 w _
        refine jWp.blk mt 1 ?_
        show jWp 99 47 [some (jO x), some (jI (a1 : Int)), some (jI d)] [jI d, jO (x + (363 + 6 * a1))] 0 0 w _
        refine jWp.callv (as := [jO (x + (363 + 6 * a1)), jI d]) (rest := []) mt rfl rfl rfl ⟨rfl, jtg (hX.KR a1 (by omega))⟩ ?_
        refine jCall.mono (C_firstMultiple (w := w) (r := x + (363 + 6 * a1)) (rt := x + (365 + 6 * a1)) (len := len) (hX.KR a1 (by omega)) (hX.KRt a1 (by omega)) (hX.RRt a1 (by omega)) hlen (by omega) hTb.2.2 (d := d) (by omega)) (fun v9 w9 h9 => ?_)
        obtain ⟨rfl, h9⟩ := h9
        subst w9
        show jWp 99 50 [some (jO x), some (jI (a1 : Int)), some (jI d)] [jI (zff (fun k => Int.tmod (w.1 (x + (365 + 6 * a1)) k) d = 0) len 0)] 0 0 w _
        refine jWp.ireti mt rfl ⟨rfl, rfl⟩ rfl ?_
        refine ⟨fun c0 => ?_, fun c0 c1 => ?_, fun c0 c1 c2 => ?_, fun c0 c1 c2 => ?_⟩
        all_goals first
        | (exfalso; omega)
        | exact ⟨rfl, rfl⟩
        | exact ⟨_, len, why, left, hTR, rfl, rfl⟩
      · have h3 : 9999 < d := h3
        refine jWp.blk mt 2 ?_
        show _ ∧ jWp 99 36 [some (jO x), some (jI (a1 : Int)), some (jI d)] [jI (-6), jO x] 0 0 w _
        refine ⟨rfl, ?_⟩
        refine jWp.callv (as := [jO x, jI (-6)]) (rest := []) mt rfl rfl rfl ⟨rfl, jtg hX.X0⟩ ?_
        refine jCall.mono (C_refuse (w := w) (j := 5) hX (by decide) (by decide)) (fun v9 w9 h9 => ?_)
        obtain ⟨rfl, h9⟩ := h9
        subst h9
        show jWp 99 39 [some (jO x), some (jI (a1 : Int)), some (jI d)] [jI (-6)] 0 0 (jW w (x + 362) 5 ((w.1 (x + 362) 5) + 1)) _
        refine jWp.ireti mt rfl ⟨rfl, rfl⟩ rfl ?_
        refine ⟨fun c0 => ?_, fun c0 c1 => ?_, fun c0 c1 c2 => ?_, fun c0 c1 c2 => ?_⟩
        all_goals first
        | (exfalso; omega)
        | exact ⟨rfl, rfl⟩
        | exact ⟨_, len, why, left, hTR, rfl, rfl⟩
    · have h2 : d < 2 := h2
      refine jWp.blk mt 2 ?_
      show _ ∧ jWp 99 22 [some (jO x), some (jI (a1 : Int)), some (jI d)] [jI (-4), jO x] 0 0 w _
      refine ⟨rfl, ?_⟩
      refine jWp.callv (as := [jO x, jI (-4)]) (rest := []) mt rfl rfl rfl ⟨rfl, jtg hX.X0⟩ ?_
      refine jCall.mono (C_refuse (w := w) (j := 3) hX (by decide) (by decide)) (fun v9 w9 h9 => ?_)
      obtain ⟨rfl, h9⟩ := h9
      subst h9
      show jWp 99 25 [some (jO x), some (jI (a1 : Int)), some (jI d)] [jI (-4)] 0 0 (jW w (x + 362) 3 ((w.1 (x + 362) 3) + 1)) _
      refine jWp.ireti mt rfl ⟨rfl, rfl⟩ rfl ?_
      refine ⟨fun c0 => ?_, fun c0 c1 => ?_, fun c0 c1 c2 => ?_, fun c0 c1 c2 => ?_⟩
      all_goals first
      | (exfalso; omega)
      | exact ⟨rfl, rfl⟩
      | exact ⟨_, len, why, left, hTR, rfl, rfl⟩
  · have h1 : ¬ (0 ≤ a ∧ a < (c : Int)) := h1
    show jWp 99 5 [some (jO x), some (jI a), some (jI d)] [jI 0] 0 0 w _
    refine jWp.ifc (b := false) mt rfl (by decide) rfl ?_
    show jWp 99 8 [some (jO x), some (jI a), some (jI d)] [] 0 0 w _
    refine jWp.blk mt 2 ?_
    show _ ∧ jWp 99 10 [some (jO x), some (jI a), some (jI d)] [jI (-1), jO x] 0 0 w _
    refine ⟨rfl, ?_⟩
    refine jWp.callv (as := [jO x, jI (-1)]) (rest := []) mt rfl rfl rfl ⟨rfl, jtg hX.X0⟩ ?_
    refine jCall.mono (C_refuse (w := w) (j := 0) hX (by decide) (by decide)) (fun v9 w9 h9 => ?_)
    obtain ⟨rfl, h9⟩ := h9
    subst h9
    show jWp 99 13 [some (jO x), some (jI a), some (jI d)] [jI (-1)] 0 0 (jW w (x + 362) 0 ((w.1 (x + 362) 0) + 1)) _
    refine jWp.ireti mt rfl ⟨rfl, rfl⟩ rfl ?_
    refine ⟨fun c0 => ?_, fun c0 c1 => ?_, fun c0 c1 c2 => ?_, fun c0 c1 c2 => ?_⟩
    all_goals first
    | (exfalso; omega)
    | exact ⟨rfl, rfl⟩
    | exact ⟨_, len, why, left, hTR, rfl, rfl⟩
set_option maxHeartbeats 4000000 in
set_option maxRecDepth 20000 in
theorem C_unlike {w : jS} {x : Nat} (hX : CW w.2 x) {c : Nat} {R : Nat → Int} (hR : zRw R c) (hRW : cRW w x R c) {a b : Int} (hra : r32 a) (hrb : r32 b) : jCall 100 [jO x, jI a, jI b] w (fun v w1 => ((¬ (0 ≤ a ∧ a < (c : Int)) ∨ ¬ (0 ≤ b ∧ b < (c : Int))) → cno w x 0 (jI (-1)) v w1) ∧ (¬ (¬ (0 ≤ a ∧ a < (c : Int)) ∨ ¬ (0 ≤ b ∧ b < (c : Int))) → ∃ (t : Nat → Int) (len : Nat) (why left : Int) (t' : Nat → Int) (len' : Nat) (why' left' : Int), zTR R a.toNat t len why left ∧ zTR R b.toNat t' len' why' left' ∧ v = some (jI (zff (fun k => ¬ (k < len ↔ k < len') ∨ (k < len ∧ t k ≠ t' k)) 60 0)) ∧ w1 = w)) := by
  have mt : jtb 100 = jT100 := rfl
  have hc4 := hR.2.1
  have hra1 : -2147483648 ≤ a ∧ a < 2147483648 := hra
  have hrb1 : -2147483648 ≤ b ∧ b < 2147483648 := hrb
  show jWp 100 0 [some (jO x), some (jI a), some (jI b)] [] 0 0 w _
  refine jWp.blk mt 2 ?_
  show _ ∧ jWp 100 2 [some (jO x), some (jI a), some (jI b)] [jI a, jO x] 0 0 w _
  refine ⟨rfl, ?_⟩
  refine jWp.callv (as := [jO x, jI a]) (rest := []) mt rfl rfl rfl ⟨rfl, jtg hX.X0⟩ ?_
  refine jCall.mono (C_isRow (w := w) hX hRW.1 hR.2.1 hra) (fun v9 w9 h9 => ?_)
  rcases h9 with ⟨rfl, h9, h1⟩ | ⟨rfl, h9, h1⟩ <;> subst w9
  · have h1 : 0 ≤ a ∧ a < (c : Int) := h1
    show jWp 100 5 [some (jO x), some (jI a), some (jI b)] [jI 1] 0 0 w _
    obtain ⟨a1, rfl⟩ : ∃ a1 : Nat, a = (a1 : Int) := ⟨a.toNat, by omega⟩
    show jWp 100 5 [some (jO x), some (jI (a1 : Int)), some (jI b)] [jI 1] 0 0 w _
    obtain ⟨hlaw, hfig, hst, len, why, left, hlen, hwhy, hleft, hgr, hen⟩ := hRW.2 a1 (by omega)
    have hTR : zTR R a1 (w.1 (x + (365 + 6 * a1))) len why left := ⟨hgr, hen⟩
    have hTb := zTR_b hR (by omega) hTR
    have hRl := hR.2.2 a1 (by omega)
    show jWp 100 5 [some (jO x), some (jI (a1 : Int)), some (jI b)] [jI 1] 0 0 w _
    refine jWp.ifc (b := false) mt rfl (by decide) rfl ?_
    show jWp 100 8 [some (jO x), some (jI (a1 : Int)), some (jI b)] [] 0 0 w _
    refine jWp.blk mt 2 ?_
    show _ ∧ jWp 100 10 [some (jO x), some (jI (a1 : Int)), some (jI b)] [jI b, jO x] 0 0 w _
    refine ⟨rfl, ?_⟩
    refine jWp.callv (as := [jO x, jI b]) (rest := []) mt rfl rfl rfl ⟨rfl, jtg hX.X0⟩ ?_
    refine jCall.mono (C_isRow (w := w) hX hRW.1 hR.2.1 hrb) (fun v9 w9 h9 => ?_)
    rcases h9 with ⟨rfl, h9, h2⟩ | ⟨rfl, h9, h2⟩ <;> subst w9
    · have h2 : 0 ≤ b ∧ b < (c : Int) := h2
      show jWp 100 13 [some (jO x), some (jI (a1 : Int)), some (jI b)] [jI 1] 0 0 w _
      obtain ⟨b1, rfl⟩ : ∃ b1 : Nat, b = (b1 : Int) := ⟨b.toNat, by omega⟩
      show jWp 100 13 [some (jO x), some (jI (a1 : Int)), some (jI (b1 : Int))] [jI 1] 0 0 w _
      obtain ⟨hlaw2, hfig2, hst2, len2, why2, left2, hlen2, hwhy2, hleft2, hgr2, hen2⟩ := hRW.2 b1 (by omega)
      have hTR2 : zTR R b1 (w.1 (x + (365 + 6 * b1))) len2 why2 left2 := ⟨hgr2, hen2⟩
      have hTb2 := zTR_b hR (by omega) hTR2
      have hRl2 := hR.2.2 b1 (by omega)
      show jWp 100 13 [some (jO x), some (jI (a1 : Int)), some (jI (b1 : Int))] [jI 1] 0 0 w _
      refine jWp.ifc (b := true) mt rfl (by decide) rfl ?_
      show jWp 100 22 [some (jO x), some (jI (a1 : Int)), some (jI (b1 : Int))] [] 0 0 w _
      refine jWp.blk mt 1 ?_
      show _ ∧ jWp 100 23 [some (jO x), some (jI (a1 : Int)), some (jI (b1 : Int))] [jO x] 0 0 w _
      refine ⟨rfl, ?_⟩
      refine jWp.getR (pc' := 26) (o := (x + 1)) mt rfl rfl (jtg hX.X0) hX.R0 ?_
      show jWp 100 26 [some (jO x), some (jI (a1 : Int)), some (jI (b1 : Int))] [jO (x + 1)] 0 0 w _
      refine jWp.blk mt 1 ?_
      show jWp 100 27 [some (jO x), some (jI (a1 : Int)), some (jI (b1 : Int))] [jI (a1 : Int), jO (x + 1)] 0 0 w _
      refine jWp.aald (pc' := 28) (j := a1) (o := (x + (363 + 6 * a1))) mt rfl rfl (jrg hX.X1 (by decide) (by decide)) (by rw [b32_id (by omega) (by omega)] <;> omega) (jlt hX.X1 (by omega)) (hX.RR a1 (by omega)) ?_
      show jWp 100 28 [some (jO x), some (jI (a1 : Int)), some (jI (b1 : Int))] [jO (x + (363 + 6 * a1))] 0 0 w _
      refine jWp.blk mt 1 ?_
      show _ ∧ jWp 100 29 [some (jO x), some (jI (a1 : Int)), some (jI (b1 : Int))] [jO x, jO (x + (363 + 6 * a1))] 0 0 w _
      refine ⟨rfl, ?_⟩
      refine jWp.getR (pc' := 32) (o := (x + 1)) mt rfl rfl (jtg hX.X0) hX.R0 ?_
      show jWp 100 32 [some (jO x), some (jI (a1 : Int)), some (jI (b1 : Int))] [jO (x + 1), jO (x + (363 + 6 * a1))] 0 0 w _
      refine jWp.blk mt 1 ?_
      show jWp 100 33 [some (jO x), some (jI (a1 : Int)), some (jI (b1 : Int))] [jI (b1 : Int), jO (x + 1), jO (x + (363 + 6 * a1))] 0 0 w _
      refine jWp.aald (pc' := 34) (j := b1) (o := (x + (363 + 6 * b1))) mt rfl rfl (jrg hX.X1 (by decide) (by decide)) (by rw [b32_id (by omega) (by omega)] <;> omega) (jlt hX.X1 (by omega)) (hX.RR b1 (by omega)) ?_
      show jWp 100 34 [some (jO x), some (jI (a1 : Int)), some (jI (b1 : Int))] [jO (x + (363 + 6 * b1)), jO (x + (363 + 6 * a1))] 0 0 w _
      refine jWp.callv (as := [jO (x + (363 + 6 * a1)), jO (x + (363 + 6 * b1))]) (rest := []) mt rfl rfl rfl ⟨rfl, jtg (hX.KR a1 (by omega))⟩ ?_
      refine jCall.mono (C_firstUnlike (w := w) (r := x + (363 + 6 * a1)) (rt := x + (365 + 6 * a1)) (len := len) (hX.KR a1 (by omega)) (hX.KRt a1 (by omega)) (hX.RRt a1 (by omega)) hlen (by omega) hTb.2.2 (r2 := x + (363 + 6 * b1)) (rt2 := x + (365 + 6 * b1)) (len2 := len2) (hX.KR b1 (by omega)) (hX.KRt b1 (by omega)) (hX.RRt b1 (by omega)) hlen2 (by omega) hTb2.2.2) (fun v9 w9 h9 => ?_)
      obtain ⟨rfl, h9⟩ := h9
      subst w9
      show jWp 100 37 [some (jO x), some (jI (a1 : Int)), some (jI (b1 : Int))] [jI (zff (fun k => ¬ (k < len ↔ k < len2) ∨ (k < len ∧ w.1 (x + (365 + 6 * a1)) k ≠ w.1 (x + (365 + 6 * b1)) k)) 60 0)] 0 0 w _
      refine jWp.ireti mt rfl ⟨rfl, rfl⟩ rfl ?_
      refine ⟨fun c0 => ?_, fun c0 => ?_⟩
      all_goals first
      | (exfalso; omega)
      | exact ⟨rfl, rfl⟩
      | exact ⟨_, len, why, left, _, len2, why2, left2, hTR, hTR2, rfl, rfl⟩
    · have h2 : ¬ (0 ≤ b ∧ b < (c : Int)) := h2
      show jWp 100 13 [some (jO x), some (jI (a1 : Int)), some (jI b)] [jI 0] 0 0 w _
      refine jWp.ifc (b := false) mt rfl (by decide) rfl ?_
      show jWp 100 16 [some (jO x), some (jI (a1 : Int)), some (jI b)] [] 0 0 w _
      refine jWp.blk mt 2 ?_
      show _ ∧ jWp 100 18 [some (jO x), some (jI (a1 : Int)), some (jI b)] [jI (-1), jO x] 0 0 w _
      refine ⟨rfl, ?_⟩
      refine jWp.callv (as := [jO x, jI (-1)]) (rest := []) mt rfl rfl rfl ⟨rfl, jtg hX.X0⟩ ?_
      refine jCall.mono (C_refuse (w := w) (j := 0) hX (by decide) (by decide)) (fun v9 w9 h9 => ?_)
      obtain ⟨rfl, h9⟩ := h9
      subst h9
      show jWp 100 21 [some (jO x), some (jI (a1 : Int)), some (jI b)] [jI (-1)] 0 0 (jW w (x + 362) 0 ((w.1 (x + 362) 0) + 1)) _
      refine jWp.ireti mt rfl ⟨rfl, rfl⟩ rfl ?_
      refine ⟨fun c0 => ?_, fun c0 => ?_⟩
      all_goals first
      | (exfalso; omega)
      | exact ⟨rfl, rfl⟩
      | exact ⟨_, len, why, left, _, len2, why2, left2, hTR, hTR2, rfl, rfl⟩
  · have h1 : ¬ (0 ≤ a ∧ a < (c : Int)) := h1
    show jWp 100 5 [some (jO x), some (jI a), some (jI b)] [jI 0] 0 0 w _
    refine jWp.ifc (b := true) mt rfl (by decide) rfl ?_
    show jWp 100 16 [some (jO x), some (jI a), some (jI b)] [] 0 0 w _
    refine jWp.blk mt 2 ?_
    show _ ∧ jWp 100 18 [some (jO x), some (jI a), some (jI b)] [jI (-1), jO x] 0 0 w _
    refine ⟨rfl, ?_⟩
    refine jWp.callv (as := [jO x, jI (-1)]) (rest := []) mt rfl rfl rfl ⟨rfl, jtg hX.X0⟩ ?_
    refine jCall.mono (C_refuse (w := w) (j := 0) hX (by decide) (by decide)) (fun v9 w9 h9 => ?_)
    obtain ⟨rfl, h9⟩ := h9
    subst h9
    show jWp 100 21 [some (jO x), some (jI a), some (jI b)] [jI (-1)] 0 0 (jW w (x + 362) 0 ((w.1 (x + 362) 0) + 1)) _
    refine jWp.ireti mt rfl ⟨rfl, rfl⟩ rfl ?_
    refine ⟨fun c0 => ?_, fun c0 => ?_⟩
    all_goals first
    | (exfalso; omega)
    | exact ⟨rfl, rfl⟩
    | exact ⟨_, len, why, left, _, len2, why2, left2, hTR, hTR2, rfl, rfl⟩
