section
/-- the rows, as the class holds them -/
def cRW (w : jS) (x : Nat) (R : Nat → Int) (c : Nat) : Prop := w.1 x 1 = (c : Int) ∧ ∀ i, i < c → cRo w (x + (363 + 6 * i)) (x + (364 + 6 * i)) (x + (365 + 6 * i)) (R (1 + 10 * i)) (R (2 + 10 * i)) (fun y => R (3 + 10 * i + y))
set_option maxHeartbeats 4000000 in
set_option maxRecDepth 20000 in
theorem C_isRow {w : jS} {x : Nat} (hX : CW w.2 x) {c : Nat} (hc : w.1 x 1 = (c : Int)) (hc4 : c ≤ 4) {a : Int} (hra : r32 a) : jCall 128 [jO x, jI a] w (jvb (0 ≤ a ∧ a < (c : Int)) w) := by
  have mt : jtb 128 = jT128 := rfl
  have hra1 : -2147483648 ≤ a ∧ a < 2147483648 := hra
  show jWp 128 0 [some (jO x), some (jI a)] [] 0 0 w _
  refine jWp.blk mt 1 ?_
  show jWp 128 1 [some (jO x), some (jI a)] [jI a] 0 0 w _
  refine jWp.ifz (pc' := 4) mt rfl rfl (b32_id (by omega) (by omega)) (fun h1 => ?_) (fun h1 => ?_)
  · have h1 : a < 0 := h1
    refine jWp.blk mt 1 ?_
    show jWp 128 22 [some (jO x), some (jI a)] [jI 0] 0 0 w _
    refine jWp.iretz mt rfl ⟨rfl, rfl⟩ rfl (Or.inl rfl) ?_
    first
    | exact Or.inl ⟨rfl, rfl, by omega⟩
    | exact Or.inr ⟨rfl, rfl, by omega⟩
  · have h1 : 0 ≤ a := h1
    refine jWp.blk mt 2 ?_
    show _ ∧ jWp 128 6 [some (jO x), some (jI a)] [jO x, jI a] 0 0 w _
    refine ⟨rfl, ?_⟩
    refine jWp.getI (pc' := 9) mt rfl rfl (jtg hX.X0) ?_
    rw [show (w.1 x 1) = (c : Int) from hc]
    show jWp 128 9 [some (jO x), some (jI a)] [jI (c : Int), jI a] 0 0 w _
    refine jWp.icmp (pc' := 12) mt rfl rfl (b32_id (by omega) (by omega)) (b32_id (by omega) (by omega)) (fun h2 => ?_) (fun h2 => ?_)
    · have h2 : (c : Int) ≤ a := h2
      refine jWp.blk mt 1 ?_
      show jWp 128 22 [some (jO x), some (jI a)] [jI 0] 0 0 w _
      refine jWp.iretz mt rfl ⟨rfl, rfl⟩ rfl (Or.inl rfl) ?_
      first
      | exact Or.inl ⟨rfl, rfl, by omega⟩
      | exact Or.inr ⟨rfl, rfl, by omega⟩
    · have h2 : a < (c : Int) := h2
      refine jWp.blk mt 2 ?_
      show jWp 128 14 [some (jO x), some (jI a)] [jI 4, jI a] 0 0 w _
      refine jWp.icmp (pc' := 17) mt rfl rfl (b32_id (by omega) (by omega)) (show b32 4 = 4 by decide) (fun h3 => ?_) (fun h3 => ?_)
      · have h3 : 4 ≤ a := h3
        refine jWp.blk mt 1 ?_
        show jWp 128 22 [some (jO x), some (jI a)] [jI 0] 0 0 w _
        refine jWp.iretz mt rfl ⟨rfl, rfl⟩ rfl (Or.inl rfl) ?_
        first
        | exact Or.inl ⟨rfl, rfl, by omega⟩
        | exact Or.inr ⟨rfl, rfl, by omega⟩
      · have h3 : a < 4 := h3
        refine jWp.blk mt 2 ?_
        show jWp 128 22 [some (jO x), some (jI a)] [jI 1] 0 0 w _
        refine jWp.iretz mt rfl ⟨rfl, rfl⟩ rfl (Or.inr rfl) ?_
        first
        | exact Or.inl ⟨rfl, rfl, by omega⟩
        | exact Or.inr ⟨rfl, rfl, by omega⟩
set_option maxHeartbeats 4000000 in
set_option maxRecDepth 20000 in
theorem C_isList {w : jS} {x : Nat} (hX : CW w.2 x) {l : Int} (hrl : r32 l) : jCall 129 [jO x, jI l] w (jvb (0 ≤ l ∧ l ≤ 2) w) := by
  have mt : jtb 129 = jT129 := rfl
  have hrl1 : -2147483648 ≤ l ∧ l < 2147483648 := hrl
  show jWp 129 0 [some (jO x), some (jI l)] [] 0 0 w _
  refine jWp.blk mt 1 ?_
  show jWp 129 1 [some (jO x), some (jI l)] [jI l] 0 0 w _
  refine jWp.ifz (pc' := 4) mt rfl rfl (b32_id (by omega) (by omega)) (fun h1 => ?_) (fun h1 => ?_)
  · have h1 : l < 0 := h1
    refine jWp.blk mt 1 ?_
    show jWp 129 14 [some (jO x), some (jI l)] [jI 0] 0 0 w _
    refine jWp.iretz mt rfl ⟨rfl, rfl⟩ rfl (Or.inl rfl) ?_
    first
    | exact Or.inl ⟨rfl, rfl, by omega⟩
    | exact Or.inr ⟨rfl, rfl, by omega⟩
  · have h1 : 0 ≤ l := h1
    refine jWp.blk mt 2 ?_
    show jWp 129 6 [some (jO x), some (jI l)] [jI 3, jI l] 0 0 w _
    refine jWp.icmp (pc' := 9) mt rfl rfl (b32_id (by omega) (by omega)) (show b32 3 = 3 by decide) (fun h2 => ?_) (fun h2 => ?_)
    · have h2 : 3 ≤ l := h2
      refine jWp.blk mt 1 ?_
      show jWp 129 14 [some (jO x), some (jI l)] [jI 0] 0 0 w _
      refine jWp.iretz mt rfl ⟨rfl, rfl⟩ rfl (Or.inl rfl) ?_
      first
      | exact Or.inl ⟨rfl, rfl, by omega⟩
      | exact Or.inr ⟨rfl, rfl, by omega⟩
    · have h2 : l < 3 := h2
      refine jWp.blk mt 2 ?_
      show jWp 129 14 [some (jO x), some (jI l)] [jI 1] 0 0 w _
      refine jWp.iretz mt rfl ⟨rfl, rfl⟩ rfl (Or.inr rfl) ?_
      first
      | exact Or.inl ⟨rfl, rfl, by omega⟩
      | exact Or.inr ⟨rfl, rfl, by omega⟩
set_option maxHeartbeats 4000000 in
set_option maxRecDepth 20000 in
theorem C_of {w : jS} {x : Nat} (hX : CW w.2 x) {c : Nat} {R : Nat → Int} (hR : zRw R c) (hRW : cRW w x R c) (hO : jOK w) {a b : Int} (hra : r32 a) (hrb : r32 b) : jCall 94 [jO x, jI a, jI b] w (fun v w1 => ((¬ (0 ≤ a ∧ a < (c : Int))) → cno w x 0 (jI (-1)) v w1) ∧ (¬ (¬ (0 ≤ a ∧ a < (c : Int))) → (¬ (0 ≤ b ∧ b ≤ 6)) → cno w x 1 (jI (-2)) v w1) ∧ (¬ (¬ (0 ≤ a ∧ a < (c : Int))) → ¬ (¬ (0 ≤ b ∧ b ≤ 6)) → ∃ (t : Nat → Int) (len : Nat) (why left : Int), zTR R a.toNat t len why left ∧ w1 = w ∧ (b = 0 → v = some (jI (R (1 + 10 * a.toNat)))) ∧ (b = 1 → v = some (jI (R (2 + 10 * a.toNat)))) ∧ (b = 2 → v = some (jI (zO (R (1 + 10 * a.toNat))))) ∧ (b = 3 → v = some (jI (len : Int))) ∧ (b = 4 → v = some (jI why)) ∧ (b = 5 → v = some (jI left)) ∧ (b = 6 → v = some (jI (zff (fun k => t k < 1) len 0))))) := by
  have mt : jtb 94 = jT94 := rfl
  have hc4 := hR.2.1
  have hra1 : -2147483648 ≤ a ∧ a < 2147483648 := hra
  have hrb1 : -2147483648 ≤ b ∧ b < 2147483648 := hrb
  show jWp 94 0 [some (jO x), some (jI a), some (jI b), none] [] 0 0 w _
  refine jWp.blk mt 2 ?_
  show _ ∧ jWp 94 2 [some (jO x), some (jI a), some (jI b), none] [jI a, jO x] 0 0 w _
  refine ⟨rfl, ?_⟩
  refine jWp.callv (as := [jO x, jI a]) (rest := []) mt rfl rfl rfl ⟨rfl, jtg hX.X0⟩ ?_
  refine jCall.mono (C_isRow (w := w) hX hRW.1 hR.2.1 hra) (fun v9 w9 h9 => ?_)
  rcases h9 with ⟨rfl, h9, h1⟩ | ⟨rfl, h9, h1⟩ <;> subst w9
  · have h1 : 0 ≤ a ∧ a < (c : Int) := h1
    show jWp 94 5 [some (jO x), some (jI a), some (jI b), none] [jI 1] 0 0 w _
    obtain ⟨a1, rfl⟩ : ∃ a1 : Nat, a = (a1 : Int) := ⟨a.toNat, by omega⟩
    show jWp 94 5 [some (jO x), some (jI (a1 : Int)), some (jI b), none] [jI 1] 0 0 w _
    obtain ⟨hlaw, hfig, hst, len, why, left, hlen, hwhy, hleft, hgr, hen⟩ := hRW.2 a1 (by omega)
    have hTR : zTR R a1 (w.1 (x + (365 + 6 * a1))) len why left := ⟨hgr, hen⟩
    have hTb := zTR_b hR (by omega) hTR
    have hRl := hR.2.2 a1 (by omega)
    show jWp 94 5 [some (jO x), some (jI (a1 : Int)), some (jI b), none] [jI 1] 0 0 w _
    refine jWp.ifc (b := true) mt rfl (by decide) rfl ?_
    show jWp 94 14 [some (jO x), some (jI (a1 : Int)), some (jI b), none] [] 0 0 w _
    refine jWp.blk mt 1 ?_
    show _ ∧ jWp 94 15 [some (jO x), some (jI (a1 : Int)), some (jI b), none] [jO x] 0 0 w _
    refine ⟨rfl, ?_⟩
    refine jWp.getR (pc' := 18) (o := (x + 1)) mt rfl rfl (jtg hX.X0) hX.R0 ?_
    show jWp 94 18 [some (jO x), some (jI (a1 : Int)), some (jI b), none] [jO (x + 1)] 0 0 w _
    refine jWp.blk mt 1 ?_
    show jWp 94 19 [some (jO x), some (jI (a1 : Int)), some (jI b), none] [jI (a1 : Int), jO (x + 1)] 0 0 w _
    refine jWp.aald (pc' := 20) (j := a1) (o := (x + (363 + 6 * a1))) mt rfl rfl (jrg hX.X1 (by decide) (by decide)) (by rw [b32_id (by omega) (by omega)] <;> omega) (jlt hX.X1 (by omega)) (hX.RR a1 (by omega)) ?_
    show jWp 94 20 [some (jO x), some (jI (a1 : Int)), some (jI b), none] [jO (x + (363 + 6 * a1))] 0 0 w _
    refine jWp.blk mt 2 ?_
    show _ ∧ jWp 94 22 [some (jO x), some (jI (a1 : Int)), some (jI b), some (jO (x + (363 + 6 * a1)))] [jI b] 0 0 w _
    refine ⟨rfl, ?_⟩
    refine jWp.sw mt rfl (Or.inl ⟨_, _, _, _, rfl⟩) (b32_id (by omega) (by omega)) ?_
    show jWp 94 (jsw [(0, 64), (1, 69), (2, 74), (3, 79), (4, 84), (5, 89), (6, 94)] 99 b) [some (jO x), some (jI (a1 : Int)), some (jI b), some (jO (x + (363 + 6 * a1)))] [] 0 0 w _
    unfold jsw; by_cases h2 : 0 = b
    · rw [if_pos h2]
      refine jWp.blk mt 1 ?_
      show _ ∧ jWp 94 65 [some (jO x), some (jI (a1 : Int)), some (jI b), some (jO (x + (363 + 6 * a1)))] [jO (x + (363 + 6 * a1))] 0 0 w _
      refine ⟨rfl, ?_⟩
      refine jWp.getI (pc' := 68) mt rfl rfl (jtg (hX.KR a1 (by omega))) ?_
      rw [show (w.1 (x + (363 + 6 * a1)) 0) = (R (1 + 10 * a1)) from hlaw]
      show jWp 94 68 [some (jO x), some (jI (a1 : Int)), some (jI b), some (jO (x + (363 + 6 * a1)))] [jI (R (1 + 10 * a1))] 0 0 w _
      refine jWp.ireti mt rfl ⟨rfl, rfl⟩ rfl ?_
      refine ⟨fun c0 => ?_, fun c0 c1 => ?_, fun c0 c1 => ?_⟩
      all_goals first
      | (exfalso; omega)
      | exact ⟨rfl, rfl⟩
      | exact ⟨_, len, why, left, hTR, rfl, fun z => by first | (exfalso; omega) | rfl, fun z => by first | (exfalso; omega) | rfl, fun z => by first | (exfalso; omega) | rfl, fun z => by first | (exfalso; omega) | rfl, fun z => by first | (exfalso; omega) | rfl, fun z => by first | (exfalso; omega) | rfl, fun z => by first | (exfalso; omega) | rfl⟩
    · rw [if_neg h2]
      unfold jsw; by_cases h3 : 1 = b
      · rw [if_pos h3]
        refine jWp.blk mt 1 ?_
        show _ ∧ jWp 94 70 [some (jO x), some (jI (a1 : Int)), some (jI b), some (jO (x + (363 + 6 * a1)))] [jO (x + (363 + 6 * a1))] 0 0 w _
        refine ⟨rfl, ?_⟩
        refine jWp.getI (pc' := 73) mt rfl rfl (jtg (hX.KR a1 (by omega))) ?_
        rw [show (w.1 (x + (363 + 6 * a1)) 1) = (R (2 + 10 * a1)) from hfig]
        show jWp 94 73 [some (jO x), some (jI (a1 : Int)), some (jI b), some (jO (x + (363 + 6 * a1)))] [jI (R (2 + 10 * a1))] 0 0 w _
        refine jWp.ireti mt rfl ⟨rfl, rfl⟩ rfl ?_
        refine ⟨fun c0 => ?_, fun c0 c1 => ?_, fun c0 c1 => ?_⟩
        all_goals first
        | (exfalso; omega)
        | exact ⟨rfl, rfl⟩
        | exact ⟨_, len, why, left, hTR, rfl, fun z => by first | (exfalso; omega) | rfl, fun z => by first | (exfalso; omega) | rfl, fun z => by first | (exfalso; omega) | rfl, fun z => by first | (exfalso; omega) | rfl, fun z => by first | (exfalso; omega) | rfl, fun z => by first | (exfalso; omega) | rfl, fun z => by first | (exfalso; omega) | rfl⟩
      · rw [if_neg h3]
        unfold jsw; by_cases h4 : 2 = b
        · rw [if_pos h4]
          refine jWp.blk mt 1 ?_
          show _ ∧ jWp 94 75 [some (jO x), some (jI (a1 : Int)), some (jI b), some (jO (x + (363 + 6 * a1)))] [jO (x + (363 + 6 * a1))] 0 0 w _
          refine ⟨rfl, ?_⟩
          refine jWp.callv (as := [jO (x + (363 + 6 * a1))]) (rest := []) mt rfl rfl rfl ⟨rfl, jtg (hX.KR a1 (by omega))⟩ ?_
          refine jCall.mono (E_ord (w := w) (r := x + (363 + 6 * a1)) (hX.KR a1 (by omega)) hO hlaw hRl.1.1 hRl.1.2) (fun v9 w9 h9 => ?_)
          obtain ⟨rfl, h9⟩ := h9
          subst w9
          show jWp 94 78 [some (jO x), some (jI (a1 : Int)), some (jI b), some (jO (x + (363 + 6 * a1)))] [jI (zO (R (1 + 10 * a1)))] 0 0 w _
          refine jWp.ireti mt rfl ⟨rfl, rfl⟩ rfl ?_
          refine ⟨fun c0 => ?_, fun c0 c1 => ?_, fun c0 c1 => ?_⟩
          all_goals first
          | (exfalso; omega)
          | exact ⟨rfl, rfl⟩
          | exact ⟨_, len, why, left, hTR, rfl, fun z => by first | (exfalso; omega) | rfl, fun z => by first | (exfalso; omega) | rfl, fun z => by first | (exfalso; omega) | rfl, fun z => by first | (exfalso; omega) | rfl, fun z => by first | (exfalso; omega) | rfl, fun z => by first | (exfalso; omega) | rfl, fun z => by first | (exfalso; omega) | rfl⟩
        · rw [if_neg h4]
          unfold jsw; by_cases h5 : 3 = b
          · rw [if_pos h5]
            refine jWp.blk mt 1 ?_
            show _ ∧ jWp 94 80 [some (jO x), some (jI (a1 : Int)), some (jI b), some (jO (x + (363 + 6 * a1)))] [jO (x + (363 + 6 * a1))] 0 0 w _
            refine ⟨rfl, ?_⟩
            refine jWp.getI (pc' := 83) mt rfl rfl (jtg (hX.KR a1 (by omega))) ?_
            rw [show (w.1 (x + (363 + 6 * a1)) 2) = (len : Int) from hlen]
            show jWp 94 83 [some (jO x), some (jI (a1 : Int)), some (jI b), some (jO (x + (363 + 6 * a1)))] [jI (len : Int)] 0 0 w _
            refine jWp.ireti mt rfl ⟨rfl, rfl⟩ rfl ?_
            refine ⟨fun c0 => ?_, fun c0 c1 => ?_, fun c0 c1 => ?_⟩
            all_goals first
            | (exfalso; omega)
            | exact ⟨rfl, rfl⟩
            | exact ⟨_, len, why, left, hTR, rfl, fun z => by first | (exfalso; omega) | rfl, fun z => by first | (exfalso; omega) | rfl, fun z => by first | (exfalso; omega) | rfl, fun z => by first | (exfalso; omega) | rfl, fun z => by first | (exfalso; omega) | rfl, fun z => by first | (exfalso; omega) | rfl, fun z => by first | (exfalso; omega) | rfl⟩
          · rw [if_neg h5]
            unfold jsw; by_cases h6 : 4 = b
            · rw [if_pos h6]
              refine jWp.blk mt 1 ?_
              show _ ∧ jWp 94 85 [some (jO x), some (jI (a1 : Int)), some (jI b), some (jO (x + (363 + 6 * a1)))] [jO (x + (363 + 6 * a1))] 0 0 w _
              refine ⟨rfl, ?_⟩
              refine jWp.getI (pc' := 88) mt rfl rfl (jtg (hX.KR a1 (by omega))) ?_
              rw [show (w.1 (x + (363 + 6 * a1)) 3) = why from hwhy]
              show jWp 94 88 [some (jO x), some (jI (a1 : Int)), some (jI b), some (jO (x + (363 + 6 * a1)))] [jI why] 0 0 w _
              refine jWp.ireti mt rfl ⟨rfl, rfl⟩ rfl ?_
              refine ⟨fun c0 => ?_, fun c0 c1 => ?_, fun c0 c1 => ?_⟩
              all_goals first
              | (exfalso; omega)
              | exact ⟨rfl, rfl⟩
              | exact ⟨_, len, why, left, hTR, rfl, fun z => by first | (exfalso; omega) | rfl, fun z => by first | (exfalso; omega) | rfl, fun z => by first | (exfalso; omega) | rfl, fun z => by first | (exfalso; omega) | rfl, fun z => by first | (exfalso; omega) | rfl, fun z => by first | (exfalso; omega) | rfl, fun z => by first | (exfalso; omega) | rfl⟩
            · rw [if_neg h6]
              unfold jsw; by_cases h7 : 5 = b
              · rw [if_pos h7]
                refine jWp.blk mt 1 ?_
                show _ ∧ jWp 94 90 [some (jO x), some (jI (a1 : Int)), some (jI b), some (jO (x + (363 + 6 * a1)))] [jO (x + (363 + 6 * a1))] 0 0 w _
                refine ⟨rfl, ?_⟩
                refine jWp.getI (pc' := 93) mt rfl rfl (jtg (hX.KR a1 (by omega))) ?_
                rw [show (w.1 (x + (363 + 6 * a1)) 4) = left from hleft]
                show jWp 94 93 [some (jO x), some (jI (a1 : Int)), some (jI b), some (jO (x + (363 + 6 * a1)))] [jI left] 0 0 w _
                refine jWp.ireti mt rfl ⟨rfl, rfl⟩ rfl ?_
                refine ⟨fun c0 => ?_, fun c0 c1 => ?_, fun c0 c1 => ?_⟩
                all_goals first
                | (exfalso; omega)
                | exact ⟨rfl, rfl⟩
                | exact ⟨_, len, why, left, hTR, rfl, fun z => by first | (exfalso; omega) | rfl, fun z => by first | (exfalso; omega) | rfl, fun z => by first | (exfalso; omega) | rfl, fun z => by first | (exfalso; omega) | rfl, fun z => by first | (exfalso; omega) | rfl, fun z => by first | (exfalso; omega) | rfl, fun z => by first | (exfalso; omega) | rfl⟩
              · rw [if_neg h7]
                unfold jsw; by_cases h8 : 6 = b
                · rw [if_pos h8]
                  refine jWp.blk mt 1 ?_
                  show _ ∧ jWp 94 95 [some (jO x), some (jI (a1 : Int)), some (jI b), some (jO (x + (363 + 6 * a1)))] [jO (x + (363 + 6 * a1))] 0 0 w _
                  refine ⟨rfl, ?_⟩
                  refine jWp.callv (as := [jO (x + (363 + 6 * a1))]) (rest := []) mt rfl rfl rfl ⟨rfl, jtg (hX.KR a1 (by omega))⟩ ?_
                  refine jCall.mono (C_firstBelow (w := w) (r := x + (363 + 6 * a1)) (rt := x + (365 + 6 * a1)) (len := len) (hX.KR a1 (by omega)) (hX.KRt a1 (by omega)) (hX.RRt a1 (by omega)) hlen (by omega) hTb.2.2) (fun v9 w9 h9 => ?_)
                  obtain ⟨rfl, h9⟩ := h9
                  subst w9
                  show jWp 94 98 [some (jO x), some (jI (a1 : Int)), some (jI b), some (jO (x + (363 + 6 * a1)))] [jI (zff (fun k => w.1 (x + (365 + 6 * a1)) k < 1) len 0)] 0 0 w _
                  refine jWp.ireti mt rfl ⟨rfl, rfl⟩ rfl ?_
                  refine ⟨fun c0 => ?_, fun c0 c1 => ?_, fun c0 c1 => ?_⟩
                  all_goals first
                  | (exfalso; omega)
                  | exact ⟨rfl, rfl⟩
                  | exact ⟨_, len, why, left, hTR, rfl, fun z => by first | (exfalso; omega) | rfl, fun z => by first | (exfalso; omega) | rfl, fun z => by first | (exfalso; omega) | rfl, fun z => by first | (exfalso; omega) | rfl, fun z => by first | (exfalso; omega) | rfl, fun z => by first | (exfalso; omega) | rfl, fun z => by first | (exfalso; omega) | rfl⟩
                · rw [if_neg h8]
                  unfold jsw
                  refine jWp.blk mt 2 ?_
                  show _ ∧ jWp 94 102 [some (jO x), some (jI (a1 : Int)), some (jI b), some (jO (x + (363 + 6 * a1)))] [jI (-2), jO x] 0 0 w _
                  refine ⟨rfl, ?_⟩
                  refine jWp.callv (as := [jO x, jI (-2)]) (rest := []) mt rfl rfl rfl ⟨rfl, jtg hX.X0⟩ ?_
                  refine jCall.mono (C_refuse (w := w) (j := 1) hX (by decide) (by decide)) (fun v9 w9 h9 => ?_)
                  obtain ⟨rfl, h9⟩ := h9
                  subst h9
                  show jWp 94 105 [some (jO x), some (jI (a1 : Int)), some (jI b), some (jO (x + (363 + 6 * a1)))] [jI (-2)] 0 0 (jW w (x + 362) 1 ((w.1 (x + 362) 1) + 1)) _
                  refine jWp.ireti mt rfl ⟨rfl, rfl⟩ rfl ?_
                  refine ⟨fun c0 => ?_, fun c0 c1 => ?_, fun c0 c1 => ?_⟩
                  all_goals first
                  | (exfalso; omega)
                  | exact ⟨rfl, rfl⟩
                  | exact ⟨_, len, why, left, hTR, rfl, fun z => by first | (exfalso; omega) | rfl, fun z => by first | (exfalso; omega) | rfl, fun z => by first | (exfalso; omega) | rfl, fun z => by first | (exfalso; omega) | rfl, fun z => by first | (exfalso; omega) | rfl, fun z => by first | (exfalso; omega) | rfl, fun z => by first | (exfalso; omega) | rfl⟩
  · have h1 : ¬ (0 ≤ a ∧ a < (c : Int)) := h1
    show jWp 94 5 [some (jO x), some (jI a), some (jI b), none] [jI 0] 0 0 w _
    refine jWp.ifc (b := false) mt rfl (by decide) rfl ?_
    show jWp 94 8 [some (jO x), some (jI a), some (jI b), none] [] 0 0 w _
    refine jWp.blk mt 2 ?_
    show _ ∧ jWp 94 10 [some (jO x), some (jI a), some (jI b), none] [jI (-1), jO x] 0 0 w _
    refine ⟨rfl, ?_⟩
    refine jWp.callv (as := [jO x, jI (-1)]) (rest := []) mt rfl rfl rfl ⟨rfl, jtg hX.X0⟩ ?_
    refine jCall.mono (C_refuse (w := w) (j := 0) hX (by decide) (by decide)) (fun v9 w9 h9 => ?_)
    obtain ⟨rfl, h9⟩ := h9
    subst h9
    show jWp 94 13 [some (jO x), some (jI a), some (jI b), none] [jI (-1)] 0 0 (jW w (x + 362) 0 ((w.1 (x + 362) 0) + 1)) _
    refine jWp.ireti mt rfl ⟨rfl, rfl⟩ rfl ?_
    refine ⟨fun c0 => ?_, fun c0 c1 => ?_, fun c0 c1 => ?_⟩
    all_goals first
    | (exfalso; omega)
    | exact ⟨rfl, rfl⟩
    | exact ⟨_, len, why, left, hTR, rfl, fun z => by first | (exfalso; omega) | rfl, fun z => by first | (exfalso; omega) | rfl, fun z => by first | (exfalso; omega) | rfl, fun z => by first | (exfalso; omega) | rfl, fun z => by first | (exfalso; omega) | rfl, fun z => by first | (exfalso; omega) | rfl, fun z => by first | (exfalso; omega) | rfl⟩
theorem zta_l {t : Nat → Int} {len n : Nat} (h : n < len) : zta t len n = t n := by
  unfold zta
  rw [if_pos (by omega)]
set_option maxHeartbeats 4000000 in
set_option maxRecDepth 20000 in
theorem C_term {w : jS} {x : Nat} (hX : CW w.2 x) {c : Nat} {R : Nat → Int} (hR : zRw R c) (hRW : cRW w x R c) {a n : Int} (hra : r32 a) (hrn : r32 n) : jCall 95 [jO x, jI a, jI n] w (fun v w1 => ((¬ (0 ≤ a ∧ a < (c : Int))) → cno w x 0 (jI (1000000000 - (-1))) v w1) ∧ (¬ (¬ (0 ≤ a ∧ a < (c : Int))) → (n < 0) → cno w x 3 (jI (1000000000 - (-4))) v w1) ∧ (¬ (¬ (0 ≤ a ∧ a < (c : Int))) → ¬ (n < 0) → ∃ (t : Nat → Int) (len : Nat) (why left : Int), zTR R a.toNat t len why left ∧ ((n.toNat < len ∧ v = some (jI (t n.toNat)) ∧ w1 = w) ∨ (¬ n.toNat < len ∧ cno w x 2 (jI (1000000000 - (-3))) v w1)))) := by
  have mt : jtb 95 = jT95 := rfl
  have hc4 := hR.2.1
  have hra1 : -2147483648 ≤ a ∧ a < 2147483648 := hra
  have hrn1 : -2147483648 ≤ n ∧ n < 2147483648 := hrn
  show jWp 95 0 [some (jO x), some (jI a), some (jI n)] [] 0 0 w _
  refine jWp.blk mt 2 ?_
  show _ ∧ jWp 95 2 [some (jO x), some (jI a), some (jI n)] [jI a, jO x] 0 0 w _
  refine ⟨rfl, ?_⟩
  refine jWp.callv (as := [jO x, jI a]) (rest := []) mt rfl rfl rfl ⟨rfl, jtg hX.X0⟩ ?_
  refine jCall.mono (C_isRow (w := w) hX hRW.1 hR.2.1 hra) (fun v9 w9 h9 => ?_)
  rcases h9 with ⟨rfl, h9, h1⟩ | ⟨rfl, h9, h1⟩ <;> subst w9
  · have h1 : 0 ≤ a ∧ a < (c : Int) := h1
    show jWp 95 5 [some (jO x), some (jI a), some (jI n)] [jI 1] 0 0 w _
    obtain ⟨a1, rfl⟩ : ∃ a1 : Nat, a = (a1 : Int) := ⟨a.toNat, by omega⟩
    show jWp 95 5 [some (jO x), some (jI (a1 : Int)), some (jI n)] [jI 1] 0 0 w _
    obtain ⟨hlaw, hfig, hst, len, why, left, hlen, hwhy, hleft, hgr, hen⟩ := hRW.2 a1 (by omega)
    have hTR : zTR R a1 (w.1 (x + (365 + 6 * a1))) len why left := ⟨hgr, hen⟩
    have hTb := zTR_b hR (by omega) hTR
    have hRl := hR.2.2 a1 (by omega)
    show jWp 95 5 [some (jO x), some (jI (a1 : Int)), some (jI n)] [jI 1] 0 0 w _
    refine jWp.ifc (b := true) mt rfl (by decide) rfl ?_
    show jWp 95 14 [some (jO x), some (jI (a1 : Int)), some (jI n)] [] 0 0 w _
    refine jWp.blk mt 1 ?_
    show jWp 95 15 [some (jO x), some (jI (a1 : Int)), some (jI n)] [jI n] 0 0 w _
    refine jWp.ifz (pc' := 18) mt rfl rfl (b32_id (by omega) (by omega)) (fun h2 => ?_) (fun h2 => ?_)
    · have h2 : 0 ≤ n := h2
      refine jWp.blk mt 1 ?_
      show _ ∧ jWp 95 26 [some (jO x), some (jI (a1 : Int)), some (jI n)] [jO x] 0 0 w _
      refine ⟨rfl, ?_⟩
      refine jWp.getR (pc' := 29) (o := (x + 1)) mt rfl rfl (jtg hX.X0) hX.R0 ?_
      show jWp 95 29 [some (jO x), some (jI (a1 : Int)), some (jI n)] [jO (x + 1)] 0 0 w _
      refine jWp.blk mt 1 ?_
      show jWp 95 30 [some (jO x), some (jI (a1 : Int)), some (jI n)] [jI (a1 : Int), jO (x + 1)] 0 0 w _
      refine jWp.aald (pc' := 31) (j := a1) (o := (x + (363 + 6 * a1))) mt rfl rfl (jrg hX.X1 (by decide) (by decide)) (by rw [b32_id (by omega) (by omega)] <;> omega) (jlt hX.X1 (by omega)) (hX.RR a1 (by omega)) ?_
      show jWp 95 31 [some (jO x), some (jI (a1 : Int)), some (jI n)] [jO (x + (363 + 6 * a1))] 0 0 w _
      refine jWp.blk mt 1 ?_
      show jWp 95 32 [some (jO x), some (jI (a1 : Int)), some (jI n)] [jI n, jO (x + (363 + 6 * a1))] 0 0 w _
      refine jWp.callv (as := [jO (x + (363 + 6 * a1)), jI n]) (rest := []) mt rfl rfl rfl ⟨rfl, jtg (hX.KR a1 (by omega))⟩ ?_
      refine jCall.mono (C_reaches (w := w) (r := x + (363 + 6 * a1)) (rt := x + (365 + 6 * a1)) (len := len) (hX.KR a1 (by omega)) (hX.KRt a1 (by omega)) (hX.RRt a1 (by omega)) hlen (by omega) hTb.2.2 hrn) (fun v9 w9 h9 => ?_)
      rcases h9 with ⟨rfl, h9, h3⟩ | ⟨rfl, h9, h3⟩ <;> subst w9
      · have h3 : 0 ≤ n ∧ n < (len : Int) := h3
        show jWp 95 35 [some (jO x), some (jI (a1 : Int)), some (jI n)] [jI 1] 0 0 w _
        obtain ⟨n1, rfl⟩ : ∃ n1 : Nat, n = (n1 : Int) := ⟨n.toNat, by omega⟩
        show jWp 95 35 [some (jO x), some (jI (a1 : Int)), some (jI (n1 : Int))] [jI 1] 0 0 w _
        refine jWp.ifc (b := true) mt rfl (by decide) rfl ?_
        show jWp 95 45 [some (jO x), some (jI (a1 : Int)), some (jI (n1 : Int))] [] 0 0 w _
        refine jWp.blk mt 1 ?_
        show _ ∧ jWp 95 46 [some (jO x), some (jI (a1 : Int)), some (jI (n1 : Int))] [jO x] 0 0 w _
        refine ⟨rfl, ?_⟩
        refine jWp.getR (pc' := 49) (o := (x + 1)) mt rfl rfl (jtg hX.X0) hX.R0 ?_
        show jWp 95 49 [some (jO x), some (jI (a1 : Int)), some (jI (n1 : Int))] [jO (x + 1)] 0 0 w _
        refine jWp.blk mt 1 ?_
        show jWp 95 50 [some (jO x), some (jI (a1 : Int)), some (jI (n1 : Int))] [jI (a1 : Int), jO (x + 1)] 0 0 w _
        refine jWp.aald (pc' := 51) (j := a1) (o := (x + (363 + 6 * a1))) mt rfl rfl (jrg hX.X1 (by decide) (by decide)) (by rw [b32_id (by omega) (by omega)] <;> omega) (jlt hX.X1 (by omega)) (hX.RR a1 (by omega)) ?_
        show jWp 95 51 [some (jO x), some (jI (a1 : Int)), some (jI (n1 : Int))] [jO (x + (363 + 6 * a1))] 0 0 w _
        refine jWp.blk mt 1 ?_
        show jWp 95 52 [some (jO x), some (jI (a1 : Int)), some (jI (n1 : Int))] [jI (n1 : Int), jO (x + (363 + 6 * a1))] 0 0 w _
        refine jWp.callv (as := [jO (x + (363 + 6 * a1)), jI (n1 : Int)]) (rest := []) mt rfl rfl rfl ⟨rfl, jtg (hX.KR a1 (by omega))⟩ ?_
        refine jCall.mono (C_termAt (w := w) (r := x + (363 + 6 * a1)) (rt := x + (365 + 6 * a1)) (len := len) (hX.KR a1 (by omega)) (hX.KRt a1 (by omega)) (hX.RRt a1 (by omega)) hlen (by omega) hTb.2.2 (n := n1) (by omega)) (fun v9 w9 h9 => ?_)
        obtain ⟨rfl, h9⟩ := h9
        subst w9
        show jWp 95 55 [some (jO x), some (jI (a1 : Int)), some (jI (n1 : Int))] [jI (zta (w.1 (x + (365 + 6 * a1))) len n1)] 0 0 w _
        refine jWp.ireti mt rfl ⟨rfl, rfl⟩ rfl ?_
        refine ⟨fun c0 => ?_, fun c0 c1 => ?_, fun c0 c1 => ?_⟩
        all_goals first
        | (exfalso; omega)
        | exact ⟨rfl, rfl⟩
        | exact ⟨_, len, why, left, hTR, Or.inl ⟨by omega, by rw [zta_l (by omega)]; rfl, rfl⟩⟩
        | exact ⟨_, len, why, left, hTR, Or.inr ⟨by omega, rfl, rfl⟩⟩
      · have h3 : ¬ (0 ≤ n ∧ n < (len : Int)) := h3
        show jWp 95 35 [some (jO x), some (jI (a1 : Int)), some (jI n)] [jI 0] 0 0 w _
        refine jWp.ifc (b := false) mt rfl (by decide) rfl ?_
        show jWp 95 38 [some (jO x), some (jI (a1 : Int)), some (jI n)] [] 0 0 w _
        refine jWp.blk mt 2 ?_
        show _ ∧ jWp 95 41 [some (jO x), some (jI (a1 : Int)), some (jI n)] [jI (-3), jO x] 0 0 w _
        refine ⟨rfl, ?_⟩
        refine jWp.callv (as := [jO x, jI (-3)]) (rest := []) mt rfl rfl rfl ⟨rfl, jtg hX.X0⟩ ?_
        refine jCall.mono (C_far (w := w) (j := 2) hX (by decide) (by decide)) (fun v9 w9 h9 => ?_)
        obtain ⟨rfl, h9⟩ := h9
        subst h9
        show jWp 95 44 [some (jO x), some (jI (a1 : Int)), some (jI n)] [jI (1000000000 - (-3))] 0 0 (jW w (x + 362) 2 ((w.1 (x + 362) 2) + 1)) _
        refine jWp.ireti mt rfl ⟨rfl, rfl⟩ rfl ?_
        refine ⟨fun c0 => ?_, fun c0 c1 => ?_, fun c0 c1 => ?_⟩
        all_goals first
        | (exfalso; omega)
        | exact ⟨rfl, rfl⟩
        | exact ⟨_, len, why, left, hTR, Or.inl ⟨by omega, by rw [zta_l (by omega)]; rfl, rfl⟩⟩
        | exact ⟨_, len, why, left, hTR, Or.inr ⟨by omega, rfl, rfl⟩⟩
    · have h2 : n < 0 := h2
      refine jWp.blk mt 2 ?_
      show _ ∧ jWp 95 21 [some (jO x), some (jI (a1 : Int)), some (jI n)] [jI (-4), jO x] 0 0 w _
      refine ⟨rfl, ?_⟩
      refine jWp.callv (as := [jO x, jI (-4)]) (rest := []) mt rfl rfl rfl ⟨rfl, jtg hX.X0⟩ ?_
      refine jCall.mono (C_far (w := w) (j := 3) hX (by decide) (by decide)) (fun v9 w9 h9 => ?_)
      obtain ⟨rfl, h9⟩ := h9
      subst h9
      show jWp 95 24 [some (jO x), some (jI (a1 : Int)), some (jI n)] [jI (1000000000 - (-4))] 0 0 (jW w (x + 362) 3 ((w.1 (x + 362) 3) + 1)) _
      refine jWp.ireti mt rfl ⟨rfl, rfl⟩ rfl ?_
      refine ⟨fun c0 => ?_, fun c0 c1 => ?_, fun c0 c1 => ?_⟩
      all_goals first
      | (exfalso; omega)
      | exact ⟨rfl, rfl⟩
      | exact ⟨_, len, why, left, hTR, Or.inl ⟨by omega, by rw [zta_l (by omega)]; rfl, rfl⟩⟩
      | exact ⟨_, len, why, left, hTR, Or.inr ⟨by omega, rfl, rfl⟩⟩
  · have h1 : ¬ (0 ≤ a ∧ a < (c : Int)) := h1
    show jWp 95 5 [some (jO x), some (jI a), some (jI n)] [jI 0] 0 0 w _
    refine jWp.ifc (b := false) mt rfl (by decide) rfl ?_
    show jWp 95 8 [some (jO x), some (jI a), some (jI n)] [] 0 0 w _
    refine jWp.blk mt 2 ?_
    show _ ∧ jWp 95 10 [some (jO x), some (jI a), some (jI n)] [jI (-1), jO x] 0 0 w _
    refine ⟨rfl, ?_⟩
    refine jWp.callv (as := [jO x, jI (-1)]) (rest := []) mt rfl rfl rfl ⟨rfl, jtg hX.X0⟩ ?_
    refine jCall.mono (C_far (w := w) (j := 0) hX (by decide) (by decide)) (fun v9 w9 h9 => ?_)
    obtain ⟨rfl, h9⟩ := h9
    subst h9
    show jWp 95 13 [some (jO x), some (jI a), some (jI n)] [jI (1000000000 - (-1))] 0 0 (jW w (x + 362) 0 ((w.1 (x + 362) 0) + 1)) _
    refine jWp.ireti mt rfl ⟨rfl, rfl⟩ rfl ?_
    refine ⟨fun c0 => ?_, fun c0 c1 => ?_, fun c0 c1 => ?_⟩
    all_goals first
    | (exfalso; omega)
    | exact ⟨rfl, rfl⟩
    | exact ⟨_, len, why, left, hTR, Or.inl ⟨by omega, by rw [zta_l (by omega)]; rfl, rfl⟩⟩
    | exact ⟨_, len, why, left, hTR, Or.inr ⟨by omega, rfl, rfl⟩⟩
set_option maxHeartbeats 4000000 in
set_option maxRecDepth 20000 in
theorem C_kept {w : jS} {x : Nat} (hX : CW w.2 x) {c : Nat} {R : Nat → Int} (hR : zRw R c) (hRW : cRW w x R c) {a n b : Int} (hra : r32 a) (hrn : r32 n) (hrb : r32 b) : jCall 96 [jO x, jI a, jI n, jI b] w (fun v w1 => ((¬ (0 ≤ a ∧ a < (c : Int))) → cno w x 0 (jJ (4000000000000000000 - (-1))) v w1) ∧ (¬ (¬ (0 ≤ a ∧ a < (c : Int))) → (¬ (0 ≤ b ∧ b ≤ 1)) → cno w x 1 (jJ (4000000000000000000 - (-2))) v w1) ∧ (¬ (¬ (0 ≤ a ∧ a < (c : Int))) → ¬ (¬ (0 ≤ b ∧ b ≤ 1)) → (n < 0) → cno w x 3 (jJ (4000000000000000000 - (-4))) v w1) ∧ (¬ (¬ (0 ≤ a ∧ a < (c : Int))) → ¬ (¬ (0 ≤ b ∧ b ≤ 1)) → ¬ (n < 0) → ∃ (t : Nat → Int) (len : Nat) (why left : Int), zTR R a.toNat t len why left ∧ ((zkp (R (1 + 10 * a.toNat)) t len n.toNat ∧ v = some (jJ (if b = 0 then (zu (zku (R (1 + 10 * a.toNat)) (R (2 + 10 * a.toNat)) t n.toNat) (zkd (R (1 + 10 * a.toNat)) t n.toNat)) else (zv (zku (R (1 + 10 * a.toNat)) (R (2 + 10 * a.toNat)) t n.toNat) (zkd (R (1 + 10 * a.toNat)) t n.toNat)))) ∧ cq w x w1) ∨ (¬ zkp (R (1 + 10 * a.toNat)) t len n.toNat ∧ cno w x 2 (jJ (4000000000000000000 - (-3))) v w1)))) := by
  have mt : jtb 96 = jT96 := rfl
  have hc4 := hR.2.1
  have hra1 : -2147483648 ≤ a ∧ a < 2147483648 := hra
  have hrn1 : -2147483648 ≤ n ∧ n < 2147483648 := hrn
  have hrb1 : -2147483648 ≤ b ∧ b < 2147483648 := hrb
  show jWp 96 0 [some (jO x), some (jI a), some (jI n), some (jI b)] [] 0 0 w _
  refine jWp.blk mt 2 ?_
  show _ ∧ jWp 96 2 [some (jO x), some (jI a), some (jI n), some (jI b)] [jI a, jO x] 0 0 w _
  refine ⟨rfl, ?_⟩
  refine jWp.callv (as := [jO x, jI a]) (rest := []) mt rfl rfl rfl ⟨rfl, jtg hX.X0⟩ ?_
  refine jCall.mono (C_isRow (w := w) hX hRW.1 hR.2.1 hra) (fun v9 w9 h9 => ?_)
  rcases h9 with ⟨rfl, h9, h1⟩ | ⟨rfl, h9, h1⟩ <;> subst w9
  · have h1 : 0 ≤ a ∧ a < (c : Int) := h1
    show jWp 96 5 [some (jO x), some (jI a), some (jI n), some (jI b)] [jI 1] 0 0 w _
    obtain ⟨a1, rfl⟩ : ∃ a1 : Nat, a = (a1 : Int) := ⟨a.toNat, by omega⟩
    show jWp 96 5 [some (jO x), some (jI (a1 : Int)), some (jI n), some (jI b)] [jI 1] 0 0 w _
    obtain ⟨hlaw, hfig, hst, len, why, left, hlen, hwhy, hleft, hgr, hen⟩ := hRW.2 a1 (by omega)
    have hTR : zTR R a1 (w.1 (x + (365 + 6 * a1))) len why left := ⟨hgr, hen⟩
    have hTb := zTR_b hR (by omega) hTR
    have hRl := hR.2.2 a1 (by omega)
    show jWp 96 5 [some (jO x), some (jI (a1 : Int)), some (jI n), some (jI b)] [jI 1] 0 0 w _
    refine jWp.ifc (b := true) mt rfl (by decide) rfl ?_
    show jWp 96 14 [some (jO x), some (jI (a1 : Int)), some (jI n), some (jI b)] [] 0 0 w _
    refine jWp.blk mt 1 ?_
    show jWp 96 15 [some (jO x), some (jI (a1 : Int)), some (jI n), some (jI b)] [jI b] 0 0 w _
    refine jWp.ifz (pc' := 18) mt rfl rfl (b32_id (by omega) (by omega)) (fun h2 => ?_) (fun h2 => ?_)
    · have h2 : b = 0 := h2
      refine jWp.blk mt 1 ?_
      show jWp 96 31 [some (jO x), some (jI (a1 : Int)), some (jI n), some (jI b)] [jI n] 0 0 w _
      refine jWp.ifz (pc' := 34) mt rfl rfl (b32_id (by omega) (by omega)) (fun h3 => ?_) (fun h3 => ?_)
      · have h3 : 0 ≤ n := h3
        obtain ⟨n1, rfl⟩ : ∃ n1 : Nat, n = (n1 : Int) := ⟨n.toNat, by omega⟩
        show jWp 96 41 [some (jO x), some (jI (a1 : Int)), some (jI (n1 : Int)), some (jI b)] [] 0 0 w _
        refine jWp.blk mt 1 ?_
        show _ ∧ jWp 96 42 [some (jO x), some (jI (a1 : Int)), some (jI (n1 : Int)), some (jI b)] [jO x] 0 0 w _
        refine ⟨rfl, ?_⟩
        refine jWp.getR (pc' := 45) (o := (x + 1)) mt rfl rfl (jtg hX.X0) hX.R0 ?_
        show jWp 96 45 [some (jO x), some (jI (a1 : Int)), some (jI (n1 : Int)), some (jI b)] [jO (x + 1)] 0 0 w _
        refine jWp.blk mt 1 ?_
        show jWp 96 46 [some (jO x), some (jI (a1 : Int)), some (jI (n1 : Int)), some (jI b)] [jI (a1 : Int), jO (x + 1)] 0 0 w _
        refine jWp.aald (pc' := 47) (j := a1) (o := (x + (363 + 6 * a1))) mt rfl rfl (jrg hX.X1 (by decide) (by decide)) (by rw [b32_id (by omega) (by omega)] <;> omega) (jlt hX.X1 (by omega)) (hX.RR a1 (by omega)) ?_
        show jWp 96 47 [some (jO x), some (jI (a1 : Int)), some (jI (n1 : Int)), some (jI b)] [jO (x + (363 + 6 * a1))] 0 0 w _
        refine jWp.blk mt 2 ?_
        show _ ∧ jWp 96 49 [some (jO x), some (jI (a1 : Int)), some (jI (n1 : Int)), some (jI b)] [jO x, jI (n1 : Int), jO (x + (363 + 6 * a1))] 0 0 w _
        refine ⟨rfl, ?_⟩
        refine jWp.getR (pc' := 52) (o := (x + 360)) mt rfl rfl (jtg hX.X0) hX.R12 ?_
        show jWp 96 52 [some (jO x), some (jI (a1 : Int)), some (jI (n1 : Int)), some (jI b)] [jO (x + 360), jI (n1 : Int), jO (x + (363 + 6 * a1))] 0 0 w _
        refine jWp.callv (as := [jO (x + (363 + 6 * a1)), jI (n1 : Int), jO (x + 360)]) (rest := []) mt rfl rfl rfl ⟨rfl, jtg (hX.KR a1 (by omega))⟩ ?_
        refine jCall.mono (C_keep (w := w) (r := x + (363 + 6 * a1)) (rt := x + (365 + 6 * a1)) (len := len) (hX.KR a1 (by omega)) (hX.KRt a1 (by omega)) (hX.RRt a1 (by omega)) hlen (by omega) hTb.2.2 (fk := x + 360) (n := n1) hX.X360 hlaw hfig hRl.1.1 hRl.1.2 hRl.2.1 (by omega)) (fun v9 w9 h9 => ?_)
        rcases h9 with ⟨rfl, hk9, hw9, hub, hvb⟩ | ⟨rfl, hk9, hw9⟩ <;> subst w9
        · have hk9' := hk9
          show jWp 96 55 [some (jO x), some (jI (a1 : Int)), some (jI (n1 : Int)), some (jI b)] [jI 1] 0 0 (jW (jW w (x + 360) 0 (zu (zku (R (1 + 10 * a1)) (R (2 + 10 * a1)) (w.1 (x + (365 + 6 * a1))) n1) (zkd (R (1 + 10 * a1)) (w.1 (x + (365 + 6 * a1))) n1))) (x + 360) 1 (zv (zku (R (1 + 10 * a1)) (R (2 + 10 * a1)) (w.1 (x + (365 + 6 * a1))) n1) (zkd (R (1 + 10 * a1)) (w.1 (x + (365 + 6 * a1))) n1))) _
          refine jWp.ifc (b := true) mt rfl (by decide) rfl ?_
          show jWp 96 65 [some (jO x), some (jI (a1 : Int)), some (jI (n1 : Int)), some (jI b)] [] 0 0 (jW (jW w (x + 360) 0 (zu (zku (R (1 + 10 * a1)) (R (2 + 10 * a1)) (w.1 (x + (365 + 6 * a1))) n1) (zkd (R (1 + 10 * a1)) (w.1 (x + (365 + 6 * a1))) n1))) (x + 360) 1 (zv (zku (R (1 + 10 * a1)) (R (2 + 10 * a1)) (w.1 (x + (365 + 6 * a1))) n1) (zkd (R (1 + 10 * a1)) (w.1 (x + (365 + 6 * a1))) n1))) _
          refine jWp.blk mt 1 ?_
          show jWp 96 66 [some (jO x), some (jI (a1 : Int)), some (jI (n1 : Int)), some (jI b)] [jI b] 0 0 (jW (jW w (x + 360) 0 (zu (zku (R (1 + 10 * a1)) (R (2 + 10 * a1)) (w.1 (x + (365 + 6 * a1))) n1) (zkd (R (1 + 10 * a1)) (w.1 (x + (365 + 6 * a1))) n1))) (x + 360) 1 (zv (zku (R (1 + 10 * a1)) (R (2 + 10 * a1)) (w.1 (x + (365 + 6 * a1))) n1) (zkd (R (1 + 10 * a1)) (w.1 (x + (365 + 6 * a1))) n1))) _
          refine jWp.ifz (pc' := 69) mt rfl rfl (b32_id (by omega) (by omega)) (fun h4 => ?_) (fun h4 => ?_)
          · have h4 : b ≠ 0 := h4
            refine jWp.blk mt 1 ?_
            show _ ∧ jWp 96 80 [some (jO x), some (jI (a1 : Int)), some (jI (n1 : Int)), some (jI b)] [jO x] 0 0 (jW (jW w (x + 360) 0 (zu (zku (R (1 + 10 * a1)) (R (2 + 10 * a1)) (w.1 (x + (365 + 6 * a1))) n1) (zkd (R (1 + 10 * a1)) (w.1 (x + (365 + 6 * a1))) n1))) (x + 360) 1 (zv (zku (R (1 + 10 * a1)) (R (2 + 10 * a1)) (w.1 (x + (365 + 6 * a1))) n1) (zkd (R (1 + 10 * a1)) (w.1 (x + (365 + 6 * a1))) n1))) _
            refine ⟨rfl, ?_⟩
            refine jWp.getR (pc' := 83) (o := (x + 360)) mt rfl rfl (jtg hX.X0) hX.R12 ?_
            show jWp 96 83 [some (jO x), some (jI (a1 : Int)), some (jI (n1 : Int)), some (jI b)] [jO (x + 360)] 0 0 (jW (jW w (x + 360) 0 (zu (zku (R (1 + 10 * a1)) (R (2 + 10 * a1)) (w.1 (x + (365 + 6 * a1))) n1) (zkd (R (1 + 10 * a1)) (w.1 (x + (365 + 6 * a1))) n1))) (x + 360) 1 (zv (zku (R (1 + 10 * a1)) (R (2 + 10 * a1)) (w.1 (x + (365 + 6 * a1))) n1) (zkd (R (1 + 10 * a1)) (w.1 (x + (365 + 6 * a1))) n1))) _
            refine jWp.getJ (pc' := 86) mt rfl rfl (jtg hX.X360) ?_
            rw [show ((jW (jW w (x + 360) 0 (zu (zku (R (1 + 10 * a1)) (R (2 + 10 * a1)) (w.1 (x + (365 + 6 * a1))) n1) (zkd (R (1 + 10 * a1)) (w.1 (x + (365 + 6 * a1))) n1))) (x + 360) 1 (zv (zku (R (1 + 10 * a1)) (R (2 + 10 * a1)) (w.1 (x + (365 + 6 * a1))) n1) (zkd (R (1 + 10 * a1)) (w.1 (x + (365 + 6 * a1))) n1))).1 (x + 360) 1) = (zv (zku (R (1 + 10 * a1)) (R (2 + 10 * a1)) (w.1 (x + (365 + 6 * a1))) n1) (zkd (R (1 + 10 * a1)) (w.1 (x + (365 + 6 * a1))) n1)) from jW_s]
            show jWp 96 86 [some (jO x), some (jI (a1 : Int)), some (jI (n1 : Int)), some (jI b)] [jJ (zv (zku (R (1 + 10 * a1)) (R (2 + 10 * a1)) (w.1 (x + (365 + 6 * a1))) n1) (zkd (R (1 + 10 * a1)) (w.1 (x + (365 + 6 * a1))) n1))] 0 0 (jW (jW w (x + 360) 0 (zu (zku (R (1 + 10 * a1)) (R (2 + 10 * a1)) (w.1 (x + (365 + 6 * a1))) n1) (zkd (R (1 + 10 * a1)) (w.1 (x + (365 + 6 * a1))) n1))) (x + 360) 1 (zv (zku (R (1 + 10 * a1)) (R (2 + 10 * a1)) (w.1 (x + (365 + 6 * a1))) n1) (zkd (R (1 + 10 * a1)) (w.1 (x + (365 + 6 * a1))) n1))) _
            refine jWp.lret mt rfl ⟨rfl, rfl⟩ rfl ?_
            refine ⟨fun c0 => ?_, fun c0 c1 => ?_, fun c0 c1 c2 => ?_, fun c0 c1 c2 => ?_⟩
            all_goals first
            | (exfalso; omega)
            | exact ⟨rfl, rfl⟩
            | exact ⟨_, len, why, left, hTR, Or.inr ⟨hk9, rfl, rfl⟩⟩
            | exact ⟨_, len, why, left, hTR, Or.inl ⟨hk9, by rw [if_pos (by omega)]; rfl, rfl, fun z g1 g2 g3 => (jW_f g2).trans (jW_f g2)⟩⟩
            | exact ⟨_, len, why, left, hTR, Or.inl ⟨hk9, by rw [if_neg (by omega)]; rfl, rfl, fun z g1 g2 g3 => (jW_f g2).trans (jW_f g2)⟩⟩
          · have h4 : b = 0 := h4
            refine jWp.blk mt 1 ?_
            show _ ∧ jWp 96 70 [some (jO x), some (jI (a1 : Int)), some (jI (n1 : Int)), some (jI b)] [jO x] 0 0 (jW (jW w (x + 360) 0 (zu (zku (R (1 + 10 * a1)) (R (2 + 10 * a1)) (w.1 (x + (365 + 6 * a1))) n1) (zkd (R (1 + 10 * a1)) (w.1 (x + (365 + 6 * a1))) n1))) (x + 360) 1 (zv (zku (R (1 + 10 * a1)) (R (2 + 10 * a1)) (w.1 (x + (365 + 6 * a1))) n1) (zkd (R (1 + 10 * a1)) (w.1 (x + (365 + 6 * a1))) n1))) _
            refine ⟨rfl, ?_⟩
            refine jWp.getR (pc' := 73) (o := (x + 360)) mt rfl rfl (jtg hX.X0) hX.R12 ?_
            show jWp 96 73 [some (jO x), some (jI (a1 : Int)), some (jI (n1 : Int)), some (jI b)] [jO (x + 360)] 0 0 (jW (jW w (x + 360) 0 (zu (zku (R (1 + 10 * a1)) (R (2 + 10 * a1)) (w.1 (x + (365 + 6 * a1))) n1) (zkd (R (1 + 10 * a1)) (w.1 (x + (365 + 6 * a1))) n1))) (x + 360) 1 (zv (zku (R (1 + 10 * a1)) (R (2 + 10 * a1)) (w.1 (x + (365 + 6 * a1))) n1) (zkd (R (1 + 10 * a1)) (w.1 (x + (365 + 6 * a1))) n1))) _
            refine jWp.getJ (pc' := 76) mt rfl rfl (jtg hX.X360) ?_
            rw [show ((jW (jW w (x + 360) 0 (zu (zku (R (1 + 10 * a1)) (R (2 + 10 * a1)) (w.1 (x + (365 + 6 * a1))) n1) (zkd (R (1 + 10 * a1)) (w.1 (x + (365 + 6 * a1))) n1))) (x + 360) 1 (zv (zku (R (1 + 10 * a1)) (R (2 + 10 * a1)) (w.1 (x + (365 + 6 * a1))) n1) (zkd (R (1 + 10 * a1)) (w.1 (x + (365 + 6 * a1))) n1))).1 (x + 360) 0) = (zu (zku (R (1 + 10 * a1)) (R (2 + 10 * a1)) (w.1 (x + (365 + 6 * a1))) n1) (zkd (R (1 + 10 * a1)) (w.1 (x + (365 + 6 * a1))) n1)) from ((jW_k (by decide)).trans jW_s)]
            show jWp 96 76 [some (jO x), some (jI (a1 : Int)), some (jI (n1 : Int)), some (jI b)] [jJ (zu (zku (R (1 + 10 * a1)) (R (2 + 10 * a1)) (w.1 (x + (365 + 6 * a1))) n1) (zkd (R (1 + 10 * a1)) (w.1 (x + (365 + 6 * a1))) n1))] 0 0 (jW (jW w (x + 360) 0 (zu (zku (R (1 + 10 * a1)) (R (2 + 10 * a1)) (w.1 (x + (365 + 6 * a1))) n1) (zkd (R (1 + 10 * a1)) (w.1 (x + (365 + 6 * a1))) n1))) (x + 360) 1 (zv (zku (R (1 + 10 * a1)) (R (2 + 10 * a1)) (w.1 (x + (365 + 6 * a1))) n1) (zkd (R (1 + 10 * a1)) (w.1 (x + (365 + 6 * a1))) n1))) _
            refine jWp.blk mt 1 ?_
            show jWp 96 86 [some (jO x), some (jI (a1 : Int)), some (jI (n1 : Int)), some (jI b)] [jJ (zu (zku (R (1 + 10 * a1)) (R (2 + 10 * a1)) (w.1 (x + (365 + 6 * a1))) n1) (zkd (R (1 + 10 * a1)) (w.1 (x + (365 + 6 * a1))) n1))] 0 0 (jW (jW w (x + 360) 0 (zu (zku (R (1 + 10 * a1)) (R (2 + 10 * a1)) (w.1 (x + (365 + 6 * a1))) n1) (zkd (R (1 + 10 * a1)) (w.1 (x + (365 + 6 * a1))) n1))) (x + 360) 1 (zv (zku (R (1 + 10 * a1)) (R (2 + 10 * a1)) (w.1 (x + (365 + 6 * a1))) n1) (zkd (R (1 + 10 * a1)) (w.1 (x + (365 + 6 * a1))) n1))) _
            refine jWp.lret mt rfl ⟨rfl, rfl⟩ rfl ?_
            refine ⟨fun c0 => ?_, fun c0 c1 => ?_, fun c0 c1 c2 => ?_, fun c0 c1 c2 => ?_⟩
            all_goals first
            | (exfalso; omega)
            | exact ⟨rfl, rfl⟩
            | exact ⟨_, len, why, left, hTR, Or.inr ⟨hk9, rfl, rfl⟩⟩
            | exact ⟨_, len, why, left, hTR, Or.inl ⟨hk9, by rw [if_pos (by omega)]; rfl, rfl, fun z g1 g2 g3 => (jW_f g2).trans (jW_f g2)⟩⟩
            | exact ⟨_, len, why, left, hTR, Or.inl ⟨hk9, by rw [if_neg (by omega)]; rfl, rfl, fun z g1 g2 g3 => (jW_f g2).trans (jW_f g2)⟩⟩
        · have hk9' := hk9
          show jWp 96 55 [some (jO x), some (jI (a1 : Int)), some (jI (n1 : Int)), some (jI b)] [jI 0] 0 0 w _
          refine jWp.ifc (b := false) mt rfl (by decide) rfl ?_
          show jWp 96 58 [some (jO x), some (jI (a1 : Int)), some (jI (n1 : Int)), some (jI b)] [] 0 0 w _
          refine jWp.blk mt 2 ?_
          show _ ∧ jWp 96 61 [some (jO x), some (jI (a1 : Int)), some (jI (n1 : Int)), some (jI b)] [jI (-3), jO x] 0 0 w _
          refine ⟨rfl, ?_⟩
          refine jWp.callv (as := [jO x, jI (-3)]) (rest := []) mt rfl rfl rfl ⟨rfl, jtg hX.X0⟩ ?_
          refine jCall.mono (C_farther (w := w) (j := 2) hX (by decide) (by decide)) (fun v9 w9 h9 => ?_)
          obtain ⟨rfl, h9⟩ := h9
          subst h9
          show jWp 96 64 [some (jO x), some (jI (a1 : Int)), some (jI (n1 : Int)), some (jI b)] [jJ (4000000000000000000 - (-3))] 0 0 (jW w (x + 362) 2 ((w.1 (x + 362) 2) + 1)) _
          refine jWp.lret mt rfl ⟨rfl, rfl⟩ rfl ?_
          refine ⟨fun c0 => ?_, fun c0 c1 => ?_, fun c0 c1 c2 => ?_, fun c0 c1 c2 => ?_⟩
          all_goals first
          | (exfalso; omega)
          | exact ⟨rfl, rfl⟩
          | exact ⟨_, len, why, left, hTR, Or.inr ⟨hk9, rfl, rfl⟩⟩
          | exact ⟨_, len, why, left, hTR, Or.inl ⟨hk9, by rw [if_pos (by omega)]; rfl, rfl, fun z g1 g2 g3 => (jW_f g2).trans (jW_f g2)⟩⟩
          | exact ⟨_, len, why, left, hTR, Or.inl ⟨hk9, by rw [if_neg (by omega)]; rfl, rfl, fun z g1 g2 g3 => (jW_f g2).trans (jW_f g2)⟩⟩
      · have h3 : n < 0 := h3
        refine jWp.blk mt 2 ?_
        show _ ∧ jWp 96 37 [some (jO x), some (jI (a1 : Int)), some (jI n), some (jI b)] [jI (-4), jO x] 0 0 w _
        refine ⟨rfl, ?_⟩
        refine jWp.callv (as := [jO x, jI (-4)]) (rest := []) mt rfl rfl rfl ⟨rfl, jtg hX.X0⟩ ?_
        refine jCall.mono (C_farther (w := w) (j := 3) hX (by decide) (by decide)) (fun v9 w9 h9 => ?_)
        obtain ⟨rfl, h9⟩ := h9
        subst h9
        show jWp 96 40 [some (jO x), some (jI (a1 : Int)), some (jI n), some (jI b)] [jJ (4000000000000000000 - (-4))] 0 0 (jW w (x + 362) 3 ((w.1 (x + 362) 3) + 1)) _
        refine jWp.lret mt rfl ⟨rfl, rfl⟩ rfl ?_
        refine ⟨fun c0 => ?_, fun c0 c1 => ?_, fun c0 c1 c2 => ?_, fun c0 c1 c2 => ?_⟩
        all_goals first
        | (exfalso; omega)
        | exact ⟨rfl, rfl⟩
        | exact ⟨_, len, why, left, hTR, Or.inr ⟨hk9, rfl, rfl⟩⟩
        | exact ⟨_, len, why, left, hTR, Or.inl ⟨hk9, by rw [if_pos (by omega)]; rfl, rfl, fun z g1 g2 g3 => (jW_f g2).trans (jW_f g2)⟩⟩
        | exact ⟨_, len, why, left, hTR, Or.inl ⟨hk9, by rw [if_neg (by omega)]; rfl, rfl, fun z g1 g2 g3 => (jW_f g2).trans (jW_f g2)⟩⟩
    · have h2 : b ≠ 0 := h2
      refine jWp.blk mt 2 ?_
      show jWp 96 20 [some (jO x), some (jI (a1 : Int)), some (jI n), some (jI b)] [jI 1, jI b] 0 0 w _
      refine jWp.icmp (pc' := 23) mt rfl rfl (b32_id (by omega) (by omega)) (show b32 1 = 1 by decide) (fun h5 => ?_) (fun h5 => ?_)
      · have h5 : b = 1 := h5
        refine jWp.blk mt 1 ?_
        show jWp 96 31 [some (jO x), some (jI (a1 : Int)), some (jI n), some (jI b)] [jI n] 0 0 w _
        refine jWp.ifz (pc' := 34) mt rfl rfl (b32_id (by omega) (by omega)) (fun h6 => ?_) (fun h6 => ?_)
        · have h6 : 0 ≤ n := h6
          obtain ⟨n1, rfl⟩ : ∃ n1 : Nat, n = (n1 : Int) := ⟨n.toNat, by omega⟩
          show jWp 96 41 [some (jO x), some (jI (a1 : Int)), some (jI (n1 : Int)), some (jI b)] [] 0 0 w _
          refine jWp.blk mt 1 ?_
          show _ ∧ jWp 96 42 [some (jO x), some (jI (a1 : Int)), some (jI (n1 : Int)), some (jI b)] [jO x] 0 0 w _
          refine ⟨rfl, ?_⟩
          refine jWp.getR (pc' := 45) (o := (x + 1)) mt rfl rfl (jtg hX.X0) hX.R0 ?_
          show jWp 96 45 [some (jO x), some (jI (a1 : Int)), some (jI (n1 : Int)), some (jI b)] [jO (x + 1)] 0 0 w _
          refine jWp.blk mt 1 ?_
          show jWp 96 46 [some (jO x), some (jI (a1 : Int)), some (jI (n1 : Int)), some (jI b)] [jI (a1 : Int), jO (x + 1)] 0 0 w _
          refine jWp.aald (pc' := 47) (j := a1) (o := (x + (363 + 6 * a1))) mt rfl rfl (jrg hX.X1 (by decide) (by decide)) (by rw [b32_id (by omega) (by omega)] <;> omega) (jlt hX.X1 (by omega)) (hX.RR a1 (by omega)) ?_
          show jWp 96 47 [some (jO x), some (jI (a1 : Int)), some (jI (n1 : Int)), some (jI b)] [jO (x + (363 + 6 * a1))] 0 0 w _
          refine jWp.blk mt 2 ?_
          show _ ∧ jWp 96 49 [some (jO x), some (jI (a1 : Int)), some (jI (n1 : Int)), some (jI b)] [jO x, jI (n1 : Int), jO (x + (363 + 6 * a1))] 0 0 w _
          refine ⟨rfl, ?_⟩
          refine jWp.getR (pc' := 52) (o := (x + 360)) mt rfl rfl (jtg hX.X0) hX.R12 ?_
          show jWp 96 52 [some (jO x), some (jI (a1 : Int)), some (jI (n1 : Int)), some (jI b)] [jO (x + 360), jI (n1 : Int), jO (x + (363 + 6 * a1))] 0 0 w _
          refine jWp.callv (as := [jO (x + (363 + 6 * a1)), jI (n1 : Int), jO (x + 360)]) (rest := []) mt rfl rfl rfl ⟨rfl, jtg (hX.KR a1 (by omega))⟩ ?_
          refine jCall.mono (C_keep (w := w) (r := x + (363 + 6 * a1)) (rt := x + (365 + 6 * a1)) (len := len) (hX.KR a1 (by omega)) (hX.KRt a1 (by omega)) (hX.RRt a1 (by omega)) hlen (by omega) hTb.2.2 (fk := x + 360) (n := n1) hX.X360 hlaw hfig hRl.1.1 hRl.1.2 hRl.2.1 (by omega)) (fun v9 w9 h9 => ?_)
          rcases h9 with ⟨rfl, hk9, hw9, hub, hvb⟩ | ⟨rfl, hk9, hw9⟩ <;> subst w9
          · have hk9' := hk9
            show jWp 96 55 [some (jO x), some (jI (a1 : Int)), some (jI (n1 : Int)), some (jI b)] [jI 1] 0 0 (jW (jW w (x + 360) 0 (zu (zku (R (1 + 10 * a1)) (R (2 + 10 * a1)) (w.1 (x + (365 + 6 * a1))) n1) (zkd (R (1 + 10 * a1)) (w.1 (x + (365 + 6 * a1))) n1))) (x + 360) 1 (zv (zku (R (1 + 10 * a1)) (R (2 + 10 * a1)) (w.1 (x + (365 + 6 * a1))) n1) (zkd (R (1 + 10 * a1)) (w.1 (x + (365 + 6 * a1))) n1))) _
            refine jWp.ifc (b := true) mt rfl (by decide) rfl ?_
            show jWp 96 65 [some (jO x), some (jI (a1 : Int)), some (jI (n1 : Int)), some (jI b)] [] 0 0 (jW (jW w (x + 360) 0 (zu (zku (R (1 + 10 * a1)) (R (2 + 10 * a1)) (w.1 (x + (365 + 6 * a1))) n1) (zkd (R (1 + 10 * a1)) (w.1 (x + (365 + 6 * a1))) n1))) (x + 360) 1 (zv (zku (R (1 + 10 * a1)) (R (2 + 10 * a1)) (w.1 (x + (365 + 6 * a1))) n1) (zkd (R (1 + 10 * a1)) (w.1 (x + (365 + 6 * a1))) n1))) _
            refine jWp.blk mt 1 ?_
            show jWp 96 66 [some (jO x), some (jI (a1 : Int)), some (jI (n1 : Int)), some (jI b)] [jI b] 0 0 (jW (jW w (x + 360) 0 (zu (zku (R (1 + 10 * a1)) (R (2 + 10 * a1)) (w.1 (x + (365 + 6 * a1))) n1) (zkd (R (1 + 10 * a1)) (w.1 (x + (365 + 6 * a1))) n1))) (x + 360) 1 (zv (zku (R (1 + 10 * a1)) (R (2 + 10 * a1)) (w.1 (x + (365 + 6 * a1))) n1) (zkd (R (1 + 10 * a1)) (w.1 (x + (365 + 6 * a1))) n1))) _
            refine jWp.ifz (pc' := 69) mt rfl rfl (b32_id (by omega) (by omega)) (fun h7 => ?_) (fun h7 => ?_)
            · have h7 : b ≠ 0 := h7
              refine jWp.blk mt 1 ?_
              show _ ∧ jWp 96 80 [some (jO x), some (jI (a1 : Int)), some (jI (n1 : Int)), some (jI b)] [jO x] 0 0 (jW (jW w (x + 360) 0 (zu (zku (R (1 + 10 * a1)) (R (2 + 10 * a1)) (w.1 (x + (365 + 6 * a1))) n1) (zkd (R (1 + 10 * a1)) (w.1 (x + (365 + 6 * a1))) n1))) (x + 360) 1 (zv (zku (R (1 + 10 * a1)) (R (2 + 10 * a1)) (w.1 (x + (365 + 6 * a1))) n1) (zkd (R (1 + 10 * a1)) (w.1 (x + (365 + 6 * a1))) n1))) _
              refine ⟨rfl, ?_⟩
              refine jWp.getR (pc' := 83) (o := (x + 360)) mt rfl rfl (jtg hX.X0) hX.R12 ?_
              show jWp 96 83 [some (jO x), some (jI (a1 : Int)), some (jI (n1 : Int)), some (jI b)] [jO (x + 360)] 0 0 (jW (jW w (x + 360) 0 (zu (zku (R (1 + 10 * a1)) (R (2 + 10 * a1)) (w.1 (x + (365 + 6 * a1))) n1) (zkd (R (1 + 10 * a1)) (w.1 (x + (365 + 6 * a1))) n1))) (x + 360) 1 (zv (zku (R (1 + 10 * a1)) (R (2 + 10 * a1)) (w.1 (x + (365 + 6 * a1))) n1) (zkd (R (1 + 10 * a1)) (w.1 (x + (365 + 6 * a1))) n1))) _
              refine jWp.getJ (pc' := 86) mt rfl rfl (jtg hX.X360) ?_
              rw [show ((jW (jW w (x + 360) 0 (zu (zku (R (1 + 10 * a1)) (R (2 + 10 * a1)) (w.1 (x + (365 + 6 * a1))) n1) (zkd (R (1 + 10 * a1)) (w.1 (x + (365 + 6 * a1))) n1))) (x + 360) 1 (zv (zku (R (1 + 10 * a1)) (R (2 + 10 * a1)) (w.1 (x + (365 + 6 * a1))) n1) (zkd (R (1 + 10 * a1)) (w.1 (x + (365 + 6 * a1))) n1))).1 (x + 360) 1) = (zv (zku (R (1 + 10 * a1)) (R (2 + 10 * a1)) (w.1 (x + (365 + 6 * a1))) n1) (zkd (R (1 + 10 * a1)) (w.1 (x + (365 + 6 * a1))) n1)) from jW_s]
              show jWp 96 86 [some (jO x), some (jI (a1 : Int)), some (jI (n1 : Int)), some (jI b)] [jJ (zv (zku (R (1 + 10 * a1)) (R (2 + 10 * a1)) (w.1 (x + (365 + 6 * a1))) n1) (zkd (R (1 + 10 * a1)) (w.1 (x + (365 + 6 * a1))) n1))] 0 0 (jW (jW w (x + 360) 0 (zu (zku (R (1 + 10 * a1)) (R (2 + 10 * a1)) (w.1 (x + (365 + 6 * a1))) n1) (zkd (R (1 + 10 * a1)) (w.1 (x + (365 + 6 * a1))) n1))) (x + 360) 1 (zv (zku (R (1 + 10 * a1)) (R (2 + 10 * a1)) (w.1 (x + (365 + 6 * a1))) n1) (zkd (R (1 + 10 * a1)) (w.1 (x + (365 + 6 * a1))) n1))) _
              refine jWp.lret mt rfl ⟨rfl, rfl⟩ rfl ?_
              refine ⟨fun c0 => ?_, fun c0 c1 => ?_, fun c0 c1 c2 => ?_, fun c0 c1 c2 => ?_⟩
              all_goals first
              | (exfalso; omega)
              | exact ⟨rfl, rfl⟩
              | exact ⟨_, len, why, left, hTR, Or.inr ⟨hk9, rfl, rfl⟩⟩
              | exact ⟨_, len, why, left, hTR, Or.inl ⟨hk9, by rw [if_pos (by omega)]; rfl, rfl, fun z g1 g2 g3 => (jW_f g2).trans (jW_f g2)⟩⟩
              | exact ⟨_, len, why, left, hTR, Or.inl ⟨hk9, by rw [if_neg (by omega)]; rfl, rfl, fun z g1 g2 g3 => (jW_f g2).trans (jW_f g2)⟩⟩
            · have h7 : b = 0 := h7
              refine jWp.blk mt 1 ?_
              show _ ∧ jWp 96 70 [some (jO x), some (jI (a1 : Int)), some (jI (n1 : Int)), some (jI b)] [jO x] 0 0 (jW (jW w (x + 360) 0 (zu (zku (R (1 + 10 * a1)) (R (2 + 10 * a1)) (w.1 (x + (365 + 6 * a1))) n1) (zkd (R (1 + 10 * a1)) (w.1 (x + (365 + 6 * a1))) n1))) (x + 360) 1 (zv (zku (R (1 + 10 * a1)) (R (2 + 10 * a1)) (w.1 (x + (365 + 6 * a1))) n1) (zkd (R (1 + 10 * a1)) (w.1 (x + (365 + 6 * a1))) n1))) _
              refine ⟨rfl, ?_⟩
              refine jWp.getR (pc' := 73) (o := (x + 360)) mt rfl rfl (jtg hX.X0) hX.R12 ?_
              show jWp 96 73 [some (jO x), some (jI (a1 : Int)), some (jI (n1 : Int)), some (jI b)] [jO (x + 360)] 0 0 (jW (jW w (x + 360) 0 (zu (zku (R (1 + 10 * a1)) (R (2 + 10 * a1)) (w.1 (x + (365 + 6 * a1))) n1) (zkd (R (1 + 10 * a1)) (w.1 (x + (365 + 6 * a1))) n1))) (x + 360) 1 (zv (zku (R (1 + 10 * a1)) (R (2 + 10 * a1)) (w.1 (x + (365 + 6 * a1))) n1) (zkd (R (1 + 10 * a1)) (w.1 (x + (365 + 6 * a1))) n1))) _
              refine jWp.getJ (pc' := 76) mt rfl rfl (jtg hX.X360) ?_
              rw [show ((jW (jW w (x + 360) 0 (zu (zku (R (1 + 10 * a1)) (R (2 + 10 * a1)) (w.1 (x + (365 + 6 * a1))) n1) (zkd (R (1 + 10 * a1)) (w.1 (x + (365 + 6 * a1))) n1))) (x + 360) 1 (zv (zku (R (1 + 10 * a1)) (R (2 + 10 * a1)) (w.1 (x + (365 + 6 * a1))) n1) (zkd (R (1 + 10 * a1)) (w.1 (x + (365 + 6 * a1))) n1))).1 (x + 360) 0) = (zu (zku (R (1 + 10 * a1)) (R (2 + 10 * a1)) (w.1 (x + (365 + 6 * a1))) n1) (zkd (R (1 + 10 * a1)) (w.1 (x + (365 + 6 * a1))) n1)) from ((jW_k (by decide)).trans jW_s)]
              show jWp 96 76 [some (jO x), some (jI (a1 : Int)), some (jI (n1 : Int)), some (jI b)] [jJ (zu (zku (R (1 + 10 * a1)) (R (2 + 10 * a1)) (w.1 (x + (365 + 6 * a1))) n1) (zkd (R (1 + 10 * a1)) (w.1 (x + (365 + 6 * a1))) n1))] 0 0 (jW (jW w (x + 360) 0 (zu (zku (R (1 + 10 * a1)) (R (2 + 10 * a1)) (w.1 (x + (365 + 6 * a1))) n1) (zkd (R (1 + 10 * a1)) (w.1 (x + (365 + 6 * a1))) n1))) (x + 360) 1 (zv (zku (R (1 + 10 * a1)) (R (2 + 10 * a1)) (w.1 (x + (365 + 6 * a1))) n1) (zkd (R (1 + 10 * a1)) (w.1 (x + (365 + 6 * a1))) n1))) _
              refine jWp.blk mt 1 ?_
              show jWp 96 86 [some (jO x), some (jI (a1 : Int)), some (jI (n1 : Int)), some (jI b)] [jJ (zu (zku (R (1 + 10 * a1)) (R (2 + 10 * a1)) (w.1 (x + (365 + 6 * a1))) n1) (zkd (R (1 + 10 * a1)) (w.1 (x + (365 + 6 * a1))) n1))] 0 0 (jW (jW w (x + 360) 0 (zu (zku (R (1 + 10 * a1)) (R (2 + 10 * a1)) (w.1 (x + (365 + 6 * a1))) n1) (zkd (R (1 + 10 * a1)) (w.1 (x + (365 + 6 * a1))) n1))) (x + 360) 1 (zv (zku (R (1 + 10 * a1)) (R (2 + 10 * a1)) (w.1 (x + (365 + 6 * a1))) n1) (zkd (R (1 + 10 * a1)) (w.1 (x + (365 + 6 * a1))) n1))) _
              refine jWp.lret mt rfl ⟨rfl, rfl⟩ rfl ?_
              refine ⟨fun c0 => ?_, fun c0 c1 => ?_, fun c0 c1 c2 => ?_, fun c0 c1 c2 => ?_⟩
              all_goals first
              | (exfalso; omega)
              | exact ⟨rfl, rfl⟩
              | exact ⟨_, len, why, left, hTR, Or.inr ⟨hk9, rfl, rfl⟩⟩
              | exact ⟨_, len, why, left, hTR, Or.inl ⟨hk9, by rw [if_pos (by omega)]; rfl, rfl, fun z g1 g2 g3 => (jW_f g2).trans (jW_f g2)⟩⟩
              | exact ⟨_, len, why, left, hTR, Or.inl ⟨hk9, by rw [if_neg (by omega)]; rfl, rfl, fun z g1 g2 g3 => (jW_f g2).trans (jW_f g2)⟩⟩
          · have hk9' := hk9
            show jWp 96 55 [some (jO x), some (jI (a1 : Int)), some (jI (n1 : Int)), some (jI b)] [jI 0] 0 0 w _
            refine jWp.ifc (b := false) mt rfl (by decide) rfl ?_
            show jWp 96 58 [some (jO x), some (jI (a1 : Int)), some (jI (n1 : Int)), some (jI b)] [] 0 0 w _
            refine jWp.blk mt 2 ?_
            show _ ∧ jWp 96 61 [some (jO x), some (jI (a1 : Int)), some (jI (n1 : Int)), some (jI b)] [jI (-3), jO x] 0 0 w _
            refine ⟨rfl, ?_⟩
            refine jWp.callv (as := [jO x, jI (-3)]) (rest := []) mt rfl rfl rfl ⟨rfl, jtg hX.X0⟩ ?_
            refine jCall.mono (C_farther (w := w) (j := 2) hX (by decide) (by decide)) (fun v9 w9 h9 => ?_)
            obtain ⟨rfl, h9⟩ := h9
            subst h9
            show jWp 96 64 [some (jO x), some (jI (a1 : Int)), some (jI (n1 : Int)), some (jI b)] [jJ (4000000000000000000 - (-3))] 0 0 (jW w (x + 362) 2 ((w.1 (x + 362) 2) + 1)) _
            refine jWp.lret mt rfl ⟨rfl, rfl⟩ rfl ?_
            refine ⟨fun c0 => ?_, fun c0 c1 => ?_, fun c0 c1 c2 => ?_, fun c0 c1 c2 => ?_⟩
            all_goals first
            | (exfalso; omega)
            | exact ⟨rfl, rfl⟩
            | exact ⟨_, len, why, left, hTR, Or.inr ⟨hk9, rfl, rfl⟩⟩
            | exact ⟨_, len, why, left, hTR, Or.inl ⟨hk9, by rw [if_pos (by omega)]; rfl, rfl, fun z g1 g2 g3 => (jW_f g2).trans (jW_f g2)⟩⟩
            | exact ⟨_, len, why, left, hTR, Or.inl ⟨hk9, by rw [if_neg (by omega)]; rfl, rfl, fun z g1 g2 g3 => (jW_f g2).trans (jW_f g2)⟩⟩
        · have h6 : n < 0 := h6
          refine jWp.blk mt 2 ?_
          show _ ∧ jWp 96 37 [some (jO x), some (jI (a1 : Int)), some (jI n), some (jI b)] [jI (-4), jO x] 0 0 w _
          refine ⟨rfl, ?_⟩
          refine jWp.callv (as := [jO x, jI (-4)]) (rest := []) mt rfl rfl rfl ⟨rfl, jtg hX.X0⟩ ?_
          refine jCall.mono (C_farther (w := w) (j := 3) hX (by decide) (by decide)) (fun v9 w9 h9 => ?_)
          obtain ⟨rfl, h9⟩ := h9
          subst h9
          show jWp 96 40 [some (jO x), some (jI (a1 : Int)), some (jI n), some (jI b)] [jJ (4000000000000000000 - (-4))] 0 0 (jW w (x + 362) 3 ((w.1 (x + 362) 3) + 1)) _
          refine jWp.lret mt rfl ⟨rfl, rfl⟩ rfl ?_
          refine ⟨fun c0 => ?_, fun c0 c1 => ?_, fun c0 c1 c2 => ?_, fun c0 c1 c2 => ?_⟩
          all_goals first
          | (exfalso; omega)
          | exact ⟨rfl, rfl⟩
          | exact ⟨_, len, why, left, hTR, Or.inr ⟨hk9, rfl, rfl⟩⟩
          | exact ⟨_, len, why, left, hTR, Or.inl ⟨hk9, by rw [if_pos (by omega)]; rfl, rfl, fun z g1 g2 g3 => (jW_f g2).trans (jW_f g2)⟩⟩
          | exact ⟨_, len, why, left, hTR, Or.inl ⟨hk9, by rw [if_neg (by omega)]; rfl, rfl, fun z g1 g2 g3 => (jW_f g2).trans (jW_f g2)⟩⟩
      · have h5 : b ≠ 1 := h5
        refine jWp.blk mt 2 ?_
        show _ ∧ jWp 96 26 [some (jO x), some (jI (a1 : Int)), some (jI n), some (jI b)] [jI (-2), jO x] 0 0 w _
        refine ⟨rfl, ?_⟩
        refine jWp.callv (as := [jO x, jI (-2)]) (rest := []) mt rfl rfl rfl ⟨rfl, jtg hX.X0⟩ ?_
        refine jCall.mono (C_farther (w := w) (j := 1) hX (by decide) (by decide)) (fun v9 w9 h9 => ?_)
        obtain ⟨rfl, h9⟩ := h9
        subst h9
        show jWp 96 29 [some (jO x), some (jI (a1 : Int)), some (jI n), some (jI b)] [jJ (4000000000000000000 - (-2))] 0 0 (jW w (x + 362) 1 ((w.1 (x + 362) 1) + 1)) _
        refine jWp.lret mt rfl ⟨rfl, rfl⟩ rfl ?_
        refine ⟨fun c0 => ?_, fun c0 c1 => ?_, fun c0 c1 c2 => ?_, fun c0 c1 c2 => ?_⟩
        all_goals first
        | (exfalso; omega)
        | exact ⟨rfl, rfl⟩
        | exact ⟨_, len, why, left, hTR, Or.inr ⟨hk9, rfl, rfl⟩⟩
        | exact ⟨_, len, why, left, hTR, Or.inl ⟨hk9, by rw [if_pos (by omega)]; rfl, rfl, fun z g1 g2 g3 => (jW_f g2).trans (jW_f g2)⟩⟩
        | exact ⟨_, len, why, left, hTR, Or.inl ⟨hk9, by rw [if_neg (by omega)]; rfl, rfl, fun z g1 g2 g3 => (jW_f g2).trans (jW_f g2)⟩⟩
  · have h1 : ¬ (0 ≤ a ∧ a < (c : Int)) := h1
    show jWp 96 5 [some (jO x), some (jI a), some (jI n), some (jI b)] [jI 0] 0 0 w _
    refine jWp.ifc (b := false) mt rfl (by decide) rfl ?_
    show jWp 96 8 [some (jO x), some (jI a), some (jI n), some (jI b)] [] 0 0 w _
    refine jWp.blk mt 2 ?_
    show _ ∧ jWp 96 10 [some (jO x), some (jI a), some (jI n), some (jI b)] [jI (-1), jO x] 0 0 w _
    refine ⟨rfl, ?_⟩
    refine jWp.callv (as := [jO x, jI (-1)]) (rest := []) mt rfl rfl rfl ⟨rfl, jtg hX.X0⟩ ?_
    refine jCall.mono (C_farther (w := w) (j := 0) hX (by decide) (by decide)) (fun v9 w9 h9 => ?_)
    obtain ⟨rfl, h9⟩ := h9
    subst h9
    show jWp 96 13 [some (jO x), some (jI a), some (jI n), some (jI b)] [jJ (4000000000000000000 - (-1))] 0 0 (jW w (x + 362) 0 ((w.1 (x + 362) 0) + 1)) _
    refine jWp.lret mt rfl ⟨rfl, rfl⟩ rfl ?_
    refine ⟨fun c0 => ?_, fun c0 c1 => ?_, fun c0 c1 c2 => ?_, fun c0 c1 c2 => ?_⟩
    all_goals first
    | (exfalso; omega)
    | exact ⟨rfl, rfl⟩
    | exact ⟨_, len, why, left, hTR, Or.inr ⟨hk9, rfl, rfl⟩⟩
    | exact ⟨_, len, why, left, hTR, Or.inl ⟨hk9, by rw [if_pos (by omega)]; rfl, rfl, fun z g1 g2 g3 => (jW_f g2).trans (jW_f g2)⟩⟩
    | exact ⟨_, len, why, left, hTR, Or.inl ⟨hk9, by rw [if_neg (by omega)]; rfl, rfl, fun z g1 g2 g3 => (jW_f g2).trans (jW_f g2)⟩⟩
set_option maxHeartbeats 4000000 in
set_option maxRecDepth 20000 in
theorem C_common {w : jS} {x : Nat} (hX : CW w.2 x) {c : Nat} {R : Nat → Int} (hR : zRw R c) (hRW : cRW w x R c) {a : Int} (hra : r32 a) : jCall 98 [jO x, jI a] w (fun v w1 => ((¬ (0 ≤ a ∧ a < (c : Int))) → cno w x 0 (jI (-1)) v w1) ∧ (¬ (¬ (0 ≤ a ∧ a < (c : Int))) → ∃ (t : Nat → Int) (len : Nat) (why left : Int), zTR R a.toNat t len why left ∧ v = some (jI (zff (fun k => zg (t k) (t (k + 1)) ≠ 1) (len - 1) 0)) ∧ w1 = w)) := by
  have mt : jtb 98 = jT98 := rfl
  have hc4 := hR.2.1
  have hra1 : -2147483648 ≤ a ∧ a < 2147483648 := hra
  show jWp 98 0 [some (jO x), some (jI a)] [] 0 0 w _
  refine jWp.blk mt 2 ?_
  show _ ∧ jWp 98 2 [some (jO x), some (jI a)] [jI a, jO x] 0 0 w _
  refine ⟨rfl, ?_⟩
  refine jWp.callv (as := [jO x, jI a]) (rest := []) mt rfl rfl rfl ⟨rfl, jtg hX.X0⟩ ?_
  refine jCall.mono (C_isRow (w := w) hX hRW.1 hR.2.1 hra) (fun v9 w9 h9 => ?_)
  rcases h9 with ⟨rfl, h9, h1⟩ | ⟨rfl, h9, h1⟩ <;> subst w9
  · have h1 : 0 ≤ a ∧ a < (c : Int) := h1
    show jWp 98 5 [some (jO x), some (jI a)] [jI 1] 0 0 w _
    obtain ⟨a1, rfl⟩ : ∃ a1 : Nat, a = (a1 : Int) := ⟨a.toNat, by omega⟩
    show jWp 98 5 [some (jO x), some (jI (a1 : Int))] [jI 1] 0 0 w _
    obtain ⟨hlaw, hfig, hst, len, why, left, hlen, hwhy, hleft, hgr, hen⟩ := hRW.2 a1 (by omega)
    have hTR : zTR R a1 (w.1 (x + (365 + 6 * a1))) len why left := ⟨hgr, hen⟩
    have hTb := zTR_b hR (by omega) hTR
    have hRl := hR.2.2 a1 (by omega)
    show jWp 98 5 [some (jO x), some (jI (a1 : Int))] [jI 1] 0 0 w _
    refine jWp.ifc (b := false) mt rfl (by decide) rfl ?_
    show jWp 98 8 [some (jO x), some (jI (a1 : Int))] [] 0 0 w _
    refine jWp.blk mt 1 ?_
    show _ ∧ jWp 98 9 [some (jO x), some (jI (a1 : Int))] [jO x] 0 0 w _
    refine ⟨rfl, ?_⟩
    refine jWp.getR (pc' := 12) (o := (x + 1)) mt rfl rfl (jtg hX.X0) hX.R0 ?_
    show jWp 98 12 [some (jO x), some (jI (a1 : Int))] [jO (x + 1)] 0 0 w _
    refine jWp.blk mt 1 ?_
    show jWp 98 13 [some (jO x), some (jI (a1 : Int))] [jI (a1 : Int), jO (x + 1)] 0 0 w _
    refine jWp.aald (pc' := 14) (j := a1) (o := (x + (363 + 6 * a1))) mt rfl rfl (jrg hX.X1 (by decide) (by decide)) (by rw [b32_id (by omega) (by omega)] <;> omega) (jlt hX.X1 (by omega)) (hX.RR a1 (by omega)) ?_
    show jWp 98 14 [some (jO x), some (jI (a1 : Int))] [jO (x + (363 + 6 * a1))] 0 0 w _
    refine jWp.callv (as := [jO (x + (363 + 6 * a1))]) (rest := []) mt rfl rfl rfl ⟨rfl, jtg (hX.KR a1 (by omega))⟩ ?_
    refine jCall.mono (C_firstCommon (w := w) (r := x + (363 + 6 * a1)) (rt := x + (365 + 6 * a1)) (len := len) (hX.KR a1 (by omega)) (hX.KRt a1 (by omega)) (hX.RRt a1 (by omega)) hlen (by omega) hTb.2.2 (by omega)) (fun v9 w9 h9 => ?_)
    obtain ⟨rfl, h9⟩ := h9
    subst w9
    show jWp 98 17 [some (jO x), some (jI (a1 : Int))] [jI (zff (fun k => zg (w.1 (x + (365 + 6 * a1)) k) (w.1 (x + (365 + 6 * a1)) (k + 1)) ≠ 1) (len - 1) 0)] 0 0 w _
    refine jWp.blk mt 1 ?_
    show jWp 98 25 [some (jO x), some (jI (a1 : Int))] [jI (zff (fun k => zg (w.1 (x + (365 + 6 * a1)) k) (w.1 (x + (365 + 6 * a1)) (k + 1)) ≠ 1) (len - 1) 0)] 0 0 w _
    refine jWp.ireti mt rfl ⟨rfl, rfl⟩ rfl ?_
    refine ⟨fun c0 => ?_, fun c0 => ?_⟩
    all_goals first
    | (exfalso; omega)
    | exact ⟨rfl, rfl⟩
    | exact ⟨_, len, why, left, hTR, rfl, rfl⟩
  · have h1 : ¬ (0 ≤ a ∧ a < (c : Int)) := h1
    show jWp 98 5 [some (jO x), some (jI a)] [jI 0] 0 0 w _
    refine jWp.ifc (b := true) mt rfl (by decide) rfl ?_
    show jWp 98 20 [some (jO x), some (jI a)] [] 0 0 w _
    refine jWp.blk mt 2 ?_
    show _ ∧ jWp 98 22 [some (jO x), some (jI a)] [jI (-1), jO x] 0 0 w _
    refine ⟨rfl, ?_⟩
    refine jWp.callv (as := [jO x, jI (-1)]) (rest := []) mt rfl rfl rfl ⟨rfl, jtg hX.X0⟩ ?_
    refine jCall.mono (C_refuse (w := w) (j := 0) hX (by decide) (by decide)) (fun v9 w9 h9 => ?_)
    obtain ⟨rfl, h9⟩ := h9
    subst h9
    show jWp 98 25 [some (jO x), some (jI a)] [jI (-1)] 0 0 (jW w (x + 362) 0 ((w.1 (x + 362) 0) + 1)) _
    refine jWp.ireti mt rfl ⟨rfl, rfl⟩ rfl ?_
    refine ⟨fun c0 => ?_, fun c0 => ?_⟩
    all_goals first
    | (exfalso; omega)
    | exact ⟨rfl, rfl⟩
    | exact ⟨_, len, why, left, hTR, rfl, rfl⟩
set_option maxHeartbeats 4000000 in
set_option maxRecDepth 20000 in
theorem C_divided {w : jS} {x : Nat} (hX : CW w.2 x) {c : Nat} {R : Nat → Int} (hR : zRw R c) (hRW : cRW w x R c) {a : Int} (hra : r32 a) {d : Int} (hrd : r32 d) : jCall 99 [jO x, jI a, jI d] w (fun v w1 => ((¬ (0 ≤ a ∧ a < (c : Int))) → cno w x 0 (jI (-1)) v w1) ∧ (¬ (¬ (0 ≤ a ∧ a < (c : Int))) → (d < 2) → cno w x 3 (jI (-4)) v w1) ∧ (¬ (¬ (0 ≤ a ∧ a < (c : Int))) → ¬ (d < 2) → (9999 < d) → cno w x 5 (jI (-6)) v w1) ∧ (¬ (¬ (0 ≤ a ∧ a < (c : Int))) → ¬ (d < 2) → ¬ (9999 < d) → ∃ (t : Nat → Int) (len : Nat) (why left : Int), zTR R a.toNat t len why left ∧ v = some (jI (zff (fun k => Int.tmod (t k) d = 0) len 0)) ∧ w1 = w)) := by
  have mt : jtb 99 = jT99 := rfl
  have hc4 := hR.2.1
  have hra1 : -2147483648 ≤ a ∧ a < 2147483648 := hra
  have hrd1 : -2147483648 ≤ d ∧ d < 2147483648 := hrd
  show jWp 99 0 [some (jO x), some (jI a), some (jI d)] [] 0 0 w _
  refine jWp.blk mt 2 ?_
  show _ ∧ jWp 99 2 [some (jO x), some (jI a), some (jI d)] [jI a, jO x] 0 0 w _
  refine ⟨rfl, ?_⟩
  refine jWp.callv (as := [jO x, jI a]) (rest := []) mt rfl rfl rfl ⟨rfl, jtg hX.X0⟩ ?_
  refine jCall.mono (C_isRow (w := w) hX hRW.1 hR.2.1 hra) (fun v9 w9 h9 => ?_)
  rcases h9 with ⟨rfl, h9, h1⟩ | ⟨rfl, h9, h1⟩ <;> subst w9
  · have h1 : 0 ≤ a ∧ a < (c : Int) := h1
    show jWp 99 5 [some (jO x), some (jI a), some (jI d)] [jI 1] 0 0 w _
    obtain ⟨a1, rfl⟩ : ∃ a1 : Nat, a = (a1 : Int) := ⟨a.toNat, by omega⟩
    show jWp 99 5 [some (jO x), some (jI (a1 : Int)), some (jI d)] [jI 1] 0 0 w _
    obtain ⟨hlaw, hfig, hst, len, why, left, hlen, hwhy, hleft, hgr, hen⟩ := hRW.2 a1 (by omega)
    have hTR : zTR R a1 (w.1 (x + (365 + 6 * a1))) len why left := ⟨hgr, hen⟩
    have hTb := zTR_b hR (by omega) hTR
    have hRl := hR.2.2 a1 (by omega)
    show jWp 99 5 [some (jO x), some (jI (a1 : Int)), some (jI d)] [jI 1] 0 0 w _
    refine jWp.ifc (b := true) mt rfl (by decide) rfl ?_
    show jWp 99 14 [some (jO x), some (jI (a1 : Int)), some (jI d)] [] 0 0 w _
    refine jWp.blk mt 2 ?_
    show jWp 99 16 [some (jO x), some (jI (a1 : Int)), some (jI d)] [jI 2, jI d] 0 0 w _
    refine jWp.icmp (pc' := 19) mt rfl rfl (b32_id (by omega) (by omega)) (show b32 2 = 2 by decide) (fun h2 => ?_) (fun h2 => ?_)
    · have h2 : 2 ≤ d := h2
      refine jWp.blk mt 2 ?_
      show jWp 99 30 [some (jO x), some (jI (a1 : Int)), some (jI d)] [jI 9999, jI d] 0 0 w _
      refine jWp.icmp (pc' := 33) mt rfl rfl (b32_id (by omega) (by omega)) (show b32 9999 = 9999 by decide) (fun h3 => ?_) (fun h3 => ?_)
      · have h3 : d ≤ 9999 := h3
        refine jWp.blk mt 1 ?_
        show _ ∧ jWp 99 41 [some (jO x), some (jI (a1 : Int)), some (jI d)] [jO x] 0 0 w _
        refine ⟨rfl, ?_⟩
        refine jWp.getR (pc' := 44) (o := (x + 1)) mt rfl rfl (jtg hX.X0) hX.R0 ?_
        show jWp 99 44 [some (jO x), some (jI (a1 : Int)), some (jI d)] [jO (x + 1)] 0 0 w _
        refine jWp.blk mt 1 ?_
        show jWp 99 45 [some (jO x), some (jI (a1 : Int)), some (jI d)] [jI (a1 : Int), jO (x + 1)] 0 0 w _
        refine jWp.aald (pc' := 46) (j := a1) (o := (x + (363 + 6 * a1))) mt rfl rfl (jrg hX.X1 (by decide) (by decide)) (by rw [b32_id (by omega) (by omega)] <;> omega) (jlt hX.X1 (by omega)) (hX.RR a1 (by omega)) ?_
        show jWp 99 46 [some (jO x), some (jI (a1 : Int)), some (jI d)] [jO (x + (363 + 6 * a1))] 0 0 w _
        refine jWp.blk mt 1 ?_
        show jWp 99 47 [some (jO x), some (jI (a1 : Int)), some (jI d)] [jI d, jO (x + (363 + 6 * a1))] 0 0 w _
        refine jWp.callv (as := [jO (x + (363 + 6 * a1)), jI d]) (rest := []) mt rfl rfl rfl ⟨rfl, jtg (hX.KR a1 (by omega))⟩ ?_
        refine jCall.mono (C_firstMultiple (w := w) (r := x + (363 + 6 * a1)) (rt := x + (365 + 6 * a1)) (len := len) (hX.KR a1 (by omega)) (hX.KRt a1 (by omega)) (hX.RRt a1 (by omega)) hlen (by omega) hTb.2.2 (d := d) (by omega)) (fun v9 w9 h9 => ?_)
        obtain ⟨rfl, h9⟩ := h9
        subst w9
        show jWp 99 50 [some (jO x), some (jI (a1 : Int)), some (jI d)] [jI (zff (fun k => Int.tmod (w.1 (x + (365 + 6 * a1)) k) d = 0) len 0)] 0 0 w _
        refine jWp.ireti mt rfl ⟨rfl, rfl⟩ rfl ?_
        refine ⟨fun c0 => ?_, fun c0 c1 => ?_, fun c0 c1 c2 => ?_, fun c0 c1 c2 => ?_⟩
        all_goals first
        | (exfalso; omega)
        | exact ⟨rfl, rfl⟩
        | exact ⟨_, len, why, left, hTR, rfl, rfl⟩
      · have h3 : 9999 < d := h3
        refine jWp.blk mt 2 ?_
        show _ ∧ jWp 99 36 [some (jO x), some (jI (a1 : Int)), some (jI d)] [jI (-6), jO x] 0 0 w _
        refine ⟨rfl, ?_⟩
        refine jWp.callv (as := [jO x, jI (-6)]) (rest := []) mt rfl rfl rfl ⟨rfl, jtg hX.X0⟩ ?_
        refine jCall.mono (C_refuse (w := w) (j := 5) hX (by decide) (by decide)) (fun v9 w9 h9 => ?_)
        obtain ⟨rfl, h9⟩ := h9
        subst h9
        show jWp 99 39 [some (jO x), some (jI (a1 : Int)), some (jI d)] [jI (-6)] 0 0 (jW w (x + 362) 5 ((w.1 (x + 362) 5) + 1)) _
        refine jWp.ireti mt rfl ⟨rfl, rfl⟩ rfl ?_
        refine ⟨fun c0 => ?_, fun c0 c1 => ?_, fun c0 c1 c2 => ?_, fun c0 c1 c2 => ?_⟩
        all_goals first
        | (exfalso; omega)
        | exact ⟨rfl, rfl⟩
        | exact ⟨_, len, why, left, hTR, rfl, rfl⟩
    · have h2 : d < 2 := h2
      refine jWp.blk mt 2 ?_
      show _ ∧ jWp 99 22 [some (jO x), some (jI (a1 : Int)), some (jI d)] [jI (-4), jO x] 0 0 w _
      refine ⟨rfl, ?_⟩
      refine jWp.callv (as := [jO x, jI (-4)]) (rest := []) mt rfl rfl rfl ⟨rfl, jtg hX.X0⟩ ?_
      refine jCall.mono (C_refuse (w := w) (j := 3) hX (by decide) (by decide)) (fun v9 w9 h9 => ?_)
      obtain ⟨rfl, h9⟩ := h9
      subst h9
      show jWp 99 25 [some (jO x), some (jI (a1 : Int)), some (jI d)] [jI (-4)] 0 0 (jW w (x + 362) 3 ((w.1 (x + 362) 3) + 1)) _
      refine jWp.ireti mt rfl ⟨rfl, rfl⟩ rfl ?_
      refine ⟨fun c0 => ?_, fun c0 c1 => ?_, fun c0 c1 c2 => ?_, fun c0 c1 c2 => ?_⟩
      all_goals first
      | (exfalso; omega)
      | exact ⟨rfl, rfl⟩
      | exact ⟨_, len, why, left, hTR, rfl, rfl⟩
  · have h1 : ¬ (0 ≤ a ∧ a < (c : Int)) := h1
    show jWp 99 5 [some (jO x), some (jI a), some (jI d)] [jI 0] 0 0 w _
    refine jWp.ifc (b := false) mt rfl (by decide) rfl ?_
    show jWp 99 8 [some (jO x), some (jI a), some (jI d)] [] 0 0 w _
    refine jWp.blk mt 2 ?_
    show _ ∧ jWp 99 10 [some (jO x), some (jI a), some (jI d)] [jI (-1), jO x] 0 0 w _
    refine ⟨rfl, ?_⟩
    refine jWp.callv (as := [jO x, jI (-1)]) (rest := []) mt rfl rfl rfl ⟨rfl, jtg hX.X0⟩ ?_
    refine jCall.mono (C_refuse (w := w) (j := 0) hX (by decide) (by decide)) (fun v9 w9 h9 => ?_)
    obtain ⟨rfl, h9⟩ := h9
    subst h9
    show jWp 99 13 [some (jO x), some (jI a), some (jI d)] [jI (-1)] 0 0 (jW w (x + 362) 0 ((w.1 (x + 362) 0) + 1)) _
    refine jWp.ireti mt rfl ⟨rfl, rfl⟩ rfl ?_
    refine ⟨fun c0 => ?_, fun c0 c1 => ?_, fun c0 c1 c2 => ?_, fun c0 c1 c2 => ?_⟩
    all_goals first
    | (exfalso; omega)
    | exact ⟨rfl, rfl⟩
    | exact ⟨_, len, why, left, hTR, rfl, rfl⟩
set_option maxHeartbeats 4000000 in
set_option maxRecDepth 20000 in
theorem C_unlike {w : jS} {x : Nat} (hX : CW w.2 x) {c : Nat} {R : Nat → Int} (hR : zRw R c) (hRW : cRW w x R c) {a b : Int} (hra : r32 a) (hrb : r32 b) : jCall 100 [jO x, jI a, jI b] w (fun v w1 => ((¬ (0 ≤ a ∧ a < (c : Int)) ∨ ¬ (0 ≤ b ∧ b < (c : Int))) → cno w x 0 (jI (-1)) v w1) ∧ (¬ (¬ (0 ≤ a ∧ a < (c : Int)) ∨ ¬ (0 ≤ b ∧ b < (c : Int))) → ∃ (t : Nat → Int) (len : Nat) (why left : Int) (t' : Nat → Int) (len' : Nat) (why' left' : Int), zTR R a.toNat t len why left ∧ zTR R b.toNat t' len' why' left' ∧ v = some (jI (zff (fun k => ¬ (k < len ↔ k < len') ∨ (k < len ∧ t k ≠ t' k)) 60 0)) ∧ w1 = w)) := by
  have mt : jtb 100 = jT100 := rfl
  have hc4 := hR.2.1
  have hra1 : -2147483648 ≤ a ∧ a < 2147483648 := hra
  have hrb1 : -2147483648 ≤ b ∧ b < 2147483648 := hrb
  show jWp 100 0 [some (jO x), some (jI a), some (jI b)] [] 0 0 w _
  refine jWp.blk mt 2 ?_
  show _ ∧ jWp 100 2 [some (jO x), some (jI a), some (jI b)] [jI a, jO x] 0 0 w _
  refine ⟨rfl, ?_⟩
  refine jWp.callv (as := [jO x, jI a]) (rest := []) mt rfl rfl rfl ⟨rfl, jtg hX.X0⟩ ?_
  refine jCall.mono (C_isRow (w := w) hX hRW.1 hR.2.1 hra) (fun v9 w9 h9 => ?_)
  rcases h9 with ⟨rfl, h9, h1⟩ | ⟨rfl, h9, h1⟩ <;> subst w9
  · have h1 : 0 ≤ a ∧ a < (c : Int) := h1
    show jWp 100 5 [some (jO x), some (jI a), some (jI b)] [jI 1] 0 0 w _
    obtain ⟨a1, rfl⟩ : ∃ a1 : Nat, a = (a1 : Int) := ⟨a.toNat, by omega⟩
    show jWp 100 5 [some (jO x), some (jI (a1 : Int)), some (jI b)] [jI 1] 0 0 w _
    obtain ⟨hlaw, hfig, hst, len, why, left, hlen, hwhy, hleft, hgr, hen⟩ := hRW.2 a1 (by omega)
    have hTR : zTR R a1 (w.1 (x + (365 + 6 * a1))) len why left := ⟨hgr, hen⟩
    have hTb := zTR_b hR (by omega) hTR
    have hRl := hR.2.2 a1 (by omega)
    show jWp 100 5 [some (jO x), some (jI (a1 : Int)), some (jI b)] [jI 1] 0 0 w _
    refine jWp.ifc (b := false) mt rfl (by decide) rfl ?_
    show jWp 100 8 [some (jO x), some (jI (a1 : Int)), some (jI b)] [] 0 0 w _
    refine jWp.blk mt 2 ?_
    show _ ∧ jWp 100 10 [some (jO x), some (jI (a1 : Int)), some (jI b)] [jI b, jO x] 0 0 w _
    refine ⟨rfl, ?_⟩
    refine jWp.callv (as := [jO x, jI b]) (rest := []) mt rfl rfl rfl ⟨rfl, jtg hX.X0⟩ ?_
    refine jCall.mono (C_isRow (w := w) hX hRW.1 hR.2.1 hrb) (fun v9 w9 h9 => ?_)
    rcases h9 with ⟨rfl, h9, h2⟩ | ⟨rfl, h9, h2⟩ <;> subst w9
    · have h2 : 0 ≤ b ∧ b < (c : Int) := h2
      show jWp 100 13 [some (jO x), some (jI (a1 : Int)), some (jI b)] [jI 1] 0 0 w _
      obtain ⟨b1, rfl⟩ : ∃ b1 : Nat, b = (b1 : Int) := ⟨b.toNat, by omega⟩
      show jWp 100 13 [some (jO x), some (jI (a1 : Int)), some (jI (b1 : Int))] [jI 1] 0 0 w _
      obtain ⟨hlaw2, hfig2, hst2, len2, why2, left2, hlen2, hwhy2, hleft2, hgr2, hen2⟩ := hRW.2 b1 (by omega)
      have hTR2 : zTR R b1 (w.1 (x + (365 + 6 * b1))) len2 why2 left2 := ⟨hgr2, hen2⟩
      have hTb2 := zTR_b hR (by omega) hTR2
      have hRl2 := hR.2.2 b1 (by omega)
      show jWp 100 13 [some (jO x), some (jI (a1 : Int)), some (jI (b1 : Int))] [jI 1] 0 0 w _
      refine jWp.ifc (b := true) mt rfl (by decide) rfl ?_
      show jWp 100 22 [some (jO x), some (jI (a1 : Int)), some (jI (b1 : Int))] [] 0 0 w _
      refine jWp.blk mt 1 ?_
      show _ ∧ jWp 100 23 [some (jO x), some (jI (a1 : Int)), some (jI (b1 : Int))] [jO x] 0 0 w _
      refine ⟨rfl, ?_⟩
      refine jWp.getR (pc' := 26) (o := (x + 1)) mt rfl rfl (jtg hX.X0) hX.R0 ?_
      show jWp 100 26 [some (jO x), some (jI (a1 : Int)), some (jI (b1 : Int))] [jO (x + 1)] 0 0 w _
      refine jWp.blk mt 1 ?_
      show jWp 100 27 [some (jO x), some (jI (a1 : Int)), some (jI (b1 : Int))] [jI (a1 : Int), jO (x + 1)] 0 0 w _
      refine jWp.aald (pc' := 28) (j := a1) (o := (x + (363 + 6 * a1))) mt rfl rfl (jrg hX.X1 (by decide) (by decide)) (by rw [b32_id (by omega) (by omega)] <;> omega) (jlt hX.X1 (by omega)) (hX.RR a1 (by omega)) ?_
      show jWp 100 28 [some (jO x), some (jI (a1 : Int)), some (jI (b1 : Int))] [jO (x + (363 + 6 * a1))] 0 0 w _
      refine jWp.blk mt 1 ?_
      show _ ∧ jWp 100 29 [some (jO x), some (jI (a1 : Int)), some (jI (b1 : Int))] [jO x, jO (x + (363 + 6 * a1))] 0 0 w _
      refine ⟨rfl, ?_⟩
      refine jWp.getR (pc' := 32) (o := (x + 1)) mt rfl rfl (jtg hX.X0) hX.R0 ?_
      show jWp 100 32 [some (jO x), some (jI (a1 : Int)), some (jI (b1 : Int))] [jO (x + 1), jO (x + (363 + 6 * a1))] 0 0 w _
      refine jWp.blk mt 1 ?_
      show jWp 100 33 [some (jO x), some (jI (a1 : Int)), some (jI (b1 : Int))] [jI (b1 : Int), jO (x + 1), jO (x + (363 + 6 * a1))] 0 0 w _
      refine jWp.aald (pc' := 34) (j := b1) (o := (x + (363 + 6 * b1))) mt rfl rfl (jrg hX.X1 (by decide) (by decide)) (by rw [b32_id (by omega) (by omega)] <;> omega) (jlt hX.X1 (by omega)) (hX.RR b1 (by omega)) ?_
      show jWp 100 34 [some (jO x), some (jI (a1 : Int)), some (jI (b1 : Int))] [jO (x + (363 + 6 * b1)), jO (x + (363 + 6 * a1))] 0 0 w _
      refine jWp.callv (as := [jO (x + (363 + 6 * a1)), jO (x + (363 + 6 * b1))]) (rest := []) mt rfl rfl rfl ⟨rfl, jtg (hX.KR a1 (by omega))⟩ ?_
      refine jCall.mono (C_firstUnlike (w := w) (r := x + (363 + 6 * a1)) (rt := x + (365 + 6 * a1)) (len := len) (hX.KR a1 (by omega)) (hX.KRt a1 (by omega)) (hX.RRt a1 (by omega)) hlen (by omega) hTb.2.2 (r2 := x + (363 + 6 * b1)) (rt2 := x + (365 + 6 * b1)) (len2 := len2) (hX.KR b1 (by omega)) (hX.KRt b1 (by omega)) (hX.RRt b1 (by omega)) hlen2 (by omega) hTb2.2.2) (fun v9 w9 h9 => ?_)
      obtain ⟨rfl, h9⟩ := h9
      subst w9
      show jWp 100 37 [some (jO x), some (jI (a1 : Int)), some (jI (b1 : Int))] [jI (zff (fun k => ¬ (k < len ↔ k < len2) ∨ (k < len ∧ w.1 (x + (365 + 6 * a1)) k ≠ w.1 (x + (365 + 6 * b1)) k)) 60 0)] 0 0 w _
      refine jWp.ireti mt rfl ⟨rfl, rfl⟩ rfl ?_
      refine ⟨fun c0 => ?_, fun c0 => ?_⟩
      all_goals first
      | (exfalso; omega)
      | exact ⟨rfl, rfl⟩
      | exact ⟨_, len, why, left, _, len2, why2, left2, hTR, hTR2, rfl, rfl⟩
    · have h2 : ¬ (0 ≤ b ∧ b < (c : Int)) := h2
      show jWp 100 13 [some (jO x), some (jI (a1 : Int)), some (jI b)] [jI 0] 0 0 w _
      refine jWp.ifc (b := false) mt rfl (by decide) rfl ?_
      show jWp 100 16 [some (jO x), some (jI (a1 : Int)), some (jI b)] [] 0 0 w _
      refine jWp.blk mt 2 ?_
      show _ ∧ jWp 100 18 [some (jO x), some (jI (a1 : Int)), some (jI b)] [jI (-1), jO x] 0 0 w _
      refine ⟨rfl, ?_⟩
      refine jWp.callv (as := [jO x, jI (-1)]) (rest := []) mt rfl rfl rfl ⟨rfl, jtg hX.X0⟩ ?_
      refine jCall.mono (C_refuse (w := w) (j := 0) hX (by decide) (by decide)) (fun v9 w9 h9 => ?_)
      obtain ⟨rfl, h9⟩ := h9
      subst h9
      show jWp 100 21 [some (jO x), some (jI (a1 : Int)), some (jI b)] [jI (-1)] 0 0 (jW w (x + 362) 0 ((w.1 (x + 362) 0) + 1)) _
      refine jWp.ireti mt rfl ⟨rfl, rfl⟩ rfl ?_
      refine ⟨fun c0 => ?_, fun c0 => ?_⟩
      all_goals first
      | (exfalso; omega)
      | exact ⟨rfl, rfl⟩
      | exact ⟨_, len, why, left, _, len2, why2, left2, hTR, hTR2, rfl, rfl⟩
  · have h1 : ¬ (0 ≤ a ∧ a < (c : Int)) := h1
    show jWp 100 5 [some (jO x), some (jI a), some (jI b)] [jI 0] 0 0 w _
    refine jWp.ifc (b := true) mt rfl (by decide) rfl ?_
    show jWp 100 16 [some (jO x), some (jI a), some (jI b)] [] 0 0 w _
    refine jWp.blk mt 2 ?_
    show _ ∧ jWp 100 18 [some (jO x), some (jI a), some (jI b)] [jI (-1), jO x] 0 0 w _
    refine ⟨rfl, ?_⟩
    refine jWp.callv (as := [jO x, jI (-1)]) (rest := []) mt rfl rfl rfl ⟨rfl, jtg hX.X0⟩ ?_
    refine jCall.mono (C_refuse (w := w) (j := 0) hX (by decide) (by decide)) (fun v9 w9 h9 => ?_)
    obtain ⟨rfl, h9⟩ := h9
    subst h9
    show jWp 100 21 [some (jO x), some (jI a), some (jI b)] [jI (-1)] 0 0 (jW w (x + 362) 0 ((w.1 (x + 362) 0) + 1)) _
    refine jWp.ireti mt rfl ⟨rfl, rfl⟩ rfl ?_
    refine ⟨fun c0 => ?_, fun c0 => ?_⟩
    all_goals first
    | (exfalso; omega)
    | exact ⟨rfl, rfl⟩
    | exact ⟨_, len, why, left, _, len2, why2, left2, hTR, hTR2, rfl, rfl⟩
end
section
theorem cRo_k {w w' : jS} {r rs rt : Nat} {law f : Int} {s : Nat → Int} (h0 : w'.1 r = w.1 r) (h1 : w'.1 rs = w.1 rs) (h2 : w'.1 rt = w.1 rt) (h : cRo w r rs rt law f s) : cRo w' r rs rt law f s := by
  unfold cRo
  rw [h0, h1, h2]
  exact h
set_option maxHeartbeats 4000000 in
set_option maxRecDepth 20000 in
theorem C_fsame {w : jS} {a b : Nat} {u t u2 t2 : Int} (ha : w.2.1 a = (2, 0)) (hb : w.2.1 b = (2, 0)) (hu : w.1 a 0 = u) (ht : w.1 a 1 = t) (hu2 : w.1 b 0 = u2) (ht2 : w.1 b 1 = t2) (ru : -200000000000000000 ≤ u ∧ u ≤ 200000000000000000) (rt : -200000000000000000 ≤ t ∧ t ≤ 200000000000000000) (ru2 : -200000000000000000 ≤ u2 ∧ u2 ≤ 200000000000000000) (rt2 : -200000000000000000 ≤ t2 ∧ t2 ≤ 200000000000000000) : jCall 5 [jO a, jO b] w (jvb (u = u2 ∧ t = t2) w) := by
  have mt : jtb 5 = jT5 := rfl
  show jWp 5 0 [some (jO a), some (jO b)] [] 0 0 w _
  refine jWp.blk mt 1 ?_
  show _ ∧ jWp 5 1 [some (jO a), some (jO b)] [jO a] 0 0 w _
  refine ⟨rfl, ?_⟩
  refine jWp.getJ (pc' := 4) mt rfl rfl (jtg ha) ?_
  rw [show (w.1 a 0) = u from hu]
  show jWp 5 4 [some (jO a), some (jO b)] [jJ u] 0 0 w _
  refine jWp.blk mt 1 ?_
  show _ ∧ jWp 5 5 [some (jO a), some (jO b)] [jO b, jJ u] 0 0 w _
  refine ⟨rfl, ?_⟩
  refine jWp.getJ (pc' := 8) mt rfl rfl (jtg hb) ?_
  rw [show (w.1 b 0) = u2 from hu2]
  show jWp 5 8 [some (jO a), some (jO b)] [jJ u2, jJ u] 0 0 w _
  refine jWp.lcmp (pc' := 12) mt rfl rfl rfl (b64_id (by omega) (by omega)) (b64_id (by omega) (by omega)) (fun h1 => ?_) (fun h1 => ?_)
  · have h1 : u ≠ u2 := h1
    refine jWp.blk mt 1 ?_
    show jWp 5 29 [some (jO a), some (jO b)] [jI 0] 0 0 w _
    refine jWp.iretz mt rfl ⟨rfl, rfl⟩ rfl (Or.inl rfl) ?_
    first
    | exact Or.inl ⟨rfl, rfl, by assumption, by assumption⟩
    | exact Or.inr ⟨rfl, rfl, fun g => absurd g.1 (by assumption)⟩
    | exact Or.inr ⟨rfl, rfl, fun g => absurd g.2 (by assumption)⟩
  · have h1 : u = u2 := h1
    refine jWp.blk mt 1 ?_
    show _ ∧ jWp 5 13 [some (jO a), some (jO b)] [jO a] 0 0 w _
    refine ⟨rfl, ?_⟩
    refine jWp.getJ (pc' := 16) mt rfl rfl (jtg ha) ?_
    rw [show (w.1 a 1) = t from ht]
    show jWp 5 16 [some (jO a), some (jO b)] [jJ t] 0 0 w _
    refine jWp.blk mt 1 ?_
    show _ ∧ jWp 5 17 [some (jO a), some (jO b)] [jO b, jJ t] 0 0 w _
    refine ⟨rfl, ?_⟩
    refine jWp.getJ (pc' := 20) mt rfl rfl (jtg hb) ?_
    rw [show (w.1 b 1) = t2 from ht2]
    show jWp 5 20 [some (jO a), some (jO b)] [jJ t2, jJ t] 0 0 w _
    refine jWp.lcmp (pc' := 24) mt rfl rfl rfl (b64_id (by omega) (by omega)) (b64_id (by omega) (by omega)) (fun h2 => ?_) (fun h2 => ?_)
    · have h2 : t ≠ t2 := h2
      refine jWp.blk mt 1 ?_
      show jWp 5 29 [some (jO a), some (jO b)] [jI 0] 0 0 w _
      refine jWp.iretz mt rfl ⟨rfl, rfl⟩ rfl (Or.inl rfl) ?_
      first
      | exact Or.inl ⟨rfl, rfl, by assumption, by assumption⟩
      | exact Or.inr ⟨rfl, rfl, fun g => absurd g.1 (by assumption)⟩
      | exact Or.inr ⟨rfl, rfl, fun g => absurd g.2 (by assumption)⟩
    · have h2 : t = t2 := h2
      refine jWp.blk mt 2 ?_
      show jWp 5 29 [some (jO a), some (jO b)] [jI 1] 0 0 w _
      refine jWp.iretz mt rfl ⟨rfl, rfl⟩ rfl (Or.inr rfl) ?_
      first
      | exact Or.inl ⟨rfl, rfl, by assumption, by assumption⟩
      | exact Or.inr ⟨rfl, rfl, fun g => absurd g.1 (by assumption)⟩
      | exact Or.inr ⟨rfl, rfl, fun g => absurd g.2 (by assumption)⟩
theorem and_no {a b : Prop} (h : a ∧ b) : ¬ (¬ a ∨ ¬ b) := fun g => g.elim (fun z => z h.1) (fun z => z h.2)
theorem cq_t {w w1 w2 : jS} {x : Nat} (h : cq w x w1) (g : cq w1 x w2) : cq w x w2 := ⟨g.1.trans h.1, fun b h1 h2 h3 => (g.2 b h1 h2 h3).trans (h.2 b h1 h2 h3)⟩
set_option maxHeartbeats 4000000 in
set_option maxRecDepth 20000 in
theorem C_stays {w : jS} {x : Nat} (hX : CW w.2 x) {c : Nat} {R : Nat → Int} (hR : zRw R c) (hRW : cRW w x R c) {a : Int} (hra : r32 a) : jCall 97 [jO x, jI a] w (fun v w1 => ((¬ (0 ≤ a ∧ a < (c : Int))) → cno w x 0 (jI (-1)) v w1) ∧ (¬ (¬ (0 ≤ a ∧ a < (c : Int))) → ∃ (t : Nat → Int) (len : Nat) (why left : Int), zTR R a.toNat t len why left ∧ ((zkp (R (1 + 10 * a.toNat)) t len 0 ∧ v = some (jI (zfs (fun k => zkp (R (1 + 10 * a.toNat)) (t) len k) (fun k => (zu (zku (R (1 + 10 * a.toNat)) (R (2 + 10 * a.toNat)) (t) k) (zkd (R (1 + 10 * a.toNat)) (t) k)) ≠ (zu (zku (R (1 + 10 * a.toNat)) (R (2 + 10 * a.toNat)) (t) 0) (zkd (R (1 + 10 * a.toNat)) (t) 0)) ∨ (zv (zku (R (1 + 10 * a.toNat)) (R (2 + 10 * a.toNat)) (t) k) (zkd (R (1 + 10 * a.toNat)) (t) k)) ≠ (zv (zku (R (1 + 10 * a.toNat)) (R (2 + 10 * a.toNat)) (t) 0) (zkd (R (1 + 10 * a.toNat)) (t) 0))) 59 1)) ∧ cq w x w1) ∨ (¬ zkp (R (1 + 10 * a.toNat)) t len 0 ∧ cno w x 2 (jI (-3)) v w1)))) := by
  have mt : jtb 97 = jT97 := rfl
  have hc4 := hR.2.1
  have hra1 : -2147483648 ≤ a ∧ a < 2147483648 := hra
  show jWp 97 0 [some (jO x), some (jI a), none] [] 0 0 w _
  refine jWp.blk mt 2 ?_
  show _ ∧ jWp 97 2 [some (jO x), some (jI a), none] [jI a, jO x] 0 0 w _
  refine ⟨rfl, ?_⟩
  refine jWp.callv (as := [jO x, jI a]) (rest := []) mt rfl rfl rfl ⟨rfl, jtg hX.X0⟩ ?_
  refine jCall.mono (C_isRow (w := w) hX hRW.1 hR.2.1 hra) (fun v9 w9 h9 => ?_)
  rcases h9 with ⟨rfl, h9, h1⟩ | ⟨rfl, h9, h1⟩ <;> subst w9
  · have h1 : 0 ≤ a ∧ a < (c : Int) := h1
    show jWp 97 5 [some (jO x), some (jI a), none] [jI 1] 0 0 w _
    obtain ⟨a1, rfl⟩ : ∃ a1 : Nat, a = (a1 : Int) := ⟨a.toNat, by omega⟩
    show jWp 97 5 [some (jO x), some (jI (a1 : Int)), none] [jI 1] 0 0 w _
    obtain ⟨hlaw, hfig, hst, len, why, left, hlen, hwhy, hleft, hgr, hen⟩ := hRW.2 a1 (by omega)
    have hTR : zTR R a1 (w.1 (x + (365 + 6 * a1))) len why left := ⟨hgr, hen⟩
    have hTb := zTR_b hR (by omega) hTR
    have hRl := hR.2.2 a1 (by omega)
    show jWp 97 5 [some (jO x), some (jI (a1 : Int)), none] [jI 1] 0 0 w _
    refine jWp.ifc (b := true) mt rfl (by decide) rfl ?_
    show jWp 97 14 [some (jO x), some (jI (a1 : Int)), none] [] 0 0 w _
    refine jWp.blk mt 1 ?_
    show _ ∧ jWp 97 15 [some (jO x), some (jI (a1 : Int)), none] [jO x] 0 0 w _
    refine ⟨rfl, ?_⟩
    refine jWp.getR (pc' := 18) (o := (x + 1)) mt rfl rfl (jtg hX.X0) hX.R0 ?_
    show jWp 97 18 [some (jO x), some (jI (a1 : Int)), none] [jO (x + 1)] 0 0 w _
    refine jWp.blk mt 1 ?_
    show jWp 97 19 [some (jO x), some (jI (a1 : Int)), none] [jI (a1 : Int), jO (x + 1)] 0 0 w _
    refine jWp.aald (pc' := 20) (j := a1) (o := (x + (363 + 6 * a1))) mt rfl rfl (jrg hX.X1 (by decide) (by decide)) (by rw [b32_id (by omega) (by omega)] <;> omega) (jlt hX.X1 (by omega)) (hX.RR a1 (by omega)) ?_
    show jWp 97 20 [some (jO x), some (jI (a1 : Int)), none] [jO (x + (363 + 6 * a1))] 0 0 w _
    refine jWp.blk mt 2 ?_
    show _ ∧ jWp 97 22 [some (jO x), some (jI (a1 : Int)), none] [jO x, jI 0, jO (x + (363 + 6 * a1))] 0 0 w _
    refine ⟨rfl, ?_⟩
    refine jWp.getR (pc' := 25) (o := (x + 361)) mt rfl rfl (jtg hX.X0) hX.R13 ?_
    show jWp 97 25 [some (jO x), some (jI (a1 : Int)), none] [jO (x + 361), jI 0, jO (x + (363 + 6 * a1))] 0 0 w _
    refine jWp.callv (as := [jO (x + (363 + 6 * a1)), jI 0, jO (x + 361)]) (rest := []) mt rfl rfl rfl ⟨rfl, jtg (hX.KR a1 (by omega))⟩ ?_
    refine jCall.mono (C_keep (w := w) (r := x + (363 + 6 * a1)) (rt := x + (365 + 6 * a1)) (len := len) (hX.KR a1 (by omega)) (hX.KRt a1 (by omega)) (hX.RRt a1 (by omega)) hlen (by omega) hTb.2.2 (fk := x + 361) (n := 0) hX.X361 hlaw hfig hRl.1.1 hRl.1.2 hRl.2.1 (by omega)) (fun v9 w9 h9 => ?_)
    rcases h9 with ⟨rfl, hk0, hw9, hub0, hvb0⟩ | ⟨rfl, hk0, hw9⟩ <;> subst w9
    · have hk9' := hk0
      show jWp 97 28 [some (jO x), some (jI (a1 : Int)), none] [jI 1] 0 0 (jW (jW w (x + 361) 0 (zu (zku (R (1 + 10 * a1)) (R (2 + 10 * a1)) (w.1 (x + (365 + 6 * a1))) 0) (zkd (R (1 + 10 * a1)) (w.1 (x + (365 + 6 * a1))) 0))) (x + 361) 1 (zv (zku (R (1 + 10 * a1)) (R (2 + 10 * a1)) (w.1 (x + (365 + 6 * a1))) 0) (zkd (R (1 + 10 * a1)) (w.1 (x + (365 + 6 * a1))) 0))) _
      refine jWp.ifc (b := true) mt rfl (by decide) rfl ?_
      show jWp 97 38 [some (jO x), some (jI (a1 : Int)), none] [] 0 0 (jW (jW w (x + 361) 0 (zu (zku (R (1 + 10 * a1)) (R (2 + 10 * a1)) (w.1 (x + (365 + 6 * a1))) 0) (zkd (R (1 + 10 * a1)) (w.1 (x + (365 + 6 * a1))) 0))) (x + 361) 1 (zv (zku (R (1 + 10 * a1)) (R (2 + 10 * a1)) (w.1 (x + (365 + 6 * a1))) 0) (zkd (R (1 + 10 * a1)) (w.1 (x + (365 + 6 * a1))) 0))) _
      refine jWp.blk mt 2 ?_
      show jWp 97 40 [some (jO x), some (jI (a1 : Int)), some (jI 1)] [] 0 0 (jW (jW w (x + 361) 0 (zu (zku (R (1 + 10 * a1)) (R (2 + 10 * a1)) (w.1 (x + (365 + 6 * a1))) 0) (zkd (R (1 + 10 * a1)) (w.1 (x + (365 + 6 * a1))) 0))) (x + 361) 1 (zv (zku (R (1 + 10 * a1)) (R (2 + 10 * a1)) (w.1 (x + (365 + 6 * a1))) 0) (zkd (R (1 + 10 * a1)) (w.1 (x + (365 + 6 * a1))) 0))) _
      have lp2 : ∀ (N : Nat) (n : Nat) (M1 : Nat → Nat → Int) (hn : 1 ≤ n ∧ n ≤ 60) (hcq : cq w x ((M1, w.2) : jS)) (hro : M1 (x + (363 + 6 * a1)) = w.1 (x + (363 + 6 * a1))) (hrt : M1 (x + (365 + 6 * a1)) = w.1 (x + (365 + 6 * a1))) (hm0 : M1 (x + 361) 0 = (zu (zku (R (1 + 10 * a1)) (R (2 + 10 * a1)) (w.1 (x + (365 + 6 * a1))) 0) (zkd (R (1 + 10 * a1)) (w.1 (x + (365 + 6 * a1))) 0))) (hm1 : M1 (x + 361) 1 = (zv (zku (R (1 + 10 * a1)) (R (2 + 10 * a1)) (w.1 (x + (365 + 6 * a1))) 0) (zkd (R (1 + 10 * a1)) (w.1 (x + (365 + 6 * a1))) 0))) (hz : zfs (fun k => zkp (R (1 + 10 * a1)) (w.1 (x + (365 + 6 * a1))) len k) (fun k => (zu (zku (R (1 + 10 * a1)) (R (2 + 10 * a1)) (w.1 (x + (365 + 6 * a1))) k) (zkd (R (1 + 10 * a1)) (w.1 (x + (365 + 6 * a1))) k)) ≠ (zu (zku (R (1 + 10 * a1)) (R (2 + 10 * a1)) (w.1 (x + (365 + 6 * a1))) 0) (zkd (R (1 + 10 * a1)) (w.1 (x + (365 + 6 * a1))) 0)) ∨ (zv (zku (R (1 + 10 * a1)) (R (2 + 10 * a1)) (w.1 (x + (365 + 6 * a1))) k) (zkd (R (1 + 10 * a1)) (w.1 (x + (365 + 6 * a1))) k)) ≠ (zv (zku (R (1 + 10 * a1)) (R (2 + 10 * a1)) (w.1 (x + (365 + 6 * a1))) 0) (zkd (R (1 + 10 * a1)) (w.1 (x + (365 + 6 * a1))) 0))) (60 - n) n = zfs (fun k => zkp (R (1 + 10 * a1)) (w.1 (x + (365 + 6 * a1))) len k) (fun k => (zu (zku (R (1 + 10 * a1)) (R (2 + 10 * a1)) (w.1 (x + (365 + 6 * a1))) k) (zkd (R (1 + 10 * a1)) (w.1 (x + (365 + 6 * a1))) k)) ≠ (zu (zku (R (1 + 10 * a1)) (R (2 + 10 * a1)) (w.1 (x + (365 + 6 * a1))) 0) (zkd (R (1 + 10 * a1)) (w.1 (x + (365 + 6 * a1))) 0)) ∨ (zv (zku (R (1 + 10 * a1)) (R (2 + 10 * a1)) (w.1 (x + (365 + 6 * a1))) k) (zkd (R (1 + 10 * a1)) (w.1 (x + (365 + 6 * a1))) k)) ≠ (zv (zku (R (1 + 10 * a1)) (R (2 + 10 * a1)) (w.1 (x + (365 + 6 * a1))) 0) (zkd (R (1 + 10 * a1)) (w.1 (x + (365 + 6 * a1))) 0))) 59 1), 60 - n < N → jWp 97 40 [some (jO x), some (jI (a1 : Int)), some (jI (n : Int))] [] 0 0 (M1, w.2) (fun v w1 => ((¬ (0 ≤ (a1 : Int) ∧ (a1 : Int) < (c : Int))) → cno w x 0 (jI (-1)) v w1) ∧ (¬ (¬ (0 ≤ (a1 : Int) ∧ (a1 : Int) < (c : Int))) → ∃ (t : Nat → Int) (len : Nat) (why left : Int), zTR R (a1 : Int).toNat t len why left ∧ ((zkp (R (1 + 10 * (a1 : Int).toNat)) t len 0 ∧ v = some (jI (zfs (fun k => zkp (R (1 + 10 * (a1 : Int).toNat)) (t) len k) (fun k => (zu (zku (R (1 + 10 * (a1 : Int).toNat)) (R (2 + 10 * (a1 : Int).toNat)) (t) k) (zkd (R (1 + 10 * (a1 : Int).toNat)) (t) k)) ≠ (zu (zku (R (1 + 10 * (a1 : Int).toNat)) (R (2 + 10 * (a1 : Int).toNat)) (t) 0) (zkd (R (1 + 10 * (a1 : Int).toNat)) (t) 0)) ∨ (zv (zku (R (1 + 10 * (a1 : Int).toNat)) (R (2 + 10 * (a1 : Int).toNat)) (t) k) (zkd (R (1 + 10 * (a1 : Int).toNat)) (t) k)) ≠ (zv (zku (R (1 + 10 * (a1 : Int).toNat)) (R (2 + 10 * (a1 : Int).toNat)) (t) 0) (zkd (R (1 + 10 * (a1 : Int).toNat)) (t) 0))) 59 1)) ∧ cq w x w1) ∨ (¬ zkp (R (1 + 10 * (a1 : Int).toNat)) t len 0 ∧ cno w x 2 (jI (-3)) v w1)))) := by
        intro N
        induction N with
        | zero => intro n M1 hn hcq hro hrt hm0 hm1 hz hm; omega
        | succ N ih3 =>
          intro n M1 hn hcq hro hrt hm0 hm1 hz hm
          refine jWp.blk mt 2 ?_
          show jWp 97 43 [some (jO x), some (jI (a1 : Int)), some (jI (n : Int))] [jI 60, jI (n : Int)] 0 0 (M1, w.2) _
          refine jWp.icmp (pc' := 46) mt rfl rfl (b32_id (by omega) (by omega)) (show b32 60 = 60 by decide) (fun h4 => ?_) (fun h4 => ?_)
          · have h4 : 60 ≤ (n : Int) := h4
            refine jWp.blk mt 1 ?_
            show jWp 97 87 [some (jO x), some (jI (a1 : Int)), some (jI (n : Int))] [jI (-9)] 0 0 (M1, w.2) _
            refine jWp.ireti mt rfl ⟨rfl, rfl⟩ rfl ?_
            refine ⟨fun c0 => ?_, fun c0 => ?_⟩
            · exfalso; omega
            · exact ⟨_, len, why, left, hTR, Or.inl ⟨hk0, congrArg (fun z => some (jI z)) ((show (-9 : Int) = (zfs (fun k => zkp (R (1 + 10 * a1)) (w.1 (x + (365 + 6 * a1))) len k) (fun k => (zu (zku (R (1 + 10 * a1)) (R (2 + 10 * a1)) (w.1 (x + (365 + 6 * a1))) k) (zkd (R (1 + 10 * a1)) (w.1 (x + (365 + 6 * a1))) k)) ≠ (zu (zku (R (1 + 10 * a1)) (R (2 + 10 * a1)) (w.1 (x + (365 + 6 * a1))) 0) (zkd (R (1 + 10 * a1)) (w.1 (x + (365 + 6 * a1))) 0)) ∨ (zv (zku (R (1 + 10 * a1)) (R (2 + 10 * a1)) (w.1 (x + (365 + 6 * a1))) k) (zkd (R (1 + 10 * a1)) (w.1 (x + (365 + 6 * a1))) k)) ≠ (zv (zku (R (1 + 10 * a1)) (R (2 + 10 * a1)) (w.1 (x + (365 + 6 * a1))) 0) (zkd (R (1 + 10 * a1)) (w.1 (x + (365 + 6 * a1))) 0))) (60 - n) n) from by first | (rw [show 60 - n = 0 by omega]; rfl) | exact (zfs_n hk9).symm).trans hz), hcq⟩⟩
          · have h4 : (n : Int) < 60 := h4
            refine jWp.blk mt 1 ?_
            show _ ∧ jWp 97 47 [some (jO x), some (jI (a1 : Int)), some (jI (n : Int))] [jO x] 0 0 (M1, w.2) _
            refine ⟨rfl, ?_⟩
            refine jWp.getR (pc' := 50) (o := (x + 1)) mt rfl rfl (jtg hX.X0) hX.R0 ?_
            show jWp 97 50 [some (jO x), some (jI (a1 : Int)), some (jI (n : Int))] [jO (x + 1)] 0 0 (M1, w.2) _
            refine jWp.blk mt 1 ?_
            show jWp 97 51 [some (jO x), some (jI (a1 : Int)), some (jI (n : Int))] [jI (a1 : Int), jO (x + 1)] 0 0 (M1, w.2) _
            refine jWp.aald (pc' := 52) (j := a1) (o := (x + (363 + 6 * a1))) mt rfl rfl (jrg hX.X1 (by decide) (by decide)) (by rw [b32_id (by omega) (by omega)] <;> omega) (jlt hX.X1 (by omega)) (hX.RR a1 (by omega)) ?_
            show jWp 97 52 [some (jO x), some (jI (a1 : Int)), some (jI (n : Int))] [jO (x + (363 + 6 * a1))] 0 0 (M1, w.2) _
            refine jWp.blk mt 2 ?_
            show _ ∧ jWp 97 54 [some (jO x), some (jI (a1 : Int)), some (jI (n : Int))] [jO x, jI (n : Int), jO (x + (363 + 6 * a1))] 0 0 (M1, w.2) _
            refine ⟨rfl, ?_⟩
            refine jWp.getR (pc' := 57) (o := (x + 360)) mt rfl rfl (jtg hX.X0) hX.R12 ?_
            show jWp 97 57 [some (jO x), some (jI (a1 : Int)), some (jI (n : Int))] [jO (x + 360), jI (n : Int), jO (x + (363 + 6 * a1))] 0 0 (M1, w.2) _
            refine jWp.callv (as := [jO (x + (363 + 6 * a1)), jI (n : Int), jO (x + 360)]) (rest := []) mt rfl rfl rfl ⟨rfl, jtg (hX.KR a1 (by omega))⟩ ?_
            refine jCall.mono ((by have h := C_keep (w := (M1, w.2)) (r := x + (363 + 6 * a1)) (rt := x + (365 + 6 * a1)) (len := len) (hX.KR a1 (by omega)) (hX.KRt a1 (by omega)) (hX.RRt a1 (by omega)) ((congrFun hro 2).trans hlen) (by omega) (fun j hj => by rw [show ((M1, w.2) : jS).1 (x + (365 + 6 * a1)) = w.1 (x + (365 + 6 * a1)) from hrt]; exact hTb.2.2 j hj) (fk := x + 360) (n := n) hX.X360 ((congrFun hro 0).trans hlaw) ((congrFun hro 1).trans hfig) hRl.1.1 hRl.1.2 hRl.2.1 (by omega); rw [show ((M1, w.2) : jS).1 (x + (365 + 6 * a1)) = w.1 (x + (365 + 6 * a1)) from hrt] at h; exact h)) (fun v9 w9 h9 => ?_)
            rcases h9 with ⟨rfl, hk9, hw9, hub, hvb⟩ | ⟨rfl, hk9, hw9⟩ <;> subst w9
            · have hk9' := hk9
              show jWp 97 60 [some (jO x), some (jI (a1 : Int)), some (jI (n : Int))] [jI 1] 0 0 (jW (jW (M1, w.2) (x + 360) 0 (zu (zku (R (1 + 10 * a1)) (R (2 + 10 * a1)) (w.1 (x + (365 + 6 * a1))) n) (zkd (R (1 + 10 * a1)) (w.1 (x + (365 + 6 * a1))) n))) (x + 360) 1 (zv (zku (R (1 + 10 * a1)) (R (2 + 10 * a1)) (w.1 (x + (365 + 6 * a1))) n) (zkd (R (1 + 10 * a1)) (w.1 (x + (365 + 6 * a1))) n))) _
              refine jWp.ifc (b := false) mt rfl (by decide) rfl ?_
              show jWp 97 63 [some (jO x), some (jI (a1 : Int)), some (jI (n : Int))] [] 0 0 (jW (jW (M1, w.2) (x + 360) 0 (zu (zku (R (1 + 10 * a1)) (R (2 + 10 * a1)) (w.1 (x + (365 + 6 * a1))) n) (zkd (R (1 + 10 * a1)) (w.1 (x + (365 + 6 * a1))) n))) (x + 360) 1 (zv (zku (R (1 + 10 * a1)) (R (2 + 10 * a1)) (w.1 (x + (365 + 6 * a1))) n) (zkd (R (1 + 10 * a1)) (w.1 (x + (365 + 6 * a1))) n))) _
              refine jWp.blk mt 1 ?_
              show _ ∧ jWp 97 64 [some (jO x), some (jI (a1 : Int)), some (jI (n : Int))] [jO x] 0 0 (jW (jW (M1, w.2) (x + 360) 0 (zu (zku (R (1 + 10 * a1)) (R (2 + 10 * a1)) (w.1 (x + (365 + 6 * a1))) n) (zkd (R (1 + 10 * a1)) (w.1 (x + (365 + 6 * a1))) n))) (x + 360) 1 (zv (zku (R (1 + 10 * a1)) (R (2 + 10 * a1)) (w.1 (x + (365 + 6 * a1))) n) (zkd (R (1 + 10 * a1)) (w.1 (x + (365 + 6 * a1))) n))) _
              refine ⟨rfl, ?_⟩
              refine jWp.getR (pc' := 67) (o := (x + 360)) mt rfl rfl (jtg hX.X0) hX.R12 ?_
              show jWp 97 67 [some (jO x), some (jI (a1 : Int)), some (jI (n : Int))] [jO (x + 360)] 0 0 (jW (jW (M1, w.2) (x + 360) 0 (zu (zku (R (1 + 10 * a1)) (R (2 + 10 * a1)) (w.1 (x + (365 + 6 * a1))) n) (zkd (R (1 + 10 * a1)) (w.1 (x + (365 + 6 * a1))) n))) (x + 360) 1 (zv (zku (R (1 + 10 * a1)) (R (2 + 10 * a1)) (w.1 (x + (365 + 6 * a1))) n) (zkd (R (1 + 10 * a1)) (w.1 (x + (365 + 6 * a1))) n))) _
              refine jWp.blk mt 1 ?_
              show _ ∧ jWp 97 68 [some (jO x), some (jI (a1 : Int)), some (jI (n : Int))] [jO x, jO (x + 360)] 0 0 (jW (jW (M1, w.2) (x + 360) 0 (zu (zku (R (1 + 10 * a1)) (R (2 + 10 * a1)) (w.1 (x + (365 + 6 * a1))) n) (zkd (R (1 + 10 * a1)) (w.1 (x + (365 + 6 * a1))) n))) (x + 360) 1 (zv (zku (R (1 + 10 * a1)) (R (2 + 10 * a1)) (w.1 (x + (365 + 6 * a1))) n) (zkd (R (1 + 10 * a1)) (w.1 (x + (365 + 6 * a1))) n))) _
              refine ⟨rfl, ?_⟩
              refine jWp.getR (pc' := 71) (o := (x + 361)) mt rfl rfl (jtg hX.X0) hX.R13 ?_
              show jWp 97 71 [some (jO x), some (jI (a1 : Int)), some (jI (n : Int))] [jO (x + 361), jO (x + 360)] 0 0 (jW (jW (M1, w.2) (x + 360) 0 (zu (zku (R (1 + 10 * a1)) (R (2 + 10 * a1)) (w.1 (x + (365 + 6 * a1))) n) (zkd (R (1 + 10 * a1)) (w.1 (x + (365 + 6 * a1))) n))) (x + 360) 1 (zv (zku (R (1 + 10 * a1)) (R (2 + 10 * a1)) (w.1 (x + (365 + 6 * a1))) n) (zkd (R (1 + 10 * a1)) (w.1 (x + (365 + 6 * a1))) n))) _
              refine jWp.callv (as := [jO (x + 360), jO (x + 361)]) (rest := []) mt rfl rfl rfl ⟨rfl, jtg hX.X360⟩ ?_
              refine jCall.mono (C_fsame (w := (jW (jW (M1, w.2) (x + 360) 0 (zu (zku (R (1 + 10 * a1)) (R (2 + 10 * a1)) (w.1 (x + (365 + 6 * a1))) n) (zkd (R (1 + 10 * a1)) (w.1 (x + (365 + 6 * a1))) n))) (x + 360) 1 (zv (zku (R (1 + 10 * a1)) (R (2 + 10 * a1)) (w.1 (x + (365 + 6 * a1))) n) (zkd (R (1 + 10 * a1)) (w.1 (x + (365 + 6 * a1))) n)))) (a := x + 360) (b := x + 361) hX.X360 hX.X361 ((jW_k (by decide)).trans jW_s) jW_s ((jW_a (by omega)).trans ((jW_a (by omega)).trans hm0)) ((jW_a (by omega)).trans ((jW_a (by omega)).trans hm1)) hub ⟨by omega, hvb.2⟩ hub0 ⟨by omega, hvb0.2⟩) (fun v9 w9 h9 => ?_)
              rcases h9 with ⟨rfl, h9, h5⟩ | ⟨rfl, h9, h5⟩ <;> subst w9
              · have h5 : (zu (zku (R (1 + 10 * a1)) (R (2 + 10 * a1)) (w.1 (x + (365 + 6 * a1))) n) (zkd (R (1 + 10 * a1)) (w.1 (x + (365 + 6 * a1))) n)) = (zu (zku (R (1 + 10 * a1)) (R (2 + 10 * a1)) (w.1 (x + (365 + 6 * a1))) 0) (zkd (R (1 + 10 * a1)) (w.1 (x + (365 + 6 * a1))) 0)) ∧ (zv (zku (R (1 + 10 * a1)) (R (2 + 10 * a1)) (w.1 (x + (365 + 6 * a1))) n) (zkd (R (1 + 10 * a1)) (w.1 (x + (365 + 6 * a1))) n)) = (zv (zku (R (1 + 10 * a1)) (R (2 + 10 * a1)) (w.1 (x + (365 + 6 * a1))) 0) (zkd (R (1 + 10 * a1)) (w.1 (x + (365 + 6 * a1))) 0)) := h5
                show jWp 97 74 [some (jO x), some (jI (a1 : Int)), some (jI (n : Int))] [jI 1] 0 0 (jW (jW (M1, w.2) (x + 360) 0 (zu (zku (R (1 + 10 * a1)) (R (2 + 10 * a1)) (w.1 (x + (365 + 6 * a1))) n) (zkd (R (1 + 10 * a1)) (w.1 (x + (365 + 6 * a1))) n))) (x + 360) 1 (zv (zku (R (1 + 10 * a1)) (R (2 + 10 * a1)) (w.1 (x + (365 + 6 * a1))) n) (zkd (R (1 + 10 * a1)) (w.1 (x + (365 + 6 * a1))) n))) _
                refine jWp.ifc (b := true) mt rfl (by decide) rfl ?_
                show jWp 97 79 [some (jO x), some (jI (a1 : Int)), some (jI (n : Int))] [] 0 0 (jW (jW (M1, w.2) (x + 360) 0 (zu (zku (R (1 + 10 * a1)) (R (2 + 10 * a1)) (w.1 (x + (365 + 6 * a1))) n) (zkd (R (1 + 10 * a1)) (w.1 (x + (365 + 6 * a1))) n))) (x + 360) 1 (zv (zku (R (1 + 10 * a1)) (R (2 + 10 * a1)) (w.1 (x + (365 + 6 * a1))) n) (zkd (R (1 + 10 * a1)) (w.1 (x + (365 + 6 * a1))) n))) _
                refine jWp.blk mt 2 ?_
                show jWp 97 40 [some (jO x), some (jI (a1 : Int)), some (jI ((n : Int) + 1))] [] 0 0 (jW (jW (M1, w.2) (x + 360) 0 (zu (zku (R (1 + 10 * a1)) (R (2 + 10 * a1)) (w.1 (x + (365 + 6 * a1))) n) (zkd (R (1 + 10 * a1)) (w.1 (x + (365 + 6 * a1))) n))) (x + 360) 1 (zv (zku (R (1 + 10 * a1)) (R (2 + 10 * a1)) (w.1 (x + (365 + 6 * a1))) n) (zkd (R (1 + 10 * a1)) (w.1 (x + (365 + 6 * a1))) n))) _
                refine jWp.le (l := [some (jO x), some (jI (a1 : Int)), some (jI ((n : Int) + 1))]) (by exact ⟨rfl, rfl, rfl, trivial⟩) ?_
                exact ih3 (n + 1) (jW (jW (M1, w.2) (x + 360) 0 (zu (zku (R (1 + 10 * a1)) (R (2 + 10 * a1)) (w.1 (x + (365 + 6 * a1))) n) (zkd (R (1 + 10 * a1)) (w.1 (x + (365 + 6 * a1))) n))) (x + 360) 1 (zv (zku (R (1 + 10 * a1)) (R (2 + 10 * a1)) (w.1 (x + (365 + 6 * a1))) n) (zkd (R (1 + 10 * a1)) (w.1 (x + (365 + 6 * a1))) n))).1 (by omega) (cq_t hcq ⟨rfl, fun z g1 g2 g3 => (jW_f g2).trans (jW_f g2)⟩) ((jW_f (by omega)).trans ((jW_f (by omega)).trans hro)) ((jW_f (by omega)).trans ((jW_f (by omega)).trans hrt)) ((jW_a (by omega)).trans ((jW_a (by omega)).trans hm0)) ((jW_a (by omega)).trans ((jW_a (by omega)).trans hm1)) (by rw [← hz, show 60 - n = (60 - (n + 1)) + 1 by omega, zfs_f hk9 (and_no (by assumption))]) (by omega)
              · have h5 : ¬ ((zu (zku (R (1 + 10 * a1)) (R (2 + 10 * a1)) (w.1 (x + (365 + 6 * a1))) n) (zkd (R (1 + 10 * a1)) (w.1 (x + (365 + 6 * a1))) n)) = (zu (zku (R (1 + 10 * a1)) (R (2 + 10 * a1)) (w.1 (x + (365 + 6 * a1))) 0) (zkd (R (1 + 10 * a1)) (w.1 (x + (365 + 6 * a1))) 0)) ∧ (zv (zku (R (1 + 10 * a1)) (R (2 + 10 * a1)) (w.1 (x + (365 + 6 * a1))) n) (zkd (R (1 + 10 * a1)) (w.1 (x + (365 + 6 * a1))) n)) = (zv (zku (R (1 + 10 * a1)) (R (2 + 10 * a1)) (w.1 (x + (365 + 6 * a1))) 0) (zkd (R (1 + 10 * a1)) (w.1 (x + (365 + 6 * a1))) 0))) := h5
                show jWp 97 74 [some (jO x), some (jI (a1 : Int)), some (jI (n : Int))] [jI 0] 0 0 (jW (jW (M1, w.2) (x + 360) 0 (zu (zku (R (1 + 10 * a1)) (R (2 + 10 * a1)) (w.1 (x + (365 + 6 * a1))) n) (zkd (R (1 + 10 * a1)) (w.1 (x + (365 + 6 * a1))) n))) (x + 360) 1 (zv (zku (R (1 + 10 * a1)) (R (2 + 10 * a1)) (w.1 (x + (365 + 6 * a1))) n) (zkd (R (1 + 10 * a1)) (w.1 (x + (365 + 6 * a1))) n))) _
                refine jWp.ifc (b := false) mt rfl (by decide) rfl ?_
                show jWp 97 77 [some (jO x), some (jI (a1 : Int)), some (jI (n : Int))] [] 0 0 (jW (jW (M1, w.2) (x + 360) 0 (zu (zku (R (1 + 10 * a1)) (R (2 + 10 * a1)) (w.1 (x + (365 + 6 * a1))) n) (zkd (R (1 + 10 * a1)) (w.1 (x + (365 + 6 * a1))) n))) (x + 360) 1 (zv (zku (R (1 + 10 * a1)) (R (2 + 10 * a1)) (w.1 (x + (365 + 6 * a1))) n) (zkd (R (1 + 10 * a1)) (w.1 (x + (365 + 6 * a1))) n))) _
                refine jWp.blk mt 1 ?_
                show jWp 97 78 [some (jO x), some (jI (a1 : Int)), some (jI (n : Int))] [jI (n : Int)] 0 0 (jW (jW (M1, w.2) (x + 360) 0 (zu (zku (R (1 + 10 * a1)) (R (2 + 10 * a1)) (w.1 (x + (365 + 6 * a1))) n) (zkd (R (1 + 10 * a1)) (w.1 (x + (365 + 6 * a1))) n))) (x + 360) 1 (zv (zku (R (1 + 10 * a1)) (R (2 + 10 * a1)) (w.1 (x + (365 + 6 * a1))) n) (zkd (R (1 + 10 * a1)) (w.1 (x + (365 + 6 * a1))) n))) _
                refine jWp.ireti mt rfl ⟨rfl, rfl⟩ rfl ?_
                refine ⟨fun c0 => ?_, fun c0 => ?_⟩
                · exfalso; omega
                · exact ⟨_, len, why, left, hTR, Or.inl ⟨hk0, congrArg (fun z => some (jI z)) ((show (n : Int) = (zfs (fun k => zkp (R (1 + 10 * a1)) (w.1 (x + (365 + 6 * a1))) len k) (fun k => (zu (zku (R (1 + 10 * a1)) (R (2 + 10 * a1)) (w.1 (x + (365 + 6 * a1))) k) (zkd (R (1 + 10 * a1)) (w.1 (x + (365 + 6 * a1))) k)) ≠ (zu (zku (R (1 + 10 * a1)) (R (2 + 10 * a1)) (w.1 (x + (365 + 6 * a1))) 0) (zkd (R (1 + 10 * a1)) (w.1 (x + (365 + 6 * a1))) 0)) ∨ (zv (zku (R (1 + 10 * a1)) (R (2 + 10 * a1)) (w.1 (x + (365 + 6 * a1))) k) (zkd (R (1 + 10 * a1)) (w.1 (x + (365 + 6 * a1))) k)) ≠ (zv (zku (R (1 + 10 * a1)) (R (2 + 10 * a1)) (w.1 (x + (365 + 6 * a1))) 0) (zkd (R (1 + 10 * a1)) (w.1 (x + (365 + 6 * a1))) 0))) (60 - n) n) from by rw [show 60 - n = (59 - n) + 1 by omega]; exact (zfs_t hk9 (Classical.not_and_iff_not_or_not.mp (by assumption))).symm).trans hz), cq_t hcq ⟨rfl, fun z g1 g2 g3 => (jW_f g2).trans (jW_f g2)⟩⟩⟩
            · have hk9' := hk9
              show jWp 97 60 [some (jO x), some (jI (a1 : Int)), some (jI (n : Int))] [jI 0] 0 0 (M1, w.2) _
              refine jWp.ifc (b := true) mt rfl (by decide) rfl ?_
              show jWp 97 85 [some (jO x), some (jI (a1 : Int)), some (jI (n : Int))] [] 0 0 (M1, w.2) _
              refine jWp.blk mt 1 ?_
              show jWp 97 87 [some (jO x), some (jI (a1 : Int)), some (jI (n : Int))] [jI (-9)] 0 0 (M1, w.2) _
              refine jWp.ireti mt rfl ⟨rfl, rfl⟩ rfl ?_
              refine ⟨fun c0 => ?_, fun c0 => ?_⟩
              · exfalso; omega
              · exact ⟨_, len, why, left, hTR, Or.inl ⟨hk0, congrArg (fun z => some (jI z)) ((show (-9 : Int) = (zfs (fun k => zkp (R (1 + 10 * a1)) (w.1 (x + (365 + 6 * a1))) len k) (fun k => (zu (zku (R (1 + 10 * a1)) (R (2 + 10 * a1)) (w.1 (x + (365 + 6 * a1))) k) (zkd (R (1 + 10 * a1)) (w.1 (x + (365 + 6 * a1))) k)) ≠ (zu (zku (R (1 + 10 * a1)) (R (2 + 10 * a1)) (w.1 (x + (365 + 6 * a1))) 0) (zkd (R (1 + 10 * a1)) (w.1 (x + (365 + 6 * a1))) 0)) ∨ (zv (zku (R (1 + 10 * a1)) (R (2 + 10 * a1)) (w.1 (x + (365 + 6 * a1))) k) (zkd (R (1 + 10 * a1)) (w.1 (x + (365 + 6 * a1))) k)) ≠ (zv (zku (R (1 + 10 * a1)) (R (2 + 10 * a1)) (w.1 (x + (365 + 6 * a1))) 0) (zkd (R (1 + 10 * a1)) (w.1 (x + (365 + 6 * a1))) 0))) (60 - n) n) from by first | (rw [show 60 - n = 0 by omega]; rfl) | exact (zfs_n hk9).symm).trans hz), hcq⟩⟩
      refine jWp.le (l := [some (jO x), some (jI (a1 : Int)), some (jI 1)]) (by exact ⟨rfl, rfl, rfl, trivial⟩) ?_
      exact lp2 _ 1 (jW (jW w (x + 361) 0 (zu (zku (R (1 + 10 * a1)) (R (2 + 10 * a1)) (w.1 (x + (365 + 6 * a1))) 0) (zkd (R (1 + 10 * a1)) (w.1 (x + (365 + 6 * a1))) 0))) (x + 361) 1 (zv (zku (R (1 + 10 * a1)) (R (2 + 10 * a1)) (w.1 (x + (365 + 6 * a1))) 0) (zkd (R (1 + 10 * a1)) (w.1 (x + (365 + 6 * a1))) 0))).1 (by omega) ⟨rfl, fun z g1 g2 g3 => (jW_f g3).trans (jW_f g3)⟩ ((jW_f (by omega)).trans (jW_f (by omega))) ((jW_f (by omega)).trans (jW_f (by omega))) ((jW_k (by decide)).trans jW_s) jW_s rfl (Nat.lt_succ_self _)
    · have hk9' := hk0
      show jWp 97 28 [some (jO x), some (jI (a1 : Int)), none] [jI 0] 0 0 w _
      refine jWp.ifc (b := false) mt rfl (by decide) rfl ?_
      show jWp 97 31 [some (jO x), some (jI (a1 : Int)), none] [] 0 0 w _
      refine jWp.blk mt 2 ?_
      show _ ∧ jWp 97 34 [some (jO x), some (jI (a1 : Int)), none] [jI (-3), jO x] 0 0 w _
      refine ⟨rfl, ?_⟩
      refine jWp.callv (as := [jO x, jI (-3)]) (rest := []) mt rfl rfl rfl ⟨rfl, jtg hX.X0⟩ ?_
      refine jCall.mono (C_refuse (w := w) (j := 2) hX (by decide) (by decide)) (fun v9 w9 h9 => ?_)
      obtain ⟨rfl, h9⟩ := h9
      subst h9
      show jWp 97 37 [some (jO x), some (jI (a1 : Int)), none] [jI (-3)] 0 0 (jW w (x + 362) 2 ((w.1 (x + 362) 2) + 1)) _
      refine jWp.ireti mt rfl ⟨rfl, rfl⟩ rfl ?_
      refine ⟨fun c0 => ?_, fun c0 => ?_⟩
      all_goals first
      | (exfalso; omega)
      | exact ⟨rfl, rfl⟩
      | exact ⟨_, len, why, left, hTR, Or.inr ⟨hk0, rfl, rfl⟩⟩
  · have h1 : ¬ (0 ≤ a ∧ a < (c : Int)) := h1
    show jWp 97 5 [some (jO x), some (jI a), none] [jI 0] 0 0 w _
    refine jWp.ifc (b := false) mt rfl (by decide) rfl ?_
    show jWp 97 8 [some (jO x), some (jI a), none] [] 0 0 w _
    refine jWp.blk mt 2 ?_
    show _ ∧ jWp 97 10 [some (jO x), some (jI a), none] [jI (-1), jO x] 0 0 w _
    refine ⟨rfl, ?_⟩
    refine jWp.callv (as := [jO x, jI (-1)]) (rest := []) mt rfl rfl rfl ⟨rfl, jtg hX.X0⟩ ?_
    refine jCall.mono (C_refuse (w := w) (j := 0) hX (by decide) (by decide)) (fun v9 w9 h9 => ?_)
    obtain ⟨rfl, h9⟩ := h9
    subst h9
    show jWp 97 13 [some (jO x), some (jI a), none] [jI (-1)] 0 0 (jW w (x + 362) 0 ((w.1 (x + 362) 0) + 1)) _
    refine jWp.ireti mt rfl ⟨rfl, rfl⟩ rfl ?_
    refine ⟨fun c0 => ?_, fun c0 => ?_⟩
    all_goals first
    | (exfalso; omega)
    | exact ⟨rfl, rfl⟩
    | exact ⟨_, len, why, left, hTR, Or.inr ⟨hk0, rfl, rfl⟩⟩
end
section
set_option maxHeartbeats 4000000 in
set_option maxRecDepth 20000 in
theorem C_row {w : jS} {x : Nat} (hX : CW w.2 x) {c : Nat} {R : Nat → Int} (hR : zRw R c) (hRW : cRW w x R c) (hO : jOK w) (hao : w.2.2.2.2 < x ∨ x + 392 ≤ w.2.2.2.2) {l f : Int} (hrl : r32 l) (hrf : r32 f) : jCall 92 [jO x, jI l, jI f] w (fun v w1 => ((¬ (0 ≤ l ∧ l ≤ 6)) → cno w x 1 (jI (-2)) v w1) ∧ (¬ (¬ (0 ≤ l ∧ l ≤ 6)) → (f < 0) → cno w x 3 (jI (-4)) v w1) ∧ (¬ (¬ (0 ≤ l ∧ l ≤ 6)) → ¬ (f < 0) → (9 < f ∨ c = 4) → cno w x 5 (jI (-6)) v w1) ∧ (¬ (¬ (0 ≤ l ∧ l ≤ 6)) → ¬ (f < 0) → ¬ (9 < f ∨ c = 4) → v = some (jI (c : Int)) ∧ w1.2 = w.2 ∧ (∀ b, b ≠ x → b ≠ x + (363 + 6 * c) → b ≠ x + (364 + 6 * c) → b ≠ x + (365 + 6 * c) → w1.1 b = w.1 b) ∧ (∀ j, j ≠ 1 → w1.1 x j = w.1 x j) ∧ w1.1 x 1 = (c : Int) + 1 ∧ cRo w1 (x + (363 + 6 * c)) (x + (364 + 6 * c)) (x + (365 + 6 * c)) l f (fun _ => 1))) := by
  have mt : jtb 92 = jT92 := rfl
  have hc4 := hR.2.1
  have hrl1 : -2147483648 ≤ l ∧ l < 2147483648 := hrl
  have hrf1 : -2147483648 ≤ f ∧ f < 2147483648 := hrf
  show jWp 92 0 [some (jO x), some (jI l), some (jI f)] [] 0 0 w _
  refine jWp.blk mt 1 ?_
  show jWp 92 1 [some (jO x), some (jI l), some (jI f)] [jI l] 0 0 w _
  refine jWp.ifz (pc' := 4) mt rfl rfl (b32_id (by omega) (by omega)) (fun h1 => ?_) (fun h1 => ?_)
  · have h1 : l < 0 := h1
    refine jWp.blk mt 2 ?_
    show _ ∧ jWp 92 13 [some (jO x), some (jI l), some (jI f)] [jI (-2), jO x] 0 0 w _
    refine ⟨rfl, ?_⟩
    refine jWp.callv (as := [jO x, jI (-2)]) (rest := []) mt rfl rfl rfl ⟨rfl, jtg hX.X0⟩ ?_
    refine jCall.mono (C_refuse (w := w) (j := 1) hX (by decide) (by decide)) (fun v9 w9 h9 => ?_)
    obtain ⟨rfl, h9⟩ := h9
    subst h9
    show jWp 92 16 [some (jO x), some (jI l), some (jI f)] [jI (-2)] 0 0 (jW w (x + 362) 1 ((w.1 (x + 362) 1) + 1)) _
    refine jWp.ireti mt rfl ⟨rfl, rfl⟩ rfl ?_
    refine ⟨fun c0 => ?_, fun c0 c1 => ?_, fun c0 c1 c2 => ?_, fun c0 c1 c2 => ?_⟩
    all_goals first
    | (exfalso; omega)
    | exact ⟨rfl, rfl⟩
    | exact ⟨by rw [show ((c : Int) + 1) - 1 = (c : Int) by omega], rfl, fun b g0 g1 g2 g3 => (jW_f g0).trans (hf1 b g1 g2 g3), fun j hj => (jW_k hj).trans (congrFun (hf1 x (by omega) (by omega) (by omega)) j), jW_s, cRo_k (jW_f (by omega)) (jW_f (by omega)) (jW_f (by omega)) hcr⟩
  · have h1 : 0 ≤ l := h1
    refine jWp.blk mt 2 ?_
    show jWp 92 7 [some (jO x), some (jI l), some (jI f)] [jI 7, jI l] 0 0 w _
    refine jWp.icmp (pc' := 10) mt rfl rfl (b32_id (by omega) (by omega)) (show b32 7 = 7 by decide) (fun h2 => ?_) (fun h2 => ?_)
    · have h2 : l < 7 := h2
      refine jWp.blk mt 1 ?_
      show jWp 92 18 [some (jO x), some (jI l), some (jI f)] [jI f] 0 0 w _
      refine jWp.ifz (pc' := 21) mt rfl rfl (b32_id (by omega) (by omega)) (fun h3 => ?_) (fun h3 => ?_)
      · have h3 : 0 ≤ f := h3
        refine jWp.blk mt 2 ?_
        show jWp 92 31 [some (jO x), some (jI l), some (jI f)] [jI 9, jI f] 0 0 w _
        refine jWp.icmp (pc' := 34) mt rfl rfl (b32_id (by omega) (by omega)) (show b32 9 = 9 by decide) (fun h4 => ?_) (fun h4 => ?_)
        · have h4 : 9 < f := h4
          refine jWp.blk mt 2 ?_
          show _ ∧ jWp 92 45 [some (jO x), some (jI l), some (jI f)] [jI (-6), jO x] 0 0 w _
          refine ⟨rfl, ?_⟩
          refine jWp.callv (as := [jO x, jI (-6)]) (rest := []) mt rfl rfl rfl ⟨rfl, jtg hX.X0⟩ ?_
          refine jCall.mono (C_refuse (w := w) (j := 5) hX (by decide) (by decide)) (fun v9 w9 h9 => ?_)
          obtain ⟨rfl, h9⟩ := h9
          subst h9
          show jWp 92 48 [some (jO x), some (jI l), some (jI f)] [jI (-6)] 0 0 (jW w (x + 362) 5 ((w.1 (x + 362) 5) + 1)) _
          refine jWp.ireti mt rfl ⟨rfl, rfl⟩ rfl ?_
          refine ⟨fun c0 => ?_, fun c0 c1 => ?_, fun c0 c1 c2 => ?_, fun c0 c1 c2 => ?_⟩
          all_goals first
          | (exfalso; omega)
          | exact ⟨rfl, rfl⟩
          | exact ⟨by rw [show ((c : Int) + 1) - 1 = (c : Int) by omega], rfl, fun b g0 g1 g2 g3 => (jW_f g0).trans (hf1 b g1 g2 g3), fun j hj => (jW_k hj).trans (congrFun (hf1 x (by omega) (by omega) (by omega)) j), jW_s, cRo_k (jW_f (by omega)) (jW_f (by omega)) (jW_f (by omega)) hcr⟩
        · have h4 : f ≤ 9 := h4
          refine jWp.blk mt 1 ?_
          show _ ∧ jWp 92 35 [some (jO x), some (jI l), some (jI f)] [jO x] 0 0 w _
          refine ⟨rfl, ?_⟩
          refine jWp.getI (pc' := 38) mt rfl rfl (jtg hX.X0) ?_
          rw [show (w.1 x 1) = (c : Int) from hRW.1]
          show jWp 92 38 [some (jO x), some (jI l), some (jI f)] [jI (c : Int)] 0 0 w _
          refine jWp.blk mt 1 ?_
          show jWp 92 39 [some (jO x), some (jI l), some (jI f)] [jI 4, jI (c : Int)] 0 0 w _
          refine jWp.icmp (pc' := 42) mt rfl rfl (b32_id (by omega) (by omega)) (show b32 4 = 4 by decide) (fun h5 => ?_) (fun h5 => ?_)
          · have h5 : (c : Int) < 4 := h5
            refine jWp.blk mt 1 ?_
            show _ ∧ jWp 92 50 [some (jO x), some (jI l), some (jI f)] [jO x] 0 0 w _
            refine ⟨rfl, ?_⟩
            refine jWp.getR (pc' := 53) (o := (x + 1)) mt rfl rfl (jtg hX.X0) hX.R0 ?_
            show jWp 92 53 [some (jO x), some (jI l), some (jI f)] [jO (x + 1)] 0 0 w _
            refine jWp.blk mt 1 ?_
            show _ ∧ jWp 92 54 [some (jO x), some (jI l), some (jI f)] [jO x, jO (x + 1)] 0 0 w _
            refine ⟨rfl, ?_⟩
            refine jWp.getI (pc' := 57) mt rfl rfl (jtg hX.X0) ?_
            rw [show (w.1 x 1) = (c : Int) from hRW.1]
            show jWp 92 57 [some (jO x), some (jI l), some (jI f)] [jI (c : Int), jO (x + 1)] 0 0 w _
            refine jWp.aald (pc' := 58) (j := c) (o := (x + (363 + 6 * c))) mt rfl rfl (jrg hX.X1 (by decide) (by decide)) (b32_id (by omega) (by omega)) (jlt hX.X1 (by omega)) (hX.RR c (by omega)) ?_
            show jWp 92 58 [some (jO x), some (jI l), some (jI f)] [jO (x + (363 + 6 * c))] 0 0 w _
            refine jWp.blk mt 2 ?_
            show jWp 92 60 [some (jO x), some (jI l), some (jI f)] [jI f, jI l, jO (x + (363 + 6 * c))] 0 0 w _
            refine jWp.callv (as := [jO (x + (363 + 6 * c)), jI l, jI f]) (rest := []) mt rfl rfl rfl ⟨rfl, jtg (hX.KR c (by omega))⟩ ?_
            refine jCall.mono (C_found (w := w) (r := x + (363 + 6 * c)) (rs := x + (364 + 6 * c)) (rt := x + (365 + 6 * c)) (hX.KR c (by omega)) (hX.KRs c (by omega)) (hX.KRt c (by omega)) (hX.RRs c (by omega)) (hX.RRt c (by omega)) hO (law := l) (f := f) (by omega) (by omega) (by omega)) (fun v9 w9 h9 => ?_)
            obtain ⟨rfl, hbf, hcr⟩ := h9
            obtain ⟨M1, G9⟩ := w9
            have hg : G9 = w.2 := hbf.1
            subst hg
            have hf1 := hbf.2
            have hx1 : M1 x 1 = (c : Int) := (congrFun (hf1 x (by omega) (by omega) (by omega)) 1).trans hRW.1
            show jWp 92 63 [some (jO x), some (jI l), some (jI f)] [] 0 0 (M1, w.2) _
            refine jWp.blk mt 2 ?_
            show _ ∧ _ ∧ jWp 92 65 [some (jO x), some (jI l), some (jI f)] [jO x, jO x] 0 0 (M1, w.2) _
            refine ⟨rfl, rfl, ?_⟩
            refine jWp.getI (pc' := 68) mt rfl rfl (jtg hX.X0) ?_
            rw [show ((M1, w.2).1 x 1) = (c : Int) from hx1]
            show jWp 92 68 [some (jO x), some (jI l), some (jI f)] [jI (c : Int), jO x] 0 0 (M1, w.2) _
            refine jWp.blk mt 2 ?_
            show jWp 92 70 [some (jO x), some (jI l), some (jI f)] [jI ((c : Int) + 1), jO x] 0 0 (M1, w.2) _
            refine jWp.putI (pc' := 73) mt rfl rfl (jtg hX.X0) ?_
            show jWp 92 73 [some (jO x), some (jI l), some (jI f)] [] 0 0 (jW (M1, w.2) x 1 ((c : Int) + 1)) _
            refine jWp.blk mt 1 ?_
            show _ ∧ jWp 92 74 [some (jO x), some (jI l), some (jI f)] [jO x] 0 0 (jW (M1, w.2) x 1 ((c : Int) + 1)) _
            refine ⟨rfl, ?_⟩
            refine jWp.getI (pc' := 77) mt rfl rfl (jtg hX.X0) ?_
            rw [show ((jW (M1, w.2) x 1 ((c : Int) + 1)).1 x 1) = ((c : Int) + 1) from jW_s]
            show jWp 92 77 [some (jO x), some (jI l), some (jI f)] [jI ((c : Int) + 1)] 0 0 (jW (M1, w.2) x 1 ((c : Int) + 1)) _
            refine jWp.blk mt 2 ?_
            show jWp 92 79 [some (jO x), some (jI l), some (jI f)] [jI (((c : Int) + 1) - 1)] 0 0 (jW (M1, w.2) x 1 ((c : Int) + 1)) _
            refine jWp.ireti mt rfl ⟨rfl, rfl⟩ rfl ?_
            refine ⟨fun c0 => ?_, fun c0 c1 => ?_, fun c0 c1 c2 => ?_, fun c0 c1 c2 => ?_⟩
            all_goals first
            | (exfalso; omega)
            | exact ⟨rfl, rfl⟩
            | exact ⟨by rw [show ((c : Int) + 1) - 1 = (c : Int) by omega], rfl, fun b g0 g1 g2 g3 => (jW_f g0).trans (hf1 b g1 g2 g3), fun j hj => (jW_k hj).trans (congrFun (hf1 x (by omega) (by omega) (by omega)) j), jW_s, cRo_k (jW_f (by omega)) (jW_f (by omega)) (jW_f (by omega)) hcr⟩
          · have h5 : 4 ≤ (c : Int) := h5
            refine jWp.blk mt 2 ?_
            show _ ∧ jWp 92 45 [some (jO x), some (jI l), some (jI f)] [jI (-6), jO x] 0 0 w _
            refine ⟨rfl, ?_⟩
            refine jWp.callv (as := [jO x, jI (-6)]) (rest := []) mt rfl rfl rfl ⟨rfl, jtg hX.X0⟩ ?_
            refine jCall.mono (C_refuse (w := w) (j := 5) hX (by decide) (by decide)) (fun v9 w9 h9 => ?_)
            obtain ⟨rfl, h9⟩ := h9
            subst h9
            show jWp 92 48 [some (jO x), some (jI l), some (jI f)] [jI (-6)] 0 0 (jW w (x + 362) 5 ((w.1 (x + 362) 5) + 1)) _
            refine jWp.ireti mt rfl ⟨rfl, rfl⟩ rfl ?_
            refine ⟨fun c0 => ?_, fun c0 c1 => ?_, fun c0 c1 c2 => ?_, fun c0 c1 c2 => ?_⟩
            all_goals first
            | (exfalso; omega)
            | exact ⟨rfl, rfl⟩
            | exact ⟨by rw [show ((c : Int) + 1) - 1 = (c : Int) by omega], rfl, fun b g0 g1 g2 g3 => (jW_f g0).trans (hf1 b g1 g2 g3), fun j hj => (jW_k hj).trans (congrFun (hf1 x (by omega) (by omega) (by omega)) j), jW_s, cRo_k (jW_f (by omega)) (jW_f (by omega)) (jW_f (by omega)) hcr⟩
      · have h3 : f < 0 := h3
        refine jWp.blk mt 2 ?_
        show _ ∧ jWp 92 24 [some (jO x), some (jI l), some (jI f)] [jI (-4), jO x] 0 0 w _
        refine ⟨rfl, ?_⟩
        refine jWp.callv (as := [jO x, jI (-4)]) (rest := []) mt rfl rfl rfl ⟨rfl, jtg hX.X0⟩ ?_
        refine jCall.mono (C_refuse (w := w) (j := 3) hX (by decide) (by decide)) (fun v9 w9 h9 => ?_)
        obtain ⟨rfl, h9⟩ := h9
        subst h9
        show jWp 92 27 [some (jO x), some (jI l), some (jI f)] [jI (-4)] 0 0 (jW w (x + 362) 3 ((w.1 (x + 362) 3) + 1)) _
        refine jWp.ireti mt rfl ⟨rfl, rfl⟩ rfl ?_
        refine ⟨fun c0 => ?_, fun c0 c1 => ?_, fun c0 c1 c2 => ?_, fun c0 c1 c2 => ?_⟩
        all_goals first
        | (exfalso; omega)
        | exact ⟨rfl, rfl⟩
        | exact ⟨by rw [show ((c : Int) + 1) - 1 = (c : Int) by omega], rfl, fun b g0 g1 g2 g3 => (jW_f g0).trans (hf1 b g1 g2 g3), fun j hj => (jW_k hj).trans (congrFun (hf1 x (by omega) (by omega) (by omega)) j), jW_s, cRo_k (jW_f (by omega)) (jW_f (by omega)) (jW_f (by omega)) hcr⟩
    · have h2 : 7 ≤ l := h2
      refine jWp.blk mt 2 ?_
      show _ ∧ jWp 92 13 [some (jO x), some (jI l), some (jI f)] [jI (-2), jO x] 0 0 w _
      refine ⟨rfl, ?_⟩
      refine jWp.callv (as := [jO x, jI (-2)]) (rest := []) mt rfl rfl rfl ⟨rfl, jtg hX.X0⟩ ?_
      refine jCall.mono (C_refuse (w := w) (j := 1) hX (by decide) (by decide)) (fun v9 w9 h9 => ?_)
      obtain ⟨rfl, h9⟩ := h9
      subst h9
      show jWp 92 16 [some (jO x), some (jI l), some (jI f)] [jI (-2)] 0 0 (jW w (x + 362) 1 ((w.1 (x + 362) 1) + 1)) _
      refine jWp.ireti mt rfl ⟨rfl, rfl⟩ rfl ?_
      refine ⟨fun c0 => ?_, fun c0 c1 => ?_, fun c0 c1 c2 => ?_, fun c0 c1 c2 => ?_⟩
      all_goals first
      | (exfalso; omega)
      | exact ⟨rfl, rfl⟩
      | exact ⟨by rw [show ((c : Int) + 1) - 1 = (c : Int) by omega], rfl, fun b g0 g1 g2 g3 => (jW_f g0).trans (hf1 b g1 g2 g3), fun j hj => (jW_k hj).trans (congrFun (hf1 x (by omega) (by omega) (by omega)) j), jW_s, cRo_k (jW_f (by omega)) (jW_f (by omega)) (jW_f (by omega)) hcr⟩
set_option maxHeartbeats 4000000 in
set_option maxRecDepth 20000 in
theorem C_start {w : jS} {x : Nat} (hX : CW w.2 x) {c : Nat} {R : Nat → Int} (hR : zRw R c) (hRW : cRW w x R c) (hO : jOK w) (hao : w.2.2.2.2 < x ∨ x + 392 ≤ w.2.2.2.2) {a i y : Int} (hra : r32 a) (hri : r32 i) (hry : r32 y) : jCall 93 [jO x, jI a, jI i, jI y] w (fun v w1 => ((¬ (0 ≤ a ∧ a < (c : Int))) → cno w x 0 (jI (-1)) v w1) ∧ (¬ (¬ (0 ≤ a ∧ a < (c : Int))) → (i < 0 ∨ y < 1) → cno w x 3 (jI (-4)) v w1) ∧ (¬ (¬ (0 ≤ a ∧ a < (c : Int))) → ¬ (i < 0 ∨ y < 1) → (zO (R (1 + 10 * a.toNat)) ≤ i ∨ 9 < y) → cno w x 5 (jI (-6)) v w1) ∧ (¬ (¬ (0 ≤ a ∧ a < (c : Int))) → ¬ (i < 0 ∨ y < 1) → ¬ (zO (R (1 + 10 * a.toNat)) ≤ i ∨ 9 < y) → v = some (jI (R (3 + 10 * a.toNat + i.toNat))) ∧ w1.2 = w.2 ∧ (∀ b, b ≠ (x + (363 + 6 * a.toNat)) → b ≠ (x + (364 + 6 * a.toNat)) → b ≠ (x + (365 + 6 * a.toNat)) → w1.1 b = w.1 b) ∧ cRo w1 (x + (363 + 6 * a.toNat)) (x + (364 + 6 * a.toNat)) (x + (365 + 6 * a.toNat)) (R (1 + 10 * a.toNat)) (R (2 + 10 * a.toNat)) (zset (fun z => R (3 + 10 * a.toNat + z)) i.toNat y))) := by
  have mt : jtb 93 = jT93 := rfl
  have hc4 := hR.2.1
  have hra1 : -2147483648 ≤ a ∧ a < 2147483648 := hra
  have hri1 : -2147483648 ≤ i ∧ i < 2147483648 := hri
  have hry1 : -2147483648 ≤ y ∧ y < 2147483648 := hry
  show jWp 93 0 [some (jO x), some (jI a), some (jI i), some (jI y)] [] 0 0 w _
  refine jWp.blk mt 2 ?_
  show _ ∧ jWp 93 2 [some (jO x), some (jI a), some (jI i), some (jI y)] [jI a, jO x] 0 0 w _
  refine ⟨rfl, ?_⟩
  refine jWp.callv (as := [jO x, jI a]) (rest := []) mt rfl rfl rfl ⟨rfl, jtg hX.X0⟩ ?_
  refine jCall.mono (C_isRow (w := w) hX hRW.1 hR.2.1 hra) (fun v9 w9 h9 => ?_)
  rcases h9 with ⟨rfl, h9, h1⟩ | ⟨rfl, h9, h1⟩ <;> subst w9
  · have h1 : 0 ≤ a ∧ a < (c : Int) := h1
    show jWp 93 5 [some (jO x), some (jI a), some (jI i), some (jI y)] [jI 1] 0 0 w _
    obtain ⟨a1, rfl⟩ : ∃ a1 : Nat, a = (a1 : Int) := ⟨a.toNat, by omega⟩
    show jWp 93 5 [some (jO x), some (jI (a1 : Int)), some (jI i), some (jI y)] [jI 1] 0 0 w _
    obtain ⟨hlaw, hfig, hst, len, why, left, hlen, hwhy, hleft, hgr, hen⟩ := hRW.2 a1 (by omega)
    have hTR : zTR R a1 (w.1 (x + (365 + 6 * a1))) len why left := ⟨hgr, hen⟩
    have hTb := zTR_b hR (by omega) hTR
    have hRl := hR.2.2 a1 (by omega)
    show jWp 93 5 [some (jO x), some (jI (a1 : Int)), some (jI i), some (jI y)] [jI 1] 0 0 w _
    refine jWp.ifc (b := true) mt rfl (by decide) rfl ?_
    show jWp 93 14 [some (jO x), some (jI (a1 : Int)), some (jI i), some (jI y)] [] 0 0 w _
    refine jWp.blk mt 1 ?_
    show jWp 93 15 [some (jO x), some (jI (a1 : Int)), some (jI i), some (jI y)] [jI i] 0 0 w _
    refine jWp.ifz (pc' := 18) mt rfl rfl (b32_id (by omega) (by omega)) (fun h2 => ?_) (fun h2 => ?_)
    · have h2 : i < 0 := h2
      refine jWp.blk mt 2 ?_
      show _ ∧ jWp 93 26 [some (jO x), some (jI (a1 : Int)), some (jI i), some (jI y)] [jI (-4), jO x] 0 0 w _
      refine ⟨rfl, ?_⟩
      refine jWp.callv (as := [jO x, jI (-4)]) (rest := []) mt rfl rfl rfl ⟨rfl, jtg hX.X0⟩ ?_
      refine jCall.mono (C_refuse (w := w) (j := 3) hX (by decide) (by decide)) (fun v9 w9 h9 => ?_)
      obtain ⟨rfl, h9⟩ := h9
      subst h9
      show jWp 93 29 [some (jO x), some (jI (a1 : Int)), some (jI i), some (jI y)] [jI (-4)] 0 0 (jW w (x + 362) 3 ((w.1 (x + 362) 3) + 1)) _
      refine jWp.ireti mt rfl ⟨rfl, rfl⟩ rfl ?_
      try rw [show ((a1 : Nat) : Int).toNat = a1 from rfl]
      refine ⟨fun c0 => ?_, fun c0 c1 => ?_, fun c0 c1 c2 => ?_, fun c0 c1 c2 => ?_⟩
      all_goals first
      | (exfalso; omega)
      | exact ⟨rfl, rfl⟩
      | exact ⟨rfl, rfl, hf1, hcr⟩
    · have h2 : 0 ≤ i := h2
      refine jWp.blk mt 2 ?_
      show jWp 93 20 [some (jO x), some (jI (a1 : Int)), some (jI i), some (jI y)] [jI 1, jI y] 0 0 w _
      refine jWp.icmp (pc' := 23) mt rfl rfl (b32_id (by omega) (by omega)) (show b32 1 = 1 by decide) (fun h3 => ?_) (fun h3 => ?_)
      · have h3 : 1 ≤ y := h3
        refine jWp.blk mt 2 ?_
        show _ ∧ jWp 93 32 [some (jO x), some (jI (a1 : Int)), some (jI i), some (jI y)] [jO x, jI i] 0 0 w _
        refine ⟨rfl, ?_⟩
        refine jWp.getR (pc' := 35) (o := (x + 1)) mt rfl rfl (jtg hX.X0) hX.R0 ?_
        show jWp 93 35 [some (jO x), some (jI (a1 : Int)), some (jI i), some (jI y)] [jO (x + 1), jI i] 0 0 w _
        refine jWp.blk mt 1 ?_
        show jWp 93 36 [some (jO x), some (jI (a1 : Int)), some (jI i), some (jI y)] [jI (a1 : Int), jO (x + 1), jI i] 0 0 w _
        refine jWp.aald (pc' := 37) (j := a1) (o := (x + (363 + 6 * a1))) mt rfl rfl (jrg hX.X1 (by decide) (by decide)) (by rw [b32_id (by omega) (by omega)] <;> omega) (jlt hX.X1 (by omega)) (hX.RR a1 (by omega)) ?_
        show jWp 93 37 [some (jO x), some (jI (a1 : Int)), some (jI i), some (jI y)] [jO (x + (363 + 6 * a1)), jI i] 0 0 w _
        refine jWp.callv (as := [jO (x + (363 + 6 * a1))]) (rest := [jI i]) mt rfl rfl rfl ⟨rfl, jtg (hX.KR a1 (by omega))⟩ ?_
        refine jCall.mono (E_ord (w := w) (r := x + (363 + 6 * a1)) (hX.KR a1 (by omega)) hO hlaw hRl.1.1 hRl.1.2) (fun v9 w9 h9 => ?_)
        obtain ⟨rfl, h9⟩ := h9
        subst w9
        show jWp 93 40 [some (jO x), some (jI (a1 : Int)), some (jI i), some (jI y)] [jI (zO (R (1 + 10 * a1))), jI i] 0 0 w _
        have hzo := zO_b hRl.1.1 hRl.1.2
        refine jWp.icmp (pc' := 43) mt rfl rfl (b32_id (by omega) (by omega)) (b32_id (by omega) (by omega)) (fun h4 => ?_) (fun h4 => ?_)
        · have h4 : (zO (R (1 + 10 * a1))) ≤ i := h4
          refine jWp.blk mt 2 ?_
          show _ ∧ jWp 93 52 [some (jO x), some (jI (a1 : Int)), some (jI i), some (jI y)] [jI (-6), jO x] 0 0 w _
          refine ⟨rfl, ?_⟩
          refine jWp.callv (as := [jO x, jI (-6)]) (rest := []) mt rfl rfl rfl ⟨rfl, jtg hX.X0⟩ ?_
          refine jCall.mono (C_refuse (w := w) (j := 5) hX (by decide) (by decide)) (fun v9 w9 h9 => ?_)
          obtain ⟨rfl, h9⟩ := h9
          subst h9
          show jWp 93 55 [some (jO x), some (jI (a1 : Int)), some (jI i), some (jI y)] [jI (-6)] 0 0 (jW w (x + 362) 5 ((w.1 (x + 362) 5) + 1)) _
          refine jWp.ireti mt rfl ⟨rfl, rfl⟩ rfl ?_
          try rw [show ((a1 : Nat) : Int).toNat = a1 from rfl]
          refine ⟨fun c0 => ?_, fun c0 c1 => ?_, fun c0 c1 c2 => ?_, fun c0 c1 c2 => ?_⟩
          all_goals first
          | (exfalso; omega)
          | exact ⟨rfl, rfl⟩
          | exact ⟨rfl, rfl, hf1, hcr⟩
        · have h4 : i < (zO (R (1 + 10 * a1))) := h4
          refine jWp.blk mt 2 ?_
          show jWp 93 46 [some (jO x), some (jI (a1 : Int)), some (jI i), some (jI y)] [jI 9, jI y] 0 0 w _
          refine jWp.icmp (pc' := 49) mt rfl rfl (b32_id (by omega) (by omega)) (show b32 9 = 9 by decide) (fun h5 => ?_) (fun h5 => ?_)
          · have h5 : y ≤ 9 := h5
            obtain ⟨i1, rfl⟩ : ∃ i1 : Nat, i = (i1 : Int) := ⟨i.toNat, by omega⟩
            show jWp 93 56 [some (jO x), some (jI (a1 : Int)), some (jI (i1 : Int)), some (jI y)] [] 0 0 w _
            refine jWp.blk mt 1 ?_
            show _ ∧ jWp 93 57 [some (jO x), some (jI (a1 : Int)), some (jI (i1 : Int)), some (jI y)] [jO x] 0 0 w _
            refine ⟨rfl, ?_⟩
            refine jWp.getR (pc' := 60) (o := (x + 1)) mt rfl rfl (jtg hX.X0) hX.R0 ?_
            show jWp 93 60 [some (jO x), some (jI (a1 : Int)), some (jI (i1 : Int)), some (jI y)] [jO (x + 1)] 0 0 w _
            refine jWp.blk mt 1 ?_
            show jWp 93 61 [some (jO x), some (jI (a1 : Int)), some (jI (i1 : Int)), some (jI y)] [jI (a1 : Int), jO (x + 1)] 0 0 w _
            refine jWp.aald (pc' := 62) (j := a1) (o := (x + (363 + 6 * a1))) mt rfl rfl (jrg hX.X1 (by decide) (by decide)) (by rw [b32_id (by omega) (by omega)] <;> omega) (jlt hX.X1 (by omega)) (hX.RR a1 (by omega)) ?_
            show jWp 93 62 [some (jO x), some (jI (a1 : Int)), some (jI (i1 : Int)), some (jI y)] [jO (x + (363 + 6 * a1))] 0 0 w _
            refine jWp.blk mt 2 ?_
            show jWp 93 64 [some (jO x), some (jI (a1 : Int)), some (jI (i1 : Int)), some (jI y)] [jI y, jI (i1 : Int), jO (x + (363 + 6 * a1))] 0 0 w _
            refine jWp.callv (as := [jO (x + (363 + 6 * a1)), jI (i1 : Int), jI y]) (rest := []) mt rfl rfl rfl ⟨rfl, jtg (hX.KR a1 (by omega))⟩ ?_
            refine jCall.mono (C_tellStart (w := w) (r := x + (363 + 6 * a1)) (rs := x + (364 + 6 * a1)) (rt := x + (365 + 6 * a1)) (hX.KR a1 (by omega)) (hX.KRs a1 (by omega)) (hX.KRt a1 (by omega)) (hX.RRs a1 (by omega)) (hX.RRt a1 (by omega)) hO hlaw hRl.1.1 hRl.1.2 hfig hRl.2.1 (s := fun z => R (3 + 10 * a1 + z)) hst hRl.2.2 (i := i1) (v := y) (by omega) (by omega)) (fun v9 w9 h9 => ?_)
            obtain ⟨rfl, hbf, hcr⟩ := h9
            obtain ⟨M1, G9⟩ := w9
            have hg : G9 = w.2 := hbf.1
            subst hg
            have hf1 := hbf.2
            show jWp 93 67 [some (jO x), some (jI (a1 : Int)), some (jI (i1 : Int)), some (jI y)] [jI (R (3 + 10 * a1 + i1))] 0 0 (M1, w.2) _
            refine jWp.ireti mt rfl ⟨rfl, rfl⟩ rfl ?_
            try rw [show ((a1 : Nat) : Int).toNat = a1 from rfl]
            refine ⟨fun c0 => ?_, fun c0 c1 => ?_, fun c0 c1 c2 => ?_, fun c0 c1 c2 => ?_⟩
            all_goals first
            | (exfalso; omega)
            | exact ⟨rfl, rfl⟩
            | exact ⟨rfl, rfl, hf1, hcr⟩
          · have h5 : 9 < y := h5
            refine jWp.blk mt 2 ?_
            show _ ∧ jWp 93 52 [some (jO x), some (jI (a1 : Int)), some (jI i), some (jI y)] [jI (-6), jO x] 0 0 w _
            refine ⟨rfl, ?_⟩
            refine jWp.callv (as := [jO x, jI (-6)]) (rest := []) mt rfl rfl rfl ⟨rfl, jtg hX.X0⟩ ?_
            refine jCall.mono (C_refuse (w := w) (j := 5) hX (by decide) (by decide)) (fun v9 w9 h9 => ?_)
            obtain ⟨rfl, h9⟩ := h9
            subst h9
            show jWp 93 55 [some (jO x), some (jI (a1 : Int)), some (jI i), some (jI y)] [jI (-6)] 0 0 (jW w (x + 362) 5 ((w.1 (x + 362) 5) + 1)) _
            refine jWp.ireti mt rfl ⟨rfl, rfl⟩ rfl ?_
            try rw [show ((a1 : Nat) : Int).toNat = a1 from rfl]
            refine ⟨fun c0 => ?_, fun c0 c1 => ?_, fun c0 c1 c2 => ?_, fun c0 c1 c2 => ?_⟩
            all_goals first
            | (exfalso; omega)
            | exact ⟨rfl, rfl⟩
            | exact ⟨rfl, rfl, hf1, hcr⟩
      · have h3 : y < 1 := h3
        refine jWp.blk mt 2 ?_
        show _ ∧ jWp 93 26 [some (jO x), some (jI (a1 : Int)), some (jI i), some (jI y)] [jI (-4), jO x] 0 0 w _
        refine ⟨rfl, ?_⟩
        refine jWp.callv (as := [jO x, jI (-4)]) (rest := []) mt rfl rfl rfl ⟨rfl, jtg hX.X0⟩ ?_
        refine jCall.mono (C_refuse (w := w) (j := 3) hX (by decide) (by decide)) (fun v9 w9 h9 => ?_)
        obtain ⟨rfl, h9⟩ := h9
        subst h9
        show jWp 93 29 [some (jO x), some (jI (a1 : Int)), some (jI i), some (jI y)] [jI (-4)] 0 0 (jW w (x + 362) 3 ((w.1 (x + 362) 3) + 1)) _
        refine jWp.ireti mt rfl ⟨rfl, rfl⟩ rfl ?_
        try rw [show ((a1 : Nat) : Int).toNat = a1 from rfl]
        refine ⟨fun c0 => ?_, fun c0 c1 => ?_, fun c0 c1 c2 => ?_, fun c0 c1 c2 => ?_⟩
        all_goals first
        | (exfalso; omega)
        | exact ⟨rfl, rfl⟩
        | exact ⟨rfl, rfl, hf1, hcr⟩
  · have h1 : ¬ (0 ≤ a ∧ a < (c : Int)) := h1
    show jWp 93 5 [some (jO x), some (jI a), some (jI i), some (jI y)] [jI 0] 0 0 w _
    refine jWp.ifc (b := false) mt rfl (by decide) rfl ?_
    show jWp 93 8 [some (jO x), some (jI a), some (jI i), some (jI y)] [] 0 0 w _
    refine jWp.blk mt 2 ?_
    show _ ∧ jWp 93 10 [some (jO x), some (jI a), some (jI i), some (jI y)] [jI (-1), jO x] 0 0 w _
    refine ⟨rfl, ?_⟩
    refine jWp.callv (as := [jO x, jI (-1)]) (rest := []) mt rfl rfl rfl ⟨rfl, jtg hX.X0⟩ ?_
    refine jCall.mono (C_refuse (w := w) (j := 0) hX (by decide) (by decide)) (fun v9 w9 h9 => ?_)
    obtain ⟨rfl, h9⟩ := h9
    subst h9
    show jWp 93 13 [some (jO x), some (jI a), some (jI i), some (jI y)] [jI (-1)] 0 0 (jW w (x + 362) 0 ((w.1 (x + 362) 0) + 1)) _
    refine jWp.ireti mt rfl ⟨rfl, rfl⟩ rfl ?_
    try rw [show ((a1 : Nat) : Int).toNat = a1 from rfl]
    refine ⟨fun c0 => ?_, fun c0 c1 => ?_, fun c0 c1 c2 => ?_, fun c0 c1 c2 => ?_⟩
    all_goals first
    | (exfalso; omega)
    | exact ⟨rfl, rfl⟩
    | exact ⟨rfl, rfl, hf1, hcr⟩
set_option maxHeartbeats 4000000 in
set_option maxRecDepth 20000 in
theorem C_image {w : jS} {x : Nat} (hX : CW w.2 x) {c : Nat} {R : Nat → Int} (hR : zRw R c) (hRW : cRW w x R c) (hO : jOK w) (hao : w.2.2.2.2 < x ∨ x + 392 ≤ w.2.2.2.2) : jCall 125 [jO x] w (fun v w1 => v = some (jI (c : Int)) ∧ w1.2 = w.2 ∧ (∀ b, b ≠ x → b ≠ x + 5 → b ≠ x + 6 → (∀ y, y < 4 → b ≠ x + (366 + 6 * y) ∧ b ≠ x + (367 + 6 * y) ∧ b ≠ x + (368 + 6 * y)) → w1.1 b = w.1 b) ∧ (∀ j, j ≠ 3 → w1.1 x j = w.1 x j) ∧ w1.1 x 3 = (c : Int) ∧ (∀ y, y < c → cRo w1 (x + (366 + 6 * y)) (x + (367 + 6 * y)) (x + (368 + 6 * y)) (R (1 + 10 * y)) (R (2 + 10 * y)) (fun z => R (3 + 10 * y + z))) ∧ cpy w1.1 (x + 5) (x + 6) w.1 (x + 3) (x + 4)) := by
  have mt : jtb 125 = jT125 := rfl
  have hc4 := hR.2.1
  show jWp 125 0 [some (jO x), none] [] 0 0 w _
  refine jWp.blk mt 2 ?_
  show jWp 125 2 [some (jO x), some (jI 0)] [] 0 0 w _
  have lp1 : ∀ (N : Nat) (i : Nat) (M1 : Nat → Nat → Int) (hi : i ≤ c) (hfr : ∀ b, (∀ y, y < 4 → b ≠ x + (366 + 6 * y) ∧ b ≠ x + (367 + 6 * y) ∧ b ≠ x + (368 + 6 * y)) → M1 b = w.1 b) (hdn : ∀ y, y < i → cRo ((M1, w.2) : jS) (x + (366 + 6 * y)) (x + (367 + 6 * y)) (x + (368 + 6 * y)) (R (1 + 10 * y)) (R (2 + 10 * y)) (fun z => R (3 + 10 * y + z))), c - i < N → jWp 125 2 [some (jO x), some (jI (i : Int))] [] 0 0 (M1, w.2) (fun v w1 => v = some (jI (c : Int)) ∧ w1.2 = w.2 ∧ (∀ b, b ≠ x → b ≠ x + 5 → b ≠ x + 6 → (∀ y, y < 4 → b ≠ x + (366 + 6 * y) ∧ b ≠ x + (367 + 6 * y) ∧ b ≠ x + (368 + 6 * y)) → w1.1 b = w.1 b) ∧ (∀ j, j ≠ 3 → w1.1 x j = w.1 x j) ∧ w1.1 x 3 = (c : Int) ∧ (∀ y, y < c → cRo w1 (x + (366 + 6 * y)) (x + (367 + 6 * y)) (x + (368 + 6 * y)) (R (1 + 10 * y)) (R (2 + 10 * y)) (fun z => R (3 + 10 * y + z))) ∧ cpy w1.1 (x + 5) (x + 6) w.1 (x + 3) (x + 4)) := by
    intro N
    induction N with
    | zero => intro i M1 hi hfr hdn hm; omega
    | succ N ih2 =>
      intro i M1 hi hfr hdn hm
      have hri := fun h : i < c => hRW.2 i h
      have hRi := fun h : i < c => hR.2.2 i h
      refine jWp.blk mt 2 ?_
      show _ ∧ jWp 125 4 [some (jO x), some (jI (i : Int))] [jO x, jI (i : Int)] 0 0 (M1, w.2) _
      refine ⟨rfl, ?_⟩
      refine jWp.getI (pc' := 7) mt rfl rfl (jtg hX.X0) ?_
      rw [show ((M1, w.2).1 x 1) = (c : Int) from ((congrFun (hfr x (fun y hy => by omega)) 1).trans hRW.1)]
      show jWp 125 7 [some (jO x), some (jI (i : Int))] [jI (c : Int), jI (i : Int)] 0 0 (M1, w.2) _
      refine jWp.icmp (pc' := 10) mt rfl rfl (b32_id (by omega) (by omega)) (b32_id (by omega) (by omega)) (fun h3 => ?_) (fun h3 => ?_)
      · have h3 : (c : Int) ≤ (i : Int) := h3
        refine jWp.blk mt 2 ?_
        show _ ∧ _ ∧ jWp 125 38 [some (jO x), some (jI (i : Int))] [jO x, jO x] 0 0 (M1, w.2) _
        refine ⟨rfl, rfl, ?_⟩
        refine jWp.getI (pc' := 41) mt rfl rfl (jtg hX.X0) ?_
        rw [show ((M1, w.2).1 x 1) = (c : Int) from ((congrFun (hfr x (fun y hy => by omega)) 1).trans hRW.1)]
        show jWp 125 41 [some (jO x), some (jI (i : Int))] [jI (c : Int), jO x] 0 0 (M1, w.2) _
        refine jWp.putI (pc' := 44) mt rfl rfl (jtg hX.X0) ?_
        show jWp 125 44 [some (jO x), some (jI (i : Int))] [] 0 0 (jW (M1, w.2) x 3 (c : Int)) _
        refine jWp.blk mt 1 ?_
        show _ ∧ jWp 125 45 [some (jO x), some (jI (i : Int))] [jO x] 0 0 (jW (M1, w.2) x 3 (c : Int)) _
        refine ⟨rfl, ?_⟩
        refine jWp.getR (pc' := 48) (o := (x + 5)) mt rfl rfl (jtg hX.X0) hX.R5 ?_
        show jWp 125 48 [some (jO x), some (jI (i : Int))] [jO (x + 5)] 0 0 (jW (M1, w.2) x 3 (c : Int)) _
        refine jWp.blk mt 1 ?_
        show _ ∧ jWp 125 49 [some (jO x), some (jI (i : Int))] [jO x, jO (x + 5)] 0 0 (jW (M1, w.2) x 3 (c : Int)) _
        refine ⟨rfl, ?_⟩
        refine jWp.getR (pc' := 52) (o := (x + 3)) mt rfl rfl (jtg hX.X0) hX.R4 ?_
        show jWp 125 52 [some (jO x), some (jI (i : Int))] [jO (x + 3), jO (x + 5)] 0 0 (jW (M1, w.2) x 3 (c : Int)) _
        refine jWp.callv (as := [jO (x + 5), jO (x + 3)]) (rest := []) mt rfl rfl rfl ⟨rfl, jtg hX.X5⟩ ?_
        refine jCall.mono (C_become (w := (jW (M1, w.2) x 3 (c : Int))) (s := x + 5) (sc := x + 6) hX.X5 hX.X6 hX.Ri (s2 := x + 3) (sc2 := x + 4) hX.X3 hX.X4 hX.Rc rfl) (fun v9 w9 h9 => ?_)
        obtain ⟨rfl, hbf, hn3, hc3⟩ := h9
        obtain ⟨M3, G9⟩ := w9
        have hg : G9 = w.2 := hbf.1
        subst hg
        have hf3 := hbf.2
        show jWp 125 55 [some (jO x), some (jI (i : Int))] [] 0 0 (M3, w.2) _
        refine jWp.blk mt 1 ?_
        show _ ∧ jWp 125 56 [some (jO x), some (jI (i : Int))] [jO x] 0 0 (M3, w.2) _
        refine ⟨rfl, ?_⟩
        refine jWp.getI (pc' := 59) mt rfl rfl (jtg hX.X0) ?_
        rw [show ((M3, w.2).1 x 1) = (c : Int) from ((congrFun (hf3 x (by omega) (by omega)) 1).trans ((jW_k (by decide)).trans ((congrFun (hfr x (fun y hy => by omega)) 1).trans hRW.1)))]
        show jWp 125 59 [some (jO x), some (jI (i : Int))] [jI (c : Int)] 0 0 (M3, w.2) _
        refine jWp.ireti mt rfl ⟨rfl, rfl⟩ rfl ?_
        have hfx : ∀ b, b ≠ x → b ≠ x + 5 → b ≠ x + 6 → M3 b = M1 b := fun b g0 g1 g2 => (hf3 b g1 g2).trans (jW_f g0)
        refine ⟨rfl, rfl, fun b g0 g1 g2 g3 => (hfx b g0 g1 g2).trans (hfr b g3), fun j hj => (congrFun (hf3 x (by omega) (by omega)) j).trans ((jW_k hj).trans (congrFun (hfr x (fun y hy => by omega)) j)), (congrFun (hf3 x (by omega) (by omega)) 3).trans jW_s, fun y hy => cRo_k (hfx _ (by omega) (by omega) (by omega)) (hfx _ (by omega) (by omega) (by omega)) (hfx _ (by omega) (by omega) (by omega)) (hdn y (by omega)), ?_, fun j hj => ?_⟩
        · exact hn3.trans ((jW_a (by omega)).trans (congrFun (hfr (x + 3) (fun y hy => by omega)) 0))
        · exact (hc3 j hj).trans ((jW_a (by omega)).trans (congrFun (hfr (x + 4) (fun y hy => by omega)) j))
      · have h3 : (i : Int) < (c : Int) := h3
        refine jWp.blk mt 2 ?_
        show jWp 125 12 [some (jO x), some (jI (i : Int))] [jI 4, jI (i : Int)] 0 0 (M1, w.2) _
        refine jWp.icmp (pc' := 15) mt rfl rfl (b32_id (by omega) (by omega)) (show b32 4 = 4 by decide) (fun h4 => ?_) (fun h4 => ?_)
        · have h4 : 4 ≤ (i : Int) := h4
          refine jWp.blk mt 2 ?_
          show _ ∧ _ ∧ jWp 125 38 [some (jO x), some (jI (i : Int))] [jO x, jO x] 0 0 (M1, w.2) _
          refine ⟨rfl, rfl, ?_⟩
          refine jWp.getI (pc' := 41) mt rfl rfl (jtg hX.X0) ?_
          rw [show ((M1, w.2).1 x 1) = (c : Int) from ((congrFun (hfr x (fun y hy => by omega)) 1).trans hRW.1)]
          show jWp 125 41 [some (jO x), some (jI (i : Int))] [jI (c : Int), jO x] 0 0 (M1, w.2) _
          refine jWp.putI (pc' := 44) mt rfl rfl (jtg hX.X0) ?_
          show jWp 125 44 [some (jO x), some (jI (i : Int))] [] 0 0 (jW (M1, w.2) x 3 (c : Int)) _
          refine jWp.blk mt 1 ?_
          show _ ∧ jWp 125 45 [some (jO x), some (jI (i : Int))] [jO x] 0 0 (jW (M1, w.2) x 3 (c : Int)) _
          refine ⟨rfl, ?_⟩
          refine jWp.getR (pc' := 48) (o := (x + 5)) mt rfl rfl (jtg hX.X0) hX.R5 ?_
          show jWp 125 48 [some (jO x), some (jI (i : Int))] [jO (x + 5)] 0 0 (jW (M1, w.2) x 3 (c : Int)) _
          refine jWp.blk mt 1 ?_
          show _ ∧ jWp 125 49 [some (jO x), some (jI (i : Int))] [jO x, jO (x + 5)] 0 0 (jW (M1, w.2) x 3 (c : Int)) _
          refine ⟨rfl, ?_⟩
          refine jWp.getR (pc' := 52) (o := (x + 3)) mt rfl rfl (jtg hX.X0) hX.R4 ?_
          show jWp 125 52 [some (jO x), some (jI (i : Int))] [jO (x + 3), jO (x + 5)] 0 0 (jW (M1, w.2) x 3 (c : Int)) _
          refine jWp.callv (as := [jO (x + 5), jO (x + 3)]) (rest := []) mt rfl rfl rfl ⟨rfl, jtg hX.X5⟩ ?_
          refine jCall.mono (C_become (w := (jW (M1, w.2) x 3 (c : Int))) (s := x + 5) (sc := x + 6) hX.X5 hX.X6 hX.Ri (s2 := x + 3) (sc2 := x + 4) hX.X3 hX.X4 hX.Rc rfl) (fun v9 w9 h9 => ?_)
          obtain ⟨rfl, hbf, hn3, hc3⟩ := h9
          obtain ⟨M3, G9⟩ := w9
          have hg : G9 = w.2 := hbf.1
          subst hg
          have hf3 := hbf.2
          show jWp 125 55 [some (jO x), some (jI (i : Int))] [] 0 0 (M3, w.2) _
          refine jWp.blk mt 1 ?_
          show _ ∧ jWp 125 56 [some (jO x), some (jI (i : Int))] [jO x] 0 0 (M3, w.2) _
          refine ⟨rfl, ?_⟩
          refine jWp.getI (pc' := 59) mt rfl rfl (jtg hX.X0) ?_
          rw [show ((M3, w.2).1 x 1) = (c : Int) from ((congrFun (hf3 x (by omega) (by omega)) 1).trans ((jW_k (by decide)).trans ((congrFun (hfr x (fun y hy => by omega)) 1).trans hRW.1)))]
          show jWp 125 59 [some (jO x), some (jI (i : Int))] [jI (c : Int)] 0 0 (M3, w.2) _
          refine jWp.ireti mt rfl ⟨rfl, rfl⟩ rfl ?_
          have hfx : ∀ b, b ≠ x → b ≠ x + 5 → b ≠ x + 6 → M3 b = M1 b := fun b g0 g1 g2 => (hf3 b g1 g2).trans (jW_f g0)
          refine ⟨rfl, rfl, fun b g0 g1 g2 g3 => (hfx b g0 g1 g2).trans (hfr b g3), fun j hj => (congrFun (hf3 x (by omega) (by omega)) j).trans ((jW_k hj).trans (congrFun (hfr x (fun y hy => by omega)) j)), (congrFun (hf3 x (by omega) (by omega)) 3).trans jW_s, fun y hy => cRo_k (hfx _ (by omega) (by omega) (by omega)) (hfx _ (by omega) (by omega) (by omega)) (hfx _ (by omega) (by omega) (by omega)) (hdn y (by omega)), ?_, fun j hj => ?_⟩
          · exact hn3.trans ((jW_a (by omega)).trans (congrFun (hfr (x + 3) (fun y hy => by omega)) 0))
          · exact (hc3 j hj).trans ((jW_a (by omega)).trans (congrFun (hfr (x + 4) (fun y hy => by omega)) j))
        · have h4 : (i : Int) < 4 := h4
          refine jWp.blk mt 1 ?_
          show _ ∧ jWp 125 16 [some (jO x), some (jI (i : Int))] [jO x] 0 0 (M1, w.2) _
          refine ⟨rfl, ?_⟩
          refine jWp.getR (pc' := 19) (o := (x + 2)) mt rfl rfl (jtg hX.X0) hX.R2 ?_
          show jWp 125 19 [some (jO x), some (jI (i : Int))] [jO (x + 2)] 0 0 (M1, w.2) _
          refine jWp.blk mt 1 ?_
          show jWp 125 20 [some (jO x), some (jI (i : Int))] [jI (i : Int), jO (x + 2)] 0 0 (M1, w.2) _
          refine jWp.aald (pc' := 21) (j := i) (o := (x + (366 + 6 * i))) mt rfl rfl (jrg hX.X2 (by decide) (by decide)) (b32_id (by omega) (by omega)) (jlt hX.X2 (by omega)) (hX.RI i (by omega)) ?_
          show jWp 125 21 [some (jO x), some (jI (i : Int))] [jO (x + (366 + 6 * i))] 0 0 (M1, w.2) _
          refine jWp.blk mt 1 ?_
          show _ ∧ jWp 125 22 [some (jO x), some (jI (i : Int))] [jO x, jO (x + (366 + 6 * i))] 0 0 (M1, w.2) _
          refine ⟨rfl, ?_⟩
          refine jWp.getR (pc' := 25) (o := (x + 1)) mt rfl rfl (jtg hX.X0) hX.R0 ?_
          show jWp 125 25 [some (jO x), some (jI (i : Int))] [jO (x + 1), jO (x + (366 + 6 * i))] 0 0 (M1, w.2) _
          refine jWp.blk mt 1 ?_
          show jWp 125 26 [some (jO x), some (jI (i : Int))] [jI (i : Int), jO (x + 1), jO (x + (366 + 6 * i))] 0 0 (M1, w.2) _
          refine jWp.aald (pc' := 27) (j := i) (o := (x + (363 + 6 * i))) mt rfl rfl (jrg hX.X1 (by decide) (by decide)) (b32_id (by omega) (by omega)) (jlt hX.X1 (by omega)) (hX.RR i (by omega)) ?_
          show jWp 125 27 [some (jO x), some (jI (i : Int))] [jO (x + (363 + 6 * i)), jO (x + (366 + 6 * i))] 0 0 (M1, w.2) _
          refine jWp.callv (as := [jO (x + (366 + 6 * i)), jO (x + (363 + 6 * i))]) (rest := []) mt rfl rfl rfl ⟨rfl, jtg (hX.KI i (by omega))⟩ ?_
          refine jCall.mono (C_rbecome (w := (M1, w.2)) (r := x + (366 + 6 * i)) (rs := x + (367 + 6 * i)) (rt := x + (368 + 6 * i)) (hX.KI i (by omega)) (hX.KIs i (by omega)) (hX.KIt i (by omega)) (hX.RIs i (by omega)) (hX.RIt i (by omega)) (jOK_M hO (hfr _ (fun y hy => by omega))) (r2 := x + (363 + 6 * i)) (rs2 := x + (364 + 6 * i)) (rt2 := x + (365 + 6 * i)) (hX.KR i (by omega)) (hX.KRs i (by omega)) (hX.RRs i (by omega)) (hRi (by omega)).1.1 (hRi (by omega)).1.2 (hRi (by omega)).2.1 (s := fun z => R (3 + 10 * i + z)) (hRi (by omega)).2.2 (by omega) ((congrFun (hfr (x + (363 + 6 * i)) (fun y hy => by omega)) 0).trans (hri (by omega)).1) ((congrFun (hfr (x + (363 + 6 * i)) (fun y hy => by omega)) 1).trans (hri (by omega)).2.1) (fun z hz => (congrFun (hfr (x + (364 + 6 * i)) (fun y hy => by omega)) z).trans ((hri (by omega)).2.2.1 z hz))) (fun v9 w9 h9 => ?_)
          obtain ⟨rfl, hbf, hcr⟩ := h9
          obtain ⟨M2, G9⟩ := w9
          have hg : G9 = w.2 := hbf.1
          subst hg
          have hf2 := hbf.2
          show jWp 125 30 [some (jO x), some (jI (i : Int))] [] 0 0 (M2, w.2) _
          refine jWp.blk mt 2 ?_
          show jWp 125 2 [some (jO x), some (jI ((i : Int) + 1))] [] 0 0 (M2, w.2) _
          refine jWp.le (l := [some (jO x), some (jI ((i : Int) + 1))]) (by exact ⟨rfl, rfl, trivial⟩) ?_
          exact ih2 (i + 1) M2 (by omega) (fun b hb => (hf2 b (hb i (by omega)).1 (hb i (by omega)).2.1 (hb i (by omega)).2.2).trans (hfr b hb)) (fun y hy => by
                rcases Nat.lt_or_ge y i with e | e
                · exact cRo_k (hf2 _ (by omega) (by omega) (by omega)) (hf2 _ (by omega) (by omega) (by omega)) (hf2 _ (by omega) (by omega) (by omega)) (hdn y e)
                · rw [show y = i by omega]
                  exact hcr) (by omega)
  refine jWp.le (l := [some (jO x), some (jI 0)]) (by exact ⟨rfl, rfl, trivial⟩) ?_
  exact lp1 _ 0 w.1 (by omega) (fun b _ => rfl) (fun y hy => absurd hy (by omega)) (Nat.lt_succ_self _)
end
section
set_option maxHeartbeats 4000000 in
set_option maxRecDepth 20000 in
theorem C_on0 {w : jS} {x : Nat} (hX : CW w.2 x) (hI : w.1 x 3 = -1) : jCall 126 [jO x] w (cno w x 2 (jI (-3))) := by
  have mt : jtb 126 = jT126 := rfl
  show jWp 126 0 [some (jO x), none] [] 0 0 w _
  refine jWp.blk mt 1 ?_
  show _ ∧ jWp 126 1 [some (jO x), none] [jO x] 0 0 w _
  refine ⟨rfl, ?_⟩
  refine jWp.getI (pc' := 4) mt rfl rfl (jtg hX.X0) ?_
  rw [show (w.1 x 3) = (-1 : Int) from hI]
  show jWp 126 4 [some (jO x), none] [jI (-1 : Int)] 0 0 w _
  refine jWp.ifz (pc' := 7) mt rfl rfl (b32_id (by omega) (by omega)) (fun h1 => ?_) (fun h1 => ?_)
  · have h1 : 0 ≤ (-1 : Int) := h1
    exfalso; omega
  · have h1 : (-1 : Int) < 0 := h1
    refine jWp.blk mt 2 ?_
    show _ ∧ jWp 126 10 [some (jO x), none] [jI (-3), jO x] 0 0 w _
    refine ⟨rfl, ?_⟩
    refine jWp.callv (as := [jO x, jI (-3)]) (rest := []) mt rfl rfl rfl ⟨rfl, jtg hX.X0⟩ ?_
    refine jCall.mono (C_refuse (w := w) (j := 2) hX (by decide) (by decide)) (fun v9 w9 h9 => ?_)
    obtain ⟨rfl, h9⟩ := h9
    subst h9
    show jWp 126 13 [some (jO x), none] [jI (-3)] 0 0 (jW w (x + 362) 2 ((w.1 (x + 362) 2) + 1)) _
    refine jWp.ireti mt rfl ⟨rfl, rfl⟩ rfl ?_
    exact ⟨rfl, rfl⟩
set_option maxHeartbeats 4000000 in
set_option maxRecDepth 20000 in
theorem C_on {w : jS} {x : Nat} (hX : CW w.2 x) {k : Nat} {R : Nat → Int} (hI : w.1 x 3 = (k : Int)) (hR : zRw R k) (hIW : ∀ i, i < k → cRo w (x + (366 + 6 * i)) (x + (367 + 6 * i)) (x + (368 + 6 * i)) (R (1 + 10 * i)) (R (2 + 10 * i)) (fun z => R (3 + 10 * i + z))) (hO : jOK w) (hao : w.2.2.2.2 < x ∨ x + 392 ≤ w.2.2.2.2) : jCall 126 [jO x] w (fun v w1 => v = some (jI (k : Int)) ∧ w1.2 = w.2 ∧ (∀ b, b ≠ x → b ≠ x + 3 → b ≠ x + 4 → b ≠ x + 341 → (∀ y, y < 4 → b ≠ x + (363 + 6 * y) ∧ b ≠ x + (364 + 6 * y) ∧ b ≠ x + (365 + 6 * y)) → w1.1 b = w.1 b) ∧ (∀ j, j ≠ 1 → w1.1 x j = w.1 x j) ∧ cRW w1 x R k ∧ cpy w1.1 (x + 3) (x + 4) w.1 (x + 5) (x + 6) ∧ w1.1 (x + 341) 0 = 0) := by
  have mt : jtb 126 = jT126 := rfl
  have hc4 := hR.2.1
  show jWp 126 0 [some (jO x), none] [] 0 0 w _
  refine jWp.blk mt 1 ?_
  show _ ∧ jWp 126 1 [some (jO x), none] [jO x] 0 0 w _
  refine ⟨rfl, ?_⟩
  refine jWp.getI (pc' := 4) mt rfl rfl (jtg hX.X0) ?_
  rw [show (w.1 x 3) = (k : Int) from hI]
  show jWp 126 4 [some (jO x), none] [jI (k : Int)] 0 0 w _
  refine jWp.ifz (pc' := 7) mt rfl rfl (b32_id (by omega) (by omega)) (fun h1 => ?_) (fun h1 => ?_)
  · have h1 : 0 ≤ (k : Int) := h1
    refine jWp.blk mt 2 ?_
    show jWp 126 16 [some (jO x), some (jI 0)] [] 0 0 w _
    have lp2 : ∀ (N : Nat) (i : Nat) (M1 : Nat → Nat → Int) (hi : i ≤ k) (hfr : ∀ b, (∀ y, y < 4 → b ≠ x + (363 + 6 * y) ∧ b ≠ x + (364 + 6 * y) ∧ b ≠ x + (365 + 6 * y)) → M1 b = w.1 b) (hdn : ∀ y, y < i → cRo ((M1, w.2) : jS) (x + (363 + 6 * y)) (x + (364 + 6 * y)) (x + (365 + 6 * y)) (R (1 + 10 * y)) (R (2 + 10 * y)) (fun z => R (3 + 10 * y + z))), k - i < N → jWp 126 16 [some (jO x), some (jI (i : Int))] [] 0 0 (M1, w.2) (fun v w1 => v = some (jI (k : Int)) ∧ w1.2 = w.2 ∧ (∀ b, b ≠ x → b ≠ x + 3 → b ≠ x + 4 → b ≠ x + 341 → (∀ y, y < 4 → b ≠ x + (363 + 6 * y) ∧ b ≠ x + (364 + 6 * y) ∧ b ≠ x + (365 + 6 * y)) → w1.1 b = w.1 b) ∧ (∀ j, j ≠ 1 → w1.1 x j = w.1 x j) ∧ cRW w1 x R k ∧ cpy w1.1 (x + 3) (x + 4) w.1 (x + 5) (x + 6) ∧ w1.1 (x + 341) 0 = 0) := by
      intro N
      induction N with
      | zero => intro i M1 hi hfr hdn hm; omega
      | succ N ih3 =>
        intro i M1 hi hfr hdn hm
        have hri := fun h : i < k => hIW i h
        have hRi := fun h : i < k => hR.2.2 i h
        refine jWp.blk mt 2 ?_
        show _ ∧ jWp 126 18 [some (jO x), some (jI (i : Int))] [jO x, jI (i : Int)] 0 0 (M1, w.2) _
        refine ⟨rfl, ?_⟩
        refine jWp.getI (pc' := 21) mt rfl rfl (jtg hX.X0) ?_
        rw [show ((M1, w.2).1 x 3) = (k : Int) from ((congrFun (hfr x (fun y hy => by omega)) 3).trans hI)]
        show jWp 126 21 [some (jO x), some (jI (i : Int))] [jI (k : Int), jI (i : Int)] 0 0 (M1, w.2) _
        refine jWp.icmp (pc' := 24) mt rfl rfl (b32_id (by omega) (by omega)) (b32_id (by omega) (by omega)) (fun h4 => ?_) (fun h4 => ?_)
        · have h4 : (k : Int) ≤ (i : Int) := h4
          refine jWp.blk mt 2 ?_
          show _ ∧ _ ∧ jWp 126 52 [some (jO x), some (jI (i : Int))] [jO x, jO x] 0 0 (M1, w.2) _
          refine ⟨rfl, rfl, ?_⟩
          refine jWp.getI (pc' := 55) mt rfl rfl (jtg hX.X0) ?_
          rw [show ((M1, w.2).1 x 3) = (k : Int) from ((congrFun (hfr x (fun y hy => by omega)) 3).trans hI)]
          show jWp 126 55 [some (jO x), some (jI (i : Int))] [jI (k : Int), jO x] 0 0 (M1, w.2) _
          refine jWp.putI (pc' := 58) mt rfl rfl (jtg hX.X0) ?_
          show jWp 126 58 [some (jO x), some (jI (i : Int))] [] 0 0 (jW (M1, w.2) x 1 (k : Int)) _
          refine jWp.blk mt 1 ?_
          show _ ∧ jWp 126 59 [some (jO x), some (jI (i : Int))] [jO x] 0 0 (jW (M1, w.2) x 1 (k : Int)) _
          refine ⟨rfl, ?_⟩
          refine jWp.getR (pc' := 62) (o := (x + 3)) mt rfl rfl (jtg hX.X0) hX.R4 ?_
          show jWp 126 62 [some (jO x), some (jI (i : Int))] [jO (x + 3)] 0 0 (jW (M1, w.2) x 1 (k : Int)) _
          refine jWp.blk mt 1 ?_
          show _ ∧ jWp 126 63 [some (jO x), some (jI (i : Int))] [jO x, jO (x + 3)] 0 0 (jW (M1, w.2) x 1 (k : Int)) _
          refine ⟨rfl, ?_⟩
          refine jWp.getR (pc' := 66) (o := (x + 5)) mt rfl rfl (jtg hX.X0) hX.R5 ?_
          show jWp 126 66 [some (jO x), some (jI (i : Int))] [jO (x + 5), jO (x + 3)] 0 0 (jW (M1, w.2) x 1 (k : Int)) _
          refine jWp.callv (as := [jO (x + 3), jO (x + 5)]) (rest := []) mt rfl rfl rfl ⟨rfl, jtg hX.X3⟩ ?_
          refine jCall.mono (C_become (w := (jW (M1, w.2) x 1 (k : Int))) (s := x + 3) (sc := x + 4) hX.X3 hX.X4 hX.Rc (s2 := x + 5) (sc2 := x + 6) hX.X5 hX.X6 hX.Ri rfl) (fun v9 w9 h9 => ?_)
          obtain ⟨rfl, hbf, hn3, hc3⟩ := h9
          obtain ⟨M3, G9⟩ := w9
          have hg : G9 = w.2 := hbf.1
          subst hg
          have hf3 := hbf.2
          show jWp 126 69 [some (jO x), some (jI (i : Int))] [] 0 0 (M3, w.2) _
          refine jWp.blk mt 1 ?_
          show _ ∧ jWp 126 70 [some (jO x), some (jI (i : Int))] [jO x] 0 0 (M3, w.2) _
          refine ⟨rfl, ?_⟩
          refine jWp.getR (pc' := 73) (o := (x + 341)) mt rfl rfl (jtg hX.X0) hX.R10 ?_
          show jWp 126 73 [some (jO x), some (jI (i : Int))] [jO (x + 341)] 0 0 (M3, w.2) _
          refine jWp.callv (as := [jO (x + 341)]) (rest := []) mt rfl rfl rfl ⟨rfl, jtg hX.XP.1⟩ ?_
          refine jCall.mono (C_pforget (w := (M3, w.2)) (pa := x + 341) hX.XP.1) (fun v9 w9 h9 => ?_)
          obtain ⟨rfl, h9⟩ := h9
          subst h9
          show jWp 126 76 [some (jO x), some (jI (i : Int))] [] 0 0 (jW (M3, w.2) (x + 341) 0 0) _
          refine jWp.blk mt 1 ?_
          show _ ∧ jWp 126 77 [some (jO x), some (jI (i : Int))] [jO x] 0 0 (jW (M3, w.2) (x + 341) 0 0) _
          refine ⟨rfl, ?_⟩
          refine jWp.getI (pc' := 80) mt rfl rfl (jtg hX.X0) ?_
          rw [show ((jW (M3, w.2) (x + 341) 0 0).1 x 1) = (k : Int) from (((jW_a (by omega)).trans rfl).trans ((congrFun (hf3 x (by omega) (by omega)) 1).trans jW_s))]
          show jWp 126 80 [some (jO x), some (jI (i : Int))] [jI (k : Int)] 0 0 (jW (M3, w.2) (x + 341) 0 0) _
          refine jWp.ireti mt rfl ⟨rfl, rfl⟩ rfl ?_
          have hfx : ∀ b, b ≠ x → b ≠ x + 3 → b ≠ x + 4 → b ≠ x + 341 → (jW (M3, w.2) (x + 341) 0 0).1 b = M1 b := fun b g0 g1 g2 g3 => (jW_f g3).trans ((hf3 b g1 g2).trans (jW_f g0))
          refine ⟨rfl, rfl, fun b g0 g1 g2 g3 g4 => (hfx b g0 g1 g2 g3).trans (hfr b g4), fun j hj => (jW_a (by omega)).trans ((congrFun (hf3 x (by omega) (by omega)) j).trans ((jW_k hj).trans (congrFun (hfr x (fun y hy => by omega)) j))), ⟨(jW_a (by omega)).trans ((congrFun (hf3 x (by omega) (by omega)) 1).trans jW_s), fun y hy => cRo_k (hfx _ (by omega) (by omega) (by omega) (by omega)) (hfx _ (by omega) (by omega) (by omega) (by omega)) (hfx _ (by omega) (by omega) (by omega) (by omega)) (hdn y (by omega))⟩, ⟨?_, fun j hj => ?_⟩, jW_s⟩
          · exact (jW_a (by omega)).trans (hn3.trans ((jW_a (by omega)).trans (congrFun (hfr (x + 5) (fun y hy => by omega)) 0)))
          · exact (jW_a (by omega)).trans ((hc3 j hj).trans ((jW_a (by omega)).trans (congrFun (hfr (x + 6) (fun y hy => by omega)) j)))
        · have h4 : (i : Int) < (k : Int) := h4
          refine jWp.blk mt 2 ?_
          show jWp 126 26 [some (jO x), some (jI (i : Int))] [jI 4, jI (i : Int)] 0 0 (M1, w.2) _
          refine jWp.icmp (pc' := 29) mt rfl rfl (b32_id (by omega) (by omega)) (show b32 4 = 4 by decide) (fun h5 => ?_) (fun h5 => ?_)
          · have h5 : 4 ≤ (i : Int) := h5
            refine jWp.blk mt 2 ?_
            show _ ∧ _ ∧ jWp 126 52 [some (jO x), some (jI (i : Int))] [jO x, jO x] 0 0 (M1, w.2) _
            refine ⟨rfl, rfl, ?_⟩
            refine jWp.getI (pc' := 55) mt rfl rfl (jtg hX.X0) ?_
            rw [show ((M1, w.2).1 x 3) = (k : Int) from ((congrFun (hfr x (fun y hy => by omega)) 3).trans hI)]
            show jWp 126 55 [some (jO x), some (jI (i : Int))] [jI (k : Int), jO x] 0 0 (M1, w.2) _
            refine jWp.putI (pc' := 58) mt rfl rfl (jtg hX.X0) ?_
            show jWp 126 58 [some (jO x), some (jI (i : Int))] [] 0 0 (jW (M1, w.2) x 1 (k : Int)) _
            refine jWp.blk mt 1 ?_
            show _ ∧ jWp 126 59 [some (jO x), some (jI (i : Int))] [jO x] 0 0 (jW (M1, w.2) x 1 (k : Int)) _
            refine ⟨rfl, ?_⟩
            refine jWp.getR (pc' := 62) (o := (x + 3)) mt rfl rfl (jtg hX.X0) hX.R4 ?_
            show jWp 126 62 [some (jO x), some (jI (i : Int))] [jO (x + 3)] 0 0 (jW (M1, w.2) x 1 (k : Int)) _
            refine jWp.blk mt 1 ?_
            show _ ∧ jWp 126 63 [some (jO x), some (jI (i : Int))] [jO x, jO (x + 3)] 0 0 (jW (M1, w.2) x 1 (k : Int)) _
            refine ⟨rfl, ?_⟩
            refine jWp.getR (pc' := 66) (o := (x + 5)) mt rfl rfl (jtg hX.X0) hX.R5 ?_
            show jWp 126 66 [some (jO x), some (jI (i : Int))] [jO (x + 5), jO (x + 3)] 0 0 (jW (M1, w.2) x 1 (k : Int)) _
            refine jWp.callv (as := [jO (x + 3), jO (x + 5)]) (rest := []) mt rfl rfl rfl ⟨rfl, jtg hX.X3⟩ ?_
            refine jCall.mono (C_become (w := (jW (M1, w.2) x 1 (k : Int))) (s := x + 3) (sc := x + 4) hX.X3 hX.X4 hX.Rc (s2 := x + 5) (sc2 := x + 6) hX.X5 hX.X6 hX.Ri rfl) (fun v9 w9 h9 => ?_)
            obtain ⟨rfl, hbf, hn3, hc3⟩ := h9
            obtain ⟨M3, G9⟩ := w9
            have hg : G9 = w.2 := hbf.1
            subst hg
            have hf3 := hbf.2
            show jWp 126 69 [some (jO x), some (jI (i : Int))] [] 0 0 (M3, w.2) _
            refine jWp.blk mt 1 ?_
            show _ ∧ jWp 126 70 [some (jO x), some (jI (i : Int))] [jO x] 0 0 (M3, w.2) _
            refine ⟨rfl, ?_⟩
            refine jWp.getR (pc' := 73) (o := (x + 341)) mt rfl rfl (jtg hX.X0) hX.R10 ?_
            show jWp 126 73 [some (jO x), some (jI (i : Int))] [jO (x + 341)] 0 0 (M3, w.2) _
            refine jWp.callv (as := [jO (x + 341)]) (rest := []) mt rfl rfl rfl ⟨rfl, jtg hX.XP.1⟩ ?_
            refine jCall.mono (C_pforget (w := (M3, w.2)) (pa := x + 341) hX.XP.1) (fun v9 w9 h9 => ?_)
            obtain ⟨rfl, h9⟩ := h9
            subst h9
            show jWp 126 76 [some (jO x), some (jI (i : Int))] [] 0 0 (jW (M3, w.2) (x + 341) 0 0) _
            refine jWp.blk mt 1 ?_
            show _ ∧ jWp 126 77 [some (jO x), some (jI (i : Int))] [jO x] 0 0 (jW (M3, w.2) (x + 341) 0 0) _
            refine ⟨rfl, ?_⟩
            refine jWp.getI (pc' := 80) mt rfl rfl (jtg hX.X0) ?_
            rw [show ((jW (M3, w.2) (x + 341) 0 0).1 x 1) = (k : Int) from (((jW_a (by omega)).trans rfl).trans ((congrFun (hf3 x (by omega) (by omega)) 1).trans jW_s))]
            show jWp 126 80 [some (jO x), some (jI (i : Int))] [jI (k : Int)] 0 0 (jW (M3, w.2) (x + 341) 0 0) _
            refine jWp.ireti mt rfl ⟨rfl, rfl⟩ rfl ?_
            have hfx : ∀ b, b ≠ x → b ≠ x + 3 → b ≠ x + 4 → b ≠ x + 341 → (jW (M3, w.2) (x + 341) 0 0).1 b = M1 b := fun b g0 g1 g2 g3 => (jW_f g3).trans ((hf3 b g1 g2).trans (jW_f g0))
            refine ⟨rfl, rfl, fun b g0 g1 g2 g3 g4 => (hfx b g0 g1 g2 g3).trans (hfr b g4), fun j hj => (jW_a (by omega)).trans ((congrFun (hf3 x (by omega) (by omega)) j).trans ((jW_k hj).trans (congrFun (hfr x (fun y hy => by omega)) j))), ⟨(jW_a (by omega)).trans ((congrFun (hf3 x (by omega) (by omega)) 1).trans jW_s), fun y hy => cRo_k (hfx _ (by omega) (by omega) (by omega) (by omega)) (hfx _ (by omega) (by omega) (by omega) (by omega)) (hfx _ (by omega) (by omega) (by omega) (by omega)) (hdn y (by omega))⟩, ⟨?_, fun j hj => ?_⟩, jW_s⟩
            · exact (jW_a (by omega)).trans (hn3.trans ((jW_a (by omega)).trans (congrFun (hfr (x + 5) (fun y hy => by omega)) 0)))
            · exact (jW_a (by omega)).trans ((hc3 j hj).trans ((jW_a (by omega)).trans (congrFun (hfr (x + 6) (fun y hy => by omega)) j)))
          · have h5 : (i : Int) < 4 := h5
            refine jWp.blk mt 1 ?_
            show _ ∧ jWp 126 30 [some (jO x), some (jI (i : Int))] [jO x] 0 0 (M1, w.2) _
            refine ⟨rfl, ?_⟩
            refine jWp.getR (pc' := 33) (o := (x + 1)) mt rfl rfl (jtg hX.X0) hX.R0 ?_
            show jWp 126 33 [some (jO x), some (jI (i : Int))] [jO (x + 1)] 0 0 (M1, w.2) _
            refine jWp.blk mt 1 ?_
            show jWp 126 34 [some (jO x), some (jI (i : Int))] [jI (i : Int), jO (x + 1)] 0 0 (M1, w.2) _
            refine jWp.aald (pc' := 35) (j := i) (o := (x + (363 + 6 * i))) mt rfl rfl (jrg hX.X1 (by decide) (by decide)) (b32_id (by omega) (by omega)) (jlt hX.X1 (by omega)) (hX.RR i (by omega)) ?_
            show jWp 126 35 [some (jO x), some (jI (i : Int))] [jO (x + (363 + 6 * i))] 0 0 (M1, w.2) _
            refine jWp.blk mt 1 ?_
            show _ ∧ jWp 126 36 [some (jO x), some (jI (i : Int))] [jO x, jO (x + (363 + 6 * i))] 0 0 (M1, w.2) _
            refine ⟨rfl, ?_⟩
            refine jWp.getR (pc' := 39) (o := (x + 2)) mt rfl rfl (jtg hX.X0) hX.R2 ?_
            show jWp 126 39 [some (jO x), some (jI (i : Int))] [jO (x + 2), jO (x + (363 + 6 * i))] 0 0 (M1, w.2) _
            refine jWp.blk mt 1 ?_
            show jWp 126 40 [some (jO x), some (jI (i : Int))] [jI (i : Int), jO (x + 2), jO (x + (363 + 6 * i))] 0 0 (M1, w.2) _
            refine jWp.aald (pc' := 41) (j := i) (o := (x + (366 + 6 * i))) mt rfl rfl (jrg hX.X2 (by decide) (by decide)) (b32_id (by omega) (by omega)) (jlt hX.X2 (by omega)) (hX.RI i (by omega)) ?_
            show jWp 126 41 [some (jO x), some (jI (i : Int))] [jO (x + (366 + 6 * i)), jO (x + (363 + 6 * i))] 0 0 (M1, w.2) _
            refine jWp.callv (as := [jO (x + (363 + 6 * i)), jO (x + (366 + 6 * i))]) (rest := []) mt rfl rfl rfl ⟨rfl, jtg (hX.KR i (by omega))⟩ ?_
            refine jCall.mono (C_rbecome (w := (M1, w.2)) (r := x + (363 + 6 * i)) (rs := x + (364 + 6 * i)) (rt := x + (365 + 6 * i)) (hX.KR i (by omega)) (hX.KRs i (by omega)) (hX.KRt i (by omega)) (hX.RRs i (by omega)) (hX.RRt i (by omega)) (jOK_M hO (hfr _ (fun y hy => by omega))) (r2 := x + (366 + 6 * i)) (rs2 := x + (367 + 6 * i)) (rt2 := x + (368 + 6 * i)) (hX.KI i (by omega)) (hX.KIs i (by omega)) (hX.RIs i (by omega)) (hRi (by omega)).1.1 (hRi (by omega)).1.2 (hRi (by omega)).2.1 (s := fun z => R (3 + 10 * i + z)) (hRi (by omega)).2.2 (by omega) ((congrFun (hfr (x + (366 + 6 * i)) (fun y hy => by omega)) 0).trans (hri (by omega)).1) ((congrFun (hfr (x + (366 + 6 * i)) (fun y hy => by omega)) 1).trans (hri (by omega)).2.1) (fun z hz => (congrFun (hfr (x + (367 + 6 * i)) (fun y hy => by omega)) z).trans ((hri (by omega)).2.2.1 z hz))) (fun v9 w9 h9 => ?_)
            obtain ⟨rfl, hbf, hcr⟩ := h9
            obtain ⟨M2, G9⟩ := w9
            have hg : G9 = w.2 := hbf.1
            subst hg
            have hf2 := hbf.2
            show jWp 126 44 [some (jO x), some (jI (i : Int))] [] 0 0 (M2, w.2) _
            refine jWp.blk mt 2 ?_
            show jWp 126 16 [some (jO x), some (jI ((i : Int) + 1))] [] 0 0 (M2, w.2) _
            refine jWp.le (l := [some (jO x), some (jI ((i : Int) + 1))]) (by exact ⟨rfl, rfl, trivial⟩) ?_
            exact ih3 (i + 1) M2 (by omega) (fun b hb => (hf2 b (hb i (by omega)).1 (hb i (by omega)).2.1 (hb i (by omega)).2.2).trans (hfr b hb)) (fun y hy => by
                rcases Nat.lt_or_ge y i with e | e
                · exact cRo_k (hf2 _ (by omega) (by omega) (by omega)) (hf2 _ (by omega) (by omega) (by omega)) (hf2 _ (by omega) (by omega) (by omega)) (hdn y e)
                · rw [show y = i by omega]
                  exact hcr) (by omega)
    refine jWp.le (l := [some (jO x), some (jI 0)]) (by exact ⟨rfl, rfl, trivial⟩) ?_
    exact lp2 _ 0 w.1 (by omega) (fun b _ => rfl) (fun y hy => absurd hy (by omega)) (Nat.lt_succ_self _)
  · have h1 : (k : Int) < 0 := h1
    exfalso; omega
set_option maxHeartbeats 4000000 in
set_option maxRecDepth 20000 in
theorem C_put {w : jS} {x : Nat} (hX : CW w.2 x) (hz : ∀ y, y < 3 → -1 ≤ w.1 (x + (387 + 2 * y)) 0 ∧ w.1 (x + (387 + 2 * y)) 0 ≤ 40) {l i y : Int} (hrl : r32 l) (hri : r32 i) (hry : r32 y) : jCall 121 [jO x, jI l, jI i, jI y] w (fun v w1 => ((¬ (0 ≤ l ∧ l ≤ 2)) → cno w x 0 (jI (-1)) v w1) ∧ (¬ (¬ (0 ≤ l ∧ l ≤ 2)) → ((w.1 (x + (387 + 2 * l.toNat)) 0) < 0) → v = some (jI (-11)) ∧ w1 = w) ∧ (¬ (¬ (0 ≤ l ∧ l ≤ 2)) → ¬ ((w.1 (x + (387 + 2 * l.toNat)) 0) < 0) → (¬ (0 ≤ i ∧ i < w.1 (x + (387 + 2 * l.toNat)) 0)) → v = some (jI (-13)) ∧ w1 = w) ∧ (¬ (¬ (0 ≤ l ∧ l ≤ 2)) → ¬ ((w.1 (x + (387 + 2 * l.toNat)) 0) < 0) → ¬ (¬ (0 ≤ i ∧ i < w.1 (x + (387 + 2 * l.toNat)) 0)) → v = some (jI 1) ∧ w1 = jW w (x + (388 + 2 * l.toNat)) i.toNat y)) := by
  have mt : jtb 121 = jT121 := rfl
  have hrl1 : -2147483648 ≤ l ∧ l < 2147483648 := hrl
  have hri1 : -2147483648 ≤ i ∧ i < 2147483648 := hri
  show jWp 121 0 [some (jO x), some (jI l), some (jI i), some (jI y)] [] 0 0 w _
  refine jWp.blk mt 2 ?_
  show _ ∧ jWp 121 2 [some (jO x), some (jI l), some (jI i), some (jI y)] [jI l, jO x] 0 0 w _
  refine ⟨rfl, ?_⟩
  refine jWp.callv (as := [jO x, jI l]) (rest := []) mt rfl rfl rfl ⟨rfl, jtg hX.X0⟩ ?_
  refine jCall.mono (C_isList (w := w) hX hrl) (fun v9 w9 h9 => ?_)
  rcases h9 with ⟨rfl, h9, h1⟩ | ⟨rfl, h9, h1⟩ <;> subst w9
  · have h1 : 0 ≤ l ∧ l ≤ 2 := h1
    show jWp 121 5 [some (jO x), some (jI l), some (jI i), some (jI y)] [jI 1] 0 0 w _
    obtain ⟨l1, rfl⟩ : ∃ l1 : Nat, l = (l1 : Int) := ⟨l.toNat, by omega⟩
    show jWp 121 5 [some (jO x), some (jI (l1 : Int)), some (jI i), some (jI y)] [jI 1] 0 0 w _
    have hzl := hz l1 (by omega)
    refine jWp.ifc (b := true) mt rfl (by decide) rfl ?_
    show jWp 121 14 [some (jO x), some (jI (l1 : Int)), some (jI i), some (jI y)] [] 0 0 w _
    refine jWp.blk mt 1 ?_
    show _ ∧ jWp 121 15 [some (jO x), some (jI (l1 : Int)), some (jI i), some (jI y)] [jO x] 0 0 w _
    refine ⟨rfl, ?_⟩
    refine jWp.getR (pc' := 18) (o := (x + 359)) mt rfl rfl (jtg hX.X0) hX.R11 ?_
    show jWp 121 18 [some (jO x), some (jI (l1 : Int)), some (jI i), some (jI y)] [jO (x + 359)] 0 0 w _
    refine jWp.blk mt 1 ?_
    show jWp 121 19 [some (jO x), some (jI (l1 : Int)), some (jI i), some (jI y)] [jI (l1 : Int), jO (x + 359)] 0 0 w _
    refine jWp.aald (pc' := 20) (j := l1) (o := (x + (387 + 2 * l1))) mt rfl rfl (jrg hX.X359 (by decide) (by decide)) (b32_id (by omega) (by omega)) (jlt hX.X359 (by omega)) (hX.RT l1 (by omega)) ?_
    show jWp 121 20 [some (jO x), some (jI (l1 : Int)), some (jI i), some (jI y)] [jO (x + (387 + 2 * l1))] 0 0 w _
    refine jWp.callv (as := [jO (x + (387 + 2 * l1))]) (rest := []) mt rfl rfl rfl ⟨rfl, jtg (hX.KT l1 (by omega))⟩ ?_
    refine jCall.mono (C_isMissing (w := w) (t := x + (387 + 2 * l1)) (tp := x + (388 + 2 * l1)) (hX.KT l1 (by omega)) (hX.KTp l1 (by omega)) (hX.RTp l1 (by omega)) rfl hzl) (fun v9 w9 h9 => ?_)
    rcases h9 with ⟨rfl, h9, h2⟩ | ⟨rfl, h9, h2⟩ <;> subst w9
    · have h2 : (w.1 (x + (387 + 2 * l1)) 0) < 0 := h2
      show jWp 121 23 [some (jO x), some (jI (l1 : Int)), some (jI i), some (jI y)] [jI 1] 0 0 w _
      refine jWp.ifc (b := false) mt rfl (by decide) rfl ?_
      show jWp 121 26 [some (jO x), some (jI (l1 : Int)), some (jI i), some (jI y)] [] 0 0 w _
      refine jWp.blk mt 2 ?_
      show _ ∧ jWp 121 29 [some (jO x), some (jI (l1 : Int)), some (jI i), some (jI y)] [jI (-11), jO x] 0 0 w _
      refine ⟨rfl, ?_⟩
      refine jWp.callv (as := [jO x, jI (-11)]) (rest := []) mt rfl rfl rfl ⟨rfl, jtg hX.X0⟩ ?_
      refine jCall.mono (C_refuse2 (w := w) hX (by decide)) (fun v9 w9 h9 => ?_)
      obtain ⟨rfl, h9⟩ := h9
      subst w9
      show jWp 121 32 [some (jO x), some (jI (l1 : Int)), some (jI i), some (jI y)] [jI (-11)] 0 0 w _
      refine jWp.ireti mt rfl ⟨rfl, rfl⟩ rfl ?_
      try rw [show ((l1 : Nat) : Int).toNat = l1 from rfl]
      refine ⟨fun c0 => ?_, fun c0 c1 => ?_, fun c0 c1 c2 => ?_, fun c0 c1 c2 => ?_⟩
      all_goals first
      | (exfalso; omega)
      | exact ⟨rfl, rfl⟩
    · have h2 : ¬ ((w.1 (x + (387 + 2 * l1)) 0) < 0) := h2
      show jWp 121 23 [some (jO x), some (jI (l1 : Int)), some (jI i), some (jI y)] [jI 0] 0 0 w _
      refine jWp.ifc (b := true) mt rfl (by decide) rfl ?_
      show jWp 121 33 [some (jO x), some (jI (l1 : Int)), some (jI i), some (jI y)] [] 0 0 w _
      refine jWp.blk mt 1 ?_
      show _ ∧ jWp 121 34 [some (jO x), some (jI (l1 : Int)), some (jI i), some (jI y)] [jO x] 0 0 w _
      refine ⟨rfl, ?_⟩
      refine jWp.getR (pc' := 37) (o := (x + 359)) mt rfl rfl (jtg hX.X0) hX.R11 ?_
      show jWp 121 37 [some (jO x), some (jI (l1 : Int)), some (jI i), some (jI y)] [jO (x + 359)] 0 0 w _
      refine jWp.blk mt 1 ?_
      show jWp 121 38 [some (jO x), some (jI (l1 : Int)), some (jI i), some (jI y)] [jI (l1 : Int), jO (x + 359)] 0 0 w _
      refine jWp.aald (pc' := 39) (j := l1) (o := (x + (387 + 2 * l1))) mt rfl rfl (jrg hX.X359 (by decide) (by decide)) (b32_id (by omega) (by omega)) (jlt hX.X359 (by omega)) (hX.RT l1 (by omega)) ?_
      show jWp 121 39 [some (jO x), some (jI (l1 : Int)), some (jI i), some (jI y)] [jO (x + (387 + 2 * l1))] 0 0 w _
      refine jWp.blk mt 1 ?_
      show jWp 121 40 [some (jO x), some (jI (l1 : Int)), some (jI i), some (jI y)] [jI i, jO (x + (387 + 2 * l1))] 0 0 w _
      refine jWp.callv (as := [jO (x + (387 + 2 * l1)), jI i]) (rest := []) mt rfl rfl rfl ⟨rfl, jtg (hX.KT l1 (by omega))⟩ ?_
      refine jCall.mono (C_thas (w := w) (t := x + (387 + 2 * l1)) (tp := x + (388 + 2 * l1)) (hX.KT l1 (by omega)) (hX.KTp l1 (by omega)) (hX.RTp l1 (by omega)) rfl hzl hri) (fun v9 w9 h9 => ?_)
      rcases h9 with ⟨rfl, h9, h3⟩ | ⟨rfl, h9, h3⟩ <;> subst w9
      · have h3 : 0 ≤ i ∧ i < (w.1 (x + (387 + 2 * l1)) 0) := h3
        show jWp 121 43 [some (jO x), some (jI (l1 : Int)), some (jI i), some (jI y)] [jI 1] 0 0 w _
        obtain ⟨i1, rfl⟩ : ∃ i1 : Nat, i = (i1 : Int) := ⟨i.toNat, by omega⟩
        show jWp 121 43 [some (jO x), some (jI (l1 : Int)), some (jI (i1 : Int)), some (jI y)] [jI 1] 0 0 w _
        refine jWp.ifc (b := true) mt rfl (by decide) rfl ?_
        show jWp 121 53 [some (jO x), some (jI (l1 : Int)), some (jI (i1 : Int)), some (jI y)] [] 0 0 w _
        refine jWp.blk mt 1 ?_
        show _ ∧ jWp 121 54 [some (jO x), some (jI (l1 : Int)), some (jI (i1 : Int)), some (jI y)] [jO x] 0 0 w _
        refine ⟨rfl, ?_⟩
        refine jWp.getR (pc' := 57) (o := (x + 359)) mt rfl rfl (jtg hX.X0) hX.R11 ?_
        show jWp 121 57 [some (jO x), some (jI (l1 : Int)), some (jI (i1 : Int)), some (jI y)] [jO (x + 359)] 0 0 w _
        refine jWp.blk mt 1 ?_
        show jWp 121 58 [some (jO x), some (jI (l1 : Int)), some (jI (i1 : Int)), some (jI y)] [jI (l1 : Int), jO (x + 359)] 0 0 w _
        refine jWp.aald (pc' := 59) (j := l1) (o := (x + (387 + 2 * l1))) mt rfl rfl (jrg hX.X359 (by decide) (by decide)) (b32_id (by omega) (by omega)) (jlt hX.X359 (by omega)) (hX.RT l1 (by omega)) ?_
        show jWp 121 59 [some (jO x), some (jI (l1 : Int)), some (jI (i1 : Int)), some (jI y)] [jO (x + (387 + 2 * l1))] 0 0 w _
        refine jWp.blk mt 2 ?_
        show jWp 121 61 [some (jO x), some (jI (l1 : Int)), some (jI (i1 : Int)), some (jI y)] [jI y, jI (i1 : Int), jO (x + (387 + 2 * l1))] 0 0 w _
        refine jWp.callv (as := [jO (x + (387 + 2 * l1)), jI (i1 : Int), jI y]) (rest := []) mt rfl rfl rfl ⟨rfl, jtg (hX.KT l1 (by omega))⟩ ?_
        refine jCall.mono (C_ttell (w := w) (t := x + (387 + 2 * l1)) (tp := x + (388 + 2 * l1)) (hX.KT l1 (by omega)) (hX.KTp l1 (by omega)) (hX.RTp l1 (by omega)) rfl hzl (i := i1) (v := y) (by omega)) (fun v9 w9 h9 => ?_)
        obtain ⟨rfl, hw9⟩ := h9
        subst hw9
        show jWp 121 64 [some (jO x), some (jI (l1 : Int)), some (jI (i1 : Int)), some (jI y)] [] 0 0 (jW w (x + (388 + 2 * l1)) i1 y) _
        refine jWp.blk mt 1 ?_
        show jWp 121 65 [some (jO x), some (jI (l1 : Int)), some (jI (i1 : Int)), some (jI y)] [jI 1] 0 0 (jW w (x + (388 + 2 * l1)) i1 y) _
        refine jWp.ireti mt rfl ⟨rfl, rfl⟩ rfl ?_
        try rw [show ((l1 : Nat) : Int).toNat = l1 from rfl]
        refine ⟨fun c0 => ?_, fun c0 c1 => ?_, fun c0 c1 c2 => ?_, fun c0 c1 c2 => ?_⟩
        all_goals first
        | (exfalso; omega)
        | exact ⟨rfl, rfl⟩
      · have h3 : ¬ (0 ≤ i ∧ i < (w.1 (x + (387 + 2 * l1)) 0)) := h3
        show jWp 121 43 [some (jO x), some (jI (l1 : Int)), some (jI i), some (jI y)] [jI 0] 0 0 w _
        refine jWp.ifc (b := false) mt rfl (by decide) rfl ?_
        show jWp 121 46 [some (jO x), some (jI (l1 : Int)), some (jI i), some (jI y)] [] 0 0 w _
        refine jWp.blk mt 2 ?_
        show _ ∧ jWp 121 49 [some (jO x), some (jI (l1 : Int)), some (jI i), some (jI y)] [jI (-13), jO x] 0 0 w _
        refine ⟨rfl, ?_⟩
        refine jWp.callv (as := [jO x, jI (-13)]) (rest := []) mt rfl rfl rfl ⟨rfl, jtg hX.X0⟩ ?_
        refine jCall.mono (C_refuse2 (w := w) hX (by decide)) (fun v9 w9 h9 => ?_)
        obtain ⟨rfl, h9⟩ := h9
        subst w9
        show jWp 121 52 [some (jO x), some (jI (l1 : Int)), some (jI i), some (jI y)] [jI (-13)] 0 0 w _
        refine jWp.ireti mt rfl ⟨rfl, rfl⟩ rfl ?_
        try rw [show ((l1 : Nat) : Int).toNat = l1 from rfl]
        refine ⟨fun c0 => ?_, fun c0 c1 => ?_, fun c0 c1 c2 => ?_, fun c0 c1 c2 => ?_⟩
        all_goals first
        | (exfalso; omega)
        | exact ⟨rfl, rfl⟩
  · have h1 : ¬ (0 ≤ l ∧ l ≤ 2) := h1
    show jWp 121 5 [some (jO x), some (jI l), some (jI i), some (jI y)] [jI 0] 0 0 w _
    refine jWp.ifc (b := false) mt rfl (by decide) rfl ?_
    show jWp 121 8 [some (jO x), some (jI l), some (jI i), some (jI y)] [] 0 0 w _
    refine jWp.blk mt 2 ?_
    show _ ∧ jWp 121 10 [some (jO x), some (jI l), some (jI i), some (jI y)] [jI (-1), jO x] 0 0 w _
    refine ⟨rfl, ?_⟩
    refine jWp.callv (as := [jO x, jI (-1)]) (rest := []) mt rfl rfl rfl ⟨rfl, jtg hX.X0⟩ ?_
    refine jCall.mono (C_refuse (w := w) (j := 0) hX (by decide) (by decide)) (fun v9 w9 h9 => ?_)
    obtain ⟨rfl, h9⟩ := h9
    subst h9
    show jWp 121 13 [some (jO x), some (jI l), some (jI i), some (jI y)] [jI (-1)] 0 0 (jW w (x + 362) 0 ((w.1 (x + 362) 0) + 1)) _
    refine jWp.ireti mt rfl ⟨rfl, rfl⟩ rfl ?_
    try rw [show ((l1 : Nat) : Int).toNat = l1 from rfl]
    refine ⟨fun c0 => ?_, fun c0 c1 => ?_, fun c0 c1 c2 => ?_, fun c0 c1 c2 => ?_⟩
    all_goals first
    | (exfalso; omega)
    | exact ⟨rfl, rfl⟩
set_option maxHeartbeats 4000000 in
set_option maxRecDepth 20000 in
theorem C_look {w : jS} {x : Nat} (hX : CW w.2 x) (hz : ∀ y, y < 3 → -1 ≤ w.1 (x + (387 + 2 * y)) 0 ∧ w.1 (x + (387 + 2 * y)) 0 ≤ 40) (hI : ∀ y, y < 3 → ∀ j, j < 40 → r32 (w.1 (x + (388 + 2 * y)) j)) {l i : Int} (hrl : r32 l) (hri : r32 i) : jCall 122 [jO x, jI l, jI i] w (fun v w1 => ((¬ (0 ≤ l ∧ l ≤ 2)) → cno w x 0 (jJ (4000000000000000000 - (-1))) v w1) ∧ (¬ (¬ (0 ≤ l ∧ l ≤ 2)) → ((w.1 (x + (387 + 2 * l.toNat)) 0) < 0) → v = some (jJ 4000000000000000011) ∧ w1 = w) ∧ (¬ (¬ (0 ≤ l ∧ l ≤ 2)) → ¬ ((w.1 (x + (387 + 2 * l.toNat)) 0) < 0) → (¬ (0 ≤ i ∧ i < w.1 (x + (387 + 2 * l.toNat)) 0)) → v = some (jJ 4000000000000000013) ∧ w1 = w) ∧ (¬ (¬ (0 ≤ l ∧ l ≤ 2)) → ¬ ((w.1 (x + (387 + 2 * l.toNat)) 0) < 0) → ¬ (¬ (0 ≤ i ∧ i < w.1 (x + (387 + 2 * l.toNat)) 0)) → v = some (jJ (w.1 (x + (388 + 2 * l.toNat)) i.toNat)) ∧ w1 = w)) := by
  have mt : jtb 122 = jT122 := rfl
  have hrl1 : -2147483648 ≤ l ∧ l < 2147483648 := hrl
  have hri1 : -2147483648 ≤ i ∧ i < 2147483648 := hri
  show jWp 122 0 [some (jO x), some (jI l), some (jI i)] [] 0 0 w _
  refine jWp.blk mt 2 ?_
  show _ ∧ jWp 122 2 [some (jO x), some (jI l), some (jI i)] [jI l, jO x] 0 0 w _
  refine ⟨rfl, ?_⟩
  refine jWp.callv (as := [jO x, jI l]) (rest := []) mt rfl rfl rfl ⟨rfl, jtg hX.X0⟩ ?_
  refine jCall.mono (C_isList (w := w) hX hrl) (fun v9 w9 h9 => ?_)
  rcases h9 with ⟨rfl, h9, h1⟩ | ⟨rfl, h9, h1⟩ <;> subst w9
  · have h1 : 0 ≤ l ∧ l ≤ 2 := h1
    show jWp 122 5 [some (jO x), some (jI l), some (jI i)] [jI 1] 0 0 w _
    obtain ⟨l1, rfl⟩ : ∃ l1 : Nat, l = (l1 : Int) := ⟨l.toNat, by omega⟩
    show jWp 122 5 [some (jO x), some (jI (l1 : Int)), some (jI i)] [jI 1] 0 0 w _
    have hzl := hz l1 (by omega)
    refine jWp.ifc (b := true) mt rfl (by decide) rfl ?_
    show jWp 122 14 [some (jO x), some (jI (l1 : Int)), some (jI i)] [] 0 0 w _
    refine jWp.blk mt 1 ?_
    show _ ∧ jWp 122 15 [some (jO x), some (jI (l1 : Int)), some (jI i)] [jO x] 0 0 w _
    refine ⟨rfl, ?_⟩
    refine jWp.getR (pc' := 18) (o := (x + 359)) mt rfl rfl (jtg hX.X0) hX.R11 ?_
    show jWp 122 18 [some (jO x), some (jI (l1 : Int)), some (jI i)] [jO (x + 359)] 0 0 w _
    refine jWp.blk mt 1 ?_
    show jWp 122 19 [some (jO x), some (jI (l1 : Int)), some (jI i)] [jI (l1 : Int), jO (x + 359)] 0 0 w _
    refine jWp.aald (pc' := 20) (j := l1) (o := (x + (387 + 2 * l1))) mt rfl rfl (jrg hX.X359 (by decide) (by decide)) (b32_id (by omega) (by omega)) (jlt hX.X359 (by omega)) (hX.RT l1 (by omega)) ?_
    show jWp 122 20 [some (jO x), some (jI (l1 : Int)), some (jI i)] [jO (x + (387 + 2 * l1))] 0 0 w _
    refine jWp.callv (as := [jO (x + (387 + 2 * l1))]) (rest := []) mt rfl rfl rfl ⟨rfl, jtg (hX.KT l1 (by omega))⟩ ?_
    refine jCall.mono (C_isMissing (w := w) (t := x + (387 + 2 * l1)) (tp := x + (388 + 2 * l1)) (hX.KT l1 (by omega)) (hX.KTp l1 (by omega)) (hX.RTp l1 (by omega)) rfl hzl) (fun v9 w9 h9 => ?_)
    rcases h9 with ⟨rfl, h9, h2⟩ | ⟨rfl, h9, h2⟩ <;> subst w9
    · have h2 : (w.1 (x + (387 + 2 * l1)) 0) < 0 := h2
      show jWp 122 23 [some (jO x), some (jI (l1 : Int)), some (jI i)] [jI 1] 0 0 w _
      refine jWp.ifc (b := false) mt rfl (by decide) rfl ?_
      show jWp 122 26 [some (jO x), some (jI (l1 : Int)), some (jI i)] [] 0 0 w _
      refine jWp.blk mt 2 ?_
      show _ ∧ jWp 122 29 [some (jO x), some (jI (l1 : Int)), some (jI i)] [jI (-11), jO x] 0 0 w _
      refine ⟨rfl, ?_⟩
      refine jWp.callv (as := [jO x, jI (-11)]) (rest := []) mt rfl rfl rfl ⟨rfl, jtg hX.X0⟩ ?_
      refine jCall.mono (C_farther2 (w := w) hX (by decide)) (fun v9 w9 h9 => ?_)
      obtain ⟨rfl, h9⟩ := h9
      subst w9
      show jWp 122 32 [some (jO x), some (jI (l1 : Int)), some (jI i)] [jJ (4000000000000000000 - (-11))] 0 0 w _
      refine jWp.lret mt rfl ⟨rfl, rfl⟩ rfl ?_
      try rw [show ((l1 : Nat) : Int).toNat = l1 from rfl]
      refine ⟨fun c0 => ?_, fun c0 c1 => ?_, fun c0 c1 c2 => ?_, fun c0 c1 c2 => ?_⟩
      all_goals first
      | (exfalso; omega)
      | exact ⟨rfl, rfl⟩
    · have h2 : ¬ ((w.1 (x + (387 + 2 * l1)) 0) < 0) := h2
      show jWp 122 23 [some (jO x), some (jI (l1 : Int)), some (jI i)] [jI 0] 0 0 w _
      refine jWp.ifc (b := true) mt rfl (by decide) rfl ?_
      show jWp 122 33 [some (jO x), some (jI (l1 : Int)), some (jI i)] [] 0 0 w _
      refine jWp.blk mt 1 ?_
      show _ ∧ jWp 122 34 [some (jO x), some (jI (l1 : Int)), some (jI i)] [jO x] 0 0 w _
      refine ⟨rfl, ?_⟩
      refine jWp.getR (pc' := 37) (o := (x + 359)) mt rfl rfl (jtg hX.X0) hX.R11 ?_
      show jWp 122 37 [some (jO x), some (jI (l1 : Int)), some (jI i)] [jO (x + 359)] 0 0 w _
      refine jWp.blk mt 1 ?_
      show jWp 122 38 [some (jO x), some (jI (l1 : Int)), some (jI i)] [jI (l1 : Int), jO (x + 359)] 0 0 w _
      refine jWp.aald (pc' := 39) (j := l1) (o := (x + (387 + 2 * l1))) mt rfl rfl (jrg hX.X359 (by decide) (by decide)) (b32_id (by omega) (by omega)) (jlt hX.X359 (by omega)) (hX.RT l1 (by omega)) ?_
      show jWp 122 39 [some (jO x), some (jI (l1 : Int)), some (jI i)] [jO (x + (387 + 2 * l1))] 0 0 w _
      refine jWp.blk mt 1 ?_
      show jWp 122 40 [some (jO x), some (jI (l1 : Int)), some (jI i)] [jI i, jO (x + (387 + 2 * l1))] 0 0 w _
      refine jWp.callv (as := [jO (x + (387 + 2 * l1)), jI i]) (rest := []) mt rfl rfl rfl ⟨rfl, jtg (hX.KT l1 (by omega))⟩ ?_
      refine jCall.mono (C_thas (w := w) (t := x + (387 + 2 * l1)) (tp := x + (388 + 2 * l1)) (hX.KT l1 (by omega)) (hX.KTp l1 (by omega)) (hX.RTp l1 (by omega)) rfl hzl hri) (fun v9 w9 h9 => ?_)
      rcases h9 with ⟨rfl, h9, h3⟩ | ⟨rfl, h9, h3⟩ <;> subst w9
      · have h3 : 0 ≤ i ∧ i < (w.1 (x + (387 + 2 * l1)) 0) := h3
        show jWp 122 43 [some (jO x), some (jI (l1 : Int)), some (jI i)] [jI 1] 0 0 w _
        obtain ⟨i1, rfl⟩ : ∃ i1 : Nat, i = (i1 : Int) := ⟨i.toNat, by omega⟩
        show jWp 122 43 [some (jO x), some (jI (l1 : Int)), some (jI (i1 : Int))] [jI 1] 0 0 w _
        refine jWp.ifc (b := true) mt rfl (by decide) rfl ?_
        show jWp 122 53 [some (jO x), some (jI (l1 : Int)), some (jI (i1 : Int))] [] 0 0 w _
        refine jWp.blk mt 1 ?_
        show _ ∧ jWp 122 54 [some (jO x), some (jI (l1 : Int)), some (jI (i1 : Int))] [jO x] 0 0 w _
        refine ⟨rfl, ?_⟩
        refine jWp.getR (pc' := 57) (o := (x + 359)) mt rfl rfl (jtg hX.X0) hX.R11 ?_
        show jWp 122 57 [some (jO x), some (jI (l1 : Int)), some (jI (i1 : Int))] [jO (x + 359)] 0 0 w _
        refine jWp.blk mt 1 ?_
        show jWp 122 58 [some (jO x), some (jI (l1 : Int)), some (jI (i1 : Int))] [jI (l1 : Int), jO (x + 359)] 0 0 w _
        refine jWp.aald (pc' := 59) (j := l1) (o := (x + (387 + 2 * l1))) mt rfl rfl (jrg hX.X359 (by decide) (by decide)) (b32_id (by omega) (by omega)) (jlt hX.X359 (by omega)) (hX.RT l1 (by omega)) ?_
        show jWp 122 59 [some (jO x), some (jI (l1 : Int)), some (jI (i1 : Int))] [jO (x + (387 + 2 * l1))] 0 0 w _
        refine jWp.blk mt 1 ?_
        show jWp 122 60 [some (jO x), some (jI (l1 : Int)), some (jI (i1 : Int))] [jI (i1 : Int), jO (x + (387 + 2 * l1))] 0 0 w _
        refine jWp.callv (as := [jO (x + (387 + 2 * l1)), jI (i1 : Int)]) (rest := []) mt rfl rfl rfl ⟨rfl, jtg (hX.KT l1 (by omega))⟩ ?_
        refine jCall.mono (C_tat (w := w) (t := x + (387 + 2 * l1)) (tp := x + (388 + 2 * l1)) (hX.KT l1 (by omega)) (hX.KTp l1 (by omega)) (hX.RTp l1 (by omega)) rfl hzl (i := i1) (by omega)) (fun v9 w9 h9 => ?_)
        obtain ⟨rfl, h9⟩ := h9
        subst w9
        show jWp 122 63 [some (jO x), some (jI (l1 : Int)), some (jI (i1 : Int))] [jI (w.1 (x + (388 + 2 * l1)) i1)] 0 0 w _
        have hr9 : -2147483648 ≤ w.1 (x + (388 + 2 * l1)) i1 ∧ w.1 (x + (388 + 2 * l1)) i1 < 2147483648 := hI l1 (by omega) i1 (by omega)
        refine jWp.i2l (pc' := 64) mt rfl rfl (b32_id (by omega) (by omega)) ?_
        show jWp 122 64 [some (jO x), some (jI (l1 : Int)), some (jI (i1 : Int))] [jJ (w.1 (x + (388 + 2 * l1)) i1)] 0 0 w _
        refine jWp.lret mt rfl ⟨rfl, rfl⟩ rfl ?_
        try rw [show ((l1 : Nat) : Int).toNat = l1 from rfl]
        refine ⟨fun c0 => ?_, fun c0 c1 => ?_, fun c0 c1 c2 => ?_, fun c0 c1 c2 => ?_⟩
        all_goals first
        | (exfalso; omega)
        | exact ⟨rfl, rfl⟩
      · have h3 : ¬ (0 ≤ i ∧ i < (w.1 (x + (387 + 2 * l1)) 0)) := h3
        show jWp 122 43 [some (jO x), some (jI (l1 : Int)), some (jI i)] [jI 0] 0 0 w _
        refine jWp.ifc (b := false) mt rfl (by decide) rfl ?_
        show jWp 122 46 [some (jO x), some (jI (l1 : Int)), some (jI i)] [] 0 0 w _
        refine jWp.blk mt 2 ?_
        show _ ∧ jWp 122 49 [some (jO x), some (jI (l1 : Int)), some (jI i)] [jI (-13), jO x] 0 0 w _
        refine ⟨rfl, ?_⟩
        refine jWp.callv (as := [jO x, jI (-13)]) (rest := []) mt rfl rfl rfl ⟨rfl, jtg hX.X0⟩ ?_
        refine jCall.mono (C_farther2 (w := w) hX (by decide)) (fun v9 w9 h9 => ?_)
        obtain ⟨rfl, h9⟩ := h9
        subst w9
        show jWp 122 52 [some (jO x), some (jI (l1 : Int)), some (jI i)] [jJ (4000000000000000000 - (-13))] 0 0 w _
        refine jWp.lret mt rfl ⟨rfl, rfl⟩ rfl ?_
        try rw [show ((l1 : Nat) : Int).toNat = l1 from rfl]
        refine ⟨fun c0 => ?_, fun c0 c1 => ?_, fun c0 c1 c2 => ?_, fun c0 c1 c2 => ?_⟩
        all_goals first
        | (exfalso; omega)
        | exact ⟨rfl, rfl⟩
  · have h1 : ¬ (0 ≤ l ∧ l ≤ 2) := h1
    show jWp 122 5 [some (jO x), some (jI l), some (jI i)] [jI 0] 0 0 w _
    refine jWp.ifc (b := false) mt rfl (by decide) rfl ?_
    show jWp 122 8 [some (jO x), some (jI l), some (jI i)] [] 0 0 w _
    refine jWp.blk mt 2 ?_
    show _ ∧ jWp 122 10 [some (jO x), some (jI l), some (jI i)] [jI (-1), jO x] 0 0 w _
    refine ⟨rfl, ?_⟩
    refine jWp.callv (as := [jO x, jI (-1)]) (rest := []) mt rfl rfl rfl ⟨rfl, jtg hX.X0⟩ ?_
    refine jCall.mono (C_farther (w := w) (j := 0) hX (by decide) (by decide)) (fun v9 w9 h9 => ?_)
    obtain ⟨rfl, h9⟩ := h9
    subst h9
    show jWp 122 13 [some (jO x), some (jI l), some (jI i)] [jJ (4000000000000000000 - (-1))] 0 0 (jW w (x + 362) 0 ((w.1 (x + 362) 0) + 1)) _
    refine jWp.lret mt rfl ⟨rfl, rfl⟩ rfl ?_
    try rw [show ((l1 : Nat) : Int).toNat = l1 from rfl]
    refine ⟨fun c0 => ?_, fun c0 c1 => ?_, fun c0 c1 c2 => ?_, fun c0 c1 c2 => ?_⟩
    all_goals first
    | (exfalso; omega)
    | exact ⟨rfl, rfl⟩
set_option maxHeartbeats 4000000 in
set_option maxRecDepth 20000 in
theorem C_list {w : jS} {x : Nat} (hX : CW w.2 x) {l n : Int} (hrl : r32 l) (hrn : r32 n) : jCall 120 [jO x, jI l, jI n] w (fun v w1 => ((¬ (0 ≤ l ∧ l ≤ 2)) → cno w x 0 (jI (-1)) v w1) ∧ (¬ (¬ (0 ≤ l ∧ l ≤ 2)) → (40 < n) → cno w x 5 (jI (-6)) v w1) ∧ (¬ (¬ (0 ≤ l ∧ l ≤ 2)) → ¬ (40 < n) → (n < 0) → v = some (jI (-14)) ∧ w1 = w) ∧ (¬ (¬ (0 ≤ l ∧ l ≤ 2)) → ¬ (40 < n) → ¬ (n < 0) → v = some (jI 1) ∧ w1.2 = w.2 ∧ (∀ b, b ≠ x + (387 + 2 * l.toNat) → b ≠ x + (388 + 2 * l.toNat) → w1.1 b = w.1 b) ∧ w1.1 (x + (387 + 2 * l.toNat)) 0 = n ∧ ∀ j, j < 40 → w1.1 (x + (388 + 2 * l.toNat)) j = 0)) := by
  have mt : jtb 120 = jT120 := rfl
  have hrl1 : -2147483648 ≤ l ∧ l < 2147483648 := hrl
  have hrn1 : -2147483648 ≤ n ∧ n < 2147483648 := hrn
  show jWp 120 0 [some (jO x), some (jI l), some (jI n)] [] 0 0 w _
  refine jWp.blk mt 2 ?_
  show _ ∧ jWp 120 2 [some (jO x), some (jI l), some (jI n)] [jI l, jO x] 0 0 w _
  refine ⟨rfl, ?_⟩
  refine jWp.callv (as := [jO x, jI l]) (rest := []) mt rfl rfl rfl ⟨rfl, jtg hX.X0⟩ ?_
  refine jCall.mono (C_isList (w := w) hX hrl) (fun v9 w9 h9 => ?_)
  rcases h9 with ⟨rfl, h9, h1⟩ | ⟨rfl, h9, h1⟩ <;> subst w9
  · have h1 : 0 ≤ l ∧ l ≤ 2 := h1
    show jWp 120 5 [some (jO x), some (jI l), some (jI n)] [jI 1] 0 0 w _
    obtain ⟨l1, rfl⟩ : ∃ l1 : Nat, l = (l1 : Int) := ⟨l.toNat, by omega⟩
    show jWp 120 5 [some (jO x), some (jI (l1 : Int)), some (jI n)] [jI 1] 0 0 w _
    refine jWp.ifc (b := true) mt rfl (by decide) rfl ?_
    show jWp 120 14 [some (jO x), some (jI (l1 : Int)), some (jI n)] [] 0 0 w _
    refine jWp.blk mt 2 ?_
    show jWp 120 17 [some (jO x), some (jI (l1 : Int)), some (jI n)] [jI 40, jI n] 0 0 w _
    refine jWp.icmp (pc' := 20) mt rfl rfl (b32_id (by omega) (by omega)) (show b32 40 = 40 by decide) (fun h2 => ?_) (fun h2 => ?_)
    · have h2 : n ≤ 40 := h2
      refine jWp.blk mt 1 ?_
      show jWp 120 28 [some (jO x), some (jI (l1 : Int)), some (jI n)] [jI n] 0 0 w _
      refine jWp.ifz (pc' := 31) mt rfl rfl (b32_id (by omega) (by omega)) (fun h3 => ?_) (fun h3 => ?_)
      · have h3 : 0 ≤ n := h3
        refine jWp.blk mt 1 ?_
        show _ ∧ jWp 120 39 [some (jO x), some (jI (l1 : Int)), some (jI n)] [jO x] 0 0 w _
        refine ⟨rfl, ?_⟩
        refine jWp.getR (pc' := 42) (o := (x + 359)) mt rfl rfl (jtg hX.X0) hX.R11 ?_
        show jWp 120 42 [some (jO x), some (jI (l1 : Int)), some (jI n)] [jO (x + 359)] 0 0 w _
        refine jWp.blk mt 1 ?_
        show jWp 120 43 [some (jO x), some (jI (l1 : Int)), some (jI n)] [jI (l1 : Int), jO (x + 359)] 0 0 w _
        refine jWp.aald (pc' := 44) (j := l1) (o := (x + (387 + 2 * l1))) mt rfl rfl (jrg hX.X359 (by decide) (by decide)) (b32_id (by omega) (by omega)) (jlt hX.X359 (by omega)) (hX.RT l1 (by omega)) ?_
        show jWp 120 44 [some (jO x), some (jI (l1 : Int)), some (jI n)] [jO (x + (387 + 2 * l1))] 0 0 w _
        refine jWp.blk mt 1 ?_
        show jWp 120 45 [some (jO x), some (jI (l1 : Int)), some (jI n)] [jI n, jO (x + (387 + 2 * l1))] 0 0 w _
        refine jWp.callv (as := [jO (x + (387 + 2 * l1)), jI n]) (rest := []) mt rfl rfl rfl ⟨rfl, jtg (hX.KT l1 (by omega))⟩ ?_
        refine jCall.mono (C_tclear (w := w) (t := x + (387 + 2 * l1)) (tp := x + (388 + 2 * l1)) (n := n) (hX.KT l1 (by omega)) (hX.KTp l1 (by omega)) (hX.RTp l1 (by omega))) (fun v9 w9 h9 => ?_)
        obtain ⟨rfl, hbf, hz1, hi1⟩ := h9
        obtain ⟨M1, G9⟩ := w9
        have hg : G9 = w.2 := hbf.1
        subst hg
        show jWp 120 48 [some (jO x), some (jI (l1 : Int)), some (jI n)] [] 0 0 (M1, w.2) _
        refine jWp.blk mt 1 ?_
        show jWp 120 49 [some (jO x), some (jI (l1 : Int)), some (jI n)] [jI 1] 0 0 (M1, w.2) _
        refine jWp.ireti mt rfl ⟨rfl, rfl⟩ rfl ?_
        refine ⟨fun c0 => ?_, fun c0 c1 => ?_, fun c0 c1 c2 => ?_, fun c0 c1 c2 => ?_⟩
        all_goals first
        | (exfalso; omega)
        | exact ⟨rfl, rfl⟩
        | exact ⟨rfl, rfl, hbf.2, hz1, hi1⟩
      · have h3 : n < 0 := h3
        refine jWp.blk mt 2 ?_
        show _ ∧ jWp 120 34 [some (jO x), some (jI (l1 : Int)), some (jI n)] [jI (-14), jO x] 0 0 w _
        refine ⟨rfl, ?_⟩
        refine jWp.callv (as := [jO x, jI (-14)]) (rest := []) mt rfl rfl rfl ⟨rfl, jtg hX.X0⟩ ?_
        refine jCall.mono (C_refuse2 (w := w) hX (by decide)) (fun v9 w9 h9 => ?_)
        obtain ⟨rfl, h9⟩ := h9
        subst w9
        show jWp 120 37 [some (jO x), some (jI (l1 : Int)), some (jI n)] [jI (-14)] 0 0 w _
        refine jWp.ireti mt rfl ⟨rfl, rfl⟩ rfl ?_
        refine ⟨fun c0 => ?_, fun c0 c1 => ?_, fun c0 c1 c2 => ?_, fun c0 c1 c2 => ?_⟩
        all_goals first
        | (exfalso; omega)
        | exact ⟨rfl, rfl⟩
        | exact ⟨rfl, rfl, hbf.2, hz1, hi1⟩
    · have h2 : 40 < n := h2
      refine jWp.blk mt 2 ?_
      show _ ∧ jWp 120 23 [some (jO x), some (jI (l1 : Int)), some (jI n)] [jI (-6), jO x] 0 0 w _
      refine ⟨rfl, ?_⟩
      refine jWp.callv (as := [jO x, jI (-6)]) (rest := []) mt rfl rfl rfl ⟨rfl, jtg hX.X0⟩ ?_
      refine jCall.mono (C_refuse (w := w) (j := 5) hX (by decide) (by decide)) (fun v9 w9 h9 => ?_)
      obtain ⟨rfl, h9⟩ := h9
      subst h9
      show jWp 120 26 [some (jO x), some (jI (l1 : Int)), some (jI n)] [jI (-6)] 0 0 (jW w (x + 362) 5 ((w.1 (x + 362) 5) + 1)) _
      refine jWp.ireti mt rfl ⟨rfl, rfl⟩ rfl ?_
      refine ⟨fun c0 => ?_, fun c0 c1 => ?_, fun c0 c1 c2 => ?_, fun c0 c1 c2 => ?_⟩
      all_goals first
      | (exfalso; omega)
      | exact ⟨rfl, rfl⟩
      | exact ⟨rfl, rfl, hbf.2, hz1, hi1⟩
  · have h1 : ¬ (0 ≤ l ∧ l ≤ 2) := h1
    show jWp 120 5 [some (jO x), some (jI l), some (jI n)] [jI 0] 0 0 w _
    refine jWp.ifc (b := false) mt rfl (by decide) rfl ?_
    show jWp 120 8 [some (jO x), some (jI l), some (jI n)] [] 0 0 w _
    refine jWp.blk mt 2 ?_
    show _ ∧ jWp 120 10 [some (jO x), some (jI l), some (jI n)] [jI (-1), jO x] 0 0 w _
    refine ⟨rfl, ?_⟩
    refine jWp.callv (as := [jO x, jI (-1)]) (rest := []) mt rfl rfl rfl ⟨rfl, jtg hX.X0⟩ ?_
    refine jCall.mono (C_refuse (w := w) (j := 0) hX (by decide) (by decide)) (fun v9 w9 h9 => ?_)
    obtain ⟨rfl, h9⟩ := h9
    subst h9
    show jWp 120 13 [some (jO x), some (jI l), some (jI n)] [jI (-1)] 0 0 (jW w (x + 362) 0 ((w.1 (x + 362) 0) + 1)) _
    refine jWp.ireti mt rfl ⟨rfl, rfl⟩ rfl ?_
    refine ⟨fun c0 => ?_, fun c0 c1 => ?_, fun c0 c1 c2 => ?_, fun c0 c1 c2 => ?_⟩
    all_goals first
    | (exfalso; omega)
    | exact ⟨rfl, rfl⟩
    | exact ⟨rfl, rfl, hbf.2, hz1, hi1⟩
set_option maxHeartbeats 4000000 in
set_option maxRecDepth 20000 in
theorem C_laws {w : jS} {x : Nat} (hX : CW w.2 x) (hz : ∀ y, y < 3 → -1 ≤ w.1 (x + (387 + 2 * y)) 0 ∧ w.1 (x + (387 + 2 * y)) 0 ≤ 40) (hI : ∀ y, y < 3 → ∀ j, j < 40 → r32 (w.1 (x + (388 + 2 * y)) j)) (hO : jOK w) {l f : Int} (hrl : r32 l) (hrf : r32 f) : jCall 117 [jO x, jI l, jI f] w (fun v w1 => ((¬ (0 ≤ l ∧ l ≤ 2)) → cno w x 0 (jI (-1)) v w1) ∧ (¬ (¬ (0 ≤ l ∧ l ≤ 2)) → (f < 0) → cno w x 3 (jI (-4)) v w1) ∧ (¬ (¬ (0 ≤ l ∧ l ≤ 2)) → ¬ (f < 0) → (9 < f) → cno w x 5 (jI (-6)) v w1) ∧ (¬ (¬ (0 ≤ l ∧ l ≤ 2)) → ¬ (f < 0) → ¬ (9 < f) → ((w.1 (x + (387 + 2 * l.toNat)) 0) < 0) → v = some (jI (-11)) ∧ w1 = w) ∧ (¬ (¬ (0 ≤ l ∧ l ≤ 2)) → ¬ (f < 0) → ¬ (9 < f) → ¬ ((w.1 (x + (387 + 2 * l.toNat)) 0) < 0) → (¬ zsl (w.1 (x + (388 + 2 * l.toNat))) (w.1 (x + (387 + 2 * l.toNat)) 0).toNat) → cno w x 2 (jI (-3)) v w1) ∧ (¬ (¬ (0 ≤ l ∧ l ≤ 2)) → ¬ (f < 0) → ¬ (9 < f) → ¬ ((w.1 (x + (387 + 2 * l.toNat)) 0) < 0) → ¬ (¬ zsl (w.1 (x + (388 + 2 * l.toNat))) (w.1 (x + (387 + 2 * l.toNat)) 0).toNat) → v = some (jI (zbt (fun z : Nat => zmd (z : Int) f (w.1 (x + (388 + 2 * l.toNat))) (w.1 (x + (387 + 2 * l.toNat)) 0).toNat) 7)) ∧ w1 = w)) := by
  have mt : jtb 117 = jT117 := rfl
  have hrl1 : -2147483648 ≤ l ∧ l < 2147483648 := hrl
  have hrf1 : -2147483648 ≤ f ∧ f < 2147483648 := hrf
  show jWp 117 0 [some (jO x), some (jI l), some (jI f), none, none] [] 0 0 w _
  refine jWp.blk mt 2 ?_
  show _ ∧ jWp 117 2 [some (jO x), some (jI l), some (jI f), none, none] [jI l, jO x] 0 0 w _
  refine ⟨rfl, ?_⟩
  refine jWp.callv (as := [jO x, jI l]) (rest := []) mt rfl rfl rfl ⟨rfl, jtg hX.X0⟩ ?_
  refine jCall.mono (C_isList (w := w) hX hrl) (fun v9 w9 h9 => ?_)
  rcases h9 with ⟨rfl, h9, h1⟩ | ⟨rfl, h9, h1⟩ <;> subst w9
  · have h1 : 0 ≤ l ∧ l ≤ 2 := h1
    show jWp 117 5 [some (jO x), some (jI l), some (jI f), none, none] [jI 1] 0 0 w _
    obtain ⟨l1, rfl⟩ : ∃ l1 : Nat, l = (l1 : Int) := ⟨l.toNat, by omega⟩
    show jWp 117 5 [some (jO x), some (jI (l1 : Int)), some (jI f), none, none] [jI 1] 0 0 w _
    have hzl := hz l1 (by omega)
    refine jWp.ifc (b := true) mt rfl (by decide) rfl ?_
    show jWp 117 14 [some (jO x), some (jI (l1 : Int)), some (jI f), none, none] [] 0 0 w _
    refine jWp.blk mt 1 ?_
    show jWp 117 15 [some (jO x), some (jI (l1 : Int)), some (jI f), none, none] [jI f] 0 0 w _
    refine jWp.ifz (pc' := 18) mt rfl rfl (b32_id (by omega) (by omega)) (fun h2 => ?_) (fun h2 => ?_)
    · have h2 : 0 ≤ f := h2
      refine jWp.blk mt 2 ?_
      show jWp 117 28 [some (jO x), some (jI (l1 : Int)), some (jI f), none, none] [jI 9, jI f] 0 0 w _
      refine jWp.icmp (pc' := 31) mt rfl rfl (b32_id (by omega) (by omega)) (show b32 9 = 9 by decide) (fun h3 => ?_) (fun h3 => ?_)
      · have h3 : f ≤ 9 := h3
        refine jWp.blk mt 1 ?_
        show _ ∧ jWp 117 39 [some (jO x), some (jI (l1 : Int)), some (jI f), none, none] [jO x] 0 0 w _
        refine ⟨rfl, ?_⟩
        refine jWp.getR (pc' := 42) (o := (x + 359)) mt rfl rfl (jtg hX.X0) hX.R11 ?_
        show jWp 117 42 [some (jO x), some (jI (l1 : Int)), some (jI f), none, none] [jO (x + 359)] 0 0 w _
        refine jWp.blk mt 1 ?_
        show jWp 117 43 [some (jO x), some (jI (l1 : Int)), some (jI f), none, none] [jI (l1 : Int), jO (x + 359)] 0 0 w _
        refine jWp.aald (pc' := 44) (j := l1) (o := (x + (387 + 2 * l1))) mt rfl rfl (jrg hX.X359 (by decide) (by decide)) (b32_id (by omega) (by omega)) (jlt hX.X359 (by omega)) (hX.RT l1 (by omega)) ?_
        show jWp 117 44 [some (jO x), some (jI (l1 : Int)), some (jI f), none, none] [jO (x + (387 + 2 * l1))] 0 0 w _
        refine jWp.callv (as := [jO (x + (387 + 2 * l1))]) (rest := []) mt rfl rfl rfl ⟨rfl, jtg (hX.KT l1 (by omega))⟩ ?_
        refine jCall.mono (C_isMissing (w := w) (t := x + (387 + 2 * l1)) (tp := x + (388 + 2 * l1)) (hX.KT l1 (by omega)) (hX.KTp l1 (by omega)) (hX.RTp l1 (by omega)) rfl hzl) (fun v9 w9 h9 => ?_)
        rcases h9 with ⟨rfl, h9, h4⟩ | ⟨rfl, h9, h4⟩ <;> subst w9
        · have h4 : (w.1 (x + (387 + 2 * l1)) 0) < 0 := h4
          show jWp 117 47 [some (jO x), some (jI (l1 : Int)), some (jI f), none, none] [jI 1] 0 0 w _
          refine jWp.ifc (b := false) mt rfl (by decide) rfl ?_
          show jWp 117 50 [some (jO x), some (jI (l1 : Int)), some (jI f), none, none] [] 0 0 w _
          refine jWp.blk mt 2 ?_
          show _ ∧ jWp 117 53 [some (jO x), some (jI (l1 : Int)), some (jI f), none, none] [jI (-11), jO x] 0 0 w _
          refine ⟨rfl, ?_⟩
          refine jWp.callv (as := [jO x, jI (-11)]) (rest := []) mt rfl rfl rfl ⟨rfl, jtg hX.X0⟩ ?_
          refine jCall.mono (C_refuse2 (w := w) hX (by decide)) (fun v9 w9 h9 => ?_)
          obtain ⟨rfl, h9⟩ := h9
          subst w9
          show jWp 117 56 [some (jO x), some (jI (l1 : Int)), some (jI f), none, none] [jI (-11)] 0 0 w _
          refine jWp.ireti mt rfl ⟨rfl, rfl⟩ rfl ?_
          try rw [show ((l1 : Nat) : Int).toNat = l1 from rfl]
          refine ⟨fun c0 => ?_, fun c0 c1 => ?_, fun c0 c1 c2 => ?_, fun c0 c1 c2 c3 => ?_, fun c0 c1 c2 c3 c4 => ?_, fun c0 c1 c2 c3 c4 => ?_⟩
          all_goals first
          | (exfalso; omega)
          | contradiction
          | (exfalso; exact absurd (by assumption) c4)
          | (exfalso; exact absurd (by assumption) c3)
          | exact ⟨rfl, rfl⟩
          | exact ⟨by rw [hb, show k = 7 by omega], rfl⟩
        · have h4 : ¬ ((w.1 (x + (387 + 2 * l1)) 0) < 0) := h4
          show jWp 117 47 [some (jO x), some (jI (l1 : Int)), some (jI f), none, none] [jI 0] 0 0 w _
          refine jWp.ifc (b := true) mt rfl (by decide) rfl ?_
          show jWp 117 57 [some (jO x), some (jI (l1 : Int)), some (jI f), none, none] [] 0 0 w _
          refine jWp.blk mt 1 ?_
          show _ ∧ jWp 117 58 [some (jO x), some (jI (l1 : Int)), some (jI f), none, none] [jO x] 0 0 w _
          refine ⟨rfl, ?_⟩
          refine jWp.getR (pc' := 61) (o := (x + 359)) mt rfl rfl (jtg hX.X0) hX.R11 ?_
          show jWp 117 61 [some (jO x), some (jI (l1 : Int)), some (jI f), none, none] [jO (x + 359)] 0 0 w _
          refine jWp.blk mt 1 ?_
          show jWp 117 62 [some (jO x), some (jI (l1 : Int)), some (jI f), none, none] [jI (l1 : Int), jO (x + 359)] 0 0 w _
          refine jWp.aald (pc' := 63) (j := l1) (o := (x + (387 + 2 * l1))) mt rfl rfl (jrg hX.X359 (by decide) (by decide)) (b32_id (by omega) (by omega)) (jlt hX.X359 (by omega)) (hX.RT l1 (by omega)) ?_
          show jWp 117 63 [some (jO x), some (jI (l1 : Int)), some (jI f), none, none] [jO (x + (387 + 2 * l1))] 0 0 w _
          refine jWp.callv (as := [jO (x + (387 + 2 * l1))]) (rest := []) mt rfl rfl rfl ⟨rfl, jtg (hX.KT l1 (by omega))⟩ ?_
          refine jCall.mono (C_inRange (w := w) (t := x + (387 + 2 * l1)) (tp := x + (388 + 2 * l1)) (hX.KT l1 (by omega)) (hX.KTp l1 (by omega)) (hX.RTp l1 (by omega)) rfl hzl (hI l1 (by omega))) (fun v9 w9 h9 => ?_)
          rcases h9 with ⟨rfl, h9, h5⟩ | ⟨rfl, h9, h5⟩ <;> subst w9
          · have h5 : zsl (w.1 (x + (388 + 2 * l1))) (w.1 (x + (387 + 2 * l1)) 0).toNat := h5
            show jWp 117 66 [some (jO x), some (jI (l1 : Int)), some (jI f), none, none] [jI 1] 0 0 w _
            refine jWp.ifc (b := true) mt rfl (by decide) rfl ?_
            show jWp 117 76 [some (jO x), some (jI (l1 : Int)), some (jI f), none, none] [] 0 0 w _
            refine jWp.blk mt 4 ?_
            show jWp 117 81 [some (jO x), some (jI (l1 : Int)), some (jI f), some (jI 0), some (jI 0)] [] 0 0 w _
            have lp6 : ∀ (N : Nat) (k : Nat) (b : Int) (hk : k ≤ 7) (hb : b = zbt (fun z : Nat => zmd (z : Int) f (w.1 (x + (388 + 2 * l1))) (w.1 (x + (387 + 2 * l1)) 0).toNat) k), 7 - k < N → jWp 117 81 [some (jO x), some (jI (l1 : Int)), some (jI f), some (jI b), some (jI (k : Int))] [] 0 0 w (fun v w1 => ((¬ (0 ≤ (l1 : Int) ∧ (l1 : Int) ≤ 2)) → cno w x 0 (jI (-1)) v w1) ∧ (¬ (¬ (0 ≤ (l1 : Int) ∧ (l1 : Int) ≤ 2)) → (f < 0) → cno w x 3 (jI (-4)) v w1) ∧ (¬ (¬ (0 ≤ (l1 : Int) ∧ (l1 : Int) ≤ 2)) → ¬ (f < 0) → (9 < f) → cno w x 5 (jI (-6)) v w1) ∧ (¬ (¬ (0 ≤ (l1 : Int) ∧ (l1 : Int) ≤ 2)) → ¬ (f < 0) → ¬ (9 < f) → ((w.1 (x + (387 + 2 * (l1 : Int).toNat)) 0) < 0) → v = some (jI (-11)) ∧ w1 = w) ∧ (¬ (¬ (0 ≤ (l1 : Int) ∧ (l1 : Int) ≤ 2)) → ¬ (f < 0) → ¬ (9 < f) → ¬ ((w.1 (x + (387 + 2 * (l1 : Int).toNat)) 0) < 0) → (¬ zsl (w.1 (x + (388 + 2 * (l1 : Int).toNat))) (w.1 (x + (387 + 2 * (l1 : Int).toNat)) 0).toNat) → cno w x 2 (jI (-3)) v w1) ∧ (¬ (¬ (0 ≤ (l1 : Int) ∧ (l1 : Int) ≤ 2)) → ¬ (f < 0) → ¬ (9 < f) → ¬ ((w.1 (x + (387 + 2 * (l1 : Int).toNat)) 0) < 0) → ¬ (¬ zsl (w.1 (x + (388 + 2 * (l1 : Int).toNat))) (w.1 (x + (387 + 2 * (l1 : Int).toNat)) 0).toNat) → v = some (jI (zbt (fun z : Nat => zmd (z : Int) f (w.1 (x + (388 + 2 * (l1 : Int).toNat))) (w.1 (x + (387 + 2 * (l1 : Int).toNat)) 0).toNat) 7)) ∧ w1 = w)) := by
              intro N
              induction N with
              | zero => intro k b hk hb hm; omega
              | succ N ih7 =>
                intro k b hk hb hm
                refine jWp.blk mt 2 ?_
                show jWp 117 85 [some (jO x), some (jI (l1 : Int)), some (jI f), some (jI b), some (jI (k : Int))] [jI 7, jI (k : Int)] 0 0 w _
                refine jWp.icmp (pc' := 88) mt rfl rfl (b32_id (by omega) (by omega)) (show b32 7 = 7 by decide) (fun h8 => ?_) (fun h8 => ?_)
                · have h8 : 7 ≤ (k : Int) := h8
                  refine jWp.blk mt 1 ?_
                  show jWp 117 117 [some (jO x), some (jI (l1 : Int)), some (jI f), some (jI b), some (jI (k : Int))] [jI b] 0 0 w _
                  refine jWp.ireti mt rfl ⟨rfl, rfl⟩ rfl ?_
                  try rw [show ((l1 : Nat) : Int).toNat = l1 from rfl]
                  refine ⟨fun c0 => ?_, fun c0 c1 => ?_, fun c0 c1 c2 => ?_, fun c0 c1 c2 c3 => ?_, fun c0 c1 c2 c3 c4 => ?_, fun c0 c1 c2 c3 c4 => ?_⟩
                  all_goals first
                  | (exfalso; omega)
                  | contradiction
                  | (exfalso; exact absurd (by assumption) c4)
                  | (exfalso; exact absurd (by assumption) c3)
                  | exact ⟨rfl, rfl⟩
                  | exact ⟨by rw [hb, show k = 7 by omega], rfl⟩
                · have h8 : (k : Int) < 7 := h8
                  refine jWp.blk mt 1 ?_
                  show _ ∧ jWp 117 89 [some (jO x), some (jI (l1 : Int)), some (jI f), some (jI b), some (jI (k : Int))] [jO x] 0 0 w _
                  refine ⟨rfl, ?_⟩
                  refine jWp.getR (pc' := 92) (o := (x + 359)) mt rfl rfl (jtg hX.X0) hX.R11 ?_
                  show jWp 117 92 [some (jO x), some (jI (l1 : Int)), some (jI f), some (jI b), some (jI (k : Int))] [jO (x + 359)] 0 0 w _
                  refine jWp.blk mt 1 ?_
                  show jWp 117 93 [some (jO x), some (jI (l1 : Int)), some (jI f), some (jI b), some (jI (k : Int))] [jI (l1 : Int), jO (x + 359)] 0 0 w _
                  refine jWp.aald (pc' := 94) (j := l1) (o := (x + (387 + 2 * l1))) mt rfl rfl (jrg hX.X359 (by decide) (by decide)) (b32_id (by omega) (by omega)) (jlt hX.X359 (by omega)) (hX.RT l1 (by omega)) ?_
                  show jWp 117 94 [some (jO x), some (jI (l1 : Int)), some (jI f), some (jI b), some (jI (k : Int))] [jO (x + (387 + 2 * l1))] 0 0 w _
                  refine jWp.blk mt 2 ?_
                  show jWp 117 97 [some (jO x), some (jI (l1 : Int)), some (jI f), some (jI b), some (jI (k : Int))] [jI f, jI (k : Int), jO (x + (387 + 2 * l1))] 0 0 w _
                  refine jWp.callv (as := [jO (x + (387 + 2 * l1)), jI (k : Int), jI f]) (rest := []) mt rfl rfl rfl ⟨rfl, jtg (hX.KT l1 (by omega))⟩ ?_
                  refine jCall.mono (C_madeBy (w := w) (t := x + (387 + 2 * l1)) (tp := x + (388 + 2 * l1)) (hX.KT l1 (by omega)) (hX.KTp l1 (by omega)) (hX.RTp l1 (by omega)) rfl hzl (hI l1 (by omega)) hO (by omega) (by omega) (by omega) (by assumption)) (fun v9 w9 h9 => ?_)
                  rcases h9 with ⟨rfl, h9, h9⟩ | ⟨rfl, h9, h9⟩ <;> subst w9
                  · have h9 : zmd (k : Int) f (w.1 (x + (388 + 2 * l1))) (w.1 (x + (387 + 2 * l1)) 0).toNat := h9
                    show jWp 117 100 [some (jO x), some (jI (l1 : Int)), some (jI f), some (jI b), some (jI (k : Int))] [jI 1] 0 0 w _
                    refine jWp.ifc (b := false) mt rfl (by decide) rfl ?_
                    show jWp 117 103 [some (jO x), some (jI (l1 : Int)), some (jI f), some (jI b), some (jI (k : Int))] [] 0 0 w _
                    refine jWp.blk mt 8 ?_
                    show jWp 117 81 [some (jO x), some (jI (l1 : Int)), some (jI f), some (jI (jor b (jshl 1 (k : Int)))), some (jI ((k : Int) + 1))] [] 0 0 w _
                    refine jWp.le (l := [some (jO x), some (jI (l1 : Int)), some (jI f), some (jI (jor b (jshl 1 (k : Int)))), some (jI ((k : Int) + 1))]) (by exact ⟨rfl, rfl, rfl, rfl, rfl, trivial⟩) ?_
                    exact ih7 (k + 1) _ (by omega) (by rw [hb, zbt_t (p := (fun z : Nat => zmd (z : Int) f (w.1 (x + (388 + 2 * l1))) (w.1 (x + (387 + 2 * l1)) 0).toNat)) (by assumption)]) (by omega)
                  · have h9 : ¬ (zmd (k : Int) f (w.1 (x + (388 + 2 * l1))) (w.1 (x + (387 + 2 * l1)) 0).toNat) := h9
                    show jWp 117 100 [some (jO x), some (jI (l1 : Int)), some (jI f), some (jI b), some (jI (k : Int))] [jI 0] 0 0 w _
                    refine jWp.ifc (b := true) mt rfl (by decide) rfl ?_
                    show jWp 117 110 [some (jO x), some (jI (l1 : Int)), some (jI f), some (jI b), some (jI (k : Int))] [] 0 0 w _
                    refine jWp.blk mt 2 ?_
                    show jWp 117 81 [some (jO x), some (jI (l1 : Int)), some (jI f), some (jI b), some (jI ((k : Int) + 1))] [] 0 0 w _
                    refine jWp.le (l := [some (jO x), some (jI (l1 : Int)), some (jI f), some (jI b), some (jI ((k : Int) + 1))]) (by exact ⟨rfl, rfl, rfl, rfl, rfl, trivial⟩) ?_
                    exact ih7 (k + 1) _ (by omega) (by rw [hb, zbt_f (p := (fun z : Nat => zmd (z : Int) f (w.1 (x + (388 + 2 * l1))) (w.1 (x + (387 + 2 * l1)) 0).toNat)) (by assumption)]) (by omega)
            refine jWp.le (l := [some (jO x), some (jI (l1 : Int)), some (jI f), some (jI 0), some (jI 0)]) (by exact ⟨rfl, rfl, rfl, rfl, rfl, trivial⟩) ?_
            exact lp6 _ 0 0 (by omega) rfl (Nat.lt_succ_self _)
          · have h5 : ¬ (zsl (w.1 (x + (388 + 2 * l1))) (w.1 (x + (387 + 2 * l1)) 0).toNat) := h5
            show jWp 117 66 [some (jO x), some (jI (l1 : Int)), some (jI f), none, none] [jI 0] 0 0 w _
            refine jWp.ifc (b := false) mt rfl (by decide) rfl ?_
            show jWp 117 69 [some (jO x), some (jI (l1 : Int)), some (jI f), none, none] [] 0 0 w _
            refine jWp.blk mt 2 ?_
            show _ ∧ jWp 117 72 [some (jO x), some (jI (l1 : Int)), some (jI f), none, none] [jI (-3), jO x] 0 0 w _
            refine ⟨rfl, ?_⟩
            refine jWp.callv (as := [jO x, jI (-3)]) (rest := []) mt rfl rfl rfl ⟨rfl, jtg hX.X0⟩ ?_
            refine jCall.mono (C_refuse (w := w) (j := 2) hX (by decide) (by decide)) (fun v9 w9 h9 => ?_)
            obtain ⟨rfl, h9⟩ := h9
            subst h9
            show jWp 117 75 [some (jO x), some (jI (l1 : Int)), some (jI f), none, none] [jI (-3)] 0 0 (jW w (x + 362) 2 ((w.1 (x + 362) 2) + 1)) _
            refine jWp.ireti mt rfl ⟨rfl, rfl⟩ rfl ?_
            try rw [show ((l1 : Nat) : Int).toNat = l1 from rfl]
            refine ⟨fun c0 => ?_, fun c0 c1 => ?_, fun c0 c1 c2 => ?_, fun c0 c1 c2 c3 => ?_, fun c0 c1 c2 c3 c4 => ?_, fun c0 c1 c2 c3 c4 => ?_⟩
            all_goals first
            | (exfalso; omega)
            | contradiction
            | (exfalso; exact absurd (by assumption) c4)
            | (exfalso; exact absurd (by assumption) c3)
            | exact ⟨rfl, rfl⟩
            | exact ⟨by rw [hb, show k = 7 by omega], rfl⟩
      · have h3 : 9 < f := h3
        refine jWp.blk mt 2 ?_
        show _ ∧ jWp 117 34 [some (jO x), some (jI (l1 : Int)), some (jI f), none, none] [jI (-6), jO x] 0 0 w _
        refine ⟨rfl, ?_⟩
        refine jWp.callv (as := [jO x, jI (-6)]) (rest := []) mt rfl rfl rfl ⟨rfl, jtg hX.X0⟩ ?_
        refine jCall.mono (C_refuse (w := w) (j := 5) hX (by decide) (by decide)) (fun v9 w9 h9 => ?_)
        obtain ⟨rfl, h9⟩ := h9
        subst h9
        show jWp 117 37 [some (jO x), some (jI (l1 : Int)), some (jI f), none, none] [jI (-6)] 0 0 (jW w (x + 362) 5 ((w.1 (x + 362) 5) + 1)) _
        refine jWp.ireti mt rfl ⟨rfl, rfl⟩ rfl ?_
        try rw [show ((l1 : Nat) : Int).toNat = l1 from rfl]
        refine ⟨fun c0 => ?_, fun c0 c1 => ?_, fun c0 c1 c2 => ?_, fun c0 c1 c2 c3 => ?_, fun c0 c1 c2 c3 c4 => ?_, fun c0 c1 c2 c3 c4 => ?_⟩
        all_goals first
        | (exfalso; omega)
        | contradiction
        | (exfalso; exact absurd (by assumption) c4)
        | (exfalso; exact absurd (by assumption) c3)
        | exact ⟨rfl, rfl⟩
        | exact ⟨by rw [hb, show k = 7 by omega], rfl⟩
    · have h2 : f < 0 := h2
      refine jWp.blk mt 2 ?_
      show _ ∧ jWp 117 21 [some (jO x), some (jI (l1 : Int)), some (jI f), none, none] [jI (-4), jO x] 0 0 w _
      refine ⟨rfl, ?_⟩
      refine jWp.callv (as := [jO x, jI (-4)]) (rest := []) mt rfl rfl rfl ⟨rfl, jtg hX.X0⟩ ?_
      refine jCall.mono (C_refuse (w := w) (j := 3) hX (by decide) (by decide)) (fun v9 w9 h9 => ?_)
      obtain ⟨rfl, h9⟩ := h9
      subst h9
      show jWp 117 24 [some (jO x), some (jI (l1 : Int)), some (jI f), none, none] [jI (-4)] 0 0 (jW w (x + 362) 3 ((w.1 (x + 362) 3) + 1)) _
      refine jWp.ireti mt rfl ⟨rfl, rfl⟩ rfl ?_
      try rw [show ((l1 : Nat) : Int).toNat = l1 from rfl]
      refine ⟨fun c0 => ?_, fun c0 c1 => ?_, fun c0 c1 c2 => ?_, fun c0 c1 c2 c3 => ?_, fun c0 c1 c2 c3 c4 => ?_, fun c0 c1 c2 c3 c4 => ?_⟩
      all_goals first
      | (exfalso; omega)
      | contradiction
      | (exfalso; exact absurd (by assumption) c4)
      | (exfalso; exact absurd (by assumption) c3)
      | exact ⟨rfl, rfl⟩
      | exact ⟨by rw [hb, show k = 7 by omega], rfl⟩
  · have h1 : ¬ (0 ≤ l ∧ l ≤ 2) := h1
    show jWp 117 5 [some (jO x), some (jI l), some (jI f), none, none] [jI 0] 0 0 w _
    refine jWp.ifc (b := false) mt rfl (by decide) rfl ?_
    show jWp 117 8 [some (jO x), some (jI l), some (jI f), none, none] [] 0 0 w _
    refine jWp.blk mt 2 ?_
    show _ ∧ jWp 117 10 [some (jO x), some (jI l), some (jI f), none, none] [jI (-1), jO x] 0 0 w _
    refine ⟨rfl, ?_⟩
    refine jWp.callv (as := [jO x, jI (-1)]) (rest := []) mt rfl rfl rfl ⟨rfl, jtg hX.X0⟩ ?_
    refine jCall.mono (C_refuse (w := w) (j := 0) hX (by decide) (by decide)) (fun v9 w9 h9 => ?_)
    obtain ⟨rfl, h9⟩ := h9
    subst h9
    show jWp 117 13 [some (jO x), some (jI l), some (jI f), none, none] [jI (-1)] 0 0 (jW w (x + 362) 0 ((w.1 (x + 362) 0) + 1)) _
    refine jWp.ireti mt rfl ⟨rfl, rfl⟩ rfl ?_
    try rw [show ((l1 : Nat) : Int).toNat = l1 from rfl]
    refine ⟨fun c0 => ?_, fun c0 c1 => ?_, fun c0 c1 c2 => ?_, fun c0 c1 c2 c3 => ?_, fun c0 c1 c2 c3 c4 => ?_, fun c0 c1 c2 c3 c4 => ?_⟩
    all_goals first
    | (exfalso; omega)
    | contradiction
    | (exfalso; exact absurd (by assumption) c4)
    | (exfalso; exact absurd (by assumption) c3)
    | exact ⟨rfl, rfl⟩
    | exact ⟨by rw [hb, show k = 7 by omega], rfl⟩
set_option maxHeartbeats 4000000 in
set_option maxRecDepth 20000 in
theorem C_figures {w : jS} {x : Nat} (hX : CW w.2 x) (hz : ∀ y, y < 3 → -1 ≤ w.1 (x + (387 + 2 * y)) 0 ∧ w.1 (x + (387 + 2 * y)) 0 ≤ 40) (hI : ∀ y, y < 3 → ∀ j, j < 40 → r32 (w.1 (x + (388 + 2 * y)) j)) (hO : jOK w) {l a : Int} (hrl : r32 l) (hra : r32 a) : jCall 118 [jO x, jI l, jI a] w (fun v w1 => ((¬ (0 ≤ l ∧ l ≤ 2)) → cno w x 0 (jI (-1)) v w1) ∧ (¬ (¬ (0 ≤ l ∧ l ≤ 2)) → (¬ (0 ≤ a ∧ a ≤ 6)) → cno w x 1 (jI (-2)) v w1) ∧ (¬ (¬ (0 ≤ l ∧ l ≤ 2)) → ¬ (¬ (0 ≤ a ∧ a ≤ 6)) → ((w.1 (x + (387 + 2 * l.toNat)) 0) < 0) → v = some (jI (-11)) ∧ w1 = w) ∧ (¬ (¬ (0 ≤ l ∧ l ≤ 2)) → ¬ (¬ (0 ≤ a ∧ a ≤ 6)) → ¬ ((w.1 (x + (387 + 2 * l.toNat)) 0) < 0) → (¬ zsl (w.1 (x + (388 + 2 * l.toNat))) (w.1 (x + (387 + 2 * l.toNat)) 0).toNat) → cno w x 2 (jI (-3)) v w1) ∧ (¬ (¬ (0 ≤ l ∧ l ≤ 2)) → ¬ (¬ (0 ≤ a ∧ a ≤ 6)) → ¬ ((w.1 (x + (387 + 2 * l.toNat)) 0) < 0) → ¬ (¬ zsl (w.1 (x + (388 + 2 * l.toNat))) (w.1 (x + (387 + 2 * l.toNat)) 0).toNat) → v = some (jI (zbt (fun z : Nat => zmd a (z : Int) (w.1 (x + (388 + 2 * l.toNat))) (w.1 (x + (387 + 2 * l.toNat)) 0).toNat) 10)) ∧ w1 = w)) := by
  have mt : jtb 118 = jT118 := rfl
  have hrl1 : -2147483648 ≤ l ∧ l < 2147483648 := hrl
  have hra1 : -2147483648 ≤ a ∧ a < 2147483648 := hra
  show jWp 118 0 [some (jO x), some (jI l), some (jI a), none, none] [] 0 0 w _
  refine jWp.blk mt 2 ?_
  show _ ∧ jWp 118 2 [some (jO x), some (jI l), some (jI a), none, none] [jI l, jO x] 0 0 w _
  refine ⟨rfl, ?_⟩
  refine jWp.callv (as := [jO x, jI l]) (rest := []) mt rfl rfl rfl ⟨rfl, jtg hX.X0⟩ ?_
  refine jCall.mono (C_isList (w := w) hX hrl) (fun v9 w9 h9 => ?_)
  rcases h9 with ⟨rfl, h9, h1⟩ | ⟨rfl, h9, h1⟩ <;> subst w9
  · have h1 : 0 ≤ l ∧ l ≤ 2 := h1
    show jWp 118 5 [some (jO x), some (jI l), some (jI a), none, none] [jI 1] 0 0 w _
    obtain ⟨l1, rfl⟩ : ∃ l1 : Nat, l = (l1 : Int) := ⟨l.toNat, by omega⟩
    show jWp 118 5 [some (jO x), some (jI (l1 : Int)), some (jI a), none, none] [jI 1] 0 0 w _
    have hzl := hz l1 (by omega)
    refine jWp.ifc (b := true) mt rfl (by decide) rfl ?_
    show jWp 118 14 [some (jO x), some (jI (l1 : Int)), some (jI a), none, none] [] 0 0 w _
    refine jWp.blk mt 1 ?_
    show jWp 118 15 [some (jO x), some (jI (l1 : Int)), some (jI a), none, none] [jI a] 0 0 w _
    refine jWp.ifz (pc' := 18) mt rfl rfl (b32_id (by omega) (by omega)) (fun h2 => ?_) (fun h2 => ?_)
    · have h2 : a < 0 := h2
      refine jWp.blk mt 2 ?_
      show _ ∧ jWp 118 27 [some (jO x), some (jI (l1 : Int)), some (jI a), none, none] [jI (-2), jO x] 0 0 w _
      refine ⟨rfl, ?_⟩
      refine jWp.callv (as := [jO x, jI (-2)]) (rest := []) mt rfl rfl rfl ⟨rfl, jtg hX.X0⟩ ?_
      refine jCall.mono (C_refuse (w := w) (j := 1) hX (by decide) (by decide)) (fun v9 w9 h9 => ?_)
      obtain ⟨rfl, h9⟩ := h9
      subst h9
      show jWp 118 30 [some (jO x), some (jI (l1 : Int)), some (jI a), none, none] [jI (-2)] 0 0 (jW w (x + 362) 1 ((w.1 (x + 362) 1) + 1)) _
      refine jWp.ireti mt rfl ⟨rfl, rfl⟩ rfl ?_
      try rw [show ((l1 : Nat) : Int).toNat = l1 from rfl]
      refine ⟨fun c0 => ?_, fun c0 c1 => ?_, fun c0 c1 c2 => ?_, fun c0 c1 c2 c3 => ?_, fun c0 c1 c2 c3 => ?_⟩
      all_goals first
      | (exfalso; omega)
      | contradiction
      | (exfalso; exact absurd (by assumption) c4)
      | (exfalso; exact absurd (by assumption) c3)
      | exact ⟨rfl, rfl⟩
      | exact ⟨by rw [hb, show k = 10 by omega], rfl⟩
    · have h2 : 0 ≤ a := h2
      refine jWp.blk mt 2 ?_
      show jWp 118 21 [some (jO x), some (jI (l1 : Int)), some (jI a), none, none] [jI 7, jI a] 0 0 w _
      refine jWp.icmp (pc' := 24) mt rfl rfl (b32_id (by omega) (by omega)) (show b32 7 = 7 by decide) (fun h3 => ?_) (fun h3 => ?_)
      · have h3 : a < 7 := h3
        refine jWp.blk mt 1 ?_
        show _ ∧ jWp 118 32 [some (jO x), some (jI (l1 : Int)), some (jI a), none, none] [jO x] 0 0 w _
        refine ⟨rfl, ?_⟩
        refine jWp.getR (pc' := 35) (o := (x + 359)) mt rfl rfl (jtg hX.X0) hX.R11 ?_
        show jWp 118 35 [some (jO x), some (jI (l1 : Int)), some (jI a), none, none] [jO (x + 359)] 0 0 w _
        refine jWp.blk mt 1 ?_
        show jWp 118 36 [some (jO x), some (jI (l1 : Int)), some (jI a), none, none] [jI (l1 : Int), jO (x + 359)] 0 0 w _
        refine jWp.aald (pc' := 37) (j := l1) (o := (x + (387 + 2 * l1))) mt rfl rfl (jrg hX.X359 (by decide) (by decide)) (b32_id (by omega) (by omega)) (jlt hX.X359 (by omega)) (hX.RT l1 (by omega)) ?_
        show jWp 118 37 [some (jO x), some (jI (l1 : Int)), some (jI a), none, none] [jO (x + (387 + 2 * l1))] 0 0 w _
        refine jWp.callv (as := [jO (x + (387 + 2 * l1))]) (rest := []) mt rfl rfl rfl ⟨rfl, jtg (hX.KT l1 (by omega))⟩ ?_
        refine jCall.mono (C_isMissing (w := w) (t := x + (387 + 2 * l1)) (tp := x + (388 + 2 * l1)) (hX.KT l1 (by omega)) (hX.KTp l1 (by omega)) (hX.RTp l1 (by omega)) rfl hzl) (fun v9 w9 h9 => ?_)
        rcases h9 with ⟨rfl, h9, h4⟩ | ⟨rfl, h9, h4⟩ <;> subst w9
        · have h4 : (w.1 (x + (387 + 2 * l1)) 0) < 0 := h4
          show jWp 118 40 [some (jO x), some (jI (l1 : Int)), some (jI a), none, none] [jI 1] 0 0 w _
          refine jWp.ifc (b := false) mt rfl (by decide) rfl ?_
          show jWp 118 43 [some (jO x), some (jI (l1 : Int)), some (jI a), none, none] [] 0 0 w _
          refine jWp.blk mt 2 ?_
          show _ ∧ jWp 118 46 [some (jO x), some (jI (l1 : Int)), some (jI a), none, none] [jI (-11), jO x] 0 0 w _
          refine ⟨rfl, ?_⟩
          refine jWp.callv (as := [jO x, jI (-11)]) (rest := []) mt rfl rfl rfl ⟨rfl, jtg hX.X0⟩ ?_
          refine jCall.mono (C_refuse2 (w := w) hX (by decide)) (fun v9 w9 h9 => ?_)
          obtain ⟨rfl, h9⟩ := h9
          subst w9
          show jWp 118 49 [some (jO x), some (jI (l1 : Int)), some (jI a), none, none] [jI (-11)] 0 0 w _
          refine jWp.ireti mt rfl ⟨rfl, rfl⟩ rfl ?_
          try rw [show ((l1 : Nat) : Int).toNat = l1 from rfl]
          refine ⟨fun c0 => ?_, fun c0 c1 => ?_, fun c0 c1 c2 => ?_, fun c0 c1 c2 c3 => ?_, fun c0 c1 c2 c3 => ?_⟩
          all_goals first
          | (exfalso; omega)
          | contradiction
          | (exfalso; exact absurd (by assumption) c4)
          | (exfalso; exact absurd (by assumption) c3)
          | exact ⟨rfl, rfl⟩
          | exact ⟨by rw [hb, show k = 10 by omega], rfl⟩
        · have h4 : ¬ ((w.1 (x + (387 + 2 * l1)) 0) < 0) := h4
          show jWp 118 40 [some (jO x), some (jI (l1 : Int)), some (jI a), none, none] [jI 0] 0 0 w _
          refine jWp.ifc (b := true) mt rfl (by decide) rfl ?_
          show jWp 118 50 [some (jO x), some (jI (l1 : Int)), some (jI a), none, none] [] 0 0 w _
          refine jWp.blk mt 1 ?_
          show _ ∧ jWp 118 51 [some (jO x), some (jI (l1 : Int)), some (jI a), none, none] [jO x] 0 0 w _
          refine ⟨rfl, ?_⟩
          refine jWp.getR (pc' := 54) (o := (x + 359)) mt rfl rfl (jtg hX.X0) hX.R11 ?_
          show jWp 118 54 [some (jO x), some (jI (l1 : Int)), some (jI a), none, none] [jO (x + 359)] 0 0 w _
          refine jWp.blk mt 1 ?_
          show jWp 118 55 [some (jO x), some (jI (l1 : Int)), some (jI a), none, none] [jI (l1 : Int), jO (x + 359)] 0 0 w _
          refine jWp.aald (pc' := 56) (j := l1) (o := (x + (387 + 2 * l1))) mt rfl rfl (jrg hX.X359 (by decide) (by decide)) (b32_id (by omega) (by omega)) (jlt hX.X359 (by omega)) (hX.RT l1 (by omega)) ?_
          show jWp 118 56 [some (jO x), some (jI (l1 : Int)), some (jI a), none, none] [jO (x + (387 + 2 * l1))] 0 0 w _
          refine jWp.callv (as := [jO (x + (387 + 2 * l1))]) (rest := []) mt rfl rfl rfl ⟨rfl, jtg (hX.KT l1 (by omega))⟩ ?_
          refine jCall.mono (C_inRange (w := w) (t := x + (387 + 2 * l1)) (tp := x + (388 + 2 * l1)) (hX.KT l1 (by omega)) (hX.KTp l1 (by omega)) (hX.RTp l1 (by omega)) rfl hzl (hI l1 (by omega))) (fun v9 w9 h9 => ?_)
          rcases h9 with ⟨rfl, h9, h5⟩ | ⟨rfl, h9, h5⟩ <;> subst w9
          · have h5 : zsl (w.1 (x + (388 + 2 * l1))) (w.1 (x + (387 + 2 * l1)) 0).toNat := h5
            show jWp 118 59 [some (jO x), some (jI (l1 : Int)), some (jI a), none, none] [jI 1] 0 0 w _
            refine jWp.ifc (b := true) mt rfl (by decide) rfl ?_
            show jWp 118 69 [some (jO x), some (jI (l1 : Int)), some (jI a), none, none] [] 0 0 w _
            refine jWp.blk mt 4 ?_
            show jWp 118 74 [some (jO x), some (jI (l1 : Int)), some (jI a), some (jI 0), some (jI 0)] [] 0 0 w _
            have lp6 : ∀ (N : Nat) (k : Nat) (b : Int) (hk : k ≤ 10) (hb : b = zbt (fun z : Nat => zmd a (z : Int) (w.1 (x + (388 + 2 * l1))) (w.1 (x + (387 + 2 * l1)) 0).toNat) k), 10 - k < N → jWp 118 74 [some (jO x), some (jI (l1 : Int)), some (jI a), some (jI b), some (jI (k : Int))] [] 0 0 w (fun v w1 => ((¬ (0 ≤ (l1 : Int) ∧ (l1 : Int) ≤ 2)) → cno w x 0 (jI (-1)) v w1) ∧ (¬ (¬ (0 ≤ (l1 : Int) ∧ (l1 : Int) ≤ 2)) → (¬ (0 ≤ a ∧ a ≤ 6)) → cno w x 1 (jI (-2)) v w1) ∧ (¬ (¬ (0 ≤ (l1 : Int) ∧ (l1 : Int) ≤ 2)) → ¬ (¬ (0 ≤ a ∧ a ≤ 6)) → ((w.1 (x + (387 + 2 * (l1 : Int).toNat)) 0) < 0) → v = some (jI (-11)) ∧ w1 = w) ∧ (¬ (¬ (0 ≤ (l1 : Int) ∧ (l1 : Int) ≤ 2)) → ¬ (¬ (0 ≤ a ∧ a ≤ 6)) → ¬ ((w.1 (x + (387 + 2 * (l1 : Int).toNat)) 0) < 0) → (¬ zsl (w.1 (x + (388 + 2 * (l1 : Int).toNat))) (w.1 (x + (387 + 2 * (l1 : Int).toNat)) 0).toNat) → cno w x 2 (jI (-3)) v w1) ∧ (¬ (¬ (0 ≤ (l1 : Int) ∧ (l1 : Int) ≤ 2)) → ¬ (¬ (0 ≤ a ∧ a ≤ 6)) → ¬ ((w.1 (x + (387 + 2 * (l1 : Int).toNat)) 0) < 0) → ¬ (¬ zsl (w.1 (x + (388 + 2 * (l1 : Int).toNat))) (w.1 (x + (387 + 2 * (l1 : Int).toNat)) 0).toNat) → v = some (jI (zbt (fun z : Nat => zmd a (z : Int) (w.1 (x + (388 + 2 * (l1 : Int).toNat))) (w.1 (x + (387 + 2 * (l1 : Int).toNat)) 0).toNat) 10)) ∧ w1 = w)) := by
              intro N
              induction N with
              | zero => intro k b hk hb hm; omega
              | succ N ih7 =>
                intro k b hk hb hm
                refine jWp.blk mt 2 ?_
                show jWp 118 78 [some (jO x), some (jI (l1 : Int)), some (jI a), some (jI b), some (jI (k : Int))] [jI 9, jI (k : Int)] 0 0 w _
                refine jWp.icmp (pc' := 81) mt rfl rfl (b32_id (by omega) (by omega)) (show b32 9 = 9 by decide) (fun h8 => ?_) (fun h8 => ?_)
                · have h8 : 9 < (k : Int) := h8
                  refine jWp.blk mt 1 ?_
                  show jWp 118 110 [some (jO x), some (jI (l1 : Int)), some (jI a), some (jI b), some (jI (k : Int))] [jI b] 0 0 w _
                  refine jWp.ireti mt rfl ⟨rfl, rfl⟩ rfl ?_
                  try rw [show ((l1 : Nat) : Int).toNat = l1 from rfl]
                  refine ⟨fun c0 => ?_, fun c0 c1 => ?_, fun c0 c1 c2 => ?_, fun c0 c1 c2 c3 => ?_, fun c0 c1 c2 c3 => ?_⟩
                  all_goals first
                  | (exfalso; omega)
                  | contradiction
                  | (exfalso; exact absurd (by assumption) c4)
                  | (exfalso; exact absurd (by assumption) c3)
                  | exact ⟨rfl, rfl⟩
                  | exact ⟨by rw [hb, show k = 10 by omega], rfl⟩
                · have h8 : (k : Int) ≤ 9 := h8
                  refine jWp.blk mt 1 ?_
                  show _ ∧ jWp 118 82 [some (jO x), some (jI (l1 : Int)), some (jI a), some (jI b), some (jI (k : Int))] [jO x] 0 0 w _
                  refine ⟨rfl, ?_⟩
                  refine jWp.getR (pc' := 85) (o := (x + 359)) mt rfl rfl (jtg hX.X0) hX.R11 ?_
                  show jWp 118 85 [some (jO x), some (jI (l1 : Int)), some (jI a), some (jI b), some (jI (k : Int))] [jO (x + 359)] 0 0 w _
                  refine jWp.blk mt 1 ?_
                  show jWp 118 86 [some (jO x), some (jI (l1 : Int)), some (jI a), some (jI b), some (jI (k : Int))] [jI (l1 : Int), jO (x + 359)] 0 0 w _
                  refine jWp.aald (pc' := 87) (j := l1) (o := (x + (387 + 2 * l1))) mt rfl rfl (jrg hX.X359 (by decide) (by decide)) (b32_id (by omega) (by omega)) (jlt hX.X359 (by omega)) (hX.RT l1 (by omega)) ?_
                  show jWp 118 87 [some (jO x), some (jI (l1 : Int)), some (jI a), some (jI b), some (jI (k : Int))] [jO (x + (387 + 2 * l1))] 0 0 w _
                  refine jWp.blk mt 2 ?_
                  show jWp 118 90 [some (jO x), some (jI (l1 : Int)), some (jI a), some (jI b), some (jI (k : Int))] [jI (k : Int), jI a, jO (x + (387 + 2 * l1))] 0 0 w _
                  refine jWp.callv (as := [jO (x + (387 + 2 * l1)), jI a, jI (k : Int)]) (rest := []) mt rfl rfl rfl ⟨rfl, jtg (hX.KT l1 (by omega))⟩ ?_
                  refine jCall.mono (C_madeBy (w := w) (t := x + (387 + 2 * l1)) (tp := x + (388 + 2 * l1)) (hX.KT l1 (by omega)) (hX.KTp l1 (by omega)) (hX.RTp l1 (by omega)) rfl hzl (hI l1 (by omega)) hO (by omega) (by omega) (by omega) (by assumption)) (fun v9 w9 h9 => ?_)
                  rcases h9 with ⟨rfl, h9, h9⟩ | ⟨rfl, h9, h9⟩ <;> subst w9
                  · have h9 : zmd a (k : Int) (w.1 (x + (388 + 2 * l1))) (w.1 (x + (387 + 2 * l1)) 0).toNat := h9
                    show jWp 118 93 [some (jO x), some (jI (l1 : Int)), some (jI a), some (jI b), some (jI (k : Int))] [jI 1] 0 0 w _
                    refine jWp.ifc (b := false) mt rfl (by decide) rfl ?_
                    show jWp 118 96 [some (jO x), some (jI (l1 : Int)), some (jI a), some (jI b), some (jI (k : Int))] [] 0 0 w _
                    refine jWp.blk mt 8 ?_
                    show jWp 118 74 [some (jO x), some (jI (l1 : Int)), some (jI a), some (jI (jor b (jshl 1 (k : Int)))), some (jI ((k : Int) + 1))] [] 0 0 w _
                    refine jWp.le (l := [some (jO x), some (jI (l1 : Int)), some (jI a), some (jI (jor b (jshl 1 (k : Int)))), some (jI ((k : Int) + 1))]) (by exact ⟨rfl, rfl, rfl, rfl, rfl, trivial⟩) ?_
                    exact ih7 (k + 1) _ (by omega) (by rw [hb, zbt_t (p := (fun z : Nat => zmd a (z : Int) (w.1 (x + (388 + 2 * l1))) (w.1 (x + (387 + 2 * l1)) 0).toNat)) (by assumption)]) (by omega)
                  · have h9 : ¬ (zmd a (k : Int) (w.1 (x + (388 + 2 * l1))) (w.1 (x + (387 + 2 * l1)) 0).toNat) := h9
                    show jWp 118 93 [some (jO x), some (jI (l1 : Int)), some (jI a), some (jI b), some (jI (k : Int))] [jI 0] 0 0 w _
                    refine jWp.ifc (b := true) mt rfl (by decide) rfl ?_
                    show jWp 118 103 [some (jO x), some (jI (l1 : Int)), some (jI a), some (jI b), some (jI (k : Int))] [] 0 0 w _
                    refine jWp.blk mt 2 ?_
                    show jWp 118 74 [some (jO x), some (jI (l1 : Int)), some (jI a), some (jI b), some (jI ((k : Int) + 1))] [] 0 0 w _
                    refine jWp.le (l := [some (jO x), some (jI (l1 : Int)), some (jI a), some (jI b), some (jI ((k : Int) + 1))]) (by exact ⟨rfl, rfl, rfl, rfl, rfl, trivial⟩) ?_
                    exact ih7 (k + 1) _ (by omega) (by rw [hb, zbt_f (p := (fun z : Nat => zmd a (z : Int) (w.1 (x + (388 + 2 * l1))) (w.1 (x + (387 + 2 * l1)) 0).toNat)) (by assumption)]) (by omega)
            refine jWp.le (l := [some (jO x), some (jI (l1 : Int)), some (jI a), some (jI 0), some (jI 0)]) (by exact ⟨rfl, rfl, rfl, rfl, rfl, trivial⟩) ?_
            exact lp6 _ 0 0 (by omega) rfl (Nat.lt_succ_self _)
          · have h5 : ¬ (zsl (w.1 (x + (388 + 2 * l1))) (w.1 (x + (387 + 2 * l1)) 0).toNat) := h5
            show jWp 118 59 [some (jO x), some (jI (l1 : Int)), some (jI a), none, none] [jI 0] 0 0 w _
            refine jWp.ifc (b := false) mt rfl (by decide) rfl ?_
            show jWp 118 62 [some (jO x), some (jI (l1 : Int)), some (jI a), none, none] [] 0 0 w _
            refine jWp.blk mt 2 ?_
            show _ ∧ jWp 118 65 [some (jO x), some (jI (l1 : Int)), some (jI a), none, none] [jI (-3), jO x] 0 0 w _
            refine ⟨rfl, ?_⟩
            refine jWp.callv (as := [jO x, jI (-3)]) (rest := []) mt rfl rfl rfl ⟨rfl, jtg hX.X0⟩ ?_
            refine jCall.mono (C_refuse (w := w) (j := 2) hX (by decide) (by decide)) (fun v9 w9 h9 => ?_)
            obtain ⟨rfl, h9⟩ := h9
            subst h9
            show jWp 118 68 [some (jO x), some (jI (l1 : Int)), some (jI a), none, none] [jI (-3)] 0 0 (jW w (x + 362) 2 ((w.1 (x + 362) 2) + 1)) _
            refine jWp.ireti mt rfl ⟨rfl, rfl⟩ rfl ?_
            try rw [show ((l1 : Nat) : Int).toNat = l1 from rfl]
            refine ⟨fun c0 => ?_, fun c0 c1 => ?_, fun c0 c1 c2 => ?_, fun c0 c1 c2 c3 => ?_, fun c0 c1 c2 c3 => ?_⟩
            all_goals first
            | (exfalso; omega)
            | contradiction
            | (exfalso; exact absurd (by assumption) c4)
            | (exfalso; exact absurd (by assumption) c3)
            | exact ⟨rfl, rfl⟩
            | exact ⟨by rw [hb, show k = 10 by omega], rfl⟩
      · have h3 : 7 ≤ a := h3
        refine jWp.blk mt 2 ?_
        show _ ∧ jWp 118 27 [some (jO x), some (jI (l1 : Int)), some (jI a), none, none] [jI (-2), jO x] 0 0 w _
        refine ⟨rfl, ?_⟩
        refine jWp.callv (as := [jO x, jI (-2)]) (rest := []) mt rfl rfl rfl ⟨rfl, jtg hX.X0⟩ ?_
        refine jCall.mono (C_refuse (w := w) (j := 1) hX (by decide) (by decide)) (fun v9 w9 h9 => ?_)
        obtain ⟨rfl, h9⟩ := h9
        subst h9
        show jWp 118 30 [some (jO x), some (jI (l1 : Int)), some (jI a), none, none] [jI (-2)] 0 0 (jW w (x + 362) 1 ((w.1 (x + 362) 1) + 1)) _
        refine jWp.ireti mt rfl ⟨rfl, rfl⟩ rfl ?_
        try rw [show ((l1 : Nat) : Int).toNat = l1 from rfl]
        refine ⟨fun c0 => ?_, fun c0 c1 => ?_, fun c0 c1 c2 => ?_, fun c0 c1 c2 c3 => ?_, fun c0 c1 c2 c3 => ?_⟩
        all_goals first
        | (exfalso; omega)
        | contradiction
        | (exfalso; exact absurd (by assumption) c4)
        | (exfalso; exact absurd (by assumption) c3)
        | exact ⟨rfl, rfl⟩
        | exact ⟨by rw [hb, show k = 10 by omega], rfl⟩
  · have h1 : ¬ (0 ≤ l ∧ l ≤ 2) := h1
    show jWp 118 5 [some (jO x), some (jI l), some (jI a), none, none] [jI 0] 0 0 w _
    refine jWp.ifc (b := false) mt rfl (by decide) rfl ?_
    show jWp 118 8 [some (jO x), some (jI l), some (jI a), none, none] [] 0 0 w _
    refine jWp.blk mt 2 ?_
    show _ ∧ jWp 118 10 [some (jO x), some (jI l), some (jI a), none, none] [jI (-1), jO x] 0 0 w _
    refine ⟨rfl, ?_⟩
    refine jWp.callv (as := [jO x, jI (-1)]) (rest := []) mt rfl rfl rfl ⟨rfl, jtg hX.X0⟩ ?_
    refine jCall.mono (C_refuse (w := w) (j := 0) hX (by decide) (by decide)) (fun v9 w9 h9 => ?_)
    obtain ⟨rfl, h9⟩ := h9
    subst h9
    show jWp 118 13 [some (jO x), some (jI l), some (jI a), none, none] [jI (-1)] 0 0 (jW w (x + 362) 0 ((w.1 (x + 362) 0) + 1)) _
    refine jWp.ireti mt rfl ⟨rfl, rfl⟩ rfl ?_
    try rw [show ((l1 : Nat) : Int).toNat = l1 from rfl]
    refine ⟨fun c0 => ?_, fun c0 c1 => ?_, fun c0 c1 c2 => ?_, fun c0 c1 c2 c3 => ?_, fun c0 c1 c2 c3 => ?_⟩
    all_goals first
    | (exfalso; omega)
    | contradiction
    | (exfalso; exact absurd (by assumption) c4)
    | (exfalso; exact absurd (by assumption) c3)
    | exact ⟨rfl, rfl⟩
    | exact ⟨by rw [hb, show k = 10 by omega], rfl⟩
set_option maxHeartbeats 4000000 in
set_option maxRecDepth 20000 in
theorem C_judge {w : jS} {x : Nat} (hX : CW w.2 x) (hz : ∀ y, y < 3 → -1 ≤ w.1 (x + (387 + 2 * y)) 0 ∧ w.1 (x + (387 + 2 * y)) 0 ≤ 40) (hI : ∀ y, y < 3 → ∀ j, j < 40 → r32 (w.1 (x + (388 + 2 * y)) j)) {c : Nat} {R : Nat → Int} (hR : zRw R c) (hRW : cRW w x R c) {l a : Int} (hrl : r32 l) (hra : r32 a) : jCall 119 [jO x, jI l, jI a] w (fun v w1 => ((¬ (0 ≤ l ∧ l ≤ 2) ∨ ¬ (0 ≤ a ∧ a < (c : Int))) → cno w x 0 (jI (-1)) v w1) ∧ (¬ (¬ (0 ≤ l ∧ l ≤ 2) ∨ ¬ (0 ≤ a ∧ a < (c : Int))) → ((w.1 (x + (387 + 2 * l.toNat)) 0) < 0) → v = some (jI (-11)) ∧ w1 = w) ∧ (¬ (¬ (0 ≤ l ∧ l ≤ 2) ∨ ¬ (0 ≤ a ∧ a < (c : Int))) → ¬ ((w.1 (x + (387 + 2 * l.toNat)) 0) < 0) → ∃ (t : Nat → Int) (len : Nat) (why left : Int), zTR R a.toNat t len why left ∧ v = some (jI (zff (fun k => ¬ k < len ∨ w.1 (x + (388 + 2 * l.toNat)) k ≠ t k) (w.1 (x + (387 + 2 * l.toNat)) 0).toNat 0)) ∧ w1 = w)) := by
  have mt : jtb 119 = jT119 := rfl
  have hc4 := hR.2.1
  have hra1 : -2147483648 ≤ a ∧ a < 2147483648 := hra
  have hrl1 : -2147483648 ≤ l ∧ l < 2147483648 := hrl
  show jWp 119 0 [some (jO x), some (jI l), some (jI a)] [] 0 0 w _
  refine jWp.blk mt 2 ?_
  show _ ∧ jWp 119 2 [some (jO x), some (jI l), some (jI a)] [jI l, jO x] 0 0 w _
  refine ⟨rfl, ?_⟩
  refine jWp.callv (as := [jO x, jI l]) (rest := []) mt rfl rfl rfl ⟨rfl, jtg hX.X0⟩ ?_
  refine jCall.mono (C_isList (w := w) hX hrl) (fun v9 w9 h9 => ?_)
  rcases h9 with ⟨rfl, h9, h1⟩ | ⟨rfl, h9, h1⟩ <;> subst w9
  · have h1 : 0 ≤ l ∧ l ≤ 2 := h1
    show jWp 119 5 [some (jO x), some (jI l), some (jI a)] [jI 1] 0 0 w _
    obtain ⟨l1, rfl⟩ : ∃ l1 : Nat, l = (l1 : Int) := ⟨l.toNat, by omega⟩
    show jWp 119 5 [some (jO x), some (jI (l1 : Int)), some (jI a)] [jI 1] 0 0 w _
    have hzl := hz l1 (by omega)
    refine jWp.ifc (b := false) mt rfl (by decide) rfl ?_
    show jWp 119 8 [some (jO x), some (jI (l1 : Int)), some (jI a)] [] 0 0 w _
    refine jWp.blk mt 2 ?_
    show _ ∧ jWp 119 10 [some (jO x), some (jI (l1 : Int)), some (jI a)] [jI a, jO x] 0 0 w _
    refine ⟨rfl, ?_⟩
    refine jWp.callv (as := [jO x, jI a]) (rest := []) mt rfl rfl rfl ⟨rfl, jtg hX.X0⟩ ?_
    refine jCall.mono (C_isRow (w := w) hX hRW.1 hR.2.1 hra) (fun v9 w9 h9 => ?_)
    rcases h9 with ⟨rfl, h9, h2⟩ | ⟨rfl, h9, h2⟩ <;> subst w9
    · have h2 : 0 ≤ a ∧ a < (c : Int) := h2
      show jWp 119 13 [some (jO x), some (jI (l1 : Int)), some (jI a)] [jI 1] 0 0 w _
      obtain ⟨a1, rfl⟩ : ∃ a1 : Nat, a = (a1 : Int) := ⟨a.toNat, by omega⟩
      show jWp 119 13 [some (jO x), some (jI (l1 : Int)), some (jI (a1 : Int))] [jI 1] 0 0 w _
      obtain ⟨hlaw, hfig, hst, len, why, left, hlen, hwhy, hleft, hgr, hen⟩ := hRW.2 a1 (by omega)
      have hTR : zTR R a1 (w.1 (x + (365 + 6 * a1))) len why left := ⟨hgr, hen⟩
      have hTb := zTR_b hR (by omega) hTR
      have hRl := hR.2.2 a1 (by omega)
      show jWp 119 13 [some (jO x), some (jI (l1 : Int)), some (jI (a1 : Int))] [jI 1] 0 0 w _
      refine jWp.ifc (b := true) mt rfl (by decide) rfl ?_
      show jWp 119 22 [some (jO x), some (jI (l1 : Int)), some (jI (a1 : Int))] [] 0 0 w _
      refine jWp.blk mt 1 ?_
      show _ ∧ jWp 119 23 [some (jO x), some (jI (l1 : Int)), some (jI (a1 : Int))] [jO x] 0 0 w _
      refine ⟨rfl, ?_⟩
      refine jWp.getR (pc' := 26) (o := (x + 359)) mt rfl rfl (jtg hX.X0) hX.R11 ?_
      show jWp 119 26 [some (jO x), some (jI (l1 : Int)), some (jI (a1 : Int))] [jO (x + 359)] 0 0 w _
      refine jWp.blk mt 1 ?_
      show jWp 119 27 [some (jO x), some (jI (l1 : Int)), some (jI (a1 : Int))] [jI (l1 : Int), jO (x + 359)] 0 0 w _
      refine jWp.aald (pc' := 28) (j := l1) (o := (x + (387 + 2 * l1))) mt rfl rfl (jrg hX.X359 (by decide) (by decide)) (b32_id (by omega) (by omega)) (jlt hX.X359 (by omega)) (hX.RT l1 (by omega)) ?_
      show jWp 119 28 [some (jO x), some (jI (l1 : Int)), some (jI (a1 : Int))] [jO (x + (387 + 2 * l1))] 0 0 w _
      refine jWp.callv (as := [jO (x + (387 + 2 * l1))]) (rest := []) mt rfl rfl rfl ⟨rfl, jtg (hX.KT l1 (by omega))⟩ ?_
      refine jCall.mono (C_isMissing (w := w) (t := x + (387 + 2 * l1)) (tp := x + (388 + 2 * l1)) (hX.KT l1 (by omega)) (hX.KTp l1 (by omega)) (hX.RTp l1 (by omega)) rfl hzl) (fun v9 w9 h9 => ?_)
      rcases h9 with ⟨rfl, h9, h3⟩ | ⟨rfl, h9, h3⟩ <;> subst w9
      · have h3 : (w.1 (x + (387 + 2 * l1)) 0) < 0 := h3
        show jWp 119 31 [some (jO x), some (jI (l1 : Int)), some (jI (a1 : Int))] [jI 1] 0 0 w _
        refine jWp.ifc (b := false) mt rfl (by decide) rfl ?_
        show jWp 119 34 [some (jO x), some (jI (l1 : Int)), some (jI (a1 : Int))] [] 0 0 w _
        refine jWp.blk mt 2 ?_
        show _ ∧ jWp 119 37 [some (jO x), some (jI (l1 : Int)), some (jI (a1 : Int))] [jI (-11), jO x] 0 0 w _
        refine ⟨rfl, ?_⟩
        refine jWp.callv (as := [jO x, jI (-11)]) (rest := []) mt rfl rfl rfl ⟨rfl, jtg hX.X0⟩ ?_
        refine jCall.mono (C_refuse2 (w := w) hX (by decide)) (fun v9 w9 h9 => ?_)
        obtain ⟨rfl, h9⟩ := h9
        subst w9
        show jWp 119 40 [some (jO x), some (jI (l1 : Int)), some (jI (a1 : Int))] [jI (-11)] 0 0 w _
        refine jWp.ireti mt rfl ⟨rfl, rfl⟩ rfl ?_
        try rw [show ((l1 : Nat) : Int).toNat = l1 from rfl]
        refine ⟨fun c0 => ?_, fun c0 c1 => ?_, fun c0 c1 => ?_⟩
        all_goals first
        | (exfalso; omega)
        | exact ⟨rfl, rfl⟩
        | exact ⟨_, len, why, left, hTR, rfl, rfl⟩
      · have h3 : ¬ ((w.1 (x + (387 + 2 * l1)) 0) < 0) := h3
        show jWp 119 31 [some (jO x), some (jI (l1 : Int)), some (jI (a1 : Int))] [jI 0] 0 0 w _
        refine jWp.ifc (b := true) mt rfl (by decide) rfl ?_
        show jWp 119 41 [some (jO x), some (jI (l1 : Int)), some (jI (a1 : Int))] [] 0 0 w _
        refine jWp.blk mt 1 ?_
        show _ ∧ jWp 119 42 [some (jO x), some (jI (l1 : Int)), some (jI (a1 : Int))] [jO x] 0 0 w _
        refine ⟨rfl, ?_⟩
        refine jWp.getR (pc' := 45) (o := (x + 359)) mt rfl rfl (jtg hX.X0) hX.R11 ?_
        show jWp 119 45 [some (jO x), some (jI (l1 : Int)), some (jI (a1 : Int))] [jO (x + 359)] 0 0 w _
        refine jWp.blk mt 1 ?_
        show jWp 119 46 [some (jO x), some (jI (l1 : Int)), some (jI (a1 : Int))] [jI (l1 : Int), jO (x + 359)] 0 0 w _
        refine jWp.aald (pc' := 47) (j := l1) (o := (x + (387 + 2 * l1))) mt rfl rfl (jrg hX.X359 (by decide) (by decide)) (b32_id (by omega) (by omega)) (jlt hX.X359 (by omega)) (hX.RT l1 (by omega)) ?_
        show jWp 119 47 [some (jO x), some (jI (l1 : Int)), some (jI (a1 : Int))] [jO (x + (387 + 2 * l1))] 0 0 w _
        refine jWp.blk mt 1 ?_
        show _ ∧ jWp 119 48 [some (jO x), some (jI (l1 : Int)), some (jI (a1 : Int))] [jO x, jO (x + (387 + 2 * l1))] 0 0 w _
        refine ⟨rfl, ?_⟩
        refine jWp.getR (pc' := 51) (o := (x + 1)) mt rfl rfl (jtg hX.X0) hX.R0 ?_
        show jWp 119 51 [some (jO x), some (jI (l1 : Int)), some (jI (a1 : Int))] [jO (x + 1), jO (x + (387 + 2 * l1))] 0 0 w _
        refine jWp.blk mt 1 ?_
        show jWp 119 52 [some (jO x), some (jI (l1 : Int)), some (jI (a1 : Int))] [jI (a1 : Int), jO (x + 1), jO (x + (387 + 2 * l1))] 0 0 w _
        refine jWp.aald (pc' := 53) (j := a1) (o := (x + (363 + 6 * a1))) mt rfl rfl (jrg hX.X1 (by decide) (by decide)) (b32_id (by omega) (by omega)) (jlt hX.X1 (by omega)) (hX.RR a1 (by omega)) ?_
        show jWp 119 53 [some (jO x), some (jI (l1 : Int)), some (jI (a1 : Int))] [jO (x + (363 + 6 * a1)), jO (x + (387 + 2 * l1))] 0 0 w _
        refine jWp.callv (as := [jO (x + (387 + 2 * l1)), jO (x + (363 + 6 * a1))]) (rest := []) mt rfl rfl rfl ⟨rfl, jtg (hX.KT l1 (by omega))⟩ ?_
        refine jCall.mono (C_otherwise (w := w) (t := x + (387 + 2 * l1)) (tp := x + (388 + 2 * l1)) (hX.KT l1 (by omega)) (hX.KTp l1 (by omega)) (hX.RTp l1 (by omega)) rfl hzl (hI l1 (by omega)) (r := x + (363 + 6 * a1)) (rt := x + (365 + 6 * a1)) (len := len) (hX.KR a1 (by omega)) (hX.KRt a1 (by omega)) (hX.RRt a1 (by omega)) hlen (by omega) hTb.2.2) (fun v9 w9 h9 => ?_)
        obtain ⟨rfl, h9⟩ := h9
        subst w9
        show jWp 119 56 [some (jO x), some (jI (l1 : Int)), some (jI (a1 : Int))] [jI (zff (fun k => ¬ k < len ∨ w.1 (x + (388 + 2 * l1)) k ≠ w.1 (x + (365 + 6 * a1)) k) (w.1 (x + (387 + 2 * l1)) 0).toNat 0)] 0 0 w _
        refine jWp.ireti mt rfl ⟨rfl, rfl⟩ rfl ?_
        try rw [show ((l1 : Nat) : Int).toNat = l1 from rfl]
        refine ⟨fun c0 => ?_, fun c0 c1 => ?_, fun c0 c1 => ?_⟩
        all_goals first
        | (exfalso; omega)
        | exact ⟨rfl, rfl⟩
        | exact ⟨_, len, why, left, hTR, rfl, rfl⟩
    · have h2 : ¬ (0 ≤ a ∧ a < (c : Int)) := h2
      show jWp 119 13 [some (jO x), some (jI (l1 : Int)), some (jI a)] [jI 0] 0 0 w _
      refine jWp.ifc (b := false) mt rfl (by decide) rfl ?_
      show jWp 119 16 [some (jO x), some (jI (l1 : Int)), some (jI a)] [] 0 0 w _
      refine jWp.blk mt 2 ?_
      show _ ∧ jWp 119 18 [some (jO x), some (jI (l1 : Int)), some (jI a)] [jI (-1), jO x] 0 0 w _
      refine ⟨rfl, ?_⟩
      refine jWp.callv (as := [jO x, jI (-1)]) (rest := []) mt rfl rfl rfl ⟨rfl, jtg hX.X0⟩ ?_
      refine jCall.mono (C_refuse (w := w) (j := 0) hX (by decide) (by decide)) (fun v9 w9 h9 => ?_)
      obtain ⟨rfl, h9⟩ := h9
      subst h9
      show jWp 119 21 [some (jO x), some (jI (l1 : Int)), some (jI a)] [jI (-1)] 0 0 (jW w (x + 362) 0 ((w.1 (x + 362) 0) + 1)) _
      refine jWp.ireti mt rfl ⟨rfl, rfl⟩ rfl ?_
      try rw [show ((l1 : Nat) : Int).toNat = l1 from rfl]
      refine ⟨fun c0 => ?_, fun c0 c1 => ?_, fun c0 c1 => ?_⟩
      all_goals first
      | (exfalso; omega)
      | exact ⟨rfl, rfl⟩
      | exact ⟨_, len, why, left, hTR, rfl, rfl⟩
  · have h1 : ¬ (0 ≤ l ∧ l ≤ 2) := h1
    show jWp 119 5 [some (jO x), some (jI l), some (jI a)] [jI 0] 0 0 w _
    refine jWp.ifc (b := true) mt rfl (by decide) rfl ?_
    show jWp 119 16 [some (jO x), some (jI l), some (jI a)] [] 0 0 w _
    refine jWp.blk mt 2 ?_
    show _ ∧ jWp 119 18 [some (jO x), some (jI l), some (jI a)] [jI (-1), jO x] 0 0 w _
    refine ⟨rfl, ?_⟩
    refine jWp.callv (as := [jO x, jI (-1)]) (rest := []) mt rfl rfl rfl ⟨rfl, jtg hX.X0⟩ ?_
    refine jCall.mono (C_refuse (w := w) (j := 0) hX (by decide) (by decide)) (fun v9 w9 h9 => ?_)
    obtain ⟨rfl, h9⟩ := h9
    subst h9
    show jWp 119 21 [some (jO x), some (jI l), some (jI a)] [jI (-1)] 0 0 (jW w (x + 362) 0 ((w.1 (x + 362) 0) + 1)) _
    refine jWp.ireti mt rfl ⟨rfl, rfl⟩ rfl ?_
    try rw [show ((l1 : Nat) : Int).toNat = l1 from rfl]
    refine ⟨fun c0 => ?_, fun c0 c1 => ?_, fun c0 c1 => ?_⟩
    all_goals first
    | (exfalso; omega)
    | exact ⟨rfl, rfl⟩
    | exact ⟨_, len, why, left, hTR, rfl, rfl⟩
set_option maxHeartbeats 4000000 in
set_option maxRecDepth 20000 in
theorem C_lays {w : jS} {x : Nat} (hX : CW w.2 x) (hz : ∀ y, y < 3 → -1 ≤ w.1 (x + (387 + 2 * y)) 0 ∧ w.1 (x + (387 + 2 * y)) 0 ≤ 40) (hI : ∀ y, y < 3 → ∀ j, j < 40 → r32 (w.1 (x + (388 + 2 * y)) j)) {c : Nat} {R : Nat → Int} (hR : zRw R c) (hRW : cRW w x R c) {l i a : Int} (hrl : r32 l) (hri : r32 i) (hra : r32 a) : jCall 123 [jO x, jI l, jI i, jI a] w (fun v w1 => ((¬ (0 ≤ l ∧ l ≤ 2) ∨ ¬ (0 ≤ a ∧ a < (c : Int))) → cno w x 0 (jI (-1)) v w1) ∧ (¬ (¬ (0 ≤ l ∧ l ≤ 2) ∨ ¬ (0 ≤ a ∧ a < (c : Int))) → ((w.1 (x + (387 + 2 * l.toNat)) 0) < 0) → v = some (jI (-11)) ∧ w1 = w) ∧ (¬ (¬ (0 ≤ l ∧ l ≤ 2) ∨ ¬ (0 ≤ a ∧ a < (c : Int))) → ¬ ((w.1 (x + (387 + 2 * l.toNat)) 0) < 0) → (¬ (0 ≤ i ∧ i < w.1 (x + (387 + 2 * l.toNat)) 0)) → v = some (jI (-13)) ∧ w1 = w) ∧ (¬ (¬ (0 ≤ l ∧ l ≤ 2) ∨ ¬ (0 ≤ a ∧ a < (c : Int))) → ¬ ((w.1 (x + (387 + 2 * l.toNat)) 0) < 0) → ¬ (¬ (0 ≤ i ∧ i < w.1 (x + (387 + 2 * l.toNat)) 0)) → ∃ (t : Nat → Int) (len : Nat) (why left : Int), zTR R a.toNat t len why left ∧ ∃ (n : Nat) (T : Nat → Int), v = some (jI (n : Int)) ∧ (n ≤ len ∧ i + (n : Int) ≤ w.1 (x + (387 + 2 * l.toNat)) 0 ∧ (n < len → i + (n : Int) = w.1 (x + (387 + 2 * l.toNat)) 0)) ∧ w1 = kA w (x + (388 + 2 * l.toNat)) T ∧ zly (w.1 (x + (388 + 2 * l.toNat))) t T i.toNat n)) := by
  have mt : jtb 123 = jT123 := rfl
  have hc4 := hR.2.1
  have hra1 : -2147483648 ≤ a ∧ a < 2147483648 := hra
  have hrl1 : -2147483648 ≤ l ∧ l < 2147483648 := hrl
  have hri1 : -2147483648 ≤ i ∧ i < 2147483648 := hri
  show jWp 123 0 [some (jO x), some (jI l), some (jI i), some (jI a)] [] 0 0 w _
  refine jWp.blk mt 2 ?_
  show _ ∧ jWp 123 2 [some (jO x), some (jI l), some (jI i), some (jI a)] [jI l, jO x] 0 0 w _
  refine ⟨rfl, ?_⟩
  refine jWp.callv (as := [jO x, jI l]) (rest := []) mt rfl rfl rfl ⟨rfl, jtg hX.X0⟩ ?_
  refine jCall.mono (C_isList (w := w) hX hrl) (fun v9 w9 h9 => ?_)
  rcases h9 with ⟨rfl, h9, h1⟩ | ⟨rfl, h9, h1⟩ <;> subst w9
  · have h1 : 0 ≤ l ∧ l ≤ 2 := h1
    show jWp 123 5 [some (jO x), some (jI l), some (jI i), some (jI a)] [jI 1] 0 0 w _
    obtain ⟨l1, rfl⟩ : ∃ l1 : Nat, l = (l1 : Int) := ⟨l.toNat, by omega⟩
    show jWp 123 5 [some (jO x), some (jI (l1 : Int)), some (jI i), some (jI a)] [jI 1] 0 0 w _
    have hzl := hz l1 (by omega)
    refine jWp.ifc (b := false) mt rfl (by decide) rfl ?_
    show jWp 123 8 [some (jO x), some (jI (l1 : Int)), some (jI i), some (jI a)] [] 0 0 w _
    refine jWp.blk mt 2 ?_
    show _ ∧ jWp 123 10 [some (jO x), some (jI (l1 : Int)), some (jI i), some (jI a)] [jI a, jO x] 0 0 w _
    refine ⟨rfl, ?_⟩
    refine jWp.callv (as := [jO x, jI a]) (rest := []) mt rfl rfl rfl ⟨rfl, jtg hX.X0⟩ ?_
    refine jCall.mono (C_isRow (w := w) hX hRW.1 hR.2.1 hra) (fun v9 w9 h9 => ?_)
    rcases h9 with ⟨rfl, h9, h2⟩ | ⟨rfl, h9, h2⟩ <;> subst w9
    · have h2 : 0 ≤ a ∧ a < (c : Int) := h2
      show jWp 123 13 [some (jO x), some (jI (l1 : Int)), some (jI i), some (jI a)] [jI 1] 0 0 w _
      obtain ⟨a1, rfl⟩ : ∃ a1 : Nat, a = (a1 : Int) := ⟨a.toNat, by omega⟩
      show jWp 123 13 [some (jO x), some (jI (l1 : Int)), some (jI i), some (jI (a1 : Int))] [jI 1] 0 0 w _
      obtain ⟨hlaw, hfig, hst, len, why, left, hlen, hwhy, hleft, hgr, hen⟩ := hRW.2 a1 (by omega)
      have hTR : zTR R a1 (w.1 (x + (365 + 6 * a1))) len why left := ⟨hgr, hen⟩
      have hTb := zTR_b hR (by omega) hTR
      have hRl := hR.2.2 a1 (by omega)
      show jWp 123 13 [some (jO x), some (jI (l1 : Int)), some (jI i), some (jI (a1 : Int))] [jI 1] 0 0 w _
      refine jWp.ifc (b := true) mt rfl (by decide) rfl ?_
      show jWp 123 22 [some (jO x), some (jI (l1 : Int)), some (jI i), some (jI (a1 : Int))] [] 0 0 w _
      refine jWp.blk mt 1 ?_
      show _ ∧ jWp 123 23 [some (jO x), some (jI (l1 : Int)), some (jI i), some (jI (a1 : Int))] [jO x] 0 0 w _
      refine ⟨rfl, ?_⟩
      refine jWp.getR (pc' := 26) (o := (x + 359)) mt rfl rfl (jtg hX.X0) hX.R11 ?_
      show jWp 123 26 [some (jO x), some (jI (l1 : Int)), some (jI i), some (jI (a1 : Int))] [jO (x + 359)] 0 0 w _
      refine jWp.blk mt 1 ?_
      show jWp 123 27 [some (jO x), some (jI (l1 : Int)), some (jI i), some (jI (a1 : Int))] [jI (l1 : Int), jO (x + 359)] 0 0 w _
      refine jWp.aald (pc' := 28) (j := l1) (o := (x + (387 + 2 * l1))) mt rfl rfl (jrg hX.X359 (by decide) (by decide)) (b32_id (by omega) (by omega)) (jlt hX.X359 (by omega)) (hX.RT l1 (by omega)) ?_
      show jWp 123 28 [some (jO x), some (jI (l1 : Int)), some (jI i), some (jI (a1 : Int))] [jO (x + (387 + 2 * l1))] 0 0 w _
      refine jWp.callv (as := [jO (x + (387 + 2 * l1))]) (rest := []) mt rfl rfl rfl ⟨rfl, jtg (hX.KT l1 (by omega))⟩ ?_
      refine jCall.mono (C_isMissing (w := w) (t := x + (387 + 2 * l1)) (tp := x + (388 + 2 * l1)) (hX.KT l1 (by omega)) (hX.KTp l1 (by omega)) (hX.RTp l1 (by omega)) rfl hzl) (fun v9 w9 h9 => ?_)
      rcases h9 with ⟨rfl, h9, h3⟩ | ⟨rfl, h9, h3⟩ <;> subst w9
      · have h3 : (w.1 (x + (387 + 2 * l1)) 0) < 0 := h3
        show jWp 123 31 [some (jO x), some (jI (l1 : Int)), some (jI i), some (jI (a1 : Int))] [jI 1] 0 0 w _
        refine jWp.ifc (b := false) mt rfl (by decide) rfl ?_
        show jWp 123 34 [some (jO x), some (jI (l1 : Int)), some (jI i), some (jI (a1 : Int))] [] 0 0 w _
        refine jWp.blk mt 2 ?_
        show _ ∧ jWp 123 37 [some (jO x), some (jI (l1 : Int)), some (jI i), some (jI (a1 : Int))] [jI (-11), jO x] 0 0 w _
        refine ⟨rfl, ?_⟩
        refine jWp.callv (as := [jO x, jI (-11)]) (rest := []) mt rfl rfl rfl ⟨rfl, jtg hX.X0⟩ ?_
        refine jCall.mono (C_refuse2 (w := w) hX (by decide)) (fun v9 w9 h9 => ?_)
        obtain ⟨rfl, h9⟩ := h9
        subst w9
        show jWp 123 40 [some (jO x), some (jI (l1 : Int)), some (jI i), some (jI (a1 : Int))] [jI (-11)] 0 0 w _
        refine jWp.ireti mt rfl ⟨rfl, rfl⟩ rfl ?_
        try rw [show ((l1 : Nat) : Int).toNat = l1 from rfl]
        refine ⟨fun c0 => ?_, fun c0 c1 => ?_, fun c0 c1 c2 => ?_, fun c0 c1 c2 => ?_⟩
        all_goals first
        | (exfalso; omega)
        | exact ⟨rfl, rfl⟩
        | exact ⟨_, len, why, left, hTR, n, T, rfl, hn9, rfl, hzy⟩
      · have h3 : ¬ ((w.1 (x + (387 + 2 * l1)) 0) < 0) := h3
        show jWp 123 31 [some (jO x), some (jI (l1 : Int)), some (jI i), some (jI (a1 : Int))] [jI 0] 0 0 w _
        refine jWp.ifc (b := true) mt rfl (by decide) rfl ?_
        show jWp 123 41 [some (jO x), some (jI (l1 : Int)), some (jI i), some (jI (a1 : Int))] [] 0 0 w _
        refine jWp.blk mt 1 ?_
        show _ ∧ jWp 123 42 [some (jO x), some (jI (l1 : Int)), some (jI i), some (jI (a1 : Int))] [jO x] 0 0 w _
        refine ⟨rfl, ?_⟩
        refine jWp.getR (pc' := 45) (o := (x + 359)) mt rfl rfl (jtg hX.X0) hX.R11 ?_
        show jWp 123 45 [some (jO x), some (jI (l1 : Int)), some (jI i), some (jI (a1 : Int))] [jO (x + 359)] 0 0 w _
        refine jWp.blk mt 1 ?_
        show jWp 123 46 [some (jO x), some (jI (l1 : Int)), some (jI i), some (jI (a1 : Int))] [jI (l1 : Int), jO (x + 359)] 0 0 w _
        refine jWp.aald (pc' := 47) (j := l1) (o := (x + (387 + 2 * l1))) mt rfl rfl (jrg hX.X359 (by decide) (by decide)) (b32_id (by omega) (by omega)) (jlt hX.X359 (by omega)) (hX.RT l1 (by omega)) ?_
        show jWp 123 47 [some (jO x), some (jI (l1 : Int)), some (jI i), some (jI (a1 : Int))] [jO (x + (387 + 2 * l1))] 0 0 w _
        refine jWp.blk mt 1 ?_
        show jWp 123 48 [some (jO x), some (jI (l1 : Int)), some (jI i), some (jI (a1 : Int))] [jI i, jO (x + (387 + 2 * l1))] 0 0 w _
        refine jWp.callv (as := [jO (x + (387 + 2 * l1)), jI i]) (rest := []) mt rfl rfl rfl ⟨rfl, jtg (hX.KT l1 (by omega))⟩ ?_
        refine jCall.mono (C_thas (w := w) (t := x + (387 + 2 * l1)) (tp := x + (388 + 2 * l1)) (hX.KT l1 (by omega)) (hX.KTp l1 (by omega)) (hX.RTp l1 (by omega)) rfl hzl hri) (fun v9 w9 h9 => ?_)
        rcases h9 with ⟨rfl, h9, h4⟩ | ⟨rfl, h9, h4⟩ <;> subst w9
        · have h4 : 0 ≤ i ∧ i < (w.1 (x + (387 + 2 * l1)) 0) := h4
          show jWp 123 51 [some (jO x), some (jI (l1 : Int)), some (jI i), some (jI (a1 : Int))] [jI 1] 0 0 w _
          obtain ⟨i1, rfl⟩ : ∃ i1 : Nat, i = (i1 : Int) := ⟨i.toNat, by omega⟩
          show jWp 123 51 [some (jO x), some (jI (l1 : Int)), some (jI (i1 : Int)), some (jI (a1 : Int))] [jI 1] 0 0 w _
          refine jWp.ifc (b := true) mt rfl (by decide) rfl ?_
          show jWp 123 61 [some (jO x), some (jI (l1 : Int)), some (jI (i1 : Int)), some (jI (a1 : Int))] [] 0 0 w _
          refine jWp.blk mt 1 ?_
          show _ ∧ jWp 123 62 [some (jO x), some (jI (l1 : Int)), some (jI (i1 : Int)), some (jI (a1 : Int))] [jO x] 0 0 w _
          refine ⟨rfl, ?_⟩
          refine jWp.getR (pc' := 65) (o := (x + 359)) mt rfl rfl (jtg hX.X0) hX.R11 ?_
          show jWp 123 65 [some (jO x), some (jI (l1 : Int)), some (jI (i1 : Int)), some (jI (a1 : Int))] [jO (x + 359)] 0 0 w _
          refine jWp.blk mt 1 ?_
          show jWp 123 66 [some (jO x), some (jI (l1 : Int)), some (jI (i1 : Int)), some (jI (a1 : Int))] [jI (l1 : Int), jO (x + 359)] 0 0 w _
          refine jWp.aald (pc' := 67) (j := l1) (o := (x + (387 + 2 * l1))) mt rfl rfl (jrg hX.X359 (by decide) (by decide)) (b32_id (by omega) (by omega)) (jlt hX.X359 (by omega)) (hX.RT l1 (by omega)) ?_
          show jWp 123 67 [some (jO x), some (jI (l1 : Int)), some (jI (i1 : Int)), some (jI (a1 : Int))] [jO (x + (387 + 2 * l1))] 0 0 w _
          refine jWp.blk mt 1 ?_
          show _ ∧ jWp 123 68 [some (jO x), some (jI (l1 : Int)), some (jI (i1 : Int)), some (jI (a1 : Int))] [jO x, jO (x + (387 + 2 * l1))] 0 0 w _
          refine ⟨rfl, ?_⟩
          refine jWp.getR (pc' := 71) (o := (x + 1)) mt rfl rfl (jtg hX.X0) hX.R0 ?_
          show jWp 123 71 [some (jO x), some (jI (l1 : Int)), some (jI (i1 : Int)), some (jI (a1 : Int))] [jO (x + 1), jO (x + (387 + 2 * l1))] 0 0 w _
          refine jWp.blk mt 1 ?_
          show jWp 123 72 [some (jO x), some (jI (l1 : Int)), some (jI (i1 : Int)), some (jI (a1 : Int))] [jI (a1 : Int), jO (x + 1), jO (x + (387 + 2 * l1))] 0 0 w _
          refine jWp.aald (pc' := 73) (j := a1) (o := (x + (363 + 6 * a1))) mt rfl rfl (jrg hX.X1 (by decide) (by decide)) (b32_id (by omega) (by omega)) (jlt hX.X1 (by omega)) (hX.RR a1 (by omega)) ?_
          show jWp 123 73 [some (jO x), some (jI (l1 : Int)), some (jI (i1 : Int)), some (jI (a1 : Int))] [jO (x + (363 + 6 * a1)), jO (x + (387 + 2 * l1))] 0 0 w _
          refine jWp.blk mt 1 ?_
          show jWp 123 74 [some (jO x), some (jI (l1 : Int)), some (jI (i1 : Int)), some (jI (a1 : Int))] [jI (i1 : Int), jO (x + (363 + 6 * a1)), jO (x + (387 + 2 * l1))] 0 0 w _
          refine jWp.callv (as := [jO (x + (387 + 2 * l1)), jO (x + (363 + 6 * a1)), jI (i1 : Int)]) (rest := []) mt rfl rfl rfl ⟨rfl, jtg (hX.KT l1 (by omega))⟩ ?_
          refine jCall.mono (C_takeFrom (w := w) (t := x + (387 + 2 * l1)) (tp := x + (388 + 2 * l1)) (hX.KT l1 (by omega)) (hX.KTp l1 (by omega)) (hX.RTp l1 (by omega)) rfl hzl (r := x + (363 + 6 * a1)) (rt := x + (365 + 6 * a1)) (len := len) (hX.KR a1 (by omega)) (hX.KRt a1 (by omega)) (hX.RRt a1 (by omega)) hlen (by omega) hTb.2.2 (i := i1) (by omega)) (fun v9 w9 h9 => ?_)
          obtain ⟨n, T, rfl, hn9, hw9, hzy⟩ := h9
          subst hw9
          show jWp 123 77 [some (jO x), some (jI (l1 : Int)), some (jI (i1 : Int)), some (jI (a1 : Int))] [jI (n : Int)] 0 0 (kA w (x + (388 + 2 * l1)) T) _
          refine jWp.ireti mt rfl ⟨rfl, rfl⟩ rfl ?_
          try rw [show ((l1 : Nat) : Int).toNat = l1 from rfl]
          refine ⟨fun c0 => ?_, fun c0 c1 => ?_, fun c0 c1 c2 => ?_, fun c0 c1 c2 => ?_⟩
          all_goals first
          | (exfalso; omega)
          | exact ⟨rfl, rfl⟩
          | exact ⟨_, len, why, left, hTR, n, T, rfl, hn9, rfl, hzy⟩
        · have h4 : ¬ (0 ≤ i ∧ i < (w.1 (x + (387 + 2 * l1)) 0)) := h4
          show jWp 123 51 [some (jO x), some (jI (l1 : Int)), some (jI i), some (jI (a1 : Int))] [jI 0] 0 0 w _
          refine jWp.ifc (b := false) mt rfl (by decide) rfl ?_
          show jWp 123 54 [some (jO x), some (jI (l1 : Int)), some (jI i), some (jI (a1 : Int))] [] 0 0 w _
          refine jWp.blk mt 2 ?_
          show _ ∧ jWp 123 57 [some (jO x), some (jI (l1 : Int)), some (jI i), some (jI (a1 : Int))] [jI (-13), jO x] 0 0 w _
          refine ⟨rfl, ?_⟩
          refine jWp.callv (as := [jO x, jI (-13)]) (rest := []) mt rfl rfl rfl ⟨rfl, jtg hX.X0⟩ ?_
          refine jCall.mono (C_refuse2 (w := w) hX (by decide)) (fun v9 w9 h9 => ?_)
          obtain ⟨rfl, h9⟩ := h9
          subst w9
          show jWp 123 60 [some (jO x), some (jI (l1 : Int)), some (jI i), some (jI (a1 : Int))] [jI (-13)] 0 0 w _
          refine jWp.ireti mt rfl ⟨rfl, rfl⟩ rfl ?_
          try rw [show ((l1 : Nat) : Int).toNat = l1 from rfl]
          refine ⟨fun c0 => ?_, fun c0 c1 => ?_, fun c0 c1 c2 => ?_, fun c0 c1 c2 => ?_⟩
          all_goals first
          | (exfalso; omega)
          | exact ⟨rfl, rfl⟩
          | exact ⟨_, len, why, left, hTR, n, T, rfl, hn9, rfl, hzy⟩
    · have h2 : ¬ (0 ≤ a ∧ a < (c : Int)) := h2
      show jWp 123 13 [some (jO x), some (jI (l1 : Int)), some (jI i), some (jI a)] [jI 0] 0 0 w _
      refine jWp.ifc (b := false) mt rfl (by decide) rfl ?_
      show jWp 123 16 [some (jO x), some (jI (l1 : Int)), some (jI i), some (jI a)] [] 0 0 w _
      refine jWp.blk mt 2 ?_
      show _ ∧ jWp 123 18 [some (jO x), some (jI (l1 : Int)), some (jI i), some (jI a)] [jI (-1), jO x] 0 0 w _
      refine ⟨rfl, ?_⟩
      refine jWp.callv (as := [jO x, jI (-1)]) (rest := []) mt rfl rfl rfl ⟨rfl, jtg hX.X0⟩ ?_
      refine jCall.mono (C_refuse (w := w) (j := 0) hX (by decide) (by decide)) (fun v9 w9 h9 => ?_)
      obtain ⟨rfl, h9⟩ := h9
      subst h9
      show jWp 123 21 [some (jO x), some (jI (l1 : Int)), some (jI i), some (jI a)] [jI (-1)] 0 0 (jW w (x + 362) 0 ((w.1 (x + 362) 0) + 1)) _
      refine jWp.ireti mt rfl ⟨rfl, rfl⟩ rfl ?_
      try rw [show ((l1 : Nat) : Int).toNat = l1 from rfl]
      refine ⟨fun c0 => ?_, fun c0 c1 => ?_, fun c0 c1 c2 => ?_, fun c0 c1 c2 => ?_⟩
      all_goals first
      | (exfalso; omega)
      | exact ⟨rfl, rfl⟩
      | exact ⟨_, len, why, left, hTR, n, T, rfl, hn9, rfl, hzy⟩
  · have h1 : ¬ (0 ≤ l ∧ l ≤ 2) := h1
    show jWp 123 5 [some (jO x), some (jI l), some (jI i), some (jI a)] [jI 0] 0 0 w _
    refine jWp.ifc (b := true) mt rfl (by decide) rfl ?_
    show jWp 123 16 [some (jO x), some (jI l), some (jI i), some (jI a)] [] 0 0 w _
    refine jWp.blk mt 2 ?_
    show _ ∧ jWp 123 18 [some (jO x), some (jI l), some (jI i), some (jI a)] [jI (-1), jO x] 0 0 w _
    refine ⟨rfl, ?_⟩
    refine jWp.callv (as := [jO x, jI (-1)]) (rest := []) mt rfl rfl rfl ⟨rfl, jtg hX.X0⟩ ?_
    refine jCall.mono (C_refuse (w := w) (j := 0) hX (by decide) (by decide)) (fun v9 w9 h9 => ?_)
    obtain ⟨rfl, h9⟩ := h9
    subst h9
    show jWp 123 21 [some (jO x), some (jI l), some (jI i), some (jI a)] [jI (-1)] 0 0 (jW w (x + 362) 0 ((w.1 (x + 362) 0) + 1)) _
    refine jWp.ireti mt rfl ⟨rfl, rfl⟩ rfl ?_
    try rw [show ((l1 : Nat) : Int).toNat = l1 from rfl]
    refine ⟨fun c0 => ?_, fun c0 c1 => ?_, fun c0 c1 c2 => ?_, fun c0 c1 c2 => ?_⟩
    all_goals first
    | (exfalso; omega)
    | exact ⟨rfl, rfl⟩
    | exact ⟨_, len, why, left, hTR, n, T, rfl, hn9, rfl, hzy⟩
end
section
/-- a reference told -/
def jPq (w : jS) (a k v : Nat) : jS := (w.1, w.2.1, jupr w.2.2.1 a k (some v), w.2.2.2)
theorem jPq_s {w : jS} {a k v : Nat} : (jPq w a k v).2.2.1 a k = some v := if_pos ⟨rfl, rfl⟩
theorem jPq_n {w : jS} {a k v b j : Nat} (h : b ≠ a ∨ j ≠ k) : (jPq w a k v).2.2.1 b j = w.2.2.1 b j := if_neg (fun g => by omega)
theorem jN_k {w : jS} {t n a : Nat} (h : a ≠ w.2.2.2.1) : (jnewo w t n).2.1 a = w.2.1 a := if_neg h
theorem jN_s {w : jS} {t n : Nat} : (jnewo w t n).2.1 w.2.2.2.1 = (t, n) := if_pos rfl
theorem jN_r {w : jS} {t n a j : Nat} (h : a ≠ w.2.2.2.1) : (jnewo w t n).2.2.1 a j = w.2.2.1 a j := if_neg h
theorem jN_m {w : jS} {t n a j : Nat} (h : a ≠ w.2.2.2.1) : (jnewo w t n).1 a j = w.1 a j := if_neg h
theorem jN_z {w : jS} {t n j : Nat} : (jnewo w t n).1 w.2.2.2.1 j = 0 := if_pos rfl
/-- so many objects and arrays more; of what stood only s has changed -/
def ini (w : jS) (s k : Nat) (w1 : jS) : Prop := w1.2.2.2.1 = w.2.2.2.1 + k ∧ w1.2.2.2.2 = w.2.2.2.2 ∧ (∀ a, a < w.2.2.2.1 → w1.2.1 a = w.2.1 a) ∧ ∀ a, a < w.2.2.2.1 → a ≠ s → w1.2.2.1 a = w.2.2.1 a ∧ w1.1 a = w.1 a
theorem ini_0 {w : jS} {s : Nat} : ini w s 0 w := ⟨rfl, rfl, fun _ _ => rfl, fun _ _ _ => ⟨rfl, rfl⟩⟩
theorem ini_t {w w1 w2 : jS} {s s' k k' : Nat} (h : ini w s k w1) (g : ini w1 s' k' w2) (hs : s' = s ∨ w.2.2.2.1 ≤ s') : ini w s (k + k') w2 :=
  ⟨by rw [g.1, h.1]; omega, g.2.1.trans h.2.1, fun a ha => (g.2.2.1 a (by have := h.1; omega)).trans (h.2.2.1 a ha), fun a ha hn => ⟨(g.2.2.2 a (by have := h.1; omega) (by omega)).1.trans (h.2.2.2 a ha hn).1, (g.2.2.2 a (by have := h.1; omega) (by omega)).2.trans (h.2.2.2 a ha hn).2⟩⟩
theorem ini_N {w : jS} {s t n : Nat} : ini w s 1 (jnewo w t n) := ⟨rfl, rfl, fun a ha => jN_k (by omega), fun a ha _ => ⟨funext fun j => jN_r (by omega), funext fun j => jN_m (by omega)⟩⟩
theorem ini_W {w : jS} {s k : Nat} {x : Int} : ini w s 0 (jW w s k x) := ⟨rfl, rfl, fun _ _ => rfl, fun a _ h => ⟨rfl, jW_f h⟩⟩
theorem ini_P {w : jS} {s k v : Nat} : ini w s 0 (jPq w s k v) := ⟨rfl, rfl, fun _ _ => rfl, fun a _ h => ⟨funext fun j => jPq_n (Or.inl h), rfl⟩⟩
set_option maxHeartbeats 4000000 in
set_option maxRecDepth 20000 in
theorem I_frac {M0 : Nat → Nat → Int} {K0 : Nat → Nat × Nat} {R0 : Nat → Nat → Option Nat} {nx ao : Nat} {s : Nat} (hk : K0 s = (2, 0)) (hs : s < nx) : jCall 3 [jO s] (M0, K0, R0, nx, ao) (fun v w1 => v = none ∧ ini (M0, K0, R0, nx, ao) s 0 w1 ∧ w1.1 s 0 = 0 ∧ w1.1 s 1 = 1) := by
  have mt : jtb 3 = jT3 := rfl
  show jWp 3 0 [some (jO s)] [] 0 0 (M0, K0, R0, nx, ao) _
  refine jWp.blk mt 1 ?_
  show _ ∧ jWp 3 1 [some (jO s)] [jO s] 0 0 (M0, K0, R0, nx, ao) _
  refine ⟨rfl, ?_⟩
  refine jWp.one mt rfl rfl ⟨rfl, by decide⟩ ?_
  show jWp 3 4 [some (jO s)] [] 0 0 (M0, K0, R0, nx, ao) _
  refine jWp.blk mt 2 ?_
  show _ ∧ jWp 3 6 [some (jO s)] [jJ 0, jO s] 0 0 (M0, K0, R0, nx, ao) _
  refine ⟨rfl, ?_⟩
  refine jWp.putJ (pc' := 9) mt rfl rfl (jtg hk) ?_
  show jWp 3 9 [some (jO s)] [] 0 0 (jW (M0, K0, R0, nx, ao) s 0 0) _
  refine jWp.blk mt 2 ?_
  show _ ∧ jWp 3 11 [some (jO s)] [jJ 1, jO s] 0 0 (jW (M0, K0, R0, nx, ao) s 0 0) _
  refine ⟨rfl, ?_⟩
  refine jWp.putJ (pc' := 14) mt rfl rfl (jtg hk) ?_
  show jWp 3 14 [some (jO s)] [] 0 0 (jW (jW (M0, K0, R0, nx, ao) s 0 0) s 1 1) _
  refine jWp.vret mt rfl ⟨rfl, rfl⟩ rfl ?_
  exact ⟨rfl, (ini_t (ini_t ini_0 ini_W (Or.inl rfl)) ini_W (Or.inl rfl)), ((jW_k (w := (jW (M0, K0, R0, nx, ao) s 0 0)) (a := s) (k := 1) (x := 1) (by decide)).trans (jW_s (w := (M0, K0, R0, nx, ao)) (a := s) (k := 0) (x := 0))), (jW_s (w := (jW (M0, K0, R0, nx, ao) s 0 0)) (a := s) (k := 1) (x := 1))⟩
theorem I_frac_w {w : jS} {s : Nat} (hk : w.2.1 s = (2, 0)) (hs : s < w.2.2.2.1) : jCall 3 [jO s] w (fun v w1 => v = none ∧ ini w s 0 w1 ∧ w1.1 s 0 = 0 ∧ w1.1 s 1 = 1) := I_frac (M0 := w.1) (K0 := w.2.1) (R0 := w.2.2.1) (nx := w.2.2.2.1) (ao := w.2.2.2.2) hk hs
set_option maxHeartbeats 4000000 in
set_option maxRecDepth 20000 in
theorem I_tale {M0 : Nat → Nat → Int} {K0 : Nat → Nat × Nat} {R0 : Nat → Nat → Option Nat} {nx ao : Nat} {s : Nat} (hk : K0 s = (7, 0)) (hs : s < nx) : jCall 69 [jO s] (M0, K0, R0, nx, ao) (fun v w1 => v = none ∧ ini (M0, K0, R0, nx, ao) s 1 w1 ∧ w1.2.1 nx = (100, 40) ∧ w1.2.2.1 s 1 = some nx ∧ w1.1 s 0 = -1 ∧ ∀ j, w1.1 nx j = 0) := by
  have mt : jtb 69 = jT69 := rfl
  show jWp 69 0 [some (jO s)] [] 0 0 (M0, K0, R0, nx, ao) _
  refine jWp.blk mt 1 ?_
  show _ ∧ jWp 69 1 [some (jO s)] [jO s] 0 0 (M0, K0, R0, nx, ao) _
  refine ⟨rfl, ?_⟩
  refine jWp.one mt rfl rfl ⟨rfl, by decide⟩ ?_
  show jWp 69 4 [some (jO s)] [] 0 0 (M0, K0, R0, nx, ao) _
  refine jWp.blk mt 2 ?_
  show _ ∧ jWp 69 6 [some (jO s)] [jI (-1), jO s] 0 0 (M0, K0, R0, nx, ao) _
  refine ⟨rfl, ?_⟩
  refine jWp.putI (pc' := 9) mt rfl rfl (jtg hk) ?_
  show jWp 69 9 [some (jO s)] [] 0 0 (jW (M0, K0, R0, nx, ao) s 0 (-1)) _
  refine jWp.blk mt 2 ?_
  show _ ∧ jWp 69 12 [some (jO s)] [jI 40, jO s] 0 0 (jW (M0, K0, R0, nx, ao) s 0 (-1)) _
  refine ⟨rfl, ?_⟩
  refine jWp.newa (pc' := 14) (jn := 40) mt rfl rfl (by decide) rfl ?_
  show jWp 69 14 [some (jO s)] [jO nx, jO s] 1 40 (jnewo (jW (M0, K0, R0, nx, ao) s 0 (-1)) 100 40) _
  refine jWp.one mt rfl rfl (show _ ∧ _ from ⟨jtg ((jN_k (w := (jW (M0, K0, R0, nx, ao) s 0 (-1))) (t := 100) (n := 40) (show s ≠ nx by omega)).trans hk), rfl, rfl⟩) ?_
  show jWp 69 17 [some (jO s)] [] 1 40 (jPq (jnewo (jW (M0, K0, R0, nx, ao) s 0 (-1)) 100 40) s 1 nx) _
  refine jWp.vret mt rfl ⟨rfl, rfl⟩ rfl ?_
  exact ⟨rfl, (ini_t (ini_t (ini_t ini_0 ini_W (Or.inl rfl)) ini_N (Or.inl rfl)) ini_P (Or.inl rfl)), (jN_s (w := (jW (M0, K0, R0, nx, ao) s 0 (-1))) (t := 100) (n := 40)), (jPq_s (w := (jnewo (jW (M0, K0, R0, nx, ao) s 0 (-1)) 100 40)) (a := s) (k := 1) (v := nx)), ((jN_m (w := (jW (M0, K0, R0, nx, ao) s 0 (-1))) (t := 100) (n := 40) (a := s) (j := 0) (show s ≠ nx by omega)).trans (jW_s (w := (M0, K0, R0, nx, ao)) (a := s) (k := 0) (x := (-1)))), (fun j => (jN_z (w := (jW (M0, K0, R0, nx, ao) s 0 (-1))) (t := 100) (n := 40) (j := j)))⟩
theorem I_tale_w {w : jS} {s : Nat} (hk : w.2.1 s = (7, 0)) (hs : s < w.2.2.2.1) : jCall 69 [jO s] w (fun v w1 => v = none ∧ ini w s 1 w1 ∧ w1.2.1 w.2.2.2.1 = (100, 40) ∧ w1.2.2.1 s 1 = some w.2.2.2.1 ∧ w1.1 s 0 = -1 ∧ ∀ j, w1.1 w.2.2.2.1 j = 0) := I_tale (M0 := w.1) (K0 := w.2.1) (R0 := w.2.2.1) (nx := w.2.2.2.1) (ao := w.2.2.2.2) hk hs
set_option maxHeartbeats 4000000 in
set_option maxRecDepth 20000 in
theorem I_text {M0 : Nat → Nat → Int} {K0 : Nat → Nat × Nat} {R0 : Nat → Nat → Option Nat} {nx ao : Nat} {s : Nat} (hk : K0 s = (8, 0)) (hs : s < nx) : jCall 79 [jO s] (M0, K0, R0, nx, ao) (fun v w1 => v = none ∧ ini (M0, K0, R0, nx, ao) s 1 w1 ∧ w1.2.1 nx = (100, 72) ∧ w1.2.2.1 s 1 = some nx ∧ w1.1 s 0 = 0) := by
  have mt : jtb 79 = jT79 := rfl
  show jWp 79 0 [some (jO s)] [] 0 0 (M0, K0, R0, nx, ao) _
  refine jWp.blk mt 1 ?_
  show _ ∧ jWp 79 1 [some (jO s)] [jO s] 0 0 (M0, K0, R0, nx, ao) _
  refine ⟨rfl, ?_⟩
  refine jWp.one mt rfl rfl ⟨rfl, by decide⟩ ?_
  show jWp 79 4 [some (jO s)] [] 0 0 (M0, K0, R0, nx, ao) _
  refine jWp.blk mt 2 ?_
  show _ ∧ jWp 79 6 [some (jO s)] [jI 0, jO s] 0 0 (M0, K0, R0, nx, ao) _
  refine ⟨rfl, ?_⟩
  refine jWp.putI (pc' := 9) mt rfl rfl (jtg hk) ?_
  show jWp 79 9 [some (jO s)] [] 0 0 (jW (M0, K0, R0, nx, ao) s 0 0) _
  refine jWp.blk mt 2 ?_
  show _ ∧ jWp 79 12 [some (jO s)] [jI 72, jO s] 0 0 (jW (M0, K0, R0, nx, ao) s 0 0) _
  refine ⟨rfl, ?_⟩
  refine jWp.newa (pc' := 14) (jn := 72) mt rfl rfl (by decide) rfl ?_
  show jWp 79 14 [some (jO s)] [jO nx, jO s] 1 72 (jnewo (jW (M0, K0, R0, nx, ao) s 0 0) 100 72) _
  refine jWp.one mt rfl rfl (show _ ∧ _ from ⟨jtg ((jN_k (w := (jW (M0, K0, R0, nx, ao) s 0 0)) (t := 100) (n := 72) (show s ≠ nx by omega)).trans hk), rfl, rfl⟩) ?_
  show jWp 79 17 [some (jO s)] [] 1 72 (jPq (jnewo (jW (M0, K0, R0, nx, ao) s 0 0) 100 72) s 1 nx) _
  refine jWp.vret mt rfl ⟨rfl, rfl⟩ rfl ?_
  exact ⟨rfl, (ini_t (ini_t (ini_t ini_0 ini_W (Or.inl rfl)) ini_N (Or.inl rfl)) ini_P (Or.inl rfl)), (jN_s (w := (jW (M0, K0, R0, nx, ao) s 0 0)) (t := 100) (n := 72)), (jPq_s (w := (jnewo (jW (M0, K0, R0, nx, ao) s 0 0) 100 72)) (a := s) (k := 1) (v := nx)), ((jN_m (w := (jW (M0, K0, R0, nx, ao) s 0 0)) (t := 100) (n := 72) (a := s) (j := 0) (show s ≠ nx by omega)).trans (jW_s (w := (M0, K0, R0, nx, ao)) (a := s) (k := 0) (x := 0)))⟩
theorem I_text_w {w : jS} {s : Nat} (hk : w.2.1 s = (8, 0)) (hs : s < w.2.2.2.1) : jCall 79 [jO s] w (fun v w1 => v = none ∧ ini w s 1 w1 ∧ w1.2.1 w.2.2.2.1 = (100, 72) ∧ w1.2.2.1 s 1 = some w.2.2.2.1 ∧ w1.1 s 0 = 0) := I_text (M0 := w.1) (K0 := w.2.1) (R0 := w.2.2.1) (nx := w.2.2.2.1) (ao := w.2.2.2.2) hk hs
set_option maxHeartbeats 4000000 in
set_option maxRecDepth 20000 in
theorem I_row {M0 : Nat → Nat → Int} {K0 : Nat → Nat × Nat} {R0 : Nat → Nat → Option Nat} {nx ao : Nat} {s : Nat} (hk : K0 s = (4, 0)) (hs : s < nx) : jCall 15 [jO s] (M0, K0, R0, nx, ao) (fun v w1 => v = none ∧ ini (M0, K0, R0, nx, ao) s 2 w1 ∧ w1.2.1 nx = (100, 8) ∧ w1.2.1 (nx + 1) = (100, 60) ∧ w1.2.2.1 s 5 = some nx ∧ w1.2.2.1 s 6 = some (nx + 1)) := by
  have mt : jtb 15 = jT15 := rfl
  show jWp 15 0 [some (jO s)] [] 0 0 (M0, K0, R0, nx, ao) _
  refine jWp.blk mt 1 ?_
  show _ ∧ jWp 15 1 [some (jO s)] [jO s] 0 0 (M0, K0, R0, nx, ao) _
  refine ⟨rfl, ?_⟩
  refine jWp.one mt rfl rfl ⟨rfl, by decide⟩ ?_
  show jWp 15 4 [some (jO s)] [] 0 0 (M0, K0, R0, nx, ao) _
  refine jWp.blk mt 2 ?_
  show _ ∧ jWp 15 6 [some (jO s)] [jI 0, jO s] 0 0 (M0, K0, R0, nx, ao) _
  refine ⟨rfl, ?_⟩
  refine jWp.putI (pc' := 9) mt rfl rfl (jtg hk) ?_
  show jWp 15 9 [some (jO s)] [] 0 0 (jW (M0, K0, R0, nx, ao) s 0 0) _
  refine jWp.blk mt 2 ?_
  show _ ∧ jWp 15 11 [some (jO s)] [jI 0, jO s] 0 0 (jW (M0, K0, R0, nx, ao) s 0 0) _
  refine ⟨rfl, ?_⟩
  refine jWp.putI (pc' := 14) mt rfl rfl (jtg hk) ?_
  show jWp 15 14 [some (jO s)] [] 0 0 (jW (jW (M0, K0, R0, nx, ao) s 0 0) s 1 0) _
  refine jWp.blk mt 2 ?_
  show _ ∧ jWp 15 16 [some (jO s)] [jI 0, jO s] 0 0 (jW (jW (M0, K0, R0, nx, ao) s 0 0) s 1 0) _
  refine ⟨rfl, ?_⟩
  refine jWp.putI (pc' := 19) mt rfl rfl (jtg hk) ?_
  show jWp 15 19 [some (jO s)] [] 0 0 (jW (jW (jW (M0, K0, R0, nx, ao) s 0 0) s 1 0) s 2 0) _
  refine jWp.blk mt 2 ?_
  show _ ∧ jWp 15 21 [some (jO s)] [jI 0, jO s] 0 0 (jW (jW (jW (M0, K0, R0, nx, ao) s 0 0) s 1 0) s 2 0) _
  refine ⟨rfl, ?_⟩
  refine jWp.putI (pc' := 24) mt rfl rfl (jtg hk) ?_
  show jWp 15 24 [some (jO s)] [] 0 0 (jW (jW (jW (jW (M0, K0, R0, nx, ao) s 0 0) s 1 0) s 2 0) s 3 0) _
  refine jWp.blk mt 2 ?_
  show _ ∧ jWp 15 26 [some (jO s)] [jI 0, jO s] 0 0 (jW (jW (jW (jW (M0, K0, R0, nx, ao) s 0 0) s 1 0) s 2 0) s 3 0) _
  refine ⟨rfl, ?_⟩
  refine jWp.putI (pc' := 29) mt rfl rfl (jtg hk) ?_
  show jWp 15 29 [some (jO s)] [] 0 0 (jW (jW (jW (jW (jW (M0, K0, R0, nx, ao) s 0 0) s 1 0) s 2 0) s 3 0) s 4 0) _
  refine jWp.blk mt 2 ?_
  show _ ∧ jWp 15 32 [some (jO s)] [jI 8, jO s] 0 0 (jW (jW (jW (jW (jW (M0, K0, R0, nx, ao) s 0 0) s 1 0) s 2 0) s 3 0) s 4 0) _
  refine ⟨rfl, ?_⟩
  refine jWp.newa (pc' := 34) (jn := 8) mt rfl rfl (by decide) rfl ?_
  show jWp 15 34 [some (jO s)] [jO nx, jO s] 1 8 (jnewo (jW (jW (jW (jW (jW (M0, K0, R0, nx, ao) s 0 0) s 1 0) s 2 0) s 3 0) s 4 0) 100 8) _
  refine jWp.one mt rfl rfl (show _ ∧ _ from ⟨jtg ((jN_k (w := (jW (jW (jW (jW (jW (M0, K0, R0, nx, ao) s 0 0) s 1 0) s 2 0) s 3 0) s 4 0)) (t := 100) (n := 8) (show s ≠ nx by omega)).trans hk), rfl, rfl⟩) ?_
  show jWp 15 37 [some (jO s)] [] 1 8 (jPq (jnewo (jW (jW (jW (jW (jW (M0, K0, R0, nx, ao) s 0 0) s 1 0) s 2 0) s 3 0) s 4 0) 100 8) s 5 nx) _
  refine jWp.blk mt 2 ?_
  show _ ∧ jWp 15 40 [some (jO s)] [jI 60, jO s] 1 8 (jPq (jnewo (jW (jW (jW (jW (jW (M0, K0, R0, nx, ao) s 0 0) s 1 0) s 2 0) s 3 0) s 4 0) 100 8) s 5 nx) _
  refine ⟨rfl, ?_⟩
  refine jWp.newa (pc' := 42) (jn := 60) mt rfl rfl (by decide) rfl ?_
  show jWp 15 42 [some (jO s)] [jO (nx + 1), jO s] 2 68 (jnewo (jPq (jnewo (jW (jW (jW (jW (jW (M0, K0, R0, nx, ao) s 0 0) s 1 0) s 2 0) s 3 0) s 4 0) 100 8) s 5 nx) 100 60) _
  refine jWp.one mt rfl rfl (show _ ∧ _ from ⟨jtg ((jN_k (w := (jPq (jnewo (jW (jW (jW (jW (jW (M0, K0, R0, nx, ao) s 0 0) s 1 0) s 2 0) s 3 0) s 4 0) 100 8) s 5 nx)) (t := 100) (n := 60) (show s ≠ (nx + 1) by omega)).trans ((jN_k (w := (jW (jW (jW (jW (jW (M0, K0, R0, nx, ao) s 0 0) s 1 0) s 2 0) s 3 0) s 4 0)) (t := 100) (n := 8) (show s ≠ nx by omega)).trans hk)), rfl, rfl⟩) ?_
  show jWp 15 45 [some (jO s)] [] 2 68 (jPq (jnewo (jPq (jnewo (jW (jW (jW (jW (jW (M0, K0, R0, nx, ao) s 0 0) s 1 0) s 2 0) s 3 0) s 4 0) 100 8) s 5 nx) 100 60) s 6 (nx + 1)) _
  refine jWp.vret mt rfl ⟨rfl, rfl⟩ rfl ?_
  exact ⟨rfl, (ini_t (ini_t (ini_t (ini_t (ini_t (ini_t (ini_t (ini_t (ini_t ini_0 ini_W (Or.inl rfl)) ini_W (Or.inl rfl)) ini_W (Or.inl rfl)) ini_W (Or.inl rfl)) ini_W (Or.inl rfl)) ini_N (Or.inl rfl)) ini_P (Or.inl rfl)) ini_N (Or.inl rfl)) ini_P (Or.inl rfl)), ((jN_k (w := (jPq (jnewo (jW (jW (jW (jW (jW (M0, K0, R0, nx, ao) s 0 0) s 1 0) s 2 0) s 3 0) s 4 0) 100 8) s 5 nx)) (t := 100) (n := 60) (show nx ≠ (nx + 1) by omega)).trans (jN_s (w := (jW (jW (jW (jW (jW (M0, K0, R0, nx, ao) s 0 0) s 1 0) s 2 0) s 3 0) s 4 0)) (t := 100) (n := 8))), (jN_s (w := (jPq (jnewo (jW (jW (jW (jW (jW (M0, K0, R0, nx, ao) s 0 0) s 1 0) s 2 0) s 3 0) s 4 0) 100 8) s 5 nx)) (t := 100) (n := 60)), ((jPq_n (w := (jnewo (jPq (jnewo (jW (jW (jW (jW (jW (M0, K0, R0, nx, ao) s 0 0) s 1 0) s 2 0) s 3 0) s 4 0) 100 8) s 5 nx) 100 60)) (a := s) (k := 6) (v := (nx + 1)) (b := s) (j := 5) (Or.inr (by omega))).trans ((jN_r (w := (jPq (jnewo (jW (jW (jW (jW (jW (M0, K0, R0, nx, ao) s 0 0) s 1 0) s 2 0) s 3 0) s 4 0) 100 8) s 5 nx)) (t := 100) (n := 60) (a := s) (j := 5) (show s ≠ (nx + 1) by omega)).trans (jPq_s (w := (jnewo (jW (jW (jW (jW (jW (M0, K0, R0, nx, ao) s 0 0) s 1 0) s 2 0) s 3 0) s 4 0) 100 8)) (a := s) (k := 5) (v := nx)))), (jPq_s (w := (jnewo (jPq (jnewo (jW (jW (jW (jW (jW (M0, K0, R0, nx, ao) s 0 0) s 1 0) s 2 0) s 3 0) s 4 0) 100 8) s 5 nx) 100 60)) (a := s) (k := 6) (v := (nx + 1)))⟩
theorem I_row_w {w : jS} {s : Nat} (hk : w.2.1 s = (4, 0)) (hs : s < w.2.2.2.1) : jCall 15 [jO s] w (fun v w1 => v = none ∧ ini w s 2 w1 ∧ w1.2.1 w.2.2.2.1 = (100, 8) ∧ w1.2.1 (w.2.2.2.1 + 1) = (100, 60) ∧ w1.2.2.1 s 5 = some w.2.2.2.1 ∧ w1.2.2.1 s 6 = some (w.2.2.2.1 + 1)) := I_row (M0 := w.1) (K0 := w.2.1) (R0 := w.2.2.1) (nx := w.2.2.2.1) (ao := w.2.2.2.2) hk hs
set_option maxHeartbeats 4000000 in
set_option maxRecDepth 20000 in
theorem I_seed {M0 : Nat → Nat → Int} {K0 : Nat → Nat × Nat} {R0 : Nat → Nat → Option Nat} {nx ao : Nat} {s : Nat} (hk : K0 s = (6, 0)) (hs : s < nx) : jCall 41 [jO s] (M0, K0, R0, nx, ao) (fun v w1 => v = none ∧ ini (M0, K0, R0, nx, ao) s 1 w1 ∧ w1.2.1 nx = (100, 44) ∧ w1.2.2.1 s 1 = some nx ∧ w1.1 s 0 = 2 ∧ ∀ g, cR g (w1.1 nx) (zNw 2) 2) := by
  have mt : jtb 41 = jT41 := rfl
  show jWp 41 0 [some (jO s)] [] 0 0 (M0, K0, R0, nx, ao) _
  refine jWp.blk mt 1 ?_
  show _ ∧ jWp 41 1 [some (jO s)] [jO s] 0 0 (M0, K0, R0, nx, ao) _
  refine ⟨rfl, ?_⟩
  refine jWp.one mt rfl rfl ⟨rfl, by decide⟩ ?_
  show jWp 41 4 [some (jO s)] [] 0 0 (M0, K0, R0, nx, ao) _
  refine jWp.blk mt 2 ?_
  show _ ∧ jWp 41 6 [some (jO s)] [jI 2, jO s] 0 0 (M0, K0, R0, nx, ao) _
  refine ⟨rfl, ?_⟩
  refine jWp.putI (pc' := 9) mt rfl rfl (jtg hk) ?_
  show jWp 41 9 [some (jO s)] [] 0 0 (jW (M0, K0, R0, nx, ao) s 0 2) _
  refine jWp.blk mt 2 ?_
  show _ ∧ jWp 41 12 [some (jO s)] [jI 44, jO s] 0 0 (jW (M0, K0, R0, nx, ao) s 0 2) _
  refine ⟨rfl, ?_⟩
  refine jWp.newa (pc' := 14) (jn := 44) mt rfl rfl (by decide) rfl ?_
  show jWp 41 14 [some (jO s)] [jO nx, jO s] 1 44 (jnewo (jW (M0, K0, R0, nx, ao) s 0 2) 100 44) _
  refine jWp.one mt rfl rfl (show _ ∧ _ from ⟨jtg ((jN_k (w := (jW (M0, K0, R0, nx, ao) s 0 2)) (t := 100) (n := 44) (show s ≠ nx by omega)).trans hk), rfl, rfl⟩) ?_
  show jWp 41 17 [some (jO s)] [] 1 44 (jPq (jnewo (jW (M0, K0, R0, nx, ao) s 0 2) 100 44) s 1 nx) _
  refine jWp.blk mt 2 ?_
  show _ ∧ jWp 41 19 [some (jO s)] [jI 2, jO s] 1 44 (jPq (jnewo (jW (M0, K0, R0, nx, ao) s 0 2) 100 44) s 1 nx) _
  refine ⟨rfl, ?_⟩
  refine jWp.callv (as := [jO s, jI 2]) (rest := []) mt rfl rfl rfl ⟨rfl, jtg ((jN_k (w := (jW (M0, K0, R0, nx, ao) s 0 2)) (t := 100) (n := 44) (show s ≠ nx by omega)).trans hk)⟩ ?_
  refine jCall.mono (C_clear (w := (jPq (jnewo (jW (M0, K0, R0, nx, ao) s 0 2) 100 44) s 1 nx)) (s := s) (sc := nx) ((jN_k (w := (jW (M0, K0, R0, nx, ao) s 0 2)) (t := 100) (n := 44) (show s ≠ nx by omega)).trans hk) (jN_s (w := (jW (M0, K0, R0, nx, ao) s 0 2)) (t := 100) (n := 44)) (jPq_s (w := (jnewo (jW (M0, K0, R0, nx, ao) s 0 2) 100 44)) (a := s) (k := 1) (v := nx)) (l := 2) (by constructor <;> decide)) (fun v9 w9 h9 => ?_)
  obtain ⟨rfl, hbf, hb0, hbc⟩ := h9.1 (by decide)
  obtain ⟨M1, G9⟩ := w9
  have hg : G9 = ((jPq (jnewo (jW (M0, K0, R0, nx, ao) s 0 2) 100 44) s 1 nx)).2 := hbf.1
  subst hg
  have hi : ini (M0, K0, R0, nx, ao) s 1 (jPq (jnewo (jW (M0, K0, R0, nx, ao) s 0 2) 100 44) s 1 nx) := (ini_t (ini_t (ini_t ini_0 ini_W (Or.inl rfl)) ini_N (Or.inl rfl)) ini_P (Or.inl rfl))
  show jWp 41 22 [some (jO s)] [jI 1] 1 44 (M1, ((jPq (jnewo (jW (M0, K0, R0, nx, ao) s 0 2) 100 44) s 1 nx)).2) _
  refine jWp.blk mt 1 ?_
  show jWp 41 23 [some (jO s)] [] 1 44 (M1, ((jPq (jnewo (jW (M0, K0, R0, nx, ao) s 0 2) 100 44) s 1 nx)).2) _
  refine jWp.vret mt rfl ⟨rfl, rfl⟩ rfl ?_
  exact ⟨rfl, ⟨hi.1, hi.2.1, hi.2.2.1, fun a ha hn => ⟨(hi.2.2.2 a ha hn).1, (hbf.2 a hn (by have h7 : a < nx := ha; omega)).trans (hi.2.2.2 a ha hn).2⟩⟩, (jN_s (w := (jW (M0, K0, R0, nx, ao) s 0 2)) (t := 100) (n := 44)), (jPq_s (w := (jnewo (jW (M0, K0, R0, nx, ao) s 0 2) 100 44)) (a := s) (k := 1) (v := nx)), hb0, fun g => hbc g⟩
theorem I_seed_w {w : jS} {s : Nat} (hk : w.2.1 s = (6, 0)) (hs : s < w.2.2.2.1) : jCall 41 [jO s] w (fun v w1 => v = none ∧ ini w s 1 w1 ∧ w1.2.1 w.2.2.2.1 = (100, 44) ∧ w1.2.2.1 s 1 = some w.2.2.2.1 ∧ w1.1 s 0 = 2 ∧ ∀ g, cR g (w1.1 w.2.2.2.1) (zNw 2) 2) := I_seed (M0 := w.1) (K0 := w.2.1) (R0 := w.2.2.1) (nx := w.2.2.2.1) (ao := w.2.2.2.2) hk hs
set_option maxHeartbeats 4000000 in
set_option maxRecDepth 20000 in
theorem I_exch {M0 : Nat → Nat → Int} {K0 : Nat → Nat × Nat} {R0 : Nat → Nat → Option Nat} {nx ao : Nat} {s : Nat} (hk : K0 s = (1, 0)) (hs : s < nx) : jCall 0 [jO s] (M0, K0, R0, nx, ao) (fun v w1 => v = none ∧ ini (M0, K0, R0, nx, ao) s 2 w1 ∧ w1.2.1 nx = (2, 0) ∧ w1.2.1 (nx + 1) = (2, 0) ∧ w1.2.2.1 s 0 = some nx ∧ w1.2.2.1 s 1 = some (nx + 1)) := by
  have mt : jtb 0 = jT0 := rfl
  show jWp 0 0 [some (jO s)] [] 0 0 (M0, K0, R0, nx, ao) _
  refine jWp.blk mt 1 ?_
  show _ ∧ jWp 0 1 [some (jO s)] [jO s] 0 0 (M0, K0, R0, nx, ao) _
  refine ⟨rfl, ?_⟩
  refine jWp.one mt rfl rfl ⟨rfl, by decide⟩ ?_
  show jWp 0 4 [some (jO s)] [] 0 0 (M0, K0, R0, nx, ao) _
  refine jWp.blk mt 1 ?_
  show _ ∧ jWp 0 5 [some (jO s)] [jO s] 0 0 (M0, K0, R0, nx, ao) _
  refine ⟨rfl, ?_⟩
  refine jWp.new (pc' := 8) mt rfl rfl rfl ?_
  show jWp 0 8 [some (jO s)] [jO nx, jO s] 1 2 (jnewo (M0, K0, R0, nx, ao) 2 0) _
  refine jWp.blk mt 1 ?_
  show _ ∧ jWp 0 9 [some (jO s)] [jO nx, jO nx, jO s] 1 2 (jnewo (M0, K0, R0, nx, ao) 2 0) _
  refine ⟨rfl, ?_⟩
  refine jWp.calli (as := [jO nx]) (rest := [jO nx, jO s]) mt rfl rfl rfl rfl ⟨rfl, jtg (jN_s (w := (M0, K0, R0, nx, ao)) (t := 2) (n := 0))⟩ ?_
  refine jCall.mono (I_frac_w (w := (jnewo (M0, K0, R0, nx, ao) 2 0)) (s := nx) (jN_s (w := (M0, K0, R0, nx, ao)) (t := 2) (n := 0)) (show nx < (nx + 1) by omega)) (fun v9 w9 h9 => ?_)
  obtain ⟨rfl, i1, g1_0, g1_1⟩ := h9
  obtain ⟨M1, K1, R1, n1, a1⟩ := w9
  have e1 : n1 = (nx + 1) := i1.1
  subst n1
  have f1 : a1 = ao := i1.2.1
  subst a1
  show jWp 0 12 [some (jO s)] [jO nx, jO s] 1 2 (M1, K1, R1, (nx + 1), ao) _
  refine jWp.one mt rfl rfl (show _ ∧ _ from ⟨jtg ((i1.2.2.1 s (show s < (nx + 1) by omega)).trans ((jN_k (w := (M0, K0, R0, nx, ao)) (t := 2) (n := 0) (show s ≠ nx by omega)).trans hk)), rfl, rfl⟩) ?_
  show jWp 0 15 [some (jO s)] [] 1 2 (jPq (M1, K1, R1, (nx + 1), ao) s 0 nx) _
  refine jWp.blk mt 1 ?_
  show _ ∧ jWp 0 16 [some (jO s)] [jO s] 1 2 (jPq (M1, K1, R1, (nx + 1), ao) s 0 nx) _
  refine ⟨rfl, ?_⟩
  refine jWp.new (pc' := 19) mt rfl rfl rfl ?_
  show jWp 0 19 [some (jO s)] [jO (nx + 1), jO s] 2 4 (jnewo (jPq (M1, K1, R1, (nx + 1), ao) s 0 nx) 2 0) _
  refine jWp.blk mt 1 ?_
  show _ ∧ jWp 0 20 [some (jO s)] [jO (nx + 1), jO (nx + 1), jO s] 2 4 (jnewo (jPq (M1, K1, R1, (nx + 1), ao) s 0 nx) 2 0) _
  refine ⟨rfl, ?_⟩
  refine jWp.calli (as := [jO (nx + 1)]) (rest := [jO (nx + 1), jO s]) mt rfl rfl rfl rfl ⟨rfl, jtg (jN_s (w := (jPq (M1, K1, R1, (nx + 1), ao) s 0 nx)) (t := 2) (n := 0))⟩ ?_
  refine jCall.mono (I_frac_w (w := (jnewo (jPq (M1, K1, R1, (nx + 1), ao) s 0 nx) 2 0)) (s := (nx + 1)) (jN_s (w := (jPq (M1, K1, R1, (nx + 1), ao) s 0 nx)) (t := 2) (n := 0)) (show (nx + 1) < (nx + 2) by omega)) (fun v9 w9 h9 => ?_)
  obtain ⟨rfl, i2, g2_0, g2_1⟩ := h9
  obtain ⟨M2, K2, R2, n2, a2⟩ := w9
  have e2 : n2 = (nx + 2) := i2.1
  subst n2
  have f2 : a2 = ao := i2.2.1
  subst a2
  show jWp 0 23 [some (jO s)] [jO (nx + 1), jO s] 2 4 (M2, K2, R2, (nx + 2), ao) _
  refine jWp.one mt rfl rfl (show _ ∧ _ from ⟨jtg ((i2.2.2.1 s (show s < (nx + 2) by omega)).trans ((jN_k (w := (jPq (M1, K1, R1, (nx + 1), ao) s 0 nx)) (t := 2) (n := 0) (show s ≠ (nx + 1) by omega)).trans ((i1.2.2.1 s (show s < (nx + 1) by omega)).trans ((jN_k (w := (M0, K0, R0, nx, ao)) (t := 2) (n := 0) (show s ≠ nx by omega)).trans hk)))), rfl, rfl⟩) ?_
  show jWp 0 26 [some (jO s)] [] 2 4 (jPq (M2, K2, R2, (nx + 2), ao) s 1 (nx + 1)) _
  refine jWp.vret mt rfl ⟨rfl, rfl⟩ rfl ?_
  exact ⟨rfl, (ini_t (ini_t (ini_t (ini_t (ini_t (ini_t ini_0 ini_N (Or.inl rfl)) i1 (Or.inr (show nx ≤ nx by omega))) ini_P (Or.inl rfl)) ini_N (Or.inl rfl)) i2 (Or.inr (show nx ≤ (nx + 1) by omega))) ini_P (Or.inl rfl)), ((i2.2.2.1 nx (show nx < (nx + 2) by omega)).trans ((jN_k (w := (jPq (M1, K1, R1, (nx + 1), ao) s 0 nx)) (t := 2) (n := 0) (show nx ≠ (nx + 1) by omega)).trans ((i1.2.2.1 nx (show nx < (nx + 1) by omega)).trans (jN_s (w := (M0, K0, R0, nx, ao)) (t := 2) (n := 0))))), ((i2.2.2.1 (nx + 1) (show (nx + 1) < (nx + 2) by omega)).trans (jN_s (w := (jPq (M1, K1, R1, (nx + 1), ao) s 0 nx)) (t := 2) (n := 0))), ((jPq_n (w := (M2, K2, R2, (nx + 2), ao)) (a := s) (k := 1) (v := (nx + 1)) (b := s) (j := 0) (Or.inr (by omega))).trans ((congrFun (i2.2.2.2 s (show s < (nx + 2) by omega) (show s ≠ (nx + 1) by omega)).1 0).trans ((jN_r (w := (jPq (M1, K1, R1, (nx + 1), ao) s 0 nx)) (t := 2) (n := 0) (a := s) (j := 0) (show s ≠ (nx + 1) by omega)).trans (jPq_s (w := (M1, K1, R1, (nx + 1), ao)) (a := s) (k := 0) (v := nx))))), (jPq_s (w := (M2, K2, R2, (nx + 2), ao)) (a := s) (k := 1) (v := (nx + 1)))⟩
theorem I_exch_w {w : jS} {s : Nat} (hk : w.2.1 s = (1, 0)) (hs : s < w.2.2.2.1) : jCall 0 [jO s] w (fun v w1 => v = none ∧ ini w s 2 w1 ∧ w1.2.1 w.2.2.2.1 = (2, 0) ∧ w1.2.1 (w.2.2.2.1 + 1) = (2, 0) ∧ w1.2.2.1 s 0 = some w.2.2.2.1 ∧ w1.2.2.1 s 1 = some (w.2.2.2.1 + 1)) := I_exch (M0 := w.1) (K0 := w.2.1) (R0 := w.2.2.1) (nx := w.2.2.2.1) (ao := w.2.2.2.2) hk hs
end
