set_option maxHeartbeats 4000000 in
set_option maxRecDepth 20000 in
theorem C_letterAt0 {w : jS} {t tl F : Nat} {τ : Nat → Int} (hk8 : w.2.1 t = (8, 0)) (hkl : w.2.1 tl = (100, 72)) (hrl : w.2.2.1 t 1 = some tl) (hF : w.1 t 0 = (F : Int)) (hF72 : F ≤ 72) (hτ : w.1 tl = τ) (hL : ∀ j, j < F → 0 ≤ τ j ∧ τ j ≤ 255) {p : Nat} (hp : p < 2147483648) : jCall 90 [jO t, jI (p : Int)] w (jvi (zlt τ F p) w) := by
  have mt : jtb 90 = jT90 := rfl
  show jWp 90 0 [some (jO t), some (jI (p : Int))] [] 0 0 w _
  refine jWp.blk mt 1 ?_
  show jWp 90 1 [some (jO t), some (jI (p : Int))] [jI (p : Int)] 0 0 w _
  refine jWp.ifz (pc' := 4) mt rfl rfl (b32_id (by omega) (by omega)) (fun h1 => ?_) (fun h1 => ?_)
  · have h1 : (p : Int) < 0 := h1
    refine jWp.blk mt 1 ?_
    show jWp 90 28 [some (jO t), some (jI (p : Int))] [jI (-1)] 0 0 w _
    refine jWp.ireti mt rfl ⟨rfl, rfl⟩ rfl ?_
    first
    | (exfalso; omega)
    | exact ⟨by unfold zlt; first | (rw [if_pos (by omega)]; done) | (rw [if_neg (by omega)]; done), rfl⟩
  · have h1 : 0 ≤ (p : Int) := h1
    refine jWp.blk mt 2 ?_
    show _ ∧ jWp 90 6 [some (jO t), some (jI (p : Int))] [jO t, jI (p : Int)] 0 0 w _
    refine ⟨rfl, ?_⟩
    refine jWp.getI (pc' := 9) mt rfl rfl (jtg hk8) ?_
    rw [show (w.1 t 0) = (F : Int) from hF]
    show jWp 90 9 [some (jO t), some (jI (p : Int))] [jI (F : Int), jI (p : Int)] 0 0 w _
    refine jWp.icmp (pc' := 12) mt rfl rfl (b32_id (by omega) (by omega)) (b32_id (by omega) (by omega)) (fun h2 => ?_) (fun h2 => ?_)
    · have h2 : (F : Int) ≤ (p : Int) := h2
      refine jWp.blk mt 1 ?_
      show jWp 90 28 [some (jO t), some (jI (p : Int))] [jI (-1)] 0 0 w _
      refine jWp.ireti mt rfl ⟨rfl, rfl⟩ rfl ?_
      first
      | (exfalso; omega)
      | exact ⟨by unfold zlt; first | (rw [if_pos (by omega)]; done) | (rw [if_neg (by omega)]; done), rfl⟩
    · have h2 : (p : Int) < (F : Int) := h2
      refine jWp.blk mt 2 ?_
      show jWp 90 15 [some (jO t), some (jI (p : Int))] [jI 72, jI (p : Int)] 0 0 w _
      refine jWp.icmp (pc' := 18) mt rfl rfl (b32_id (by omega) (by omega)) (show b32 72 = 72 by decide) (fun h3 => ?_) (fun h3 => ?_)
      · have h3 : 72 ≤ (p : Int) := h3
        refine jWp.blk mt 1 ?_
        show jWp 90 28 [some (jO t), some (jI (p : Int))] [jI (-1)] 0 0 w _
        refine jWp.ireti mt rfl ⟨rfl, rfl⟩ rfl ?_
        first
        | (exfalso; omega)
        | exact ⟨by unfold zlt; first | (rw [if_pos (by omega)]; done) | (rw [if_neg (by omega)]; done), rfl⟩
      · have h3 : (p : Int) < 72 := h3
        refine jWp.blk mt 1 ?_
        show _ ∧ jWp 90 19 [some (jO t), some (jI (p : Int))] [jO t] 0 0 w _
        refine ⟨rfl, ?_⟩
        refine jWp.getR (pc' := 22) (o := tl) mt rfl rfl (jtg hk8) hrl ?_
        show jWp 90 22 [some (jO t), some (jI (p : Int))] [jO tl] 0 0 w _
        refine jWp.blk mt 1 ?_
        show jWp 90 23 [some (jO t), some (jI (p : Int))] [jI (p : Int), jO tl] 0 0 w _
        refine jWp.iald (pc' := 24) (j := p) mt rfl rfl (jird_of hkl) (b32_id (by omega) (by omega)) (jlt hkl (by omega)) ?_
        rw [show (w.1 tl p) = (τ p) from (congrFun hτ _)]
        show jWp 90 24 [some (jO t), some (jI (p : Int))] [jI (τ p)] 0 0 w _
        refine jWp.blk mt 1 ?_
        show jWp 90 28 [some (jO t), some (jI (p : Int))] [jI (τ p)] 0 0 w _
        refine jWp.ireti mt rfl ⟨rfl, rfl⟩ rfl ?_
        first
        | (exfalso; omega)
        | exact ⟨by unfold zlt; first | (rw [if_pos (by omega)]; done) | (rw [if_neg (by omega)]; done), rfl⟩
theorem C_letterAt {X : Int} {w : jS} {t tl F : Nat} {τ : Nat → Int} (hk8 : w.2.1 t = (8, 0)) (hkl : w.2.1 tl = (100, 72)) (hrl : w.2.2.1 t 1 = some tl) (hF : w.1 t 0 = (F : Int)) (hF72 : F ≤ 72) (hτ : w.1 tl = τ) (hL : ∀ j, j < F → 0 ≤ τ j ∧ τ j ≤ 255) {p : Nat} (hp : p < 2147483648) (eX : X = (p : Int)) : jCall 90 [jO t, jI X] w (jvi (zlt τ F p) w) := by
  subst eX
  exact C_letterAt0 hk8 hkl hrl hF hF72 hτ hL hp
set_option maxHeartbeats 4000000 in
set_option maxRecDepth 20000 in
theorem C_digitAt0 {w : jS} {t tl F : Nat} {τ : Nat → Int} (hk8 : w.2.1 t = (8, 0)) (hkl : w.2.1 tl = (100, 72)) (hrl : w.2.2.1 t 1 = some tl) (hF : w.1 t 0 = (F : Int)) (hF72 : F ≤ 72) (hτ : w.1 tl = τ) (hL : ∀ j, j < F → 0 ≤ τ j ∧ τ j ≤ 255) {p : Nat} (hp : p < 2147483648) : jCall 89 [jO t, jI (p : Int)] w (jvi (zfg (zlt τ F p)) w) := by
  have mt : jtb 89 = jT89 := rfl
  show jWp 89 0 [some (jO t), some (jI (p : Int)), none] [] 0 0 w _
  refine jWp.blk mt 2 ?_
  show _ ∧ jWp 89 2 [some (jO t), some (jI (p : Int)), none] [jI (p : Int), jO t] 0 0 w _
  refine ⟨rfl, ?_⟩
  refine jWp.callv (as := [jO t, jI (p : Int)]) (rest := []) mt rfl rfl rfl ⟨rfl, jtg hk8⟩ ?_
  refine jCall.mono (C_letterAt (w := w) hk8 hkl hrl hF hF72 hτ hL (p := p) (by omega) (by omega)) (fun v9 w9 h9 => ?_)
  obtain ⟨rfl, h9⟩ := h9
  subst w9
  show jWp 89 5 [some (jO t), some (jI (p : Int)), none] [jI (zlt τ F p)] 0 0 w _
  refine jWp.blk mt 3 ?_
  show jWp 89 9 [some (jO t), some (jI (p : Int)), some (jI (zlt τ F p))] [jI 48, jI (zlt τ F p)] 0 0 w _
  refine jWp.icmp (pc' := 12) mt rfl rfl (b32_id (by have := zlt_b hL p; omega) (by have := zlt_b hL p; omega)) (show b32 48 = 48 by decide) (fun h1 => ?_) (fun h1 => ?_)
  · have h1 : (zlt τ F p) < 48 := h1
    refine jWp.blk mt 1 ?_
    show jWp 89 26 [some (jO t), some (jI (p : Int)), some (jI (zlt τ F p))] [jI (-1)] 0 0 w _
    refine jWp.ireti mt rfl ⟨rfl, rfl⟩ rfl ?_
    exact ⟨by unfold zfg; first | (rw [if_pos (by omega)]; done) | (rw [if_neg (by omega)]; done), rfl⟩
  · have h1 : 48 ≤ (zlt τ F p) := h1
    refine jWp.blk mt 2 ?_
    show jWp 89 15 [some (jO t), some (jI (p : Int)), some (jI (zlt τ F p))] [jI 57, jI (zlt τ F p)] 0 0 w _
    refine jWp.icmp (pc' := 18) mt rfl rfl (b32_id (by have := zlt_b hL p; omega) (by have := zlt_b hL p; omega)) (show b32 57 = 57 by decide) (fun h2 => ?_) (fun h2 => ?_)
    · have h2 : 57 < (zlt τ F p) := h2
      refine jWp.blk mt 1 ?_
      show jWp 89 26 [some (jO t), some (jI (p : Int)), some (jI (zlt τ F p))] [jI (-1)] 0 0 w _
      refine jWp.ireti mt rfl ⟨rfl, rfl⟩ rfl ?_
      exact ⟨by unfold zfg; first | (rw [if_pos (by omega)]; done) | (rw [if_neg (by omega)]; done), rfl⟩
    · have h2 : (zlt τ F p) ≤ 57 := h2
      refine jWp.blk mt 4 ?_
      show jWp 89 26 [some (jO t), some (jI (p : Int)), some (jI (zlt τ F p))] [jI ((zlt τ F p) - 48)] 0 0 w _
      refine jWp.ireti mt rfl ⟨rfl, rfl⟩ rfl ?_
      exact ⟨by unfold zfg; first | (rw [if_pos (by omega)]; done) | (rw [if_neg (by omega)]; done), rfl⟩
theorem C_digitAt {X : Int} {w : jS} {t tl F : Nat} {τ : Nat → Int} (hk8 : w.2.1 t = (8, 0)) (hkl : w.2.1 tl = (100, 72)) (hrl : w.2.2.1 t 1 = some tl) (hF : w.1 t 0 = (F : Int)) (hF72 : F ≤ 72) (hτ : w.1 tl = τ) (hL : ∀ j, j < F → 0 ≤ τ j ∧ τ j ≤ 255) {p : Nat} (hp : p < 2147483648) (eX : X = (p : Int)) : jCall 89 [jO t, jI X] w (jvi (zfg (zlt τ F p)) w) := by
  subst eX
  exact C_digitAt0 hk8 hkl hrl hF hF72 hτ hL hp
set_option maxHeartbeats 4000000 in
set_option maxRecDepth 20000 in
theorem C_numberAt0 {w : jS} {t tl F : Nat} {τ : Nat → Int} (hk8 : w.2.1 t = (8, 0)) (hkl : w.2.1 tl = (100, 72)) (hrl : w.2.2.1 t 1 = some tl) (hF : w.1 t 0 = (F : Int)) (hF72 : F ≤ 72) (hτ : w.1 tl = τ) (hL : ∀ j, j < F → 0 ≤ τ j ∧ τ j ≤ 255) {p : Nat} (hp : p < 2000000000) : jCall 88 [jO t, jI (p : Int)] w (jvi (znm τ F p) w) := by
  have mt : jtb 88 = jT88 := rfl
  show jWp 88 0 [some (jO t), some (jI (p : Int))] [] 0 0 w _
  refine jWp.blk mt 2 ?_
  show _ ∧ jWp 88 2 [some (jO t), some (jI (p : Int))] [jI (p : Int), jO t] 0 0 w _
  refine ⟨rfl, ?_⟩
  refine jWp.callv (as := [jO t, jI (p : Int)]) (rest := []) mt rfl rfl rfl ⟨rfl, jtg hk8⟩ ?_
  refine jCall.mono (C_letterAt (w := w) hk8 hkl hrl hF hF72 hτ hL (p := p) (by omega) (by omega)) (fun v9 w9 h9 => ?_)
  obtain ⟨rfl, h9⟩ := h9
  subst w9
  show jWp 88 5 [some (jO t), some (jI (p : Int))] [jI (zlt τ F p)] 0 0 w _
  refine jWp.blk mt 1 ?_
  show jWp 88 7 [some (jO t), some (jI (p : Int))] [jI 45, jI (zlt τ F p)] 0 0 w _
  refine jWp.icmp (pc' := 10) mt rfl rfl (b32_id (by have := zlt_b hL p; omega) (by have := zlt_b hL p; omega)) (show b32 45 = 45 by decide) (fun h1 => ?_) (fun h1 => ?_)
  · have h1 : (zlt τ F p) ≠ 45 := h1
    refine jWp.blk mt 2 ?_
    show _ ∧ jWp 88 23 [some (jO t), some (jI (p : Int))] [jI (p : Int), jO t] 0 0 w _
    refine ⟨rfl, ?_⟩
    refine jWp.callv (as := [jO t, jI (p : Int)]) (rest := []) mt rfl rfl rfl ⟨rfl, jtg hk8⟩ ?_
    refine jCall.mono (C_digitAt (w := w) hk8 hkl hrl hF hF72 hτ hL (p := p) (by omega) (by omega)) (fun v9 w9 h9 => ?_)
    obtain ⟨rfl, h9⟩ := h9
    subst w9
    show jWp 88 26 [some (jO t), some (jI (p : Int))] [jI (zfg (zlt τ F p))] 0 0 w _
    refine jWp.ireti mt rfl ⟨rfl, rfl⟩ rfl ?_
    exact ⟨by unfold znm; first | (rw [if_pos (by omega)]; done) | (rw [if_neg (by omega)]; done), rfl⟩
  · have h1 : (zlt τ F p) = 45 := h1
    refine jWp.blk mt 4 ?_
    show _ ∧ jWp 88 14 [some (jO t), some (jI (p : Int))] [jI ((p : Int) + 1), jO t] 0 0 w _
    refine ⟨rfl, ?_⟩
    refine jWp.callv (as := [jO t, jI ((p : Int) + 1)]) (rest := []) mt rfl rfl rfl ⟨rfl, jtg hk8⟩ ?_
    refine jCall.mono (C_digitAt (w := w) hk8 hkl hrl hF hF72 hτ hL (p := (p + 1)) (by omega) (by omega)) (fun v9 w9 h9 => ?_)
    obtain ⟨rfl, h9⟩ := h9
    subst w9
    show jWp 88 17 [some (jO t), some (jI (p : Int))] [jI (zfg (zlt τ F (p + 1)))] 0 0 w _
    refine jWp.blk mt 2 ?_
    show jWp 88 26 [some (jO t), some (jI (p : Int))] [jI (-(zfg (zlt τ F (p + 1))))] 0 0 w _
    refine jWp.ireti mt rfl ⟨rfl, rfl⟩ rfl ?_
    exact ⟨by unfold znm; first | (rw [if_pos (by omega)]; done) | (rw [if_neg (by omega)]; done), rfl⟩
theorem C_numberAt {X : Int} {w : jS} {t tl F : Nat} {τ : Nat → Int} (hk8 : w.2.1 t = (8, 0)) (hkl : w.2.1 tl = (100, 72)) (hrl : w.2.2.1 t 1 = some tl) (hF : w.1 t 0 = (F : Int)) (hF72 : F ≤ 72) (hτ : w.1 tl = τ) (hL : ∀ j, j < F → 0 ≤ τ j ∧ τ j ≤ 255) {p : Nat} (hp : p < 2000000000) (eX : X = (p : Int)) : jCall 88 [jO t, jI X] w (jvi (znm τ F p) w) := by
  subst eX
  exact C_numberAt0 hk8 hkl hrl hF hF72 hτ hL hp
set_option maxHeartbeats 4000000 in
set_option maxRecDepth 20000 in
theorem C_digitsOf {w : jS} {t : Nat} {c : Int} (hc : r32 c) : jCall 86 [jO t, jI c] w (jvi (zdc c) w) := by
  have mt : jtb 86 = jT86 := rfl
  have hc1 : -2147483648 ≤ c ∧ c < 2147483648 := hc
  show jWp 86 0 [some (jO t), some (jI c)] [] 0 0 w _
  refine jWp.blk mt 1 ?_
  show jWp 86 1 [some (jO t), some (jI c)] [jI c] 0 0 w _
  refine jWp.sw mt rfl (Or.inr ⟨_, _, rfl⟩) (b32_id (by omega) (by omega)) ?_
  show jWp 86 (jsw [(98, 56), (109, 52), (110, 52), (115, 54), (119, 54)] 58 c) [some (jO t), some (jI c)] [] 0 0 w _
  unfold jsw; by_cases h1 : 98 = c
  · rw [if_pos h1]
    refine jWp.blk mt 1 ?_
    show jWp 86 57 [some (jO t), some (jI c)] [jI 3] 0 0 w _
    refine jWp.ireti mt rfl ⟨rfl, rfl⟩ rfl ?_
    refine ⟨?_, rfl⟩
    unfold zdc
    first
    | (rw [if_pos (by omega)]; done)
    | (rw [if_neg (by omega), if_pos (by omega)]; done)
    | (rw [if_neg (by omega), if_neg (by omega), if_pos (by omega)]; done)
    | (rw [if_neg (by omega), if_neg (by omega), if_neg (by omega)]; done)
  · rw [if_neg h1]
    unfold jsw; by_cases h2 : 109 = c
    · rw [if_pos h2]
      refine jWp.blk mt 1 ?_
      show jWp 86 53 [some (jO t), some (jI c)] [jI 1] 0 0 w _
      refine jWp.ireti mt rfl ⟨rfl, rfl⟩ rfl ?_
      refine ⟨?_, rfl⟩
      unfold zdc
      first
      | (rw [if_pos (by omega)]; done)
      | (rw [if_neg (by omega), if_pos (by omega)]; done)
      | (rw [if_neg (by omega), if_neg (by omega), if_pos (by omega)]; done)
      | (rw [if_neg (by omega), if_neg (by omega), if_neg (by omega)]; done)
    · rw [if_neg h2]
      unfold jsw; by_cases h3 : 110 = c
      · rw [if_pos h3]
        refine jWp.blk mt 1 ?_
        show jWp 86 53 [some (jO t), some (jI c)] [jI 1] 0 0 w _
        refine jWp.ireti mt rfl ⟨rfl, rfl⟩ rfl ?_
        refine ⟨?_, rfl⟩
        unfold zdc
        first
        | (rw [if_pos (by omega)]; done)
        | (rw [if_neg (by omega), if_pos (by omega)]; done)
        | (rw [if_neg (by omega), if_neg (by omega), if_pos (by omega)]; done)
        | (rw [if_neg (by omega), if_neg (by omega), if_neg (by omega)]; done)
      · rw [if_neg h3]
        unfold jsw; by_cases h4 : 115 = c
        · rw [if_pos h4]
          refine jWp.blk mt 1 ?_
          show jWp 86 55 [some (jO t), some (jI c)] [jI 2] 0 0 w _
          refine jWp.ireti mt rfl ⟨rfl, rfl⟩ rfl ?_
          refine ⟨?_, rfl⟩
          unfold zdc
          first
          | (rw [if_pos (by omega)]; done)
          | (rw [if_neg (by omega), if_pos (by omega)]; done)
          | (rw [if_neg (by omega), if_neg (by omega), if_pos (by omega)]; done)
          | (rw [if_neg (by omega), if_neg (by omega), if_neg (by omega)]; done)
        · rw [if_neg h4]
          unfold jsw; by_cases h5 : 119 = c
          · rw [if_pos h5]
            refine jWp.blk mt 1 ?_
            show jWp 86 55 [some (jO t), some (jI c)] [jI 2] 0 0 w _
            refine jWp.ireti mt rfl ⟨rfl, rfl⟩ rfl ?_
            refine ⟨?_, rfl⟩
            unfold zdc
            first
            | (rw [if_pos (by omega)]; done)
            | (rw [if_neg (by omega), if_pos (by omega)]; done)
            | (rw [if_neg (by omega), if_neg (by omega), if_pos (by omega)]; done)
            | (rw [if_neg (by omega), if_neg (by omega), if_neg (by omega)]; done)
          · rw [if_neg h5]
            unfold jsw
            refine jWp.blk mt 1 ?_
            show jWp 86 59 [some (jO t), some (jI c)] [jI 0] 0 0 w _
            refine jWp.ireti mt rfl ⟨rfl, rfl⟩ rfl ?_
            refine ⟨?_, rfl⟩
            unfold zdc
            first
            | (rw [if_pos (by omega)]; done)
            | (rw [if_neg (by omega), if_pos (by omega)]; done)
            | (rw [if_neg (by omega), if_neg (by omega), if_pos (by omega)]; done)
            | (rw [if_neg (by omega), if_neg (by omega), if_neg (by omega)]; done)
set_option maxHeartbeats 4000000 in
set_option maxRecDepth 20000 in
theorem C_behind {w : jS} {t tl F : Nat} {τ : Nat → Int} (hk8 : w.2.1 t = (8, 0)) (hkl : w.2.1 tl = (100, 72)) (hrl : w.2.2.1 t 1 = some tl) (hF : w.1 t 0 = (F : Int)) (hF72 : F ≤ 72) (hτ : w.1 tl = τ) (hL : ∀ j, j < F → 0 ≤ τ j ∧ τ j ≤ 255) {p : Nat} (hp : p ≤ 100) : jCall 85 [jO t, jI (p : Int)] w (jvi (zbh τ F p) w) := by
  have mt : jtb 85 = jT85 := rfl
  show jWp 85 0 [some (jO t), some (jI (p : Int)), none, none, none] [] 0 0 w _
  refine jWp.blk mt 3 ?_
  show _ ∧ _ ∧ jWp 85 3 [some (jO t), some (jI (p : Int)), none, none, none] [jI (p : Int), jO t, jO t] 0 0 w _
  refine ⟨rfl, rfl, ?_⟩
  refine jWp.callv (as := [jO t, jI (p : Int)]) (rest := [jO t]) mt rfl rfl rfl ⟨rfl, jtg hk8⟩ ?_
  refine jCall.mono (C_letterAt (w := w) hk8 hkl hrl hF hF72 hτ hL (p := p) (by omega) (by omega)) (fun v9 w9 h9 => ?_)
  obtain ⟨rfl, h9⟩ := h9
  subst w9
  show jWp 85 6 [some (jO t), some (jI (p : Int)), none, none, none] [jI (zlt τ F p), jO t] 0 0 w _
  refine jWp.callv (as := [jO t, jI (zlt τ F p)]) (rest := []) mt rfl rfl rfl ⟨rfl, jtg hk8⟩ ?_
  refine jCall.mono (C_digitsOf (c := zlt τ F p) (by have := zlt_b hL p; exact ⟨by omega, by omega⟩)) (fun v9 w9 h9 => ?_)
  obtain ⟨rfl, h9⟩ := h9
  subst w9
  rcases (show (zlt τ F p = 110 ∨ zlt τ F p = 109) ∨ (zlt τ F p = 115 ∨ zlt τ F p = 119) ∨ zlt τ F p = 98 ∨ (zlt τ F p ≠ 110 ∧ zlt τ F p ≠ 109 ∧ zlt τ F p ≠ 115 ∧ zlt τ F p ≠ 119 ∧ zlt τ F p ≠ 98) by omega) with h1 | h1 | h1 | h1
  · rw [show zdc (zlt τ F p) = 1 by unfold zdc; rw [if_pos (by omega)]]
    show jWp 85 9 [some (jO t), some (jI (p : Int)), none, none, none] [jI 1] 0 0 w _
    refine jWp.blk mt 2 ?_
    show jWp 85 11 [some (jO t), some (jI (p : Int)), some (jI 1), none, none] [jI 1] 0 0 w _
    refine jWp.ifc (b := true) mt rfl (by decide) rfl ?_
    show jWp 85 18 [some (jO t), some (jI (p : Int)), some (jI 1), none, none] [] 0 0 w _
    refine jWp.blk mt 8 ?_
    show jWp 85 28 [some (jO t), some (jI (p : Int)), some (jI 1), some (jI ((p : Int) + 1)), some (jI 0)] [jI 1, jI 0] 0 0 w _
    refine jWp.icmp (pc' := 31) mt rfl rfl (show b32 0 = 0 by decide) (show b32 1 = 1 by decide) (fun h2 => ?_) (fun h2 => ?_)
    · exact absurd (show 1 ≤ (0 : Int) from h2) (by decide)
    · have h2 := h2
      refine jWp.blk mt 2 ?_
      show jWp 85 34 [some (jO t), some (jI (p : Int)), some (jI 1), some (jI ((p : Int) + 1)), some (jI 0)] [jI 2, jI 0] 0 0 w _
      refine jWp.icmp (pc' := 37) mt rfl rfl (show b32 0 = 0 by decide) (show b32 2 = 2 by decide) (fun h3 => ?_) (fun h3 => ?_)
      · have h3 := h3
        refine jWp.blk mt 2 ?_
        show _ ∧ jWp 85 52 [some (jO t), some (jI (p : Int)), some (jI 1), some (jI ((p : Int) + 1)), some (jI 0)] [jI ((p : Int) + 1), jO t] 0 0 w _
        refine ⟨rfl, ?_⟩
        refine jWp.callv (as := [jO t, jI ((p : Int) + 1)]) (rest := []) mt rfl rfl rfl ⟨rfl, jtg hk8⟩ ?_
        refine jCall.mono (C_digitAt (w := w) hk8 hkl hrl hF hF72 hτ hL (p := (p + 1)) (by omega) (by omega)) (fun v9 w9 h9 => ?_)
        obtain ⟨rfl, h9⟩ := h9
        subst w9
        show jWp 85 55 [some (jO t), some (jI (p : Int)), some (jI 1), some (jI ((p : Int) + 1)), some (jI 0)] [jI (zfg (zlt τ F (p + 1)))] 0 0 w _
        refine jWp.ifz (pc' := 58) mt rfl rfl (b32_id (by have := zfg_b (zlt τ F (p + 1)); omega) (by have := zfg_b (zlt τ F (p + 1)); omega)) (fun h4 => ?_) (fun h4 => ?_)
        · have h4 : 0 ≤ (zfg (zlt τ F (p + 1))) := h4
          refine jWp.blk mt 5 ?_
          show jWp 85 28 [some (jO t), some (jI (p : Int)), some (jI 1), some (jI (((p : Int) + 1) + 1)), some (jI 1)] [jI 1, jI 1] 0 0 w _
          refine jWp.icmp (pc' := 31) mt rfl rfl (show b32 1 = 1 by decide) (show b32 1 = 1 by decide) (fun h5 => ?_) (fun h5 => ?_)
          · have h5 := h5
            refine jWp.blk mt 2 ?_
            show _ ∧ jWp 85 73 [some (jO t), some (jI (p : Int)), some (jI 1), some (jI (((p : Int) + 1) + 1)), some (jI 1)] [jI (((p : Int) + 1) + 1), jO t] 0 0 w _
            refine ⟨rfl, ?_⟩
            refine jWp.callv (as := [jO t, jI (((p : Int) + 1) + 1)]) (rest := []) mt rfl rfl rfl ⟨rfl, jtg hk8⟩ ?_
            refine jCall.mono (C_letterAt (w := w) hk8 hkl hrl hF hF72 hτ hL (p := (p + 2)) (by omega) (by omega)) (fun v9 w9 h9 => ?_)
            obtain ⟨rfl, h9⟩ := h9
            subst w9
            show jWp 85 76 [some (jO t), some (jI (p : Int)), some (jI 1), some (jI (((p : Int) + 1) + 1)), some (jI 1)] [jI (zlt τ F (p + 2))] 0 0 w _
            refine jWp.blk mt 1 ?_
            show jWp 85 78 [some (jO t), some (jI (p : Int)), some (jI 1), some (jI (((p : Int) + 1) + 1)), some (jI 1)] [jI 59, jI (zlt τ F (p + 2))] 0 0 w _
            refine jWp.icmp (pc' := 81) mt rfl rfl (b32_id (by have := zlt_b hL (p + 2); omega) (by have := zlt_b hL (p + 2); omega)) (show b32 59 = 59 by decide) (fun h6 => ?_) (fun h6 => ?_)
            · have h6 : (zlt τ F (p + 2)) ≠ 59 := h6
              refine jWp.blk mt 3 ?_
              show jWp 85 90 [some (jO t), some (jI (p : Int)), some (jI 1), some (jI (((p : Int) + 1) + 1)), some (jI 1)] [jI ((-1) - (((p : Int) + 1) + 1))] 0 0 w _
              refine jWp.ireti mt rfl ⟨rfl, rfl⟩ rfl ?_
              refine ⟨?_, rfl⟩
              have hz9 : ∀ x, zfg x = if 48 ≤ x ∧ x ≤ 57 then x - 48 else -1 := fun _ => rfl
              refine congrArg (fun z => some (jI z)) ?_
              unfold zbh zfn
              simp only [hz9] at *
              (repeat' split) <;> first | omega | (exfalso; omega)
            · have h6 : (zlt τ F (p + 2)) = 59 := h6
              refine jWp.blk mt 4 ?_
              show jWp 85 90 [some (jO t), some (jI (p : Int)), some (jI 1), some (jI (((p : Int) + 1) + 1)), some (jI 1)] [jI ((((p : Int) + 1) + 1) + 1)] 0 0 w _
              refine jWp.ireti mt rfl ⟨rfl, rfl⟩ rfl ?_
              refine ⟨?_, rfl⟩
              have hz9 : ∀ x, zfg x = if 48 ≤ x ∧ x ≤ 57 then x - 48 else -1 := fun _ => rfl
              refine congrArg (fun z => some (jI z)) ?_
              unfold zbh zfn
              simp only [hz9] at *
              (repeat' split) <;> first | omega | (exfalso; omega)
          · exact absurd (show (1 : Int) < 1 from h5) (by decide)
        · have h4 : (zfg (zlt τ F (p + 1))) < 0 := h4
          refine jWp.blk mt 3 ?_
          show jWp 85 61 [some (jO t), some (jI (p : Int)), some (jI 1), some (jI ((p : Int) + 1)), some (jI 0)] [jI ((-1) - ((p : Int) + 1))] 0 0 w _
          refine jWp.ireti mt rfl ⟨rfl, rfl⟩ rfl ?_
          refine ⟨?_, rfl⟩
          have hz9 : ∀ x, zfg x = if 48 ≤ x ∧ x ≤ 57 then x - 48 else -1 := fun _ => rfl
          refine congrArg (fun z => some (jI z)) ?_
          unfold zbh zfn
          simp only [hz9] at *
          (repeat' split) <;> first | omega | (exfalso; omega)
      · exact absurd (show (0 : Int) = 2 from h3) (by decide)
  · rw [show zdc (zlt τ F p) = 2 by unfold zdc; rw [if_neg (by omega), if_pos (by omega)]]
    show jWp 85 9 [some (jO t), some (jI (p : Int)), none, none, none] [jI 2] 0 0 w _
    refine jWp.blk mt 2 ?_
    show jWp 85 11 [some (jO t), some (jI (p : Int)), some (jI 2), none, none] [jI 2] 0 0 w _
    refine jWp.ifc (b := true) mt rfl (by decide) rfl ?_
    show jWp 85 18 [some (jO t), some (jI (p : Int)), some (jI 2), none, none] [] 0 0 w _
    refine jWp.blk mt 8 ?_
    show jWp 85 28 [some (jO t), some (jI (p : Int)), some (jI 2), some (jI ((p : Int) + 1)), some (jI 0)] [jI 2, jI 0] 0 0 w _
    refine jWp.icmp (pc' := 31) mt rfl rfl (show b32 0 = 0 by decide) (show b32 2 = 2 by decide) (fun h7 => ?_) (fun h7 => ?_)
    · exact absurd (show 2 ≤ (0 : Int) from h7) (by decide)
    · have h7 := h7
      refine jWp.blk mt 2 ?_
      show jWp 85 34 [some (jO t), some (jI (p : Int)), some (jI 2), some (jI ((p : Int) + 1)), some (jI 0)] [jI 2, jI 0] 0 0 w _
      refine jWp.icmp (pc' := 37) mt rfl rfl (show b32 0 = 0 by decide) (show b32 2 = 2 by decide) (fun h8 => ?_) (fun h8 => ?_)
      · have h8 := h8
        refine jWp.blk mt 2 ?_
        show _ ∧ jWp 85 52 [some (jO t), some (jI (p : Int)), some (jI 2), some (jI ((p : Int) + 1)), some (jI 0)] [jI ((p : Int) + 1), jO t] 0 0 w _
        refine ⟨rfl, ?_⟩
        refine jWp.callv (as := [jO t, jI ((p : Int) + 1)]) (rest := []) mt rfl rfl rfl ⟨rfl, jtg hk8⟩ ?_
        refine jCall.mono (C_digitAt (w := w) hk8 hkl hrl hF hF72 hτ hL (p := (p + 1)) (by omega) (by omega)) (fun v9 w9 h9 => ?_)
        obtain ⟨rfl, h9⟩ := h9
        subst w9
        show jWp 85 55 [some (jO t), some (jI (p : Int)), some (jI 2), some (jI ((p : Int) + 1)), some (jI 0)] [jI (zfg (zlt τ F (p + 1)))] 0 0 w _
        refine jWp.ifz (pc' := 58) mt rfl rfl (b32_id (by have := zfg_b (zlt τ F (p + 1)); omega) (by have := zfg_b (zlt τ F (p + 1)); omega)) (fun h9 => ?_) (fun h9 => ?_)
        · have h9 : 0 ≤ (zfg (zlt τ F (p + 1))) := h9
          refine jWp.blk mt 5 ?_
          show jWp 85 28 [some (jO t), some (jI (p : Int)), some (jI 2), some (jI (((p : Int) + 1) + 1)), some (jI 1)] [jI 2, jI 1] 0 0 w _
          refine jWp.icmp (pc' := 31) mt rfl rfl (show b32 1 = 1 by decide) (show b32 2 = 2 by decide) (fun h10 => ?_) (fun h10 => ?_)
          · exact absurd (show 2 ≤ (1 : Int) from h10) (by decide)
          · have h10 := h10
            refine jWp.blk mt 2 ?_
            show jWp 85 34 [some (jO t), some (jI (p : Int)), some (jI 2), some (jI (((p : Int) + 1) + 1)), some (jI 1)] [jI 2, jI 1] 0 0 w _
            refine jWp.icmp (pc' := 37) mt rfl rfl (show b32 1 = 1 by decide) (show b32 2 = 2 by decide) (fun h11 => ?_) (fun h11 => ?_)
            · have h11 := h11
              refine jWp.blk mt 2 ?_
              show _ ∧ jWp 85 52 [some (jO t), some (jI (p : Int)), some (jI 2), some (jI (((p : Int) + 1) + 1)), some (jI 1)] [jI (((p : Int) + 1) + 1), jO t] 0 0 w _
              refine ⟨rfl, ?_⟩
              refine jWp.callv (as := [jO t, jI (((p : Int) + 1) + 1)]) (rest := []) mt rfl rfl rfl ⟨rfl, jtg hk8⟩ ?_
              refine jCall.mono (C_digitAt (w := w) hk8 hkl hrl hF hF72 hτ hL (p := (p + 2)) (by omega) (by omega)) (fun v9 w9 h9 => ?_)
              obtain ⟨rfl, h9⟩ := h9
              subst w9
              show jWp 85 55 [some (jO t), some (jI (p : Int)), some (jI 2), some (jI (((p : Int) + 1) + 1)), some (jI 1)] [jI (zfg (zlt τ F (p + 2)))] 0 0 w _
              refine jWp.ifz (pc' := 58) mt rfl rfl (b32_id (by have := zfg_b (zlt τ F (p + 2)); omega) (by have := zfg_b (zlt τ F (p + 2)); omega)) (fun h12 => ?_) (fun h12 => ?_)
              · have h12 : 0 ≤ (zfg (zlt τ F (p + 2))) := h12
                refine jWp.blk mt 5 ?_
                show jWp 85 28 [some (jO t), some (jI (p : Int)), some (jI 2), some (jI ((((p : Int) + 1) + 1) + 1)), some (jI 2)] [jI 2, jI 2] 0 0 w _
                refine jWp.icmp (pc' := 31) mt rfl rfl (show b32 2 = 2 by decide) (show b32 2 = 2 by decide) (fun h13 => ?_) (fun h13 => ?_)
                · have h13 := h13
                  refine jWp.blk mt 2 ?_
                  show _ ∧ jWp 85 73 [some (jO t), some (jI (p : Int)), some (jI 2), some (jI ((((p : Int) + 1) + 1) + 1)), some (jI 2)] [jI ((((p : Int) + 1) + 1) + 1), jO t] 0 0 w _
                  refine ⟨rfl, ?_⟩
                  refine jWp.callv (as := [jO t, jI ((((p : Int) + 1) + 1) + 1)]) (rest := []) mt rfl rfl rfl ⟨rfl, jtg hk8⟩ ?_
                  refine jCall.mono (C_letterAt (w := w) hk8 hkl hrl hF hF72 hτ hL (p := (p + 3)) (by omega) (by omega)) (fun v9 w9 h9 => ?_)
                  obtain ⟨rfl, h9⟩ := h9
                  subst w9
                  show jWp 85 76 [some (jO t), some (jI (p : Int)), some (jI 2), some (jI ((((p : Int) + 1) + 1) + 1)), some (jI 2)] [jI (zlt τ F (p + 3))] 0 0 w _
                  refine jWp.blk mt 1 ?_
                  show jWp 85 78 [some (jO t), some (jI (p : Int)), some (jI 2), some (jI ((((p : Int) + 1) + 1) + 1)), some (jI 2)] [jI 59, jI (zlt τ F (p + 3))] 0 0 w _
                  refine jWp.icmp (pc' := 81) mt rfl rfl (b32_id (by have := zlt_b hL (p + 3); omega) (by have := zlt_b hL (p + 3); omega)) (show b32 59 = 59 by decide) (fun h14 => ?_) (fun h14 => ?_)
                  · have h14 : (zlt τ F (p + 3)) ≠ 59 := h14
                    refine jWp.blk mt 3 ?_
                    show jWp 85 90 [some (jO t), some (jI (p : Int)), some (jI 2), some (jI ((((p : Int) + 1) + 1) + 1)), some (jI 2)] [jI ((-1) - ((((p : Int) + 1) + 1) + 1))] 0 0 w _
                    refine jWp.ireti mt rfl ⟨rfl, rfl⟩ rfl ?_
                    refine ⟨?_, rfl⟩
                    have hz9 : ∀ x, zfg x = if 48 ≤ x ∧ x ≤ 57 then x - 48 else -1 := fun _ => rfl
                    refine congrArg (fun z => some (jI z)) ?_
                    unfold zbh zfn
                    simp only [hz9] at *
                    (repeat' split) <;> first | omega | (exfalso; omega)
                  · have h14 : (zlt τ F (p + 3)) = 59 := h14
                    refine jWp.blk mt 4 ?_
                    show jWp 85 90 [some (jO t), some (jI (p : Int)), some (jI 2), some (jI ((((p : Int) + 1) + 1) + 1)), some (jI 2)] [jI (((((p : Int) + 1) + 1) + 1) + 1)] 0 0 w _
                    refine jWp.ireti mt rfl ⟨rfl, rfl⟩ rfl ?_
                    refine ⟨?_, rfl⟩
                    have hz9 : ∀ x, zfg x = if 48 ≤ x ∧ x ≤ 57 then x - 48 else -1 := fun _ => rfl
                    refine congrArg (fun z => some (jI z)) ?_
                    unfold zbh zfn
                    simp only [hz9] at *
                    (repeat' split) <;> first | omega | (exfalso; omega)
                · exact absurd (show (2 : Int) < 2 from h13) (by decide)
              · have h12 : (zfg (zlt τ F (p + 2))) < 0 := h12
                refine jWp.blk mt 3 ?_
                show jWp 85 61 [some (jO t), some (jI (p : Int)), some (jI 2), some (jI (((p : Int) + 1) + 1)), some (jI 1)] [jI ((-1) - (((p : Int) + 1) + 1))] 0 0 w _
                refine jWp.ireti mt rfl ⟨rfl, rfl⟩ rfl ?_
                refine ⟨?_, rfl⟩
                have hz9 : ∀ x, zfg x = if 48 ≤ x ∧ x ≤ 57 then x - 48 else -1 := fun _ => rfl
                refine congrArg (fun z => some (jI z)) ?_
                unfold zbh zfn
                simp only [hz9] at *
                (repeat' split) <;> first | omega | (exfalso; omega)
            · exact absurd (show (1 : Int) = 2 from h11) (by decide)
        · have h9 : (zfg (zlt τ F (p + 1))) < 0 := h9
          refine jWp.blk mt 3 ?_
          show jWp 85 61 [some (jO t), some (jI (p : Int)), some (jI 2), some (jI ((p : Int) + 1)), some (jI 0)] [jI ((-1) - ((p : Int) + 1))] 0 0 w _
          refine jWp.ireti mt rfl ⟨rfl, rfl⟩ rfl ?_
          refine ⟨?_, rfl⟩
          have hz9 : ∀ x, zfg x = if 48 ≤ x ∧ x ≤ 57 then x - 48 else -1 := fun _ => rfl
          refine congrArg (fun z => some (jI z)) ?_
          unfold zbh zfn
          simp only [hz9] at *
          (repeat' split) <;> first | omega | (exfalso; omega)
      · exact absurd (show (0 : Int) = 2 from h8) (by decide)
  · rw [show zdc (zlt τ F p) = 3 by unfold zdc; rw [if_neg (by omega), if_neg (by omega), if_pos (by omega)]]
    show jWp 85 9 [some (jO t), some (jI (p : Int)), none, none, none] [jI 3] 0 0 w _
    refine jWp.blk mt 2 ?_
    show jWp 85 11 [some (jO t), some (jI (p : Int)), some (jI 3), none, none] [jI 3] 0 0 w _
    refine jWp.ifc (b := true) mt rfl (by decide) rfl ?_
    show jWp 85 18 [some (jO t), some (jI (p : Int)), some (jI 3), none, none] [] 0 0 w _
    refine jWp.blk mt 8 ?_
    show jWp 85 28 [some (jO t), some (jI (p : Int)), some (jI 3), some (jI ((p : Int) + 1)), some (jI 0)] [jI 3, jI 0] 0 0 w _
    refine jWp.icmp (pc' := 31) mt rfl rfl (show b32 0 = 0 by decide) (show b32 3 = 3 by decide) (fun h15 => ?_) (fun h15 => ?_)
    · exact absurd (show 3 ≤ (0 : Int) from h15) (by decide)
    · have h15 := h15
      refine jWp.blk mt 2 ?_
      show jWp 85 34 [some (jO t), some (jI (p : Int)), some (jI 3), some (jI ((p : Int) + 1)), some (jI 0)] [jI 2, jI 0] 0 0 w _
      refine jWp.icmp (pc' := 37) mt rfl rfl (show b32 0 = 0 by decide) (show b32 2 = 2 by decide) (fun h16 => ?_) (fun h16 => ?_)
      · have h16 := h16
        refine jWp.blk mt 2 ?_
        show _ ∧ jWp 85 52 [some (jO t), some (jI (p : Int)), some (jI 3), some (jI ((p : Int) + 1)), some (jI 0)] [jI ((p : Int) + 1), jO t] 0 0 w _
        refine ⟨rfl, ?_⟩
        refine jWp.callv (as := [jO t, jI ((p : Int) + 1)]) (rest := []) mt rfl rfl rfl ⟨rfl, jtg hk8⟩ ?_
        refine jCall.mono (C_digitAt (w := w) hk8 hkl hrl hF hF72 hτ hL (p := (p + 1)) (by omega) (by omega)) (fun v9 w9 h9 => ?_)
        obtain ⟨rfl, h9⟩ := h9
        subst w9
        show jWp 85 55 [some (jO t), some (jI (p : Int)), some (jI 3), some (jI ((p : Int) + 1)), some (jI 0)] [jI (zfg (zlt τ F (p + 1)))] 0 0 w _
        refine jWp.ifz (pc' := 58) mt rfl rfl (b32_id (by have := zfg_b (zlt τ F (p + 1)); omega) (by have := zfg_b (zlt τ F (p + 1)); omega)) (fun h17 => ?_) (fun h17 => ?_)
        · have h17 : 0 ≤ (zfg (zlt τ F (p + 1))) := h17
          refine jWp.blk mt 5 ?_
          show jWp 85 28 [some (jO t), some (jI (p : Int)), some (jI 3), some (jI (((p : Int) + 1) + 1)), some (jI 1)] [jI 3, jI 1] 0 0 w _
          refine jWp.icmp (pc' := 31) mt rfl rfl (show b32 1 = 1 by decide) (show b32 3 = 3 by decide) (fun h18 => ?_) (fun h18 => ?_)
          · exact absurd (show 3 ≤ (1 : Int) from h18) (by decide)
          · have h18 := h18
            refine jWp.blk mt 2 ?_
            show jWp 85 34 [some (jO t), some (jI (p : Int)), some (jI 3), some (jI (((p : Int) + 1) + 1)), some (jI 1)] [jI 2, jI 1] 0 0 w _
            refine jWp.icmp (pc' := 37) mt rfl rfl (show b32 1 = 1 by decide) (show b32 2 = 2 by decide) (fun h19 => ?_) (fun h19 => ?_)
            · have h19 := h19
              refine jWp.blk mt 2 ?_
              show _ ∧ jWp 85 52 [some (jO t), some (jI (p : Int)), some (jI 3), some (jI (((p : Int) + 1) + 1)), some (jI 1)] [jI (((p : Int) + 1) + 1), jO t] 0 0 w _
              refine ⟨rfl, ?_⟩
              refine jWp.callv (as := [jO t, jI (((p : Int) + 1) + 1)]) (rest := []) mt rfl rfl rfl ⟨rfl, jtg hk8⟩ ?_
              refine jCall.mono (C_digitAt (w := w) hk8 hkl hrl hF hF72 hτ hL (p := (p + 2)) (by omega) (by omega)) (fun v9 w9 h9 => ?_)
              obtain ⟨rfl, h9⟩ := h9
              subst w9
              show jWp 85 55 [some (jO t), some (jI (p : Int)), some (jI 3), some (jI (((p : Int) + 1) + 1)), some (jI 1)] [jI (zfg (zlt τ F (p + 2)))] 0 0 w _
              refine jWp.ifz (pc' := 58) mt rfl rfl (b32_id (by have := zfg_b (zlt τ F (p + 2)); omega) (by have := zfg_b (zlt τ F (p + 2)); omega)) (fun h20 => ?_) (fun h20 => ?_)
              · have h20 : 0 ≤ (zfg (zlt τ F (p + 2))) := h20
                refine jWp.blk mt 5 ?_
                show jWp 85 28 [some (jO t), some (jI (p : Int)), some (jI 3), some (jI ((((p : Int) + 1) + 1) + 1)), some (jI 2)] [jI 3, jI 2] 0 0 w _
                refine jWp.icmp (pc' := 31) mt rfl rfl (show b32 2 = 2 by decide) (show b32 3 = 3 by decide) (fun h21 => ?_) (fun h21 => ?_)
                · exact absurd (show 3 ≤ (2 : Int) from h21) (by decide)
                · have h21 := h21
                  refine jWp.blk mt 2 ?_
                  show jWp 85 34 [some (jO t), some (jI (p : Int)), some (jI 3), some (jI ((((p : Int) + 1) + 1) + 1)), some (jI 2)] [jI 2, jI 2] 0 0 w _
                  refine jWp.icmp (pc' := 37) mt rfl rfl (show b32 2 = 2 by decide) (show b32 2 = 2 by decide) (fun h22 => ?_) (fun h22 => ?_)
                  · exact absurd (show (2 : Int) ≠ 2 from h22) (by decide)
                  · have h22 := h22
                    refine jWp.blk mt 2 ?_
                    show _ ∧ jWp 85 39 [some (jO t), some (jI (p : Int)), some (jI 3), some (jI ((((p : Int) + 1) + 1) + 1)), some (jI 2)] [jI ((((p : Int) + 1) + 1) + 1), jO t] 0 0 w _
                    refine ⟨rfl, ?_⟩
                    refine jWp.callv (as := [jO t, jI ((((p : Int) + 1) + 1) + 1)]) (rest := []) mt rfl rfl rfl ⟨rfl, jtg hk8⟩ ?_
                    refine jCall.mono (C_letterAt (w := w) hk8 hkl hrl hF hF72 hτ hL (p := (p + 3)) (by omega) (by omega)) (fun v9 w9 h9 => ?_)
                    obtain ⟨rfl, h9⟩ := h9
                    subst w9
                    show jWp 85 42 [some (jO t), some (jI (p : Int)), some (jI 3), some (jI ((((p : Int) + 1) + 1) + 1)), some (jI 2)] [jI (zlt τ F (p + 3))] 0 0 w _
                    refine jWp.blk mt 1 ?_
                    show jWp 85 44 [some (jO t), some (jI (p : Int)), some (jI 3), some (jI ((((p : Int) + 1) + 1) + 1)), some (jI 2)] [jI 45, jI (zlt τ F (p + 3))] 0 0 w _
                    refine jWp.icmp (pc' := 47) mt rfl rfl (b32_id (by have := zlt_b hL (p + 3); omega) (by have := zlt_b hL (p + 3); omega)) (show b32 45 = 45 by decide) (fun h23 => ?_) (fun h23 => ?_)
                    · have h23 : (zlt τ F (p + 3)) ≠ 45 := h23
                      refine jWp.blk mt 2 ?_
                      show _ ∧ jWp 85 52 [some (jO t), some (jI (p : Int)), some (jI 3), some (jI ((((p : Int) + 1) + 1) + 1)), some (jI 2)] [jI ((((p : Int) + 1) + 1) + 1), jO t] 0 0 w _
                      refine ⟨rfl, ?_⟩
                      refine jWp.callv (as := [jO t, jI ((((p : Int) + 1) + 1) + 1)]) (rest := []) mt rfl rfl rfl ⟨rfl, jtg hk8⟩ ?_
                      refine jCall.mono (C_digitAt (w := w) hk8 hkl hrl hF hF72 hτ hL (p := (p + 3)) (by omega) (by omega)) (fun v9 w9 h9 => ?_)
                      obtain ⟨rfl, h9⟩ := h9
                      subst w9
                      show jWp 85 55 [some (jO t), some (jI (p : Int)), some (jI 3), some (jI ((((p : Int) + 1) + 1) + 1)), some (jI 2)] [jI (zfg (zlt τ F (p + 3)))] 0 0 w _
                      refine jWp.ifz (pc' := 58) mt rfl rfl (b32_id (by have := zfg_b (zlt τ F (p + 3)); omega) (by have := zfg_b (zlt τ F (p + 3)); omega)) (fun h24 => ?_) (fun h24 => ?_)
                      · have h24 : 0 ≤ (zfg (zlt τ F (p + 3))) := h24
                        refine jWp.blk mt 5 ?_
                        show jWp 85 28 [some (jO t), some (jI (p : Int)), some (jI 3), some (jI (((((p : Int) + 1) + 1) + 1) + 1)), some (jI 3)] [jI 3, jI 3] 0 0 w _
                        refine jWp.icmp (pc' := 31) mt rfl rfl (show b32 3 = 3 by decide) (show b32 3 = 3 by decide) (fun h25 => ?_) (fun h25 => ?_)
                        · have h25 := h25
                          refine jWp.blk mt 2 ?_
                          show _ ∧ jWp 85 73 [some (jO t), some (jI (p : Int)), some (jI 3), some (jI (((((p : Int) + 1) + 1) + 1) + 1)), some (jI 3)] [jI (((((p : Int) + 1) + 1) + 1) + 1), jO t] 0 0 w _
                          refine ⟨rfl, ?_⟩
                          refine jWp.callv (as := [jO t, jI (((((p : Int) + 1) + 1) + 1) + 1)]) (rest := []) mt rfl rfl rfl ⟨rfl, jtg hk8⟩ ?_
                          refine jCall.mono (C_letterAt (w := w) hk8 hkl hrl hF hF72 hτ hL (p := (p + 4)) (by omega) (by omega)) (fun v9 w9 h9 => ?_)
                          obtain ⟨rfl, h9⟩ := h9
                          subst w9
                          show jWp 85 76 [some (jO t), some (jI (p : Int)), some (jI 3), some (jI (((((p : Int) + 1) + 1) + 1) + 1)), some (jI 3)] [jI (zlt τ F (p + 4))] 0 0 w _
                          refine jWp.blk mt 1 ?_
                          show jWp 85 78 [some (jO t), some (jI (p : Int)), some (jI 3), some (jI (((((p : Int) + 1) + 1) + 1) + 1)), some (jI 3)] [jI 59, jI (zlt τ F (p + 4))] 0 0 w _
                          refine jWp.icmp (pc' := 81) mt rfl rfl (b32_id (by have := zlt_b hL (p + 4); omega) (by have := zlt_b hL (p + 4); omega)) (show b32 59 = 59 by decide) (fun h26 => ?_) (fun h26 => ?_)
                          · have h26 : (zlt τ F (p + 4)) ≠ 59 := h26
                            refine jWp.blk mt 3 ?_
                            show jWp 85 90 [some (jO t), some (jI (p : Int)), some (jI 3), some (jI (((((p : Int) + 1) + 1) + 1) + 1)), some (jI 3)] [jI ((-1) - (((((p : Int) + 1) + 1) + 1) + 1))] 0 0 w _
                            refine jWp.ireti mt rfl ⟨rfl, rfl⟩ rfl ?_
                            refine ⟨?_, rfl⟩
                            have hz9 : ∀ x, zfg x = if 48 ≤ x ∧ x ≤ 57 then x - 48 else -1 := fun _ => rfl
                            refine congrArg (fun z => some (jI z)) ?_
                            unfold zbh zfn
                            simp only [hz9] at *
                            (repeat' split) <;> first | omega | (exfalso; omega)
                          · have h26 : (zlt τ F (p + 4)) = 59 := h26
                            refine jWp.blk mt 4 ?_
                            show jWp 85 90 [some (jO t), some (jI (p : Int)), some (jI 3), some (jI (((((p : Int) + 1) + 1) + 1) + 1)), some (jI 3)] [jI ((((((p : Int) + 1) + 1) + 1) + 1) + 1)] 0 0 w _
                            refine jWp.ireti mt rfl ⟨rfl, rfl⟩ rfl ?_
                            refine ⟨?_, rfl⟩
                            have hz9 : ∀ x, zfg x = if 48 ≤ x ∧ x ≤ 57 then x - 48 else -1 := fun _ => rfl
                            refine congrArg (fun z => some (jI z)) ?_
                            unfold zbh zfn
                            simp only [hz9] at *
                            (repeat' split) <;> first | omega | (exfalso; omega)
                        · exact absurd (show (3 : Int) < 3 from h25) (by decide)
                      · have h24 : (zfg (zlt τ F (p + 3))) < 0 := h24
                        refine jWp.blk mt 3 ?_
                        show jWp 85 61 [some (jO t), some (jI (p : Int)), some (jI 3), some (jI ((((p : Int) + 1) + 1) + 1)), some (jI 2)] [jI ((-1) - ((((p : Int) + 1) + 1) + 1))] 0 0 w _
                        refine jWp.ireti mt rfl ⟨rfl, rfl⟩ rfl ?_
                        refine ⟨?_, rfl⟩
                        have hz9 : ∀ x, zfg x = if 48 ≤ x ∧ x ≤ 57 then x - 48 else -1 := fun _ => rfl
                        refine congrArg (fun z => some (jI z)) ?_
                        unfold zbh zfn
                        simp only [hz9] at *
                        (repeat' split) <;> first | omega | (exfalso; omega)
                    · have h23 : (zlt τ F (p + 3)) = 45 := h23
                      refine jWp.blk mt 3 ?_
                      show _ ∧ jWp 85 52 [some (jO t), some (jI (p : Int)), some (jI 3), some (jI (((((p : Int) + 1) + 1) + 1) + 1)), some (jI 2)] [jI (((((p : Int) + 1) + 1) + 1) + 1), jO t] 0 0 w _
                      refine ⟨rfl, ?_⟩
                      refine jWp.callv (as := [jO t, jI (((((p : Int) + 1) + 1) + 1) + 1)]) (rest := []) mt rfl rfl rfl ⟨rfl, jtg hk8⟩ ?_
                      refine jCall.mono (C_digitAt (w := w) hk8 hkl hrl hF hF72 hτ hL (p := (p + 4)) (by omega) (by omega)) (fun v9 w9 h9 => ?_)
                      obtain ⟨rfl, h9⟩ := h9
                      subst w9
                      show jWp 85 55 [some (jO t), some (jI (p : Int)), some (jI 3), some (jI (((((p : Int) + 1) + 1) + 1) + 1)), some (jI 2)] [jI (zfg (zlt τ F (p + 4)))] 0 0 w _
                      refine jWp.ifz (pc' := 58) mt rfl rfl (b32_id (by have := zfg_b (zlt τ F (p + 4)); omega) (by have := zfg_b (zlt τ F (p + 4)); omega)) (fun h27 => ?_) (fun h27 => ?_)
                      · have h27 : 0 ≤ (zfg (zlt τ F (p + 4))) := h27
                        refine jWp.blk mt 5 ?_
                        show jWp 85 28 [some (jO t), some (jI (p : Int)), some (jI 3), some (jI ((((((p : Int) + 1) + 1) + 1) + 1) + 1)), some (jI 3)] [jI 3, jI 3] 0 0 w _
                        refine jWp.icmp (pc' := 31) mt rfl rfl (show b32 3 = 3 by decide) (show b32 3 = 3 by decide) (fun h28 => ?_) (fun h28 => ?_)
                        · have h28 := h28
                          refine jWp.blk mt 2 ?_
                          show _ ∧ jWp 85 73 [some (jO t), some (jI (p : Int)), some (jI 3), some (jI ((((((p : Int) + 1) + 1) + 1) + 1) + 1)), some (jI 3)] [jI ((((((p : Int) + 1) + 1) + 1) + 1) + 1), jO t] 0 0 w _
                          refine ⟨rfl, ?_⟩
                          refine jWp.callv (as := [jO t, jI ((((((p : Int) + 1) + 1) + 1) + 1) + 1)]) (rest := []) mt rfl rfl rfl ⟨rfl, jtg hk8⟩ ?_
                          refine jCall.mono (C_letterAt (w := w) hk8 hkl hrl hF hF72 hτ hL (p := (p + 5)) (by omega) (by omega)) (fun v9 w9 h9 => ?_)
                          obtain ⟨rfl, h9⟩ := h9
                          subst w9
                          show jWp 85 76 [some (jO t), some (jI (p : Int)), some (jI 3), some (jI ((((((p : Int) + 1) + 1) + 1) + 1) + 1)), some (jI 3)] [jI (zlt τ F (p + 5))] 0 0 w _
                          refine jWp.blk mt 1 ?_
                          show jWp 85 78 [some (jO t), some (jI (p : Int)), some (jI 3), some (jI ((((((p : Int) + 1) + 1) + 1) + 1) + 1)), some (jI 3)] [jI 59, jI (zlt τ F (p + 5))] 0 0 w _
                          refine jWp.icmp (pc' := 81) mt rfl rfl (b32_id (by have := zlt_b hL (p + 5); omega) (by have := zlt_b hL (p + 5); omega)) (show b32 59 = 59 by decide) (fun h29 => ?_) (fun h29 => ?_)
                          · have h29 : (zlt τ F (p + 5)) ≠ 59 := h29
                            refine jWp.blk mt 3 ?_
                            show jWp 85 90 [some (jO t), some (jI (p : Int)), some (jI 3), some (jI ((((((p : Int) + 1) + 1) + 1) + 1) + 1)), some (jI 3)] [jI ((-1) - ((((((p : Int) + 1) + 1) + 1) + 1) + 1))] 0 0 w _
                            refine jWp.ireti mt rfl ⟨rfl, rfl⟩ rfl ?_
                            refine ⟨?_, rfl⟩
                            have hz9 : ∀ x, zfg x = if 48 ≤ x ∧ x ≤ 57 then x - 48 else -1 := fun _ => rfl
                            refine congrArg (fun z => some (jI z)) ?_
                            unfold zbh zfn
                            simp only [hz9] at *
                            (repeat' split) <;> first | omega | (exfalso; omega)
                          · have h29 : (zlt τ F (p + 5)) = 59 := h29
                            refine jWp.blk mt 4 ?_
                            show jWp 85 90 [some (jO t), some (jI (p : Int)), some (jI 3), some (jI ((((((p : Int) + 1) + 1) + 1) + 1) + 1)), some (jI 3)] [jI (((((((p : Int) + 1) + 1) + 1) + 1) + 1) + 1)] 0 0 w _
                            refine jWp.ireti mt rfl ⟨rfl, rfl⟩ rfl ?_
                            refine ⟨?_, rfl⟩
                            have hz9 : ∀ x, zfg x = if 48 ≤ x ∧ x ≤ 57 then x - 48 else -1 := fun _ => rfl
                            refine congrArg (fun z => some (jI z)) ?_
                            unfold zbh zfn
                            simp only [hz9] at *
                            (repeat' split) <;> first | omega | (exfalso; omega)
                        · exact absurd (show (3 : Int) < 3 from h28) (by decide)
                      · have h27 : (zfg (zlt τ F (p + 4))) < 0 := h27
                        refine jWp.blk mt 3 ?_
                        show jWp 85 61 [some (jO t), some (jI (p : Int)), some (jI 3), some (jI (((((p : Int) + 1) + 1) + 1) + 1)), some (jI 2)] [jI ((-1) - (((((p : Int) + 1) + 1) + 1) + 1))] 0 0 w _
                        refine jWp.ireti mt rfl ⟨rfl, rfl⟩ rfl ?_
                        refine ⟨?_, rfl⟩
                        have hz9 : ∀ x, zfg x = if 48 ≤ x ∧ x ≤ 57 then x - 48 else -1 := fun _ => rfl
                        refine congrArg (fun z => some (jI z)) ?_
                        unfold zbh zfn
                        simp only [hz9] at *
                        (repeat' split) <;> first | omega | (exfalso; omega)
              · have h20 : (zfg (zlt τ F (p + 2))) < 0 := h20
                refine jWp.blk mt 3 ?_
                show jWp 85 61 [some (jO t), some (jI (p : Int)), some (jI 3), some (jI (((p : Int) + 1) + 1)), some (jI 1)] [jI ((-1) - (((p : Int) + 1) + 1))] 0 0 w _
                refine jWp.ireti mt rfl ⟨rfl, rfl⟩ rfl ?_
                refine ⟨?_, rfl⟩
                have hz9 : ∀ x, zfg x = if 48 ≤ x ∧ x ≤ 57 then x - 48 else -1 := fun _ => rfl
                refine congrArg (fun z => some (jI z)) ?_
                unfold zbh zfn
                simp only [hz9] at *
                (repeat' split) <;> first | omega | (exfalso; omega)
            · exact absurd (show (1 : Int) = 2 from h19) (by decide)
        · have h17 : (zfg (zlt τ F (p + 1))) < 0 := h17
          refine jWp.blk mt 3 ?_
          show jWp 85 61 [some (jO t), some (jI (p : Int)), some (jI 3), some (jI ((p : Int) + 1)), some (jI 0)] [jI ((-1) - ((p : Int) + 1))] 0 0 w _
          refine jWp.ireti mt rfl ⟨rfl, rfl⟩ rfl ?_
          refine ⟨?_, rfl⟩
          have hz9 : ∀ x, zfg x = if 48 ≤ x ∧ x ≤ 57 then x - 48 else -1 := fun _ => rfl
          refine congrArg (fun z => some (jI z)) ?_
          unfold zbh zfn
          simp only [hz9] at *
          (repeat' split) <;> first | omega | (exfalso; omega)
      · exact absurd (show (0 : Int) = 2 from h16) (by decide)
  · rw [show zdc (zlt τ F p) = 0 by unfold zdc; rw [if_neg (by omega), if_neg (by omega), if_neg (by omega)]]
    show jWp 85 9 [some (jO t), some (jI (p : Int)), none, none, none] [jI 0] 0 0 w _
    refine jWp.blk mt 2 ?_
    show jWp 85 11 [some (jO t), some (jI (p : Int)), some (jI 0), none, none] [jI 0] 0 0 w _
    refine jWp.ifc (b := false) mt rfl (by decide) rfl ?_
    show jWp 85 14 [some (jO t), some (jI (p : Int)), some (jI 0), none, none] [] 0 0 w _
    refine jWp.blk mt 3 ?_
    show jWp 85 17 [some (jO t), some (jI (p : Int)), some (jI 0), none, none] [jI ((-1) - (p : Int))] 0 0 w _
    refine jWp.ireti mt rfl ⟨rfl, rfl⟩ rfl ?_
    refine ⟨?_, rfl⟩
    have hz9 : ∀ x, zfg x = if 48 ≤ x ∧ x ≤ 57 then x - 48 else -1 := fun _ => rfl
    refine congrArg (fun z => some (jI z)) ?_
    unfold zbh zfn
    simp only [hz9] at *
    (repeat' split) <;> first | omega | (exfalso; omega)
