/-- how many statements end in the first letters -/
def zct (τ : Nat → Int) : Nat → Int
  | 0 => 0
  | j + 1 => zct τ j + if τ j = 59 then 1 else 0
theorem zct_t {τ : Nat → Int} {j : Nat} (h : τ j = 59) : zct τ (j + 1) = zct τ j + 1 := by
  show _ + (if _ then _ else _) = _
  rw [if_pos h]
theorem zct_f {τ : Nat → Int} {j : Nat} (h : τ j ≠ 59) : zct τ (j + 1) = zct τ j + 0 := by
  show _ + (if _ then _ else _) = _
  rw [if_neg h]
theorem zlt_in {τ : Nat → Int} {F p : Nat} (h : p < F) : zlt τ F p = τ p := if_pos h
theorem zbh_c {τ : Nat → Int} {F p b : Nat} (h : zbh τ F p = (b : Int)) : p < b ∧ b ≤ F ∧ b ≤ p + 6 ∧ zct τ b = zct τ p + 1 := by
  have fin : ∀ q c : Nat, zfn τ F q = (c : Int) → c = q + 1 ∧ q < F ∧ τ q = 59 := by
    intro q c hq
    unfold zfn at hq
    split at hq
    · rename_i e
      have := zlt_l e (by decide)
      rw [zlt_in this] at e
      exact ⟨by omega, this, e⟩
    · omega
  have one : ∀ q, q < F → zlt τ F q ≠ 59 → zct τ (q + 1) = zct τ q := fun q hq hn => by
    rw [zlt_in hq] at hn
    rw [zct_f hn, Int.add_zero]
  unfold zbh at h
  split at h
  · rename_i h0
    split at h
    · rename_i h1
      have f := fin _ _ h
      rw [f.1]
      refine ⟨by omega, by omega, by omega, ?_⟩
      rw [zct_t f.2.2, one (p + 1) (by omega) (by omega), one p (by omega) (by omega)]
    · omega
  · split at h
    · rename_i h0
      split at h
      · rename_i h1
        split at h
        · rename_i h2
          have f := fin _ _ h
          rw [f.1]
          refine ⟨by omega, by omega, by omega, ?_⟩
          rw [zct_t f.2.2, one (p + 2) (by omega) (by omega), one (p + 1) (by omega) (by omega), one p (by omega) (by omega)]
        · omega
      · omega
    · split at h
      · rename_i h0
        split at h
        · rename_i h1
          split at h
          · rename_i h2
            split at h
            · rename_i h3
              split at h
              · rename_i h5
                have f := fin _ _ h
                rw [f.1]
                refine ⟨by omega, by omega, by omega, ?_⟩
                rw [zct_t f.2.2, one (p + 4) (by omega) (by omega), one (p + 3) (by omega) (by omega), one (p + 2) (by omega) (by omega), one (p + 1) (by omega) (by omega), one p (by omega) (by omega)]
              · omega
            · rename_i h3
              split at h
              · rename_i h5
                have f := fin _ _ h
                rw [f.1]
                refine ⟨by omega, by omega, by omega, ?_⟩
                rw [zct_t f.2.2, one (p + 3) (by omega) (by omega), one (p + 2) (by omega) (by omega), one (p + 1) (by omega) (by omega), one p (by omega) (by omega)]
              · omega
          · omega
        · omega
      · omega
theorem zw1_c {τ : Nat → Int} {F : Nat} : ∀ f p k, p ≤ F → F < p + f → 0 ≤ zw1 τ F f p k → zw1 τ F f p k = (k : Int) + zct τ F - zct τ p
  | 0, p, k, hp, hf, _ => by omega
  | f + 1, p, k, hp, hf, h => by
    by_cases e : zbh τ F p < 0
    · rw [zw1_n e] at h
      omega
    · obtain ⟨b, hb⟩ : ∃ b : Nat, zbh τ F p = (b : Int) := ⟨(zbh τ F p).toNat, by omega⟩
      have c := zbh_c hb
      by_cases g : F ≤ b
      · rw [zw1_e hb g]
        have : b = F := by omega
        rw [this] at c
        omega
      · rw [zw1_g hb (by omega)] at h ⊢
        have := zw1_c f b (k + 1) (by omega) (by omega) h
        omega
theorem zw1_k {τ : Nat → Int} {F f p k : Nat} (h : 0 ≤ zw1 τ F (f + 1) p k) : ∃ b : Nat, zbh τ F p = (b : Int) ∧ (b < F → 0 ≤ zw1 τ F f b (k + 1)) := by
  by_cases e : zbh τ F p < 0
  · rw [zw1_n e] at h
    omega
  · obtain ⟨b, hb⟩ : ∃ b : Nat, zbh τ F p = (b : Int) := ⟨(zbh τ F p).toNat, by omega⟩
    exact ⟨b, hb, fun g => by rw [zw1_g hb g] at h; exact h⟩
theorem zbh_p {τ : Nat → Int} {F p : Nat} : -1 - ((p + 5 : Nat) : Int) ≤ zbh τ F p := by
  have fin : ∀ q : Nat, -1 - (q : Int) ≤ zfn τ F q := fun q => by
    unfold zfn
    split <;> omega
  have := fin (p + 2)
  have := fin (p + 3)
  have := fin (p + 4)
  have := fin (p + 5)
  unfold zbh
  (repeat' split) <;> omega
/-- the figures of a statement -/
theorem zbh_f {τ : Nat → Int} {F p : Nat} (h : 0 ≤ zbh τ F p) : (48 ≤ zlt τ F (p + 1) ∧ zlt τ F (p + 1) ≤ 57) ∧ (zlt τ F p = 115 ∨ zlt τ F p = 119 ∨ zlt τ F p = 98 → 48 ≤ zlt τ F (p + 2) ∧ zlt τ F (p + 2) ≤ 57) ∧ (zlt τ F p = 98 → -9 ≤ znm τ F (p + 3) ∧ znm τ F (p + 3) ≤ 9) := by
  have nb := znm_b τ F (p + 3)
  refine ⟨?_, fun g => ?_, fun _ => nb⟩
  · unfold zbh at h
    (repeat' split at h) <;> omega
  · unfold zbh at h
    (repeat' split at h) <;> omega
set_option maxHeartbeats 4000000 in
set_option maxRecDepth 20000 in
theorem C_statements {w : jS} {t tl F : Nat} {τ : Nat → Int} (hk8 : w.2.1 t = (8, 0)) (hkl : w.2.1 tl = (100, 72)) (hrl : w.2.2.1 t 1 = some tl) (hF : w.1 t 0 = (F : Int)) (hF72 : F ≤ 72) (hτ : w.1 tl = τ) (hL : ∀ j, j < F → 0 ≤ τ j ∧ τ j ≤ 255) : jCall 84 [jO t] w (jvi (zct τ F) w) := by
  have mt : jtb 84 = jT84 := rfl
  show jWp 84 0 [some (jO t), none, none] [] 0 0 w _
  refine jWp.blk mt 4 ?_
  show jWp 84 4 [some (jO t), some (jI 0), some (jI 0)] [] 0 0 w _
  have lp1 : ∀ (N : Nat) (j : Nat) (y : Int) (hj : j ≤ F) (hy : y = zct τ j), F - j < N → jWp 84 4 [some (jO t), some (jI y), some (jI (j : Int))] [] 0 0 w (jvi (zct τ F) w) := by
    intro N
    induction N with
    | zero => intro j y hj hy hm; omega
    | succ N ih2 =>
      intro j y hj hy hm
      have hLj := fun h : j < F => hL j h
      refine jWp.blk mt 2 ?_
      show _ ∧ jWp 84 6 [some (jO t), some (jI y), some (jI (j : Int))] [jO t, jI (j : Int)] 0 0 w _
      refine ⟨rfl, ?_⟩
      refine jWp.getI (pc' := 9) mt rfl rfl (jtg hk8) ?_
      rw [show (w.1 t 0) = (F : Int) from hF]
      show jWp 84 9 [some (jO t), some (jI y), some (jI (j : Int))] [jI (F : Int), jI (j : Int)] 0 0 w _
      refine jWp.icmp (pc' := 12) mt rfl rfl (b32_id (by omega) (by omega)) (b32_id (by omega) (by omega)) (fun h3 => ?_) (fun h3 => ?_)
      · have h3 : (F : Int) ≤ (j : Int) := h3
        refine jWp.blk mt 1 ?_
        show jWp 84 39 [some (jO t), some (jI y), some (jI (j : Int))] [jI y] 0 0 w _
        refine jWp.ireti mt rfl ⟨rfl, rfl⟩ rfl ?_
        exact ⟨by rw [hy, show j = F by omega], rfl⟩
      · have h3 : (j : Int) < (F : Int) := h3
        refine jWp.blk mt 2 ?_
        show jWp 84 15 [some (jO t), some (jI y), some (jI (j : Int))] [jI 72, jI (j : Int)] 0 0 w _
        refine jWp.icmp (pc' := 18) mt rfl rfl (b32_id (by omega) (by omega)) (show b32 72 = 72 by decide) (fun h4 => ?_) (fun h4 => ?_)
        · have h4 : 72 ≤ (j : Int) := h4
          refine jWp.blk mt 1 ?_
          show jWp 84 39 [some (jO t), some (jI y), some (jI (j : Int))] [jI y] 0 0 w _
          refine jWp.ireti mt rfl ⟨rfl, rfl⟩ rfl ?_
          exact ⟨by rw [hy, show j = F by omega], rfl⟩
        · have h4 : (j : Int) < 72 := h4
          refine jWp.blk mt 1 ?_
          show _ ∧ jWp 84 19 [some (jO t), some (jI y), some (jI (j : Int))] [jO t] 0 0 w _
          refine ⟨rfl, ?_⟩
          refine jWp.getR (pc' := 22) (o := tl) mt rfl rfl (jtg hk8) hrl ?_
          show jWp 84 22 [some (jO t), some (jI y), some (jI (j : Int))] [jO tl] 0 0 w _
          refine jWp.blk mt 1 ?_
          show jWp 84 23 [some (jO t), some (jI y), some (jI (j : Int))] [jI (j : Int), jO tl] 0 0 w _
          refine jWp.iald (pc' := 24) (j := j) mt rfl rfl (jird_of hkl) (b32_id (by omega) (by omega)) (jlt hkl (by omega)) ?_
          rw [show (w.1 tl j) = (τ j) from (congrFun hτ _)]
          show jWp 84 24 [some (jO t), some (jI y), some (jI (j : Int))] [jI (τ j)] 0 0 w _
          refine jWp.blk mt 1 ?_
          show jWp 84 26 [some (jO t), some (jI y), some (jI (j : Int))] [jI 59, jI (τ j)] 0 0 w _
          refine jWp.icmp (pc' := 29) mt rfl rfl (b32_id (by omega) (by omega)) (show b32 59 = 59 by decide) (fun h5 => ?_) (fun h5 => ?_)
          · have h5 : (τ j) ≠ 59 := h5
            refine jWp.blk mt 2 ?_
            show jWp 84 4 [some (jO t), some (jI y), some (jI ((j : Int) + 1))] [] 0 0 w _
            refine jWp.le (l := [some (jO t), some (jI y), some (jI ((j : Int) + 1))]) (by exact ⟨rfl, rfl, rfl, trivial⟩) ?_
            exact ih2 (j + 1) _ (by omega) (by rw [hy]; first | (rw [zct_t (by omega)]; done) | (rw [zct_f (by omega), Int.add_zero]; done)) (by omega)
          · have h5 : (τ j) = 59 := h5
            refine jWp.blk mt 3 ?_
            show jWp 84 4 [some (jO t), some (jI (y + 1)), some (jI ((j : Int) + 1))] [] 0 0 w _
            refine jWp.le (l := [some (jO t), some (jI (y + 1)), some (jI ((j : Int) + 1))]) (by exact ⟨rfl, rfl, rfl, trivial⟩) ?_
            exact ih2 (j + 1) _ (by omega) (by rw [hy]; first | (rw [zct_t (by omega)]; done) | (rw [zct_f (by omega), Int.add_zero]; done)) (by omega)
  refine jWp.le (l := [some (jO t), some (jI 0), some (jI 0)]) (by exact ⟨rfl, rfl, rfl, trivial⟩) ?_
  exact lp1 _ 0 0 (by omega) rfl (Nat.lt_succ_self _)
theorem zbh_n {τ : Nat → Int} {F p : Nat} : zbh τ F p ≤ ((p + 6 : Nat) : Int) := by
  rcases (show zbh τ F p < 0 ∨ 0 ≤ zbh τ F p by omega) with h | h
  · omega
  · obtain ⟨b, hb⟩ : ∃ b : Nat, zbh τ F p = (b : Int) := ⟨(zbh τ F p).toNat, by omega⟩
    have := zbh_c hb
    omega
set_option maxHeartbeats 4000000 in
set_option maxRecDepth 20000 in
theorem C_misplaced {w : jS} {t tl F : Nat} {τ : Nat → Int} (hk8 : w.2.1 t = (8, 0)) (hkl : w.2.1 tl = (100, 72)) (hrl : w.2.2.1 t 1 = some tl) (hF : w.1 t 0 = (F : Int)) (hF72 : F ≤ 72) (hτ : w.1 tl = τ) (hL : ∀ j, j < F → 0 ≤ τ j ∧ τ j ≤ 255) : jCall 82 [jO t] w (fun v w1 => w1 = w ∧ ((zw1 τ F 73 0 0) < 0 → v = some (jI (-1 - (zw1 τ F 73 0 0)))) ∧ (0 ≤ (zw1 τ F 73 0 0) → v = some (jI (-1)))) := by
  have mt : jtb 82 = jT82 := rfl
  show jWp 82 0 [some (jO t), none, none, none] [] 0 0 w _
  refine jWp.blk mt 4 ?_
  show jWp 82 4 [some (jO t), some (jI 0), some (jI 0), none] [] 0 0 w _
  have lp1 : ∀ (N : Nat) (i p : Nat) (hi : i ≤ p ∧ (p = 0 ∨ p < F)) (hr : zw1 τ F (73 - i) p i = (zw1 τ F 73 0 0)), 80 - i < N → jWp 82 4 [some (jO t), some (jI (p : Int)), some (jI (i : Int)), none] [] 0 0 w (fun v w1 => w1 = w ∧ ((zw1 τ F 73 0 0) < 0 → v = some (jI (-1 - (zw1 τ F 73 0 0)))) ∧ (0 ≤ (zw1 τ F 73 0 0) → v = some (jI (-1)))) := by
    intro N
    induction N with
    | zero => intro i p hi hr hm; omega
    | succ N ih2 =>
      intro i p hi hr hm
      refine jWp.blk mt 2 ?_
      show jWp 82 7 [some (jO t), some (jI (p : Int)), some (jI (i : Int)), none] [jI 72, jI (i : Int)] 0 0 w _
      refine jWp.icmp (pc' := 10) mt rfl rfl (b32_id (by omega) (by omega)) (show b32 72 = 72 by decide) (fun h3 => ?_) (fun h3 => ?_)
      · have h3 : 72 < (i : Int) := h3
        refine jWp.blk mt 1 ?_
        show jWp 82 43 [some (jO t), some (jI (p : Int)), some (jI (i : Int)), none] [jI (p : Int)] 0 0 w _
        refine jWp.ireti mt rfl ⟨rfl, rfl⟩ rfl ?_
        exfalso; omega
      · have h3 : (i : Int) ≤ 72 := h3
        refine jWp.blk mt 2 ?_
        show _ ∧ jWp 82 12 [some (jO t), some (jI (p : Int)), some (jI (i : Int)), none] [jI (p : Int), jO t] 0 0 w _
        refine ⟨rfl, ?_⟩
        refine jWp.callv (as := [jO t, jI (p : Int)]) (rest := []) mt rfl rfl rfl ⟨rfl, jtg hk8⟩ ?_
        refine jCall.mono (C_behind (w := w) hk8 hkl hrl hF hF72 hτ hL (p := p) (by omega)) (fun v9 w9 h9 => ?_)
        obtain ⟨rfl, h9⟩ := h9
        subst w9
        show jWp 82 15 [some (jO t), some (jI (p : Int)), some (jI (i : Int)), none] [jI (zbh τ F p)] 0 0 w _
        refine jWp.blk mt 2 ?_
        show jWp 82 17 [some (jO t), some (jI (p : Int)), some (jI (i : Int)), some (jI (zbh τ F p))] [jI (zbh τ F p)] 0 0 w _
        refine jWp.ifz (pc' := 20) mt rfl rfl (b32_id (by have := zbh_p (τ := τ) (F := F) (p := p); omega) (by have := zbh_n (τ := τ) (F := F) (p := p); omega)) (fun h4 => ?_) (fun h4 => ?_)
        · have h4 : 0 ≤ (zbh τ F p) := h4
          refine jWp.blk mt 2 ?_
          show _ ∧ jWp 82 26 [some (jO t), some (jI (p : Int)), some (jI (i : Int)), some (jI (zbh τ F p))] [jO t, jI (zbh τ F p)] 0 0 w _
          refine ⟨rfl, ?_⟩
          refine jWp.getI (pc' := 29) mt rfl rfl (jtg hk8) ?_
          rw [show (w.1 t 0) = (F : Int) from hF]
          show jWp 82 29 [some (jO t), some (jI (p : Int)), some (jI (i : Int)), some (jI (zbh τ F p))] [jI (F : Int), jI (zbh τ F p)] 0 0 w _
          refine jWp.icmp (pc' := 32) mt rfl rfl (b32_id (by have := zbh_p (τ := τ) (F := F) (p := p); omega) (by have := zbh_n (τ := τ) (F := F) (p := p); omega)) (b32_id (by omega) (by omega)) (fun h5 => ?_) (fun h5 => ?_)
          · have h5 : (zbh τ F p) < (F : Int) := h5
            refine jWp.blk mt 4 ?_
            show jWp 82 4 [some (jO t), some (jI (zbh τ F p)), some (jI ((i : Int) + 1)), some (jI (zbh τ F p))] [] 0 0 w _
            obtain ⟨b8, hb8⟩ : ∃ b : Nat, zbh τ F p = (b : Int) := ⟨(zbh τ F p).toNat, by omega⟩
            have hc8 := zbh_c hb8
            rw [hb8]
            refine jWp.le (l := [some (jO t), some (jI (b8 : Int)), some (jI ((i : Int) + 1)), none]) (by exact ⟨rfl, rfl, rfl, trivial⟩) ?_
            exact ih2 (i + 1) b8 (by omega) (by rw [← hr, show 73 - i = (73 - (i + 1)) + 1 by omega, zw1_g hb8 (by omega)]) (by omega)
          · have h5 : (F : Int) ≤ (zbh τ F p) := h5
            refine jWp.blk mt 1 ?_
            show jWp 82 33 [some (jO t), some (jI (p : Int)), some (jI (i : Int)), some (jI (zbh τ F p))] [jI (-1)] 0 0 w _
            refine jWp.ireti mt rfl ⟨rfl, rfl⟩ rfl ?_
            refine ⟨rfl, fun g => ?_, fun g => rfl⟩
            exfalso
            obtain ⟨b9, hb9⟩ : ∃ b : Nat, zbh τ F p = (b : Int) := ⟨(zbh τ F p).toNat, by omega⟩
            rw [← hr, show 73 - i = (72 - i) + 1 by omega, zw1_e hb9 (by omega)] at g
            omega
        · have h4 : (zbh τ F p) < 0 := h4
          refine jWp.blk mt 3 ?_
          show jWp 82 23 [some (jO t), some (jI (p : Int)), some (jI (i : Int)), some (jI (zbh τ F p))] [jI ((-1) - (zbh τ F p))] 0 0 w _
          refine jWp.ireti mt rfl ⟨rfl, rfl⟩ rfl ?_
          refine ⟨rfl, fun g => ?_, fun g => ?_⟩
          · rw [← hr, show 73 - i = (72 - i) + 1 by omega, zw1_n (by omega)]
          · exfalso
            rw [← hr, show 73 - i = (72 - i) + 1 by omega, zw1_n (by omega)] at g
            omega
  refine jWp.le (l := [some (jO t), some (jI 0), some (jI 0), none]) (by exact ⟨rfl, rfl, rfl, trivial⟩) ?_
  exact lp1 _ 0 0 (by omega) rfl (Nat.lt_succ_self _)
set_option maxHeartbeats 4000000 in
set_option maxRecDepth 20000 in
theorem C_add {w : jS} {t tl F : Nat} (hk8 : w.2.1 t = (8, 0)) (hkl : w.2.1 tl = (100, 72)) (hrl : w.2.2.1 t 1 = some tl) (hF : w.1 t 0 = (F : Int)) (hF72 : F ≤ 72) {c : Int} : jCall 80 [jO t, jI c] w (fun v w1 => (F < 72 → v = some (jI 1) ∧ w1 = jW (jW w tl F c) t 0 ((F : Int) + 1)) ∧ (F = 72 → v = some (jI 0) ∧ w1 = w)) := by
  have mt : jtb 80 = jT80 := rfl
  have hnt : t ≠ tl := kne hk8 hkl (by decide)
  show jWp 80 0 [some (jO t), some (jI c)] [] 0 0 w _
  refine jWp.blk mt 1 ?_
  show _ ∧ jWp 80 1 [some (jO t), some (jI c)] [jO t] 0 0 w _
  refine ⟨rfl, ?_⟩
  refine jWp.getI (pc' := 4) mt rfl rfl (jtg hk8) ?_
  rw [show (w.1 t 0) = (F : Int) from hF]
  show jWp 80 4 [some (jO t), some (jI c)] [jI (F : Int)] 0 0 w _
  refine jWp.ifz (pc' := 7) mt rfl rfl (b32_id (by omega) (by omega)) (fun h1 => ?_) (fun h1 => ?_)
  · have h1 : (F : Int) < 0 := h1
    refine jWp.blk mt 1 ?_
    show jWp 80 17 [some (jO t), some (jI c)] [jI 0] 0 0 w _
    refine jWp.iretz mt rfl ⟨rfl, rfl⟩ rfl (Or.inl rfl) ?_
    exact ⟨fun g => by exfalso; omega, fun g => ⟨rfl, rfl⟩⟩
  · have h1 : 0 ≤ (F : Int) := h1
    refine jWp.blk mt 1 ?_
    show _ ∧ jWp 80 8 [some (jO t), some (jI c)] [jO t] 0 0 w _
    refine ⟨rfl, ?_⟩
    refine jWp.getI (pc' := 11) mt rfl rfl (jtg hk8) ?_
    rw [show (w.1 t 0) = (F : Int) from hF]
    show jWp 80 11 [some (jO t), some (jI c)] [jI (F : Int)] 0 0 w _
    refine jWp.blk mt 1 ?_
    show jWp 80 13 [some (jO t), some (jI c)] [jI 72, jI (F : Int)] 0 0 w _
    refine jWp.icmp (pc' := 16) mt rfl rfl (b32_id (by omega) (by omega)) (show b32 72 = 72 by decide) (fun h2 => ?_) (fun h2 => ?_)
    · have h2 : (F : Int) < 72 := h2
      refine jWp.blk mt 1 ?_
      show _ ∧ jWp 80 19 [some (jO t), some (jI c)] [jO t] 0 0 w _
      refine ⟨rfl, ?_⟩
      refine jWp.getR (pc' := 22) (o := tl) mt rfl rfl (jtg hk8) hrl ?_
      show jWp 80 22 [some (jO t), some (jI c)] [jO tl] 0 0 w _
      refine jWp.blk mt 1 ?_
      show _ ∧ jWp 80 23 [some (jO t), some (jI c)] [jO t, jO tl] 0 0 w _
      refine ⟨rfl, ?_⟩
      refine jWp.getI (pc' := 26) mt rfl rfl (jtg hk8) ?_
      rw [show (w.1 t 0) = (F : Int) from hF]
      show jWp 80 26 [some (jO t), some (jI c)] [jI (F : Int), jO tl] 0 0 w _
      refine jWp.blk mt 1 ?_
      show jWp 80 27 [some (jO t), some (jI c)] [jI c, jI (F : Int), jO tl] 0 0 w _
      refine jWp.iast (pc' := 28) (j := F) mt rfl rfl (jtg hkl) (b32_id (by omega) (by omega)) (jlt hkl (by omega)) ?_
      show jWp 80 28 [some (jO t), some (jI c)] [] 0 0 (jW w tl F c) _
      refine jWp.blk mt 2 ?_
      show _ ∧ _ ∧ jWp 80 30 [some (jO t), some (jI c)] [jO t, jO t] 0 0 (jW w tl F c) _
      refine ⟨rfl, rfl, ?_⟩
      refine jWp.getI (pc' := 33) mt rfl rfl (jtg hk8) ?_
      rw [show ((jW w tl F c).1 t 0) = (F : Int) from (((jW_a (by omega)).trans rfl).trans hF)]
      show jWp 80 33 [some (jO t), some (jI c)] [jI (F : Int), jO t] 0 0 (jW w tl F c) _
      refine jWp.blk mt 2 ?_
      show jWp 80 35 [some (jO t), some (jI c)] [jI ((F : Int) + 1), jO t] 0 0 (jW w tl F c) _
      refine jWp.putI (pc' := 38) mt rfl rfl (jtg hk8) ?_
      show jWp 80 38 [some (jO t), some (jI c)] [] 0 0 (jW (jW w tl F c) t 0 ((F : Int) + 1)) _
      refine jWp.blk mt 1 ?_
      show jWp 80 39 [some (jO t), some (jI c)] [jI 1] 0 0 (jW (jW w tl F c) t 0 ((F : Int) + 1)) _
      refine jWp.iretz mt rfl ⟨rfl, rfl⟩ rfl (Or.inr rfl) ?_
      exact ⟨fun g => ⟨rfl, rfl⟩, fun g => by exfalso; omega⟩
    · have h2 : 72 ≤ (F : Int) := h2
      refine jWp.blk mt 1 ?_
      show jWp 80 17 [some (jO t), some (jI c)] [jI 0] 0 0 w _
      refine jWp.iretz mt rfl ⟨rfl, rfl⟩ rfl (Or.inl rfl) ?_
      exact ⟨fun g => by exfalso; omega, fun g => ⟨rfl, rfl⟩⟩
