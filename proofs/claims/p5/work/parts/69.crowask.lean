set_option maxHeartbeats 4000000 in
set_option maxRecDepth 20000 in
theorem C_reaches {w : jS} {r rt len : Nat} (hkr : w.2.1 r = (4, 0)) (hkt : w.2.1 rt = (100, 60)) (hrt : w.2.2.1 r 6 = some rt) (hlen : w.1 r 2 = (len : Int)) (hl60 : len ≤ 60) (hgb : ∀ j, j < len → -100000000 ≤ w.1 rt j ∧ w.1 rt j ≤ 100000000) {n : Int} (hrn : r32 n) : jCall 22 [jO r, jI n] w (jvb (0 ≤ n ∧ n < (len : Int)) w) := by
  have mt : jtb 22 = jT22 := rfl
  have hrn1 : -2147483648 ≤ n ∧ n < 2147483648 := hrn
  show jWp 22 0 [some (jO r), some (jI n)] [] 0 0 w _
  refine jWp.blk mt 1 ?_
  show jWp 22 1 [some (jO r), some (jI n)] [jI n] 0 0 w _
  refine jWp.ifz (pc' := 4) mt rfl rfl (b32_id (by omega) (by omega)) (fun h1 => ?_) (fun h1 => ?_)
  · have h1 : n < 0 := h1
    refine jWp.blk mt 1 ?_
    show jWp 22 23 [some (jO r), some (jI n)] [jI 0] 0 0 w _
    refine jWp.iretz mt rfl ⟨rfl, rfl⟩ rfl (Or.inl rfl) ?_
    exact Or.inr ⟨rfl, rfl, by omega⟩
  · have h1 : 0 ≤ n := h1
    refine jWp.blk mt 2 ?_
    show _ ∧ jWp 22 6 [some (jO r), some (jI n)] [jO r, jI n] 0 0 w _
    refine ⟨rfl, ?_⟩
    refine jWp.getI (pc' := 9) mt rfl rfl (jtg hkr) ?_
    rw [show (w.1 r 2) = (len : Int) from hlen]
    show jWp 22 9 [some (jO r), some (jI n)] [jI (len : Int), jI n] 0 0 w _
    refine jWp.icmp (pc' := 12) mt rfl rfl (b32_id (by omega) (by omega)) (b32_id (by omega) (by omega)) (fun h2 => ?_) (fun h2 => ?_)
    · have h2 : (len : Int) ≤ n := h2
      refine jWp.blk mt 1 ?_
      show jWp 22 23 [some (jO r), some (jI n)] [jI 0] 0 0 w _
      refine jWp.iretz mt rfl ⟨rfl, rfl⟩ rfl (Or.inl rfl) ?_
      exact Or.inr ⟨rfl, rfl, by omega⟩
    · have h2 : n < (len : Int) := h2
      refine jWp.blk mt 2 ?_
      show jWp 22 15 [some (jO r), some (jI n)] [jI 60, jI n] 0 0 w _
      refine jWp.icmp (pc' := 18) mt rfl rfl (b32_id (by omega) (by omega)) (show b32 60 = 60 by decide) (fun h3 => ?_) (fun h3 => ?_)
      · have h3 : 60 ≤ n := h3
        refine jWp.blk mt 1 ?_
        show jWp 22 23 [some (jO r), some (jI n)] [jI 0] 0 0 w _
        refine jWp.iretz mt rfl ⟨rfl, rfl⟩ rfl (Or.inl rfl) ?_
        exact Or.inr ⟨rfl, rfl, by omega⟩
      · have h3 : n < 60 := h3
        refine jWp.blk mt 2 ?_
        show jWp 22 23 [some (jO r), some (jI n)] [jI 1] 0 0 w _
        refine jWp.iretz mt rfl ⟨rfl, rfl⟩ rfl (Or.inr rfl) ?_
        exact Or.inl ⟨rfl, rfl, by omega⟩
def zta (t : Nat → Int) (len n : Nat) : Int := if n < len then t n else 0
theorem zta_t {t : Nat → Int} {len n : Nat} (h : n < len) : zta t len n = t n := if_pos h
theorem zta_f {t : Nat → Int} {len n : Nat} (h : ¬ n < len) : zta t len n = 0 := if_neg h
theorem zta_b {t : Nat → Int} {len n : Nat} (h : ∀ j, j < len → -100000000 ≤ t j ∧ t j ≤ 100000000) : -100000000 ≤ zta t len n ∧ zta t len n ≤ 100000000 := by
  unfold zta
  split
  · exact h _ (by assumption)
  · decide
set_option maxHeartbeats 4000000 in
set_option maxRecDepth 20000 in
theorem C_termAt {w : jS} {r rt len : Nat} (hkr : w.2.1 r = (4, 0)) (hkt : w.2.1 rt = (100, 60)) (hrt : w.2.2.1 r 6 = some rt) (hlen : w.1 r 2 = (len : Int)) (hl60 : len ≤ 60) (hgb : ∀ j, j < len → -100000000 ≤ w.1 rt j ∧ w.1 rt j ≤ 100000000) {n : Nat} (hn : n < 2147483648) : jCall 23 [jO r, jI (n : Int)] w (jvi (zta (w.1 rt) len n) w) := by
  have mt : jtb 23 = jT23 := rfl
  show jWp 23 0 [some (jO r), some (jI (n : Int))] [] 0 0 w _
  refine jWp.blk mt 2 ?_
  show _ ∧ jWp 23 2 [some (jO r), some (jI (n : Int))] [jI (n : Int), jO r] 0 0 w _
  refine ⟨rfl, ?_⟩
  refine jWp.callv (as := [jO r, jI (n : Int)]) (rest := []) mt rfl rfl rfl ⟨rfl, jtg hkr⟩ ?_
  refine jCall.mono (C_reaches (w := w) (r := r) (rt := rt) (len := len) hkr hkt hrt hlen hl60 hgb (n := (n : Int)) (by constructor <;> omega)) (fun v9 w9 h9 => ?_)
  rcases h9 with ⟨rfl, h9, h1⟩ | ⟨rfl, h9, h1⟩ <;> subst w9
  · have h1 : 0 ≤ (n : Int) ∧ (n : Int) < (len : Int) := h1
    show jWp 23 5 [some (jO r), some (jI (n : Int))] [jI 1] 0 0 w _
    refine jWp.ifc (b := false) mt rfl (by decide) rfl ?_
    show jWp 23 8 [some (jO r), some (jI (n : Int))] [] 0 0 w _
    refine jWp.blk mt 1 ?_
    show _ ∧ jWp 23 9 [some (jO r), some (jI (n : Int))] [jO r] 0 0 w _
    refine ⟨rfl, ?_⟩
    refine jWp.getR (pc' := 12) (o := rt) mt rfl rfl (jtg hkr) hrt ?_
    show jWp 23 12 [some (jO r), some (jI (n : Int))] [jO rt] 0 0 w _
    refine jWp.blk mt 1 ?_
    show jWp 23 13 [some (jO r), some (jI (n : Int))] [jI (n : Int), jO rt] 0 0 w _
    refine jWp.iald (pc' := 14) (j := n) mt rfl rfl (jird_of hkt) (b32_id (by omega) (by omega)) (jlt hkt (by omega)) ?_
    show jWp 23 14 [some (jO r), some (jI (n : Int))] [jI (w.1 rt n)] 0 0 w _
    refine jWp.blk mt 1 ?_
    show jWp 23 18 [some (jO r), some (jI (n : Int))] [jI (w.1 rt n)] 0 0 w _
    refine jWp.ireti mt rfl ⟨rfl, rfl⟩ rfl ?_
    exact ⟨by rw [zta_t (by omega)], rfl⟩
  · have h1 : ¬ (0 ≤ (n : Int) ∧ (n : Int) < (len : Int)) := h1
    show jWp 23 5 [some (jO r), some (jI (n : Int))] [jI 0] 0 0 w _
    refine jWp.ifc (b := true) mt rfl (by decide) rfl ?_
    show jWp 23 17 [some (jO r), some (jI (n : Int))] [] 0 0 w _
    refine jWp.blk mt 1 ?_
    show jWp 23 18 [some (jO r), some (jI (n : Int))] [jI 0] 0 0 w _
    refine jWp.ireti mt rfl ⟨rfl, rfl⟩ rfl ?_
    exact ⟨by rw [zta_f (by omega)], rfl⟩
set_option maxHeartbeats 4000000 in
set_option maxRecDepth 20000 in
theorem C_firstBelow {w : jS} {r rt len : Nat} (hkr : w.2.1 r = (4, 0)) (hkt : w.2.1 rt = (100, 60)) (hrt : w.2.2.1 r 6 = some rt) (hlen : w.1 r 2 = (len : Int)) (hl60 : len ≤ 60) (hgb : ∀ j, j < len → -100000000 ≤ w.1 rt j ∧ w.1 rt j ≤ 100000000) : jCall 24 [jO r] w (jvi (zff (fun k => w.1 rt k < 1) len 0) w) := by
  have mt : jtb 24 = jT24 := rfl
  show jWp 24 0 [some (jO r), none] [] 0 0 w _
  refine jWp.blk mt 2 ?_
  show jWp 24 2 [some (jO r), some (jI 0)] [] 0 0 w _
  have lp1 : ∀ (N : Nat) (k : Nat) (hk : k ≤ len) (hr : zff (fun k => w.1 rt k < 1) (len - k) k = zff (fun k => w.1 rt k < 1) (len) 0), len - k < N → jWp 24 2 [some (jO r), some (jI (k : Int))] [] 0 0 w (jvi (zff (fun k => w.1 rt k < 1) len 0) w) := by
    intro N
    induction N with
    | zero => intro k hk hr hm; omega
    | succ N ih2 =>
      intro k hk hr hm
      have hf : k < len → _ := fun h => hgb k h
      refine jWp.blk mt 2 ?_
      show _ ∧ jWp 24 4 [some (jO r), some (jI (k : Int))] [jO r, jI (k : Int)] 0 0 w _
      refine ⟨rfl, ?_⟩
      refine jWp.getI (pc' := 7) mt rfl rfl (jtg hkr) ?_
      rw [show (w.1 r 2) = (len : Int) from hlen]
      show jWp 24 7 [some (jO r), some (jI (k : Int))] [jI (len : Int), jI (k : Int)] 0 0 w _
      refine jWp.icmp (pc' := 10) mt rfl rfl (b32_id (by omega) (by omega)) (b32_id (by omega) (by omega)) (fun h3 => ?_) (fun h3 => ?_)
      · have h3 : (len : Int) ≤ (k : Int) := h3
        refine jWp.blk mt 1 ?_
        show jWp 24 29 [some (jO r), some (jI (k : Int))] [jI (-9)] 0 0 w _
        refine jWp.ireti mt rfl ⟨rfl, rfl⟩ rfl ?_
        refine ⟨?_, rfl⟩
        rw [← hr, show len - k = 0 by omega]; rfl
      · have h3 : (k : Int) < (len : Int) := h3
        refine jWp.blk mt 2 ?_
        show _ ∧ jWp 24 12 [some (jO r), some (jI (k : Int))] [jI (k : Int), jO r] 0 0 w _
        refine ⟨rfl, ?_⟩
        refine jWp.callv (as := [jO r, jI (k : Int)]) (rest := []) mt rfl rfl rfl ⟨rfl, jtg hkr⟩ ?_
        refine jCall.mono (C_termAt (w := w) (r := r) (rt := rt) (len := len) hkr hkt hrt hlen hl60 hgb (n := k) (by omega)) (fun v9 w9 h9 => ?_)
        obtain ⟨rfl, h9⟩ := h9
        subst w9
        show jWp 24 15 [some (jO r), some (jI (k : Int))] [jI (zta (w.1 rt) len k)] 0 0 w _
        have := zta_b (n := k) hgb
        have : k < len → (zta (w.1 rt) len k) = w.1 rt k := fun h => zta_t h
        have : ¬ k < len → (zta (w.1 rt) len k) = 0 := fun h => zta_f h
        refine jWp.blk mt 1 ?_
        show jWp 24 16 [some (jO r), some (jI (k : Int))] [jI 1, jI (zta (w.1 rt) len k)] 0 0 w _
        refine jWp.icmp (pc' := 19) mt rfl rfl (b32_id (by omega) (by omega)) (show b32 1 = 1 by decide) (fun h4 => ?_) (fun h4 => ?_)
        · have h4 : 1 ≤ (zta (w.1 rt) len k) := h4
          refine jWp.blk mt 2 ?_
          show jWp 24 2 [some (jO r), some (jI ((k : Int) + 1))] [] 0 0 w _
          refine jWp.le (l := [some (jO r), some (jI ((k : Int) + 1))]) (by exact ⟨rfl, rfl, trivial⟩) ?_
          exact ih2 (k + 1) (by omega) (by rw [← hr, show len - k = (len - (k + 1)) + 1 by omega, zff_f (by omega)]) (by omega)
        · have h4 : (zta (w.1 rt) len k) < 1 := h4
          refine jWp.blk mt 1 ?_
          show jWp 24 20 [some (jO r), some (jI (k : Int))] [jI (k : Int)] 0 0 w _
          refine jWp.ireti mt rfl ⟨rfl, rfl⟩ rfl ?_
          refine ⟨?_, rfl⟩
          rw [← hr, show len - k = (len - (k + 1)) + 1 by omega, zff_t (by omega)]
  refine jWp.le (l := [some (jO r), some (jI 0)]) (by exact ⟨rfl, rfl, trivial⟩) ?_
  exact lp1 _ 0 (by omega) (by rw [Nat.sub_zero]) (Nat.lt_succ_self _)
set_option maxHeartbeats 4000000 in
set_option maxRecDepth 20000 in
theorem C_firstCommon {w : jS} {r rt len : Nat} (hkr : w.2.1 r = (4, 0)) (hkt : w.2.1 rt = (100, 60)) (hrt : w.2.2.1 r 6 = some rt) (hlen : w.1 r 2 = (len : Int)) (hl60 : len ≤ 60) (hgb : ∀ j, j < len → -100000000 ≤ w.1 rt j ∧ w.1 rt j ≤ 100000000) (hl2 : 2 ≤ len) : jCall 25 [jO r] w (jvi (zff (fun k => zg (w.1 rt k) (w.1 rt (k + 1)) ≠ 1) (len - 1) 0) w) := by
  have mt : jtb 25 = jT25 := rfl
  show jWp 25 0 [some (jO r), none] [] 0 0 w _
  refine jWp.blk mt 2 ?_
  show jWp 25 2 [some (jO r), some (jI 0)] [] 0 0 w _
  have lp1 : ∀ (N : Nat) (k : Nat) (hk : k ≤ (len - 1)) (hr : zff (fun k => zg (w.1 rt k) (w.1 rt (k + 1)) ≠ 1) ((len - 1) - k) k = zff (fun k => zg (w.1 rt k) (w.1 rt (k + 1)) ≠ 1) ((len - 1)) 0), (len - 1) - k < N → jWp 25 2 [some (jO r), some (jI (k : Int))] [] 0 0 w (jvi (zff (fun k => zg (w.1 rt k) (w.1 rt (k + 1)) ≠ 1) (len - 1) 0) w) := by
    intro N
    induction N with
    | zero => intro k hk hr hm; omega
    | succ N ih2 =>
      intro k hk hr hm
      have hf : k < len → _ := fun h => hgb k h
      refine jWp.blk mt 4 ?_
      show _ ∧ jWp 25 6 [some (jO r), some (jI (k : Int))] [jO r, jI ((k : Int) + 1)] 0 0 w _
      refine ⟨rfl, ?_⟩
      refine jWp.getI (pc' := 9) mt rfl rfl (jtg hkr) ?_
      rw [show (w.1 r 2) = (len : Int) from hlen]
      show jWp 25 9 [some (jO r), some (jI (k : Int))] [jI (len : Int), jI ((k : Int) + 1)] 0 0 w _
      refine jWp.icmp (pc' := 12) mt rfl rfl (b32_id (by omega) (by omega)) (b32_id (by omega) (by omega)) (fun h3 => ?_) (fun h3 => ?_)
      · have h3 : (len : Int) ≤ ((k : Int) + 1) := h3
        refine jWp.blk mt 1 ?_
        show jWp 25 44 [some (jO r), some (jI (k : Int))] [jI (-9)] 0 0 w _
        refine jWp.ireti mt rfl ⟨rfl, rfl⟩ rfl ?_
        refine ⟨?_, rfl⟩
        rw [← hr, show (len - 1) - k = 0 by omega]; rfl
      · have h3 : ((k : Int) + 1) < (len : Int) := h3
        refine jWp.blk mt 2 ?_
        show _ ∧ jWp 25 14 [some (jO r), some (jI (k : Int))] [jI (k : Int), jO r] 0 0 w _
        refine ⟨rfl, ?_⟩
        refine jWp.callv (as := [jO r, jI (k : Int)]) (rest := []) mt rfl rfl rfl ⟨rfl, jtg hkr⟩ ?_
        refine jCall.mono (C_termAt (w := w) (r := r) (rt := rt) (len := len) hkr hkt hrt hlen hl60 hgb (n := k) (by omega)) (fun v9 w9 h9 => ?_)
        obtain ⟨rfl, h9⟩ := h9
        subst w9
        show jWp 25 17 [some (jO r), some (jI (k : Int))] [jI (zta (w.1 rt) len k)] 0 0 w _
        have := zta_b (n := k) hgb
        have : k < len → (zta (w.1 rt) len k) = w.1 rt k := fun h => zta_t h
        have : ¬ k < len → (zta (w.1 rt) len k) = 0 := fun h => zta_f h
        refine jWp.i2l (pc' := 18) mt rfl rfl (b32_id (by omega) (by omega)) ?_
        show jWp 25 18 [some (jO r), some (jI (k : Int))] [jJ (zta (w.1 rt) len k)] 0 0 w _
        refine jWp.blk mt 4 ?_
        show _ ∧ jWp 25 22 [some (jO r), some (jI (k : Int))] [jI ((k : Int) + 1), jO r, jJ (zta (w.1 rt) len k)] 0 0 w _
        refine ⟨rfl, ?_⟩
        refine jWp.callv (as := [jO r, jI ((k : Int) + 1)]) (rest := [jJ (zta (w.1 rt) len k)]) mt rfl rfl rfl ⟨rfl, jtg hkr⟩ ?_
        refine jCall.mono (C_termAt (w := w) (r := r) (rt := rt) (len := len) hkr hkt hrt hlen hl60 hgb (n := (k + 1)) (by omega)) (fun v9 w9 h9 => ?_)
        obtain ⟨rfl, h9⟩ := h9
        subst w9
        show jWp 25 25 [some (jO r), some (jI (k : Int))] [jI (zta (w.1 rt) len (k + 1)), jJ (zta (w.1 rt) len k)] 0 0 w _
        have := zta_b (n := (k + 1)) hgb
        have : (k + 1) < len → (zta (w.1 rt) len (k + 1)) = w.1 rt (k + 1) := fun h => zta_t h
        have : ¬ (k + 1) < len → (zta (w.1 rt) len (k + 1)) = 0 := fun h => zta_f h
        refine jWp.i2l (pc' := 26) mt rfl rfl (b32_id (by omega) (by omega)) ?_
        show jWp 25 26 [some (jO r), some (jI (k : Int))] [jJ (zta (w.1 rt) len (k + 1)), jJ (zta (w.1 rt) len k)] 0 0 w _
        refine jWp.calls (as := [jJ (zta (w.1 rt) len k), jJ (zta (w.1 rt) len (k + 1))]) (rest := []) mt rfl rfl rfl rfl ?_
        refine jCall.mono (E_gcd (by omega) (by omega)) (fun v9 w9 h9 => ?_)
        obtain ⟨rfl, h9⟩ := h9
        subst w9
        show jWp 25 29 [some (jO r), some (jI (k : Int))] [jJ (zg (zta (w.1 rt) len k) (zta (w.1 rt) len (k + 1)))] 0 0 w _
        have hgr := zg_r (a := (zta (w.1 rt) len k)) (b := (zta (w.1 rt) len (k + 1))) (by omega) (by omega)
        have hge : zg (zta (w.1 rt) len k) (zta (w.1 rt) len (k + 1)) = zg (w.1 rt k) (w.1 rt (k + 1)) := by rw [zta_t (by omega), zta_t (by omega)]
        refine jWp.blk mt 1 ?_
        show jWp 25 30 [some (jO r), some (jI (k : Int))] [jJ 1, jJ (zg (zta (w.1 rt) len k) (zta (w.1 rt) len (k + 1)))] 0 0 w _
        refine jWp.lcmp (pc' := 34) mt rfl rfl rfl (b64_id (by omega) (by omega)) (show b64 1 = 1 by decide) (fun h4 => ?_) (fun h4 => ?_)
        · have h4 : (zg (zta (w.1 rt) len k) (zta (w.1 rt) len (k + 1))) = 1 := h4
          refine jWp.blk mt 2 ?_
          show jWp 25 2 [some (jO r), some (jI ((k : Int) + 1))] [] 0 0 w _
          refine jWp.le (l := [some (jO r), some (jI ((k : Int) + 1))]) (by exact ⟨rfl, rfl, trivial⟩) ?_
          exact ih2 (k + 1) (by omega) (by rw [← hr, show (len - 1) - k = ((len - 1) - (k + 1)) + 1 by omega, zff_f (by omega)]) (by omega)
        · have h4 : (zg (zta (w.1 rt) len k) (zta (w.1 rt) len (k + 1))) ≠ 1 := h4
          refine jWp.blk mt 1 ?_
          show jWp 25 35 [some (jO r), some (jI (k : Int))] [jI (k : Int)] 0 0 w _
          refine jWp.ireti mt rfl ⟨rfl, rfl⟩ rfl ?_
          refine ⟨?_, rfl⟩
          rw [← hr, show (len - 1) - k = ((len - 1) - (k + 1)) + 1 by omega, zff_t (fun g => by omega)]
  refine jWp.le (l := [some (jO r), some (jI 0)]) (by exact ⟨rfl, rfl, trivial⟩) ?_
  exact lp1 _ 0 (by omega) (by rw [Nat.sub_zero]) (Nat.lt_succ_self _)
set_option maxHeartbeats 4000000 in
set_option maxRecDepth 20000 in
theorem C_firstMultiple {w : jS} {r rt len : Nat} (hkr : w.2.1 r = (4, 0)) (hkt : w.2.1 rt = (100, 60)) (hrt : w.2.2.1 r 6 = some rt) (hlen : w.1 r 2 = (len : Int)) (hl60 : len ≤ 60) (hgb : ∀ j, j < len → -100000000 ≤ w.1 rt j ∧ w.1 rt j ≤ 100000000) {d : Int} (hd : 2 ≤ d ∧ d ≤ 9999) : jCall 26 [jO r, jI d] w (jvi (zff (fun k => Int.tmod (w.1 rt k) d = 0) len 0) w) := by
  have mt : jtb 26 = jT26 := rfl
  show jWp 26 0 [some (jO r), some (jI d), none] [] 0 0 w _
  refine jWp.blk mt 2 ?_
  show jWp 26 2 [some (jO r), some (jI d), some (jI 0)] [] 0 0 w _
  have lp1 : ∀ (N : Nat) (k : Nat) (hk : k ≤ len) (hr : zff (fun k => Int.tmod (w.1 rt k) d = 0) (len - k) k = zff (fun k => Int.tmod (w.1 rt k) d = 0) (len) 0), len - k < N → jWp 26 2 [some (jO r), some (jI d), some (jI (k : Int))] [] 0 0 w (jvi (zff (fun k => Int.tmod (w.1 rt k) d = 0) len 0) w) := by
    intro N
    induction N with
    | zero => intro k hk hr hm; omega
    | succ N ih2 =>
      intro k hk hr hm
      have hf : k < len → _ := fun h => hgb k h
      have hmo := zmodA (x := zta (w.1 rt) len k) hd
      have hme : k < len → Int.tmod (zta (w.1 rt) len k) d = Int.tmod (w.1 rt k) d := fun h => by rw [zta_t h]
      refine jWp.blk mt 2 ?_
      show _ ∧ jWp 26 4 [some (jO r), some (jI d), some (jI (k : Int))] [jO r, jI (k : Int)] 0 0 w _
      refine ⟨rfl, ?_⟩
      refine jWp.getI (pc' := 7) mt rfl rfl (jtg hkr) ?_
      rw [show (w.1 r 2) = (len : Int) from hlen]
      show jWp 26 7 [some (jO r), some (jI d), some (jI (k : Int))] [jI (len : Int), jI (k : Int)] 0 0 w _
      refine jWp.icmp (pc' := 10) mt rfl rfl (b32_id (by omega) (by omega)) (b32_id (by omega) (by omega)) (fun h3 => ?_) (fun h3 => ?_)
      · have h3 : (len : Int) ≤ (k : Int) := h3
        refine jWp.blk mt 1 ?_
        show jWp 26 34 [some (jO r), some (jI d), some (jI (k : Int))] [jI (-9)] 0 0 w _
        refine jWp.ireti mt rfl ⟨rfl, rfl⟩ rfl ?_
        refine ⟨?_, rfl⟩
        rw [← hr, show len - k = 0 by omega]; rfl
      · have h3 : (k : Int) < (len : Int) := h3
        refine jWp.blk mt 1 ?_
        show jWp 26 11 [some (jO r), some (jI d), some (jI (k : Int))] [jI d] 0 0 w _
        refine jWp.ifz (pc' := 14) mt rfl rfl (b32_id (by omega) (by omega)) (fun h4 => ?_) (fun h4 => ?_)
        · have h4 : d = 0 := h4
          exfalso; omega
        · have h4 : d ≠ 0 := h4
          refine jWp.blk mt 2 ?_
          show _ ∧ jWp 26 16 [some (jO r), some (jI d), some (jI (k : Int))] [jI (k : Int), jO r] 0 0 w _
          refine ⟨rfl, ?_⟩
          refine jWp.callv (as := [jO r, jI (k : Int)]) (rest := []) mt rfl rfl rfl ⟨rfl, jtg hkr⟩ ?_
          refine jCall.mono (C_termAt (w := w) (r := r) (rt := rt) (len := len) hkr hkt hrt hlen hl60 hgb (n := k) (by omega)) (fun v9 w9 h9 => ?_)
          obtain ⟨rfl, h9⟩ := h9
          subst w9
          show jWp 26 19 [some (jO r), some (jI d), some (jI (k : Int))] [jI (zta (w.1 rt) len k)] 0 0 w _
          have := zta_b (n := k) hgb
          have : k < len → (zta (w.1 rt) len k) = w.1 rt k := fun h => zta_t h
          have : ¬ k < len → (zta (w.1 rt) len k) = 0 := fun h => zta_f h
          refine jWp.blk mt 1 ?_
          show jWp 26 20 [some (jO r), some (jI d), some (jI (k : Int))] [jI d, jI (zta (w.1 rt) len k)] 0 0 w _
          refine jWp.irem (pc' := 21) mt rfl rfl (b32_id (by omega) (by omega)) (b32_id (by omega) (by omega)) (by omega) ?_
          show jWp 26 21 [some (jO r), some (jI d), some (jI (k : Int))] [jI (Int.tmod (zta (w.1 rt) len k) d)] 0 0 w _
          refine jWp.ifz (pc' := 24) mt rfl rfl (b32_id (by omega) (by omega)) (fun h5 => ?_) (fun h5 => ?_)
          · have h5 : (Int.tmod (zta (w.1 rt) len k) d) ≠ 0 := h5
            refine jWp.blk mt 2 ?_
            show jWp 26 2 [some (jO r), some (jI d), some (jI ((k : Int) + 1))] [] 0 0 w _
            refine jWp.le (l := [some (jO r), some (jI d), some (jI ((k : Int) + 1))]) (by exact ⟨rfl, rfl, rfl, trivial⟩) ?_
            exact ih2 (k + 1) (by omega) (by rw [← hr, show len - k = (len - (k + 1)) + 1 by omega, zff_f (by omega)]) (by omega)
          · have h5 : (Int.tmod (zta (w.1 rt) len k) d) = 0 := h5
            refine jWp.blk mt 1 ?_
            show jWp 26 25 [some (jO r), some (jI d), some (jI (k : Int))] [jI (k : Int)] 0 0 w _
            refine jWp.ireti mt rfl ⟨rfl, rfl⟩ rfl ?_
            refine ⟨?_, rfl⟩
            rw [← hr, show len - k = (len - (k + 1)) + 1 by omega, zff_t (by omega)]
  refine jWp.le (l := [some (jO r), some (jI d), some (jI 0)]) (by exact ⟨rfl, rfl, rfl, trivial⟩) ?_
  exact lp1 _ 0 (by omega) (by rw [Nat.sub_zero]) (Nat.lt_succ_self _)
set_option maxHeartbeats 4000000 in
set_option maxRecDepth 20000 in
theorem C_firstUnlike {w : jS} {r rt len : Nat} (hkr : w.2.1 r = (4, 0)) (hkt : w.2.1 rt = (100, 60)) (hrt : w.2.2.1 r 6 = some rt) (hlen : w.1 r 2 = (len : Int)) (hl60 : len ≤ 60) (hgb : ∀ j, j < len → -100000000 ≤ w.1 rt j ∧ w.1 rt j ≤ 100000000) {r2 rt2 len2 : Nat} (hkr2 : w.2.1 r2 = (4, 0)) (hkt2 : w.2.1 rt2 = (100, 60)) (hrt2 : w.2.2.1 r2 6 = some rt2) (hlen2 : w.1 r2 2 = (len2 : Int)) (hl602 : len2 ≤ 60) (hgb2 : ∀ j, j < len2 → -100000000 ≤ w.1 rt2 j ∧ w.1 rt2 j ≤ 100000000) : jCall 27 [jO r, jO r2] w (jvi (zff (fun k => ¬ (k < len ↔ k < len2) ∨ (k < len ∧ w.1 rt k ≠ w.1 rt2 k)) 60 0) w) := by
  have mt : jtb 27 = jT27 := rfl
  show jWp 27 0 [some (jO r), some (jO r2), none] [] 0 0 w _
  refine jWp.blk mt 2 ?_
  show jWp 27 2 [some (jO r), some (jO r2), some (jI 0)] [] 0 0 w _
  have lp1 : ∀ (N : Nat) (k : Nat) (hk : k ≤ 60) (hr : zff (fun k => ¬ (k < len ↔ k < len2) ∨ (k < len ∧ w.1 rt k ≠ w.1 rt2 k)) (60 - k) k = zff (fun k => ¬ (k < len ↔ k < len2) ∨ (k < len ∧ w.1 rt k ≠ w.1 rt2 k)) (60) 0), 60 - k < N → jWp 27 2 [some (jO r), some (jO r2), some (jI (k : Int))] [] 0 0 w (jvi (zff (fun k => ¬ (k < len ↔ k < len2) ∨ (k < len ∧ w.1 rt k ≠ w.1 rt2 k)) 60 0) w) := by
    intro N
    induction N with
    | zero => intro k hk hr hm; omega
    | succ N ih2 =>
      intro k hk hr hm
      have hf : k < len → _ := fun h => hgb k h
      refine jWp.blk mt 2 ?_
      show jWp 27 5 [some (jO r), some (jO r2), some (jI (k : Int))] [jI 60, jI (k : Int)] 0 0 w _
      refine jWp.icmp (pc' := 8) mt rfl rfl (b32_id (by omega) (by omega)) (show b32 60 = 60 by decide) (fun h3 => ?_) (fun h3 => ?_)
      · have h3 : 60 ≤ (k : Int) := h3
        refine jWp.blk mt 1 ?_
        show jWp 27 44 [some (jO r), some (jO r2), some (jI (k : Int))] [jI (-9)] 0 0 w _
        refine jWp.ireti mt rfl ⟨rfl, rfl⟩ rfl ?_
        refine ⟨?_, rfl⟩
        rw [← hr, show 60 - k = 0 by omega]; rfl
      · have h3 : (k : Int) < 60 := h3
        refine jWp.blk mt 2 ?_
        show _ ∧ jWp 27 10 [some (jO r), some (jO r2), some (jI (k : Int))] [jI (k : Int), jO r] 0 0 w _
        refine ⟨rfl, ?_⟩
        refine jWp.callv (as := [jO r, jI (k : Int)]) (rest := []) mt rfl rfl rfl ⟨rfl, jtg hkr⟩ ?_
        refine jCall.mono (C_reaches (w := w) (r := r) (rt := rt) (len := len) hkr hkt hrt hlen hl60 hgb (n := (k : Int)) (by constructor <;> omega)) (fun v9 w9 h9 => ?_)
        rcases h9 with ⟨rfl, h9, h4⟩ | ⟨rfl, h9, h4⟩ <;> subst w9
        · have h4 : 0 ≤ (k : Int) ∧ (k : Int) < (len : Int) := h4
          show jWp 27 13 [some (jO r), some (jO r2), some (jI (k : Int))] [jI 1] 0 0 w _
          refine jWp.blk mt 2 ?_
          show _ ∧ jWp 27 15 [some (jO r), some (jO r2), some (jI (k : Int))] [jI (k : Int), jO r2, jI 1] 0 0 w _
          refine ⟨rfl, ?_⟩
          refine jWp.callv (as := [jO r2, jI (k : Int)]) (rest := [jI 1]) mt rfl rfl rfl ⟨rfl, jtg hkr2⟩ ?_
          refine jCall.mono (C_reaches (w := w) (r := r2) (rt := rt2) (len := len2) hkr2 hkt2 hrt2 hlen2 hl602 hgb2 (n := (k : Int)) (by constructor <;> omega)) (fun v9 w9 h9 => ?_)
          rcases h9 with ⟨rfl, h9, h5⟩ | ⟨rfl, h9, h5⟩ <;> subst w9
          · have h5 : 0 ≤ (k : Int) ∧ (k : Int) < (len2 : Int) := h5
            show jWp 27 18 [some (jO r), some (jO r2), some (jI (k : Int))] [jI 1, jI 1] 0 0 w _
            refine jWp.icmp (pc' := 21) mt rfl rfl (show b32 1 = 1 by decide) (show b32 1 = 1 by decide) (fun h6 => ?_) (fun h6 => ?_)
            · exact absurd (show (1 : Int) ≠ 1 from h6) (by decide)
            · have h6 := h6
              refine jWp.blk mt 2 ?_
              show _ ∧ jWp 27 23 [some (jO r), some (jO r2), some (jI (k : Int))] [jI (k : Int), jO r] 0 0 w _
              refine ⟨rfl, ?_⟩
              refine jWp.callv (as := [jO r, jI (k : Int)]) (rest := []) mt rfl rfl rfl ⟨rfl, jtg hkr⟩ ?_
              refine jCall.mono (C_termAt (w := w) (r := r) (rt := rt) (len := len) hkr hkt hrt hlen hl60 hgb (n := k) (by omega)) (fun v9 w9 h9 => ?_)
              obtain ⟨rfl, h9⟩ := h9
              subst w9
              show jWp 27 26 [some (jO r), some (jO r2), some (jI (k : Int))] [jI (zta (w.1 rt) len k)] 0 0 w _
              have := zta_b (n := k) hgb
              have : k < len → (zta (w.1 rt) len k) = w.1 rt k := fun h => zta_t h
              have : ¬ k < len → (zta (w.1 rt) len k) = 0 := fun h => zta_f h
              refine jWp.blk mt 2 ?_
              show _ ∧ jWp 27 28 [some (jO r), some (jO r2), some (jI (k : Int))] [jI (k : Int), jO r2, jI (zta (w.1 rt) len k)] 0 0 w _
              refine ⟨rfl, ?_⟩
              refine jWp.callv (as := [jO r2, jI (k : Int)]) (rest := [jI (zta (w.1 rt) len k)]) mt rfl rfl rfl ⟨rfl, jtg hkr2⟩ ?_
              refine jCall.mono (C_termAt (w := w) (r := r2) (rt := rt2) (len := len2) hkr2 hkt2 hrt2 hlen2 hl602 hgb2 (n := k) (by omega)) (fun v9 w9 h9 => ?_)
              obtain ⟨rfl, h9⟩ := h9
              subst w9
              show jWp 27 31 [some (jO r), some (jO r2), some (jI (k : Int))] [jI (zta (w.1 rt2) len2 k), jI (zta (w.1 rt) len k)] 0 0 w _
              have := zta_b (n := k) hgb2
              have : k < len2 → (zta (w.1 rt2) len2 k) = w.1 rt2 k := fun h => zta_t h
              have : ¬ k < len2 → (zta (w.1 rt2) len2 k) = 0 := fun h => zta_f h
              refine jWp.icmp (pc' := 34) mt rfl rfl (b32_id (by omega) (by omega)) (b32_id (by omega) (by omega)) (fun h7 => ?_) (fun h7 => ?_)
              · have h7 : (zta (w.1 rt) len k) = (zta (w.1 rt2) len2 k) := h7
                refine jWp.blk mt 2 ?_
                show jWp 27 2 [some (jO r), some (jO r2), some (jI ((k : Int) + 1))] [] 0 0 w _
                refine jWp.le (l := [some (jO r), some (jO r2), some (jI ((k : Int) + 1))]) (by exact ⟨rfl, rfl, rfl, trivial⟩) ?_
                exact ih2 (k + 1) (by omega) (by rw [← hr, show 60 - k = (60 - (k + 1)) + 1 by omega, zff_f (by omega)]) (by omega)
              · have h7 : (zta (w.1 rt) len k) ≠ (zta (w.1 rt2) len2 k) := h7
                refine jWp.blk mt 1 ?_
                show jWp 27 35 [some (jO r), some (jO r2), some (jI (k : Int))] [jI (k : Int)] 0 0 w _
                refine jWp.ireti mt rfl ⟨rfl, rfl⟩ rfl ?_
                refine ⟨?_, rfl⟩
                rw [← hr, show 60 - k = (60 - (k + 1)) + 1 by omega, zff_t (by omega)]
          · have h5 : ¬ (0 ≤ (k : Int) ∧ (k : Int) < (len2 : Int)) := h5
            show jWp 27 18 [some (jO r), some (jO r2), some (jI (k : Int))] [jI 0, jI 1] 0 0 w _
            refine jWp.icmp (pc' := 21) mt rfl rfl (show b32 1 = 1 by decide) (show b32 0 = 0 by decide) (fun h8 => ?_) (fun h8 => ?_)
            · have h8 := h8
              refine jWp.blk mt 1 ?_
              show jWp 27 35 [some (jO r), some (jO r2), some (jI (k : Int))] [jI (k : Int)] 0 0 w _
              refine jWp.ireti mt rfl ⟨rfl, rfl⟩ rfl ?_
              refine ⟨?_, rfl⟩
              rw [← hr, show 60 - k = (60 - (k + 1)) + 1 by omega, zff_t (by omega)]
            · exact absurd (show (1 : Int) = 0 from h8) (by decide)
        · have h4 : ¬ (0 ≤ (k : Int) ∧ (k : Int) < (len : Int)) := h4
          show jWp 27 13 [some (jO r), some (jO r2), some (jI (k : Int))] [jI 0] 0 0 w _
          refine jWp.blk mt 2 ?_
          show _ ∧ jWp 27 15 [some (jO r), some (jO r2), some (jI (k : Int))] [jI (k : Int), jO r2, jI 0] 0 0 w _
          refine ⟨rfl, ?_⟩
          refine jWp.callv (as := [jO r2, jI (k : Int)]) (rest := [jI 0]) mt rfl rfl rfl ⟨rfl, jtg hkr2⟩ ?_
          refine jCall.mono (C_reaches (w := w) (r := r2) (rt := rt2) (len := len2) hkr2 hkt2 hrt2 hlen2 hl602 hgb2 (n := (k : Int)) (by constructor <;> omega)) (fun v9 w9 h9 => ?_)
          rcases h9 with ⟨rfl, h9, h9⟩ | ⟨rfl, h9, h9⟩ <;> subst w9
          · have h9 : 0 ≤ (k : Int) ∧ (k : Int) < (len2 : Int) := h9
            show jWp 27 18 [some (jO r), some (jO r2), some (jI (k : Int))] [jI 1, jI 0] 0 0 w _
            refine jWp.icmp (pc' := 21) mt rfl rfl (show b32 0 = 0 by decide) (show b32 1 = 1 by decide) (fun h10 => ?_) (fun h10 => ?_)
            · have h10 := h10
              refine jWp.blk mt 1 ?_
              show jWp 27 35 [some (jO r), some (jO r2), some (jI (k : Int))] [jI (k : Int)] 0 0 w _
              refine jWp.ireti mt rfl ⟨rfl, rfl⟩ rfl ?_
              refine ⟨?_, rfl⟩
              rw [← hr, show 60 - k = (60 - (k + 1)) + 1 by omega, zff_t (by omega)]
            · exact absurd (show (0 : Int) = 1 from h10) (by decide)
          · have h9 : ¬ (0 ≤ (k : Int) ∧ (k : Int) < (len2 : Int)) := h9
            show jWp 27 18 [some (jO r), some (jO r2), some (jI (k : Int))] [jI 0, jI 0] 0 0 w _
            refine jWp.icmp (pc' := 21) mt rfl rfl (show b32 0 = 0 by decide) (show b32 0 = 0 by decide) (fun h11 => ?_) (fun h11 => ?_)
            · exact absurd (show (0 : Int) ≠ 0 from h11) (by decide)
            · have h11 := h11
              refine jWp.blk mt 2 ?_
              show _ ∧ jWp 27 23 [some (jO r), some (jO r2), some (jI (k : Int))] [jI (k : Int), jO r] 0 0 w _
              refine ⟨rfl, ?_⟩
              refine jWp.callv (as := [jO r, jI (k : Int)]) (rest := []) mt rfl rfl rfl ⟨rfl, jtg hkr⟩ ?_
              refine jCall.mono (C_termAt (w := w) (r := r) (rt := rt) (len := len) hkr hkt hrt hlen hl60 hgb (n := k) (by omega)) (fun v9 w9 h9 => ?_)
              obtain ⟨rfl, h9⟩ := h9
              subst w9
              show jWp 27 26 [some (jO r), some (jO r2), some (jI (k : Int))] [jI (zta (w.1 rt) len k)] 0 0 w _
              have := zta_b (n := k) hgb
              have : k < len → (zta (w.1 rt) len k) = w.1 rt k := fun h => zta_t h
              have : ¬ k < len → (zta (w.1 rt) len k) = 0 := fun h => zta_f h
              refine jWp.blk mt 2 ?_
              show _ ∧ jWp 27 28 [some (jO r), some (jO r2), some (jI (k : Int))] [jI (k : Int), jO r2, jI (zta (w.1 rt) len k)] 0 0 w _
              refine ⟨rfl, ?_⟩
              refine jWp.callv (as := [jO r2, jI (k : Int)]) (rest := [jI (zta (w.1 rt) len k)]) mt rfl rfl rfl ⟨rfl, jtg hkr2⟩ ?_
              refine jCall.mono (C_termAt (w := w) (r := r2) (rt := rt2) (len := len2) hkr2 hkt2 hrt2 hlen2 hl602 hgb2 (n := k) (by omega)) (fun v9 w9 h9 => ?_)
              obtain ⟨rfl, h9⟩ := h9
              subst w9
              show jWp 27 31 [some (jO r), some (jO r2), some (jI (k : Int))] [jI (zta (w.1 rt2) len2 k), jI (zta (w.1 rt) len k)] 0 0 w _
              have := zta_b (n := k) hgb2
              have : k < len2 → (zta (w.1 rt2) len2 k) = w.1 rt2 k := fun h => zta_t h
              have : ¬ k < len2 → (zta (w.1 rt2) len2 k) = 0 := fun h => zta_f h
              refine jWp.icmp (pc' := 34) mt rfl rfl (b32_id (by omega) (by omega)) (b32_id (by omega) (by omega)) (fun h12 => ?_) (fun h12 => ?_)
              · have h12 : (zta (w.1 rt) len k) = (zta (w.1 rt2) len2 k) := h12
                refine jWp.blk mt 2 ?_
                show jWp 27 2 [some (jO r), some (jO r2), some (jI ((k : Int) + 1))] [] 0 0 w _
                refine jWp.le (l := [some (jO r), some (jO r2), some (jI ((k : Int) + 1))]) (by exact ⟨rfl, rfl, rfl, trivial⟩) ?_
                exact ih2 (k + 1) (by omega) (by rw [← hr, show 60 - k = (60 - (k + 1)) + 1 by omega, zff_f (by omega)]) (by omega)
              · have h12 : (zta (w.1 rt) len k) ≠ (zta (w.1 rt2) len2 k) := h12
                refine jWp.blk mt 1 ?_
                show jWp 27 35 [some (jO r), some (jO r2), some (jI (k : Int))] [jI (k : Int)] 0 0 w _
                refine jWp.ireti mt rfl ⟨rfl, rfl⟩ rfl ?_
                refine ⟨?_, rfl⟩
                rw [← hr, show 60 - k = (60 - (k + 1)) + 1 by omega, zff_t (by omega)]
  refine jWp.le (l := [some (jO r), some (jO r2), some (jI 0)]) (by exact ⟨rfl, rfl, rfl, trivial⟩) ?_
  exact lp1 _ 0 (by omega) (by rw [Nat.sub_zero]) (Nat.lt_succ_self _)
set_option maxHeartbeats 4000000 in
set_option maxRecDepth 20000 in
theorem C_isPlain {w : jS} {r rt len : Nat} (hkr : w.2.1 r = (4, 0)) (hkt : w.2.1 rt = (100, 60)) (hrt : w.2.2.1 r 6 = some rt) (hlen : w.1 r 2 = (len : Int)) (hl60 : len ≤ 60) (hgb : ∀ j, j < len → -100000000 ≤ w.1 rt j ∧ w.1 rt j ≤ 100000000) {n q : Nat} (hn : n < 2147483648) (hq : 1 ≤ q ∧ q ≤ 4) : jCall 30 [jO r, jI (n : Int), jI (q : Int)] w (jvb (∀ k, n ≤ k → k < n + q → k < len ∧ 1 ≤ w.1 rt k ∧ w.1 rt k ≤ 9999) w) := by
  have mt : jtb 30 = jT30 := rfl
  show jWp 30 0 [some (jO r), some (jI (n : Int)), some (jI (q : Int)), none] [] 0 0 w _
  refine jWp.blk mt 1 ?_
  show jWp 30 1 [some (jO r), some (jI (n : Int)), some (jI (q : Int)), none] [jI (n : Int)] 0 0 w _
  refine jWp.ifz (pc' := 4) mt rfl rfl (b32_id (by omega) (by omega)) (fun h1 => ?_) (fun h1 => ?_)
  · have h1 : (n : Int) < 0 := h1
    refine jWp.blk mt 1 ?_
    show jWp 30 15 [some (jO r), some (jI (n : Int)), some (jI (q : Int)), none] [jI 0] 0 0 w _
    refine jWp.iretz mt rfl ⟨rfl, rfl⟩ rfl (Or.inl rfl) ?_
    first
    | exact Or.inr ⟨rfl, rfl, fun g => by have g := g k (by omega) (by omega); omega⟩
    | exact Or.inr ⟨rfl, rfl, fun g => by rcases Nat.eq_zero_or_pos q with e | e; omega; have g := g (n + (q - 1)) (by omega) (by omega); omega⟩
  · have h1 : 0 ≤ (n : Int) := h1
    refine jWp.blk mt 2 ?_
    show _ ∧ jWp 30 6 [some (jO r), some (jI (n : Int)), some (jI (q : Int)), none] [jO r, jI (n : Int)] 0 0 w _
    refine ⟨rfl, ?_⟩
    refine jWp.getI (pc' := 9) mt rfl rfl (jtg hkr) ?_
    rw [show (w.1 r 2) = (len : Int) from hlen]
    show jWp 30 9 [some (jO r), some (jI (n : Int)), some (jI (q : Int)), none] [jI (len : Int), jI (n : Int)] 0 0 w _
    refine jWp.blk mt 2 ?_
    show jWp 30 11 [some (jO r), some (jI (n : Int)), some (jI (q : Int)), none] [jI ((len : Int) - (q : Int)), jI (n : Int)] 0 0 w _
    refine jWp.icmp (pc' := 14) mt rfl rfl (b32_id (by omega) (by omega)) (b32_id (by omega) (by omega)) (fun h2 => ?_) (fun h2 => ?_)
    · have h2 : (n : Int) ≤ ((len : Int) - (q : Int)) := h2
      refine jWp.blk mt 2 ?_
      show jWp 30 18 [some (jO r), some (jI (n : Int)), some (jI (q : Int)), some (jI (n : Int))] [] 0 0 w _
      have lp3 : ∀ (N : Nat) (k : Nat) (hk : n ≤ k ∧ k ≤ n + q) (hA : ∀ x, n ≤ x → x < k → x < len ∧ 1 ≤ w.1 rt x ∧ w.1 rt x ≤ 9999), n + q - k < N → jWp 30 18 [some (jO r), some (jI (n : Int)), some (jI (q : Int)), some (jI (k : Int))] [] 0 0 w (jvb (∀ k, n ≤ k → k < n + q → k < len ∧ 1 ≤ w.1 rt k ∧ w.1 rt k ≤ 9999) w) := by
        intro N
        induction N with
        | zero => intro k hk hA hm; omega
        | succ N ih4 =>
          intro k hk hA hm
          have hf : k < len → _ := fun h => hgb k h
          refine jWp.blk mt 4 ?_
          show jWp 30 22 [some (jO r), some (jI (n : Int)), some (jI (q : Int)), some (jI (k : Int))] [jI ((n : Int) + (q : Int)), jI (k : Int)] 0 0 w _
          refine jWp.icmp (pc' := 25) mt rfl rfl (b32_id (by omega) (by omega)) (b32_id (by omega) (by omega)) (fun h5 => ?_) (fun h5 => ?_)
          · have h5 : ((n : Int) + (q : Int)) ≤ (k : Int) := h5
            refine jWp.blk mt 1 ?_
            show jWp 30 54 [some (jO r), some (jI (n : Int)), some (jI (q : Int)), some (jI (k : Int))] [jI 1] 0 0 w _
            refine jWp.iretz mt rfl ⟨rfl, rfl⟩ rfl (Or.inr rfl) ?_
            exact Or.inl ⟨rfl, rfl, fun x h1 h2 => hA x h1 (by omega)⟩
          · have h5 : (k : Int) < ((n : Int) + (q : Int)) := h5
            refine jWp.blk mt 2 ?_
            show _ ∧ jWp 30 27 [some (jO r), some (jI (n : Int)), some (jI (q : Int)), some (jI (k : Int))] [jI (k : Int), jO r] 0 0 w _
            refine ⟨rfl, ?_⟩
            refine jWp.callv (as := [jO r, jI (k : Int)]) (rest := []) mt rfl rfl rfl ⟨rfl, jtg hkr⟩ ?_
            refine jCall.mono (C_termAt (w := w) (r := r) (rt := rt) (len := len) hkr hkt hrt hlen hl60 hgb (n := k) (by omega)) (fun v9 w9 h9 => ?_)
            obtain ⟨rfl, h9⟩ := h9
            subst w9
            show jWp 30 30 [some (jO r), some (jI (n : Int)), some (jI (q : Int)), some (jI (k : Int))] [jI (zta (w.1 rt) len k)] 0 0 w _
            have := zta_b (n := k) hgb
            have : k < len → (zta (w.1 rt) len k) = w.1 rt k := fun h => zta_t h
            have : ¬ k < len → (zta (w.1 rt) len k) = 0 := fun h => zta_f h
            refine jWp.blk mt 1 ?_
            show jWp 30 31 [some (jO r), some (jI (n : Int)), some (jI (q : Int)), some (jI (k : Int))] [jI 1, jI (zta (w.1 rt) len k)] 0 0 w _
            refine jWp.icmp (pc' := 34) mt rfl rfl (b32_id (by omega) (by omega)) (show b32 1 = 1 by decide) (fun h6 => ?_) (fun h6 => ?_)
            · have h6 : (zta (w.1 rt) len k) < 1 := h6
              refine jWp.blk mt 1 ?_
              show jWp 30 46 [some (jO r), some (jI (n : Int)), some (jI (q : Int)), some (jI (k : Int))] [jI 0] 0 0 w _
              refine jWp.iretz mt rfl ⟨rfl, rfl⟩ rfl (Or.inl rfl) ?_
              first
              | exact Or.inr ⟨rfl, rfl, fun g => by have g := g k (by omega) (by omega); omega⟩
              | exact Or.inr ⟨rfl, rfl, fun g => by rcases Nat.eq_zero_or_pos q with e | e; omega; have g := g (n + (q - 1)) (by omega) (by omega); omega⟩
            · have h6 : 1 ≤ (zta (w.1 rt) len k) := h6
              refine jWp.blk mt 2 ?_
              show _ ∧ jWp 30 36 [some (jO r), some (jI (n : Int)), some (jI (q : Int)), some (jI (k : Int))] [jI (k : Int), jO r] 0 0 w _
              refine ⟨rfl, ?_⟩
              refine jWp.callv (as := [jO r, jI (k : Int)]) (rest := []) mt rfl rfl rfl ⟨rfl, jtg hkr⟩ ?_
              refine jCall.mono (C_termAt (w := w) (r := r) (rt := rt) (len := len) hkr hkt hrt hlen hl60 hgb (n := k) (by omega)) (fun v9 w9 h9 => ?_)
              obtain ⟨rfl, h9⟩ := h9
              subst w9
              show jWp 30 39 [some (jO r), some (jI (n : Int)), some (jI (q : Int)), some (jI (k : Int))] [jI (zta (w.1 rt) len k)] 0 0 w _
              have := zta_b (n := k) hgb
              have : k < len → (zta (w.1 rt) len k) = w.1 rt k := fun h => zta_t h
              have : ¬ k < len → (zta (w.1 rt) len k) = 0 := fun h => zta_f h
              refine jWp.blk mt 1 ?_
              show jWp 30 42 [some (jO r), some (jI (n : Int)), some (jI (q : Int)), some (jI (k : Int))] [jI 9999, jI (zta (w.1 rt) len k)] 0 0 w _
              refine jWp.icmp (pc' := 45) mt rfl rfl (b32_id (by omega) (by omega)) (show b32 9999 = 9999 by decide) (fun h7 => ?_) (fun h7 => ?_)
              · have h7 : (zta (w.1 rt) len k) ≤ 9999 := h7
                refine jWp.blk mt 2 ?_
                show jWp 30 18 [some (jO r), some (jI (n : Int)), some (jI (q : Int)), some (jI ((k : Int) + 1))] [] 0 0 w _
                refine jWp.le (l := [some (jO r), some (jI (n : Int)), some (jI (q : Int)), some (jI ((k : Int) + 1))]) (by exact ⟨rfl, rfl, rfl, rfl, trivial⟩) ?_
                exact ih4 (k + 1) (by omega) (fun x h1 h2 => by rcases Nat.lt_or_ge x k with e | e; exact hA x h1 e; rw [show x = k by omega]; omega) (by omega)
              · have h7 : 9999 < (zta (w.1 rt) len k) := h7
                refine jWp.blk mt 1 ?_
                show jWp 30 46 [some (jO r), some (jI (n : Int)), some (jI (q : Int)), some (jI (k : Int))] [jI 0] 0 0 w _
                refine jWp.iretz mt rfl ⟨rfl, rfl⟩ rfl (Or.inl rfl) ?_
                first
                | exact Or.inr ⟨rfl, rfl, fun g => by have g := g k (by omega) (by omega); omega⟩
                | exact Or.inr ⟨rfl, rfl, fun g => by rcases Nat.eq_zero_or_pos q with e | e; omega; have g := g (n + (q - 1)) (by omega) (by omega); omega⟩
      refine jWp.le (l := [some (jO r), some (jI (n : Int)), some (jI (q : Int)), some (jI (n : Int))]) (by exact ⟨rfl, rfl, rfl, rfl, trivial⟩) ?_
      exact lp3 _ n (by omega) (fun x h1 h2 => absurd h1 (by omega)) (Nat.lt_succ_self _)
    · have h2 : ((len : Int) - (q : Int)) < (n : Int) := h2
      refine jWp.blk mt 1 ?_
      show jWp 30 15 [some (jO r), some (jI (n : Int)), some (jI (q : Int)), none] [jI 0] 0 0 w _
      refine jWp.iretz mt rfl ⟨rfl, rfl⟩ rfl (Or.inl rfl) ?_
      first
      | exact Or.inr ⟨rfl, rfl, fun g => by have g := g k (by omega) (by omega); omega⟩
      | exact Or.inr ⟨rfl, rfl, fun g => by rcases Nat.eq_zero_or_pos q with e | e; omega; have g := g (n + (q - 1)) (by omega) (by omega); omega⟩
set_option maxHeartbeats 4000000 in
set_option maxRecDepth 20000 in
theorem C_setn {w : jS} {m L : Nat} {a b : Int} (hm : w.2.1 m = (2, L)) (ha : -4000000000000000000 < a ∧ a < 4000000000000000000) (hb : 0 < b ∧ b < 4000000000000000000) : jCall 4 [jO m, jJ a, jJ b] w (fun v w1 => ∃ y, v = some (jI y) ∧ w1 = jF1 w m (zu a b) (zv a b)) := by
  have mt : jtb 4 = jT4 := rfl
  have hg := zg_pos (a := a) hb.1
  have hl := zg_le (a := a) hb.1
  have hu := zuA (a := a) hb.1
  have hv := zv_b (a := a) hb.1
  unfold zu at hu
  unfold zv at hv
  have hja : jabs (Int.tdiv a (zg a b)) = if 0 ≤ Int.tdiv a (zg a b) then Int.tdiv a (zg a b) else 0 - Int.tdiv a (zg a b) := rfl
  show jWp 4 0 [some (jO m), some (jJ a), none, some (jJ b), none, none, none] [] 0 0 w _
  refine jWp.blk mt 2 ?_
  show jWp 4 2 [some (jO m), some (jJ a), none, some (jJ b), none, none, none] [jJ b, jJ a] 0 0 w _
  refine jWp.calls (as := [jJ a, jJ b]) (rest := []) mt rfl rfl rfl rfl ?_
  refine jCall.mono (E_gcd (by omega) (by omega)) (fun v9 w9 h9 => ?_)
  obtain ⟨rfl, h9⟩ := h9
  subst w9
  show jWp 4 5 [some (jO m), some (jJ a), none, some (jJ b), none, none, none] [jJ (zg a b)] 0 0 w _
  refine jWp.blk mt 3 ?_
  show jWp 4 10 [some (jO m), some (jJ a), none, some (jJ b), none, some (jJ (zg a b)), none] [jJ 0, jJ (zg a b)] 0 0 w _
  refine jWp.lcmp (pc' := 14) mt rfl rfl rfl (b64_id (by omega) (by omega)) (show b64 0 = 0 by decide) (fun h1 => ?_) (fun h1 => ?_)
  · have h1 : (zg a b) ≠ 0 := h1
    refine jWp.blk mt 3 ?_
    show _ ∧ jWp 4 30 [some (jO m), some (jJ a), none, some (jJ b), none, some (jJ (zg a b)), none] [jJ (zg a b), jJ a, jO m] 0 0 w _
    refine ⟨rfl, ?_⟩
    refine jWp.ldiv (pc' := 31) mt rfl rfl (b64_id (by omega) (by omega)) (b64_id (by omega) (by omega)) (by omega) ?_
    show jWp 4 31 [some (jO m), some (jJ a), none, some (jJ b), none, some (jJ (zg a b)), none] [jJ (Int.tdiv a (zg a b)), jO m] 0 0 w _
    refine jWp.putJ (pc' := 34) mt rfl rfl (jtg hm) ?_
    show jWp 4 34 [some (jO m), some (jJ a), none, some (jJ b), none, some (jJ (zg a b)), none] [] 0 0 (jW w m 0 (Int.tdiv a (zg a b))) _
    refine jWp.blk mt 3 ?_
    show _ ∧ jWp 4 38 [some (jO m), some (jJ a), none, some (jJ b), none, some (jJ (zg a b)), none] [jJ (zg a b), jJ b, jO m] 0 0 (jW w m 0 (Int.tdiv a (zg a b))) _
    refine ⟨rfl, ?_⟩
    refine jWp.ldiv (pc' := 39) mt rfl rfl (b64_id (by omega) (by omega)) (b64_id (by omega) (by omega)) (by omega) ?_
    show jWp 4 39 [some (jO m), some (jJ a), none, some (jJ b), none, some (jJ (zg a b)), none] [jJ (Int.tdiv b (zg a b)), jO m] 0 0 (jW w m 0 (Int.tdiv a (zg a b))) _
    refine jWp.putJ (pc' := 42) mt rfl rfl (jtg hm) ?_
    show jWp 4 42 [some (jO m), some (jJ a), none, some (jJ b), none, some (jJ (zg a b)), none] [] 0 0 (jW (jW w m 0 (Int.tdiv a (zg a b))) m 1 (Int.tdiv b (zg a b))) _
    refine jWp.blk mt 1 ?_
    show _ ∧ jWp 4 43 [some (jO m), some (jJ a), none, some (jJ b), none, some (jJ (zg a b)), none] [jO m] 0 0 (jW (jW w m 0 (Int.tdiv a (zg a b))) m 1 (Int.tdiv b (zg a b))) _
    refine ⟨rfl, ?_⟩
    refine jWp.getJ (pc' := 46) mt rfl rfl (jtg hm) ?_
    rw [show ((jW (jW w m 0 (Int.tdiv a (zg a b))) m 1 (Int.tdiv b (zg a b))).1 m 0) = (Int.tdiv a (zg a b)) from ((jW_k (by decide)).trans jW_s)]
    show jWp 4 46 [some (jO m), some (jJ a), none, some (jJ b), none, some (jJ (zg a b)), none] [jJ (Int.tdiv a (zg a b))] 0 0 (jW (jW w m 0 (Int.tdiv a (zg a b))) m 1 (Int.tdiv b (zg a b))) _
    refine jWp.absJ (pc' := 49) mt rfl rfl rfl (b64_id (by omega) (by omega)) ?_
    show jWp 4 49 [some (jO m), some (jJ a), none, some (jJ b), none, some (jJ (zg a b)), none] [jJ (jabs (Int.tdiv a (zg a b)))] 0 0 (jW (jW w m 0 (Int.tdiv a (zg a b))) m 1 (Int.tdiv b (zg a b))) _
    refine jWp.blk mt 1 ?_
    show jWp 4 52 [some (jO m), some (jJ a), none, some (jJ b), none, some (jJ (zg a b)), none] [jJ 1000000000, jJ (jabs (Int.tdiv a (zg a b)))] 0 0 (jW (jW w m 0 (Int.tdiv a (zg a b))) m 1 (Int.tdiv b (zg a b))) _
    refine jWp.lcmp (pc' := 56) mt rfl rfl rfl (b64_id (by rw [hja]; split <;> omega) (by rw [hja]; split <;> omega)) (show b64 1000000000 = 1000000000 by decide) (fun h2 => ?_) (fun h2 => ?_)
    · have h2 : 1000000000 < (jabs (Int.tdiv a (zg a b))) := h2
      refine jWp.blk mt 1 ?_
      show jWp 4 72 [some (jO m), some (jJ a), none, some (jJ b), none, some (jJ (zg a b)), none] [jI 0] 0 0 (jW (jW w m 0 (Int.tdiv a (zg a b))) m 1 (Int.tdiv b (zg a b))) _
      refine jWp.iretz mt rfl ⟨rfl, rfl⟩ rfl (Or.inl rfl) ?_
      first
      | (exfalso; omega)
      | exact ⟨_, rfl, rfl⟩
    · have h2 : (jabs (Int.tdiv a (zg a b))) ≤ 1000000000 := h2
      refine jWp.blk mt 1 ?_
      show _ ∧ jWp 4 57 [some (jO m), some (jJ a), none, some (jJ b), none, some (jJ (zg a b)), none] [jO m] 0 0 (jW (jW w m 0 (Int.tdiv a (zg a b))) m 1 (Int.tdiv b (zg a b))) _
      refine ⟨rfl, ?_⟩
      refine jWp.getJ (pc' := 60) mt rfl rfl (jtg hm) ?_
      rw [show ((jW (jW w m 0 (Int.tdiv a (zg a b))) m 1 (Int.tdiv b (zg a b))).1 m 1) = (Int.tdiv b (zg a b)) from jW_s]
      show jWp 4 60 [some (jO m), some (jJ a), none, some (jJ b), none, some (jJ (zg a b)), none] [jJ (Int.tdiv b (zg a b))] 0 0 (jW (jW w m 0 (Int.tdiv a (zg a b))) m 1 (Int.tdiv b (zg a b))) _
      refine jWp.blk mt 1 ?_
      show jWp 4 63 [some (jO m), some (jJ a), none, some (jJ b), none, some (jJ (zg a b)), none] [jJ 1000000000, jJ (Int.tdiv b (zg a b))] 0 0 (jW (jW w m 0 (Int.tdiv a (zg a b))) m 1 (Int.tdiv b (zg a b))) _
      refine jWp.lcmp (pc' := 67) mt rfl rfl rfl (b64_id (by omega) (by omega)) (show b64 1000000000 = 1000000000 by decide) (fun h3 => ?_) (fun h3 => ?_)
      · have h3 : 1000000000 < (Int.tdiv b (zg a b)) := h3
        refine jWp.blk mt 1 ?_
        show jWp 4 72 [some (jO m), some (jJ a), none, some (jJ b), none, some (jJ (zg a b)), none] [jI 0] 0 0 (jW (jW w m 0 (Int.tdiv a (zg a b))) m 1 (Int.tdiv b (zg a b))) _
        refine jWp.iretz mt rfl ⟨rfl, rfl⟩ rfl (Or.inl rfl) ?_
        first
        | (exfalso; omega)
        | exact ⟨_, rfl, rfl⟩
      · have h3 : (Int.tdiv b (zg a b)) ≤ 1000000000 := h3
        refine jWp.blk mt 2 ?_
        show jWp 4 72 [some (jO m), some (jJ a), none, some (jJ b), none, some (jJ (zg a b)), none] [jI 1] 0 0 (jW (jW w m 0 (Int.tdiv a (zg a b))) m 1 (Int.tdiv b (zg a b))) _
        refine jWp.iretz mt rfl ⟨rfl, rfl⟩ rfl (Or.inr rfl) ?_
        first
        | (exfalso; omega)
        | exact ⟨_, rfl, rfl⟩
  · have h1 : (zg a b) = 0 := h1
    refine jWp.blk mt 2 ?_
    show _ ∧ jWp 4 16 [some (jO m), some (jJ a), none, some (jJ b), none, some (jJ (zg a b)), none] [jJ 0, jO m] 0 0 w _
    refine ⟨rfl, ?_⟩
    refine jWp.putJ (pc' := 19) mt rfl rfl (jtg hm) ?_
    show jWp 4 19 [some (jO m), some (jJ a), none, some (jJ b), none, some (jJ (zg a b)), none] [] 0 0 (jW w m 0 0) _
    refine jWp.blk mt 2 ?_
    show _ ∧ jWp 4 21 [some (jO m), some (jJ a), none, some (jJ b), none, some (jJ (zg a b)), none] [jJ 1, jO m] 0 0 (jW w m 0 0) _
    refine ⟨rfl, ?_⟩
    refine jWp.putJ (pc' := 24) mt rfl rfl (jtg hm) ?_
    show jWp 4 24 [some (jO m), some (jJ a), none, some (jJ b), none, some (jJ (zg a b)), none] [] 0 0 (jW (jW w m 0 0) m 1 1) _
    refine jWp.blk mt 1 ?_
    show jWp 4 25 [some (jO m), some (jJ a), none, some (jJ b), none, some (jJ (zg a b)), none] [jI 1] 0 0 (jW (jW w m 0 0) m 1 1) _
    refine jWp.iretz mt rfl ⟨rfl, rfl⟩ rfl (Or.inr rfl) ?_
    first
    | (exfalso; omega)
    | exact ⟨_, rfl, rfl⟩
theorem zk4 {f a b c d : Int} : a * a * d * d + b * b * b * d + c * c * c * a + f * b * b * c * c = (a * d) * (a * d) + b * b * b * d + c * c * a * c + f * (b * c) * (b * c) := by
  have e1 : a * a * d * d = (a * d) * (a * d) := by simp only [Int.mul_comm, Int.mul_left_comm, Int.mul_assoc]
  have e2 : c * c * c * a = c * c * a * c := by simp only [Int.mul_comm, Int.mul_left_comm, Int.mul_assoc]
  have e3 : f * b * b * c * c = f * (b * c) * (b * c) := by simp only [Int.mul_comm, Int.mul_left_comm, Int.mul_assoc]
  rw [e1, e2, e3]
theorem zk4d {a b c d : Int} : a * b * c * d = (a * d) * (b * c) := by simp only [Int.mul_comm, Int.mul_left_comm, Int.mul_assoc]
set_option maxHeartbeats 4000000 in
set_option maxRecDepth 20000 in
theorem C_keepOfFour {w : jS} {r fk : Nat} {f a b c d : Int} (hkr : w.2.1 r = (4, 0)) (hkf : w.2.1 fk = (2, 0)) (hfig : w.1 r 1 = f) (hf : 0 ≤ f ∧ f ≤ 9) (ha : 1 ≤ a ∧ a ≤ 9999) (hb : 1 ≤ b ∧ b ≤ 9999) (hc : 1 ≤ c ∧ c ≤ 9999) (hd : 1 ≤ d ∧ d ≤ 9999) : jCall 29 [jO r, jJ a, jJ b, jJ c, jJ d, jO fk] w (fun v w1 => v = none ∧ w1 = jF1 w fk (zu ((a * d) * (a * d) + b * b * b * d + c * c * a * c + f * (b * c) * (b * c)) ((a * d) * (b * c))) (zv ((a * d) * (a * d) + b * b * b * d + c * c * a * c + f * (b * c) * (b * c)) ((a * d) * (b * c)))) := by
  have mt : jtb 29 = jT29 := rfl
  have hU := zkU3 hf ha hb hc hd
  have e4 := zk4 (f := f) (a := a) (b := b) (c := c) (d := d)
  have e5 := zk4d (a := a) (b := b) (c := c) (d := d)
  show jWp 29 0 [some (jO r), some (jJ a), none, some (jJ b), none, some (jJ c), none, some (jJ d), none, some (jO fk), none, none] [] 0 0 w _
  refine jWp.blk mt 24 ?_
  show _ ∧ jWp 29 30 [some (jO r), some (jJ a), none, some (jJ b), none, some (jJ c), none, some (jJ d), none, some (jO fk), none, none] [jO r, jJ (((((a * a) * d) * d) + (((b * b) * b) * d)) + (((c * c) * c) * a))] 0 0 w _
  refine ⟨rfl, ?_⟩
  refine jWp.getI (pc' := 33) mt rfl rfl (jtg hkr) ?_
  rw [show (w.1 r 1) = f from hfig]
  show jWp 29 33 [some (jO r), some (jJ a), none, some (jJ b), none, some (jJ c), none, some (jJ d), none, some (jO fk), none, none] [jI f, jJ (((((a * a) * d) * d) + (((b * b) * b) * d)) + (((c * c) * c) * a))] 0 0 w _
  refine jWp.i2l (pc' := 34) mt rfl rfl (b32_id (by omega) (by omega)) ?_
  show jWp 29 34 [some (jO r), some (jJ a), none, some (jJ b), none, some (jJ c), none, some (jJ d), none, some (jO fk), none, none] [jJ f, jJ (((((a * a) * d) * d) + (((b * b) * b) * d)) + (((c * c) * c) * a))] 0 0 w _
  refine jWp.blk mt 19 ?_
  show _ ∧ jWp 29 60 [some (jO r), some (jJ a), none, some (jJ b), none, some (jJ c), none, some (jJ d), none, some (jO fk), some (jJ ((((((a * a) * d) * d) + (((b * b) * b) * d)) + (((c * c) * c) * a)) + ((((f * b) * b) * c) * c))), none] [jJ (((a * b) * c) * d), jJ ((((((a * a) * d) * d) + (((b * b) * b) * d)) + (((c * c) * c) * a)) + ((((f * b) * b) * c) * c)), jO fk] 0 0 w _
  refine ⟨rfl, ?_⟩
  refine jWp.callv (as := [jO fk, jJ ((((((a * a) * d) * d) + (((b * b) * b) * d)) + (((c * c) * c) * a)) + ((((f * b) * b) * c) * c)), jJ (((a * b) * c) * d)]) (rest := []) mt rfl rfl rfl ⟨rfl, jtg hkf⟩ ?_
  refine jCall.mono (C_setn (w := w) hkf (by omega) (by omega)) (fun v9 w9 h9 => ?_)
  obtain ⟨y9, rfl, h9⟩ := h9
  subst h9
  show jWp 29 63 [some (jO r), some (jJ a), none, some (jJ b), none, some (jJ c), none, some (jJ d), none, some (jO fk), some (jJ ((((((a * a) * d) * d) + (((b * b) * b) * d)) + (((c * c) * c) * a)) + ((((f * b) * b) * c) * c))), none] [jI y9] 0 0 (jF1 w fk (zu ((((((a * a) * d) * d) + (((b * b) * b) * d)) + (((c * c) * c) * a)) + ((((f * b) * b) * c) * c)) (((a * b) * c) * d)) (zv ((((((a * a) * d) * d) + (((b * b) * b) * d)) + (((c * c) * c) * a)) + ((((f * b) * b) * c) * c)) (((a * b) * c) * d))) _
  refine jWp.blk mt 1 ?_
  show jWp 29 64 [some (jO r), some (jJ a), none, some (jJ b), none, some (jJ c), none, some (jJ d), none, some (jO fk), some (jJ ((((((a * a) * d) * d) + (((b * b) * b) * d)) + (((c * c) * c) * a)) + ((((f * b) * b) * c) * c))), none] [] 0 0 (jF1 w fk (zu ((((((a * a) * d) * d) + (((b * b) * b) * d)) + (((c * c) * c) * a)) + ((((f * b) * b) * c) * c)) (((a * b) * c) * d)) (zv ((((((a * a) * d) * d) + (((b * b) * b) * d)) + (((c * c) * c) * a)) + ((((f * b) * b) * c) * c)) (((a * b) * c) * d))) _
  refine jWp.vret mt rfl ⟨rfl, rfl⟩ rfl ?_
  exact ⟨rfl, by rw [e4, e5]⟩
set_option maxHeartbeats 4000000 in
set_option maxRecDepth 20000 in
theorem C_keep {w : jS} {r rt len : Nat} (hkr : w.2.1 r = (4, 0)) (hkt : w.2.1 rt = (100, 60)) (hrt : w.2.2.1 r 6 = some rt) (hlen : w.1 r 2 = (len : Int)) (hl60 : len ≤ 60) (hgb : ∀ j, j < len → -100000000 ≤ w.1 rt j ∧ w.1 rt j ≤ 100000000) {fk n : Nat} {law f : Int} (hkf : w.2.1 fk = (2, 0)) (hlaw : w.1 r 0 = law) (hfig : w.1 r 1 = f) (hl0 : 0 ≤ law) (hl6 : law ≤ 6) (hf : 0 ≤ f ∧ f ≤ 9) (hn : n < 2147483648) : jCall 28 [jO r, jI (n : Int), jO fk] w (fun v w1 => (v = some (jI 1) ∧ zkp law (w.1 rt) len n ∧ w1 = jF1 w fk (zu (zku law f (w.1 rt) n) (zkd law (w.1 rt) n)) (zv (zku law f (w.1 rt) n) (zkd law (w.1 rt) n)) ∧ (-200000000000000000 ≤ (zu (zku law f (w.1 rt) n) (zkd law (w.1 rt) n)) ∧ (zu (zku law f (w.1 rt) n) (zkd law (w.1 rt) n)) ≤ 200000000000000000) ∧ 1 ≤ (zv (zku law f (w.1 rt) n) (zkd law (w.1 rt) n)) ∧ (zv (zku law f (w.1 rt) n) (zkd law (w.1 rt) n)) ≤ 200000000000000000) ∨ (v = some (jI 0) ∧ ¬ zkp law (w.1 rt) len n ∧ w1 = w)) := by
  have mt : jtb 28 = jT28 := rfl
  show jWp 28 0 [some (jO r), some (jI (n : Int)), some (jO fk), none, none, none, none] [] 0 0 w _
  refine jWp.blk mt 1 ?_
  show _ ∧ jWp 28 1 [some (jO r), some (jI (n : Int)), some (jO fk), none, none, none, none] [jO r] 0 0 w _
  refine ⟨rfl, ?_⟩
  refine jWp.getI (pc' := 4) mt rfl rfl (jtg hkr) ?_
  rw [show (w.1 r 0) = law from hlaw]
  show jWp 28 4 [some (jO r), some (jI (n : Int)), some (jO fk), none, none, none, none] [jI law] 0 0 w _
  refine jWp.ifz (pc' := 7) mt rfl rfl (b32_id (by omega) (by omega)) (fun h1 => ?_) (fun h1 => ?_)
  · have h1 : law ≠ 0 := h1
    refine jWp.blk mt 1 ?_
    show _ ∧ jWp 28 62 [some (jO r), some (jI (n : Int)), some (jO fk), none, none, none, none] [jO r] 0 0 w _
    refine ⟨rfl, ?_⟩
    refine jWp.getI (pc' := 65) mt rfl rfl (jtg hkr) ?_
    rw [show (w.1 r 0) = law from hlaw]
    show jWp 28 65 [some (jO r), some (jI (n : Int)), some (jO fk), none, none, none, none] [jI law] 0 0 w _
    refine jWp.blk mt 1 ?_
    show jWp 28 66 [some (jO r), some (jI (n : Int)), some (jO fk), none, none, none, none] [jI 1, jI law] 0 0 w _
    refine jWp.icmp (pc' := 69) mt rfl rfl (b32_id (by omega) (by omega)) (show b32 1 = 1 by decide) (fun h2 => ?_) (fun h2 => ?_)
    · have h2 : law ≠ 1 := h2
      refine jWp.blk mt 1 ?_
      show _ ∧ jWp 28 109 [some (jO r), some (jI (n : Int)), some (jO fk), none, none, none, none] [jO r] 0 0 w _
      refine ⟨rfl, ?_⟩
      refine jWp.getI (pc' := 112) mt rfl rfl (jtg hkr) ?_
      rw [show (w.1 r 0) = law from hlaw]
      show jWp 28 112 [some (jO r), some (jI (n : Int)), some (jO fk), none, none, none, none] [jI law] 0 0 w _
      refine jWp.blk mt 1 ?_
      show jWp 28 113 [some (jO r), some (jI (n : Int)), some (jO fk), none, none, none, none] [jI 3, jI law] 0 0 w _
      refine jWp.icmp (pc' := 116) mt rfl rfl (b32_id (by omega) (by omega)) (show b32 3 = 3 by decide) (fun h3 => ?_) (fun h3 => ?_)
      · have h3 : law ≠ 3 := h3
        refine jWp.blk mt 1 ?_
        show jWp 28 163 [some (jO r), some (jI (n : Int)), some (jO fk), none, none, none, none] [jI 0] 0 0 w _
        refine jWp.iretz mt rfl ⟨rfl, rfl⟩ rfl (Or.inl rfl) ?_
        refine Or.inr ⟨rfl, fun g => ?_, rfl⟩
        first
        | (exact g.1 (by unfold zkm; rw [if_neg (by omega), if_neg (by omega), if_neg (by omega)]))
        | (have ez : zkm law = 2 := by unfold zkm; rw [if_pos (by omega)]
           have g2 := g.2; rw [ez] at g2; exact absurd g2 (by assumption))
        | (have ez : zkm law = 3 := by unfold zkm; rw [if_neg (by omega), if_pos (by omega)]
           have g2 := g.2; rw [ez] at g2; exact absurd g2 (by assumption))
        | (have ez : zkm law = 4 := by unfold zkm; rw [if_neg (by omega), if_neg (by omega), if_pos (by omega)]
           have g2 := g.2; rw [ez] at g2; exact absurd g2 (by assumption))
      · have h3 : law = 3 := h3
        refine jWp.blk mt 3 ?_
        show _ ∧ jWp 28 119 [some (jO r), some (jI (n : Int)), some (jO fk), none, none, none, none] [jI 4, jI (n : Int), jO r] 0 0 w _
        refine ⟨rfl, ?_⟩
        refine jWp.callv (as := [jO r, jI (n : Int), jI 4]) (rest := []) mt rfl rfl rfl ⟨rfl, jtg hkr⟩ ?_
        refine jCall.mono (C_isPlain (w := w) (r := r) (rt := rt) (len := len) hkr hkt hrt hlen hl60 hgb (n := n) (q := 4) hn (by decide)) (fun v9 w9 h9 => ?_)
        rcases h9 with ⟨rfl, h9, h4⟩ | ⟨rfl, h9, h4⟩ <;> subst w9
        · have h4 : ∀ k, n ≤ k → k < n + 4 → k < len ∧ 1 ≤ w.1 rt k ∧ w.1 rt k ≤ 9999 := h4
          show jWp 28 122 [some (jO r), some (jI (n : Int)), some (jO fk), none, none, none, none] [jI 1] 0 0 w _
          have b0 := h4 (n + 0) (by omega) (by omega)
          have b1 := h4 (n + 1) (by omega) (by omega)
          have b2 := h4 (n + 2) (by omega) (by omega)
          have b3 := h4 (n + 3) (by omega) (by omega)
          rw [show n + 0 = n from rfl] at b0
          have hU := zkU3 hf b0.2 b1.2 b2.2 b3.2
          refine jWp.ifc (b := false) mt rfl (by decide) rfl ?_
          show jWp 28 125 [some (jO r), some (jI (n : Int)), some (jO fk), none, none, none, none] [] 0 0 w _
          refine jWp.blk mt 3 ?_
          show _ ∧ _ ∧ jWp 28 128 [some (jO r), some (jI (n : Int)), some (jO fk), none, none, none, none] [jI (n : Int), jO r, jO r] 0 0 w _
          refine ⟨rfl, rfl, ?_⟩
          refine jWp.callv (as := [jO r, jI (n : Int)]) (rest := [jO r]) mt rfl rfl rfl ⟨rfl, jtg hkr⟩ ?_
          refine jCall.mono ((by have h := C_termAt (w := w) (r := r) (rt := rt) (len := len) hkr hkt hrt hlen hl60 hgb (n := n) (by omega); rw [zta_t (by omega)] at h; exact h)) (fun v9 w9 h9 => ?_)
          obtain ⟨rfl, h9⟩ := h9
          subst w9
          show jWp 28 131 [some (jO r), some (jI (n : Int)), some (jO fk), none, none, none, none] [jI (w.1 rt n), jO r] 0 0 w _
          refine jWp.i2l (pc' := 132) mt rfl rfl (b32_id (by omega) (by omega)) ?_
          show jWp 28 132 [some (jO r), some (jI (n : Int)), some (jO fk), none, none, none, none] [jJ (w.1 rt n), jO r] 0 0 w _
          refine jWp.blk mt 4 ?_
          show _ ∧ jWp 28 136 [some (jO r), some (jI (n : Int)), some (jO fk), none, none, none, none] [jI ((n : Int) + 1), jO r, jJ (w.1 rt n), jO r] 0 0 w _
          refine ⟨rfl, ?_⟩
          refine jWp.callv (as := [jO r, jI ((n : Int) + 1)]) (rest := [jJ (w.1 rt n), jO r]) mt rfl rfl rfl ⟨rfl, jtg hkr⟩ ?_
          refine jCall.mono ((by have h := C_termAt (w := w) (r := r) (rt := rt) (len := len) hkr hkt hrt hlen hl60 hgb (n := (n + 1)) (by omega); rw [zta_t (by omega)] at h; exact h)) (fun v9 w9 h9 => ?_)
          obtain ⟨rfl, h9⟩ := h9
          subst w9
          show jWp 28 139 [some (jO r), some (jI (n : Int)), some (jO fk), none, none, none, none] [jI (w.1 rt (n + 1)), jJ (w.1 rt n), jO r] 0 0 w _
          refine jWp.i2l (pc' := 140) mt rfl rfl (b32_id (by omega) (by omega)) ?_
          show jWp 28 140 [some (jO r), some (jI (n : Int)), some (jO fk), none, none, none, none] [jJ (w.1 rt (n + 1)), jJ (w.1 rt n), jO r] 0 0 w _
          refine jWp.blk mt 4 ?_
          show _ ∧ jWp 28 144 [some (jO r), some (jI (n : Int)), some (jO fk), none, none, none, none] [jI ((n : Int) + 2), jO r, jJ (w.1 rt (n + 1)), jJ (w.1 rt n), jO r] 0 0 w _
          refine ⟨rfl, ?_⟩
          refine jWp.callv (as := [jO r, jI ((n : Int) + 2)]) (rest := [jJ (w.1 rt (n + 1)), jJ (w.1 rt n), jO r]) mt rfl rfl rfl ⟨rfl, jtg hkr⟩ ?_
          refine jCall.mono ((by have h := C_termAt (w := w) (r := r) (rt := rt) (len := len) hkr hkt hrt hlen hl60 hgb (n := (n + 2)) (by omega); rw [zta_t (by omega)] at h; exact h)) (fun v9 w9 h9 => ?_)
          obtain ⟨rfl, h9⟩ := h9
          subst w9
          show jWp 28 147 [some (jO r), some (jI (n : Int)), some (jO fk), none, none, none, none] [jI (w.1 rt (n + 2)), jJ (w.1 rt (n + 1)), jJ (w.1 rt n), jO r] 0 0 w _
          refine jWp.i2l (pc' := 148) mt rfl rfl (b32_id (by omega) (by omega)) ?_
          show jWp 28 148 [some (jO r), some (jI (n : Int)), some (jO fk), none, none, none, none] [jJ (w.1 rt (n + 2)), jJ (w.1 rt (n + 1)), jJ (w.1 rt n), jO r] 0 0 w _
          refine jWp.blk mt 4 ?_
          show _ ∧ jWp 28 152 [some (jO r), some (jI (n : Int)), some (jO fk), none, none, none, none] [jI ((n : Int) + 3), jO r, jJ (w.1 rt (n + 2)), jJ (w.1 rt (n + 1)), jJ (w.1 rt n), jO r] 0 0 w _
          refine ⟨rfl, ?_⟩
          refine jWp.callv (as := [jO r, jI ((n : Int) + 3)]) (rest := [jJ (w.1 rt (n + 2)), jJ (w.1 rt (n + 1)), jJ (w.1 rt n), jO r]) mt rfl rfl rfl ⟨rfl, jtg hkr⟩ ?_
          refine jCall.mono ((by have h := C_termAt (w := w) (r := r) (rt := rt) (len := len) hkr hkt hrt hlen hl60 hgb (n := (n + 3)) (by omega); rw [zta_t (by omega)] at h; exact h)) (fun v9 w9 h9 => ?_)
          obtain ⟨rfl, h9⟩ := h9
          subst w9
          show jWp 28 155 [some (jO r), some (jI (n : Int)), some (jO fk), none, none, none, none] [jI (w.1 rt (n + 3)), jJ (w.1 rt (n + 2)), jJ (w.1 rt (n + 1)), jJ (w.1 rt n), jO r] 0 0 w _
          refine jWp.i2l (pc' := 156) mt rfl rfl (b32_id (by omega) (by omega)) ?_
          show jWp 28 156 [some (jO r), some (jI (n : Int)), some (jO fk), none, none, none, none] [jJ (w.1 rt (n + 3)), jJ (w.1 rt (n + 2)), jJ (w.1 rt (n + 1)), jJ (w.1 rt n), jO r] 0 0 w _
          refine jWp.blk mt 1 ?_
          show _ ∧ jWp 28 157 [some (jO r), some (jI (n : Int)), some (jO fk), none, none, none, none] [jO fk, jJ (w.1 rt (n + 3)), jJ (w.1 rt (n + 2)), jJ (w.1 rt (n + 1)), jJ (w.1 rt n), jO r] 0 0 w _
          refine ⟨rfl, ?_⟩
          refine jWp.callv (as := [jO r, jJ (w.1 rt n), jJ (w.1 rt (n + 1)), jJ (w.1 rt (n + 2)), jJ (w.1 rt (n + 3)), jO fk]) (rest := []) mt rfl rfl rfl ⟨rfl, jtg hkr⟩ ?_
          refine jCall.mono (C_keepOfFour (w := w) (r := r) (fk := fk) hkr hkf hfig hf b0.2 b1.2 b2.2 b3.2) (fun v9 w9 h9 => ?_)
          obtain ⟨rfl, h9⟩ := h9
          subst h9
          show jWp 28 160 [some (jO r), some (jI (n : Int)), some (jO fk), none, none, none, none] [] 0 0 (jF1 w fk (zu (((w.1 rt n) * (w.1 rt (n + 3))) * ((w.1 rt n) * (w.1 rt (n + 3))) + (w.1 rt (n + 1)) * (w.1 rt (n + 1)) * (w.1 rt (n + 1)) * (w.1 rt (n + 3)) + (w.1 rt (n + 2)) * (w.1 rt (n + 2)) * (w.1 rt n) * (w.1 rt (n + 2)) + f * ((w.1 rt (n + 1)) * (w.1 rt (n + 2))) * ((w.1 rt (n + 1)) * (w.1 rt (n + 2)))) (((w.1 rt n) * (w.1 rt (n + 3))) * ((w.1 rt (n + 1)) * (w.1 rt (n + 2))))) (zv (((w.1 rt n) * (w.1 rt (n + 3))) * ((w.1 rt n) * (w.1 rt (n + 3))) + (w.1 rt (n + 1)) * (w.1 rt (n + 1)) * (w.1 rt (n + 1)) * (w.1 rt (n + 3)) + (w.1 rt (n + 2)) * (w.1 rt (n + 2)) * (w.1 rt n) * (w.1 rt (n + 2)) + f * ((w.1 rt (n + 1)) * (w.1 rt (n + 2))) * ((w.1 rt (n + 1)) * (w.1 rt (n + 2)))) (((w.1 rt n) * (w.1 rt (n + 3))) * ((w.1 rt (n + 1)) * (w.1 rt (n + 2)))))) _
          refine jWp.blk mt 1 ?_
          show jWp 28 161 [some (jO r), some (jI (n : Int)), some (jO fk), none, none, none, none] [jI 1] 0 0 (jF1 w fk (zu (((w.1 rt n) * (w.1 rt (n + 3))) * ((w.1 rt n) * (w.1 rt (n + 3))) + (w.1 rt (n + 1)) * (w.1 rt (n + 1)) * (w.1 rt (n + 1)) * (w.1 rt (n + 3)) + (w.1 rt (n + 2)) * (w.1 rt (n + 2)) * (w.1 rt n) * (w.1 rt (n + 2)) + f * ((w.1 rt (n + 1)) * (w.1 rt (n + 2))) * ((w.1 rt (n + 1)) * (w.1 rt (n + 2)))) (((w.1 rt n) * (w.1 rt (n + 3))) * ((w.1 rt (n + 1)) * (w.1 rt (n + 2))))) (zv (((w.1 rt n) * (w.1 rt (n + 3))) * ((w.1 rt n) * (w.1 rt (n + 3))) + (w.1 rt (n + 1)) * (w.1 rt (n + 1)) * (w.1 rt (n + 1)) * (w.1 rt (n + 3)) + (w.1 rt (n + 2)) * (w.1 rt (n + 2)) * (w.1 rt n) * (w.1 rt (n + 2)) + f * ((w.1 rt (n + 1)) * (w.1 rt (n + 2))) * ((w.1 rt (n + 1)) * (w.1 rt (n + 2)))) (((w.1 rt n) * (w.1 rt (n + 3))) * ((w.1 rt (n + 1)) * (w.1 rt (n + 2)))))) _
          refine jWp.iretz mt rfl ⟨rfl, rfl⟩ rfl (Or.inr rfl) ?_
          have ez : zkm law = 4 := by unfold zkm; rw [if_neg (by omega), if_neg (by omega), if_pos (by omega)]
          have eu : zku law f (w.1 rt) n = (((w.1 rt n) * (w.1 rt (n + 3))) * ((w.1 rt n) * (w.1 rt (n + 3))) + (w.1 rt (n + 1)) * (w.1 rt (n + 1)) * (w.1 rt (n + 1)) * (w.1 rt (n + 3)) + (w.1 rt (n + 2)) * (w.1 rt (n + 2)) * (w.1 rt n) * (w.1 rt (n + 2)) + f * ((w.1 rt (n + 1)) * (w.1 rt (n + 2))) * ((w.1 rt (n + 1)) * (w.1 rt (n + 2)))) := by unfold zku; rw [if_neg (by omega), if_neg (by omega)]
          have ed : zkd law (w.1 rt) n = (((w.1 rt n) * (w.1 rt (n + 3))) * ((w.1 rt (n + 1)) * (w.1 rt (n + 2)))) := by unfold zkd; rw [if_neg (by omega), if_neg (by omega)]
          have hua := zuA (a := (((w.1 rt n) * (w.1 rt (n + 3))) * ((w.1 rt n) * (w.1 rt (n + 3))) + (w.1 rt (n + 1)) * (w.1 rt (n + 1)) * (w.1 rt (n + 1)) * (w.1 rt (n + 3)) + (w.1 rt (n + 2)) * (w.1 rt (n + 2)) * (w.1 rt n) * (w.1 rt (n + 2)) + f * ((w.1 rt (n + 1)) * (w.1 rt (n + 2))) * ((w.1 rt (n + 1)) * (w.1 rt (n + 2))))) (b := (((w.1 rt n) * (w.1 rt (n + 3))) * ((w.1 rt (n + 1)) * (w.1 rt (n + 2))))) (by omega)
          have hvb := zv_b (a := (((w.1 rt n) * (w.1 rt (n + 3))) * ((w.1 rt n) * (w.1 rt (n + 3))) + (w.1 rt (n + 1)) * (w.1 rt (n + 1)) * (w.1 rt (n + 1)) * (w.1 rt (n + 3)) + (w.1 rt (n + 2)) * (w.1 rt (n + 2)) * (w.1 rt n) * (w.1 rt (n + 2)) + f * ((w.1 rt (n + 1)) * (w.1 rt (n + 2))) * ((w.1 rt (n + 1)) * (w.1 rt (n + 2))))) (b := (((w.1 rt n) * (w.1 rt (n + 3))) * ((w.1 rt (n + 1)) * (w.1 rt (n + 2))))) (by omega)
          refine Or.inl ⟨rfl, ⟨by rw [ez]; decide, by rw [ez]; exact h4⟩, ?_, ?_⟩
          · rw [eu, ed]
          · rw [eu, ed]
            omega
        · have h4 : ¬ (∀ k, n ≤ k → k < n + 4 → k < len ∧ 1 ≤ w.1 rt k ∧ w.1 rt k ≤ 9999) := h4
          show jWp 28 122 [some (jO r), some (jI (n : Int)), some (jO fk), none, none, none, none] [jI 0] 0 0 w _
          refine jWp.ifc (b := true) mt rfl (by decide) rfl ?_
          show jWp 28 162 [some (jO r), some (jI (n : Int)), some (jO fk), none, none, none, none] [] 0 0 w _
          refine jWp.blk mt 1 ?_
          show jWp 28 163 [some (jO r), some (jI (n : Int)), some (jO fk), none, none, none, none] [jI 0] 0 0 w _
          refine jWp.iretz mt rfl ⟨rfl, rfl⟩ rfl (Or.inl rfl) ?_
          refine Or.inr ⟨rfl, fun g => ?_, rfl⟩
          first
          | (exact g.1 (by unfold zkm; rw [if_neg (by omega), if_neg (by omega), if_neg (by omega)]))
          | (have ez : zkm law = 2 := by unfold zkm; rw [if_pos (by omega)]
             have g2 := g.2; rw [ez] at g2; exact absurd g2 (by assumption))
          | (have ez : zkm law = 3 := by unfold zkm; rw [if_neg (by omega), if_pos (by omega)]
             have g2 := g.2; rw [ez] at g2; exact absurd g2 (by assumption))
          | (have ez : zkm law = 4 := by unfold zkm; rw [if_neg (by omega), if_neg (by omega), if_pos (by omega)]
             have g2 := g.2; rw [ez] at g2; exact absurd g2 (by assumption))
    · have h2 : law = 1 := h2
      refine jWp.blk mt 3 ?_
      show _ ∧ jWp 28 72 [some (jO r), some (jI (n : Int)), some (jO fk), none, none, none, none] [jI 3, jI (n : Int), jO r] 0 0 w _
      refine ⟨rfl, ?_⟩
      refine jWp.callv (as := [jO r, jI (n : Int), jI 3]) (rest := []) mt rfl rfl rfl ⟨rfl, jtg hkr⟩ ?_
      refine jCall.mono (C_isPlain (w := w) (r := r) (rt := rt) (len := len) hkr hkt hrt hlen hl60 hgb (n := n) (q := 3) hn (by decide)) (fun v9 w9 h9 => ?_)
      rcases h9 with ⟨rfl, h9, h5⟩ | ⟨rfl, h9, h5⟩ <;> subst w9
      · have h5 : ∀ k, n ≤ k → k < n + 3 → k < len ∧ 1 ≤ w.1 rt k ∧ w.1 rt k ≤ 9999 := h5
        show jWp 28 75 [some (jO r), some (jI (n : Int)), some (jO fk), none, none, none, none] [jI 1] 0 0 w _
        have b0 := h5 (n + 0) (by omega) (by omega)
        have b1 := h5 (n + 1) (by omega) (by omega)
        have b2 := h5 (n + 2) (by omega) (by omega)
        rw [show n + 0 = n from rfl] at b0
        refine jWp.ifc (b := false) mt rfl (by decide) rfl ?_
        show jWp 28 78 [some (jO r), some (jI (n : Int)), some (jO fk), none, none, none, none] [] 0 0 w _
        refine jWp.blk mt 3 ?_
        show _ ∧ _ ∧ jWp 28 81 [some (jO r), some (jI (n : Int)), some (jO fk), none, none, none, none] [jI (n : Int), jO r, jO fk] 0 0 w _
        refine ⟨rfl, rfl, ?_⟩
        refine jWp.callv (as := [jO r, jI (n : Int)]) (rest := [jO fk]) mt rfl rfl rfl ⟨rfl, jtg hkr⟩ ?_
        refine jCall.mono ((by have h := C_termAt (w := w) (r := r) (rt := rt) (len := len) hkr hkt hrt hlen hl60 hgb (n := n) (by omega); rw [zta_t (by omega)] at h; exact h)) (fun v9 w9 h9 => ?_)
        obtain ⟨rfl, h9⟩ := h9
        subst w9
        show jWp 28 84 [some (jO r), some (jI (n : Int)), some (jO fk), none, none, none, none] [jI (w.1 rt n), jO fk] 0 0 w _
        refine jWp.i2l (pc' := 85) mt rfl rfl (b32_id (by omega) (by omega)) ?_
        show jWp 28 85 [some (jO r), some (jI (n : Int)), some (jO fk), none, none, none, none] [jJ (w.1 rt n), jO fk] 0 0 w _
        refine jWp.blk mt 4 ?_
        show _ ∧ jWp 28 89 [some (jO r), some (jI (n : Int)), some (jO fk), none, none, none, none] [jI ((n : Int) + 2), jO r, jJ (w.1 rt n), jO fk] 0 0 w _
        refine ⟨rfl, ?_⟩
        refine jWp.callv (as := [jO r, jI ((n : Int) + 2)]) (rest := [jJ (w.1 rt n), jO fk]) mt rfl rfl rfl ⟨rfl, jtg hkr⟩ ?_
        refine jCall.mono ((by have h := C_termAt (w := w) (r := r) (rt := rt) (len := len) hkr hkt hrt hlen hl60 hgb (n := (n + 2)) (by omega); rw [zta_t (by omega)] at h; exact h)) (fun v9 w9 h9 => ?_)
        obtain ⟨rfl, h9⟩ := h9
        subst w9
        show jWp 28 92 [some (jO r), some (jI (n : Int)), some (jO fk), none, none, none, none] [jI (w.1 rt (n + 2)), jJ (w.1 rt n), jO fk] 0 0 w _
        refine jWp.i2l (pc' := 93) mt rfl rfl (b32_id (by omega) (by omega)) ?_
        show jWp 28 93 [some (jO r), some (jI (n : Int)), some (jO fk), none, none, none, none] [jJ (w.1 rt (n + 2)), jJ (w.1 rt n), jO fk] 0 0 w _
        refine jWp.blk mt 5 ?_
        show _ ∧ jWp 28 98 [some (jO r), some (jI (n : Int)), some (jO fk), none, none, none, none] [jI ((n : Int) + 1), jO r, jJ ((w.1 rt n) + (w.1 rt (n + 2))), jO fk] 0 0 w _
        refine ⟨rfl, ?_⟩
        refine jWp.callv (as := [jO r, jI ((n : Int) + 1)]) (rest := [jJ ((w.1 rt n) + (w.1 rt (n + 2))), jO fk]) mt rfl rfl rfl ⟨rfl, jtg hkr⟩ ?_
        refine jCall.mono ((by have h := C_termAt (w := w) (r := r) (rt := rt) (len := len) hkr hkt hrt hlen hl60 hgb (n := (n + 1)) (by omega); rw [zta_t (by omega)] at h; exact h)) (fun v9 w9 h9 => ?_)
        obtain ⟨rfl, h9⟩ := h9
        subst w9
        show jWp 28 101 [some (jO r), some (jI (n : Int)), some (jO fk), none, none, none, none] [jI (w.1 rt (n + 1)), jJ ((w.1 rt n) + (w.1 rt (n + 2))), jO fk] 0 0 w _
        refine jWp.i2l (pc' := 102) mt rfl rfl (b32_id (by omega) (by omega)) ?_
        show jWp 28 102 [some (jO r), some (jI (n : Int)), some (jO fk), none, none, none, none] [jJ (w.1 rt (n + 1)), jJ ((w.1 rt n) + (w.1 rt (n + 2))), jO fk] 0 0 w _
        refine jWp.callv (as := [jO fk, jJ ((w.1 rt n) + (w.1 rt (n + 2))), jJ (w.1 rt (n + 1))]) (rest := []) mt rfl rfl rfl ⟨rfl, jtg hkf⟩ ?_
        refine jCall.mono (C_setn (w := w) hkf (by omega) (by omega)) (fun v9 w9 h9 => ?_)
        obtain ⟨y9, rfl, h9⟩ := h9
        subst h9
        show jWp 28 105 [some (jO r), some (jI (n : Int)), some (jO fk), none, none, none, none] [jI y9] 0 0 (jF1 w fk (zu ((w.1 rt n) + (w.1 rt (n + 2))) (w.1 rt (n + 1))) (zv ((w.1 rt n) + (w.1 rt (n + 2))) (w.1 rt (n + 1)))) _
        refine jWp.blk mt 2 ?_
        show jWp 28 107 [some (jO r), some (jI (n : Int)), some (jO fk), none, none, none, none] [jI 1] 0 0 (jF1 w fk (zu ((w.1 rt n) + (w.1 rt (n + 2))) (w.1 rt (n + 1))) (zv ((w.1 rt n) + (w.1 rt (n + 2))) (w.1 rt (n + 1)))) _
        refine jWp.iretz mt rfl ⟨rfl, rfl⟩ rfl (Or.inr rfl) ?_
        have ez : zkm law = 3 := by unfold zkm; rw [if_neg (by omega), if_pos (by omega)]
        have eu : zku law f (w.1 rt) n = ((w.1 rt n) + (w.1 rt (n + 2))) := by unfold zku; rw [if_neg (by omega), if_pos (by omega)]
        have ed : zkd law (w.1 rt) n = (w.1 rt (n + 1)) := by unfold zkd; rw [if_neg (by omega), if_pos (by omega)]
        have hua := zuA (a := ((w.1 rt n) + (w.1 rt (n + 2)))) (b := (w.1 rt (n + 1))) (by omega)
        have hvb := zv_b (a := ((w.1 rt n) + (w.1 rt (n + 2)))) (b := (w.1 rt (n + 1))) (by omega)
        refine Or.inl ⟨rfl, ⟨by rw [ez]; decide, by rw [ez]; exact h5⟩, ?_, ?_⟩
        · rw [eu, ed]
        · rw [eu, ed]
          omega
      · have h5 : ¬ (∀ k, n ≤ k → k < n + 3 → k < len ∧ 1 ≤ w.1 rt k ∧ w.1 rt k ≤ 9999) := h5
        show jWp 28 75 [some (jO r), some (jI (n : Int)), some (jO fk), none, none, none, none] [jI 0] 0 0 w _
        refine jWp.ifc (b := true) mt rfl (by decide) rfl ?_
        show jWp 28 108 [some (jO r), some (jI (n : Int)), some (jO fk), none, none, none, none] [] 0 0 w _
        refine jWp.blk mt 1 ?_
        show _ ∧ jWp 28 109 [some (jO r), some (jI (n : Int)), some (jO fk), none, none, none, none] [jO r] 0 0 w _
        refine ⟨rfl, ?_⟩
        refine jWp.getI (pc' := 112) mt rfl rfl (jtg hkr) ?_
        rw [show (w.1 r 0) = law from hlaw]
        show jWp 28 112 [some (jO r), some (jI (n : Int)), some (jO fk), none, none, none, none] [jI law] 0 0 w _
        refine jWp.blk mt 1 ?_
        show jWp 28 113 [some (jO r), some (jI (n : Int)), some (jO fk), none, none, none, none] [jI 3, jI law] 0 0 w _
        refine jWp.icmp (pc' := 116) mt rfl rfl (b32_id (by omega) (by omega)) (show b32 3 = 3 by decide) (fun h6 => ?_) (fun h6 => ?_)
        · have h6 : law ≠ 3 := h6
          refine jWp.blk mt 1 ?_
          show jWp 28 163 [some (jO r), some (jI (n : Int)), some (jO fk), none, none, none, none] [jI 0] 0 0 w _
          refine jWp.iretz mt rfl ⟨rfl, rfl⟩ rfl (Or.inl rfl) ?_
          refine Or.inr ⟨rfl, fun g => ?_, rfl⟩
          first
          | (exact g.1 (by unfold zkm; rw [if_neg (by omega), if_neg (by omega), if_neg (by omega)]))
          | (have ez : zkm law = 2 := by unfold zkm; rw [if_pos (by omega)]
             have g2 := g.2; rw [ez] at g2; exact absurd g2 (by assumption))
          | (have ez : zkm law = 3 := by unfold zkm; rw [if_neg (by omega), if_pos (by omega)]
             have g2 := g.2; rw [ez] at g2; exact absurd g2 (by assumption))
          | (have ez : zkm law = 4 := by unfold zkm; rw [if_neg (by omega), if_neg (by omega), if_pos (by omega)]
             have g2 := g.2; rw [ez] at g2; exact absurd g2 (by assumption))
        · have h6 : law = 3 := h6
          refine jWp.blk mt 3 ?_
          show _ ∧ jWp 28 119 [some (jO r), some (jI (n : Int)), some (jO fk), none, none, none, none] [jI 4, jI (n : Int), jO r] 0 0 w _
          refine ⟨rfl, ?_⟩
          refine jWp.callv (as := [jO r, jI (n : Int), jI 4]) (rest := []) mt rfl rfl rfl ⟨rfl, jtg hkr⟩ ?_
          refine jCall.mono (C_isPlain (w := w) (r := r) (rt := rt) (len := len) hkr hkt hrt hlen hl60 hgb (n := n) (q := 4) hn (by decide)) (fun v9 w9 h9 => ?_)
          rcases h9 with ⟨rfl, h9, h7⟩ | ⟨rfl, h9, h7⟩ <;> subst w9
          · have h7 : ∀ k, n ≤ k → k < n + 4 → k < len ∧ 1 ≤ w.1 rt k ∧ w.1 rt k ≤ 9999 := h7
            show jWp 28 122 [some (jO r), some (jI (n : Int)), some (jO fk), none, none, none, none] [jI 1] 0 0 w _
            have b0 := h7 (n + 0) (by omega) (by omega)
            have b1 := h7 (n + 1) (by omega) (by omega)
            have b2 := h7 (n + 2) (by omega) (by omega)
            have b3 := h7 (n + 3) (by omega) (by omega)
            rw [show n + 0 = n from rfl] at b0
            have hU := zkU3 hf b0.2 b1.2 b2.2 b3.2
            refine jWp.ifc (b := false) mt rfl (by decide) rfl ?_
            show jWp 28 125 [some (jO r), some (jI (n : Int)), some (jO fk), none, none, none, none] [] 0 0 w _
            refine jWp.blk mt 3 ?_
            show _ ∧ _ ∧ jWp 28 128 [some (jO r), some (jI (n : Int)), some (jO fk), none, none, none, none] [jI (n : Int), jO r, jO r] 0 0 w _
            refine ⟨rfl, rfl, ?_⟩
            refine jWp.callv (as := [jO r, jI (n : Int)]) (rest := [jO r]) mt rfl rfl rfl ⟨rfl, jtg hkr⟩ ?_
            refine jCall.mono ((by have h := C_termAt (w := w) (r := r) (rt := rt) (len := len) hkr hkt hrt hlen hl60 hgb (n := n) (by omega); rw [zta_t (by omega)] at h; exact h)) (fun v9 w9 h9 => ?_)
            obtain ⟨rfl, h9⟩ := h9
            subst w9
            show jWp 28 131 [some (jO r), some (jI (n : Int)), some (jO fk), none, none, none, none] [jI (w.1 rt n), jO r] 0 0 w _
            refine jWp.i2l (pc' := 132) mt rfl rfl (b32_id (by omega) (by omega)) ?_
            show jWp 28 132 [some (jO r), some (jI (n : Int)), some (jO fk), none, none, none, none] [jJ (w.1 rt n), jO r] 0 0 w _
            refine jWp.blk mt 4 ?_
            show _ ∧ jWp 28 136 [some (jO r), some (jI (n : Int)), some (jO fk), none, none, none, none] [jI ((n : Int) + 1), jO r, jJ (w.1 rt n), jO r] 0 0 w _
            refine ⟨rfl, ?_⟩
            refine jWp.callv (as := [jO r, jI ((n : Int) + 1)]) (rest := [jJ (w.1 rt n), jO r]) mt rfl rfl rfl ⟨rfl, jtg hkr⟩ ?_
            refine jCall.mono ((by have h := C_termAt (w := w) (r := r) (rt := rt) (len := len) hkr hkt hrt hlen hl60 hgb (n := (n + 1)) (by omega); rw [zta_t (by omega)] at h; exact h)) (fun v9 w9 h9 => ?_)
            obtain ⟨rfl, h9⟩ := h9
            subst w9
            show jWp 28 139 [some (jO r), some (jI (n : Int)), some (jO fk), none, none, none, none] [jI (w.1 rt (n + 1)), jJ (w.1 rt n), jO r] 0 0 w _
            refine jWp.i2l (pc' := 140) mt rfl rfl (b32_id (by omega) (by omega)) ?_
            show jWp 28 140 [some (jO r), some (jI (n : Int)), some (jO fk), none, none, none, none] [jJ (w.1 rt (n + 1)), jJ (w.1 rt n), jO r] 0 0 w _
            refine jWp.blk mt 4 ?_
            show _ ∧ jWp 28 144 [some (jO r), some (jI (n : Int)), some (jO fk), none, none, none, none] [jI ((n : Int) + 2), jO r, jJ (w.1 rt (n + 1)), jJ (w.1 rt n), jO r] 0 0 w _
            refine ⟨rfl, ?_⟩
            refine jWp.callv (as := [jO r, jI ((n : Int) + 2)]) (rest := [jJ (w.1 rt (n + 1)), jJ (w.1 rt n), jO r]) mt rfl rfl rfl ⟨rfl, jtg hkr⟩ ?_
            refine jCall.mono ((by have h := C_termAt (w := w) (r := r) (rt := rt) (len := len) hkr hkt hrt hlen hl60 hgb (n := (n + 2)) (by omega); rw [zta_t (by omega)] at h; exact h)) (fun v9 w9 h9 => ?_)
            obtain ⟨rfl, h9⟩ := h9
            subst w9
            show jWp 28 147 [some (jO r), some (jI (n : Int)), some (jO fk), none, none, none, none] [jI (w.1 rt (n + 2)), jJ (w.1 rt (n + 1)), jJ (w.1 rt n), jO r] 0 0 w _
            refine jWp.i2l (pc' := 148) mt rfl rfl (b32_id (by omega) (by omega)) ?_
            show jWp 28 148 [some (jO r), some (jI (n : Int)), some (jO fk), none, none, none, none] [jJ (w.1 rt (n + 2)), jJ (w.1 rt (n + 1)), jJ (w.1 rt n), jO r] 0 0 w _
            refine jWp.blk mt 4 ?_
            show _ ∧ jWp 28 152 [some (jO r), some (jI (n : Int)), some (jO fk), none, none, none, none] [jI ((n : Int) + 3), jO r, jJ (w.1 rt (n + 2)), jJ (w.1 rt (n + 1)), jJ (w.1 rt n), jO r] 0 0 w _
            refine ⟨rfl, ?_⟩
            refine jWp.callv (as := [jO r, jI ((n : Int) + 3)]) (rest := [jJ (w.1 rt (n + 2)), jJ (w.1 rt (n + 1)), jJ (w.1 rt n), jO r]) mt rfl rfl rfl ⟨rfl, jtg hkr⟩ ?_
            refine jCall.mono ((by have h := C_termAt (w := w) (r := r) (rt := rt) (len := len) hkr hkt hrt hlen hl60 hgb (n := (n + 3)) (by omega); rw [zta_t (by omega)] at h; exact h)) (fun v9 w9 h9 => ?_)
            obtain ⟨rfl, h9⟩ := h9
            subst w9
            show jWp 28 155 [some (jO r), some (jI (n : Int)), some (jO fk), none, none, none, none] [jI (w.1 rt (n + 3)), jJ (w.1 rt (n + 2)), jJ (w.1 rt (n + 1)), jJ (w.1 rt n), jO r] 0 0 w _
            refine jWp.i2l (pc' := 156) mt rfl rfl (b32_id (by omega) (by omega)) ?_
            show jWp 28 156 [some (jO r), some (jI (n : Int)), some (jO fk), none, none, none, none] [jJ (w.1 rt (n + 3)), jJ (w.1 rt (n + 2)), jJ (w.1 rt (n + 1)), jJ (w.1 rt n), jO r] 0 0 w _
            refine jWp.blk mt 1 ?_
            show _ ∧ jWp 28 157 [some (jO r), some (jI (n : Int)), some (jO fk), none, none, none, none] [jO fk, jJ (w.1 rt (n + 3)), jJ (w.1 rt (n + 2)), jJ (w.1 rt (n + 1)), jJ (w.1 rt n), jO r] 0 0 w _
            refine ⟨rfl, ?_⟩
            refine jWp.callv (as := [jO r, jJ (w.1 rt n), jJ (w.1 rt (n + 1)), jJ (w.1 rt (n + 2)), jJ (w.1 rt (n + 3)), jO fk]) (rest := []) mt rfl rfl rfl ⟨rfl, jtg hkr⟩ ?_
            refine jCall.mono (C_keepOfFour (w := w) (r := r) (fk := fk) hkr hkf hfig hf b0.2 b1.2 b2.2 b3.2) (fun v9 w9 h9 => ?_)
            obtain ⟨rfl, h9⟩ := h9
            subst h9
            show jWp 28 160 [some (jO r), some (jI (n : Int)), some (jO fk), none, none, none, none] [] 0 0 (jF1 w fk (zu (((w.1 rt n) * (w.1 rt (n + 3))) * ((w.1 rt n) * (w.1 rt (n + 3))) + (w.1 rt (n + 1)) * (w.1 rt (n + 1)) * (w.1 rt (n + 1)) * (w.1 rt (n + 3)) + (w.1 rt (n + 2)) * (w.1 rt (n + 2)) * (w.1 rt n) * (w.1 rt (n + 2)) + f * ((w.1 rt (n + 1)) * (w.1 rt (n + 2))) * ((w.1 rt (n + 1)) * (w.1 rt (n + 2)))) (((w.1 rt n) * (w.1 rt (n + 3))) * ((w.1 rt (n + 1)) * (w.1 rt (n + 2))))) (zv (((w.1 rt n) * (w.1 rt (n + 3))) * ((w.1 rt n) * (w.1 rt (n + 3))) + (w.1 rt (n + 1)) * (w.1 rt (n + 1)) * (w.1 rt (n + 1)) * (w.1 rt (n + 3)) + (w.1 rt (n + 2)) * (w.1 rt (n + 2)) * (w.1 rt n) * (w.1 rt (n + 2)) + f * ((w.1 rt (n + 1)) * (w.1 rt (n + 2))) * ((w.1 rt (n + 1)) * (w.1 rt (n + 2)))) (((w.1 rt n) * (w.1 rt (n + 3))) * ((w.1 rt (n + 1)) * (w.1 rt (n + 2)))))) _
            refine jWp.blk mt 1 ?_
            show jWp 28 161 [some (jO r), some (jI (n : Int)), some (jO fk), none, none, none, none] [jI 1] 0 0 (jF1 w fk (zu (((w.1 rt n) * (w.1 rt (n + 3))) * ((w.1 rt n) * (w.1 rt (n + 3))) + (w.1 rt (n + 1)) * (w.1 rt (n + 1)) * (w.1 rt (n + 1)) * (w.1 rt (n + 3)) + (w.1 rt (n + 2)) * (w.1 rt (n + 2)) * (w.1 rt n) * (w.1 rt (n + 2)) + f * ((w.1 rt (n + 1)) * (w.1 rt (n + 2))) * ((w.1 rt (n + 1)) * (w.1 rt (n + 2)))) (((w.1 rt n) * (w.1 rt (n + 3))) * ((w.1 rt (n + 1)) * (w.1 rt (n + 2))))) (zv (((w.1 rt n) * (w.1 rt (n + 3))) * ((w.1 rt n) * (w.1 rt (n + 3))) + (w.1 rt (n + 1)) * (w.1 rt (n + 1)) * (w.1 rt (n + 1)) * (w.1 rt (n + 3)) + (w.1 rt (n + 2)) * (w.1 rt (n + 2)) * (w.1 rt n) * (w.1 rt (n + 2)) + f * ((w.1 rt (n + 1)) * (w.1 rt (n + 2))) * ((w.1 rt (n + 1)) * (w.1 rt (n + 2)))) (((w.1 rt n) * (w.1 rt (n + 3))) * ((w.1 rt (n + 1)) * (w.1 rt (n + 2)))))) _
            refine jWp.iretz mt rfl ⟨rfl, rfl⟩ rfl (Or.inr rfl) ?_
            have ez : zkm law = 4 := by unfold zkm; rw [if_neg (by omega), if_neg (by omega), if_pos (by omega)]
            have eu : zku law f (w.1 rt) n = (((w.1 rt n) * (w.1 rt (n + 3))) * ((w.1 rt n) * (w.1 rt (n + 3))) + (w.1 rt (n + 1)) * (w.1 rt (n + 1)) * (w.1 rt (n + 1)) * (w.1 rt (n + 3)) + (w.1 rt (n + 2)) * (w.1 rt (n + 2)) * (w.1 rt n) * (w.1 rt (n + 2)) + f * ((w.1 rt (n + 1)) * (w.1 rt (n + 2))) * ((w.1 rt (n + 1)) * (w.1 rt (n + 2)))) := by unfold zku; rw [if_neg (by omega), if_neg (by omega)]
            have ed : zkd law (w.1 rt) n = (((w.1 rt n) * (w.1 rt (n + 3))) * ((w.1 rt (n + 1)) * (w.1 rt (n + 2)))) := by unfold zkd; rw [if_neg (by omega), if_neg (by omega)]
            have hua := zuA (a := (((w.1 rt n) * (w.1 rt (n + 3))) * ((w.1 rt n) * (w.1 rt (n + 3))) + (w.1 rt (n + 1)) * (w.1 rt (n + 1)) * (w.1 rt (n + 1)) * (w.1 rt (n + 3)) + (w.1 rt (n + 2)) * (w.1 rt (n + 2)) * (w.1 rt n) * (w.1 rt (n + 2)) + f * ((w.1 rt (n + 1)) * (w.1 rt (n + 2))) * ((w.1 rt (n + 1)) * (w.1 rt (n + 2))))) (b := (((w.1 rt n) * (w.1 rt (n + 3))) * ((w.1 rt (n + 1)) * (w.1 rt (n + 2))))) (by omega)
            have hvb := zv_b (a := (((w.1 rt n) * (w.1 rt (n + 3))) * ((w.1 rt n) * (w.1 rt (n + 3))) + (w.1 rt (n + 1)) * (w.1 rt (n + 1)) * (w.1 rt (n + 1)) * (w.1 rt (n + 3)) + (w.1 rt (n + 2)) * (w.1 rt (n + 2)) * (w.1 rt n) * (w.1 rt (n + 2)) + f * ((w.1 rt (n + 1)) * (w.1 rt (n + 2))) * ((w.1 rt (n + 1)) * (w.1 rt (n + 2))))) (b := (((w.1 rt n) * (w.1 rt (n + 3))) * ((w.1 rt (n + 1)) * (w.1 rt (n + 2))))) (by omega)
            refine Or.inl ⟨rfl, ⟨by rw [ez]; decide, by rw [ez]; exact h7⟩, ?_, ?_⟩
            · rw [eu, ed]
            · rw [eu, ed]
              omega
          · have h7 : ¬ (∀ k, n ≤ k → k < n + 4 → k < len ∧ 1 ≤ w.1 rt k ∧ w.1 rt k ≤ 9999) := h7
            show jWp 28 122 [some (jO r), some (jI (n : Int)), some (jO fk), none, none, none, none] [jI 0] 0 0 w _
            refine jWp.ifc (b := true) mt rfl (by decide) rfl ?_
            show jWp 28 162 [some (jO r), some (jI (n : Int)), some (jO fk), none, none, none, none] [] 0 0 w _
            refine jWp.blk mt 1 ?_
            show jWp 28 163 [some (jO r), some (jI (n : Int)), some (jO fk), none, none, none, none] [jI 0] 0 0 w _
            refine jWp.iretz mt rfl ⟨rfl, rfl⟩ rfl (Or.inl rfl) ?_
            refine Or.inr ⟨rfl, fun g => ?_, rfl⟩
            first
            | (exact g.1 (by unfold zkm; rw [if_neg (by omega), if_neg (by omega), if_neg (by omega)]))
            | (have ez : zkm law = 2 := by unfold zkm; rw [if_pos (by omega)]
               have g2 := g.2; rw [ez] at g2; exact absurd g2 (by assumption))
            | (have ez : zkm law = 3 := by unfold zkm; rw [if_neg (by omega), if_pos (by omega)]
               have g2 := g.2; rw [ez] at g2; exact absurd g2 (by assumption))
            | (have ez : zkm law = 4 := by unfold zkm; rw [if_neg (by omega), if_neg (by omega), if_pos (by omega)]
               have g2 := g.2; rw [ez] at g2; exact absurd g2 (by assumption))
  · have h1 : law = 0 := h1
    refine jWp.blk mt 3 ?_
    show _ ∧ jWp 28 10 [some (jO r), some (jI (n : Int)), some (jO fk), none, none, none, none] [jI 2, jI (n : Int), jO r] 0 0 w _
    refine ⟨rfl, ?_⟩
    refine jWp.callv (as := [jO r, jI (n : Int), jI 2]) (rest := []) mt rfl rfl rfl ⟨rfl, jtg hkr⟩ ?_
    refine jCall.mono (C_isPlain (w := w) (r := r) (rt := rt) (len := len) hkr hkt hrt hlen hl60 hgb (n := n) (q := 2) hn (by decide)) (fun v9 w9 h9 => ?_)
    rcases h9 with ⟨rfl, h9, h8⟩ | ⟨rfl, h9, h8⟩ <;> subst w9
    · have h8 : ∀ k, n ≤ k → k < n + 2 → k < len ∧ 1 ≤ w.1 rt k ∧ w.1 rt k ≤ 9999 := h8
      show jWp 28 13 [some (jO r), some (jI (n : Int)), some (jO fk), none, none, none, none] [jI 1] 0 0 w _
      have b0 := h8 (n + 0) (by omega) (by omega)
      have b1 := h8 (n + 1) (by omega) (by omega)
      rw [show n + 0 = n from rfl] at b0
      have hU := zkU0 hf b0.2 b1.2
      refine jWp.ifc (b := false) mt rfl (by decide) rfl ?_
      show jWp 28 16 [some (jO r), some (jI (n : Int)), some (jO fk), none, none, none, none] [] 0 0 w _
      refine jWp.blk mt 2 ?_
      show _ ∧ jWp 28 18 [some (jO r), some (jI (n : Int)), some (jO fk), none, none, none, none] [jI (n : Int), jO r] 0 0 w _
      refine ⟨rfl, ?_⟩
      refine jWp.callv (as := [jO r, jI (n : Int)]) (rest := []) mt rfl rfl rfl ⟨rfl, jtg hkr⟩ ?_
      refine jCall.mono ((by have h := C_termAt (w := w) (r := r) (rt := rt) (len := len) hkr hkt hrt hlen hl60 hgb (n := n) (by omega); rw [zta_t (by omega)] at h; exact h)) (fun v9 w9 h9 => ?_)
      obtain ⟨rfl, h9⟩ := h9
      subst w9
      show jWp 28 21 [some (jO r), some (jI (n : Int)), some (jO fk), none, none, none, none] [jI (w.1 rt n)] 0 0 w _
      refine jWp.i2l (pc' := 22) mt rfl rfl (b32_id (by omega) (by omega)) ?_
      show jWp 28 22 [some (jO r), some (jI (n : Int)), some (jO fk), none, none, none, none] [jJ (w.1 rt n)] 0 0 w _
      refine jWp.blk mt 5 ?_
      show _ ∧ jWp 28 27 [some (jO r), some (jI (n : Int)), some (jO fk), some (jJ (w.1 rt n)), none, none, none] [jI ((n : Int) + 1), jO r] 0 0 w _
      refine ⟨rfl, ?_⟩
      refine jWp.callv (as := [jO r, jI ((n : Int) + 1)]) (rest := []) mt rfl rfl rfl ⟨rfl, jtg hkr⟩ ?_
      refine jCall.mono ((by have h := C_termAt (w := w) (r := r) (rt := rt) (len := len) hkr hkt hrt hlen hl60 hgb (n := (n + 1)) (by omega); rw [zta_t (by omega)] at h; exact h)) (fun v9 w9 h9 => ?_)
      obtain ⟨rfl, h9⟩ := h9
      subst w9
      show jWp 28 30 [some (jO r), some (jI (n : Int)), some (jO fk), some (jJ (w.1 rt n)), none, none, none] [jI (w.1 rt (n + 1))] 0 0 w _
      refine jWp.i2l (pc' := 31) mt rfl rfl (b32_id (by omega) (by omega)) ?_
      show jWp 28 31 [some (jO r), some (jI (n : Int)), some (jO fk), some (jJ (w.1 rt n)), none, none, none] [jJ (w.1 rt (n + 1))] 0 0 w _
      refine jWp.blk mt 10 ?_
      show _ ∧ _ ∧ jWp 28 44 [some (jO r), some (jI (n : Int)), some (jO fk), some (jJ (w.1 rt n)), none, some (jJ (w.1 rt (n + 1))), none] [jO r, jJ (((w.1 rt n) * (w.1 rt n)) + ((w.1 rt (n + 1)) * (w.1 rt (n + 1)))), jO fk] 0 0 w _
      refine ⟨rfl, rfl, ?_⟩
      refine jWp.getI (pc' := 47) mt rfl rfl (jtg hkr) ?_
      rw [show (w.1 r 1) = f from hfig]
      show jWp 28 47 [some (jO r), some (jI (n : Int)), some (jO fk), some (jJ (w.1 rt n)), none, some (jJ (w.1 rt (n + 1))), none] [jI f, jJ (((w.1 rt n) * (w.1 rt n)) + ((w.1 rt (n + 1)) * (w.1 rt (n + 1)))), jO fk] 0 0 w _
      refine jWp.i2l (pc' := 48) mt rfl rfl (b32_id (by omega) (by omega)) ?_
      show jWp 28 48 [some (jO r), some (jI (n : Int)), some (jO fk), some (jJ (w.1 rt n)), none, some (jJ (w.1 rt (n + 1))), none] [jJ f, jJ (((w.1 rt n) * (w.1 rt n)) + ((w.1 rt (n + 1)) * (w.1 rt (n + 1)))), jO fk] 0 0 w _
      refine jWp.blk mt 6 ?_
      show jWp 28 55 [some (jO r), some (jI (n : Int)), some (jO fk), some (jJ (w.1 rt n)), none, some (jJ (w.1 rt (n + 1))), none] [jJ 1, jJ ((((w.1 rt n) * (w.1 rt n)) + ((w.1 rt (n + 1)) * (w.1 rt (n + 1)))) - ((f * (w.1 rt n)) * (w.1 rt (n + 1)))), jO fk] 0 0 w _
      refine jWp.callv (as := [jO fk, jJ ((((w.1 rt n) * (w.1 rt n)) + ((w.1 rt (n + 1)) * (w.1 rt (n + 1)))) - ((f * (w.1 rt n)) * (w.1 rt (n + 1)))), jJ 1]) (rest := []) mt rfl rfl rfl ⟨rfl, jtg hkf⟩ ?_
      refine jCall.mono (C_setn (w := w) hkf (by omega) (by omega)) (fun v9 w9 h9 => ?_)
      obtain ⟨y9, rfl, h9⟩ := h9
      subst h9
      show jWp 28 58 [some (jO r), some (jI (n : Int)), some (jO fk), some (jJ (w.1 rt n)), none, some (jJ (w.1 rt (n + 1))), none] [jI y9] 0 0 (jF1 w fk (zu ((((w.1 rt n) * (w.1 rt n)) + ((w.1 rt (n + 1)) * (w.1 rt (n + 1)))) - ((f * (w.1 rt n)) * (w.1 rt (n + 1)))) 1) (zv ((((w.1 rt n) * (w.1 rt n)) + ((w.1 rt (n + 1)) * (w.1 rt (n + 1)))) - ((f * (w.1 rt n)) * (w.1 rt (n + 1)))) 1)) _
      refine jWp.blk mt 2 ?_
      show jWp 28 60 [some (jO r), some (jI (n : Int)), some (jO fk), some (jJ (w.1 rt n)), none, some (jJ (w.1 rt (n + 1))), none] [jI 1] 0 0 (jF1 w fk (zu ((((w.1 rt n) * (w.1 rt n)) + ((w.1 rt (n + 1)) * (w.1 rt (n + 1)))) - ((f * (w.1 rt n)) * (w.1 rt (n + 1)))) 1) (zv ((((w.1 rt n) * (w.1 rt n)) + ((w.1 rt (n + 1)) * (w.1 rt (n + 1)))) - ((f * (w.1 rt n)) * (w.1 rt (n + 1)))) 1)) _
      refine jWp.iretz mt rfl ⟨rfl, rfl⟩ rfl (Or.inr rfl) ?_
      have ez : zkm law = 2 := by unfold zkm; rw [if_pos (by omega)]
      have eu : zku law f (w.1 rt) n = ((((w.1 rt n) * (w.1 rt n)) + ((w.1 rt (n + 1)) * (w.1 rt (n + 1)))) - ((f * (w.1 rt n)) * (w.1 rt (n + 1)))) := by unfold zku; rw [if_pos (by omega)]
      have ed : zkd law (w.1 rt) n = 1 := by unfold zkd; rw [if_pos (by omega)]
      have hua := zuA (a := ((((w.1 rt n) * (w.1 rt n)) + ((w.1 rt (n + 1)) * (w.1 rt (n + 1)))) - ((f * (w.1 rt n)) * (w.1 rt (n + 1))))) (b := 1) (by omega)
      have hvb := zv_b (a := ((((w.1 rt n) * (w.1 rt n)) + ((w.1 rt (n + 1)) * (w.1 rt (n + 1)))) - ((f * (w.1 rt n)) * (w.1 rt (n + 1))))) (b := 1) (by omega)
      refine Or.inl ⟨rfl, ⟨by rw [ez]; decide, by rw [ez]; exact h8⟩, ?_, ?_⟩
      · rw [eu, ed]
      · rw [eu, ed]
        omega
    · have h8 : ¬ (∀ k, n ≤ k → k < n + 2 → k < len ∧ 1 ≤ w.1 rt k ∧ w.1 rt k ≤ 9999) := h8
      show jWp 28 13 [some (jO r), some (jI (n : Int)), some (jO fk), none, none, none, none] [jI 0] 0 0 w _
      refine jWp.ifc (b := true) mt rfl (by decide) rfl ?_
      show jWp 28 61 [some (jO r), some (jI (n : Int)), some (jO fk), none, none, none, none] [] 0 0 w _
      refine jWp.blk mt 1 ?_
      show _ ∧ jWp 28 62 [some (jO r), some (jI (n : Int)), some (jO fk), none, none, none, none] [jO r] 0 0 w _
      refine ⟨rfl, ?_⟩
      refine jWp.getI (pc' := 65) mt rfl rfl (jtg hkr) ?_
      rw [show (w.1 r 0) = law from hlaw]
      show jWp 28 65 [some (jO r), some (jI (n : Int)), some (jO fk), none, none, none, none] [jI law] 0 0 w _
      refine jWp.blk mt 1 ?_
      show jWp 28 66 [some (jO r), some (jI (n : Int)), some (jO fk), none, none, none, none] [jI 1, jI law] 0 0 w _
      refine jWp.icmp (pc' := 69) mt rfl rfl (b32_id (by omega) (by omega)) (show b32 1 = 1 by decide) (fun h9 => ?_) (fun h9 => ?_)
      · have h9 : law ≠ 1 := h9
        refine jWp.blk mt 1 ?_
        show _ ∧ jWp 28 109 [some (jO r), some (jI (n : Int)), some (jO fk), none, none, none, none] [jO r] 0 0 w _
        refine ⟨rfl, ?_⟩
        refine jWp.getI (pc' := 112) mt rfl rfl (jtg hkr) ?_
        rw [show (w.1 r 0) = law from hlaw]
        show jWp 28 112 [some (jO r), some (jI (n : Int)), some (jO fk), none, none, none, none] [jI law] 0 0 w _
        refine jWp.blk mt 1 ?_
        show jWp 28 113 [some (jO r), some (jI (n : Int)), some (jO fk), none, none, none, none] [jI 3, jI law] 0 0 w _
        refine jWp.icmp (pc' := 116) mt rfl rfl (b32_id (by omega) (by omega)) (show b32 3 = 3 by decide) (fun h10 => ?_) (fun h10 => ?_)
        · have h10 : law ≠ 3 := h10
          refine jWp.blk mt 1 ?_
          show jWp 28 163 [some (jO r), some (jI (n : Int)), some (jO fk), none, none, none, none] [jI 0] 0 0 w _
          refine jWp.iretz mt rfl ⟨rfl, rfl⟩ rfl (Or.inl rfl) ?_
          refine Or.inr ⟨rfl, fun g => ?_, rfl⟩
          first
          | (exact g.1 (by unfold zkm; rw [if_neg (by omega), if_neg (by omega), if_neg (by omega)]))
          | (have ez : zkm law = 2 := by unfold zkm; rw [if_pos (by omega)]
             have g2 := g.2; rw [ez] at g2; exact absurd g2 (by assumption))
          | (have ez : zkm law = 3 := by unfold zkm; rw [if_neg (by omega), if_pos (by omega)]
             have g2 := g.2; rw [ez] at g2; exact absurd g2 (by assumption))
          | (have ez : zkm law = 4 := by unfold zkm; rw [if_neg (by omega), if_neg (by omega), if_pos (by omega)]
             have g2 := g.2; rw [ez] at g2; exact absurd g2 (by assumption))
        · have h10 : law = 3 := h10
          refine jWp.blk mt 3 ?_
          show _ ∧ jWp 28 119 [some (jO r), some (jI (n : Int)), some (jO fk), none, none, none, none] [jI 4, jI (n : Int), jO r] 0 0 w _
          refine ⟨rfl, ?_⟩
          refine jWp.callv (as := [jO r, jI (n : Int), jI 4]) (rest := []) mt rfl rfl rfl ⟨rfl, jtg hkr⟩ ?_
          refine jCall.mono (C_isPlain (w := w) (r := r) (rt := rt) (len := len) hkr hkt hrt hlen hl60 hgb (n := n) (q := 4) hn (by decide)) (fun v9 w9 h9 => ?_)
          rcases h9 with ⟨rfl, h9, h11⟩ | ⟨rfl, h9, h11⟩ <;> subst w9
          · have h11 : ∀ k, n ≤ k → k < n + 4 → k < len ∧ 1 ≤ w.1 rt k ∧ w.1 rt k ≤ 9999 := h11
            show jWp 28 122 [some (jO r), some (jI (n : Int)), some (jO fk), none, none, none, none] [jI 1] 0 0 w _
            have b0 := h11 (n + 0) (by omega) (by omega)
            have b1 := h11 (n + 1) (by omega) (by omega)
            have b2 := h11 (n + 2) (by omega) (by omega)
            have b3 := h11 (n + 3) (by omega) (by omega)
            rw [show n + 0 = n from rfl] at b0
            have hU := zkU3 hf b0.2 b1.2 b2.2 b3.2
            refine jWp.ifc (b := false) mt rfl (by decide) rfl ?_
            show jWp 28 125 [some (jO r), some (jI (n : Int)), some (jO fk), none, none, none, none] [] 0 0 w _
            refine jWp.blk mt 3 ?_
            show _ ∧ _ ∧ jWp 28 128 [some (jO r), some (jI (n : Int)), some (jO fk), none, none, none, none] [jI (n : Int), jO r, jO r] 0 0 w _
            refine ⟨rfl, rfl, ?_⟩
            refine jWp.callv (as := [jO r, jI (n : Int)]) (rest := [jO r]) mt rfl rfl rfl ⟨rfl, jtg hkr⟩ ?_
            refine jCall.mono ((by have h := C_termAt (w := w) (r := r) (rt := rt) (len := len) hkr hkt hrt hlen hl60 hgb (n := n) (by omega); rw [zta_t (by omega)] at h; exact h)) (fun v9 w9 h9 => ?_)
            obtain ⟨rfl, h9⟩ := h9
            subst w9
            show jWp 28 131 [some (jO r), some (jI (n : Int)), some (jO fk), none, none, none, none] [jI (w.1 rt n), jO r] 0 0 w _
            refine jWp.i2l (pc' := 132) mt rfl rfl (b32_id (by omega) (by omega)) ?_
            show jWp 28 132 [some (jO r), some (jI (n : Int)), some (jO fk), none, none, none, none] [jJ (w.1 rt n), jO r] 0 0 w _
            refine jWp.blk mt 4 ?_
            show _ ∧ jWp 28 136 [some (jO r), some (jI (n : Int)), some (jO fk), none, none, none, none] [jI ((n : Int) + 1), jO r, jJ (w.1 rt n), jO r] 0 0 w _
            refine ⟨rfl, ?_⟩
            refine jWp.callv (as := [jO r, jI ((n : Int) + 1)]) (rest := [jJ (w.1 rt n), jO r]) mt rfl rfl rfl ⟨rfl, jtg hkr⟩ ?_
            refine jCall.mono ((by have h := C_termAt (w := w) (r := r) (rt := rt) (len := len) hkr hkt hrt hlen hl60 hgb (n := (n + 1)) (by omega); rw [zta_t (by omega)] at h; exact h)) (fun v9 w9 h9 => ?_)
            obtain ⟨rfl, h9⟩ := h9
            subst w9
            show jWp 28 139 [some (jO r), some (jI (n : Int)), some (jO fk), none, none, none, none] [jI (w.1 rt (n + 1)), jJ (w.1 rt n), jO r] 0 0 w _
            refine jWp.i2l (pc' := 140) mt rfl rfl (b32_id (by omega) (by omega)) ?_
            show jWp 28 140 [some (jO r), some (jI (n : Int)), some (jO fk), none, none, none, none] [jJ (w.1 rt (n + 1)), jJ (w.1 rt n), jO r] 0 0 w _
            refine jWp.blk mt 4 ?_
            show _ ∧ jWp 28 144 [some (jO r), some (jI (n : Int)), some (jO fk), none, none, none, none] [jI ((n : Int) + 2), jO r, jJ (w.1 rt (n + 1)), jJ (w.1 rt n), jO r] 0 0 w _
            refine ⟨rfl, ?_⟩
            refine jWp.callv (as := [jO r, jI ((n : Int) + 2)]) (rest := [jJ (w.1 rt (n + 1)), jJ (w.1 rt n), jO r]) mt rfl rfl rfl ⟨rfl, jtg hkr⟩ ?_
            refine jCall.mono ((by have h := C_termAt (w := w) (r := r) (rt := rt) (len := len) hkr hkt hrt hlen hl60 hgb (n := (n + 2)) (by omega); rw [zta_t (by omega)] at h; exact h)) (fun v9 w9 h9 => ?_)
            obtain ⟨rfl, h9⟩ := h9
            subst w9
            show jWp 28 147 [some (jO r), some (jI (n : Int)), some (jO fk), none, none, none, none] [jI (w.1 rt (n + 2)), jJ (w.1 rt (n + 1)), jJ (w.1 rt n), jO r] 0 0 w _
            refine jWp.i2l (pc' := 148) mt rfl rfl (b32_id (by omega) (by omega)) ?_
            show jWp 28 148 [some (jO r), some (jI (n : Int)), some (jO fk), none, none, none, none] [jJ (w.1 rt (n + 2)), jJ (w.1 rt (n + 1)), jJ (w.1 rt n), jO r] 0 0 w _
            refine jWp.blk mt 4 ?_
            show _ ∧ jWp 28 152 [some (jO r), some (jI (n : Int)), some (jO fk), none, none, none, none] [jI ((n : Int) + 3), jO r, jJ (w.1 rt (n + 2)), jJ (w.1 rt (n + 1)), jJ (w.1 rt n), jO r] 0 0 w _
            refine ⟨rfl, ?_⟩
            refine jWp.callv (as := [jO r, jI ((n : Int) + 3)]) (rest := [jJ (w.1 rt (n + 2)), jJ (w.1 rt (n + 1)), jJ (w.1 rt n), jO r]) mt rfl rfl rfl ⟨rfl, jtg hkr⟩ ?_
            refine jCall.mono ((by have h := C_termAt (w := w) (r := r) (rt := rt) (len := len) hkr hkt hrt hlen hl60 hgb (n := (n + 3)) (by omega); rw [zta_t (by omega)] at h; exact h)) (fun v9 w9 h9 => ?_)
            obtain ⟨rfl, h9⟩ := h9
            subst w9
            show jWp 28 155 [some (jO r), some (jI (n : Int)), some (jO fk), none, none, none, none] [jI (w.1 rt (n + 3)), jJ (w.1 rt (n + 2)), jJ (w.1 rt (n + 1)), jJ (w.1 rt n), jO r] 0 0 w _
            refine jWp.i2l (pc' := 156) mt rfl rfl (b32_id (by omega) (by omega)) ?_
            show jWp 28 156 [some (jO r), some (jI (n : Int)), some (jO fk), none, none, none, none] [jJ (w.1 rt (n + 3)), jJ (w.1 rt (n + 2)), jJ (w.1 rt (n + 1)), jJ (w.1 rt n), jO r] 0 0 w _
            refine jWp.blk mt 1 ?_
            show _ ∧ jWp 28 157 [some (jO r), some (jI (n : Int)), some (jO fk), none, none, none, none] [jO fk, jJ (w.1 rt (n + 3)), jJ (w.1 rt (n + 2)), jJ (w.1 rt (n + 1)), jJ (w.1 rt n), jO r] 0 0 w _
            refine ⟨rfl, ?_⟩
            refine jWp.callv (as := [jO r, jJ (w.1 rt n), jJ (w.1 rt (n + 1)), jJ (w.1 rt (n + 2)), jJ (w.1 rt (n + 3)), jO fk]) (rest := []) mt rfl rfl rfl ⟨rfl, jtg hkr⟩ ?_
            refine jCall.mono (C_keepOfFour (w := w) (r := r) (fk := fk) hkr hkf hfig hf b0.2 b1.2 b2.2 b3.2) (fun v9 w9 h9 => ?_)
            obtain ⟨rfl, h9⟩ := h9
            subst h9
            show jWp 28 160 [some (jO r), some (jI (n : Int)), some (jO fk), none, none, none, none] [] 0 0 (jF1 w fk (zu (((w.1 rt n) * (w.1 rt (n + 3))) * ((w.1 rt n) * (w.1 rt (n + 3))) + (w.1 rt (n + 1)) * (w.1 rt (n + 1)) * (w.1 rt (n + 1)) * (w.1 rt (n + 3)) + (w.1 rt (n + 2)) * (w.1 rt (n + 2)) * (w.1 rt n) * (w.1 rt (n + 2)) + f * ((w.1 rt (n + 1)) * (w.1 rt (n + 2))) * ((w.1 rt (n + 1)) * (w.1 rt (n + 2)))) (((w.1 rt n) * (w.1 rt (n + 3))) * ((w.1 rt (n + 1)) * (w.1 rt (n + 2))))) (zv (((w.1 rt n) * (w.1 rt (n + 3))) * ((w.1 rt n) * (w.1 rt (n + 3))) + (w.1 rt (n + 1)) * (w.1 rt (n + 1)) * (w.1 rt (n + 1)) * (w.1 rt (n + 3)) + (w.1 rt (n + 2)) * (w.1 rt (n + 2)) * (w.1 rt n) * (w.1 rt (n + 2)) + f * ((w.1 rt (n + 1)) * (w.1 rt (n + 2))) * ((w.1 rt (n + 1)) * (w.1 rt (n + 2)))) (((w.1 rt n) * (w.1 rt (n + 3))) * ((w.1 rt (n + 1)) * (w.1 rt (n + 2)))))) _
            refine jWp.blk mt 1 ?_
            show jWp 28 161 [some (jO r), some (jI (n : Int)), some (jO fk), none, none, none, none] [jI 1] 0 0 (jF1 w fk (zu (((w.1 rt n) * (w.1 rt (n + 3))) * ((w.1 rt n) * (w.1 rt (n + 3))) + (w.1 rt (n + 1)) * (w.1 rt (n + 1)) * (w.1 rt (n + 1)) * (w.1 rt (n + 3)) + (w.1 rt (n + 2)) * (w.1 rt (n + 2)) * (w.1 rt n) * (w.1 rt (n + 2)) + f * ((w.1 rt (n + 1)) * (w.1 rt (n + 2))) * ((w.1 rt (n + 1)) * (w.1 rt (n + 2)))) (((w.1 rt n) * (w.1 rt (n + 3))) * ((w.1 rt (n + 1)) * (w.1 rt (n + 2))))) (zv (((w.1 rt n) * (w.1 rt (n + 3))) * ((w.1 rt n) * (w.1 rt (n + 3))) + (w.1 rt (n + 1)) * (w.1 rt (n + 1)) * (w.1 rt (n + 1)) * (w.1 rt (n + 3)) + (w.1 rt (n + 2)) * (w.1 rt (n + 2)) * (w.1 rt n) * (w.1 rt (n + 2)) + f * ((w.1 rt (n + 1)) * (w.1 rt (n + 2))) * ((w.1 rt (n + 1)) * (w.1 rt (n + 2)))) (((w.1 rt n) * (w.1 rt (n + 3))) * ((w.1 rt (n + 1)) * (w.1 rt (n + 2)))))) _
            refine jWp.iretz mt rfl ⟨rfl, rfl⟩ rfl (Or.inr rfl) ?_
            have ez : zkm law = 4 := by unfold zkm; rw [if_neg (by omega), if_neg (by omega), if_pos (by omega)]
            have eu : zku law f (w.1 rt) n = (((w.1 rt n) * (w.1 rt (n + 3))) * ((w.1 rt n) * (w.1 rt (n + 3))) + (w.1 rt (n + 1)) * (w.1 rt (n + 1)) * (w.1 rt (n + 1)) * (w.1 rt (n + 3)) + (w.1 rt (n + 2)) * (w.1 rt (n + 2)) * (w.1 rt n) * (w.1 rt (n + 2)) + f * ((w.1 rt (n + 1)) * (w.1 rt (n + 2))) * ((w.1 rt (n + 1)) * (w.1 rt (n + 2)))) := by unfold zku; rw [if_neg (by omega), if_neg (by omega)]
            have ed : zkd law (w.1 rt) n = (((w.1 rt n) * (w.1 rt (n + 3))) * ((w.1 rt (n + 1)) * (w.1 rt (n + 2)))) := by unfold zkd; rw [if_neg (by omega), if_neg (by omega)]
            have hua := zuA (a := (((w.1 rt n) * (w.1 rt (n + 3))) * ((w.1 rt n) * (w.1 rt (n + 3))) + (w.1 rt (n + 1)) * (w.1 rt (n + 1)) * (w.1 rt (n + 1)) * (w.1 rt (n + 3)) + (w.1 rt (n + 2)) * (w.1 rt (n + 2)) * (w.1 rt n) * (w.1 rt (n + 2)) + f * ((w.1 rt (n + 1)) * (w.1 rt (n + 2))) * ((w.1 rt (n + 1)) * (w.1 rt (n + 2))))) (b := (((w.1 rt n) * (w.1 rt (n + 3))) * ((w.1 rt (n + 1)) * (w.1 rt (n + 2))))) (by omega)
            have hvb := zv_b (a := (((w.1 rt n) * (w.1 rt (n + 3))) * ((w.1 rt n) * (w.1 rt (n + 3))) + (w.1 rt (n + 1)) * (w.1 rt (n + 1)) * (w.1 rt (n + 1)) * (w.1 rt (n + 3)) + (w.1 rt (n + 2)) * (w.1 rt (n + 2)) * (w.1 rt n) * (w.1 rt (n + 2)) + f * ((w.1 rt (n + 1)) * (w.1 rt (n + 2))) * ((w.1 rt (n + 1)) * (w.1 rt (n + 2))))) (b := (((w.1 rt n) * (w.1 rt (n + 3))) * ((w.1 rt (n + 1)) * (w.1 rt (n + 2))))) (by omega)
            refine Or.inl ⟨rfl, ⟨by rw [ez]; decide, by rw [ez]; exact h11⟩, ?_, ?_⟩
            · rw [eu, ed]
            · rw [eu, ed]
              omega
          · have h11 : ¬ (∀ k, n ≤ k → k < n + 4 → k < len ∧ 1 ≤ w.1 rt k ∧ w.1 rt k ≤ 9999) := h11
            show jWp 28 122 [some (jO r), some (jI (n : Int)), some (jO fk), none, none, none, none] [jI 0] 0 0 w _
            refine jWp.ifc (b := true) mt rfl (by decide) rfl ?_
            show jWp 28 162 [some (jO r), some (jI (n : Int)), some (jO fk), none, none, none, none] [] 0 0 w _
            refine jWp.blk mt 1 ?_
            show jWp 28 163 [some (jO r), some (jI (n : Int)), some (jO fk), none, none, none, none] [jI 0] 0 0 w _
            refine jWp.iretz mt rfl ⟨rfl, rfl⟩ rfl (Or.inl rfl) ?_
            refine Or.inr ⟨rfl, fun g => ?_, rfl⟩
            first
            | (exact g.1 (by unfold zkm; rw [if_neg (by omega), if_neg (by omega), if_neg (by omega)]))
            | (have ez : zkm law = 2 := by unfold zkm; rw [if_pos (by omega)]
               have g2 := g.2; rw [ez] at g2; exact absurd g2 (by assumption))
            | (have ez : zkm law = 3 := by unfold zkm; rw [if_neg (by omega), if_pos (by omega)]
               have g2 := g.2; rw [ez] at g2; exact absurd g2 (by assumption))
            | (have ez : zkm law = 4 := by unfold zkm; rw [if_neg (by omega), if_neg (by omega), if_pos (by omega)]
               have g2 := g.2; rw [ez] at g2; exact absurd g2 (by assumption))
      · have h9 : law = 1 := h9
        refine jWp.blk mt 3 ?_
        show _ ∧ jWp 28 72 [some (jO r), some (jI (n : Int)), some (jO fk), none, none, none, none] [jI 3, jI (n : Int), jO r] 0 0 w _
        refine ⟨rfl, ?_⟩
        refine jWp.callv (as := [jO r, jI (n : Int), jI 3]) (rest := []) mt rfl rfl rfl ⟨rfl, jtg hkr⟩ ?_
        refine jCall.mono (C_isPlain (w := w) (r := r) (rt := rt) (len := len) hkr hkt hrt hlen hl60 hgb (n := n) (q := 3) hn (by decide)) (fun v9 w9 h9 => ?_)
        rcases h9 with ⟨rfl, h9, h12⟩ | ⟨rfl, h9, h12⟩ <;> subst w9
        · have h12 : ∀ k, n ≤ k → k < n + 3 → k < len ∧ 1 ≤ w.1 rt k ∧ w.1 rt k ≤ 9999 := h12
          show jWp 28 75 [some (jO r), some (jI (n : Int)), some (jO fk), none, none, none, none] [jI 1] 0 0 w _
          have b0 := h12 (n + 0) (by omega) (by omega)
          have b1 := h12 (n + 1) (by omega) (by omega)
          have b2 := h12 (n + 2) (by omega) (by omega)
          rw [show n + 0 = n from rfl] at b0
          refine jWp.ifc (b := false) mt rfl (by decide) rfl ?_
          show jWp 28 78 [some (jO r), some (jI (n : Int)), some (jO fk), none, none, none, none] [] 0 0 w _
          refine jWp.blk mt 3 ?_
          show _ ∧ _ ∧ jWp 28 81 [some (jO r), some (jI (n : Int)), some (jO fk), none, none, none, none] [jI (n : Int), jO r, jO fk] 0 0 w _
          refine ⟨rfl, rfl, ?_⟩
          refine jWp.callv (as := [jO r, jI (n : Int)]) (rest := [jO fk]) mt rfl rfl rfl ⟨rfl, jtg hkr⟩ ?_
          refine jCall.mono ((by have h := C_termAt (w := w) (r := r) (rt := rt) (len := len) hkr hkt hrt hlen hl60 hgb (n := n) (by omega); rw [zta_t (by omega)] at h; exact h)) (fun v9 w9 h9 => ?_)
          obtain ⟨rfl, h9⟩ := h9
          subst w9
          show jWp 28 84 [some (jO r), some (jI (n : Int)), some (jO fk), none, none, none, none] [jI (w.1 rt n), jO fk] 0 0 w _
          refine jWp.i2l (pc' := 85) mt rfl rfl (b32_id (by omega) (by omega)) ?_
          show jWp 28 85 [some (jO r), some (jI (n : Int)), some (jO fk), none, none, none, none] [jJ (w.1 rt n), jO fk] 0 0 w _
          refine jWp.blk mt 4 ?_
          show _ ∧ jWp 28 89 [some (jO r), some (jI (n : Int)), some (jO fk), none, none, none, none] [jI ((n : Int) + 2), jO r, jJ (w.1 rt n), jO fk] 0 0 w _
          refine ⟨rfl, ?_⟩
          refine jWp.callv (as := [jO r, jI ((n : Int) + 2)]) (rest := [jJ (w.1 rt n), jO fk]) mt rfl rfl rfl ⟨rfl, jtg hkr⟩ ?_
          refine jCall.mono ((by have h := C_termAt (w := w) (r := r) (rt := rt) (len := len) hkr hkt hrt hlen hl60 hgb (n := (n + 2)) (by omega); rw [zta_t (by omega)] at h; exact h)) (fun v9 w9 h9 => ?_)
          obtain ⟨rfl, h9⟩ := h9
          subst w9
          show jWp 28 92 [some (jO r), some (jI (n : Int)), some (jO fk), none, none, none, none] [jI (w.1 rt (n + 2)), jJ (w.1 rt n), jO fk] 0 0 w _
          refine jWp.i2l (pc' := 93) mt rfl rfl (b32_id (by omega) (by omega)) ?_
          show jWp 28 93 [some (jO r), some (jI (n : Int)), some (jO fk), none, none, none, none] [jJ (w.1 rt (n + 2)), jJ (w.1 rt n), jO fk] 0 0 w _
          refine jWp.blk mt 5 ?_
          show _ ∧ jWp 28 98 [some (jO r), some (jI (n : Int)), some (jO fk), none, none, none, none] [jI ((n : Int) + 1), jO r, jJ ((w.1 rt n) + (w.1 rt (n + 2))), jO fk] 0 0 w _
          refine ⟨rfl, ?_⟩
          refine jWp.callv (as := [jO r, jI ((n : Int) + 1)]) (rest := [jJ ((w.1 rt n) + (w.1 rt (n + 2))), jO fk]) mt rfl rfl rfl ⟨rfl, jtg hkr⟩ ?_
          refine jCall.mono ((by have h := C_termAt (w := w) (r := r) (rt := rt) (len := len) hkr hkt hrt hlen hl60 hgb (n := (n + 1)) (by omega); rw [zta_t (by omega)] at h; exact h)) (fun v9 w9 h9 => ?_)
          obtain ⟨rfl, h9⟩ := h9
          subst w9
          show jWp 28 101 [some (jO r), some (jI (n : Int)), some (jO fk), none, none, none, none] [jI (w.1 rt (n + 1)), jJ ((w.1 rt n) + (w.1 rt (n + 2))), jO fk] 0 0 w _
          refine jWp.i2l (pc' := 102) mt rfl rfl (b32_id (by omega) (by omega)) ?_
          show jWp 28 102 [some (jO r), some (jI (n : Int)), some (jO fk), none, none, none, none] [jJ (w.1 rt (n + 1)), jJ ((w.1 rt n) + (w.1 rt (n + 2))), jO fk] 0 0 w _
          refine jWp.callv (as := [jO fk, jJ ((w.1 rt n) + (w.1 rt (n + 2))), jJ (w.1 rt (n + 1))]) (rest := []) mt rfl rfl rfl ⟨rfl, jtg hkf⟩ ?_
          refine jCall.mono (C_setn (w := w) hkf (by omega) (by omega)) (fun v9 w9 h9 => ?_)
          obtain ⟨y9, rfl, h9⟩ := h9
          subst h9
          show jWp 28 105 [some (jO r), some (jI (n : Int)), some (jO fk), none, none, none, none] [jI y9] 0 0 (jF1 w fk (zu ((w.1 rt n) + (w.1 rt (n + 2))) (w.1 rt (n + 1))) (zv ((w.1 rt n) + (w.1 rt (n + 2))) (w.1 rt (n + 1)))) _
          refine jWp.blk mt 2 ?_
          show jWp 28 107 [some (jO r), some (jI (n : Int)), some (jO fk), none, none, none, none] [jI 1] 0 0 (jF1 w fk (zu ((w.1 rt n) + (w.1 rt (n + 2))) (w.1 rt (n + 1))) (zv ((w.1 rt n) + (w.1 rt (n + 2))) (w.1 rt (n + 1)))) _
          refine jWp.iretz mt rfl ⟨rfl, rfl⟩ rfl (Or.inr rfl) ?_
          have ez : zkm law = 3 := by unfold zkm; rw [if_neg (by omega), if_pos (by omega)]
          have eu : zku law f (w.1 rt) n = ((w.1 rt n) + (w.1 rt (n + 2))) := by unfold zku; rw [if_neg (by omega), if_pos (by omega)]
          have ed : zkd law (w.1 rt) n = (w.1 rt (n + 1)) := by unfold zkd; rw [if_neg (by omega), if_pos (by omega)]
          have hua := zuA (a := ((w.1 rt n) + (w.1 rt (n + 2)))) (b := (w.1 rt (n + 1))) (by omega)
          have hvb := zv_b (a := ((w.1 rt n) + (w.1 rt (n + 2)))) (b := (w.1 rt (n + 1))) (by omega)
          refine Or.inl ⟨rfl, ⟨by rw [ez]; decide, by rw [ez]; exact h12⟩, ?_, ?_⟩
          · rw [eu, ed]
          · rw [eu, ed]
            omega
        · have h12 : ¬ (∀ k, n ≤ k → k < n + 3 → k < len ∧ 1 ≤ w.1 rt k ∧ w.1 rt k ≤ 9999) := h12
          show jWp 28 75 [some (jO r), some (jI (n : Int)), some (jO fk), none, none, none, none] [jI 0] 0 0 w _
          refine jWp.ifc (b := true) mt rfl (by decide) rfl ?_
          show jWp 28 108 [some (jO r), some (jI (n : Int)), some (jO fk), none, none, none, none] [] 0 0 w _
          refine jWp.blk mt 1 ?_
          show _ ∧ jWp 28 109 [some (jO r), some (jI (n : Int)), some (jO fk), none, none, none, none] [jO r] 0 0 w _
          refine ⟨rfl, ?_⟩
          refine jWp.getI (pc' := 112) mt rfl rfl (jtg hkr) ?_
          rw [show (w.1 r 0) = law from hlaw]
          show jWp 28 112 [some (jO r), some (jI (n : Int)), some (jO fk), none, none, none, none] [jI law] 0 0 w _
          refine jWp.blk mt 1 ?_
          show jWp 28 113 [some (jO r), some (jI (n : Int)), some (jO fk), none, none, none, none] [jI 3, jI law] 0 0 w _
          refine jWp.icmp (pc' := 116) mt rfl rfl (b32_id (by omega) (by omega)) (show b32 3 = 3 by decide) (fun h13 => ?_) (fun h13 => ?_)
          · have h13 : law ≠ 3 := h13
            refine jWp.blk mt 1 ?_
            show jWp 28 163 [some (jO r), some (jI (n : Int)), some (jO fk), none, none, none, none] [jI 0] 0 0 w _
            refine jWp.iretz mt rfl ⟨rfl, rfl⟩ rfl (Or.inl rfl) ?_
            refine Or.inr ⟨rfl, fun g => ?_, rfl⟩
            first
            | (exact g.1 (by unfold zkm; rw [if_neg (by omega), if_neg (by omega), if_neg (by omega)]))
            | (have ez : zkm law = 2 := by unfold zkm; rw [if_pos (by omega)]
               have g2 := g.2; rw [ez] at g2; exact absurd g2 (by assumption))
            | (have ez : zkm law = 3 := by unfold zkm; rw [if_neg (by omega), if_pos (by omega)]
               have g2 := g.2; rw [ez] at g2; exact absurd g2 (by assumption))
            | (have ez : zkm law = 4 := by unfold zkm; rw [if_neg (by omega), if_neg (by omega), if_pos (by omega)]
               have g2 := g.2; rw [ez] at g2; exact absurd g2 (by assumption))
          · have h13 : law = 3 := h13
            refine jWp.blk mt 3 ?_
            show _ ∧ jWp 28 119 [some (jO r), some (jI (n : Int)), some (jO fk), none, none, none, none] [jI 4, jI (n : Int), jO r] 0 0 w _
            refine ⟨rfl, ?_⟩
            refine jWp.callv (as := [jO r, jI (n : Int), jI 4]) (rest := []) mt rfl rfl rfl ⟨rfl, jtg hkr⟩ ?_
            refine jCall.mono (C_isPlain (w := w) (r := r) (rt := rt) (len := len) hkr hkt hrt hlen hl60 hgb (n := n) (q := 4) hn (by decide)) (fun v9 w9 h9 => ?_)
            rcases h9 with ⟨rfl, h9, h14⟩ | ⟨rfl, h9, h14⟩ <;> subst w9
            · have h14 : ∀ k, n ≤ k → k < n + 4 → k < len ∧ 1 ≤ w.1 rt k ∧ w.1 rt k ≤ 9999 := h14
              show jWp 28 122 [some (jO r), some (jI (n : Int)), some (jO fk), none, none, none, none] [jI 1] 0 0 w _
              have b0 := h14 (n + 0) (by omega) (by omega)
              have b1 := h14 (n + 1) (by omega) (by omega)
              have b2 := h14 (n + 2) (by omega) (by omega)
              have b3 := h14 (n + 3) (by omega) (by omega)
              rw [show n + 0 = n from rfl] at b0
              have hU := zkU3 hf b0.2 b1.2 b2.2 b3.2
              refine jWp.ifc (b := false) mt rfl (by decide) rfl ?_
              show jWp 28 125 [some (jO r), some (jI (n : Int)), some (jO fk), none, none, none, none] [] 0 0 w _
              refine jWp.blk mt 3 ?_
              show _ ∧ _ ∧ jWp 28 128 [some (jO r), some (jI (n : Int)), some (jO fk), none, none, none, none] [jI (n : Int), jO r, jO r] 0 0 w _
              refine ⟨rfl, rfl, ?_⟩
              refine jWp.callv (as := [jO r, jI (n : Int)]) (rest := [jO r]) mt rfl rfl rfl ⟨rfl, jtg hkr⟩ ?_
              refine jCall.mono ((by have h := C_termAt (w := w) (r := r) (rt := rt) (len := len) hkr hkt hrt hlen hl60 hgb (n := n) (by omega); rw [zta_t (by omega)] at h; exact h)) (fun v9 w9 h9 => ?_)
              obtain ⟨rfl, h9⟩ := h9
              subst w9
              show jWp 28 131 [some (jO r), some (jI (n : Int)), some (jO fk), none, none, none, none] [jI (w.1 rt n), jO r] 0 0 w _
              refine jWp.i2l (pc' := 132) mt rfl rfl (b32_id (by omega) (by omega)) ?_
              show jWp 28 132 [some (jO r), some (jI (n : Int)), some (jO fk), none, none, none, none] [jJ (w.1 rt n), jO r] 0 0 w _
              refine jWp.blk mt 4 ?_
              show _ ∧ jWp 28 136 [some (jO r), some (jI (n : Int)), some (jO fk), none, none, none, none] [jI ((n : Int) + 1), jO r, jJ (w.1 rt n), jO r] 0 0 w _
              refine ⟨rfl, ?_⟩
              refine jWp.callv (as := [jO r, jI ((n : Int) + 1)]) (rest := [jJ (w.1 rt n), jO r]) mt rfl rfl rfl ⟨rfl, jtg hkr⟩ ?_
              refine jCall.mono ((by have h := C_termAt (w := w) (r := r) (rt := rt) (len := len) hkr hkt hrt hlen hl60 hgb (n := (n + 1)) (by omega); rw [zta_t (by omega)] at h; exact h)) (fun v9 w9 h9 => ?_)
              obtain ⟨rfl, h9⟩ := h9
              subst w9
              show jWp 28 139 [some (jO r), some (jI (n : Int)), some (jO fk), none, none, none, none] [jI (w.1 rt (n + 1)), jJ (w.1 rt n), jO r] 0 0 w _
              refine jWp.i2l (pc' := 140) mt rfl rfl (b32_id (by omega) (by omega)) ?_
              show jWp 28 140 [some (jO r), some (jI (n : Int)), some (jO fk), none, none, none, none] [jJ (w.1 rt (n + 1)), jJ (w.1 rt n), jO r] 0 0 w _
              refine jWp.blk mt 4 ?_
              show _ ∧ jWp 28 144 [some (jO r), some (jI (n : Int)), some (jO fk), none, none, none, none] [jI ((n : Int) + 2), jO r, jJ (w.1 rt (n + 1)), jJ (w.1 rt n), jO r] 0 0 w _
              refine ⟨rfl, ?_⟩
              refine jWp.callv (as := [jO r, jI ((n : Int) + 2)]) (rest := [jJ (w.1 rt (n + 1)), jJ (w.1 rt n), jO r]) mt rfl rfl rfl ⟨rfl, jtg hkr⟩ ?_
              refine jCall.mono ((by have h := C_termAt (w := w) (r := r) (rt := rt) (len := len) hkr hkt hrt hlen hl60 hgb (n := (n + 2)) (by omega); rw [zta_t (by omega)] at h; exact h)) (fun v9 w9 h9 => ?_)
              obtain ⟨rfl, h9⟩ := h9
              subst w9
              show jWp 28 147 [some (jO r), some (jI (n : Int)), some (jO fk), none, none, none, none] [jI (w.1 rt (n + 2)), jJ (w.1 rt (n + 1)), jJ (w.1 rt n), jO r] 0 0 w _
              refine jWp.i2l (pc' := 148) mt rfl rfl (b32_id (by omega) (by omega)) ?_
              show jWp 28 148 [some (jO r), some (jI (n : Int)), some (jO fk), none, none, none, none] [jJ (w.1 rt (n + 2)), jJ (w.1 rt (n + 1)), jJ (w.1 rt n), jO r] 0 0 w _
              refine jWp.blk mt 4 ?_
              show _ ∧ jWp 28 152 [some (jO r), some (jI (n : Int)), some (jO fk), none, none, none, none] [jI ((n : Int) + 3), jO r, jJ (w.1 rt (n + 2)), jJ (w.1 rt (n + 1)), jJ (w.1 rt n), jO r] 0 0 w _
              refine ⟨rfl, ?_⟩
              refine jWp.callv (as := [jO r, jI ((n : Int) + 3)]) (rest := [jJ (w.1 rt (n + 2)), jJ (w.1 rt (n + 1)), jJ (w.1 rt n), jO r]) mt rfl rfl rfl ⟨rfl, jtg hkr⟩ ?_
              refine jCall.mono ((by have h := C_termAt (w := w) (r := r) (rt := rt) (len := len) hkr hkt hrt hlen hl60 hgb (n := (n + 3)) (by omega); rw [zta_t (by omega)] at h; exact h)) (fun v9 w9 h9 => ?_)
              obtain ⟨rfl, h9⟩ := h9
              subst w9
              show jWp 28 155 [some (jO r), some (jI (n : Int)), some (jO fk), none, none, none, none] [jI (w.1 rt (n + 3)), jJ (w.1 rt (n + 2)), jJ (w.1 rt (n + 1)), jJ (w.1 rt n), jO r] 0 0 w _
              refine jWp.i2l (pc' := 156) mt rfl rfl (b32_id (by omega) (by omega)) ?_
              show jWp 28 156 [some (jO r), some (jI (n : Int)), some (jO fk), none, none, none, none] [jJ (w.1 rt (n + 3)), jJ (w.1 rt (n + 2)), jJ (w.1 rt (n + 1)), jJ (w.1 rt n), jO r] 0 0 w _
              refine jWp.blk mt 1 ?_
              show _ ∧ jWp 28 157 [some (jO r), some (jI (n : Int)), some (jO fk), none, none, none, none] [jO fk, jJ (w.1 rt (n + 3)), jJ (w.1 rt (n + 2)), jJ (w.1 rt (n + 1)), jJ (w.1 rt n), jO r] 0 0 w _
              refine ⟨rfl, ?_⟩
              refine jWp.callv (as := [jO r, jJ (w.1 rt n), jJ (w.1 rt (n + 1)), jJ (w.1 rt (n + 2)), jJ (w.1 rt (n + 3)), jO fk]) (rest := []) mt rfl rfl rfl ⟨rfl, jtg hkr⟩ ?_
              refine jCall.mono (C_keepOfFour (w := w) (r := r) (fk := fk) hkr hkf hfig hf b0.2 b1.2 b2.2 b3.2) (fun v9 w9 h9 => ?_)
              obtain ⟨rfl, h9⟩ := h9
              subst h9
              show jWp 28 160 [some (jO r), some (jI (n : Int)), some (jO fk), none, none, none, none] [] 0 0 (jF1 w fk (zu (((w.1 rt n) * (w.1 rt (n + 3))) * ((w.1 rt n) * (w.1 rt (n + 3))) + (w.1 rt (n + 1)) * (w.1 rt (n + 1)) * (w.1 rt (n + 1)) * (w.1 rt (n + 3)) + (w.1 rt (n + 2)) * (w.1 rt (n + 2)) * (w.1 rt n) * (w.1 rt (n + 2)) + f * ((w.1 rt (n + 1)) * (w.1 rt (n + 2))) * ((w.1 rt (n + 1)) * (w.1 rt (n + 2)))) (((w.1 rt n) * (w.1 rt (n + 3))) * ((w.1 rt (n + 1)) * (w.1 rt (n + 2))))) (zv (((w.1 rt n) * (w.1 rt (n + 3))) * ((w.1 rt n) * (w.1 rt (n + 3))) + (w.1 rt (n + 1)) * (w.1 rt (n + 1)) * (w.1 rt (n + 1)) * (w.1 rt (n + 3)) + (w.1 rt (n + 2)) * (w.1 rt (n + 2)) * (w.1 rt n) * (w.1 rt (n + 2)) + f * ((w.1 rt (n + 1)) * (w.1 rt (n + 2))) * ((w.1 rt (n + 1)) * (w.1 rt (n + 2)))) (((w.1 rt n) * (w.1 rt (n + 3))) * ((w.1 rt (n + 1)) * (w.1 rt (n + 2)))))) _
              refine jWp.blk mt 1 ?_
              show jWp 28 161 [some (jO r), some (jI (n : Int)), some (jO fk), none, none, none, none] [jI 1] 0 0 (jF1 w fk (zu (((w.1 rt n) * (w.1 rt (n + 3))) * ((w.1 rt n) * (w.1 rt (n + 3))) + (w.1 rt (n + 1)) * (w.1 rt (n + 1)) * (w.1 rt (n + 1)) * (w.1 rt (n + 3)) + (w.1 rt (n + 2)) * (w.1 rt (n + 2)) * (w.1 rt n) * (w.1 rt (n + 2)) + f * ((w.1 rt (n + 1)) * (w.1 rt (n + 2))) * ((w.1 rt (n + 1)) * (w.1 rt (n + 2)))) (((w.1 rt n) * (w.1 rt (n + 3))) * ((w.1 rt (n + 1)) * (w.1 rt (n + 2))))) (zv (((w.1 rt n) * (w.1 rt (n + 3))) * ((w.1 rt n) * (w.1 rt (n + 3))) + (w.1 rt (n + 1)) * (w.1 rt (n + 1)) * (w.1 rt (n + 1)) * (w.1 rt (n + 3)) + (w.1 rt (n + 2)) * (w.1 rt (n + 2)) * (w.1 rt n) * (w.1 rt (n + 2)) + f * ((w.1 rt (n + 1)) * (w.1 rt (n + 2))) * ((w.1 rt (n + 1)) * (w.1 rt (n + 2)))) (((w.1 rt n) * (w.1 rt (n + 3))) * ((w.1 rt (n + 1)) * (w.1 rt (n + 2)))))) _
              refine jWp.iretz mt rfl ⟨rfl, rfl⟩ rfl (Or.inr rfl) ?_
              have ez : zkm law = 4 := by unfold zkm; rw [if_neg (by omega), if_neg (by omega), if_pos (by omega)]
              have eu : zku law f (w.1 rt) n = (((w.1 rt n) * (w.1 rt (n + 3))) * ((w.1 rt n) * (w.1 rt (n + 3))) + (w.1 rt (n + 1)) * (w.1 rt (n + 1)) * (w.1 rt (n + 1)) * (w.1 rt (n + 3)) + (w.1 rt (n + 2)) * (w.1 rt (n + 2)) * (w.1 rt n) * (w.1 rt (n + 2)) + f * ((w.1 rt (n + 1)) * (w.1 rt (n + 2))) * ((w.1 rt (n + 1)) * (w.1 rt (n + 2)))) := by unfold zku; rw [if_neg (by omega), if_neg (by omega)]
              have ed : zkd law (w.1 rt) n = (((w.1 rt n) * (w.1 rt (n + 3))) * ((w.1 rt (n + 1)) * (w.1 rt (n + 2)))) := by unfold zkd; rw [if_neg (by omega), if_neg (by omega)]
              have hua := zuA (a := (((w.1 rt n) * (w.1 rt (n + 3))) * ((w.1 rt n) * (w.1 rt (n + 3))) + (w.1 rt (n + 1)) * (w.1 rt (n + 1)) * (w.1 rt (n + 1)) * (w.1 rt (n + 3)) + (w.1 rt (n + 2)) * (w.1 rt (n + 2)) * (w.1 rt n) * (w.1 rt (n + 2)) + f * ((w.1 rt (n + 1)) * (w.1 rt (n + 2))) * ((w.1 rt (n + 1)) * (w.1 rt (n + 2))))) (b := (((w.1 rt n) * (w.1 rt (n + 3))) * ((w.1 rt (n + 1)) * (w.1 rt (n + 2))))) (by omega)
              have hvb := zv_b (a := (((w.1 rt n) * (w.1 rt (n + 3))) * ((w.1 rt n) * (w.1 rt (n + 3))) + (w.1 rt (n + 1)) * (w.1 rt (n + 1)) * (w.1 rt (n + 1)) * (w.1 rt (n + 3)) + (w.1 rt (n + 2)) * (w.1 rt (n + 2)) * (w.1 rt n) * (w.1 rt (n + 2)) + f * ((w.1 rt (n + 1)) * (w.1 rt (n + 2))) * ((w.1 rt (n + 1)) * (w.1 rt (n + 2))))) (b := (((w.1 rt n) * (w.1 rt (n + 3))) * ((w.1 rt (n + 1)) * (w.1 rt (n + 2))))) (by omega)
              refine Or.inl ⟨rfl, ⟨by rw [ez]; decide, by rw [ez]; exact h14⟩, ?_, ?_⟩
              · rw [eu, ed]
              · rw [eu, ed]
                omega
            · have h14 : ¬ (∀ k, n ≤ k → k < n + 4 → k < len ∧ 1 ≤ w.1 rt k ∧ w.1 rt k ≤ 9999) := h14
              show jWp 28 122 [some (jO r), some (jI (n : Int)), some (jO fk), none, none, none, none] [jI 0] 0 0 w _
              refine jWp.ifc (b := true) mt rfl (by decide) rfl ?_
              show jWp 28 162 [some (jO r), some (jI (n : Int)), some (jO fk), none, none, none, none] [] 0 0 w _
              refine jWp.blk mt 1 ?_
              show jWp 28 163 [some (jO r), some (jI (n : Int)), some (jO fk), none, none, none, none] [jI 0] 0 0 w _
              refine jWp.iretz mt rfl ⟨rfl, rfl⟩ rfl (Or.inl rfl) ?_
              refine Or.inr ⟨rfl, fun g => ?_, rfl⟩
              first
              | (exact g.1 (by unfold zkm; rw [if_neg (by omega), if_neg (by omega), if_neg (by omega)]))
              | (have ez : zkm law = 2 := by unfold zkm; rw [if_pos (by omega)]
                 have g2 := g.2; rw [ez] at g2; exact absurd g2 (by assumption))
              | (have ez : zkm law = 3 := by unfold zkm; rw [if_neg (by omega), if_pos (by omega)]
                 have g2 := g.2; rw [ez] at g2; exact absurd g2 (by assumption))
              | (have ez : zkm law = 4 := by unfold zkm; rw [if_neg (by omega), if_neg (by omega), if_pos (by omega)]
                 have g2 := g.2; rw [ez] at g2; exact absurd g2 (by assumption))
