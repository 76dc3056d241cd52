theorem kA_W0 {w : jS} {a k : Nat} {x : Int} : jW w a k x = kA w a (zset (w.1 a) k x) := by
  rw [← kA_W, kA_self]
/-- what a seed is when it begins -/
def zbg (q S : Nat → Int) : Prop := (∀ j, j < 21 → S j = q j) ∧ (∀ i, i < 4 → S (21 + i) = q (17 + i) ∧ S (25 + i) = 1) ∧ (∀ i c, i < 4 → c < 4 → S (29 + 4 * i + c) = if i = c then -1 else 0)
set_option maxHeartbeats 4000000 in
set_option maxRecDepth 20000 in
theorem E_copies {w : jS} {a q : Nat} (ha : w.2.1 a = (101, 45)) (hq : w.2.1 q = (101, 45)) (haq : a ≠ q) : jCall 162 [jO a, jO q] w (fun v w1 => v = none ∧ ∃ T, w1 = kA w q T ∧ ∀ j, j < 45 → T j = w.1 a j) := by
  have mt : jtb 162 = jT162 := rfl
  show jWp 162 0 [some (jO a), some (jO q), none] [] 0 0 w _
  refine jWp.blk mt 2 ?_
  show jWp 162 2 [some (jO a), some (jO q), some (jI 0)] [] 0 0 w _
  have lp1 : ∀ (N : Nat) (c : Nat) (T : Nat → Int) (hc : c ≤ 45) (hT : ∀ j, j < c → T j = w.1 a j), 45 - c < N → jWp 162 2 [some (jO a), some (jO q), some (jI (c : Int))] [] 0 0 (kA w q T) (fun v w1 => v = none ∧ ∃ T, w1 = kA w q T ∧ ∀ j, j < 45 → T j = w.1 a j) := by
    intro N
    induction N with
    | zero => intro c T hc hT hm; omega
    | succ N ih2 =>
      intro c T hc hT hm
      refine jWp.blk mt 2 ?_
      show jWp 162 5 [some (jO a), some (jO q), some (jI (c : Int))] [jI 45, jI (c : Int)] 0 0 (kA w q T) _
      refine jWp.icmp (pc' := 8) mt rfl rfl (b32_id (by omega) (by omega)) (show b32 45 = 45 by decide) (fun h3 => ?_) (fun h3 => ?_)
      · have h3 : 45 ≤ (c : Int) := h3
        refine jWp.vret mt rfl ⟨rfl, rfl⟩ rfl ?_
        exact ⟨rfl, T, rfl, fun j hj => hT j (by omega)⟩
      · have h3 : (c : Int) < 45 := h3
        refine jWp.blk mt 4 ?_
        show _ ∧ _ ∧ jWp 162 12 [some (jO a), some (jO q), some (jI (c : Int))] [jI (c : Int), jO a, jI (c : Int), jO q] 0 0 (kA w q T) _
        refine ⟨rfl, rfl, ?_⟩
        refine jWp.lald (pc' := 13) (j := c) mt rfl rfl (jtg ha) (by rw [b32_id (by omega) (by omega)] <;> omega) (jlt ha (by omega)) ?_
        rw [show ((kA w q T).1 a c) = (w.1 a c) from (kA_a haq)]
        show jWp 162 13 [some (jO a), some (jO q), some (jI (c : Int))] [jJ (w.1 a c), jI (c : Int), jO q] 0 0 (kA w q T) _
        refine jWp.last (pc' := 14) (j := c) mt rfl rfl (jtg hq) (by rw [b32_id (by omega) (by omega)] <;> omega) (jlt hq (by omega)) ?_
        rw [show jW (kA w q T) q c (w.1 a c) = (kA w q (zset T c (w.1 a c))) from kA_W]
        show jWp 162 14 [some (jO a), some (jO q), some (jI (c : Int))] [] 0 0 (kA w q (zset T c (w.1 a c))) _
        refine jWp.blk mt 2 ?_
        show jWp 162 2 [some (jO a), some (jO q), some (jI ((c : Int) + 1))] [] 0 0 (kA w q (zset T c (w.1 a c))) _
        refine jWp.le (l := [some (jO a), some (jO q), some (jI ((c : Int) + 1))]) (by exact ⟨rfl, rfl, rfl, trivial⟩) ?_
        exact ih2 (c + 1) _ (by omega) (fun j hj => by rcases Nat.lt_or_ge j c with h | h; rw [zset_n (by omega)]; exact hT j h; rw [show j = c by omega, zset_s]) (by omega)
  refine jWp.le (l := [some (jO a), some (jO q), some (jI 0)]) (by exact ⟨rfl, rfl, rfl, trivial⟩) ?_
  have key := lp1 _ 0 (w.1 q) (by omega) (fun j hj => absurd hj (by omega)) (Nat.lt_succ_self _)
  rw [kA_self] at key
  exact key
set_option maxHeartbeats 4000000 in
set_option maxRecDepth 20000 in
theorem E_begun {w : jS} {m q : Nat} (hq : w.2.1 q = (101, 45)) : jCall 159 [jO m, jO q] w (fun v w1 => v = none ∧ ∃ S, w1 = kA w q S ∧ zbg (w.1 q) S) := by
  have mt : jtb 159 = jT159 := rfl
  show jWp 159 0 [some (jO m), some (jO q), none, none] [] 0 0 w _
  refine jWp.blk mt 2 ?_
  show jWp 159 2 [some (jO m), some (jO q), some (jI 0), none] [] 0 0 w _
  have lp1 : ∀ (N : Nat) (i : Nat) (T : Nat → Int) (hi : i ≤ 4) (hb : ∀ j, j < 21 → T j = w.1 q j) (hu : ∀ x, x < i → T (21 + x) = w.1 q (17 + x) ∧ T (25 + x) = 1) (hd : ∀ x c, x < i → c < 4 → T (29 + 4 * x + c) = if x = c then -1 else 0), 4 - i < N → jWp 159 2 [none, some (jO q), some (jI (i : Int)), none] [] 0 0 (kA w q T) (fun v w1 => v = none ∧ ∃ S, w1 = kA w q S ∧ zbg (w.1 q) S) := by
    intro N
    induction N with
    | zero => intro i T hi hb hu hd hm; omega
    | succ N ih2 =>
      intro i T hi hb hu hd hm
      refine jWp.blk mt 2 ?_
      show jWp 159 4 [none, some (jO q), some (jI (i : Int)), none] [jI 4, jI (i : Int)] 0 0 (kA w q T) _
      refine jWp.icmp (pc' := 7) mt rfl rfl (b32_id (by omega) (by omega)) (show b32 4 = 4 by decide) (fun h3 => ?_) (fun h3 => ?_)
      · have h3 : 4 ≤ (i : Int) := h3
        refine jWp.vret mt rfl ⟨rfl, rfl⟩ rfl ?_
        exact ⟨rfl, T, rfl, hb, fun i hi => hu i (by omega), fun i c hi hc => hd i c (by omega) hc⟩
      · have h3 : (i : Int) < 4 := h3
        refine jWp.blk mt 8 ?_
        show _ ∧ _ ∧ jWp 159 17 [none, some (jO q), some (jI (i : Int)), none] [jI (17 + (i : Int)), jO q, jI (21 + (i : Int)), jO q] 0 0 (kA w q T) _
        refine ⟨rfl, rfl, ?_⟩
        refine jWp.lald (pc' := 18) (j := (17 + i)) mt rfl rfl (jtg hq) (by rw [b32_id (by omega) (by omega)] <;> omega) (jlt hq (by omega)) ?_
        rw [show ((kA w q T).1 q (17 + i)) = (w.1 q (17 + i)) from (kA_s.trans (hb _ (by omega)))]
        show jWp 159 18 [none, some (jO q), some (jI (i : Int)), none] [jJ (w.1 q (17 + i)), jI (21 + (i : Int)), jO q] 0 0 (kA w q T) _
        refine jWp.last (pc' := 19) (j := (21 + i)) mt rfl rfl (jtg hq) (by rw [b32_id (by omega) (by omega)] <;> omega) (jlt hq (by omega)) ?_
        rw [show jW (kA w q T) q (21 + i) (w.1 q (17 + i)) = (kA w q (zset T (21 + i) (w.1 q (17 + i)))) from kA_W]
        show jWp 159 19 [none, some (jO q), some (jI (i : Int)), none] [] 0 0 (kA w q (zset T (21 + i) (w.1 q (17 + i)))) _
        refine jWp.blk mt 5 ?_
        show _ ∧ jWp 159 25 [none, some (jO q), some (jI (i : Int)), none] [jJ 1, jI (25 + (i : Int)), jO q] 0 0 (kA w q (zset T (21 + i) (w.1 q (17 + i)))) _
        refine ⟨rfl, ?_⟩
        refine jWp.last (pc' := 26) (j := (25 + i)) mt rfl rfl (jtg hq) (by rw [b32_id (by omega) (by omega)] <;> omega) (jlt hq (by omega)) ?_
        rw [show jW (kA w q (zset T (21 + i) (w.1 q (17 + i)))) q (25 + i) 1 = (kA w q (zset (zset T (21 + i) (w.1 q (17 + i))) (25 + i) 1)) from kA_W]
        show jWp 159 26 [none, some (jO q), some (jI (i : Int)), none] [] 0 0 (kA w q (zset (zset T (21 + i) (w.1 q (17 + i))) (25 + i) 1)) _
        refine jWp.blk mt 2 ?_
        show jWp 159 28 [none, some (jO q), some (jI (i : Int)), some (jI 0)] [] 0 0 (kA w q (zset (zset T (21 + i) (w.1 q (17 + i))) (25 + i) 1)) _
        have lp4 : ∀ (N : Nat) (c : Nat) (T : Nat → Int) (hc : c ≤ 4) (hb : ∀ j, j < 21 → T j = w.1 q j) (hu : ∀ x, x < i + 1 → T (21 + x) = w.1 q (17 + x) ∧ T (25 + x) = 1) (hd : ∀ x c, x < i → c < 4 → T (29 + 4 * x + c) = if x = c then -1 else 0) (he : ∀ x, x < c → T (29 + 4 * i + x) = if i = x then -1 else 0), 4 - c < N → jWp 159 28 [none, some (jO q), some (jI (i : Int)), some (jI (c : Int))] [] 0 0 (kA w q T) (fun v w1 => v = none ∧ ∃ S, w1 = kA w q S ∧ zbg (w.1 q) S) := by
          intro N
          induction N with
          | zero => intro c T hc hb hu hd he hm; omega
          | succ N ih5 =>
            intro c T hc hb hu hd he hm
            have hi4 : i < 4 := by omega
            refine jWp.blk mt 2 ?_
            show jWp 159 30 [none, some (jO q), some (jI (i : Int)), some (jI (c : Int))] [jI 4, jI (c : Int)] 0 0 (kA w q T) _
            refine jWp.icmp (pc' := 33) mt rfl rfl (b32_id (by omega) (by omega)) (show b32 4 = 4 by decide) (fun h6 => ?_) (fun h6 => ?_)
            · have h6 : 4 ≤ (c : Int) := h6
              refine jWp.blk mt 2 ?_
              show jWp 159 2 [none, some (jO q), some (jI ((i : Int) + 1)), some (jI (c : Int))] [] 0 0 (kA w q T) _
              refine jWp.le (l := [none, some (jO q), some (jI ((i : Int) + 1)), none]) (by exact ⟨rfl, rfl, trivial⟩) ?_
              exact ih2 (i + 1) T (by omega) hb hu (fun x c hx hc => by rcases Nat.lt_or_ge x i with h | h; exact hd x c h hc; rw [show x = i by omega]; exact he c (by omega)) (by omega)
            · have h6 : (c : Int) < 4 := h6
              refine jWp.blk mt 10 ?_
              show _ ∧ jWp 159 44 [none, some (jO q), some (jI (i : Int)), some (jI (c : Int))] [jI (c : Int), jI (i : Int), jI ((29 + (4 * (i : Int))) + (c : Int)), jO q] 0 0 (kA w q T) _
              refine ⟨rfl, ?_⟩
              refine jWp.icmp (pc' := 47) mt rfl rfl (b32_id (by omega) (by omega)) (b32_id (by omega) (by omega)) (fun h7 => ?_) (fun h7 => ?_)
              · have h7 : (i : Int) ≠ (c : Int) := h7
                refine jWp.blk mt 1 ?_
                show jWp 159 54 [none, some (jO q), some (jI (i : Int)), some (jI (c : Int))] [jJ 0, jI ((29 + (4 * (i : Int))) + (c : Int)), jO q] 0 0 (kA w q T) _
                refine jWp.last (pc' := 55) (j := (29 + 4 * i + c)) mt rfl rfl (jtg hq) (by rw [b32_id (by omega) (by omega)]; omega) (jlt hq (by omega)) ?_
                rw [show jW (kA w q T) q (29 + 4 * i + c) 0 = (kA w q (zset T (29 + 4 * i + c) 0)) from kA_W]
                show jWp 159 55 [none, some (jO q), some (jI (i : Int)), some (jI (c : Int))] [] 0 0 (kA w q (zset T (29 + 4 * i + c) 0)) _
                refine jWp.blk mt 2 ?_
                show jWp 159 28 [none, some (jO q), some (jI (i : Int)), some (jI ((c : Int) + 1))] [] 0 0 (kA w q (zset T (29 + 4 * i + c) 0)) _
                refine jWp.le (l := [none, some (jO q), some (jI (i : Int)), some (jI ((c : Int) + 1))]) (by exact ⟨rfl, rfl, rfl, trivial⟩) ?_
                exact ih5 (c + 1) _ (by omega) (fun j hj => by rw [zset_n (by omega)]; exact hb j hj) (fun x hx => by rw [zset_n (by omega), zset_n (by omega)]; exact hu x hx) (fun x c hx hc => by rw [zset_n (by omega)]; exact hd x c hx hc) (fun x hx => by rcases Nat.lt_or_ge x c with h | h; rw [zset_n (by omega)]; exact he x h; rw [show x = c by omega, zset_s]; first | rw [if_pos (by omega)] | rw [if_neg (by omega)]) (by omega)
              · have h7 : (i : Int) = (c : Int) := h7
                refine jWp.blk mt 2 ?_
                show jWp 159 54 [none, some (jO q), some (jI (i : Int)), some (jI (c : Int))] [jJ (-1), jI ((29 + (4 * (i : Int))) + (c : Int)), jO q] 0 0 (kA w q T) _
                refine jWp.last (pc' := 55) (j := (29 + 4 * i + c)) mt rfl rfl (jtg hq) (by rw [b32_id (by omega) (by omega)]; omega) (jlt hq (by omega)) ?_
                rw [show jW (kA w q T) q (29 + 4 * i + c) (-1) = (kA w q (zset T (29 + 4 * i + c) (-1))) from kA_W]
                show jWp 159 55 [none, some (jO q), some (jI (i : Int)), some (jI (c : Int))] [] 0 0 (kA w q (zset T (29 + 4 * i + c) (-1))) _
                refine jWp.blk mt 2 ?_
                show jWp 159 28 [none, some (jO q), some (jI (i : Int)), some (jI ((c : Int) + 1))] [] 0 0 (kA w q (zset T (29 + 4 * i + c) (-1))) _
                refine jWp.le (l := [none, some (jO q), some (jI (i : Int)), some (jI ((c : Int) + 1))]) (by exact ⟨rfl, rfl, rfl, trivial⟩) ?_
                exact ih5 (c + 1) _ (by omega) (fun j hj => by rw [zset_n (by omega)]; exact hb j hj) (fun x hx => by rw [zset_n (by omega), zset_n (by omega)]; exact hu x hx) (fun x c hx hc => by rw [zset_n (by omega)]; exact hd x c hx hc) (fun x hx => by rcases Nat.lt_or_ge x c with h | h; rw [zset_n (by omega)]; exact he x h; rw [show x = c by omega, zset_s]; first | rw [if_pos (by omega)] | rw [if_neg (by omega)]) (by omega)
        refine jWp.le (l := [none, some (jO q), some (jI (i : Int)), some (jI 0)]) (by exact ⟨rfl, rfl, rfl, trivial⟩) ?_
        exact lp4 _ 0 _ (by omega) (fun j hj => by rw [zset_n (by omega), zset_n (by omega)]; exact hb j hj) (fun x hx => by rcases Nat.lt_or_ge x i with h | h; rw [zset_n (by omega), zset_n (by omega), zset_n (by omega), zset_n (by omega)]; exact hu x h; rw [show x = i by omega]; exact ⟨by rw [zset_n (by omega), zset_s], zset_s⟩) (fun x c hx hc => by rw [zset_n (by omega), zset_n (by omega)]; exact hd x c hx hc) (fun x hx => absurd hx (by omega)) (Nat.lt_succ_self _)
  refine jWp.le (l := [none, some (jO q), some (jI 0), none]) (by exact ⟨rfl, rfl, trivial⟩) ?_
  have key := lp1 _ 0 (w.1 q) (by omega) (fun j hj => rfl) (fun j hj => absurd hj (by omega)) (fun j c hj => absurd hj (by omega)) (Nat.lt_succ_self _)
  rw [kA_self] at key
  exact key
set_option maxHeartbeats 4000000 in
set_option maxRecDepth 20000 in
theorem E_tells {w : jS} {m q n : Nat} {M0 : Nat × Nat} (hM : w.2.1 m = (10, M0.1)) (hq : w.2.1 q = (101, 45)) (hn : n ≤ 4) : jCall 160 [jO m, jO q, jI (n : Int)] w (fun v w1 => v = none ∧ ∃ S, w1 = kA w q S ∧ S 0 = (n : Int) ∧ (∀ j, j < 16 → S (1 + j) = 0) ∧ (∀ i, i < 4 → S (17 + i) = 1 ∧ S (21 + i) = 1 ∧ S (25 + i) = 1) ∧ (∀ i c, i < 4 → c < 4 → S (29 + 4 * i + c) = if i = c then -1 else 0)) := by
  have mt : jtb 160 = jT160 := rfl
  show jWp 160 0 [some (jO m), some (jO q), some (jI (n : Int)), none] [] 0 0 w _
  refine jWp.blk mt 2 ?_
  show jWp 160 2 [some (jO m), some (jO q), some (jI (n : Int)), some (jI 0)] [] 0 0 w _
  have lp1 : ∀ (N : Nat) (c : Nat) (T : Nat → Int) (hc : c ≤ 45) (hT : ∀ j, j < c → T j = 0), 45 - c < N → jWp 160 2 [some (jO m), some (jO q), some (jI (n : Int)), some (jI (c : Int))] [] 0 0 (kA w q T) (fun v w1 => v = none ∧ ∃ S, w1 = kA w q S ∧ S 0 = (n : Int) ∧ (∀ j, j < 16 → S (1 + j) = 0) ∧ (∀ i, i < 4 → S (17 + i) = 1 ∧ S (21 + i) = 1 ∧ S (25 + i) = 1) ∧ (∀ i c, i < 4 → c < 4 → S (29 + 4 * i + c) = if i = c then -1 else 0)) := by
    intro N
    induction N with
    | zero => intro c T hc hT hm; omega
    | succ N ih2 =>
      intro c T hc hT hm
      refine jWp.blk mt 2 ?_
      show jWp 160 5 [some (jO m), some (jO q), some (jI (n : Int)), some (jI (c : Int))] [jI 45, jI (c : Int)] 0 0 (kA w q T) _
      refine jWp.icmp (pc' := 8) mt rfl rfl (b32_id (by omega) (by omega)) (show b32 45 = 45 by decide) (fun h3 => ?_) (fun h3 => ?_)
      · have h3 : 45 ≤ (c : Int) := h3
        refine jWp.blk mt 3 ?_
        show _ ∧ jWp 160 21 [some (jO m), some (jO q), some (jI (n : Int)), some (jI (c : Int))] [jI (n : Int), jI 0, jO q] 0 0 (kA w q T) _
        refine ⟨rfl, ?_⟩
        refine jWp.i2l (pc' := 22) mt rfl rfl (b32_id (by omega) (by omega)) ?_
        show jWp 160 22 [some (jO m), some (jO q), some (jI (n : Int)), some (jI (c : Int))] [jJ (n : Int), jI 0, jO q] 0 0 (kA w q T) _
        refine jWp.last (pc' := 23) (j := 0) mt rfl rfl (jtg hq) (by decide) (jlt hq (by decide)) ?_
        rw [show jW (kA w q T) q 0 (n : Int) = (kA w q (zset T 0 (n : Int))) from kA_W]
        show jWp 160 23 [some (jO m), some (jO q), some (jI (n : Int)), some (jI (c : Int))] [] 0 0 (kA w q (zset T 0 (n : Int))) _
        refine jWp.blk mt 2 ?_
        show jWp 160 25 [some (jO m), some (jO q), some (jI (n : Int)), some (jI 0)] [] 0 0 (kA w q (zset T 0 (n : Int))) _
        have lp4 : ∀ (N : Nat) (i : Nat) (T : Nat → Int) (hi : i ≤ 4) (h0 : T 0 = (n : Int)) (hz : ∀ j, j < 16 → T (1 + j) = 0) (hu : ∀ x, x < i → T (17 + x) = 1), 4 - i < N → jWp 160 25 [some (jO m), some (jO q), none, some (jI (i : Int))] [] 0 0 (kA w q T) (fun v w1 => v = none ∧ ∃ S, w1 = kA w q S ∧ S 0 = (n : Int) ∧ (∀ j, j < 16 → S (1 + j) = 0) ∧ (∀ i, i < 4 → S (17 + i) = 1 ∧ S (21 + i) = 1 ∧ S (25 + i) = 1) ∧ (∀ i c, i < 4 → c < 4 → S (29 + 4 * i + c) = if i = c then -1 else 0)) := by
          intro N
          induction N with
          | zero => intro i T hi h0 hz hu hm; omega
          | succ N ih5 =>
            intro i T hi h0 hz hu hm
            refine jWp.blk mt 2 ?_
            show jWp 160 27 [some (jO m), some (jO q), none, some (jI (i : Int))] [jI 4, jI (i : Int)] 0 0 (kA w q T) _
            refine jWp.icmp (pc' := 30) mt rfl rfl (b32_id (by omega) (by omega)) (show b32 4 = 4 by decide) (fun h6 => ?_) (fun h6 => ?_)
            · have h6 : 4 ≤ (i : Int) := h6
              refine jWp.blk mt 2 ?_
              show _ ∧ _ ∧ jWp 160 45 [some (jO m), some (jO q), none, some (jI (i : Int))] [jO q, jO m] 0 0 (kA w q T) _
              refine ⟨rfl, rfl, ?_⟩
              refine jWp.callv (as := [jO m, jO q]) (rest := []) mt rfl rfl rfl ⟨rfl, jtg hM⟩ ?_
              refine jCall.mono (E_begun (w := (kA w q T)) hq) (fun v9 w9 h9 => ?_)
              obtain ⟨rfl, S9, h9, hS9⟩ := h9
              subst h9
              rw [show kA (kA w q T) q S9 = kA w q S9 from kA_A]
              have hS9 : zbg T S9 := by have e : (kA w q T).1 q = T := funext fun _ => kA_s; rw [e] at hS9; exact hS9
              show jWp 160 48 [some (jO m), some (jO q), none, some (jI (i : Int))] [] 0 0 (kA w q S9) _
              refine jWp.vret mt rfl ⟨rfl, rfl⟩ rfl ?_
              refine ⟨rfl, S9, rfl, (hS9.1 0 (by decide)).trans h0, fun j hj => (hS9.1 (1 + j) (by omega)).trans (hz j hj), fun i hi => ⟨(hS9.1 (17 + i) (by omega)).trans (hu i (by omega)), (hS9.2.1 i hi).1.trans (hu i (by omega)), (hS9.2.1 i hi).2⟩, hS9.2.2⟩
            · have h6 : (i : Int) < 4 := h6
              refine jWp.blk mt 5 ?_
              show _ ∧ jWp 160 36 [some (jO m), some (jO q), none, some (jI (i : Int))] [jJ 1, jI (17 + (i : Int)), jO q] 0 0 (kA w q T) _
              refine ⟨rfl, ?_⟩
              refine jWp.last (pc' := 37) (j := (17 + i)) mt rfl rfl (jtg hq) (by rw [b32_id (by omega) (by omega)] <;> omega) (jlt hq (by omega)) ?_
              rw [show jW (kA w q T) q (17 + i) 1 = (kA w q (zset T (17 + i) 1)) from kA_W]
              show jWp 160 37 [some (jO m), some (jO q), none, some (jI (i : Int))] [] 0 0 (kA w q (zset T (17 + i) 1)) _
              refine jWp.blk mt 2 ?_
              show jWp 160 25 [some (jO m), some (jO q), none, some (jI ((i : Int) + 1))] [] 0 0 (kA w q (zset T (17 + i) 1)) _
              refine jWp.le (l := [some (jO m), some (jO q), none, some (jI ((i : Int) + 1))]) (by exact ⟨rfl, rfl, rfl, trivial⟩) ?_
              exact ih5 (i + 1) _ (by omega) (by rw [zset_n (by omega)]; exact h0) (fun j hj => by rw [zset_n (by omega)]; exact hz j hj) (fun x hx => by rcases Nat.lt_or_ge x i with h | h; rw [zset_n (by omega)]; exact hu x h; rw [show x = i by omega, zset_s]) (by omega)
        refine jWp.le (l := [some (jO m), some (jO q), none, some (jI 0)]) (by exact ⟨rfl, rfl, rfl, trivial⟩) ?_
        exact lp4 _ 0 _ (by omega) zset_s (fun j hj => by rw [zset_n (by omega)]; exact hT _ (by omega)) (fun x hx => absurd hx (by omega)) (Nat.lt_succ_self _)
      · have h3 : (c : Int) < 45 := h3
        refine jWp.blk mt 3 ?_
        show _ ∧ jWp 160 11 [some (jO m), some (jO q), some (jI (n : Int)), some (jI (c : Int))] [jJ 0, jI (c : Int), jO q] 0 0 (kA w q T) _
        refine ⟨rfl, ?_⟩
        refine jWp.last (pc' := 12) (j := c) mt rfl rfl (jtg hq) (by rw [b32_id (by omega) (by omega)] <;> omega) (jlt hq (by omega)) ?_
        rw [show jW (kA w q T) q c 0 = (kA w q (zset T c 0)) from kA_W]
        show jWp 160 12 [some (jO m), some (jO q), some (jI (n : Int)), some (jI (c : Int))] [] 0 0 (kA w q (zset T c 0)) _
        refine jWp.blk mt 2 ?_
        show jWp 160 2 [some (jO m), some (jO q), some (jI (n : Int)), some (jI ((c : Int) + 1))] [] 0 0 (kA w q (zset T c 0)) _
        refine jWp.le (l := [some (jO m), some (jO q), some (jI (n : Int)), some (jI ((c : Int) + 1))]) (by exact ⟨rfl, rfl, rfl, rfl, trivial⟩) ?_
        exact ih2 (c + 1) _ (by omega) (fun j hj => by rcases Nat.lt_or_ge j c with h | h; rw [zset_n (by omega)]; exact hT j h; rw [show j = c by omega, zset_s]) (by omega)
  refine jWp.le (l := [some (jO m), some (jO q), some (jI (n : Int)), some (jI 0)]) (by exact ⟨rfl, rfl, rfl, rfl, trivial⟩) ?_
  have key := lp1 _ 0 (w.1 q) (by omega) (fun j hj => absurd hj (by omega)) (Nat.lt_succ_self _)
  rw [kA_self] at key
  exact key
set_option maxHeartbeats 4000000 in
set_option maxRecDepth 20000 in
theorem E_isIn {w : jS} {q n : Nat} {i : Int} (hq : w.2.1 q = (101, 45)) (hR : w.1 q 0 = (n : Int)) (hn : n ≤ 4) (hi : r32 i) : jCall 164 [jO q, jI i] w (jvb (0 ≤ i ∧ i < (n : Int)) w) := by
  have mt : jtb 164 = jT164 := rfl
  have hi1 : -2147483648 ≤ i ∧ i < 2147483648 := hi
  show jWp 164 0 [some (jO q), some (jI i)] [] 0 0 w _
  refine jWp.blk mt 1 ?_
  show jWp 164 1 [some (jO q), some (jI i)] [jI i] 0 0 w _
  refine jWp.i2l (pc' := 2) mt rfl rfl (b32_id (by omega) (by omega)) ?_
  show jWp 164 2 [some (jO q), some (jI i)] [jJ i] 0 0 w _
  refine jWp.blk mt 3 ?_
  show _ ∧ jWp 164 5 [some (jO q), some (jI i)] [jI 0, jO q, jJ 0, jJ i] 0 0 w _
  refine ⟨rfl, ?_⟩
  refine jWp.lald (pc' := 6) (j := 0) mt rfl rfl (jtg hq) (by decide) (jlt hq (by decide)) ?_
  rw [show (w.1 q 0) = (n : Int) from hR]
  show jWp 164 6 [some (jO q), some (jI i)] [jJ (n : Int), jJ 0, jJ i] 0 0 w _
  refine jWp.blk mt 3 ?_
  show jWp 164 9 [some (jO q), some (jI i)] [jI ((n : Int) - 1), jJ 0, jJ i] 0 0 w _
  refine jWp.i2l (pc' := 10) mt rfl rfl (b32_id (by omega) (by omega)) ?_
  show jWp 164 10 [some (jO q), some (jI i)] [jJ ((n : Int) - 1), jJ 0, jJ i] 0 0 w _
  refine jWp.calls (as := [jJ i, jJ 0, jJ ((n : Int) - 1)]) (rest := []) mt rfl rfl rfl rfl ?_
  refine jCall.mono (E_in (b64_id (by omega) (by omega)) (show b64 0 = 0 by decide) (b64_id (by omega) (by omega))) (fun v9 w9 h9 => ?_)
  rcases h9 with ⟨rfl, h9, h1⟩ | ⟨rfl, h9, h1⟩ <;> subst w9
  · have h1 : 0 ≤ i ∧ i ≤ ((n : Int) - 1) := h1
    show jWp 164 13 [some (jO q), some (jI i)] [jI 1] 0 0 w _
    refine jWp.iretz mt rfl ⟨rfl, rfl⟩ rfl (Or.inr rfl) ?_
    exact Or.inl ⟨rfl, rfl, by omega⟩
  · have h1 : ¬ (0 ≤ i ∧ i ≤ ((n : Int) - 1)) := h1
    show jWp 164 13 [some (jO q), some (jI i)] [jI 0] 0 0 w _
    refine jWp.iretz mt rfl ⟨rfl, rfl⟩ rfl (Or.inl rfl) ?_
    exact Or.inr ⟨rfl, rfl, by omega⟩
set_option maxHeartbeats 4000000 in
set_option maxRecDepth 20000 in
theorem E_puts {w : jS} {m q i j L : Nat} {v : Int} (hM : w.2.1 m = (10, L)) (hq : w.2.1 q = (101, 45)) (hi : i < 4) (hj : j < 4) (hv : -9 ≤ v ∧ v ≤ 9) : jCall 167 [jO m, jO q, jI (i : Int), jI (j : Int), jI v] w (fun x w1 => x = none ∧ ∃ S, w1 = kA w q S ∧ zbg (zset (zset (w.1 q) (1 + (4 * i + j)) v) (1 + (4 * j + i)) (-v)) S) := by
  have mt : jtb 167 = jT167 := rfl
  show jWp 167 0 [some (jO m), some (jO q), some (jI (i : Int)), some (jI (j : Int)), some (jI v)] [] 0 0 w _
  refine jWp.blk mt 9 ?_
  show _ ∧ jWp 167 10 [some (jO m), some (jO q), some (jI (i : Int)), some (jI (j : Int)), some (jI v)] [jI v, jI ((1 + (4 * (i : Int))) + (j : Int)), jO q] 0 0 w _
  refine ⟨rfl, ?_⟩
  refine jWp.i2l (pc' := 11) mt rfl rfl (b32_id (by omega) (by omega)) ?_
  show jWp 167 11 [some (jO m), some (jO q), some (jI (i : Int)), some (jI (j : Int)), some (jI v)] [jJ v, jI ((1 + (4 * (i : Int))) + (j : Int)), jO q] 0 0 w _
  refine jWp.last (pc' := 12) (j := (1 + (4 * i + j))) mt rfl rfl (jtg hq) (by rw [b32_id (by omega) (by omega)]; omega) (jlt hq (by omega)) ?_
  rw [show jW w q (1 + (4 * i + j)) v = (kA w q (zset (w.1 q) (1 + (4 * i + j)) v)) from kA_W0]
  show jWp 167 12 [some (jO m), some (jO q), some (jI (i : Int)), some (jI (j : Int)), some (jI v)] [] 0 0 (kA w q (zset (w.1 q) (1 + (4 * i + j)) v)) _
  refine jWp.blk mt 10 ?_
  show _ ∧ jWp 167 23 [some (jO m), some (jO q), some (jI (i : Int)), some (jI (j : Int)), some (jI v)] [jI (-v), jI ((1 + (4 * (j : Int))) + (i : Int)), jO q] 0 0 (kA w q (zset (w.1 q) (1 + (4 * i + j)) v)) _
  refine ⟨rfl, ?_⟩
  refine jWp.i2l (pc' := 24) mt rfl rfl (b32_id (by omega) (by omega)) ?_
  show jWp 167 24 [some (jO m), some (jO q), some (jI (i : Int)), some (jI (j : Int)), some (jI v)] [jJ (-v), jI ((1 + (4 * (j : Int))) + (i : Int)), jO q] 0 0 (kA w q (zset (w.1 q) (1 + (4 * i + j)) v)) _
  refine jWp.last (pc' := 25) (j := (1 + (4 * j + i))) mt rfl rfl (jtg hq) (by rw [b32_id (by omega) (by omega)]; omega) (jlt hq (by omega)) ?_
  rw [show jW (kA w q (zset (w.1 q) (1 + (4 * i + j)) v)) q (1 + (4 * j + i)) (-v) = (kA w q (zset (zset (w.1 q) (1 + (4 * i + j)) v) (1 + (4 * j + i)) (-v))) from kA_W]
  show jWp 167 25 [some (jO m), some (jO q), some (jI (i : Int)), some (jI (j : Int)), some (jI v)] [] 0 0 (kA w q (zset (zset (w.1 q) (1 + (4 * i + j)) v) (1 + (4 * j + i)) (-v))) _
  refine jWp.blk mt 2 ?_
  show _ ∧ _ ∧ jWp 167 27 [some (jO m), some (jO q), some (jI (i : Int)), some (jI (j : Int)), some (jI v)] [jO q, jO m] 0 0 (kA w q (zset (zset (w.1 q) (1 + (4 * i + j)) v) (1 + (4 * j + i)) (-v))) _
  refine ⟨rfl, rfl, ?_⟩
  refine jWp.callv (as := [jO m, jO q]) (rest := []) mt rfl rfl rfl ⟨rfl, jtg hM⟩ ?_
  refine jCall.mono (E_begun (w := (kA w q (zset (zset (w.1 q) (1 + (4 * i + j)) v) (1 + (4 * j + i)) (-v)))) hq) (fun v9 w9 h9 => ?_)
  obtain ⟨rfl, S9, h9, hS9⟩ := h9
  subst h9
  rw [show kA (kA w q (zset (zset (w.1 q) (1 + (4 * i + j)) v) (1 + (4 * j + i)) (-v))) q S9 = kA w q S9 from kA_A]
  have hS9 : zbg (zset (zset (w.1 q) (1 + (4 * i + j)) v) (1 + (4 * j + i)) (-v)) S9 := by have e : (kA w q (zset (zset (w.1 q) (1 + (4 * i + j)) v) (1 + (4 * j + i)) (-v))).1 q = (zset (zset (w.1 q) (1 + (4 * i + j)) v) (1 + (4 * j + i)) (-v)) := funext fun _ => kA_s; rw [e] at hS9; exact hS9
  show jWp 167 30 [some (jO m), some (jO q), some (jI (i : Int)), some (jI (j : Int)), some (jI v)] [] 0 0 (kA w q S9) _
  refine jWp.vret mt rfl ⟨rfl, rfl⟩ rfl ?_
  exact ⟨rfl, S9, rfl, hS9⟩
set_option maxHeartbeats 4000000 in
set_option maxRecDepth 20000 in
theorem E_changes {w : jS} {q x y : Nat} (hq : w.2.1 q = (101, 45)) (hx : x < 45) (hy : y < 45) : jCall 203 [jO q, jI (x : Int), jI (y : Int)] w (fun v w1 => v = none ∧ w1 = kA w q (zset (zset (w.1 q) x (w.1 q y)) y (w.1 q x))) := by
  have mt : jtb 203 = jT203 := rfl
  show jWp 203 0 [some (jO q), some (jI (x : Int)), some (jI (y : Int)), none, none] [] 0 0 w _
  refine jWp.blk mt 2 ?_
  show _ ∧ jWp 203 2 [some (jO q), some (jI (x : Int)), some (jI (y : Int)), none, none] [jI (x : Int), jO q] 0 0 w _
  refine ⟨rfl, ?_⟩
  refine jWp.lald (pc' := 3) (j := x) mt rfl rfl (jtg hq) (by rw [b32_id (by omega) (by omega)] <;> omega) (jlt hq (by omega)) ?_
  show jWp 203 3 [some (jO q), some (jI (x : Int)), some (jI (y : Int)), none, none] [jJ (w.1 q x)] 0 0 w _
  refine jWp.blk mt 5 ?_
  show _ ∧ _ ∧ jWp 203 8 [some (jO q), some (jI (x : Int)), some (jI (y : Int)), some (jJ (w.1 q x)), none] [jI (y : Int), jO q, jI (x : Int), jO q] 0 0 w _
  refine ⟨rfl, rfl, ?_⟩
  refine jWp.lald (pc' := 9) (j := y) mt rfl rfl (jtg hq) (by rw [b32_id (by omega) (by omega)] <;> omega) (jlt hq (by omega)) ?_
  show jWp 203 9 [some (jO q), some (jI (x : Int)), some (jI (y : Int)), some (jJ (w.1 q x)), none] [jJ (w.1 q y), jI (x : Int), jO q] 0 0 w _
  refine jWp.last (pc' := 10) (j := x) mt rfl rfl (jtg hq) (by rw [b32_id (by omega) (by omega)] <;> omega) (jlt hq (by omega)) ?_
  rw [show jW w q x (w.1 q y) = (kA w q (zset (w.1 q) x (w.1 q y))) from kA_W0]
  show jWp 203 10 [some (jO q), some (jI (x : Int)), some (jI (y : Int)), some (jJ (w.1 q x)), none] [] 0 0 (kA w q (zset (w.1 q) x (w.1 q y))) _
  refine jWp.blk mt 3 ?_
  show _ ∧ jWp 203 13 [some (jO q), some (jI (x : Int)), some (jI (y : Int)), some (jJ (w.1 q x)), none] [jJ (w.1 q x), jI (y : Int), jO q] 0 0 (kA w q (zset (w.1 q) x (w.1 q y))) _
  refine ⟨rfl, ?_⟩
  refine jWp.last (pc' := 14) (j := y) mt rfl rfl (jtg hq) (by rw [b32_id (by omega) (by omega)] <;> omega) (jlt hq (by omega)) ?_
  rw [show jW (kA w q (zset (w.1 q) x (w.1 q y))) q y (w.1 q x) = (kA w q (zset (zset (w.1 q) x (w.1 q y)) y (w.1 q x))) from kA_W]
  show jWp 203 14 [some (jO q), some (jI (x : Int)), some (jI (y : Int)), some (jJ (w.1 q x)), none] [] 0 0 (kA w q (zset (zset (w.1 q) x (w.1 q y)) y (w.1 q x))) _
  refine jWp.vret mt rfl ⟨rfl, rfl⟩ rfl ?_
  exact ⟨rfl, rfl⟩
