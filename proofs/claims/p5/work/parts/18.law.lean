/-- answers: a number, nothing, yes or no; the heap stays -/
def jvi (x : Int) (w : jS) : Option jV → jS → Prop := fun v w1 => v = some (jI x) ∧ w1 = w
def jvj (x : Int) (w : jS) : Option jV → jS → Prop := fun v w1 => v = some (jJ x) ∧ w1 = w
def jvv (w : jS) : Option jV → jS → Prop := fun v w1 => v = none ∧ w1 = w
def jvb (p : Prop) (w : jS) : Option jV → jS → Prop := fun v w1 => (v = some (jI 1) ∧ w1 = w ∧ p) ∨ (v = some (jI 0) ∧ w1 = w ∧ ¬ p)
def jOK (w : jS) : Prop := w.2.1 w.2.2.2.2 = (99, 7) ∧ ∀ j, w.1 w.2.2.2.2 j = jord j
def zO (law : Int) : Int := if law < 2 then 2 else if law < 6 then law + 1 else 8
theorem zO_ord {law : Int} (h0 : 0 ≤ law) (h6 : law ≤ 6) : jord law.toNat = zO law := by
  rcases (show law = 0 ∨ law = 1 ∨ law = 2 ∨ law = 3 ∨ law = 4 ∨ law = 5 ∨ law = 6 by omega) with rfl | rfl | rfl | rfl | rfl | rfl | rfl <;> decide
theorem zO_b {law : Int} (h0 : 0 ≤ law) (h6 : law ≤ 6) : 2 ≤ zO law ∧ zO law ≤ 8 := by
  unfold zO
  split
  · omega
  · split <;> omega
/-- what number n is by a law, above the line, and what it is divided by -/
def zP (law f : Int) (t : Nat → Int) (n : Nat) : Int :=
  if law = 0 then f * t (n - 1) - t (n - 2)
  else if law = 1 then t (n - 1) * t (n - 1) + f
  else if law = 2 then t (n - 1) * t (n - 2) + f
  else if law = 3 then t (n - 1) * t (n - 3) + f * t (n - 2) * t (n - 2)
  else if law = 4 then t (n - 1) * t (n - 4) + f * t (n - 2) * t (n - 3)
  else if law = 5 then t (n - 1) * t (n - 5) + f * t (n - 2) * t (n - 4) + t (n - 3) * t (n - 3)
  else t (n - 1) * t (n - 7) + t (n - 2) * t (n - 6) + f * t (n - 3) * t (n - 5) + t (n - 4) * t (n - 4)
def zD (law : Int) (t : Nat → Int) (n : Nat) : Int := if law = 0 then 1 else t (n - (zO law).toNat)
def r32 (x : Int) : Prop := -2147483648 ≤ x ∧ x < 2147483648
theorem r32_b {x : Int} (h : r32 x) : b32 x = x := b32_id h.1 h.2
theorem r32_64 {x : Int} (h : r32 x) : b64 x = x := b64_id (by have := h.1; omega) (by have := h.2; omega)
set_option maxHeartbeats 4000000 in
set_option maxRecDepth 20000 in
theorem E_orderOf {w : jS} {law : Int} (hO : jOK w) (h0 : 0 ≤ law) (h6 : law ≤ 6) : jCall 6 [jI law] w (jvi (zO law) w) := by
  have mt : jtb 6 = jT6 := rfl
  show jWp 6 0 [some (jI law)] [] 0 0 w _
  refine jWp.blk mt 1 ?_
  show jWp 6 1 [some (jI law)] [jI law] 0 0 w _
  refine jWp.ifz (pc' := 4) mt rfl rfl (b32_id (by omega) (by omega)) (fun h1 => ?_) (fun h1 => ?_)
  · have h1 : law < 0 := h1
    exfalso; omega
  · have h1 : 0 ≤ law := h1
    refine jWp.blk mt 2 ?_
    show jWp 6 8 [some (jI law)] [jO w.2.2.2.2, jI law] 0 0 w _
    refine jWp.alen (pc' := 9) (n := 7) mt rfl rfl (by rw [hO.1]; exact Or.inr rfl) (by rw [hO.1]) ?_
    show jWp 6 9 [some (jI law)] [jI 7, jI law] 0 0 w _
    refine jWp.icmp (pc' := 12) mt rfl rfl (b32_id (by omega) (by omega)) (show b32 7 = 7 by decide) (fun h2 => ?_) (fun h2 => ?_)
    · have h2 : 7 ≤ law := h2
      exfalso; omega
    · have h2 : law < 7 := h2
      refine jWp.blk mt 2 ?_
      show jWp 6 16 [some (jI law)] [jI law, jO w.2.2.2.2] 0 0 w _
      refine jWp.iald (pc' := 17) (j := law.toNat) mt rfl rfl (by rw [hO.1]; exact Or.inr rfl) (by rw [b32_id (by omega) (by omega)]; omega) (by rw [hO.1]; show law.toNat < 7; omega) ?_
      show jWp 6 17 [some (jI law)] [jI (w.1 w.2.2.2.2 law.toNat)] 0 0 w _
      refine jWp.blk mt 1 ?_
      show jWp 6 21 [some (jI law)] [jI (w.1 w.2.2.2.2 law.toNat)] 0 0 w _
      refine jWp.ireti mt rfl ⟨rfl, rfl⟩ rfl ?_
      exact ⟨by rw [hO.2, zO_ord h0 h6], rfl⟩
set_option maxHeartbeats 4000000 in
set_option maxRecDepth 20000 in
theorem E_back {w : jS} {a n s len : Nat} (ha : w.2.1 a = (100, len)) (hs : s ≤ n) (hl : n - s < len) (hn : n < 1000) (hln : len < 1000) (hv : r32 (w.1 a (n - s))) : jCall 9 [jO a, jI (n : Int), jI (s : Int)] w (jvj (w.1 a (n - s)) w) := by
  have mt : jtb 9 = jT9 := rfl
  show jWp 9 0 [some (jO a), some (jI (n : Int)), some (jI (s : Int)), none] [] 0 0 w _
  refine jWp.blk mt 5 ?_
  show jWp 9 5 [some (jO a), some (jI (n : Int)), some (jI (s : Int)), some (jI ((n : Int) - (s : Int)))] [jI ((n : Int) - (s : Int))] 0 0 w _
  refine jWp.ifz (pc' := 8) mt rfl rfl (b32_id (by omega) (by omega)) (fun h1 => ?_) (fun h1 => ?_)
  · have h1 : ((n : Int) - (s : Int)) < 0 := h1
    exfalso; omega
  · have h1 : 0 ≤ ((n : Int) - (s : Int)) := h1
    refine jWp.blk mt 2 ?_
    show _ ∧ jWp 9 10 [some (jO a), some (jI (n : Int)), some (jI (s : Int)), some (jI ((n : Int) - (s : Int)))] [jO a, jI ((n : Int) - (s : Int))] 0 0 w _
    refine ⟨rfl, ?_⟩
    refine jWp.alen (pc' := 11) (n := len) mt rfl rfl (jird_of ha) (by rw [ha]) ?_
    show jWp 9 11 [some (jO a), some (jI (n : Int)), some (jI (s : Int)), some (jI ((n : Int) - (s : Int)))] [jI (len : Int), jI ((n : Int) - (s : Int))] 0 0 w _
    refine jWp.icmp (pc' := 14) mt rfl rfl (b32_id (by omega) (by omega)) (b32_id (by omega) (by omega)) (fun h2 => ?_) (fun h2 => ?_)
    · have h2 : (len : Int) ≤ ((n : Int) - (s : Int)) := h2
      exfalso; omega
    · have h2 : ((n : Int) - (s : Int)) < (len : Int) := h2
      refine jWp.blk mt 2 ?_
      show _ ∧ jWp 9 16 [some (jO a), some (jI (n : Int)), some (jI (s : Int)), some (jI ((n : Int) - (s : Int)))] [jI ((n : Int) - (s : Int)), jO a] 0 0 w _
      refine ⟨rfl, ?_⟩
      refine jWp.iald (pc' := 17) (j := (n - s)) mt rfl rfl (jird_of ha) (by rw [b32_id (by omega) (by omega)]; omega) (jlt ha (by omega)) ?_
      show jWp 9 17 [some (jO a), some (jI (n : Int)), some (jI (s : Int)), some (jI ((n : Int) - (s : Int)))] [jI (w.1 a (n - s))] 0 0 w _
      refine jWp.i2l (pc' := 18) mt rfl rfl (r32_b hv) ?_
      show jWp 9 18 [some (jO a), some (jI (n : Int)), some (jI (s : Int)), some (jI ((n : Int) - (s : Int)))] [jJ (w.1 a (n - s))] 0 0 w _
      refine jWp.blk mt 1 ?_
      show jWp 9 22 [some (jO a), some (jI (n : Int)), some (jI (s : Int)), some (jI ((n : Int) - (s : Int)))] [jJ (w.1 a (n - s))] 0 0 w _
      refine jWp.lret mt rfl ⟨rfl, rfl⟩ rfl ?_
      exact ⟨rfl, rfl⟩
theorem zO_q {law : Int} {n : Nat} (hq : (zO law).toNat ≤ n) : 2 ≤ n ∧ (law = 2 → 3 ≤ n) ∧ (law = 3 → 4 ≤ n) ∧ (law = 4 → 5 ≤ n) ∧ (law = 5 → 6 ≤ n) ∧ (6 ≤ law → 8 ≤ n) := by
  unfold zO at hq
  split at hq
  · omega
  · split at hq <;> omega
set_option maxHeartbeats 4000000 in
set_option maxRecDepth 20000 in
theorem E_product {w : jS} {a n len : Nat} {law f : Int} (ha : w.2.1 a = (100, len)) (h0 : 0 ≤ law) (h6 : law ≤ 6) (hq : (zO law).toNat ≤ n) (hl : n ≤ len) (hln : len < 1000) (hf : r32 f) (ht : ∀ j, j < n → r32 (w.1 a j)) : jCall 7 [jI law, jI f, jO a, jI (n : Int)] w (jvj (zP law f (w.1 a) n) w) := by
  have mt : jtb 7 = jT7 := rfl
  have hz := zO_q hq
  show jWp 7 0 [some (jI law), some (jI f), some (jO a), some (jI (n : Int)), none, none] [] 0 0 w _
  refine jWp.blk mt 1 ?_
  show jWp 7 1 [some (jI law), some (jI f), some (jO a), some (jI (n : Int)), none, none] [jI f] 0 0 w _
  refine jWp.i2l (pc' := 2) mt rfl rfl (r32_b hf) ?_
  show jWp 7 2 [some (jI law), some (jI f), some (jO a), some (jI (n : Int)), none, none] [jJ f] 0 0 w _
  refine jWp.blk mt 2 ?_
  show jWp 7 5 [some (jI law), some (jI f), some (jO a), some (jI (n : Int)), some (jJ f), none] [jI law] 0 0 w _
  refine jWp.sw mt rfl (Or.inl ⟨_, _, _, _, rfl⟩) (b32_id (by omega) (by omega)) ?_
  show jWp 7 (jsw [(0, 44), (1, 61), (2, 78), (3, 95), (4, 126), (5, 157)] 202 law) [some (jI law), some (jI f), some (jO a), some (jI (n : Int)), some (jJ f), none] [] 0 0 w _
  unfold jsw; by_cases h1 : 0 = law
  · rw [if_pos h1]
    refine jWp.blk mt 4 ?_
    show _ ∧ jWp 7 49 [some (jI law), some (jI f), some (jO a), some (jI (n : Int)), some (jJ f), none] [jI 1, jI (n : Int), jO a, jJ f] 0 0 w _
    refine ⟨rfl, ?_⟩
    refine jWp.calls (as := [jO a, jI (n : Int), jI 1]) (rest := [jJ f]) mt rfl rfl rfl rfl ?_
    refine jCall.mono (E_back (n := n) (s := 1) ha (by omega) (by omega) (by omega) (by omega) (ht _ (by omega))) (fun v9 w9 h9 => ?_)
    obtain ⟨rfl, h9⟩ := h9
    subst w9
    show jWp 7 52 [some (jI law), some (jI f), some (jO a), some (jI (n : Int)), some (jJ f), none] [jJ (w.1 a (n - 1)), jJ f] 0 0 w _
    refine jWp.blk mt 4 ?_
    show _ ∧ jWp 7 56 [some (jI law), some (jI f), some (jO a), some (jI (n : Int)), some (jJ f), none] [jI 2, jI (n : Int), jO a, jJ (f * (w.1 a (n - 1)))] 0 0 w _
    refine ⟨rfl, ?_⟩
    refine jWp.calls (as := [jO a, jI (n : Int), jI 2]) (rest := [jJ (f * (w.1 a (n - 1)))]) mt rfl rfl rfl rfl ?_
    refine jCall.mono (E_back (n := n) (s := 2) ha (by omega) (by omega) (by omega) (by omega) (ht _ (by omega))) (fun v9 w9 h9 => ?_)
    obtain ⟨rfl, h9⟩ := h9
    subst w9
    show jWp 7 59 [some (jI law), some (jI f), some (jO a), some (jI (n : Int)), some (jJ f), none] [jJ (w.1 a (n - 2)), jJ (f * (w.1 a (n - 1)))] 0 0 w _
    refine jWp.blk mt 1 ?_
    show jWp 7 60 [some (jI law), some (jI f), some (jO a), some (jI (n : Int)), some (jJ f), none] [jJ ((f * (w.1 a (n - 1))) - (w.1 a (n - 2)))] 0 0 w _
    refine jWp.lret mt rfl ⟨rfl, rfl⟩ rfl ?_
    first
    | (have e : law = 0 := by omega
       subst e
       exact ⟨rfl, rfl⟩)
    | (have e : law = 1 := by omega
       subst e
       exact ⟨rfl, rfl⟩)
    | (have e : law = 2 := by omega
       subst e
       exact ⟨rfl, rfl⟩)
    | (have e : law = 3 := by omega
       subst e
       exact ⟨rfl, rfl⟩)
    | (have e : law = 4 := by omega
       subst e
       exact ⟨rfl, rfl⟩)
    | (have e : law = 5 := by omega
       subst e
       exact ⟨rfl, rfl⟩)
    | (have e : law = 6 := by omega
       subst e
       exact ⟨rfl, rfl⟩)
  · rw [if_neg h1]
    unfold jsw; by_cases h2 : 1 = law
    · rw [if_pos h2]
      refine jWp.blk mt 3 ?_
      show _ ∧ jWp 7 64 [some (jI law), some (jI f), some (jO a), some (jI (n : Int)), some (jJ f), none] [jI 1, jI (n : Int), jO a] 0 0 w _
      refine ⟨rfl, ?_⟩
      refine jWp.calls (as := [jO a, jI (n : Int), jI 1]) (rest := []) mt rfl rfl rfl rfl ?_
      refine jCall.mono (E_back (n := n) (s := 1) ha (by omega) (by omega) (by omega) (by omega) (ht _ (by omega))) (fun v9 w9 h9 => ?_)
      obtain ⟨rfl, h9⟩ := h9
      subst w9
      show jWp 7 67 [some (jI law), some (jI f), some (jO a), some (jI (n : Int)), some (jJ f), none] [jJ (w.1 a (n - 1))] 0 0 w _
      refine jWp.blk mt 3 ?_
      show _ ∧ jWp 7 70 [some (jI law), some (jI f), some (jO a), some (jI (n : Int)), some (jJ f), none] [jI 1, jI (n : Int), jO a, jJ (w.1 a (n - 1))] 0 0 w _
      refine ⟨rfl, ?_⟩
      refine jWp.calls (as := [jO a, jI (n : Int), jI 1]) (rest := [jJ (w.1 a (n - 1))]) mt rfl rfl rfl rfl ?_
      refine jCall.mono (E_back (n := n) (s := 1) ha (by omega) (by omega) (by omega) (by omega) (ht _ (by omega))) (fun v9 w9 h9 => ?_)
      obtain ⟨rfl, h9⟩ := h9
      subst w9
      show jWp 7 73 [some (jI law), some (jI f), some (jO a), some (jI (n : Int)), some (jJ f), none] [jJ (w.1 a (n - 1)), jJ (w.1 a (n - 1))] 0 0 w _
      refine jWp.blk mt 3 ?_
      show jWp 7 77 [some (jI law), some (jI f), some (jO a), some (jI (n : Int)), some (jJ f), none] [jJ (((w.1 a (n - 1)) * (w.1 a (n - 1))) + f)] 0 0 w _
      refine jWp.lret mt rfl ⟨rfl, rfl⟩ rfl ?_
      first
      | (have e : law = 0 := by omega
         subst e
         exact ⟨rfl, rfl⟩)
      | (have e : law = 1 := by omega
         subst e
         exact ⟨rfl, rfl⟩)
      | (have e : law = 2 := by omega
         subst e
         exact ⟨rfl, rfl⟩)
      | (have e : law = 3 := by omega
         subst e
         exact ⟨rfl, rfl⟩)
      | (have e : law = 4 := by omega
         subst e
         exact ⟨rfl, rfl⟩)
      | (have e : law = 5 := by omega
         subst e
         exact ⟨rfl, rfl⟩)
      | (have e : law = 6 := by omega
         subst e
         exact ⟨rfl, rfl⟩)
    · rw [if_neg h2]
      unfold jsw; by_cases h3 : 2 = law
      · rw [if_pos h3]
        refine jWp.blk mt 3 ?_
        show _ ∧ jWp 7 81 [some (jI law), some (jI f), some (jO a), some (jI (n : Int)), some (jJ f), none] [jI 1, jI (n : Int), jO a] 0 0 w _
        refine ⟨rfl, ?_⟩
        refine jWp.calls (as := [jO a, jI (n : Int), jI 1]) (rest := []) mt rfl rfl rfl rfl ?_
        refine jCall.mono (E_back (n := n) (s := 1) ha (by omega) (by omega) (by omega) (by omega) (ht _ (by omega))) (fun v9 w9 h9 => ?_)
        obtain ⟨rfl, h9⟩ := h9
        subst w9
        show jWp 7 84 [some (jI law), some (jI f), some (jO a), some (jI (n : Int)), some (jJ f), none] [jJ (w.1 a (n - 1))] 0 0 w _
        refine jWp.blk mt 3 ?_
        show _ ∧ jWp 7 87 [some (jI law), some (jI f), some (jO a), some (jI (n : Int)), some (jJ f), none] [jI 2, jI (n : Int), jO a, jJ (w.1 a (n - 1))] 0 0 w _
        refine ⟨rfl, ?_⟩
        refine jWp.calls (as := [jO a, jI (n : Int), jI 2]) (rest := [jJ (w.1 a (n - 1))]) mt rfl rfl rfl rfl ?_
        refine jCall.mono (E_back (n := n) (s := 2) ha (by omega) (by omega) (by omega) (by omega) (ht _ (by omega))) (fun v9 w9 h9 => ?_)
        obtain ⟨rfl, h9⟩ := h9
        subst w9
        show jWp 7 90 [some (jI law), some (jI f), some (jO a), some (jI (n : Int)), some (jJ f), none] [jJ (w.1 a (n - 2)), jJ (w.1 a (n - 1))] 0 0 w _
        refine jWp.blk mt 3 ?_
        show jWp 7 94 [some (jI law), some (jI f), some (jO a), some (jI (n : Int)), some (jJ f), none] [jJ (((w.1 a (n - 1)) * (w.1 a (n - 2))) + f)] 0 0 w _
        refine jWp.lret mt rfl ⟨rfl, rfl⟩ rfl ?_
        first
        | (have e : law = 0 := by omega
           subst e
           exact ⟨rfl, rfl⟩)
        | (have e : law = 1 := by omega
           subst e
           exact ⟨rfl, rfl⟩)
        | (have e : law = 2 := by omega
           subst e
           exact ⟨rfl, rfl⟩)
        | (have e : law = 3 := by omega
           subst e
           exact ⟨rfl, rfl⟩)
        | (have e : law = 4 := by omega
           subst e
           exact ⟨rfl, rfl⟩)
        | (have e : law = 5 := by omega
           subst e
           exact ⟨rfl, rfl⟩)
        | (have e : law = 6 := by omega
           subst e
           exact ⟨rfl, rfl⟩)
      · rw [if_neg h3]
        unfold jsw; by_cases h4 : 3 = law
        · rw [if_pos h4]
          refine jWp.blk mt 3 ?_
          show _ ∧ jWp 7 98 [some (jI law), some (jI f), some (jO a), some (jI (n : Int)), some (jJ f), none] [jI 1, jI (n : Int), jO a] 0 0 w _
          refine ⟨rfl, ?_⟩
          refine jWp.calls (as := [jO a, jI (n : Int), jI 1]) (rest := []) mt rfl rfl rfl rfl ?_
          refine jCall.mono (E_back (n := n) (s := 1) ha (by omega) (by omega) (by omega) (by omega) (ht _ (by omega))) (fun v9 w9 h9 => ?_)
          obtain ⟨rfl, h9⟩ := h9
          subst w9
          show jWp 7 101 [some (jI law), some (jI f), some (jO a), some (jI (n : Int)), some (jJ f), none] [jJ (w.1 a (n - 1))] 0 0 w _
          refine jWp.blk mt 3 ?_
          show _ ∧ jWp 7 104 [some (jI law), some (jI f), some (jO a), some (jI (n : Int)), some (jJ f), none] [jI 3, jI (n : Int), jO a, jJ (w.1 a (n - 1))] 0 0 w _
          refine ⟨rfl, ?_⟩
          refine jWp.calls (as := [jO a, jI (n : Int), jI 3]) (rest := [jJ (w.1 a (n - 1))]) mt rfl rfl rfl rfl ?_
          refine jCall.mono (E_back (n := n) (s := 3) ha (by omega) (by omega) (by omega) (by omega) (ht _ (by omega))) (fun v9 w9 h9 => ?_)
          obtain ⟨rfl, h9⟩ := h9
          subst w9
          show jWp 7 107 [some (jI law), some (jI f), some (jO a), some (jI (n : Int)), some (jJ f), none] [jJ (w.1 a (n - 3)), jJ (w.1 a (n - 1))] 0 0 w _
          refine jWp.blk mt 5 ?_
          show _ ∧ jWp 7 113 [some (jI law), some (jI f), some (jO a), some (jI (n : Int)), some (jJ f), none] [jI 2, jI (n : Int), jO a, jJ f, jJ ((w.1 a (n - 1)) * (w.1 a (n - 3)))] 0 0 w _
          refine ⟨rfl, ?_⟩
          refine jWp.calls (as := [jO a, jI (n : Int), jI 2]) (rest := [jJ f, jJ ((w.1 a (n - 1)) * (w.1 a (n - 3)))]) mt rfl rfl rfl rfl ?_
          refine jCall.mono (E_back (n := n) (s := 2) ha (by omega) (by omega) (by omega) (by omega) (ht _ (by omega))) (fun v9 w9 h9 => ?_)
          obtain ⟨rfl, h9⟩ := h9
          subst w9
          show jWp 7 116 [some (jI law), some (jI f), some (jO a), some (jI (n : Int)), some (jJ f), none] [jJ (w.1 a (n - 2)), jJ f, jJ ((w.1 a (n - 1)) * (w.1 a (n - 3)))] 0 0 w _
          refine jWp.blk mt 4 ?_
          show _ ∧ jWp 7 120 [some (jI law), some (jI f), some (jO a), some (jI (n : Int)), some (jJ f), none] [jI 2, jI (n : Int), jO a, jJ (f * (w.1 a (n - 2))), jJ ((w.1 a (n - 1)) * (w.1 a (n - 3)))] 0 0 w _
          refine ⟨rfl, ?_⟩
          refine jWp.calls (as := [jO a, jI (n : Int), jI 2]) (rest := [jJ (f * (w.1 a (n - 2))), jJ ((w.1 a (n - 1)) * (w.1 a (n - 3)))]) mt rfl rfl rfl rfl ?_
          refine jCall.mono (E_back (n := n) (s := 2) ha (by omega) (by omega) (by omega) (by omega) (ht _ (by omega))) (fun v9 w9 h9 => ?_)
          obtain ⟨rfl, h9⟩ := h9
          subst w9
          show jWp 7 123 [some (jI law), some (jI f), some (jO a), some (jI (n : Int)), some (jJ f), none] [jJ (w.1 a (n - 2)), jJ (f * (w.1 a (n - 2))), jJ ((w.1 a (n - 1)) * (w.1 a (n - 3)))] 0 0 w _
          refine jWp.blk mt 2 ?_
          show jWp 7 125 [some (jI law), some (jI f), some (jO a), some (jI (n : Int)), some (jJ f), none] [jJ (((w.1 a (n - 1)) * (w.1 a (n - 3))) + ((f * (w.1 a (n - 2))) * (w.1 a (n - 2))))] 0 0 w _
          refine jWp.lret mt rfl ⟨rfl, rfl⟩ rfl ?_
          first
          | (have e : law = 0 := by omega
             subst e
             exact ⟨rfl, rfl⟩)
          | (have e : law = 1 := by omega
             subst e
             exact ⟨rfl, rfl⟩)
          | (have e : law = 2 := by omega
             subst e
             exact ⟨rfl, rfl⟩)
          | (have e : law = 3 := by omega
             subst e
             exact ⟨rfl, rfl⟩)
          | (have e : law = 4 := by omega
             subst e
             exact ⟨rfl, rfl⟩)
          | (have e : law = 5 := by omega
             subst e
             exact ⟨rfl, rfl⟩)
          | (have e : law = 6 := by omega
             subst e
             exact ⟨rfl, rfl⟩)
        · rw [if_neg h4]
          unfold jsw; by_cases h5 : 4 = law
          · rw [if_pos h5]
            refine jWp.blk mt 3 ?_
            show _ ∧ jWp 7 129 [some (jI law), some (jI f), some (jO a), some (jI (n : Int)), some (jJ f), none] [jI 1, jI (n : Int), jO a] 0 0 w _
            refine ⟨rfl, ?_⟩
            refine jWp.calls (as := [jO a, jI (n : Int), jI 1]) (rest := []) mt rfl rfl rfl rfl ?_
            refine jCall.mono (E_back (n := n) (s := 1) ha (by omega) (by omega) (by omega) (by omega) (ht _ (by omega))) (fun v9 w9 h9 => ?_)
            obtain ⟨rfl, h9⟩ := h9
            subst w9
            show jWp 7 132 [some (jI law), some (jI f), some (jO a), some (jI (n : Int)), some (jJ f), none] [jJ (w.1 a (n - 1))] 0 0 w _
            refine jWp.blk mt 3 ?_
            show _ ∧ jWp 7 135 [some (jI law), some (jI f), some (jO a), some (jI (n : Int)), some (jJ f), none] [jI 4, jI (n : Int), jO a, jJ (w.1 a (n - 1))] 0 0 w _
            refine ⟨rfl, ?_⟩
            refine jWp.calls (as := [jO a, jI (n : Int), jI 4]) (rest := [jJ (w.1 a (n - 1))]) mt rfl rfl rfl rfl ?_
            refine jCall.mono (E_back (n := n) (s := 4) ha (by omega) (by omega) (by omega) (by omega) (ht _ (by omega))) (fun v9 w9 h9 => ?_)
            obtain ⟨rfl, h9⟩ := h9
            subst w9
            show jWp 7 138 [some (jI law), some (jI f), some (jO a), some (jI (n : Int)), some (jJ f), none] [jJ (w.1 a (n - 4)), jJ (w.1 a (n - 1))] 0 0 w _
            refine jWp.blk mt 5 ?_
            show _ ∧ jWp 7 144 [some (jI law), some (jI f), some (jO a), some (jI (n : Int)), some (jJ f), none] [jI 2, jI (n : Int), jO a, jJ f, jJ ((w.1 a (n - 1)) * (w.1 a (n - 4)))] 0 0 w _
            refine ⟨rfl, ?_⟩
            refine jWp.calls (as := [jO a, jI (n : Int), jI 2]) (rest := [jJ f, jJ ((w.1 a (n - 1)) * (w.1 a (n - 4)))]) mt rfl rfl rfl rfl ?_
            refine jCall.mono (E_back (n := n) (s := 2) ha (by omega) (by omega) (by omega) (by omega) (ht _ (by omega))) (fun v9 w9 h9 => ?_)
            obtain ⟨rfl, h9⟩ := h9
            subst w9
            show jWp 7 147 [some (jI law), some (jI f), some (jO a), some (jI (n : Int)), some (jJ f), none] [jJ (w.1 a (n - 2)), jJ f, jJ ((w.1 a (n - 1)) * (w.1 a (n - 4)))] 0 0 w _
            refine jWp.blk mt 4 ?_
            show _ ∧ jWp 7 151 [some (jI law), some (jI f), some (jO a), some (jI (n : Int)), some (jJ f), none] [jI 3, jI (n : Int), jO a, jJ (f * (w.1 a (n - 2))), jJ ((w.1 a (n - 1)) * (w.1 a (n - 4)))] 0 0 w _
            refine ⟨rfl, ?_⟩
            refine jWp.calls (as := [jO a, jI (n : Int), jI 3]) (rest := [jJ (f * (w.1 a (n - 2))), jJ ((w.1 a (n - 1)) * (w.1 a (n - 4)))]) mt rfl rfl rfl rfl ?_
            refine jCall.mono (E_back (n := n) (s := 3) ha (by omega) (by omega) (by omega) (by omega) (ht _ (by omega))) (fun v9 w9 h9 => ?_)
            obtain ⟨rfl, h9⟩ := h9
            subst w9
            show jWp 7 154 [some (jI law), some (jI f), some (jO a), some (jI (n : Int)), some (jJ f), none] [jJ (w.1 a (n - 3)), jJ (f * (w.1 a (n - 2))), jJ ((w.1 a (n - 1)) * (w.1 a (n - 4)))] 0 0 w _
            refine jWp.blk mt 2 ?_
            show jWp 7 156 [some (jI law), some (jI f), some (jO a), some (jI (n : Int)), some (jJ f), none] [jJ (((w.1 a (n - 1)) * (w.1 a (n - 4))) + ((f * (w.1 a (n - 2))) * (w.1 a (n - 3))))] 0 0 w _
            refine jWp.lret mt rfl ⟨rfl, rfl⟩ rfl ?_
            first
            | (have e : law = 0 := by omega
               subst e
               exact ⟨rfl, rfl⟩)
            | (have e : law = 1 := by omega
               subst e
               exact ⟨rfl, rfl⟩)
            | (have e : law = 2 := by omega
               subst e
               exact ⟨rfl, rfl⟩)
            | (have e : law = 3 := by omega
               subst e
               exact ⟨rfl, rfl⟩)
            | (have e : law = 4 := by omega
               subst e
               exact ⟨rfl, rfl⟩)
            | (have e : law = 5 := by omega
               subst e
               exact ⟨rfl, rfl⟩)
            | (have e : law = 6 := by omega
               subst e
               exact ⟨rfl, rfl⟩)
          · rw [if_neg h5]
            unfold jsw; by_cases h6 : 5 = law
            · rw [if_pos h6]
              refine jWp.blk mt 3 ?_
              show _ ∧ jWp 7 160 [some (jI law), some (jI f), some (jO a), some (jI (n : Int)), some (jJ f), none] [jI 1, jI (n : Int), jO a] 0 0 w _
              refine ⟨rfl, ?_⟩
              refine jWp.calls (as := [jO a, jI (n : Int), jI 1]) (rest := []) mt rfl rfl rfl rfl ?_
              refine jCall.mono (E_back (n := n) (s := 1) ha (by omega) (by omega) (by omega) (by omega) (ht _ (by omega))) (fun v9 w9 h9 => ?_)
              obtain ⟨rfl, h9⟩ := h9
              subst w9
              show jWp 7 163 [some (jI law), some (jI f), some (jO a), some (jI (n : Int)), some (jJ f), none] [jJ (w.1 a (n - 1))] 0 0 w _
              refine jWp.blk mt 3 ?_
              show _ ∧ jWp 7 166 [some (jI law), some (jI f), some (jO a), some (jI (n : Int)), some (jJ f), none] [jI 5, jI (n : Int), jO a, jJ (w.1 a (n - 1))] 0 0 w _
              refine ⟨rfl, ?_⟩
              refine jWp.calls (as := [jO a, jI (n : Int), jI 5]) (rest := [jJ (w.1 a (n - 1))]) mt rfl rfl rfl rfl ?_
              refine jCall.mono (E_back (n := n) (s := 5) ha (by omega) (by omega) (by omega) (by omega) (ht _ (by omega))) (fun v9 w9 h9 => ?_)
              obtain ⟨rfl, h9⟩ := h9
              subst w9
              show jWp 7 169 [some (jI law), some (jI f), some (jO a), some (jI (n : Int)), some (jJ f), none] [jJ (w.1 a (n - 5)), jJ (w.1 a (n - 1))] 0 0 w _
              refine jWp.blk mt 5 ?_
              show _ ∧ jWp 7 175 [some (jI law), some (jI f), some (jO a), some (jI (n : Int)), some (jJ f), none] [jI 2, jI (n : Int), jO a, jJ f, jJ ((w.1 a (n - 1)) * (w.1 a (n - 5)))] 0 0 w _
              refine ⟨rfl, ?_⟩
              refine jWp.calls (as := [jO a, jI (n : Int), jI 2]) (rest := [jJ f, jJ ((w.1 a (n - 1)) * (w.1 a (n - 5)))]) mt rfl rfl rfl rfl ?_
              refine jCall.mono (E_back (n := n) (s := 2) ha (by omega) (by omega) (by omega) (by omega) (ht _ (by omega))) (fun v9 w9 h9 => ?_)
              obtain ⟨rfl, h9⟩ := h9
              subst w9
              show jWp 7 178 [some (jI law), some (jI f), some (jO a), some (jI (n : Int)), some (jJ f), none] [jJ (w.1 a (n - 2)), jJ f, jJ ((w.1 a (n - 1)) * (w.1 a (n - 5)))] 0 0 w _
              refine jWp.blk mt 4 ?_
              show _ ∧ jWp 7 182 [some (jI law), some (jI f), some (jO a), some (jI (n : Int)), some (jJ f), none] [jI 4, jI (n : Int), jO a, jJ (f * (w.1 a (n - 2))), jJ ((w.1 a (n - 1)) * (w.1 a (n - 5)))] 0 0 w _
              refine ⟨rfl, ?_⟩
              refine jWp.calls (as := [jO a, jI (n : Int), jI 4]) (rest := [jJ (f * (w.1 a (n - 2))), jJ ((w.1 a (n - 1)) * (w.1 a (n - 5)))]) mt rfl rfl rfl rfl ?_
              refine jCall.mono (E_back (n := n) (s := 4) ha (by omega) (by omega) (by omega) (by omega) (ht _ (by omega))) (fun v9 w9 h9 => ?_)
              obtain ⟨rfl, h9⟩ := h9
              subst w9
              show jWp 7 185 [some (jI law), some (jI f), some (jO a), some (jI (n : Int)), some (jJ f), none] [jJ (w.1 a (n - 4)), jJ (f * (w.1 a (n - 2))), jJ ((w.1 a (n - 1)) * (w.1 a (n - 5)))] 0 0 w _
              refine jWp.blk mt 5 ?_
              show _ ∧ jWp 7 190 [some (jI law), some (jI f), some (jO a), some (jI (n : Int)), some (jJ f), none] [jI 3, jI (n : Int), jO a, jJ (((w.1 a (n - 1)) * (w.1 a (n - 5))) + ((f * (w.1 a (n - 2))) * (w.1 a (n - 4))))] 0 0 w _
              refine ⟨rfl, ?_⟩
              refine jWp.calls (as := [jO a, jI (n : Int), jI 3]) (rest := [jJ (((w.1 a (n - 1)) * (w.1 a (n - 5))) + ((f * (w.1 a (n - 2))) * (w.1 a (n - 4))))]) mt rfl rfl rfl rfl ?_
              refine jCall.mono (E_back (n := n) (s := 3) ha (by omega) (by omega) (by omega) (by omega) (ht _ (by omega))) (fun v9 w9 h9 => ?_)
              obtain ⟨rfl, h9⟩ := h9
              subst w9
              show jWp 7 193 [some (jI law), some (jI f), some (jO a), some (jI (n : Int)), some (jJ f), none] [jJ (w.1 a (n - 3)), jJ (((w.1 a (n - 1)) * (w.1 a (n - 5))) + ((f * (w.1 a (n - 2))) * (w.1 a (n - 4))))] 0 0 w _
              refine jWp.blk mt 3 ?_
              show _ ∧ jWp 7 196 [some (jI law), some (jI f), some (jO a), some (jI (n : Int)), some (jJ f), none] [jI 3, jI (n : Int), jO a, jJ (w.1 a (n - 3)), jJ (((w.1 a (n - 1)) * (w.1 a (n - 5))) + ((f * (w.1 a (n - 2))) * (w.1 a (n - 4))))] 0 0 w _
              refine ⟨rfl, ?_⟩
              refine jWp.calls (as := [jO a, jI (n : Int), jI 3]) (rest := [jJ (w.1 a (n - 3)), jJ (((w.1 a (n - 1)) * (w.1 a (n - 5))) + ((f * (w.1 a (n - 2))) * (w.1 a (n - 4))))]) mt rfl rfl rfl rfl ?_
              refine jCall.mono (E_back (n := n) (s := 3) ha (by omega) (by omega) (by omega) (by omega) (ht _ (by omega))) (fun v9 w9 h9 => ?_)
              obtain ⟨rfl, h9⟩ := h9
              subst w9
              show jWp 7 199 [some (jI law), some (jI f), some (jO a), some (jI (n : Int)), some (jJ f), none] [jJ (w.1 a (n - 3)), jJ (w.1 a (n - 3)), jJ (((w.1 a (n - 1)) * (w.1 a (n - 5))) + ((f * (w.1 a (n - 2))) * (w.1 a (n - 4))))] 0 0 w _
              refine jWp.blk mt 2 ?_
              show jWp 7 201 [some (jI law), some (jI f), some (jO a), some (jI (n : Int)), some (jJ f), none] [jJ ((((w.1 a (n - 1)) * (w.1 a (n - 5))) + ((f * (w.1 a (n - 2))) * (w.1 a (n - 4)))) + ((w.1 a (n - 3)) * (w.1 a (n - 3))))] 0 0 w _
              refine jWp.lret mt rfl ⟨rfl, rfl⟩ rfl ?_
              first
              | (have e : law = 0 := by omega
                 subst e
                 exact ⟨rfl, rfl⟩)
              | (have e : law = 1 := by omega
                 subst e
                 exact ⟨rfl, rfl⟩)
              | (have e : law = 2 := by omega
                 subst e
                 exact ⟨rfl, rfl⟩)
              | (have e : law = 3 := by omega
                 subst e
                 exact ⟨rfl, rfl⟩)
              | (have e : law = 4 := by omega
                 subst e
                 exact ⟨rfl, rfl⟩)
              | (have e : law = 5 := by omega
                 subst e
                 exact ⟨rfl, rfl⟩)
              | (have e : law = 6 := by omega
                 subst e
                 exact ⟨rfl, rfl⟩)
            · rw [if_neg h6]
              unfold jsw
              refine jWp.blk mt 3 ?_
              show _ ∧ jWp 7 205 [some (jI law), some (jI f), some (jO a), some (jI (n : Int)), some (jJ f), none] [jI 1, jI (n : Int), jO a] 0 0 w _
              refine ⟨rfl, ?_⟩
              refine jWp.calls (as := [jO a, jI (n : Int), jI 1]) (rest := []) mt rfl rfl rfl rfl ?_
              refine jCall.mono (E_back (n := n) (s := 1) ha (by omega) (by omega) (by omega) (by omega) (ht _ (by omega))) (fun v9 w9 h9 => ?_)
              obtain ⟨rfl, h9⟩ := h9
              subst w9
              show jWp 7 208 [some (jI law), some (jI f), some (jO a), some (jI (n : Int)), some (jJ f), none] [jJ (w.1 a (n - 1))] 0 0 w _
              refine jWp.blk mt 3 ?_
              show _ ∧ jWp 7 212 [some (jI law), some (jI f), some (jO a), some (jI (n : Int)), some (jJ f), none] [jI 7, jI (n : Int), jO a, jJ (w.1 a (n - 1))] 0 0 w _
              refine ⟨rfl, ?_⟩
              refine jWp.calls (as := [jO a, jI (n : Int), jI 7]) (rest := [jJ (w.1 a (n - 1))]) mt rfl rfl rfl rfl ?_
              refine jCall.mono (E_back (n := n) (s := 7) ha (by omega) (by omega) (by omega) (by omega) (ht _ (by omega))) (fun v9 w9 h9 => ?_)
              obtain ⟨rfl, h9⟩ := h9
              subst w9
              show jWp 7 215 [some (jI law), some (jI f), some (jO a), some (jI (n : Int)), some (jJ f), none] [jJ (w.1 a (n - 7)), jJ (w.1 a (n - 1))] 0 0 w _
              refine jWp.blk mt 4 ?_
              show _ ∧ jWp 7 219 [some (jI law), some (jI f), some (jO a), some (jI (n : Int)), some (jJ f), none] [jI 2, jI (n : Int), jO a, jJ ((w.1 a (n - 1)) * (w.1 a (n - 7)))] 0 0 w _
              refine ⟨rfl, ?_⟩
              refine jWp.calls (as := [jO a, jI (n : Int), jI 2]) (rest := [jJ ((w.1 a (n - 1)) * (w.1 a (n - 7)))]) mt rfl rfl rfl rfl ?_
              refine jCall.mono (E_back (n := n) (s := 2) ha (by omega) (by omega) (by omega) (by omega) (ht _ (by omega))) (fun v9 w9 h9 => ?_)
              obtain ⟨rfl, h9⟩ := h9
              subst w9
              show jWp 7 222 [some (jI law), some (jI f), some (jO a), some (jI (n : Int)), some (jJ f), none] [jJ (w.1 a (n - 2)), jJ ((w.1 a (n - 1)) * (w.1 a (n - 7)))] 0 0 w _
              refine jWp.blk mt 3 ?_
              show _ ∧ jWp 7 226 [some (jI law), some (jI f), some (jO a), some (jI (n : Int)), some (jJ f), none] [jI 6, jI (n : Int), jO a, jJ (w.1 a (n - 2)), jJ ((w.1 a (n - 1)) * (w.1 a (n - 7)))] 0 0 w _
              refine ⟨rfl, ?_⟩
              refine jWp.calls (as := [jO a, jI (n : Int), jI 6]) (rest := [jJ (w.1 a (n - 2)), jJ ((w.1 a (n - 1)) * (w.1 a (n - 7)))]) mt rfl rfl rfl rfl ?_
              refine jCall.mono (E_back (n := n) (s := 6) ha (by omega) (by omega) (by omega) (by omega) (ht _ (by omega))) (fun v9 w9 h9 => ?_)
              obtain ⟨rfl, h9⟩ := h9
              subst w9
              show jWp 7 229 [some (jI law), some (jI f), some (jO a), some (jI (n : Int)), some (jJ f), none] [jJ (w.1 a (n - 6)), jJ (w.1 a (n - 2)), jJ ((w.1 a (n - 1)) * (w.1 a (n - 7)))] 0 0 w _
              refine jWp.blk mt 6 ?_
              show _ ∧ jWp 7 236 [some (jI law), some (jI f), some (jO a), some (jI (n : Int)), some (jJ f), none] [jI 3, jI (n : Int), jO a, jJ f, jJ (((w.1 a (n - 1)) * (w.1 a (n - 7))) + ((w.1 a (n - 2)) * (w.1 a (n - 6))))] 0 0 w _
              refine ⟨rfl, ?_⟩
              refine jWp.calls (as := [jO a, jI (n : Int), jI 3]) (rest := [jJ f, jJ (((w.1 a (n - 1)) * (w.1 a (n - 7))) + ((w.1 a (n - 2)) * (w.1 a (n - 6))))]) mt rfl rfl rfl rfl ?_
              refine jCall.mono (E_back (n := n) (s := 3) ha (by omega) (by omega) (by omega) (by omega) (ht _ (by omega))) (fun v9 w9 h9 => ?_)
              obtain ⟨rfl, h9⟩ := h9
              subst w9
              show jWp 7 239 [some (jI law), some (jI f), some (jO a), some (jI (n : Int)), some (jJ f), none] [jJ (w.1 a (n - 3)), jJ f, jJ (((w.1 a (n - 1)) * (w.1 a (n - 7))) + ((w.1 a (n - 2)) * (w.1 a (n - 6))))] 0 0 w _
              refine jWp.blk mt 4 ?_
              show _ ∧ jWp 7 243 [some (jI law), some (jI f), some (jO a), some (jI (n : Int)), some (jJ f), none] [jI 5, jI (n : Int), jO a, jJ (f * (w.1 a (n - 3))), jJ (((w.1 a (n - 1)) * (w.1 a (n - 7))) + ((w.1 a (n - 2)) * (w.1 a (n - 6))))] 0 0 w _
              refine ⟨rfl, ?_⟩
              refine jWp.calls (as := [jO a, jI (n : Int), jI 5]) (rest := [jJ (f * (w.1 a (n - 3))), jJ (((w.1 a (n - 1)) * (w.1 a (n - 7))) + ((w.1 a (n - 2)) * (w.1 a (n - 6))))]) mt rfl rfl rfl rfl ?_
              refine jCall.mono (E_back (n := n) (s := 5) ha (by omega) (by omega) (by omega) (by omega) (ht _ (by omega))) (fun v9 w9 h9 => ?_)
              obtain ⟨rfl, h9⟩ := h9
              subst w9
              show jWp 7 246 [some (jI law), some (jI f), some (jO a), some (jI (n : Int)), some (jJ f), none] [jJ (w.1 a (n - 5)), jJ (f * (w.1 a (n - 3))), jJ (((w.1 a (n - 1)) * (w.1 a (n - 7))) + ((w.1 a (n - 2)) * (w.1 a (n - 6))))] 0 0 w _
              refine jWp.blk mt 5 ?_
              show _ ∧ jWp 7 251 [some (jI law), some (jI f), some (jO a), some (jI (n : Int)), some (jJ f), none] [jI 4, jI (n : Int), jO a, jJ ((((w.1 a (n - 1)) * (w.1 a (n - 7))) + ((w.1 a (n - 2)) * (w.1 a (n - 6)))) + ((f * (w.1 a (n - 3))) * (w.1 a (n - 5))))] 0 0 w _
              refine ⟨rfl, ?_⟩
              refine jWp.calls (as := [jO a, jI (n : Int), jI 4]) (rest := [jJ ((((w.1 a (n - 1)) * (w.1 a (n - 7))) + ((w.1 a (n - 2)) * (w.1 a (n - 6)))) + ((f * (w.1 a (n - 3))) * (w.1 a (n - 5))))]) mt rfl rfl rfl rfl ?_
              refine jCall.mono (E_back (n := n) (s := 4) ha (by omega) (by omega) (by omega) (by omega) (ht _ (by omega))) (fun v9 w9 h9 => ?_)
              obtain ⟨rfl, h9⟩ := h9
              subst w9
              show jWp 7 254 [some (jI law), some (jI f), some (jO a), some (jI (n : Int)), some (jJ f), none] [jJ (w.1 a (n - 4)), jJ ((((w.1 a (n - 1)) * (w.1 a (n - 7))) + ((w.1 a (n - 2)) * (w.1 a (n - 6)))) + ((f * (w.1 a (n - 3))) * (w.1 a (n - 5))))] 0 0 w _
              refine jWp.blk mt 3 ?_
              show _ ∧ jWp 7 257 [some (jI law), some (jI f), some (jO a), some (jI (n : Int)), some (jJ f), none] [jI 4, jI (n : Int), jO a, jJ (w.1 a (n - 4)), jJ ((((w.1 a (n - 1)) * (w.1 a (n - 7))) + ((w.1 a (n - 2)) * (w.1 a (n - 6)))) + ((f * (w.1 a (n - 3))) * (w.1 a (n - 5))))] 0 0 w _
              refine ⟨rfl, ?_⟩
              refine jWp.calls (as := [jO a, jI (n : Int), jI 4]) (rest := [jJ (w.1 a (n - 4)), jJ ((((w.1 a (n - 1)) * (w.1 a (n - 7))) + ((w.1 a (n - 2)) * (w.1 a (n - 6)))) + ((f * (w.1 a (n - 3))) * (w.1 a (n - 5))))]) mt rfl rfl rfl rfl ?_
              refine jCall.mono (E_back (n := n) (s := 4) ha (by omega) (by omega) (by omega) (by omega) (ht _ (by omega))) (fun v9 w9 h9 => ?_)
              obtain ⟨rfl, h9⟩ := h9
              subst w9
              show jWp 7 260 [some (jI law), some (jI f), some (jO a), some (jI (n : Int)), some (jJ f), none] [jJ (w.1 a (n - 4)), jJ (w.1 a (n - 4)), jJ ((((w.1 a (n - 1)) * (w.1 a (n - 7))) + ((w.1 a (n - 2)) * (w.1 a (n - 6)))) + ((f * (w.1 a (n - 3))) * (w.1 a (n - 5))))] 0 0 w _
              refine jWp.blk mt 2 ?_
              show jWp 7 262 [some (jI law), some (jI f), some (jO a), some (jI (n : Int)), some (jJ f), none] [jJ (((((w.1 a (n - 1)) * (w.1 a (n - 7))) + ((w.1 a (n - 2)) * (w.1 a (n - 6)))) + ((f * (w.1 a (n - 3))) * (w.1 a (n - 5)))) + ((w.1 a (n - 4)) * (w.1 a (n - 4))))] 0 0 w _
              refine jWp.lret mt rfl ⟨rfl, rfl⟩ rfl ?_
              first
              | (have e : law = 0 := by omega
                 subst e
                 exact ⟨rfl, rfl⟩)
              | (have e : law = 1 := by omega
                 subst e
                 exact ⟨rfl, rfl⟩)
              | (have e : law = 2 := by omega
                 subst e
                 exact ⟨rfl, rfl⟩)
              | (have e : law = 3 := by omega
                 subst e
                 exact ⟨rfl, rfl⟩)
              | (have e : law = 4 := by omega
                 subst e
                 exact ⟨rfl, rfl⟩)
              | (have e : law = 5 := by omega
                 subst e
                 exact ⟨rfl, rfl⟩)
              | (have e : law = 6 := by omega
                 subst e
                 exact ⟨rfl, rfl⟩)
set_option maxHeartbeats 4000000 in
set_option maxRecDepth 20000 in
theorem E_divisor {w : jS} {a n len : Nat} {law : Int} (hO : jOK w) (ha : w.2.1 a = (100, len)) (h0 : 0 ≤ law) (h6 : law ≤ 6) (hq : (zO law).toNat ≤ n) (hl : n ≤ len) (hln : len < 1000) (ht : ∀ j, j < n → r32 (w.1 a j)) : jCall 8 [jI law, jO a, jI (n : Int)] w (jvj (zD law (w.1 a) n) w) := by
  have mt : jtb 8 = jT8 := rfl
  have hz := zO_q hq
  have hb := zO_b h0 h6
  obtain ⟨m, hm⟩ : ∃ m : Nat, (m : Int) = zO law := ⟨(zO law).toNat, by omega⟩
  show jWp 8 0 [some (jI law), some (jO a), some (jI (n : Int))] [] 0 0 w _
  refine jWp.blk mt 1 ?_
  show jWp 8 1 [some (jI law), some (jO a), some (jI (n : Int))] [jI law] 0 0 w _
  refine jWp.ifz (pc' := 4) mt rfl rfl (b32_id (by omega) (by omega)) (fun h1 => ?_) (fun h1 => ?_)
  · have h1 : law ≠ 0 := h1
    refine jWp.blk mt 3 ?_
    show _ ∧ jWp 8 11 [some (jI law), some (jO a), some (jI (n : Int))] [jI law, jI (n : Int), jO a] 0 0 w _
    refine ⟨rfl, ?_⟩
    refine jWp.calls (as := [jI law]) (rest := [jI (n : Int), jO a]) mt rfl rfl rfl rfl ?_
    refine jCall.mono (E_orderOf hO (by omega) (by omega)) (fun v9 w9 h9 => ?_)
    obtain ⟨rfl, h9⟩ := h9
    subst w9
    show jWp 8 14 [some (jI law), some (jO a), some (jI (n : Int))] [jI (zO law), jI (n : Int), jO a] 0 0 w _
    refine jWp.calls (as := [jO a, jI (n : Int), jI (zO law)]) (rest := []) mt rfl rfl rfl rfl ?_
    refine jCall.mono ((show jCall 9 [jO a, jI (n : Int), jI (zO law)] w (jvj (w.1 a (n - m)) w) from by rw [← hm]; exact E_back (n := n) (s := m) ha (by omega) (by omega) (by omega) (by omega) (ht _ (by omega)))) (fun v9 w9 h9 => ?_)
    obtain ⟨rfl, h9⟩ := h9
    subst w9
    show jWp 8 17 [some (jI law), some (jO a), some (jI (n : Int))] [jJ (w.1 a (n - m))] 0 0 w _
    refine jWp.lret mt rfl ⟨rfl, rfl⟩ rfl ?_
    refine ⟨?_, rfl⟩
    unfold zD
    rw [if_neg (by omega), ← hm]
    rfl
  · have h1 : law = 0 := h1
    refine jWp.blk mt 2 ?_
    show jWp 8 17 [some (jI law), some (jO a), some (jI (n : Int))] [jJ 1] 0 0 w _
    refine jWp.lret mt rfl ⟨rfl, rfl⟩ rfl ?_
    have e : law = 0 := by omega
    subst e
    exact ⟨rfl, rfl⟩
set_option maxHeartbeats 4000000 in
set_option maxRecDepth 20000 in
theorem E_in {w : jS} {v a b : Int} (hv : b64 v = v) (ha : b64 a = a) (hb : b64 b = b) : jCall 135 [jJ v, jJ a, jJ b] w (jvb (a ≤ v ∧ v ≤ b) w) := by
  have mt : jtb 135 = jT135 := rfl
  show jWp 135 0 [some (jJ v), none, some (jJ a), none, some (jJ b), none] [] 0 0 w _
  refine jWp.blk mt 2 ?_
  show jWp 135 2 [some (jJ v), none, some (jJ a), none, some (jJ b), none] [jJ a, jJ v] 0 0 w _
  refine jWp.lcmp (pc' := 6) mt rfl rfl rfl hv ha (fun h1 => ?_) (fun h1 => ?_)
  · have h1 : v < a := h1
    refine jWp.blk mt 1 ?_
    show jWp 135 18 [some (jJ v), none, some (jJ a), none, some (jJ b), none] [jI 0] 0 0 w _
    refine jWp.iretz mt rfl ⟨rfl, rfl⟩ rfl (Or.inl rfl) ?_
    exact Or.inr ⟨rfl, rfl, by omega⟩
  · have h1 : a ≤ v := h1
    refine jWp.blk mt 2 ?_
    show jWp 135 9 [some (jJ v), none, some (jJ a), none, some (jJ b), none] [jJ b, jJ v] 0 0 w _
    refine jWp.lcmp (pc' := 13) mt rfl rfl rfl hv hb (fun h2 => ?_) (fun h2 => ?_)
    · have h2 : b < v := h2
      refine jWp.blk mt 1 ?_
      show jWp 135 18 [some (jJ v), none, some (jJ a), none, some (jJ b), none] [jI 0] 0 0 w _
      refine jWp.iretz mt rfl ⟨rfl, rfl⟩ rfl (Or.inl rfl) ?_
      exact Or.inr ⟨rfl, rfl, by omega⟩
    · have h2 : v ≤ b := h2
      refine jWp.blk mt 2 ?_
      show jWp 135 18 [some (jJ v), none, some (jJ a), none, some (jJ b), none] [jI 1] 0 0 w _
      refine jWp.iretz mt rfl ⟨rfl, rfl⟩ rfl (Or.inr rfl) ?_
      exact Or.inl ⟨rfl, rfl, by omega⟩
set_option maxHeartbeats 4000000 in
set_option maxRecDepth 20000 in
theorem E_order {w : jS} {law : Int} (h0 : 0 ≤ law) (h6 : law ≤ 6) : jCall 141 [jI law] w (jvi (zO law) w) := by
  have mt : jtb 141 = jT141 := rfl
  show jWp 141 0 [some (jI law)] [] 0 0 w _
  refine jWp.blk mt 2 ?_
  show jWp 141 2 [some (jI law)] [jI 2, jI law] 0 0 w _
  refine jWp.icmp (pc' := 5) mt rfl rfl (b32_id (by omega) (by omega)) (show b32 2 = 2 by decide) (fun h1 => ?_) (fun h1 => ?_)
  · have h1 : 2 ≤ law := h1
    refine jWp.blk mt 2 ?_
    show jWp 141 12 [some (jI law)] [jI 6, jI law] 0 0 w _
    refine jWp.icmp (pc' := 15) mt rfl rfl (b32_id (by omega) (by omega)) (show b32 6 = 6 by decide) (fun h2 => ?_) (fun h2 => ?_)
    · have h2 : 6 ≤ law := h2
      refine jWp.blk mt 1 ?_
      show jWp 141 23 [some (jI law)] [jI 8] 0 0 w _
      refine jWp.ireti mt rfl ⟨rfl, rfl⟩ rfl ?_
      refine ⟨?_, rfl⟩
      unfold zO
      rw [if_neg (by omega), if_neg (by omega)]
    · have h2 : law < 6 := h2
      refine jWp.blk mt 4 ?_
      show jWp 141 23 [some (jI law)] [jI (law + 1)] 0 0 w _
      refine jWp.ireti mt rfl ⟨rfl, rfl⟩ rfl ?_
      refine ⟨?_, rfl⟩
      unfold zO
      rw [if_neg (by omega), if_pos (by omega)]
  · have h1 : law < 2 := h1
    refine jWp.blk mt 2 ?_
    show jWp 141 23 [some (jI law)] [jI 2] 0 0 w _
    refine jWp.ireti mt rfl ⟨rfl, rfl⟩ rfl ?_
    refine ⟨?_, rfl⟩
    unfold zO
    rw [if_pos (by omega)]
set_option maxHeartbeats 4000000 in
set_option maxRecDepth 20000 in
theorem E_above {w : jS} {a n len : Nat} {law f : Int} (ha : w.2.1 a = (101, len)) (h0 : 0 ≤ law) (h6 : law ≤ 6) (hq : (zO law).toNat ≤ n) (hl : n ≤ len) (hln : len < 1000) : jCall 144 [jO a, jI law, jJ f, jI (n : Int)] w (jvj (zP law f (w.1 a) n) w) := by
  have mt : jtb 144 = jT144 := rfl
  have hz := zO_q hq
  show jWp 144 0 [some (jO a), some (jI law), some (jJ f), none, some (jI (n : Int))] [] 0 0 w _
  refine jWp.blk mt 1 ?_
  show jWp 144 1 [some (jO a), some (jI law), some (jJ f), none, some (jI (n : Int))] [jI law] 0 0 w _
  refine jWp.sw mt rfl (Or.inl ⟨_, _, _, _, rfl⟩) (b32_id (by omega) (by omega)) ?_
  show jWp 144 (jsw [(0, 40), (1, 56), (2, 72), (3, 88), (4, 118), (5, 148)] 192 law) [some (jO a), some (jI law), some (jJ f), none, some (jI (n : Int))] [] 0 0 w _
  unfold jsw; by_cases h1 : 0 = law
  · rw [if_pos h1]
    refine jWp.blk mt 5 ?_
    show _ ∧ jWp 144 46 [some (jO a), some (jI law), some (jJ f), none, some (jI (n : Int))] [jI ((n : Int) - 1), jO a, jJ f] 0 0 w _
    refine ⟨rfl, ?_⟩
    refine jWp.lald (pc' := 47) (j := (n - 1)) mt rfl rfl (jtg ha) (by rw [b32_id (by omega) (by omega)]; omega) (jlt ha (by omega)) ?_
    show jWp 144 47 [some (jO a), some (jI law), some (jJ f), none, some (jI (n : Int))] [jJ (w.1 a (n - 1)), jJ f] 0 0 w _
    refine jWp.blk mt 5 ?_
    show _ ∧ jWp 144 53 [some (jO a), some (jI law), some (jJ f), none, some (jI (n : Int))] [jI ((n : Int) - 2), jO a, jJ (f * (w.1 a (n - 1)))] 0 0 w _
    refine ⟨rfl, ?_⟩
    refine jWp.lald (pc' := 54) (j := (n - 2)) mt rfl rfl (jtg ha) (by rw [b32_id (by omega) (by omega)]; omega) (jlt ha (by omega)) ?_
    show jWp 144 54 [some (jO a), some (jI law), some (jJ f), none, some (jI (n : Int))] [jJ (w.1 a (n - 2)), jJ (f * (w.1 a (n - 1)))] 0 0 w _
    refine jWp.blk mt 1 ?_
    show jWp 144 55 [some (jO a), some (jI law), some (jJ f), none, some (jI (n : Int))] [jJ ((f * (w.1 a (n - 1))) - (w.1 a (n - 2)))] 0 0 w _
    refine jWp.lret mt rfl ⟨rfl, rfl⟩ rfl ?_
    first
    | (have e : law = 0 := by omega
       subst e
       exact ⟨rfl, rfl⟩)
    | (have e : law = 1 := by omega
       subst e
       exact ⟨rfl, rfl⟩)
    | (have e : law = 2 := by omega
       subst e
       exact ⟨rfl, rfl⟩)
    | (have e : law = 3 := by omega
       subst e
       exact ⟨rfl, rfl⟩)
    | (have e : law = 4 := by omega
       subst e
       exact ⟨rfl, rfl⟩)
    | (have e : law = 5 := by omega
       subst e
       exact ⟨rfl, rfl⟩)
    | (have e : law = 6 := by omega
       subst e
       exact ⟨rfl, rfl⟩)
  · rw [if_neg h1]
    unfold jsw; by_cases h2 : 1 = law
    · rw [if_pos h2]
      refine jWp.blk mt 4 ?_
      show _ ∧ jWp 144 61 [some (jO a), some (jI law), some (jJ f), none, some (jI (n : Int))] [jI ((n : Int) - 1), jO a] 0 0 w _
      refine ⟨rfl, ?_⟩
      refine jWp.lald (pc' := 62) (j := (n - 1)) mt rfl rfl (jtg ha) (by rw [b32_id (by omega) (by omega)]; omega) (jlt ha (by omega)) ?_
      show jWp 144 62 [some (jO a), some (jI law), some (jJ f), none, some (jI (n : Int))] [jJ (w.1 a (n - 1))] 0 0 w _
      refine jWp.blk mt 4 ?_
      show _ ∧ jWp 144 67 [some (jO a), some (jI law), some (jJ f), none, some (jI (n : Int))] [jI ((n : Int) - 1), jO a, jJ (w.1 a (n - 1))] 0 0 w _
      refine ⟨rfl, ?_⟩
      refine jWp.lald (pc' := 68) (j := (n - 1)) mt rfl rfl (jtg ha) (by rw [b32_id (by omega) (by omega)]; omega) (jlt ha (by omega)) ?_
      show jWp 144 68 [some (jO a), some (jI law), some (jJ f), none, some (jI (n : Int))] [jJ (w.1 a (n - 1)), jJ (w.1 a (n - 1))] 0 0 w _
      refine jWp.blk mt 3 ?_
      show jWp 144 71 [some (jO a), some (jI law), some (jJ f), none, some (jI (n : Int))] [jJ (((w.1 a (n - 1)) * (w.1 a (n - 1))) + f)] 0 0 w _
      refine jWp.lret mt rfl ⟨rfl, rfl⟩ rfl ?_
      first
      | (have e : law = 0 := by omega
         subst e
         exact ⟨rfl, rfl⟩)
      | (have e : law = 1 := by omega
         subst e
         exact ⟨rfl, rfl⟩)
      | (have e : law = 2 := by omega
         subst e
         exact ⟨rfl, rfl⟩)
      | (have e : law = 3 := by omega
         subst e
         exact ⟨rfl, rfl⟩)
      | (have e : law = 4 := by omega
         subst e
         exact ⟨rfl, rfl⟩)
      | (have e : law = 5 := by omega
         subst e
         exact ⟨rfl, rfl⟩)
      | (have e : law = 6 := by omega
         subst e
         exact ⟨rfl, rfl⟩)
    · rw [if_neg h2]
      unfold jsw; by_cases h3 : 2 = law
      · rw [if_pos h3]
        refine jWp.blk mt 4 ?_
        show _ ∧ jWp 144 77 [some (jO a), some (jI law), some (jJ f), none, some (jI (n : Int))] [jI ((n : Int) - 1), jO a] 0 0 w _
        refine ⟨rfl, ?_⟩
        refine jWp.lald (pc' := 78) (j := (n - 1)) mt rfl rfl (jtg ha) (by rw [b32_id (by omega) (by omega)]; omega) (jlt ha (by omega)) ?_
        show jWp 144 78 [some (jO a), some (jI law), some (jJ f), none, some (jI (n : Int))] [jJ (w.1 a (n - 1))] 0 0 w _
        refine jWp.blk mt 4 ?_
        show _ ∧ jWp 144 83 [some (jO a), some (jI law), some (jJ f), none, some (jI (n : Int))] [jI ((n : Int) - 2), jO a, jJ (w.1 a (n - 1))] 0 0 w _
        refine ⟨rfl, ?_⟩
        refine jWp.lald (pc' := 84) (j := (n - 2)) mt rfl rfl (jtg ha) (by rw [b32_id (by omega) (by omega)]; omega) (jlt ha (by omega)) ?_
        show jWp 144 84 [some (jO a), some (jI law), some (jJ f), none, some (jI (n : Int))] [jJ (w.1 a (n - 2)), jJ (w.1 a (n - 1))] 0 0 w _
        refine jWp.blk mt 3 ?_
        show jWp 144 87 [some (jO a), some (jI law), some (jJ f), none, some (jI (n : Int))] [jJ (((w.1 a (n - 1)) * (w.1 a (n - 2))) + f)] 0 0 w _
        refine jWp.lret mt rfl ⟨rfl, rfl⟩ rfl ?_
        first
        | (have e : law = 0 := by omega
           subst e
           exact ⟨rfl, rfl⟩)
        | (have e : law = 1 := by omega
           subst e
           exact ⟨rfl, rfl⟩)
        | (have e : law = 2 := by omega
           subst e
           exact ⟨rfl, rfl⟩)
        | (have e : law = 3 := by omega
           subst e
           exact ⟨rfl, rfl⟩)
        | (have e : law = 4 := by omega
           subst e
           exact ⟨rfl, rfl⟩)
        | (have e : law = 5 := by omega
           subst e
           exact ⟨rfl, rfl⟩)
        | (have e : law = 6 := by omega
           subst e
           exact ⟨rfl, rfl⟩)
      · rw [if_neg h3]
        unfold jsw; by_cases h4 : 3 = law
        · rw [if_pos h4]
          refine jWp.blk mt 4 ?_
          show _ ∧ jWp 144 93 [some (jO a), some (jI law), some (jJ f), none, some (jI (n : Int))] [jI ((n : Int) - 1), jO a] 0 0 w _
          refine ⟨rfl, ?_⟩
          refine jWp.lald (pc' := 94) (j := (n - 1)) mt rfl rfl (jtg ha) (by rw [b32_id (by omega) (by omega)]; omega) (jlt ha (by omega)) ?_
          show jWp 144 94 [some (jO a), some (jI law), some (jJ f), none, some (jI (n : Int))] [jJ (w.1 a (n - 1))] 0 0 w _
          refine jWp.blk mt 4 ?_
          show _ ∧ jWp 144 99 [some (jO a), some (jI law), some (jJ f), none, some (jI (n : Int))] [jI ((n : Int) - 3), jO a, jJ (w.1 a (n - 1))] 0 0 w _
          refine ⟨rfl, ?_⟩
          refine jWp.lald (pc' := 100) (j := (n - 3)) mt rfl rfl (jtg ha) (by rw [b32_id (by omega) (by omega)]; omega) (jlt ha (by omega)) ?_
          show jWp 144 100 [some (jO a), some (jI law), some (jJ f), none, some (jI (n : Int))] [jJ (w.1 a (n - 3)), jJ (w.1 a (n - 1))] 0 0 w _
          refine jWp.blk mt 6 ?_
          show _ ∧ jWp 144 107 [some (jO a), some (jI law), some (jJ f), none, some (jI (n : Int))] [jI ((n : Int) - 2), jO a, jJ f, jJ ((w.1 a (n - 1)) * (w.1 a (n - 3)))] 0 0 w _
          refine ⟨rfl, ?_⟩
          refine jWp.lald (pc' := 108) (j := (n - 2)) mt rfl rfl (jtg ha) (by rw [b32_id (by omega) (by omega)]; omega) (jlt ha (by omega)) ?_
          show jWp 144 108 [some (jO a), some (jI law), some (jJ f), none, some (jI (n : Int))] [jJ (w.1 a (n - 2)), jJ f, jJ ((w.1 a (n - 1)) * (w.1 a (n - 3)))] 0 0 w _
          refine jWp.blk mt 5 ?_
          show _ ∧ jWp 144 114 [some (jO a), some (jI law), some (jJ f), none, some (jI (n : Int))] [jI ((n : Int) - 2), jO a, jJ (f * (w.1 a (n - 2))), jJ ((w.1 a (n - 1)) * (w.1 a (n - 3)))] 0 0 w _
          refine ⟨rfl, ?_⟩
          refine jWp.lald (pc' := 115) (j := (n - 2)) mt rfl rfl (jtg ha) (by rw [b32_id (by omega) (by omega)]; omega) (jlt ha (by omega)) ?_
          show jWp 144 115 [some (jO a), some (jI law), some (jJ f), none, some (jI (n : Int))] [jJ (w.1 a (n - 2)), jJ (f * (w.1 a (n - 2))), jJ ((w.1 a (n - 1)) * (w.1 a (n - 3)))] 0 0 w _
          refine jWp.blk mt 2 ?_
          show jWp 144 117 [some (jO a), some (jI law), some (jJ f), none, some (jI (n : Int))] [jJ (((w.1 a (n - 1)) * (w.1 a (n - 3))) + ((f * (w.1 a (n - 2))) * (w.1 a (n - 2))))] 0 0 w _
          refine jWp.lret mt rfl ⟨rfl, rfl⟩ rfl ?_
          first
          | (have e : law = 0 := by omega
             subst e
             exact ⟨rfl, rfl⟩)
          | (have e : law = 1 := by omega
             subst e
             exact ⟨rfl, rfl⟩)
          | (have e : law = 2 := by omega
             subst e
             exact ⟨rfl, rfl⟩)
          | (have e : law = 3 := by omega
             subst e
             exact ⟨rfl, rfl⟩)
          | (have e : law = 4 := by omega
             subst e
             exact ⟨rfl, rfl⟩)
          | (have e : law = 5 := by omega
             subst e
             exact ⟨rfl, rfl⟩)
          | (have e : law = 6 := by omega
             subst e
             exact ⟨rfl, rfl⟩)
        · rw [if_neg h4]
          unfold jsw; by_cases h5 : 4 = law
          · rw [if_pos h5]
            refine jWp.blk mt 4 ?_
            show _ ∧ jWp 144 123 [some (jO a), some (jI law), some (jJ f), none, some (jI (n : Int))] [jI ((n : Int) - 1), jO a] 0 0 w _
            refine ⟨rfl, ?_⟩
            refine jWp.lald (pc' := 124) (j := (n - 1)) mt rfl rfl (jtg ha) (by rw [b32_id (by omega) (by omega)]; omega) (jlt ha (by omega)) ?_
            show jWp 144 124 [some (jO a), some (jI law), some (jJ f), none, some (jI (n : Int))] [jJ (w.1 a (n - 1))] 0 0 w _
            refine jWp.blk mt 4 ?_
            show _ ∧ jWp 144 129 [some (jO a), some (jI law), some (jJ f), none, some (jI (n : Int))] [jI ((n : Int) - 4), jO a, jJ (w.1 a (n - 1))] 0 0 w _
            refine ⟨rfl, ?_⟩
            refine jWp.lald (pc' := 130) (j := (n - 4)) mt rfl rfl (jtg ha) (by rw [b32_id (by omega) (by omega)]; omega) (jlt ha (by omega)) ?_
            show jWp 144 130 [some (jO a), some (jI law), some (jJ f), none, some (jI (n : Int))] [jJ (w.1 a (n - 4)), jJ (w.1 a (n - 1))] 0 0 w _
            refine jWp.blk mt 6 ?_
            show _ ∧ jWp 144 137 [some (jO a), some (jI law), some (jJ f), none, some (jI (n : Int))] [jI ((n : Int) - 2), jO a, jJ f, jJ ((w.1 a (n - 1)) * (w.1 a (n - 4)))] 0 0 w _
            refine ⟨rfl, ?_⟩
            refine jWp.lald (pc' := 138) (j := (n - 2)) mt rfl rfl (jtg ha) (by rw [b32_id (by omega) (by omega)]; omega) (jlt ha (by omega)) ?_
            show jWp 144 138 [some (jO a), some (jI law), some (jJ f), none, some (jI (n : Int))] [jJ (w.1 a (n - 2)), jJ f, jJ ((w.1 a (n - 1)) * (w.1 a (n - 4)))] 0 0 w _
            refine jWp.blk mt 5 ?_
            show _ ∧ jWp 144 144 [some (jO a), some (jI law), some (jJ f), none, some (jI (n : Int))] [jI ((n : Int) - 3), jO a, jJ (f * (w.1 a (n - 2))), jJ ((w.1 a (n - 1)) * (w.1 a (n - 4)))] 0 0 w _
            refine ⟨rfl, ?_⟩
            refine jWp.lald (pc' := 145) (j := (n - 3)) mt rfl rfl (jtg ha) (by rw [b32_id (by omega) (by omega)]; omega) (jlt ha (by omega)) ?_
            show jWp 144 145 [some (jO a), some (jI law), some (jJ f), none, some (jI (n : Int))] [jJ (w.1 a (n - 3)), jJ (f * (w.1 a (n - 2))), jJ ((w.1 a (n - 1)) * (w.1 a (n - 4)))] 0 0 w _
            refine jWp.blk mt 2 ?_
            show jWp 144 147 [some (jO a), some (jI law), some (jJ f), none, some (jI (n : Int))] [jJ (((w.1 a (n - 1)) * (w.1 a (n - 4))) + ((f * (w.1 a (n - 2))) * (w.1 a (n - 3))))] 0 0 w _
            refine jWp.lret mt rfl ⟨rfl, rfl⟩ rfl ?_
            first
            | (have e : law = 0 := by omega
               subst e
               exact ⟨rfl, rfl⟩)
            | (have e : law = 1 := by omega
               subst e
               exact ⟨rfl, rfl⟩)
            | (have e : law = 2 := by omega
               subst e
               exact ⟨rfl, rfl⟩)
            | (have e : law = 3 := by omega
               subst e
               exact ⟨rfl, rfl⟩)
            | (have e : law = 4 := by omega
               subst e
               exact ⟨rfl, rfl⟩)
            | (have e : law = 5 := by omega
               subst e
               exact ⟨rfl, rfl⟩)
            | (have e : law = 6 := by omega
               subst e
               exact ⟨rfl, rfl⟩)
          · rw [if_neg h5]
            unfold jsw; by_cases h6 : 5 = law
            · rw [if_pos h6]
              refine jWp.blk mt 4 ?_
              show _ ∧ jWp 144 153 [some (jO a), some (jI law), some (jJ f), none, some (jI (n : Int))] [jI ((n : Int) - 1), jO a] 0 0 w _
              refine ⟨rfl, ?_⟩
              refine jWp.lald (pc' := 154) (j := (n - 1)) mt rfl rfl (jtg ha) (by rw [b32_id (by omega) (by omega)]; omega) (jlt ha (by omega)) ?_
              show jWp 144 154 [some (jO a), some (jI law), some (jJ f), none, some (jI (n : Int))] [jJ (w.1 a (n - 1))] 0 0 w _
              refine jWp.blk mt 4 ?_
              show _ ∧ jWp 144 159 [some (jO a), some (jI law), some (jJ f), none, some (jI (n : Int))] [jI ((n : Int) - 5), jO a, jJ (w.1 a (n - 1))] 0 0 w _
              refine ⟨rfl, ?_⟩
              refine jWp.lald (pc' := 160) (j := (n - 5)) mt rfl rfl (jtg ha) (by rw [b32_id (by omega) (by omega)]; omega) (jlt ha (by omega)) ?_
              show jWp 144 160 [some (jO a), some (jI law), some (jJ f), none, some (jI (n : Int))] [jJ (w.1 a (n - 5)), jJ (w.1 a (n - 1))] 0 0 w _
              refine jWp.blk mt 6 ?_
              show _ ∧ jWp 144 167 [some (jO a), some (jI law), some (jJ f), none, some (jI (n : Int))] [jI ((n : Int) - 2), jO a, jJ f, jJ ((w.1 a (n - 1)) * (w.1 a (n - 5)))] 0 0 w _
              refine ⟨rfl, ?_⟩
              refine jWp.lald (pc' := 168) (j := (n - 2)) mt rfl rfl (jtg ha) (by rw [b32_id (by omega) (by omega)]; omega) (jlt ha (by omega)) ?_
              show jWp 144 168 [some (jO a), some (jI law), some (jJ f), none, some (jI (n : Int))] [jJ (w.1 a (n - 2)), jJ f, jJ ((w.1 a (n - 1)) * (w.1 a (n - 5)))] 0 0 w _
              refine jWp.blk mt 5 ?_
              show _ ∧ jWp 144 174 [some (jO a), some (jI law), some (jJ f), none, some (jI (n : Int))] [jI ((n : Int) - 4), jO a, jJ (f * (w.1 a (n - 2))), jJ ((w.1 a (n - 1)) * (w.1 a (n - 5)))] 0 0 w _
              refine ⟨rfl, ?_⟩
              refine jWp.lald (pc' := 175) (j := (n - 4)) mt rfl rfl (jtg ha) (by rw [b32_id (by omega) (by omega)]; omega) (jlt ha (by omega)) ?_
              show jWp 144 175 [some (jO a), some (jI law), some (jJ f), none, some (jI (n : Int))] [jJ (w.1 a (n - 4)), jJ (f * (w.1 a (n - 2))), jJ ((w.1 a (n - 1)) * (w.1 a (n - 5)))] 0 0 w _
              refine jWp.blk mt 6 ?_
              show _ ∧ jWp 144 182 [some (jO a), some (jI law), some (jJ f), none, some (jI (n : Int))] [jI ((n : Int) - 3), jO a, jJ (((w.1 a (n - 1)) * (w.1 a (n - 5))) + ((f * (w.1 a (n - 2))) * (w.1 a (n - 4))))] 0 0 w _
              refine ⟨rfl, ?_⟩
              refine jWp.lald (pc' := 183) (j := (n - 3)) mt rfl rfl (jtg ha) (by rw [b32_id (by omega) (by omega)]; omega) (jlt ha (by omega)) ?_
              show jWp 144 183 [some (jO a), some (jI law), some (jJ f), none, some (jI (n : Int))] [jJ (w.1 a (n - 3)), jJ (((w.1 a (n - 1)) * (w.1 a (n - 5))) + ((f * (w.1 a (n - 2))) * (w.1 a (n - 4))))] 0 0 w _
              refine jWp.blk mt 4 ?_
              show _ ∧ jWp 144 188 [some (jO a), some (jI law), some (jJ f), none, some (jI (n : Int))] [jI ((n : Int) - 3), jO a, jJ (w.1 a (n - 3)), jJ (((w.1 a (n - 1)) * (w.1 a (n - 5))) + ((f * (w.1 a (n - 2))) * (w.1 a (n - 4))))] 0 0 w _
              refine ⟨rfl, ?_⟩
              refine jWp.lald (pc' := 189) (j := (n - 3)) mt rfl rfl (jtg ha) (by rw [b32_id (by omega) (by omega)]; omega) (jlt ha (by omega)) ?_
              show jWp 144 189 [some (jO a), some (jI law), some (jJ f), none, some (jI (n : Int))] [jJ (w.1 a (n - 3)), jJ (w.1 a (n - 3)), jJ (((w.1 a (n - 1)) * (w.1 a (n - 5))) + ((f * (w.1 a (n - 2))) * (w.1 a (n - 4))))] 0 0 w _
              refine jWp.blk mt 2 ?_
              show jWp 144 191 [some (jO a), some (jI law), some (jJ f), none, some (jI (n : Int))] [jJ ((((w.1 a (n - 1)) * (w.1 a (n - 5))) + ((f * (w.1 a (n - 2))) * (w.1 a (n - 4)))) + ((w.1 a (n - 3)) * (w.1 a (n - 3))))] 0 0 w _
              refine jWp.lret mt rfl ⟨rfl, rfl⟩ rfl ?_
              first
              | (have e : law = 0 := by omega
                 subst e
                 exact ⟨rfl, rfl⟩)
              | (have e : law = 1 := by omega
                 subst e
                 exact ⟨rfl, rfl⟩)
              | (have e : law = 2 := by omega
                 subst e
                 exact ⟨rfl, rfl⟩)
              | (have e : law = 3 := by omega
                 subst e
                 exact ⟨rfl, rfl⟩)
              | (have e : law = 4 := by omega
                 subst e
                 exact ⟨rfl, rfl⟩)
              | (have e : law = 5 := by omega
                 subst e
                 exact ⟨rfl, rfl⟩)
              | (have e : law = 6 := by omega
                 subst e
                 exact ⟨rfl, rfl⟩)
            · rw [if_neg h6]
              unfold jsw
              refine jWp.blk mt 4 ?_
              show _ ∧ jWp 144 197 [some (jO a), some (jI law), some (jJ f), none, some (jI (n : Int))] [jI ((n : Int) - 1), jO a] 0 0 w _
              refine ⟨rfl, ?_⟩
              refine jWp.lald (pc' := 198) (j := (n - 1)) mt rfl rfl (jtg ha) (by rw [b32_id (by omega) (by omega)]; omega) (jlt ha (by omega)) ?_
              show jWp 144 198 [some (jO a), some (jI law), some (jJ f), none, some (jI (n : Int))] [jJ (w.1 a (n - 1))] 0 0 w _
              refine jWp.blk mt 4 ?_
              show _ ∧ jWp 144 204 [some (jO a), some (jI law), some (jJ f), none, some (jI (n : Int))] [jI ((n : Int) - 7), jO a, jJ (w.1 a (n - 1))] 0 0 w _
              refine ⟨rfl, ?_⟩
              refine jWp.lald (pc' := 205) (j := (n - 7)) mt rfl rfl (jtg ha) (by rw [b32_id (by omega) (by omega)]; omega) (jlt ha (by omega)) ?_
              show jWp 144 205 [some (jO a), some (jI law), some (jJ f), none, some (jI (n : Int))] [jJ (w.1 a (n - 7)), jJ (w.1 a (n - 1))] 0 0 w _
              refine jWp.blk mt 5 ?_
              show _ ∧ jWp 144 211 [some (jO a), some (jI law), some (jJ f), none, some (jI (n : Int))] [jI ((n : Int) - 2), jO a, jJ ((w.1 a (n - 1)) * (w.1 a (n - 7)))] 0 0 w _
              refine ⟨rfl, ?_⟩
              refine jWp.lald (pc' := 212) (j := (n - 2)) mt rfl rfl (jtg ha) (by rw [b32_id (by omega) (by omega)]; omega) (jlt ha (by omega)) ?_
              show jWp 144 212 [some (jO a), some (jI law), some (jJ f), none, some (jI (n : Int))] [jJ (w.1 a (n - 2)), jJ ((w.1 a (n - 1)) * (w.1 a (n - 7)))] 0 0 w _
              refine jWp.blk mt 4 ?_
              show _ ∧ jWp 144 218 [some (jO a), some (jI law), some (jJ f), none, some (jI (n : Int))] [jI ((n : Int) - 6), jO a, jJ (w.1 a (n - 2)), jJ ((w.1 a (n - 1)) * (w.1 a (n - 7)))] 0 0 w _
              refine ⟨rfl, ?_⟩
              refine jWp.lald (pc' := 219) (j := (n - 6)) mt rfl rfl (jtg ha) (by rw [b32_id (by omega) (by omega)]; omega) (jlt ha (by omega)) ?_
              show jWp 144 219 [some (jO a), some (jI law), some (jJ f), none, some (jI (n : Int))] [jJ (w.1 a (n - 6)), jJ (w.1 a (n - 2)), jJ ((w.1 a (n - 1)) * (w.1 a (n - 7)))] 0 0 w _
              refine jWp.blk mt 7 ?_
              show _ ∧ jWp 144 227 [some (jO a), some (jI law), some (jJ f), none, some (jI (n : Int))] [jI ((n : Int) - 3), jO a, jJ f, jJ (((w.1 a (n - 1)) * (w.1 a (n - 7))) + ((w.1 a (n - 2)) * (w.1 a (n - 6))))] 0 0 w _
              refine ⟨rfl, ?_⟩
              refine jWp.lald (pc' := 228) (j := (n - 3)) mt rfl rfl (jtg ha) (by rw [b32_id (by omega) (by omega)]; omega) (jlt ha (by omega)) ?_
              show jWp 144 228 [some (jO a), some (jI law), some (jJ f), none, some (jI (n : Int))] [jJ (w.1 a (n - 3)), jJ f, jJ (((w.1 a (n - 1)) * (w.1 a (n - 7))) + ((w.1 a (n - 2)) * (w.1 a (n - 6))))] 0 0 w _
              refine jWp.blk mt 5 ?_
              show _ ∧ jWp 144 234 [some (jO a), some (jI law), some (jJ f), none, some (jI (n : Int))] [jI ((n : Int) - 5), jO a, jJ (f * (w.1 a (n - 3))), jJ (((w.1 a (n - 1)) * (w.1 a (n - 7))) + ((w.1 a (n - 2)) * (w.1 a (n - 6))))] 0 0 w _
              refine ⟨rfl, ?_⟩
              refine jWp.lald (pc' := 235) (j := (n - 5)) mt rfl rfl (jtg ha) (by rw [b32_id (by omega) (by omega)]; omega) (jlt ha (by omega)) ?_
              show jWp 144 235 [some (jO a), some (jI law), some (jJ f), none, some (jI (n : Int))] [jJ (w.1 a (n - 5)), jJ (f * (w.1 a (n - 3))), jJ (((w.1 a (n - 1)) * (w.1 a (n - 7))) + ((w.1 a (n - 2)) * (w.1 a (n - 6))))] 0 0 w _
              refine jWp.blk mt 6 ?_
              show _ ∧ jWp 144 242 [some (jO a), some (jI law), some (jJ f), none, some (jI (n : Int))] [jI ((n : Int) - 4), jO a, jJ ((((w.1 a (n - 1)) * (w.1 a (n - 7))) + ((w.1 a (n - 2)) * (w.1 a (n - 6)))) + ((f * (w.1 a (n - 3))) * (w.1 a (n - 5))))] 0 0 w _
              refine ⟨rfl, ?_⟩
              refine jWp.lald (pc' := 243) (j := (n - 4)) mt rfl rfl (jtg ha) (by rw [b32_id (by omega) (by omega)]; omega) (jlt ha (by omega)) ?_
              show jWp 144 243 [some (jO a), some (jI law), some (jJ f), none, some (jI (n : Int))] [jJ (w.1 a (n - 4)), jJ ((((w.1 a (n - 1)) * (w.1 a (n - 7))) + ((w.1 a (n - 2)) * (w.1 a (n - 6)))) + ((f * (w.1 a (n - 3))) * (w.1 a (n - 5))))] 0 0 w _
              refine jWp.blk mt 4 ?_
              show _ ∧ jWp 144 248 [some (jO a), some (jI law), some (jJ f), none, some (jI (n : Int))] [jI ((n : Int) - 4), jO a, jJ (w.1 a (n - 4)), jJ ((((w.1 a (n - 1)) * (w.1 a (n - 7))) + ((w.1 a (n - 2)) * (w.1 a (n - 6)))) + ((f * (w.1 a (n - 3))) * (w.1 a (n - 5))))] 0 0 w _
              refine ⟨rfl, ?_⟩
              refine jWp.lald (pc' := 249) (j := (n - 4)) mt rfl rfl (jtg ha) (by rw [b32_id (by omega) (by omega)]; omega) (jlt ha (by omega)) ?_
              show jWp 144 249 [some (jO a), some (jI law), some (jJ f), none, some (jI (n : Int))] [jJ (w.1 a (n - 4)), jJ (w.1 a (n - 4)), jJ ((((w.1 a (n - 1)) * (w.1 a (n - 7))) + ((w.1 a (n - 2)) * (w.1 a (n - 6)))) + ((f * (w.1 a (n - 3))) * (w.1 a (n - 5))))] 0 0 w _
              refine jWp.blk mt 2 ?_
              show jWp 144 251 [some (jO a), some (jI law), some (jJ f), none, some (jI (n : Int))] [jJ (((((w.1 a (n - 1)) * (w.1 a (n - 7))) + ((w.1 a (n - 2)) * (w.1 a (n - 6)))) + ((f * (w.1 a (n - 3))) * (w.1 a (n - 5)))) + ((w.1 a (n - 4)) * (w.1 a (n - 4))))] 0 0 w _
              refine jWp.lret mt rfl ⟨rfl, rfl⟩ rfl ?_
              first
              | (have e : law = 0 := by omega
                 subst e
                 exact ⟨rfl, rfl⟩)
              | (have e : law = 1 := by omega
                 subst e
                 exact ⟨rfl, rfl⟩)
              | (have e : law = 2 := by omega
                 subst e
                 exact ⟨rfl, rfl⟩)
              | (have e : law = 3 := by omega
                 subst e
                 exact ⟨rfl, rfl⟩)
              | (have e : law = 4 := by omega
                 subst e
                 exact ⟨rfl, rfl⟩)
              | (have e : law = 5 := by omega
                 subst e
                 exact ⟨rfl, rfl⟩)
              | (have e : law = 6 := by omega
                 subst e
                 exact ⟨rfl, rfl⟩)
set_option maxHeartbeats 4000000 in
set_option maxRecDepth 20000 in
theorem E_below {w : jS} {a n len : Nat} {law : Int} (ha : w.2.1 a = (101, len)) (h0 : 0 ≤ law) (h6 : law ≤ 6) (hq : (zO law).toNat ≤ n) (hl : n ≤ len) (hln : len < 1000) : jCall 145 [jO a, jI law, jI (n : Int)] w (jvj (zD law (w.1 a) n) w) := by
  have mt : jtb 145 = jT145 := rfl
  have hz := zO_q hq
  have hb := zO_b h0 h6
  obtain ⟨m, hm⟩ : ∃ m : Nat, (m : Int) = zO law := ⟨(zO law).toNat, by omega⟩
  show jWp 145 0 [some (jO a), some (jI law), some (jI (n : Int))] [] 0 0 w _
  refine jWp.blk mt 1 ?_
  show jWp 145 1 [some (jO a), some (jI law), some (jI (n : Int))] [jI law] 0 0 w _
  refine jWp.ifz (pc' := 4) mt rfl rfl (b32_id (by omega) (by omega)) (fun h1 => ?_) (fun h1 => ?_)
  · have h1 : law ≠ 0 := h1
    refine jWp.blk mt 3 ?_
    show _ ∧ jWp 145 11 [some (jO a), some (jI law), some (jI (n : Int))] [jI law, jI (n : Int), jO a] 0 0 w _
    refine ⟨rfl, ?_⟩
    refine jWp.calls (as := [jI law]) (rest := [jI (n : Int), jO a]) mt rfl rfl rfl rfl ?_
    refine jCall.mono (E_order (by omega) (by omega)) (fun v9 w9 h9 => ?_)
    obtain ⟨rfl, h9⟩ := h9
    subst w9
    show jWp 145 14 [some (jO a), some (jI law), some (jI (n : Int))] [jI (zO law), jI (n : Int), jO a] 0 0 w _
    refine jWp.blk mt 1 ?_
    show jWp 145 15 [some (jO a), some (jI law), some (jI (n : Int))] [jI ((n : Int) - (zO law)), jO a] 0 0 w _
    refine jWp.lald (pc' := 16) (j := (n - m)) mt rfl rfl (jtg ha) (by rw [b32_id (by omega) (by omega)]; omega) (jlt ha (by omega)) ?_
    show jWp 145 16 [some (jO a), some (jI law), some (jI (n : Int))] [jJ (w.1 a (n - m))] 0 0 w _
    refine jWp.lret mt rfl ⟨rfl, rfl⟩ rfl ?_
    refine ⟨?_, rfl⟩
    unfold zD
    rw [if_neg (by omega), ← hm]
    rfl
  · have h1 : law = 0 := h1
    refine jWp.blk mt 2 ?_
    show jWp 145 16 [some (jO a), some (jI law), some (jI (n : Int))] [jJ 1] 0 0 w _
    refine jWp.lret mt rfl ⟨rfl, rfl⟩ rfl ?_
    have e : law = 0 := by omega
    subst e
    exact ⟨rfl, rfl⟩
