theorem zcnt_l (u v : Nat → Int) (x y : Int) : ∀ j, zcnt u v j x y = ((((List.range j).map (fun i => (u i, v i))).count (x, y) : Nat) : Int)
  | 0 => rfl
  | j + 1 => by
    rw [List.range_succ, List.map_append, List.count_append]
    show zcnt u v j x y + (if u j = x ∧ v j = y then 1 else 0) = _
    rw [zcnt_l u v x y j]
    have e : ([j].map (fun i => (u i, v i))).count (x, y) = if u j = x ∧ v j = y then 1 else 0 := by
      show List.count (x, y) [(u j, v j)] = _
      rw [List.count_singleton]
      by_cases h : u j = x ∧ v j = y
      · rw [if_pos h, h.1, h.2, if_pos (by simp)]
      · rw [if_neg h, if_neg (fun g => h (by simpa using g))]
    rw [e]
    split <;> omega
theorem zperm : ∀ (A B : List (Int × Int)), A.length = B.length → (∀ a, a ∈ A → A.count a = B.count a) → A.Perm B
  | [], B, h, _ => by
    have : B = [] := List.length_eq_zero_iff.mp h.symm
    rw [this]
  | x :: A, B, h, hc => by
    have hx := hc x List.mem_cons_self
    have hm : x ∈ B := List.count_pos_iff.mp (by rw [← hx, List.count_cons_self]; omega)
    have hp := List.perm_cons_erase hm
    have hl : A.length = (B.erase x).length := by
      have := hp.length_eq
      simp only [List.length_cons] at this h
      omega
    refine (List.Perm.cons x (zperm A (B.erase x) hl (fun a ha => ?_))).trans hp.symm
    have h1 := hc a (List.mem_cons_of_mem x ha)
    have h2 := hp.count_eq a
    rw [List.count_cons] at h1 h2
    omega
theorem zsame_s {q p : Nat → Int} {n : Nat} (h : zsame q p n) : zsame p q n := by
  have hp : ((List.range n).map (fun j => (q (21 + j), q (25 + j)))).Perm ((List.range n).map (fun j => (p (21 + j), p (25 + j)))) := by
    refine zperm _ _ (by rw [List.length_map, List.length_map]) (fun a ha => ?_)
    obtain ⟨i, hi, rfl⟩ := List.mem_map.mp ha
    have := h i (List.mem_range.mp hi)
    rw [zcnt_l, zcnt_l] at this
    omega
  intro i hi
  rw [zcnt_l, zcnt_l]
  exact congrArg Int.ofNat (hp.count_eq _).symm
set_option maxHeartbeats 4000000 in
set_option maxRecDepth 20000 in
theorem C_without {w : jS} {s sc n : Nat} (hks : w.2.1 s = (6, 0)) (hkc : w.2.1 sc = (100, 44)) (hrc : w.2.2.1 s 1 = some sc) (hn0 : w.1 s 0 = (n : Int)) (hn4 : n ≤ 4) {q : Nat → Int} (hQ : zQ q n) (hRR : ∀ j, j < 28 → w.1 sc j = cz q n j) {a sg : Int} (hsg : (a = 0 ∧ sg = -1) ∨ (a = 1 ∧ sg = 1)) : jCall 63 [jO s, jI sg] w (jvi (zbt (zsi q a n) n) w) := by
  have mt : jtb 63 = jT63 := rfl
  show jWp 63 0 [some (jO s), some (jI sg), none, none, none, none] [] 0 0 w _
  refine jWp.blk mt 4 ?_
  show jWp 63 4 [some (jO s), some (jI sg), some (jI 0), some (jI 0), none, none] [] 0 0 w _
  have lp1 : ∀ (N : Nat) (k : Nat) (b : Int) (hk : k ≤ n) (hb : b = zbt (zsi q a n) k), n - k < N → jWp 63 4 [some (jO s), some (jI sg), some (jI b), some (jI (k : Int)), none, none] [] 0 0 w (jvi (zbt (zsi q a n) n) w) := by
    intro N
    induction N with
    | zero => intro k b hk hb hm; omega
    | succ N ih2 =>
      intro k b hk hb hm
      refine jWp.blk mt 2 ?_
      show _ ∧ jWp 63 6 [some (jO s), some (jI sg), some (jI b), some (jI (k : Int)), none, none] [jO s, jI (k : Int)] 0 0 w _
      refine ⟨rfl, ?_⟩
      refine jWp.getI (pc' := 9) mt rfl rfl (jtg hks) ?_
      rw [show (w.1 s 0) = (n : Int) from hn0]
      show jWp 63 9 [some (jO s), some (jI sg), some (jI b), some (jI (k : Int)), none, none] [jI (n : Int), jI (k : Int)] 0 0 w _
      refine jWp.icmp (pc' := 12) mt rfl rfl (b32_id (by omega) (by omega)) (b32_id (by omega) (by omega)) (fun h3 => ?_) (fun h3 => ?_)
      · have h3 : (n : Int) ≤ (k : Int) := h3
        refine jWp.blk mt 1 ?_
        show jWp 63 75 [some (jO s), some (jI sg), some (jI b), some (jI (k : Int)), none, none] [jI b] 0 0 w _
        refine jWp.ireti mt rfl ⟨rfl, rfl⟩ rfl ?_
        exact ⟨by rw [hb, show k = n by omega], rfl⟩
      · have h3 : (k : Int) < (n : Int) := h3
        refine jWp.blk mt 4 ?_
        show jWp 63 18 [some (jO s), some (jI sg), some (jI b), some (jI (k : Int)), some (jI 1), some (jI 0)] [] 0 0 w _
        have lp4 : ∀ (N : Nat) (i : Nat) (s9 : Int) (hi : i ≤ n) (hs : (s9 = 1 ∧ ∀ y, y < i → if a = 0 then 0 ≤ q (1 + (4 * y + k)) else q (1 + (4 * y + k)) ≤ 0) ∨ (s9 = 0 ∧ ¬ ∀ y, y < i → if a = 0 then 0 ≤ q (1 + (4 * y + k)) else q (1 + (4 * y + k)) ≤ 0)), n - i < N → jWp 63 18 [some (jO s), some (jI sg), some (jI b), some (jI (k : Int)), some (jI s9), some (jI (i : Int))] [] 0 0 w (jvi (zbt (zsi q a n) n) w) := by
          intro N
          induction N with
          | zero => intro i s9 hi hs hm; omega
          | succ N ih5 =>
            intro i s9 hi hs hm
            have hk4 : k < n := by omega
            have hf : i < n → _ := fun h => hQ.S.b (4 * i + k) (by omega)
            have hsb : i < n → -9 ≤ q (1 + (4 * i + k)) * sg ∧ q (1 + (4 * i + k)) * sg ≤ 9 := fun h => by have := hf h; rcases hsg with ⟨ea, es⟩ | ⟨ea, es⟩ <;> subst es <;> omega
            refine jWp.blk mt 2 ?_
            show _ ∧ jWp 63 21 [some (jO s), some (jI sg), some (jI b), some (jI (k : Int)), some (jI s9), some (jI (i : Int))] [jO s, jI (i : Int)] 0 0 w _
            refine ⟨rfl, ?_⟩
            refine jWp.getI (pc' := 24) mt rfl rfl (jtg hks) ?_
            rw [show (w.1 s 0) = (n : Int) from hn0]
            show jWp 63 24 [some (jO s), some (jI sg), some (jI b), some (jI (k : Int)), some (jI s9), some (jI (i : Int))] [jI (n : Int), jI (i : Int)] 0 0 w _
            refine jWp.icmp (pc' := 27) mt rfl rfl (b32_id (by omega) (by omega)) (b32_id (by omega) (by omega)) (fun h6 => ?_) (fun h6 => ?_)
            · have h6 : (n : Int) ≤ (i : Int) := h6
              refine jWp.blk mt 1 ?_
              show jWp 63 59 [some (jO s), some (jI sg), some (jI b), some (jI (k : Int)), some (jI s9), some (jI (i : Int))] [jI s9] 0 0 w _
              refine jWp.ifz (pc' := 62) mt rfl rfl (b32_id (by rcases hs with ⟨e, _⟩ | ⟨e, _⟩ <;> omega) (by rcases hs with ⟨e, _⟩ | ⟨e, _⟩ <;> omega)) (fun h7 => ?_) (fun h7 => ?_)
              · have h7 : s9 = 0 := h7
                refine jWp.blk mt 2 ?_
                show jWp 63 4 [some (jO s), some (jI sg), some (jI b), some (jI ((k : Int) + 1)), some (jI s9), some (jI (i : Int))] [] 0 0 w _
                refine jWp.le (l := [some (jO s), some (jI sg), some (jI b), some (jI ((k : Int) + 1)), none, none]) (by exact ⟨rfl, rfl, rfl, rfl, trivial⟩) ?_
                exact ih2 (k + 1) _ (by omega) (by rw [hb, zbt_f (fun g => by rcases hs with ⟨e1, h⟩ | ⟨e1, h⟩; omega; exact h (fun y hy => g y (by omega)))]) (by omega)
              · have h7 : s9 ≠ 0 := h7
                refine jWp.blk mt 8 ?_
                show jWp 63 4 [some (jO s), some (jI sg), some (jI (jor b (jshl 1 (k : Int)))), some (jI ((k : Int) + 1)), some (jI s9), some (jI (i : Int))] [] 0 0 w _
                refine jWp.le (l := [some (jO s), some (jI sg), some (jI (jor b (jshl 1 (k : Int)))), some (jI ((k : Int) + 1)), none, none]) (by exact ⟨rfl, rfl, rfl, rfl, trivial⟩) ?_
                exact ih2 (k + 1) _ (by omega) (by rw [hb, zbt_t (by rcases hs with ⟨e1, h⟩ | ⟨e1, h⟩; exact fun y hy => h y (by omega); omega)]) (by omega)
            · have h6 : (i : Int) < (n : Int) := h6
              refine jWp.blk mt 1 ?_
              show jWp 63 29 [some (jO s), some (jI sg), some (jI b), some (jI (k : Int)), some (jI s9), some (jI (i : Int))] [jI s9] 0 0 w _
              refine jWp.ifz (pc' := 32) mt rfl rfl (b32_id (by rcases hs with ⟨e, _⟩ | ⟨e, _⟩ <;> omega) (by rcases hs with ⟨e, _⟩ | ⟨e, _⟩ <;> omega)) (fun h8 => ?_) (fun h8 => ?_)
              · have h8 : s9 = 0 := h8
                refine jWp.blk mt 4 ?_
                show jWp 63 18 [some (jO s), some (jI sg), some (jI b), some (jI (k : Int)), some (jI 0), some (jI ((i : Int) + 1))] [] 0 0 w _
                refine jWp.le (l := [some (jO s), some (jI sg), some (jI b), some (jI (k : Int)), some (jI 0), some (jI ((i : Int) + 1))]) (by exact ⟨rfl, rfl, rfl, rfl, rfl, rfl, trivial⟩) ?_
                exact ih5 (i + 1) 0 (by omega) (Or.inr ⟨rfl, fun g => by first | (rcases hs with ⟨e, h⟩ | ⟨e, h⟩; omega; exact h (fun y hy => g y (by omega))) | (have g := g i (by omega); rcases hsg with ⟨ea, es⟩ | ⟨ea, es⟩; rw [if_pos ea] at g; subst es; omega; rw [if_neg (by omega)] at g; subst es; omega)⟩) (by omega)
              · have h8 : s9 ≠ 0 := h8
                refine jWp.blk mt 3 ?_
                show _ ∧ jWp 63 36 [some (jO s), some (jI sg), some (jI b), some (jI (k : Int)), some (jI s9), some (jI (i : Int))] [jI (k : Int), jI (i : Int), jO s] 0 0 w _
                refine ⟨rfl, ?_⟩
                refine jWp.callv (as := [jO s, jI (i : Int), jI (k : Int)]) (rest := []) mt rfl rfl rfl ⟨rfl, jtg hks⟩ ?_
                refine jCall.mono ((by have h := E_sb (w := w) (sc := sc) (i := i) (j := k) hks hkc hrc (by omega) (by omega); rw [show w.1 sc (8 + (4 * i + k)) = q (1 + (4 * i + k)) from (hRR _ (by omega)).trans (cz_b (by omega))] at h; exact h)) (fun v9 w9 h9 => ?_)
                obtain ⟨rfl, h9⟩ := h9
                subst w9
                show jWp 63 39 [some (jO s), some (jI sg), some (jI b), some (jI (k : Int)), some (jI s9), some (jI (i : Int))] [jI (q (1 + (4 * i + k)))] 0 0 w _
                refine jWp.blk mt 2 ?_
                show jWp 63 41 [some (jO s), some (jI sg), some (jI b), some (jI (k : Int)), some (jI s9), some (jI (i : Int))] [jI ((q (1 + (4 * i + k))) * sg)] 0 0 w _
                refine jWp.ifz (pc' := 44) mt rfl rfl (b32_id (by omega) (by omega)) (fun h9 => ?_) (fun h9 => ?_)
                · have h9 : 0 < ((q (1 + (4 * i + k))) * sg) := h9
                  refine jWp.blk mt 4 ?_
                  show jWp 63 18 [some (jO s), some (jI sg), some (jI b), some (jI (k : Int)), some (jI 0), some (jI ((i : Int) + 1))] [] 0 0 w _
                  refine jWp.le (l := [some (jO s), some (jI sg), some (jI b), some (jI (k : Int)), some (jI 0), some (jI ((i : Int) + 1))]) (by exact ⟨rfl, rfl, rfl, rfl, rfl, rfl, trivial⟩) ?_
                  exact ih5 (i + 1) 0 (by omega) (Or.inr ⟨rfl, fun g => by first | (rcases hs with ⟨e, h⟩ | ⟨e, h⟩; omega; exact h (fun y hy => g y (by omega))) | (have g := g i (by omega); rcases hsg with ⟨ea, es⟩ | ⟨ea, es⟩; rw [if_pos ea] at g; subst es; omega; rw [if_neg (by omega)] at g; subst es; omega)⟩) (by omega)
                · have h9 : ((q (1 + (4 * i + k))) * sg) ≤ 0 := h9
                  refine jWp.blk mt 5 ?_
                  show jWp 63 18 [some (jO s), some (jI sg), some (jI b), some (jI (k : Int)), some (jI 1), some (jI ((i : Int) + 1))] [] 0 0 w _
                  refine jWp.le (l := [some (jO s), some (jI sg), some (jI b), some (jI (k : Int)), some (jI 1), some (jI ((i : Int) + 1))]) (by exact ⟨rfl, rfl, rfl, rfl, rfl, rfl, trivial⟩) ?_
                  exact ih5 (i + 1) 1 (by omega) (by rcases hs with ⟨e, h⟩ | ⟨e, h⟩; exact Or.inl ⟨rfl, fun y hy => by rcases Nat.lt_or_ge y i with e | e; exact h y e; rw [show y = i by omega]; rcases hsg with ⟨ea, es⟩ | ⟨ea, es⟩; rw [if_pos ea]; subst es; omega; rw [if_neg (by omega)]; subst es; omega⟩; exfalso; omega) (by omega)
        refine jWp.le (l := [some (jO s), some (jI sg), some (jI b), some (jI (k : Int)), some (jI 1), some (jI 0)]) (by exact ⟨rfl, rfl, rfl, rfl, rfl, rfl, trivial⟩) ?_
        exact lp4 _ 0 1 (by omega) (Or.inl ⟨rfl, fun y hy => absurd hy (by omega)⟩) (Nat.lt_succ_self _)
  refine jWp.le (l := [some (jO s), some (jI sg), some (jI 0), some (jI 0), none, none]) (by exact ⟨rfl, rfl, rfl, rfl, trivial⟩) ?_
  exact lp1 _ 0 0 (by omega) rfl (Nat.lt_succ_self _)
set_option maxHeartbeats 4000000 in
set_option maxRecDepth 20000 in
theorem C_often {w : jS} {s sc n : Nat} (hks : w.2.1 s = (6, 0)) (hkc : w.2.1 sc = (100, 44)) (hrc : w.2.2.1 s 1 = some sc) (hn0 : w.1 s 0 = (n : Int)) (hn4 : n ≤ 4) {q : Nat → Int} (hQ : zQ q n) (hRR : ∀ j, j < 28 → w.1 sc j = cz q n j) {x y : Int} (hrx : r32 x) (hry : r32 y) : jCall 65 [jO s, jI x, jI y] w (jvi (zcnt (fun j => q (21 + j)) (fun j => q (25 + j)) n x y) w) := by
  have mt : jtb 65 = jT65 := rfl
  have hrx1 : -2147483648 ≤ x ∧ x < 2147483648 := hrx
  have hry1 : -2147483648 ≤ y ∧ y < 2147483648 := hry
  show jWp 65 0 [some (jO s), some (jI x), some (jI y), none, none] [] 0 0 w _
  refine jWp.blk mt 4 ?_
  show jWp 65 5 [some (jO s), some (jI x), some (jI y), some (jI 0), some (jI 0)] [] 0 0 w _
  have lp1 : ∀ (N : Nat) (j : Nat) (o : Int) (hj : j ≤ n) (ho : o = zcnt (fun j => q (21 + j)) (fun j => q (25 + j)) j x y), n - j < N → jWp 65 5 [some (jO s), some (jI x), some (jI y), some (jI o), some (jI (j : Int))] [] 0 0 w (jvi (zcnt (fun j => q (21 + j)) (fun j => q (25 + j)) n x y) w) := by
    intro N
    induction N with
    | zero => intro j o hj ho hm; omega
    | succ N ih2 =>
      intro j o hj ho hm
      have hv : j < n → (1 ≤ q (21 + j) ∧ q (21 + j) ≤ 1000000000 ∧ 1 ≤ q (25 + j) ∧ q (25 + j) ≤ 1000000000) := fun h => hQ.S.v j (by omega)
      refine jWp.blk mt 2 ?_
      show _ ∧ jWp 65 8 [some (jO s), some (jI x), some (jI y), some (jI o), some (jI (j : Int))] [jO s, jI (j : Int)] 0 0 w _
      refine ⟨rfl, ?_⟩
      refine jWp.getI (pc' := 11) mt rfl rfl (jtg hks) ?_
      rw [show (w.1 s 0) = (n : Int) from hn0]
      show jWp 65 11 [some (jO s), some (jI x), some (jI y), some (jI o), some (jI (j : Int))] [jI (n : Int), jI (j : Int)] 0 0 w _
      refine jWp.icmp (pc' := 14) mt rfl rfl (b32_id (by omega) (by omega)) (b32_id (by omega) (by omega)) (fun h3 => ?_) (fun h3 => ?_)
      · have h3 : (n : Int) ≤ (j : Int) := h3
        refine jWp.blk mt 1 ?_
        show jWp 65 44 [some (jO s), some (jI x), some (jI y), some (jI o), some (jI (j : Int))] [jI o] 0 0 w _
        refine jWp.ireti mt rfl ⟨rfl, rfl⟩ rfl ?_
        exact ⟨by rw [ho, show j = n by omega], rfl⟩
      · have h3 : (j : Int) < (n : Int) := h3
        refine jWp.blk mt 2 ?_
        show _ ∧ jWp 65 17 [some (jO s), some (jI x), some (jI y), some (jI o), some (jI (j : Int))] [jI (j : Int), jO s] 0 0 w _
        refine ⟨rfl, ?_⟩
        refine jWp.callv (as := [jO s, jI (j : Int)]) (rest := []) mt rfl rfl rfl ⟨rfl, jtg hks⟩ ?_
        refine jCall.mono ((by have h := E_sa (w := w) (sc := sc) (n := n) (i := j) hks hkc hrc hn0 hn4 (by omega); rw [show w.1 sc j = q (21 + j) from (hRR _ (by omega)).trans (cz_u hn4 (by omega))] at h; exact h)) (fun v9 w9 h9 => ?_)
        obtain ⟨rfl, h9⟩ := h9
        subst w9
        show jWp 65 20 [some (jO s), some (jI x), some (jI y), some (jI o), some (jI (j : Int))] [jI (q (21 + j))] 0 0 w _
        refine jWp.blk mt 1 ?_
        show jWp 65 21 [some (jO s), some (jI x), some (jI y), some (jI o), some (jI (j : Int))] [jI x, jI (q (21 + j))] 0 0 w _
        refine jWp.icmp (pc' := 24) mt rfl rfl (b32_id (by omega) (by omega)) (b32_id (by omega) (by omega)) (fun h4 => ?_) (fun h4 => ?_)
        · have h4 : (q (21 + j)) ≠ x := h4
          refine jWp.blk mt 2 ?_
          show jWp 65 5 [some (jO s), some (jI x), some (jI y), some (jI o), some (jI ((j : Int) + 1))] [] 0 0 w _
          refine jWp.le (l := [some (jO s), some (jI x), some (jI y), some (jI o), some (jI ((j : Int) + 1))]) (by exact ⟨rfl, rfl, rfl, rfl, rfl, trivial⟩) ?_
          exact ih2 (j + 1) _ (by omega) (by rw [zcnt_f _ _ (fun g => by first | exact absurd g.1 (by omega) | exact absurd g.2 (by omega)), ho, Int.add_zero]) (by omega)
        · have h4 : (q (21 + j)) = x := h4
          refine jWp.blk mt 2 ?_
          show _ ∧ jWp 65 27 [some (jO s), some (jI x), some (jI y), some (jI o), some (jI (j : Int))] [jI (j : Int), jO s] 0 0 w _
          refine ⟨rfl, ?_⟩
          refine jWp.callv (as := [jO s, jI (j : Int)]) (rest := []) mt rfl rfl rfl ⟨rfl, jtg hks⟩ ?_
          refine jCall.mono ((by have h := E_su (w := w) (sc := sc) (n := n) (i := j) hks hkc hrc hn0 hn4 (by omega); rw [show w.1 sc (4 + j) = q (25 + j) from (hRR _ (by omega)).trans (cz_d hn4 (by omega))] at h; exact h)) (fun v9 w9 h9 => ?_)
          obtain ⟨rfl, h9⟩ := h9
          subst w9
          show jWp 65 30 [some (jO s), some (jI x), some (jI y), some (jI o), some (jI (j : Int))] [jI (q (25 + j))] 0 0 w _
          refine jWp.blk mt 1 ?_
          show jWp 65 31 [some (jO s), some (jI x), some (jI y), some (jI o), some (jI (j : Int))] [jI y, jI (q (25 + j))] 0 0 w _
          refine jWp.icmp (pc' := 34) mt rfl rfl (b32_id (by omega) (by omega)) (b32_id (by omega) (by omega)) (fun h5 => ?_) (fun h5 => ?_)
          · have h5 : (q (25 + j)) ≠ y := h5
            refine jWp.blk mt 2 ?_
            show jWp 65 5 [some (jO s), some (jI x), some (jI y), some (jI o), some (jI ((j : Int) + 1))] [] 0 0 w _
            refine jWp.le (l := [some (jO s), some (jI x), some (jI y), some (jI o), some (jI ((j : Int) + 1))]) (by exact ⟨rfl, rfl, rfl, rfl, rfl, trivial⟩) ?_
            exact ih2 (j + 1) _ (by omega) (by rw [zcnt_f _ _ (fun g => by first | exact absurd g.1 (by omega) | exact absurd g.2 (by omega)), ho, Int.add_zero]) (by omega)
          · have h5 : (q (25 + j)) = y := h5
            refine jWp.blk mt 3 ?_
            show jWp 65 5 [some (jO s), some (jI x), some (jI y), some (jI (o + 1)), some (jI ((j : Int) + 1))] [] 0 0 w _
            refine jWp.le (l := [some (jO s), some (jI x), some (jI y), some (jI (o + 1)), some (jI ((j : Int) + 1))]) (by exact ⟨rfl, rfl, rfl, rfl, rfl, trivial⟩) ?_
            exact ih2 (j + 1) _ (by omega) (by rw [zcnt_t _ _ ⟨by omega, by omega⟩, ho]) (by omega)
  refine jWp.le (l := [some (jO s), some (jI x), some (jI y), some (jI 0), some (jI 0)]) (by exact ⟨rfl, rfl, rfl, rfl, rfl, trivial⟩) ?_
  exact lp1 _ 0 0 (by omega) rfl (Nat.lt_succ_self _)
set_option maxHeartbeats 4000000 in
set_option maxRecDepth 20000 in
theorem C_same {w : jS} {s sc n : Nat} (hks : w.2.1 s = (6, 0)) (hkc : w.2.1 sc = (100, 44)) (hrc : w.2.2.1 s 1 = some sc) (hn0 : w.1 s 0 = (n : Int)) (hn4 : n ≤ 4) {q : Nat → Int} (hQ : zQ q n) (hRR : ∀ j, j < 28 → w.1 sc j = cz q n j) {s2 sc2 : Nat} {p : Nat → Int} (hks2 : w.2.1 s2 = (6, 0)) (hkc2 : w.2.1 sc2 = (100, 44)) (hrc2 : w.2.2.1 s2 1 = some sc2) (hn02 : w.1 s2 0 = (n : Int)) (hQ2 : zQ p n) (hRR2 : ∀ j, j < 28 → w.1 sc2 j = cz p n j) : jCall 64 [jO s, jO s2] w (jvb (zsame q p n) w) := by
  have mt : jtb 64 = jT64 := rfl
  show jWp 64 0 [some (jO s), some (jO s2), none] [] 0 0 w _
  refine jWp.blk mt 2 ?_
  show jWp 64 2 [some (jO s), some (jO s2), some (jI 0)] [] 0 0 w _
  have lp1 : ∀ (N : Nat) (i : Nat) (hi : i ≤ n) (hA : ∀ x, x < i → (zcnt (fun j => q (21 + j)) (fun j => q (25 + j)) n (q (21 + x)) (q (25 + x))) = (zcnt (fun j => p (21 + j)) (fun j => p (25 + j)) n (q (21 + x)) (q (25 + x)))), n - i < N → jWp 64 2 [some (jO s), some (jO s2), some (jI (i : Int))] [] 0 0 w (jvb (zsame q p n) w) := by
    intro N
    induction N with
    | zero => intro i hi hA hm; omega
    | succ N ih2 =>
      intro i hi hA hm
      have hv : i < n → (1 ≤ q (21 + i) ∧ q (21 + i) ≤ 1000000000 ∧ 1 ≤ q (25 + i) ∧ q (25 + i) ≤ 1000000000) := fun h => hQ.S.v i (by omega)
      refine jWp.blk mt 2 ?_
      show _ ∧ jWp 64 4 [some (jO s), some (jO s2), some (jI (i : Int))] [jO s, jI (i : Int)] 0 0 w _
      refine ⟨rfl, ?_⟩
      refine jWp.getI (pc' := 7) mt rfl rfl (jtg hks) ?_
      rw [show (w.1 s 0) = (n : Int) from hn0]
      show jWp 64 7 [some (jO s), some (jO s2), some (jI (i : Int))] [jI (n : Int), jI (i : Int)] 0 0 w _
      refine jWp.icmp (pc' := 10) mt rfl rfl (b32_id (by omega) (by omega)) (b32_id (by omega) (by omega)) (fun h3 => ?_) (fun h3 => ?_)
      · have h3 : (n : Int) ≤ (i : Int) := h3
        refine jWp.blk mt 1 ?_
        show jWp 64 50 [some (jO s), some (jO s2), some (jI (i : Int))] [jI 1] 0 0 w _
        refine jWp.iretz mt rfl ⟨rfl, rfl⟩ rfl (Or.inr rfl) ?_
        exact Or.inl ⟨rfl, rfl, fun x hx => hA x (by omega)⟩
      · have h3 : (i : Int) < (n : Int) := h3
        refine jWp.blk mt 3 ?_
        show _ ∧ _ ∧ jWp 64 13 [some (jO s), some (jO s2), some (jI (i : Int))] [jI (i : Int), jO s, jO s] 0 0 w _
        refine ⟨rfl, rfl, ?_⟩
        refine jWp.callv (as := [jO s, jI (i : Int)]) (rest := [jO s]) mt rfl rfl rfl ⟨rfl, jtg hks⟩ ?_
        refine jCall.mono ((by have h := E_sa (w := w) (sc := sc) (n := n) (i := i) hks hkc hrc hn0 hn4 (by omega); rw [show w.1 sc i = q (21 + i) from (hRR _ (by omega)).trans (cz_u hn4 (by omega))] at h; exact h)) (fun v9 w9 h9 => ?_)
        obtain ⟨rfl, h9⟩ := h9
        subst w9
        show jWp 64 16 [some (jO s), some (jO s2), some (jI (i : Int))] [jI (q (21 + i)), jO s] 0 0 w _
        refine jWp.blk mt 2 ?_
        show _ ∧ jWp 64 18 [some (jO s), some (jO s2), some (jI (i : Int))] [jI (i : Int), jO s, jI (q (21 + i)), jO s] 0 0 w _
        refine ⟨rfl, ?_⟩
        refine jWp.callv (as := [jO s, jI (i : Int)]) (rest := [jI (q (21 + i)), jO s]) mt rfl rfl rfl ⟨rfl, jtg hks⟩ ?_
        refine jCall.mono ((by have h := E_su (w := w) (sc := sc) (n := n) (i := i) hks hkc hrc hn0 hn4 (by omega); rw [show w.1 sc (4 + i) = q (25 + i) from (hRR _ (by omega)).trans (cz_d hn4 (by omega))] at h; exact h)) (fun v9 w9 h9 => ?_)
        obtain ⟨rfl, h9⟩ := h9
        subst w9
        show jWp 64 21 [some (jO s), some (jO s2), some (jI (i : Int))] [jI (q (25 + i)), jI (q (21 + i)), jO s] 0 0 w _
        refine jWp.callv (as := [jO s, jI (q (21 + i)), jI (q (25 + i))]) (rest := []) mt rfl rfl rfl ⟨rfl, jtg hks⟩ ?_
        refine jCall.mono (C_often (w := w) (n := n) (q := q) hks hkc hrc hn0 hn4 hQ hRR (by constructor <;> omega) (by constructor <;> omega)) (fun v9 w9 h9 => ?_)
        obtain ⟨rfl, h9⟩ := h9
        subst w9
        show jWp 64 24 [some (jO s), some (jO s2), some (jI (i : Int))] [jI (zcnt (fun j => q (21 + j)) (fun j => q (25 + j)) n (q (21 + i)) (q (25 + i)))] 0 0 w _
        have := zcnt_b (fun j => q (21 + j)) (fun j => q (25 + j)) (q (21 + i)) (q (25 + i)) n
        refine jWp.blk mt 3 ?_
        show _ ∧ _ ∧ jWp 64 27 [some (jO s), some (jO s2), some (jI (i : Int))] [jI (i : Int), jO s, jO s2, jI (zcnt (fun j => q (21 + j)) (fun j => q (25 + j)) n (q (21 + i)) (q (25 + i)))] 0 0 w _
        refine ⟨rfl, rfl, ?_⟩
        refine jWp.callv (as := [jO s, jI (i : Int)]) (rest := [jO s2, jI (zcnt (fun j => q (21 + j)) (fun j => q (25 + j)) n (q (21 + i)) (q (25 + i)))]) mt rfl rfl rfl ⟨rfl, jtg hks⟩ ?_
        refine jCall.mono ((by have h := E_sa (w := w) (sc := sc) (n := n) (i := i) hks hkc hrc hn0 hn4 (by omega); rw [show w.1 sc i = q (21 + i) from (hRR _ (by omega)).trans (cz_u hn4 (by omega))] at h; exact h)) (fun v9 w9 h9 => ?_)
        obtain ⟨rfl, h9⟩ := h9
        subst w9
        show jWp 64 30 [some (jO s), some (jO s2), some (jI (i : Int))] [jI (q (21 + i)), jO s2, jI (zcnt (fun j => q (21 + j)) (fun j => q (25 + j)) n (q (21 + i)) (q (25 + i)))] 0 0 w _
        refine jWp.blk mt 2 ?_
        show _ ∧ jWp 64 32 [some (jO s), some (jO s2), some (jI (i : Int))] [jI (i : Int), jO s, jI (q (21 + i)), jO s2, jI (zcnt (fun j => q (21 + j)) (fun j => q (25 + j)) n (q (21 + i)) (q (25 + i)))] 0 0 w _
        refine ⟨rfl, ?_⟩
        refine jWp.callv (as := [jO s, jI (i : Int)]) (rest := [jI (q (21 + i)), jO s2, jI (zcnt (fun j => q (21 + j)) (fun j => q (25 + j)) n (q (21 + i)) (q (25 + i)))]) mt rfl rfl rfl ⟨rfl, jtg hks⟩ ?_
        refine jCall.mono ((by have h := E_su (w := w) (sc := sc) (n := n) (i := i) hks hkc hrc hn0 hn4 (by omega); rw [show w.1 sc (4 + i) = q (25 + i) from (hRR _ (by omega)).trans (cz_d hn4 (by omega))] at h; exact h)) (fun v9 w9 h9 => ?_)
        obtain ⟨rfl, h9⟩ := h9
        subst w9
        show jWp 64 35 [some (jO s), some (jO s2), some (jI (i : Int))] [jI (q (25 + i)), jI (q (21 + i)), jO s2, jI (zcnt (fun j => q (21 + j)) (fun j => q (25 + j)) n (q (21 + i)) (q (25 + i)))] 0 0 w _
        refine jWp.callv (as := [jO s2, jI (q (21 + i)), jI (q (25 + i))]) (rest := [jI (zcnt (fun j => q (21 + j)) (fun j => q (25 + j)) n (q (21 + i)) (q (25 + i)))]) mt rfl rfl rfl ⟨rfl, jtg hks2⟩ ?_
        refine jCall.mono (C_often (w := w) (n := n) (q := p) hks2 hkc2 hrc2 hn02 hn4 hQ2 hRR2 (by constructor <;> omega) (by constructor <;> omega)) (fun v9 w9 h9 => ?_)
        obtain ⟨rfl, h9⟩ := h9
        subst w9
        show jWp 64 38 [some (jO s), some (jO s2), some (jI (i : Int))] [jI (zcnt (fun j => p (21 + j)) (fun j => p (25 + j)) n (q (21 + i)) (q (25 + i))), jI (zcnt (fun j => q (21 + j)) (fun j => q (25 + j)) n (q (21 + i)) (q (25 + i)))] 0 0 w _
        have := zcnt_b (fun j => p (21 + j)) (fun j => p (25 + j)) (q (21 + i)) (q (25 + i)) n
        refine jWp.icmp (pc' := 41) mt rfl rfl (b32_id (by omega) (by omega)) (b32_id (by omega) (by omega)) (fun h4 => ?_) (fun h4 => ?_)
        · have h4 : (zcnt (fun j => q (21 + j)) (fun j => q (25 + j)) n (q (21 + i)) (q (25 + i))) = (zcnt (fun j => p (21 + j)) (fun j => p (25 + j)) n (q (21 + i)) (q (25 + i))) := h4
          refine jWp.blk mt 2 ?_
          show jWp 64 2 [some (jO s), some (jO s2), some (jI ((i : Int) + 1))] [] 0 0 w _
          refine jWp.le (l := [some (jO s), some (jO s2), some (jI ((i : Int) + 1))]) (by exact ⟨rfl, rfl, rfl, trivial⟩) ?_
          exact ih2 (i + 1) (by omega) (fun x hx => by rcases Nat.lt_or_ge x i with e | e; exact hA x e; rw [show x = i by omega]; omega) (by omega)
        · have h4 : (zcnt (fun j => q (21 + j)) (fun j => q (25 + j)) n (q (21 + i)) (q (25 + i))) ≠ (zcnt (fun j => p (21 + j)) (fun j => p (25 + j)) n (q (21 + i)) (q (25 + i))) := h4
          refine jWp.blk mt 1 ?_
          show jWp 64 42 [some (jO s), some (jO s2), some (jI (i : Int))] [jI 0] 0 0 w _
          refine jWp.iretz mt rfl ⟨rfl, rfl⟩ rfl (Or.inl rfl) ?_
          exact Or.inr ⟨rfl, rfl, fun g => by have g := g i (by omega); omega⟩
  refine jWp.le (l := [some (jO s), some (jO s2), some (jI 0)]) (by exact ⟨rfl, rfl, rfl, trivial⟩) ?_
  exact lp1 _ 0 (by omega) (fun x hx => absurd hx (by omega)) (Nat.lt_succ_self _)
theorem zal_cz {q p : Nat → Int} {n : Nat} (h4 : n ≤ 4) : (∀ j, j < 24 → cz q n j = cz p n j) ↔ zal q p n := by
  constructor
  · intro h
    refine ⟨fun e he => ?_, fun i hi => ⟨?_, ?_⟩⟩
    · have := h (8 + e) (by omega)
      rw [cz_b he, cz_b he] at this
      exact this
    · have := h i (by omega)
      rw [cz_u h4 hi, cz_u h4 hi] at this
      exact this
    · have := h (4 + i) (by omega)
      rw [cz_d h4 hi, cz_d h4 hi] at this
      exact this
  · intro h j hj
    unfold cz
    by_cases a : j < 4
    · rw [if_pos a, if_pos a]
      by_cases b : j < n
      · rw [if_pos b, if_pos b, (h.2 j b).1]
      · rw [if_neg b, if_neg b]
    · rw [if_neg a, if_neg a]
      by_cases c : j < 8
      · rw [if_pos c, if_pos c]
        by_cases b : j - 4 < n
        · rw [if_pos b, if_pos b, (h.2 (j - 4) b).2]
        · rw [if_neg b, if_neg b]
      · rw [if_neg c, if_neg c, if_pos hj, if_pos hj, h.1 (j - 8) (by omega)]
theorem cz_32 {q : Nat → Int} {n j : Nat} (hQ : zQ q n) (hj : j < 24) : -2147483648 ≤ cz q n j ∧ cz q n j < 2147483648 := by
  unfold cz
  by_cases a : j < 4
  · rw [if_pos a]
    have := hQ.S.v j a
    split
    · have h1 := this.1
      have h2 : q (21 + j) ≤ 1000000000 := this.2.1
      constructor <;> omega
    · omega
  · rw [if_neg a]
    by_cases c : j < 8
    · rw [if_pos c]
      have := hQ.S.v (j - 4) (by omega)
      split
      · have h1 : 1 ≤ q (25 + (j - 4)) := this.2.2.1
        have h2 : q (25 + (j - 4)) ≤ 1000000000 := this.2.2.2
        constructor <;> omega
      · omega
    · rw [if_neg c, if_pos hj]
      have := hQ.S.b (j - 8) (by omega)
      constructor <;> omega
set_option maxHeartbeats 4000000 in
set_option maxRecDepth 20000 in
theorem C_alike {w : jS} {s sc n : Nat} (hks : w.2.1 s = (6, 0)) (hkc : w.2.1 sc = (100, 44)) (hrc : w.2.2.1 s 1 = some sc) (hn0 : w.1 s 0 = (n : Int)) (hn4 : n ≤ 4) {q : Nat → Int} (hQ : zQ q n) (hRR : ∀ j, j < 28 → w.1 sc j = cz q n j) {s2 sc2 : Nat} {p : Nat → Int} (hks2 : w.2.1 s2 = (6, 0)) (hkc2 : w.2.1 sc2 = (100, 44)) (hrc2 : w.2.2.1 s2 1 = some sc2) (hn02 : w.1 s2 0 = (n : Int)) (hQ2 : zQ p n) (hRR2 : ∀ j, j < 28 → w.1 sc2 j = cz p n j) : jCall 66 [jO s, jO s2] w (jvb (zal q p n) w) := by
  have mt : jtb 66 = jT66 := rfl
  show jWp 66 0 [some (jO s), some (jO s2), none] [] 0 0 w _
  refine jWp.blk mt 2 ?_
  show jWp 66 2 [some (jO s), some (jO s2), some (jI 0)] [] 0 0 w _
  have lp1 : ∀ (N : Nat) (j : Nat) (hj : j ≤ 24) (hA : ∀ x, x < j → cz q n x = cz p n x), 24 - j < N → jWp 66 2 [some (jO s), some (jO s2), some (jI (j : Int))] [] 0 0 w (jvb (zal q p n) w) := by
    intro N
    induction N with
    | zero => intro j hj hA hm; omega
    | succ N ih2 =>
      intro j hj hA hm
      have hb1 := fun h : j < 24 => cz_32 (n := n) hQ h
      have hb2 := fun h : j < 24 => cz_32 (n := n) hQ2 h
      refine jWp.blk mt 2 ?_
      show jWp 66 5 [some (jO s), some (jO s2), some (jI (j : Int))] [jI 24, jI (j : Int)] 0 0 w _
      refine jWp.icmp (pc' := 8) mt rfl rfl (b32_id (by omega) (by omega)) (show b32 24 = 24 by decide) (fun h3 => ?_) (fun h3 => ?_)
      · have h3 : 24 ≤ (j : Int) := h3
        refine jWp.blk mt 1 ?_
        show _ ∧ jWp 66 32 [some (jO s), some (jO s2), some (jI (j : Int))] [jO s] 0 0 w _
        refine ⟨rfl, ?_⟩
        refine jWp.getI (pc' := 35) mt rfl rfl (jtg hks) ?_
        rw [show (w.1 s 0) = (n : Int) from hn0]
        show jWp 66 35 [some (jO s), some (jO s2), some (jI (j : Int))] [jI (n : Int)] 0 0 w _
        refine jWp.blk mt 1 ?_
        show _ ∧ jWp 66 36 [some (jO s), some (jO s2), some (jI (j : Int))] [jO s2, jI (n : Int)] 0 0 w _
        refine ⟨rfl, ?_⟩
        refine jWp.getI (pc' := 39) mt rfl rfl (jtg hks2) ?_
        rw [show (w.1 s2 0) = (n : Int) from hn02]
        show jWp 66 39 [some (jO s), some (jO s2), some (jI (j : Int))] [jI (n : Int), jI (n : Int)] 0 0 w _
        refine jWp.icmp (pc' := 42) mt rfl rfl (b32_id (by omega) (by omega)) (b32_id (by omega) (by omega)) (fun h4 => ?_) (fun h4 => ?_)
        · have h4 : (n : Int) ≠ (n : Int) := h4
          refine jWp.blk mt 1 ?_
          show jWp 66 47 [some (jO s), some (jO s2), some (jI (j : Int))] [jI 0] 0 0 w _
          refine jWp.iretz mt rfl ⟨rfl, rfl⟩ rfl (Or.inl rfl) ?_
          first
          | exact Or.inr ⟨rfl, rfl, fun g => absurd ((zal_cz hn4).mpr g j (by omega)) (by assumption)⟩
          | (exfalso; omega)
        · have h4 : (n : Int) = (n : Int) := h4
          refine jWp.blk mt 2 ?_
          show jWp 66 47 [some (jO s), some (jO s2), some (jI (j : Int))] [jI 1] 0 0 w _
          refine jWp.iretz mt rfl ⟨rfl, rfl⟩ rfl (Or.inr rfl) ?_
          first
          | exact Or.inl ⟨rfl, rfl, (zal_cz hn4).mp (fun x hx => hA x (by omega))⟩
          | (exfalso; omega)
      · have h3 : (j : Int) < 24 := h3
        refine jWp.blk mt 1 ?_
        show _ ∧ jWp 66 9 [some (jO s), some (jO s2), some (jI (j : Int))] [jO s] 0 0 w _
        refine ⟨rfl, ?_⟩
        refine jWp.getR (pc' := 12) (o := sc) mt rfl rfl (jtg hks) hrc ?_
        show jWp 66 12 [some (jO s), some (jO s2), some (jI (j : Int))] [jO sc] 0 0 w _
        refine jWp.blk mt 1 ?_
        show jWp 66 13 [some (jO s), some (jO s2), some (jI (j : Int))] [jI (j : Int), jO sc] 0 0 w _
        refine jWp.iald (pc' := 14) (j := j) mt rfl rfl (jird_of hkc) (b32_id (by omega) (by omega)) (jlt hkc (by omega)) ?_
        rw [show (w.1 sc j) = (cz q n j) from (hRR j (by omega))]
        show jWp 66 14 [some (jO s), some (jO s2), some (jI (j : Int))] [jI (cz q n j)] 0 0 w _
        refine jWp.blk mt 1 ?_
        show _ ∧ jWp 66 15 [some (jO s), some (jO s2), some (jI (j : Int))] [jO s2, jI (cz q n j)] 0 0 w _
        refine ⟨rfl, ?_⟩
        refine jWp.getR (pc' := 18) (o := sc2) mt rfl rfl (jtg hks2) hrc2 ?_
        show jWp 66 18 [some (jO s), some (jO s2), some (jI (j : Int))] [jO sc2, jI (cz q n j)] 0 0 w _
        refine jWp.blk mt 1 ?_
        show jWp 66 19 [some (jO s), some (jO s2), some (jI (j : Int))] [jI (j : Int), jO sc2, jI (cz q n j)] 0 0 w _
        refine jWp.iald (pc' := 20) (j := j) mt rfl rfl (jird_of hkc2) (b32_id (by omega) (by omega)) (jlt hkc2 (by omega)) ?_
        rw [show (w.1 sc2 j) = (cz p n j) from (hRR2 j (by omega))]
        show jWp 66 20 [some (jO s), some (jO s2), some (jI (j : Int))] [jI (cz p n j), jI (cz q n j)] 0 0 w _
        refine jWp.icmp (pc' := 23) mt rfl rfl (b32_id (by omega) (by omega)) (b32_id (by omega) (by omega)) (fun h5 => ?_) (fun h5 => ?_)
        · have h5 : (cz q n j) = (cz p n j) := h5
          refine jWp.blk mt 2 ?_
          show jWp 66 2 [some (jO s), some (jO s2), some (jI ((j : Int) + 1))] [] 0 0 w _
          refine jWp.le (l := [some (jO s), some (jO s2), some (jI ((j : Int) + 1))]) (by exact ⟨rfl, rfl, rfl, trivial⟩) ?_
          exact ih2 (j + 1) (by omega) (fun x hx => by rcases Nat.lt_or_ge x j with e | e; exact hA x e; rw [show x = j by omega]; assumption) (by omega)
        · have h5 : (cz q n j) ≠ (cz p n j) := h5
          refine jWp.blk mt 1 ?_
          show jWp 66 24 [some (jO s), some (jO s2), some (jI (j : Int))] [jI 0] 0 0 w _
          refine jWp.iretz mt rfl ⟨rfl, rfl⟩ rfl (Or.inl rfl) ?_
          first
          | exact Or.inr ⟨rfl, rfl, fun g => absurd ((zal_cz hn4).mpr g j (by omega)) (by assumption)⟩
          | (exfalso; omega)
  refine jWp.le (l := [some (jO s), some (jO s2), some (jI 0)]) (by exact ⟨rfl, rfl, rfl, trivial⟩) ?_
  exact lp1 _ 0 (by omega) (fun x hx => absurd hx (by omega)) (Nat.lt_succ_self _)
theorem zu_less {a b : Int} (ha : 0 < a) (hb : 0 < b) (h : 1 < zg a b) : (zu a b).toNat < a.toNat := by
  unfold zu
  rw [Int.tdiv_eq_ediv_of_nonneg (by omega)]
  have := Int.ediv_lt_self_of_pos_of_ne_one ha (show zg a b ≠ 1 by omega)
  omega
theorem zg_1l {s : Int} : zg 1 s = 1 := by
  unfold zg
  rw [Int.gcd_one_left]
  rfl
set_option maxHeartbeats 4000000 in
set_option maxRecDepth 20000 in
theorem C_isWhole {w : jS} {s sc n : Nat} (hks : w.2.1 s = (6, 0)) (hkc : w.2.1 sc = (100, 44)) (hrc : w.2.2.1 s 1 = some sc) (hn0 : w.1 s 0 = (n : Int)) (hn4 : n ≤ 4) {q : Nat → Int} (hQ : zQ q n) (hRR : ∀ j, j < 28 → w.1 sc j = cz q n j) {i : Nat} (hi : i < n) : jCall 62 [jO s, jI (i : Int)] w (fun v w1 => w1 = w ∧ ∃ y, v = some (jI y) ∧ (y = 0 ∨ y = 1) ∧ (q (25 + i) = 1 → y = 1)) := by
  have mt : jtb 62 = jT62 := rfl
  have hvi : 1 ≤ q (21 + i) ∧ q (21 + i) ≤ 1000000000 ∧ 1 ≤ q (25 + i) ∧ q (25 + i) ≤ 1000000000 := hQ.S.v i (by omega)
  show jWp 62 0 [some (jO s), some (jI (i : Int)), none, none, none, none, none, none] [] 0 0 w _
  refine jWp.blk mt 2 ?_
  show _ ∧ jWp 62 2 [some (jO s), some (jI (i : Int)), none, none, none, none, none, none] [jI (i : Int), jO s] 0 0 w _
  refine ⟨rfl, ?_⟩
  refine jWp.callv (as := [jO s, jI (i : Int)]) (rest := []) mt rfl rfl rfl ⟨rfl, jtg hks⟩ ?_
  refine jCall.mono ((by have h := E_su (w := w) (sc := sc) (n := n) (i := i) hks hkc hrc hn0 hn4 (by omega); rw [show w.1 sc (4 + i) = q (25 + i) from (hRR _ (by omega)).trans (cz_d hn4 (by omega))] at h; exact h)) (fun v9 w9 h9 => ?_)
  obtain ⟨rfl, h9⟩ := h9
  subst w9
  show jWp 62 5 [some (jO s), some (jI (i : Int)), none, none, none, none, none, none] [jI (q (25 + i))] 0 0 w _
  refine jWp.i2l (pc' := 6) mt rfl rfl (b32_id (by omega) (by omega)) ?_
  show jWp 62 6 [some (jO s), some (jI (i : Int)), none, none, none, none, none, none] [jJ (q (25 + i))] 0 0 w _
  refine jWp.blk mt 3 ?_
  show jWp 62 10 [some (jO s), some (jI (i : Int)), some (jJ (q (25 + i))), none, some (jI 0), none, none, none] [] 0 0 w _
  have lp1 : ∀ (N : Nat) (c : Nat) (r : Int) (hc : c ≤ n) (hr : 1 ≤ r ∧ r ≤ 1000000000) (hr1 : q (25 + i) = 1 → r = 1), n - c < N → jWp 62 10 [some (jO s), some (jI (i : Int)), some (jJ r), none, some (jI (c : Int)), none, none, none] [] 0 0 w (fun v w1 => w1 = w ∧ ∃ y, v = some (jI y) ∧ (y = 0 ∨ y = 1) ∧ (q (25 + i) = 1 → y = 1)) := by
    intro N
    induction N with
    | zero => intro c r hc hr hr1 hm; omega
    | succ N ih2 =>
      intro c r hc hr hr1 hm
      have hsc9 : c < n → _ := fun h => hQ.s c (by omega)
      have hgp := fun h : c < n => zg_pos (a := r) (b := q (17 + c)) (by have := hsc9 h; omega)
      have hgl := fun h : c < n => zg_le (a := r) (b := q (17 + c)) (by have := hsc9 h; omega)
      refine jWp.blk mt 2 ?_
      show _ ∧ jWp 62 13 [some (jO s), some (jI (i : Int)), some (jJ r), none, some (jI (c : Int)), none, none, none] [jO s, jI (c : Int)] 0 0 w _
      refine ⟨rfl, ?_⟩
      refine jWp.getI (pc' := 16) mt rfl rfl (jtg hks) ?_
      rw [show (w.1 s 0) = (n : Int) from hn0]
      show jWp 62 16 [some (jO s), some (jI (i : Int)), some (jJ r), none, some (jI (c : Int)), none, none, none] [jI (n : Int), jI (c : Int)] 0 0 w _
      refine jWp.icmp (pc' := 19) mt rfl rfl (b32_id (by omega) (by omega)) (b32_id (by omega) (by omega)) (fun h3 => ?_) (fun h3 => ?_)
      · have h3 : (n : Int) ≤ (c : Int) := h3
        refine jWp.blk mt 2 ?_
        show jWp 62 86 [some (jO s), some (jI (i : Int)), some (jJ r), none, some (jI (c : Int)), none, none, none] [jJ 1, jJ r] 0 0 w _
        refine jWp.lcmp (pc' := 90) mt rfl rfl rfl (b64_id (by omega) (by omega)) (show b64 1 = 1 by decide) (fun h4 => ?_) (fun h4 => ?_)
        · have h4 : r ≠ 1 := h4
          refine jWp.blk mt 1 ?_
          show jWp 62 95 [some (jO s), some (jI (i : Int)), some (jJ r), none, some (jI (c : Int)), none, none, none] [jI 0] 0 0 w _
          refine jWp.iretz mt rfl ⟨rfl, rfl⟩ rfl (Or.inl rfl) ?_
          exact ⟨rfl, _, rfl, by omega, fun h => by have := hr1 h; omega⟩
        · have h4 : r = 1 := h4
          refine jWp.blk mt 2 ?_
          show jWp 62 95 [some (jO s), some (jI (i : Int)), some (jJ r), none, some (jI (c : Int)), none, none, none] [jI 1] 0 0 w _
          refine jWp.iretz mt rfl ⟨rfl, rfl⟩ rfl (Or.inr rfl) ?_
          exact ⟨rfl, _, rfl, by omega, fun h => by have := hr1 h; omega⟩
      · have h3 : (c : Int) < (n : Int) := h3
        refine jWp.blk mt 3 ?_
        show _ ∧ jWp 62 23 [some (jO s), some (jI (i : Int)), some (jJ r), none, some (jI (c : Int)), none, none, none] [jI (c : Int), jO s, jJ r] 0 0 w _
        refine ⟨rfl, ?_⟩
        refine jWp.callv (as := [jO s, jI (c : Int)]) (rest := [jJ r]) mt rfl rfl rfl ⟨rfl, jtg hks⟩ ?_
        refine jCall.mono ((by have h := E_sf (w := w) (sc := sc) (n := n) (i := c) hks hkc hrc hn0 hn4 (by omega); rw [show w.1 sc (24 + c) = q (17 + c) from (hRR _ (by omega)).trans (cz_s hn4 (by omega))] at h; exact h)) (fun v9 w9 h9 => ?_)
        obtain ⟨rfl, h9⟩ := h9
        subst w9
        show jWp 62 26 [some (jO s), some (jI (i : Int)), some (jJ r), none, some (jI (c : Int)), none, none, none] [jI (q (17 + c)), jJ r] 0 0 w _
        refine jWp.i2l (pc' := 27) mt rfl rfl (b32_id (by omega) (by omega)) ?_
        show jWp 62 27 [some (jO s), some (jI (i : Int)), some (jJ r), none, some (jI (c : Int)), none, none, none] [jJ (q (17 + c)), jJ r] 0 0 w _
        refine jWp.calls (as := [jJ r, jJ (q (17 + c))]) (rest := []) mt rfl rfl rfl rfl ?_
        refine jCall.mono (E_gcd (by omega) (by omega)) (fun v9 w9 h9 => ?_)
        obtain ⟨rfl, h9⟩ := h9
        subst w9
        show jWp 62 30 [some (jO s), some (jI (i : Int)), some (jJ r), none, some (jI (c : Int)), none, none, none] [jJ (zg r (q (17 + c)))] 0 0 w _
        refine jWp.blk mt 3 ?_
        show jWp 62 35 [some (jO s), some (jI (i : Int)), some (jJ r), none, some (jI (c : Int)), some (jJ (zg r (q (17 + c)))), none, some (jI 0)] [] 0 0 w _
        have lp5 : ∀ (N : Nat) (t r : Int) (hr : 1 ≤ r ∧ r ≤ 1000000000) (hr1 : q (25 + i) = 1 → r = 1), r.toNat < N → jWp 62 35 [some (jO s), some (jI (i : Int)), some (jJ r), none, some (jI (c : Int)), some (jJ (zg r (q (17 + c)))), none, some (jI t)] [] 0 0 w (fun v w1 => w1 = w ∧ ∃ y, v = some (jI y) ∧ (y = 0 ∨ y = 1) ∧ (q (25 + i) = 1 → y = 1)) := by
          intro N
          induction N with
          | zero => intro t r hr hr1 hm; omega
          | succ N ih6 =>
            intro t r hr hr1 hm
            have hcn : c < n := by omega
            have hs9 := hsc9 hcn
            have hgp := zg_pos (a := r) (b := q (17 + c)) (by omega)
            have hgl := zg_le (a := r) (b := q (17 + c)) (by omega)
            have hup := zu_p (a := r) (b := q (17 + c)) (by omega) (by omega)
            have hub := zu_b (a := r) (b := q (17 + c)) (by omega) (by omega)
            unfold zu at hup hub
            have hg1 : r = 1 → zg r (q (17 + c)) = 1 := fun h => by rw [h]; exact zg_1l
            refine jWp.blk mt 4 ?_
            show _ ∧ jWp 62 41 [some (jO s), some (jI (i : Int)), some (jJ r), none, some (jI (c : Int)), some (jJ (zg r (q (17 + c)))), none, some (jI t)] [jI (c : Int), jI (i : Int), jO s, jI t] 0 0 w _
            refine ⟨rfl, ?_⟩
            refine jWp.callv (as := [jO s, jI (i : Int), jI (c : Int)]) (rest := [jI t]) mt rfl rfl rfl ⟨rfl, jtg hks⟩ ?_
            refine jCall.mono (E_sd (w := w) (sc := sc) (n := n) (i := i) (j := c) hks hkc hrc hn0 hn4 (by omega) (by omega)) (fun v9 w9 h9 => ?_)
            obtain ⟨rfl, h9⟩ := h9
            subst w9
            show jWp 62 44 [some (jO s), some (jI (i : Int)), some (jJ r), none, some (jI (c : Int)), some (jJ (zg r (q (17 + c)))), none, some (jI t)] [jI (w.1 sc (28 + (4 * i + c))), jI t] 0 0 w _
            refine jWp.icmp (pc' := 47) mt rfl rfl rfl rfl (fun h7 => ?_) (fun h7 => ?_)
            · have h7 : (b32 (w.1 sc (28 + (4 * i + c)))) ≤ (b32 t) := h7
              refine jWp.blk mt 2 ?_
              show jWp 62 10 [some (jO s), some (jI (i : Int)), some (jJ r), none, some (jI ((c : Int) + 1)), some (jJ (zg r (q (17 + c)))), none, some (jI t)] [] 0 0 w _
              refine jWp.le (l := [some (jO s), some (jI (i : Int)), some (jJ r), none, some (jI ((c : Int) + 1)), none, none, none]) (by exact ⟨rfl, rfl, rfl, rfl, trivial⟩) ?_
              exact ih2 (c + 1) r (by omega) hr hr1 (by omega)
            · have h7 : (b32 t) < (b32 (w.1 sc (28 + (4 * i + c)))) := h7
              refine jWp.blk mt 2 ?_
              show jWp 62 50 [some (jO s), some (jI (i : Int)), some (jJ r), none, some (jI (c : Int)), some (jJ (zg r (q (17 + c)))), none, some (jI t)] [jJ 1, jJ (zg r (q (17 + c)))] 0 0 w _
              refine jWp.lcmp (pc' := 54) mt rfl rfl rfl (b64_id (by omega) (by omega)) (show b64 1 = 1 by decide) (fun h8 => ?_) (fun h8 => ?_)
              · have h8 : (zg r (q (17 + c))) ≤ 1 := h8
                refine jWp.blk mt 2 ?_
                show jWp 62 10 [some (jO s), some (jI (i : Int)), some (jJ r), none, some (jI ((c : Int) + 1)), some (jJ (zg r (q (17 + c)))), none, some (jI t)] [] 0 0 w _
                refine jWp.le (l := [some (jO s), some (jI (i : Int)), some (jJ r), none, some (jI ((c : Int) + 1)), none, none, none]) (by exact ⟨rfl, rfl, rfl, rfl, trivial⟩) ?_
                exact ih2 (c + 1) r (by omega) hr hr1 (by omega)
              · have h8 : 1 < (zg r (q (17 + c))) := h8
                refine jWp.blk mt 2 ?_
                show jWp 62 57 [some (jO s), some (jI (i : Int)), some (jJ r), none, some (jI (c : Int)), some (jJ (zg r (q (17 + c)))), none, some (jI t)] [jJ (zg r (q (17 + c))), jJ r] 0 0 w _
                refine jWp.ldiv (pc' := 58) mt rfl rfl (b64_id (by omega) (by omega)) (b64_id (by omega) (by omega)) (by omega) ?_
                show jWp 62 58 [some (jO s), some (jI (i : Int)), some (jJ r), none, some (jI (c : Int)), some (jJ (zg r (q (17 + c)))), none, some (jI t)] [jJ (Int.tdiv r (zg r (q (17 + c))))] 0 0 w _
                refine jWp.blk mt 4 ?_
                show _ ∧ jWp 62 63 [some (jO s), some (jI (i : Int)), some (jJ (Int.tdiv r (zg r (q (17 + c))))), none, some (jI (c : Int)), some (jJ (zg r (q (17 + c)))), none, some (jI t)] [jI (c : Int), jO s, jJ (Int.tdiv r (zg r (q (17 + c))))] 0 0 w _
                refine ⟨rfl, ?_⟩
                refine jWp.callv (as := [jO s, jI (c : Int)]) (rest := [jJ (Int.tdiv r (zg r (q (17 + c))))]) mt rfl rfl rfl ⟨rfl, jtg hks⟩ ?_
                refine jCall.mono ((by have h := E_sf (w := w) (sc := sc) (n := n) (i := c) hks hkc hrc hn0 hn4 (by omega); rw [show w.1 sc (24 + c) = q (17 + c) from (hRR _ (by omega)).trans (cz_s hn4 (by omega))] at h; exact h)) (fun v9 w9 h9 => ?_)
                obtain ⟨rfl, h9⟩ := h9
                subst w9
                show jWp 62 66 [some (jO s), some (jI (i : Int)), some (jJ (Int.tdiv r (zg r (q (17 + c))))), none, some (jI (c : Int)), some (jJ (zg r (q (17 + c)))), none, some (jI t)] [jI (q (17 + c)), jJ (Int.tdiv r (zg r (q (17 + c))))] 0 0 w _
                refine jWp.i2l (pc' := 67) mt rfl rfl (b32_id (by omega) (by omega)) ?_
                show jWp 62 67 [some (jO s), some (jI (i : Int)), some (jJ (Int.tdiv r (zg r (q (17 + c))))), none, some (jI (c : Int)), some (jJ (zg r (q (17 + c)))), none, some (jI t)] [jJ (q (17 + c)), jJ (Int.tdiv r (zg r (q (17 + c))))] 0 0 w _
                refine jWp.calls (as := [jJ (Int.tdiv r (zg r (q (17 + c)))), jJ (q (17 + c))]) (rest := []) mt rfl rfl rfl rfl ?_
                refine jCall.mono (E_gcd (by omega) (by omega)) (fun v9 w9 h9 => ?_)
                obtain ⟨rfl, h9⟩ := h9
                subst w9
                show jWp 62 70 [some (jO s), some (jI (i : Int)), some (jJ (Int.tdiv r (zg r (q (17 + c))))), none, some (jI (c : Int)), some (jJ (zg r (q (17 + c)))), none, some (jI t)] [jJ (zg (Int.tdiv r (zg r (q (17 + c)))) (q (17 + c)))] 0 0 w _
                refine jWp.blk mt 3 ?_
                show jWp 62 35 [some (jO s), some (jI (i : Int)), some (jJ (Int.tdiv r (zg r (q (17 + c))))), none, some (jI (c : Int)), some (jJ (zg (Int.tdiv r (zg r (q (17 + c)))) (q (17 + c)))), none, some (jI (t + 1))] [] 0 0 w _
                refine jWp.le (l := [some (jO s), some (jI (i : Int)), some (jJ (Int.tdiv r (zg r (q (17 + c))))), none, some (jI (c : Int)), some (jJ (zg (Int.tdiv r (zg r (q (17 + c)))) (q (17 + c)))), none, some (jI (t + 1))]) (by exact ⟨rfl, rfl, rfl, rfl, rfl, rfl, trivial⟩) ?_
                exact ih6 _ _ ⟨hup, by omega⟩ (fun h => by have := hr1 h; have := hg1 this; omega) (by have h9 := zu_less (a := r) (b := q (17 + c)) (by omega) (by omega) (by omega); have h9 : (Int.tdiv r (zg r (q (17 + c)))).toNat < r.toNat := h9; omega)
        refine jWp.le (l := [some (jO s), some (jI (i : Int)), some (jJ r), none, some (jI (c : Int)), some (jJ (zg r (q (17 + c)))), none, some (jI 0)]) (by exact ⟨rfl, rfl, rfl, rfl, rfl, rfl, trivial⟩) ?_
        exact lp5 _ 0 r hr hr1 (Nat.lt_succ_self _)
  refine jWp.le (l := [some (jO s), some (jI (i : Int)), some (jJ (q (25 + i))), none, some (jI 0), none, none, none]) (by exact ⟨rfl, rfl, rfl, rfl, trivial⟩) ?_
  exact lp1 _ 0 _ (by omega) (by omega) (fun h => h) (Nat.lt_succ_self _)
def zci (C : Nat → Int) (i : Nat) : Nat → Int → Int
  | 0, y => y
  | c + 1, y => jmx (b32 (zci C i c y)) (b32 (C (28 + (4 * i + c))))
def zco (C : Nat → Int) (n : Nat) : Nat → Int
  | 0 => C (28 + (4 * 0 + 0))
  | i + 1 => zci C i n (zco C n i)
def zcej (C : Nat → Int) (i : Nat) : Nat → Int
  | 0 => 0
  | j + 1 => zcej C i j + if C (8 + (4 * i + j)) = 0 then 0 else 1
theorem zcej_t {C : Nat → Int} {i j : Nat} (h : C (8 + (4 * i + j)) = 0) : zcej C i (j + 1) = zcej C i j + 0 := by
  show _ + (if _ then _ else _) = _
  rw [if_pos h]
theorem zcej_f {C : Nat → Int} {i j : Nat} (h : C (8 + (4 * i + j)) ≠ 0) : zcej C i (j + 1) = zcej C i j + 1 := by
  show _ + (if _ then _ else _) = _
  rw [if_neg h]
def zcei (C : Nat → Int) (n : Nat) : Nat → Int
  | 0 => 0
  | i + 1 => zcei C n i + zcej C i n
set_option maxHeartbeats 4000000 in
set_option maxRecDepth 20000 in
theorem C_greatest {w : jS} {s sc n : Nat} (hks : w.2.1 s = (6, 0)) (hkc : w.2.1 sc = (100, 44)) (hrc : w.2.2.1 s 1 = some sc) (hn0 : w.1 s 0 = (n : Int)) (hn4 : n ≤ 4) (hn2 : 2 ≤ n) : jCall 67 [jO s] w (jvi (zco (w.1 sc) n n) w) := by
  have mt : jtb 67 = jT67 := rfl
  show jWp 67 0 [some (jO s), none, none, none] [] 0 0 w _
  refine jWp.blk mt 3 ?_
  show _ ∧ jWp 67 3 [some (jO s), none, none, none] [jI 0, jI 0, jO s] 0 0 w _
  refine ⟨rfl, ?_⟩
  refine jWp.callv (as := [jO s, jI 0, jI 0]) (rest := []) mt rfl rfl rfl ⟨rfl, jtg hks⟩ ?_
  refine jCall.mono (E_sd (w := w) (sc := sc) (n := n) (i := 0) (j := 0) hks hkc hrc hn0 hn4 (by omega) (by omega)) (fun v9 w9 h9 => ?_)
  obtain ⟨rfl, h9⟩ := h9
  subst w9
  show jWp 67 6 [some (jO s), none, none, none] [jI (w.1 sc (28 + (4 * 0 + 0)))] 0 0 w _
  refine jWp.blk mt 3 ?_
  show jWp 67 9 [some (jO s), some (jI (w.1 sc (28 + (4 * 0 + 0)))), some (jI 0), none] [] 0 0 w _
  have lp1 : ∀ (N : Nat) (i : Nat) (y : Int) (hi : i ≤ n) (hy : y = zco (w.1 sc) n i), n - i < N → jWp 67 9 [some (jO s), some (jI y), some (jI (i : Int)), none] [] 0 0 w (jvi (zco (w.1 sc) n n) w) := by
    intro N
    induction N with
    | zero => intro i y hi hy hm; omega
    | succ N ih2 =>
      intro i y hi hy hm
      refine jWp.blk mt 2 ?_
      show _ ∧ jWp 67 11 [some (jO s), some (jI y), some (jI (i : Int)), none] [jO s, jI (i : Int)] 0 0 w _
      refine ⟨rfl, ?_⟩
      refine jWp.getI (pc' := 14) mt rfl rfl (jtg hks) ?_
      rw [show (w.1 s 0) = (n : Int) from hn0]
      show jWp 67 14 [some (jO s), some (jI y), some (jI (i : Int)), none] [jI (n : Int), jI (i : Int)] 0 0 w _
      refine jWp.icmp (pc' := 17) mt rfl rfl (b32_id (by omega) (by omega)) (b32_id (by omega) (by omega)) (fun h3 => ?_) (fun h3 => ?_)
      · have h3 : (n : Int) ≤ (i : Int) := h3
        refine jWp.blk mt 1 ?_
        show jWp 67 51 [some (jO s), some (jI y), some (jI (i : Int)), none] [jI y] 0 0 w _
        refine jWp.ireti mt rfl ⟨rfl, rfl⟩ rfl ?_
        refine ⟨?_, rfl⟩
        rw [hy, show i = n by omega]
      · have h3 : (i : Int) < (n : Int) := h3
        refine jWp.blk mt 2 ?_
        show jWp 67 19 [some (jO s), some (jI y), some (jI (i : Int)), some (jI 0)] [] 0 0 w _
        have lp4 : ∀ (N : Nat) (c : Nat) (y : Int) (hc : c ≤ n) (hc1 : y = zci (w.1 sc) i c (zco (w.1 sc) n i)), n - c < N → jWp 67 19 [some (jO s), some (jI y), some (jI (i : Int)), some (jI (c : Int))] [] 0 0 w (jvi (zco (w.1 sc) n n) w) := by
          intro N
          induction N with
          | zero => intro c y hc hc1 hm; omega
          | succ N ih5 =>
            intro c y hc hc1 hm
            refine jWp.blk mt 2 ?_
            show _ ∧ jWp 67 21 [some (jO s), some (jI y), some (jI (i : Int)), some (jI (c : Int))] [jO s, jI (c : Int)] 0 0 w _
            refine ⟨rfl, ?_⟩
            refine jWp.getI (pc' := 24) mt rfl rfl (jtg hks) ?_
            rw [show (w.1 s 0) = (n : Int) from hn0]
            show jWp 67 24 [some (jO s), some (jI y), some (jI (i : Int)), some (jI (c : Int))] [jI (n : Int), jI (c : Int)] 0 0 w _
            refine jWp.icmp (pc' := 27) mt rfl rfl (b32_id (by omega) (by omega)) (b32_id (by omega) (by omega)) (fun h6 => ?_) (fun h6 => ?_)
            · have h6 : (n : Int) ≤ (c : Int) := h6
              refine jWp.blk mt 2 ?_
              show jWp 67 9 [some (jO s), some (jI y), some (jI ((i : Int) + 1)), some (jI (c : Int))] [] 0 0 w _
              refine jWp.le (l := [some (jO s), some (jI y), some (jI ((i : Int) + 1)), none]) (by exact ⟨rfl, rfl, rfl, trivial⟩) ?_
              exact ih2 (i + 1) y (by omega) (by rw [hc1, show c = n by omega]; rfl) (by omega)
            · have h6 : (c : Int) < (n : Int) := h6
              refine jWp.blk mt 4 ?_
              show _ ∧ jWp 67 31 [some (jO s), some (jI y), some (jI (i : Int)), some (jI (c : Int))] [jI (c : Int), jI (i : Int), jO s, jI y] 0 0 w _
              refine ⟨rfl, ?_⟩
              refine jWp.callv (as := [jO s, jI (i : Int), jI (c : Int)]) (rest := [jI y]) mt rfl rfl rfl ⟨rfl, jtg hks⟩ ?_
              refine jCall.mono (E_sd (w := w) (sc := sc) (n := n) (i := i) (j := c) hks hkc hrc hn0 hn4 (by omega) (by omega)) (fun v9 w9 h9 => ?_)
              obtain ⟨rfl, h9⟩ := h9
              subst w9
              show jWp 67 34 [some (jO s), some (jI y), some (jI (i : Int)), some (jI (c : Int))] [jI (w.1 sc (28 + (4 * i + c))), jI y] 0 0 w _
              refine jWp.maxI (pc' := 37) mt rfl rfl rfl rfl rfl ?_
              show jWp 67 37 [some (jO s), some (jI y), some (jI (i : Int)), some (jI (c : Int))] [jI (jmx (b32 y) (b32 (w.1 sc (28 + (4 * i + c)))))] 0 0 w _
              refine jWp.blk mt 3 ?_
              show jWp 67 19 [some (jO s), some (jI (jmx (b32 y) (b32 (w.1 sc (28 + (4 * i + c)))))), some (jI (i : Int)), some (jI ((c : Int) + 1))] [] 0 0 w _
              refine jWp.le (l := [some (jO s), some (jI (jmx (b32 y) (b32 (w.1 sc (28 + (4 * i + c)))))), some (jI (i : Int)), some (jI ((c : Int) + 1))]) (by exact ⟨rfl, rfl, rfl, rfl, trivial⟩) ?_
              exact ih5 (c + 1) _ (by omega) (by rw [hc1]; rfl) (by omega)
        refine jWp.le (l := [some (jO s), some (jI y), some (jI (i : Int)), some (jI 0)]) (by exact ⟨rfl, rfl, rfl, rfl, trivial⟩) ?_
        exact lp4 _ 0 y (by omega) hy (Nat.lt_succ_self _)
  refine jWp.le (l := [some (jO s), some (jI (w.1 sc (28 + (4 * 0 + 0)))), some (jI 0), none]) (by exact ⟨rfl, rfl, rfl, trivial⟩) ?_
  exact lp1 _ 0 _ (by omega) rfl (Nat.lt_succ_self _)
set_option maxHeartbeats 4000000 in
set_option maxRecDepth 20000 in
theorem C_entries {w : jS} {s sc n : Nat} (hks : w.2.1 s = (6, 0)) (hkc : w.2.1 sc = (100, 44)) (hrc : w.2.2.1 s 1 = some sc) (hn0 : w.1 s 0 = (n : Int)) (hn4 : n ≤ 4) (hb : ∀ e, e < 16 → -9 ≤ w.1 sc (8 + e) ∧ w.1 sc (8 + e) ≤ 9) : jCall 68 [jO s] w (jvi (zcei (w.1 sc) n n) w) := by
  have mt : jtb 68 = jT68 := rfl
  show jWp 68 0 [some (jO s), none, none, none] [] 0 0 w _
  refine jWp.blk mt 4 ?_
  show jWp 68 4 [some (jO s), some (jI 0), some (jI 0), none] [] 0 0 w _
  have lp1 : ∀ (N : Nat) (i : Nat) (y : Int) (hi : i ≤ n) (hy : y = zcei (w.1 sc) n i), n - i < N → jWp 68 4 [some (jO s), some (jI y), some (jI (i : Int)), none] [] 0 0 w (jvi (zcei (w.1 sc) n n) w) := by
    intro N
    induction N with
    | zero => intro i y hi hy hm; omega
    | succ N ih2 =>
      intro i y hi hy hm
      refine jWp.blk mt 2 ?_
      show _ ∧ jWp 68 6 [some (jO s), some (jI y), some (jI (i : Int)), none] [jO s, jI (i : Int)] 0 0 w _
      refine ⟨rfl, ?_⟩
      refine jWp.getI (pc' := 9) mt rfl rfl (jtg hks) ?_
      rw [show (w.1 s 0) = (n : Int) from hn0]
      show jWp 68 9 [some (jO s), some (jI y), some (jI (i : Int)), none] [jI (n : Int), jI (i : Int)] 0 0 w _
      refine jWp.icmp (pc' := 12) mt rfl rfl (b32_id (by omega) (by omega)) (b32_id (by omega) (by omega)) (fun h3 => ?_) (fun h3 => ?_)
      · have h3 : (n : Int) ≤ (i : Int) := h3
        refine jWp.blk mt 1 ?_
        show jWp 68 47 [some (jO s), some (jI y), some (jI (i : Int)), none] [jI y] 0 0 w _
        refine jWp.ireti mt rfl ⟨rfl, rfl⟩ rfl ?_
        refine ⟨?_, rfl⟩
        rw [hy, show i = n by omega]
      · have h3 : (i : Int) < (n : Int) := h3
        refine jWp.blk mt 2 ?_
        show jWp 68 14 [some (jO s), some (jI y), some (jI (i : Int)), some (jI 0)] [] 0 0 w _
        have lp4 : ∀ (N : Nat) (c : Nat) (y : Int) (hc : c ≤ n) (hc1 : y = zcei (w.1 sc) n i + zcej (w.1 sc) i c), n - c < N → jWp 68 14 [some (jO s), some (jI y), some (jI (i : Int)), some (jI (c : Int))] [] 0 0 w (jvi (zcei (w.1 sc) n n) w) := by
          intro N
          induction N with
          | zero => intro c y hc hc1 hm; omega
          | succ N ih5 =>
            intro c y hc hc1 hm
            have hbi := fun h : c < n => hb (4 * i + c) (by omega)
            refine jWp.blk mt 2 ?_
            show _ ∧ jWp 68 16 [some (jO s), some (jI y), some (jI (i : Int)), some (jI (c : Int))] [jO s, jI (c : Int)] 0 0 w _
            refine ⟨rfl, ?_⟩
            refine jWp.getI (pc' := 19) mt rfl rfl (jtg hks) ?_
            rw [show (w.1 s 0) = (n : Int) from hn0]
            show jWp 68 19 [some (jO s), some (jI y), some (jI (i : Int)), some (jI (c : Int))] [jI (n : Int), jI (c : Int)] 0 0 w _
            refine jWp.icmp (pc' := 22) mt rfl rfl (b32_id (by omega) (by omega)) (b32_id (by omega) (by omega)) (fun h6 => ?_) (fun h6 => ?_)
            · have h6 : (n : Int) ≤ (c : Int) := h6
              refine jWp.blk mt 2 ?_
              show jWp 68 4 [some (jO s), some (jI y), some (jI ((i : Int) + 1)), some (jI (c : Int))] [] 0 0 w _
              refine jWp.le (l := [some (jO s), some (jI y), some (jI ((i : Int) + 1)), none]) (by exact ⟨rfl, rfl, rfl, trivial⟩) ?_
              exact ih2 (i + 1) y (by omega) (by rw [hc1, show c = n by omega]; rfl) (by omega)
            · have h6 : (c : Int) < (n : Int) := h6
              refine jWp.blk mt 3 ?_
              show _ ∧ jWp 68 25 [some (jO s), some (jI y), some (jI (i : Int)), some (jI (c : Int))] [jI (c : Int), jI (i : Int), jO s] 0 0 w _
              refine ⟨rfl, ?_⟩
              refine jWp.callv (as := [jO s, jI (i : Int), jI (c : Int)]) (rest := []) mt rfl rfl rfl ⟨rfl, jtg hks⟩ ?_
              refine jCall.mono (E_sb (w := w) (sc := sc) (i := i) (j := c) hks hkc hrc (by omega) (by omega)) (fun v9 w9 h9 => ?_)
              obtain ⟨rfl, h9⟩ := h9
              subst w9
              show jWp 68 28 [some (jO s), some (jI y), some (jI (i : Int)), some (jI (c : Int))] [jI (w.1 sc (8 + (4 * i + c)))] 0 0 w _
              refine jWp.ifz (pc' := 31) mt rfl rfl (b32_id (by omega) (by omega)) (fun h7 => ?_) (fun h7 => ?_)
              · have h7 : (w.1 sc (8 + (4 * i + c))) = 0 := h7
                refine jWp.blk mt 2 ?_
                show jWp 68 14 [some (jO s), some (jI y), some (jI (i : Int)), some (jI ((c : Int) + 1))] [] 0 0 w _
                refine jWp.le (l := [some (jO s), some (jI y), some (jI (i : Int)), some (jI ((c : Int) + 1))]) (by exact ⟨rfl, rfl, rfl, rfl, trivial⟩) ?_
                exact ih5 (c + 1) _ (by omega) (by rw [hc1]; first | (rw [zcej_f (by omega)]; omega) | (rw [zcej_t (by omega)]; omega)) (by omega)
              · have h7 : (w.1 sc (8 + (4 * i + c))) ≠ 0 := h7
                refine jWp.blk mt 3 ?_
                show jWp 68 14 [some (jO s), some (jI (y + 1)), some (jI (i : Int)), some (jI ((c : Int) + 1))] [] 0 0 w _
                refine jWp.le (l := [some (jO s), some (jI (y + 1)), some (jI (i : Int)), some (jI ((c : Int) + 1))]) (by exact ⟨rfl, rfl, rfl, rfl, trivial⟩) ?_
                exact ih5 (c + 1) _ (by omega) (by rw [hc1]; first | (rw [zcej_f (by omega)]; omega) | (rw [zcej_t (by omega)]; omega)) (by omega)
        refine jWp.le (l := [some (jO s), some (jI y), some (jI (i : Int)), some (jI 0)]) (by exact ⟨rfl, rfl, rfl, rfl, trivial⟩) ?_
        exact lp4 _ 0 y (by omega) (by rw [hy]; show _ = _ + (0 : Int); omega) (Nat.lt_succ_self _)
  refine jWp.le (l := [some (jO s), some (jI 0), some (jI 0), none]) (by exact ⟨rfl, rfl, rfl, trivial⟩) ?_
  exact lp1 _ 0 _ (by omega) rfl (Nat.lt_succ_self _)
theorem zcei_e {C q : Nat → Int} {n : Nat} (hQ : zQ q n) (hR : ∀ j, j < 28 → C j = cz q n j) : zcei C n n = zcz q 16 := by
  have h2 := hQ.S.n2
  have h4 := hQ.S.n4
  have e : ∀ x, x < 16 → (if C (8 + x) = 0 then (0 : Int) else 1) = if q (1 + x) = 0 then 0 else 1 := fun x hx => by rw [(hR _ (by omega)).trans (cz_b hx)]
  have z : ∀ x, x < 16 → n ≤ x / 4 ∨ n ≤ x % 4 → (if q (1 + x) = 0 then (0 : Int) else 1) = 0 := fun x hx g => by
    have := hQ.z (x / 4) (x % 4) (by omega) (by omega) g
    rw [show 1 + (4 * (x / 4) + x % 4) = 1 + x by omega] at this
    rw [if_pos this]
  have u : zcz q 16 = 0 + (if q (1 + 0) = 0 then (0 : Int) else 1) + (if q (1 + 1) = 0 then 0 else 1) + (if q (1 + 2) = 0 then 0 else 1) + (if q (1 + 3) = 0 then 0 else 1) + (if q (1 + 4) = 0 then 0 else 1) + (if q (1 + 5) = 0 then 0 else 1) + (if q (1 + 6) = 0 then 0 else 1) + (if q (1 + 7) = 0 then 0 else 1) + (if q (1 + 8) = 0 then 0 else 1) + (if q (1 + 9) = 0 then 0 else 1) + (if q (1 + 10) = 0 then 0 else 1) + (if q (1 + 11) = 0 then 0 else 1) + (if q (1 + 12) = 0 then 0 else 1) + (if q (1 + 13) = 0 then 0 else 1) + (if q (1 + 14) = 0 then 0 else 1) + (if q (1 + 15) = 0 then 0 else 1) := rfl
  rcases (show n = 2 ∨ n = 3 ∨ n = 4 by omega) with rfl | rfl | rfl
  · have v : zcei C 2 2 = 0 + (0 + (if C (8 + 0) = 0 then (0 : Int) else 1) + (if C (8 + 1) = 0 then 0 else 1)) + (0 + (if C (8 + 4) = 0 then 0 else 1) + (if C (8 + 5) = 0 then 0 else 1)) := rfl
    rw [u, v, e 0 (by decide), e 1 (by decide), e 4 (by decide), e 5 (by decide), z 2 (by decide) (by decide), z 3 (by decide) (by decide), z 6 (by decide) (by decide), z 7 (by decide) (by decide), z 8 (by decide) (by decide), z 9 (by decide) (by decide), z 10 (by decide) (by decide), z 11 (by decide) (by decide), z 12 (by decide) (by decide), z 13 (by decide) (by decide), z 14 (by decide) (by decide), z 15 (by decide) (by decide)]
    generalize (if q (1 + 0) = 0 then (0 : Int) else 1) = a0
    generalize (if q (1 + 1) = 0 then (0 : Int) else 1) = a1
    generalize (if q (1 + 4) = 0 then (0 : Int) else 1) = a4
    generalize (if q (1 + 5) = 0 then (0 : Int) else 1) = a5
    omega
  · have v : zcei C 3 3 = 0 + (0 + (if C (8 + 0) = 0 then (0 : Int) else 1) + (if C (8 + 1) = 0 then 0 else 1) + (if C (8 + 2) = 0 then 0 else 1)) + (0 + (if C (8 + 4) = 0 then 0 else 1) + (if C (8 + 5) = 0 then 0 else 1) + (if C (8 + 6) = 0 then 0 else 1)) + (0 + (if C (8 + 8) = 0 then 0 else 1) + (if C (8 + 9) = 0 then 0 else 1) + (if C (8 + 10) = 0 then 0 else 1)) := rfl
    rw [u, v, e 0 (by decide), e 1 (by decide), e 2 (by decide), e 4 (by decide), e 5 (by decide), e 6 (by decide), e 8 (by decide), e 9 (by decide), e 10 (by decide), z 3 (by decide) (by decide), z 7 (by decide) (by decide), z 11 (by decide) (by decide), z 12 (by decide) (by decide), z 13 (by decide) (by decide), z 14 (by decide) (by decide), z 15 (by decide) (by decide)]
    generalize (if q (1 + 0) = 0 then (0 : Int) else 1) = a0
    generalize (if q (1 + 1) = 0 then (0 : Int) else 1) = a1
    generalize (if q (1 + 2) = 0 then (0 : Int) else 1) = a2
    generalize (if q (1 + 4) = 0 then (0 : Int) else 1) = a4
    generalize (if q (1 + 5) = 0 then (0 : Int) else 1) = a5
    generalize (if q (1 + 6) = 0 then (0 : Int) else 1) = a6
    generalize (if q (1 + 8) = 0 then (0 : Int) else 1) = a8
    generalize (if q (1 + 9) = 0 then (0 : Int) else 1) = a9
    generalize (if q (1 + 10) = 0 then (0 : Int) else 1) = a10
    omega
  · have v : zcei C 4 4 = 0 + (0 + (if C (8 + 0) = 0 then (0 : Int) else 1) + (if C (8 + 1) = 0 then 0 else 1) + (if C (8 + 2) = 0 then 0 else 1) + (if C (8 + 3) = 0 then 0 else 1)) + (0 + (if C (8 + 4) = 0 then 0 else 1) + (if C (8 + 5) = 0 then 0 else 1) + (if C (8 + 6) = 0 then 0 else 1) + (if C (8 + 7) = 0 then 0 else 1)) + (0 + (if C (8 + 8) = 0 then 0 else 1) + (if C (8 + 9) = 0 then 0 else 1) + (if C (8 + 10) = 0 then 0 else 1) + (if C (8 + 11) = 0 then 0 else 1)) + (0 + (if C (8 + 12) = 0 then 0 else 1) + (if C (8 + 13) = 0 then 0 else 1) + (if C (8 + 14) = 0 then 0 else 1) + (if C (8 + 15) = 0 then 0 else 1)) := rfl
    rw [u, v, e 0 (by decide), e 1 (by decide), e 2 (by decide), e 3 (by decide), e 4 (by decide), e 5 (by decide), e 6 (by decide), e 7 (by decide), e 8 (by decide), e 9 (by decide), e 10 (by decide), e 11 (by decide), e 12 (by decide), e 13 (by decide), e 14 (by decide), e 15 (by decide)]
    generalize (if q (1 + 0) = 0 then (0 : Int) else 1) = a0
    generalize (if q (1 + 1) = 0 then (0 : Int) else 1) = a1
    generalize (if q (1 + 2) = 0 then (0 : Int) else 1) = a2
    generalize (if q (1 + 3) = 0 then (0 : Int) else 1) = a3
    generalize (if q (1 + 4) = 0 then (0 : Int) else 1) = a4
    generalize (if q (1 + 5) = 0 then (0 : Int) else 1) = a5
    generalize (if q (1 + 6) = 0 then (0 : Int) else 1) = a6
    generalize (if q (1 + 7) = 0 then (0 : Int) else 1) = a7
    generalize (if q (1 + 8) = 0 then (0 : Int) else 1) = a8
    generalize (if q (1 + 9) = 0 then (0 : Int) else 1) = a9
    generalize (if q (1 + 10) = 0 then (0 : Int) else 1) = a10
    generalize (if q (1 + 11) = 0 then (0 : Int) else 1) = a11
    generalize (if q (1 + 12) = 0 then (0 : Int) else 1) = a12
    generalize (if q (1 + 13) = 0 then (0 : Int) else 1) = a13
    generalize (if q (1 + 14) = 0 then (0 : Int) else 1) = a14
    generalize (if q (1 + 15) = 0 then (0 : Int) else 1) = a15
    omega
theorem zci_g {C q : Nat → Int} {n i : Nat} (hi : i < n) (h4 : n ≤ 4) (hd : ∀ i c, i < n → c < n → C (28 + (4 * i + c)) = q (29 + 4 * i + c) ∧ -50000000 ≤ q (29 + 4 * i + c) ∧ q (29 + 4 * i + c) ≤ 50000000) {y : Int} (hy : -50000000 ≤ y ∧ y ≤ 50000000) : ∀ c, c ≤ n → (-50000000 ≤ zci C i c y ∧ zci C i c y ≤ 50000000) ∧ y ≤ zci C i c y ∧ (∀ d, d < c → q (29 + 4 * i + d) ≤ zci C i c y) ∧ (zci C i c y = y ∨ ∃ d, d < c ∧ zci C i c y = q (29 + 4 * i + d))
  | 0, _ => ⟨hy, Int.le_refl _, fun d hd => absurd hd (by omega), Or.inl rfl⟩
  | c + 1, hc => by
    have ih := zci_g hi h4 hd hy c (by omega)
    have e := hd i c hi (by omega)
    have s : zci C i (c + 1) y = if zci C i c y < q (29 + 4 * i + c) then q (29 + 4 * i + c) else zci C i c y := by
      show jmx (b32 (zci C i c y)) (b32 (C (28 + (4 * i + c)))) = _
      rw [e.1, b32_id (by omega) (by omega), b32_id (by omega) (by omega)]
      rfl
    rw [s]
    by_cases h : zci C i c y < q (29 + 4 * i + c)
    · rw [if_pos h]
      refine ⟨e.2, by omega, fun d hd => ?_, Or.inr ⟨c, by omega, rfl⟩⟩
      rcases Nat.lt_or_ge d c with g | g
      · have := ih.2.2.1 d g
        omega
      · rw [show d = c by omega]
        exact Int.le_refl _
    · rw [if_neg h]
      refine ⟨ih.1, ih.2.1, fun d hd => ?_, ih.2.2.2.imp id (fun ⟨d, h1, h2⟩ => ⟨d, by omega, h2⟩)⟩
      rcases Nat.lt_or_ge d c with g | g
      · exact ih.2.2.1 d g
      · rw [show d = c by omega]
        omega
theorem zco_g {C q : Nat → Int} {n : Nat} (h2 : 2 ≤ n) (h4 : n ≤ 4) (hd : ∀ i c, i < n → c < n → C (28 + (4 * i + c)) = q (29 + 4 * i + c) ∧ -50000000 ≤ q (29 + 4 * i + c) ∧ q (29 + 4 * i + c) ≤ 50000000) : ∀ i, i ≤ n → (-50000000 ≤ zco C n i ∧ zco C n i ≤ 50000000) ∧ (∀ a d, a < i → d < n → q (29 + 4 * a + d) ≤ zco C n i) ∧ (∃ a d, a < n ∧ d < n ∧ zco C n i = q (29 + 4 * a + d))
  | 0, _ => by
    have e := hd 0 0 (by omega) (by omega)
    have s : zco C n 0 = q (29 + 4 * 0 + 0) := e.1
    rw [s]
    exact ⟨e.2, fun a d h => absurd h (by omega), 0, 0, by omega, by omega, rfl⟩
  | i + 1, hi => by
    have ih := zco_g h2 h4 hd i (by omega)
    have g := zci_g (C := C) (by omega : i < n) h4 hd ih.1 n (Nat.le_refl n)
    refine ⟨g.1, fun a d ha hd' => ?_, ?_⟩
    · rcases Nat.lt_or_ge a i with c | c
      · have := ih.2.1 a d c hd'
        have := g.2.1
        show _ ≤ zci C i n (zco C n i)
        omega
      · rw [show a = i by omega]
        exact g.2.2.1 d hd'
    · rcases g.2.2.2 with e | ⟨d, h1, e⟩
      · obtain ⟨a, d, h3, h5, h6⟩ := ih.2.2
        exact ⟨a, d, h3, h5, e.trans h6⟩
      · exact ⟨i, d, by omega, h1, e⟩
theorem zgi_g {q : Nat → Int} {n i : Nat} (hi : i < n) (h4 : n ≤ 4) (hd : ∀ i c, i < n → c < n → -50000000 ≤ q (29 + 4 * i + c) ∧ q (29 + 4 * i + c) ≤ 50000000) {y : Int} (hy : -50000000 ≤ y ∧ y ≤ 50000000) : ∀ c, c ≤ n → (-50000000 ≤ zgi q i c y ∧ zgi q i c y ≤ 50000000) ∧ y ≤ zgi q i c y ∧ (∀ d, d < c → q (29 + 4 * i + d) ≤ zgi q i c y) ∧ (zgi q i c y = y ∨ ∃ d, d < c ∧ zgi q i c y = q (29 + 4 * i + d))
  | 0, _ => ⟨hy, Int.le_refl _, fun d hd => absurd hd (by omega), Or.inl rfl⟩
  | c + 1, hc => by
    have ih := zgi_g hi h4 hd hy c (by omega)
    have e := hd i c hi (by omega)
    have s : zgi q i (c + 1) y = if zgi q i c y < q (29 + 4 * i + c) then q (29 + 4 * i + c) else zgi q i c y := by
      show (if b64 (zgi q i c y) < b64 (q (29 + 4 * i + c)) then q (29 + 4 * i + c) else zgi q i c y) = _
      rw [b64_id (by omega) (by omega), b64_id (by omega) (by omega)]
    rw [s]
    by_cases h : zgi q i c y < q (29 + 4 * i + c)
    · rw [if_pos h]
      refine ⟨e, by omega, fun d hd => ?_, Or.inr ⟨c, by omega, rfl⟩⟩
      rcases Nat.lt_or_ge d c with g | g
      · have := ih.2.2.1 d g
        omega
      · rw [show d = c by omega]
        exact Int.le_refl _
    · rw [if_neg h]
      refine ⟨ih.1, ih.2.1, fun d hd => ?_, ih.2.2.2.imp id (fun ⟨d, h1, h2⟩ => ⟨d, by omega, h2⟩)⟩
      rcases Nat.lt_or_ge d c with g | g
      · exact ih.2.2.1 d g
      · rw [show d = c by omega]
        omega
theorem zgo_g {q : Nat → Int} {n : Nat} (h4 : n ≤ 4) (hd : ∀ i c, i < n → c < n → -50000000 ≤ q (29 + 4 * i + c) ∧ q (29 + 4 * i + c) ≤ 50000000) : ∀ i, i ≤ n → (-50000000 ≤ zgo q n i ∧ zgo q n i ≤ 50000000) ∧ -1 ≤ zgo q n i ∧ (∀ a d, a < i → d < n → q (29 + 4 * a + d) ≤ zgo q n i) ∧ (zgo q n i = -1 ∨ ∃ a d, a < n ∧ d < n ∧ zgo q n i = q (29 + 4 * a + d))
  | 0, _ => ⟨by show -50000000 ≤ (-1 : Int) ∧ (-1 : Int) ≤ 50000000; omega, Int.le_refl _, fun a d h => absurd h (by omega), Or.inl rfl⟩
  | i + 1, hi => by
    have ih := zgo_g h4 hd i (by omega)
    have g := zgi_g (q := q) (by omega : i < n) h4 hd ih.1 n (Nat.le_refl n)
    refine ⟨g.1, Int.le_trans ih.2.1 g.2.1, fun a d ha hd' => ?_, ?_⟩
    · rcases Nat.lt_or_ge a i with c | c
      · have := ih.2.2.1 a d c hd'
        have := g.2.1
        show _ ≤ zgi q i n (zgo q n i)
        omega
      · rw [show a = i by omega]
        exact g.2.2.1 d hd'
    · rcases g.2.2.2 with e | ⟨d, h1, e⟩
      · rcases ih.2.2.2 with h | ⟨a, d, h3, h5, h6⟩
        · exact Or.inl (e.trans h)
        · exact Or.inr ⟨a, d, h3, h5, e.trans h6⟩
      · exact Or.inr ⟨i, d, by omega, h1, e⟩
/-- the greatest degree is the same in both, where the degrees are -/
theorem zco_e {g : Prop} {G : (Nat → Int) → Prop} {C q : Nat → Int} {n : Nat} (hG : zG G) (hQ : zQ q n) (hg : G q) (gg : g) (hR : cR g C q n) : zco C n n = zgo q n n ∧ -50000000 ≤ zgo q n n ∧ zgo q n n ≤ 50000000 := by
  have h2 := hQ.S.n2
  have h4 := hQ.S.n4
  have b := hG.2.2.1 q n hQ hg
  have hb : ∀ i c, i < n → c < n → -50000000 ≤ q (29 + 4 * i + c) ∧ q (29 + 4 * i + c) ≤ 50000000 := fun i c hi hc => b _ (by omega) (by omega)
  have hd : ∀ i c, i < n → c < n → C (28 + (4 * i + c)) = q (29 + 4 * i + c) ∧ -50000000 ≤ q (29 + 4 * i + c) ∧ q (29 + 4 * i + c) ≤ 50000000 := fun i c hi hc => ⟨(hR.2.1 gg _ (by omega) (by omega)).trans (cz_g h4 hi hc), hb i c hi hc⟩
  have u := zco_g h2 h4 hd n (Nat.le_refl n)
  have v := zgo_g h4 hb n (Nat.le_refl n)
  obtain ⟨a, d, ha, hdd, e⟩ := u.2.2
  obtain ⟨a', d', ha', hd', e'⟩ := hG.2.2.2.1 q n hQ hg
  have l1 := v.2.2.1 a d ha hdd
  have l3 := u.2.1 a' d' ha' hd'
  refine ⟨?_, v.1⟩
  rcases v.2.2.2 with h | ⟨x, y, hx, hy, h⟩
  · have l4 := v.2.2.1 a' d' ha' hd'
    omega
  · have l2 := u.2.1 x y hx hy
    omega
