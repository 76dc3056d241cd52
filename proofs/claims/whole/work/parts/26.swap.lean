set_option maxHeartbeats 4000000 in
set_option maxRecDepth 20000 in
theorem E_isWhole {w : jS} {q n i : Nat} (hq : w.2.1 q = (101, 45)) (hS : zS (w.1 q) n) (hst : ∀ c, c < 4 → 0 ≤ w.1 q (17 + c) ∧ w.1 q (17 + c) ≤ 9) (hi : i < 4) : jCall 183 [jO q, jI (i : Int)] w (fun v w1 => w1 = w ∧ ∃ y, v = some (jI y) ∧ (y = 0 ∨ y = 1) ∧ (w.1 q (25 + i) = 1 → y = 1)) := by
  have mt : jtb 183 = jT183 := rfl
  have hn4 := hS.n4
  have hvi0 := hS.v i hi
  have hvi : 1 ≤ w.1 q (25 + i) ∧ w.1 q (25 + i) ≤ 1000000000 := hvi0.2.2
  have h1 := zmod_b (x := 1) (by omega) hvi.1
  show jWp 183 0 [some (jO q), some (jI (i : Int)), none, none, none, none, none] [] 0 0 w _
  refine jWp.blk mt 4 ?_
  show _ ∧ jWp 183 5 [some (jO q), some (jI (i : Int)), none, none, none, none, none] [jI (25 + (i : Int)), jO q] 0 0 w _
  refine ⟨rfl, ?_⟩
  refine jWp.lald (pc' := 6) (j := (25 + i)) mt rfl rfl (jtg hq) (by rw [b32_id (by omega) (by omega)] <;> omega) (jlt hq (by omega)) ?_
  show jWp 183 6 [some (jO q), some (jI (i : Int)), none, none, none, none, none] [jJ (w.1 q (25 + i))] 0 0 w _
  refine jWp.blk mt 3 ?_
  show jWp 183 9 [some (jO q), some (jI (i : Int)), some (jJ (w.1 q (25 + i))), none, none, none, none] [jJ (w.1 q (25 + i)), jJ 1] 0 0 w _
  refine jWp.lrem (pc' := 10) mt rfl rfl (show b64 1 = 1 by decide) (b64_id (by omega) (by omega)) (by omega) ?_
  show jWp 183 10 [some (jO q), some (jI (i : Int)), some (jJ (w.1 q (25 + i))), none, none, none, none] [jJ (Int.tmod 1 (w.1 q (25 + i)))] 0 0 w _
  refine jWp.blk mt 3 ?_
  show jWp 183 15 [some (jO q), some (jI (i : Int)), some (jJ (w.1 q (25 + i))), none, some (jJ (Int.tmod 1 (w.1 q (25 + i)))), none, some (jI 0)] [] 0 0 w _
  have lp1 : ∀ (N : Nat) (c : Nat) (y : Int) (hc : c ≤ n) (hy : 0 ≤ y ∧ y < w.1 q (25 + i)), n - c < N → jWp 183 15 [some (jO q), some (jI (i : Int)), some (jJ (w.1 q (25 + i))), none, some (jJ y), none, some (jI (c : Int))] [] 0 0 w (fun v w1 => w1 = w ∧ ∃ y, v = some (jI y) ∧ (y = 0 ∨ y = 1) ∧ (w.1 q (25 + i) = 1 → y = 1)) := by
    intro N
    induction N with
    | zero => intro c y hc hy hm; omega
    | succ N ih2 =>
      intro c y hc hy hm
      refine jWp.blk mt 1 ?_
      show jWp 183 17 [some (jO q), some (jI (i : Int)), some (jJ (w.1 q (25 + i))), none, some (jJ y), none, some (jI (c : Int))] [jI (c : Int)] 0 0 w _
      refine jWp.i2l (pc' := 18) mt rfl rfl (b32_id (by omega) (by omega)) ?_
      show jWp 183 18 [some (jO q), some (jI (i : Int)), some (jJ (w.1 q (25 + i))), none, some (jJ y), none, some (jI (c : Int))] [jJ (c : Int)] 0 0 w _
      refine jWp.blk mt 2 ?_
      show _ ∧ jWp 183 20 [some (jO q), some (jI (i : Int)), some (jJ (w.1 q (25 + i))), none, some (jJ y), none, some (jI (c : Int))] [jI 0, jO q, jJ (c : Int)] 0 0 w _
      refine ⟨rfl, ?_⟩
      refine jWp.lald (pc' := 21) (j := 0) mt rfl rfl (jtg hq) (by decide) (jlt hq (by decide)) ?_
      rw [show (w.1 q 0) = (n : Int) from hS.n0]
      show jWp 183 21 [some (jO q), some (jI (i : Int)), some (jJ (w.1 q (25 + i))), none, some (jJ y), none, some (jI (c : Int))] [jJ (n : Int), jJ (c : Int)] 0 0 w _
      refine jWp.lcmp (pc' := 25) mt rfl rfl rfl (b64_id (by omega) (by omega)) (b64_id (by omega) (by omega)) (fun h3 => ?_) (fun h3 => ?_)
      · have h3 : (n : Int) ≤ (c : Int) := h3
        refine jWp.blk mt 2 ?_
        show jWp 183 63 [some (jO q), some (jI (i : Int)), some (jJ (w.1 q (25 + i))), none, some (jJ y), none, some (jI (c : Int))] [jJ 0, jJ y] 0 0 w _
        refine jWp.lcmp (pc' := 67) mt rfl rfl rfl (b64_id (by omega) (by omega)) (show b64 0 = 0 by decide) (fun h4 => ?_) (fun h4 => ?_)
        · have h4 : y ≠ 0 := h4
          refine jWp.blk mt 1 ?_
          show jWp 183 72 [some (jO q), some (jI (i : Int)), some (jJ (w.1 q (25 + i))), none, some (jJ y), none, some (jI (c : Int))] [jI 0] 0 0 w _
          refine jWp.iretz mt rfl ⟨rfl, rfl⟩ rfl (Or.inl rfl) ?_
          exact ⟨rfl, _, rfl, by omega, fun h => by omega⟩
        · have h4 : y = 0 := h4
          refine jWp.blk mt 2 ?_
          show jWp 183 72 [some (jO q), some (jI (i : Int)), some (jJ (w.1 q (25 + i))), none, some (jJ y), none, some (jI (c : Int))] [jI 1] 0 0 w _
          refine jWp.iretz mt rfl ⟨rfl, rfl⟩ rfl (Or.inr rfl) ?_
          exact ⟨rfl, _, rfl, by omega, fun h => by omega⟩
      · have h3 : (c : Int) < (n : Int) := h3
        refine jWp.blk mt 5 ?_
        show _ ∧ jWp 183 33 [some (jO q), some (jI (i : Int)), some (jJ (w.1 q (25 + i))), none, some (jJ y), none, some (jI (c : Int))] [jI (17 + (c : Int)), jO q, jJ y] 0 0 w _
        refine ⟨rfl, ?_⟩
        refine jWp.lald (pc' := 34) (j := (17 + c)) mt rfl rfl (jtg hq) (by rw [b32_id (by omega) (by omega)] <;> omega) (jlt hq (by omega)) ?_
        show jWp 183 34 [some (jO q), some (jI (i : Int)), some (jJ (w.1 q (25 + i))), none, some (jJ y), none, some (jI (c : Int))] [jJ (w.1 q (17 + c)), jJ y] 0 0 w _
        refine jWp.blk mt 8 ?_
        show _ ∧ jWp 183 44 [some (jO q), some (jI (i : Int)), some (jJ (w.1 q (25 + i))), none, some (jJ y), none, some (jI (c : Int))] [jI ((29 + (4 * (i : Int))) + (c : Int)), jO q, jJ (w.1 q (17 + c)), jJ y] 0 0 w _
        refine ⟨rfl, ?_⟩
        refine jWp.lald (pc' := 45) (j := (29 + 4 * i + c)) mt rfl rfl (jtg hq) (by rw [b32_id (by omega) (by omega)]; omega) (jlt hq (by omega)) ?_
        show jWp 183 45 [some (jO q), some (jI (i : Int)), some (jJ (w.1 q (25 + i))), none, some (jJ y), none, some (jI (c : Int))] [jJ (w.1 q (29 + 4 * i + c)), jJ (w.1 q (17 + c)), jJ y] 0 0 w _
        refine jWp.blk mt 1 ?_
        show jWp 183 46 [some (jO q), some (jI (i : Int)), some (jJ (w.1 q (25 + i))), none, some (jJ y), none, some (jI (c : Int))] [jJ (w.1 q (25 + i)), jJ (w.1 q (29 + 4 * i + c)), jJ (w.1 q (17 + c)), jJ y] 0 0 w _
        refine jWp.calls (as := [jJ (w.1 q (17 + c)), jJ (w.1 q (29 + 4 * i + c)), jJ (w.1 q (25 + i))]) (rest := [jJ y]) mt rfl rfl rfl rfl ?_
        refine jCall.mono (E_powered (hst c (by omega)) (show 1 ≤ w.1 q (25 + i) ∧ w.1 q (25 + i) ≤ 1000000000 from hvi)) (fun v9 w9 h9 => ?_)
        obtain ⟨h9, p, rfl, hp⟩ := h9
        subst w9
        have hmp := zmul_n hy.1 hy.2 hp.1 hp.2 hvi.2
        show jWp 183 49 [some (jO q), some (jI (i : Int)), some (jJ (w.1 q (25 + i))), none, some (jJ y), none, some (jI (c : Int))] [jJ p, jJ y] 0 0 w _
        refine jWp.blk mt 2 ?_
        show jWp 183 51 [some (jO q), some (jI (i : Int)), some (jJ (w.1 q (25 + i))), none, some (jJ y), none, some (jI (c : Int))] [jJ (w.1 q (25 + i)), jJ (y * p)] 0 0 w _
        refine jWp.lrem (pc' := 52) mt rfl rfl (b64_id (by omega) (by omega)) (b64_id (by omega) (by omega)) (by omega) ?_
        show jWp 183 52 [some (jO q), some (jI (i : Int)), some (jJ (w.1 q (25 + i))), none, some (jJ y), none, some (jI (c : Int))] [jJ (Int.tmod (y * p) (w.1 q (25 + i)))] 0 0 w _
        refine jWp.blk mt 3 ?_
        show jWp 183 15 [some (jO q), some (jI (i : Int)), some (jJ (w.1 q (25 + i))), none, some (jJ (Int.tmod (y * p) (w.1 q (25 + i)))), none, some (jI ((c : Int) + 1))] [] 0 0 w _
        refine jWp.le (l := [some (jO q), some (jI (i : Int)), some (jJ (w.1 q (25 + i))), none, some (jJ (Int.tmod (y * p) (w.1 q (25 + i)))), none, some (jI ((c : Int) + 1))]) (by exact ⟨rfl, rfl, rfl, rfl, rfl, trivial⟩) ?_
        exact ih2 (c + 1) _ (by omega) (zmod_b hmp.1 hvi.1) (by omega)
  refine jWp.le (l := [some (jO q), some (jI (i : Int)), some (jJ (w.1 q (25 + i))), none, some (jJ (Int.tmod 1 (w.1 q (25 + i)))), none, some (jI 0)]) (by exact ⟨rfl, rfl, rfl, rfl, rfl, trivial⟩) ?_
  exact lp1 _ 0 _ (by omega) h1 (Nat.lt_succ_self _)
set_option maxHeartbeats 4000000 in
set_option maxRecDepth 20000 in
theorem E_greatest {w : jS} {q n : Nat} (hq : w.2.1 q = (101, 45)) (hS : zS (w.1 q) n) : jCall 191 [jO q] w (fun v w1 => w1 = w ∧ ∃ y, v = some (jJ y)) := by
  have mt : jtb 191 = jT191 := rfl
  have hn4 := hS.n4
  show jWp 191 0 [some (jO q), none, none, none, none] [] 0 0 w _
  refine jWp.blk mt 4 ?_
  show jWp 191 6 [some (jO q), some (jJ (-1)), none, some (jI 0), none] [] 0 0 w _
  have lp1 : ∀ (N : Nat) (i : Nat) (y : Int) (hi : i ≤ n), n - i < N → jWp 191 6 [some (jO q), some (jJ y), none, some (jI (i : Int)), none] [] 0 0 w (fun v w1 => w1 = w ∧ ∃ y, v = some (jJ y)) := by
    intro N
    induction N with
    | zero => intro i y hi hm; omega
    | succ N ih2 =>
      intro i y hi hm
      refine jWp.blk mt 1 ?_
      show jWp 191 7 [some (jO q), some (jJ y), none, some (jI (i : Int)), none] [jI (i : Int)] 0 0 w _
      refine jWp.i2l (pc' := 8) mt rfl rfl (b32_id (by omega) (by omega)) ?_
      show jWp 191 8 [some (jO q), some (jJ y), none, some (jI (i : Int)), none] [jJ (i : Int)] 0 0 w _
      refine jWp.blk mt 2 ?_
      show _ ∧ jWp 191 10 [some (jO q), some (jJ y), none, some (jI (i : Int)), none] [jI 0, jO q, jJ (i : Int)] 0 0 w _
      refine ⟨rfl, ?_⟩
      refine jWp.lald (pc' := 11) (j := 0) mt rfl rfl (jtg hq) (by decide) (jlt hq (by decide)) ?_
      rw [show (w.1 q 0) = (n : Int) from hS.n0]
      show jWp 191 11 [some (jO q), some (jJ y), none, some (jI (i : Int)), none] [jJ (n : Int), jJ (i : Int)] 0 0 w _
      refine jWp.lcmp (pc' := 15) mt rfl rfl rfl (b64_id (by omega) (by omega)) (b64_id (by omega) (by omega)) (fun h3 => ?_) (fun h3 => ?_)
      · have h3 : (n : Int) ≤ (i : Int) := h3
        refine jWp.blk mt 1 ?_
        show jWp 191 73 [some (jO q), some (jJ y), none, some (jI (i : Int)), none] [jJ y] 0 0 w _
        refine jWp.lret mt rfl ⟨rfl, rfl⟩ rfl ?_
        exact ⟨rfl, y, rfl⟩
      · have h3 : (i : Int) < (n : Int) := h3
        refine jWp.blk mt 2 ?_
        show jWp 191 18 [some (jO q), some (jJ y), none, some (jI (i : Int)), some (jI 0)] [] 0 0 w _
        have lp4 : ∀ (N : Nat) (c : Nat) (y : Int) (hc : c ≤ n), n - c < N → jWp 191 18 [some (jO q), some (jJ y), none, some (jI (i : Int)), some (jI (c : Int))] [] 0 0 w (fun v w1 => w1 = w ∧ ∃ y, v = some (jJ y)) := by
          intro N
          induction N with
          | zero => intro c y hc hm; omega
          | succ N ih5 =>
            intro c y hc hm
            have hi4 : i < n := by omega
            refine jWp.blk mt 1 ?_
            show jWp 191 20 [some (jO q), some (jJ y), none, some (jI (i : Int)), some (jI (c : Int))] [jI (c : Int)] 0 0 w _
            refine jWp.i2l (pc' := 21) mt rfl rfl (b32_id (by omega) (by omega)) ?_
            show jWp 191 21 [some (jO q), some (jJ y), none, some (jI (i : Int)), some (jI (c : Int))] [jJ (c : Int)] 0 0 w _
            refine jWp.blk mt 2 ?_
            show _ ∧ jWp 191 23 [some (jO q), some (jJ y), none, some (jI (i : Int)), some (jI (c : Int))] [jI 0, jO q, jJ (c : Int)] 0 0 w _
            refine ⟨rfl, ?_⟩
            refine jWp.lald (pc' := 24) (j := 0) mt rfl rfl (jtg hq) (by decide) (jlt hq (by decide)) ?_
            rw [show (w.1 q 0) = (n : Int) from hS.n0]
            show jWp 191 24 [some (jO q), some (jJ y), none, some (jI (i : Int)), some (jI (c : Int))] [jJ (n : Int), jJ (c : Int)] 0 0 w _
            refine jWp.lcmp (pc' := 28) mt rfl rfl rfl (b64_id (by omega) (by omega)) (b64_id (by omega) (by omega)) (fun h6 => ?_) (fun h6 => ?_)
            · have h6 : (n : Int) ≤ (c : Int) := h6
              refine jWp.blk mt 2 ?_
              show jWp 191 6 [some (jO q), some (jJ y), none, some (jI ((i : Int) + 1)), some (jI (c : Int))] [] 0 0 w _
              refine jWp.le (l := [some (jO q), some (jJ y), none, some (jI ((i : Int) + 1)), none]) (by exact ⟨rfl, rfl, rfl, trivial⟩) ?_
              exact ih2 (i + 1) y (by omega) (by omega)
            · have h6 : (c : Int) < (n : Int) := h6
              refine jWp.blk mt 8 ?_
              show _ ∧ jWp 191 38 [some (jO q), some (jJ y), none, some (jI (i : Int)), some (jI (c : Int))] [jI ((29 + (4 * (i : Int))) + (c : Int)), jO q] 0 0 w _
              refine ⟨rfl, ?_⟩
              refine jWp.lald (pc' := 39) (j := (29 + 4 * i + c)) mt rfl rfl (jtg hq) (by rw [b32_id (by omega) (by omega)]; omega) (jlt hq (by omega)) ?_
              show jWp 191 39 [some (jO q), some (jJ y), none, some (jI (i : Int)), some (jI (c : Int))] [jJ (w.1 q (29 + 4 * i + c))] 0 0 w _
              refine jWp.blk mt 1 ?_
              show jWp 191 40 [some (jO q), some (jJ y), none, some (jI (i : Int)), some (jI (c : Int))] [jJ y, jJ (w.1 q (29 + 4 * i + c))] 0 0 w _
              refine jWp.lcmp (pc' := 44) mt rfl rfl rfl rfl rfl (fun h7 => ?_) (fun h7 => ?_)
              · have h7 : (b64 (w.1 q (29 + 4 * i + c))) ≤ (b64 y) := h7
                refine jWp.blk mt 4 ?_
                show jWp 191 18 [some (jO q), some (jJ y), none, some (jI (i : Int)), some (jI ((c : Int) + 1))] [] 0 0 w _
                refine jWp.le (l := [some (jO q), some (jJ y), none, some (jI (i : Int)), some (jI ((c : Int) + 1))]) (by exact ⟨rfl, rfl, rfl, rfl, trivial⟩) ?_
                exact ih5 (c + 1) _ (by omega) (by omega)
              · have h7 : (b64 y) < (b64 (w.1 q (29 + 4 * i + c))) := h7
                refine jWp.blk mt 8 ?_
                show _ ∧ jWp 191 54 [some (jO q), some (jJ y), none, some (jI (i : Int)), some (jI (c : Int))] [jI ((29 + (4 * (i : Int))) + (c : Int)), jO q] 0 0 w _
                refine ⟨rfl, ?_⟩
                refine jWp.lald (pc' := 55) (j := (29 + 4 * i + c)) mt rfl rfl (jtg hq) (by rw [b32_id (by omega) (by omega)]; omega) (jlt hq (by omega)) ?_
                show jWp 191 55 [some (jO q), some (jJ y), none, some (jI (i : Int)), some (jI (c : Int))] [jJ (w.1 q (29 + 4 * i + c))] 0 0 w _
                refine jWp.blk mt 4 ?_
                show jWp 191 18 [some (jO q), some (jJ (w.1 q (29 + 4 * i + c))), none, some (jI (i : Int)), some (jI ((c : Int) + 1))] [] 0 0 w _
                refine jWp.le (l := [some (jO q), some (jJ (w.1 q (29 + 4 * i + c))), none, some (jI (i : Int)), some (jI ((c : Int) + 1))]) (by exact ⟨rfl, rfl, rfl, rfl, trivial⟩) ?_
                exact ih5 (c + 1) _ (by omega) (by omega)
        refine jWp.le (l := [some (jO q), some (jJ y), none, some (jI (i : Int)), some (jI 0)]) (by exact ⟨rfl, rfl, rfl, rfl, trivial⟩) ?_
        exact lp4 _ 0 y (by omega) (Nat.lt_succ_self _)
  refine jWp.le (l := [some (jO q), some (jJ (-1)), none, some (jI 0), none]) (by exact ⟨rfl, rfl, rfl, trivial⟩) ?_
  exact lp1 _ 0 _ (by omega) (Nat.lt_succ_self _)
/-- two places changed -/
def zsw (i j x : Nat) : Nat := if x = i then j else if x = j then i else x
theorem zsw_i {i j : Nat} : zsw i j i = j := if_pos rfl
theorem zsw_j {i j : Nat} : zsw i j j = i := by
  unfold zsw
  by_cases h : j = i
  · rw [if_pos h, h]
  · rw [if_neg h, if_pos rfl]
theorem zsw_n {i j x : Nat} (h1 : x ≠ i) (h2 : x ≠ j) : zsw i j x = x := by
  unfold zsw
  rw [if_neg h1, if_neg h2]
/-- a change of two cells -/
def zch (T : Nat → Int) (x y : Nat) : Nat → Int := zset (zset T x (T y)) y (T x)
theorem zch_x {T : Nat → Int} {x y : Nat} : zch T x y x = T y := by
  unfold zch
  by_cases h : x = y
  · subst h
    exact zset_s
  · rw [zset_n h, zset_s]
theorem zch_y {T : Nat → Int} {x y : Nat} : zch T x y y = T x := zset_s
theorem zch_n {T : Nat → Int} {x y j : Nat} (h1 : j ≠ x) (h2 : j ≠ y) : zch T x y j = T j := by
  unfold zch
  rw [zset_n h2, zset_n h1]
