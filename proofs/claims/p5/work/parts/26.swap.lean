set_option maxHeartbeats 4000000 in
set_option maxRecDepth 20000 in
theorem E_isWhole {w : jS} {q n i : Nat} (hq : w.2.1 q = (101, 45)) (hS : zS (w.1 q) n) (hst : ∀ c, c < 4 → 0 ≤ w.1 q (17 + c) ∧ w.1 q (17 + c) ≤ 9) (hi : i < 4) : jCall 183 [jO q, jI (i : Int)] w (fun v w1 => w1 = w ∧ ∃ y, v = some (jI y) ∧ (y = 0 ∨ y = 1) ∧ (w.1 q (25 + i) = 1 → y = 1)) := by
  have mt : jtb 183 = jT183 := rfl
  have hn4 := hS.n4
  have hvi0 := hS.v i hi
  have hvi : 1 ≤ w.1 q (25 + i) ∧ w.1 q (25 + i) ≤ 1000000000 := hvi0.2.2
  have h1 := zmod_b (x := 1) (by omega) hvi.1
  show jWp 183 0 [some (jO q), some (jI (i : Int)), none, none, none, none, none] [] 0 0 w _
  refine jWp.blk mt 4 ?_
  show _ ∧ jWp 183 5 [some (jO q), some (jI (i : Int)), none, none, none, none, none] [jI (25 + (i : Int)), jO q] 0 0 w _
  refine ⟨rfl, ?_⟩
  refine jWp.lald (pc' := 6) (j := (25 + i)) mt rfl rfl (jtg hq) (by rw [b32_id (by omega) (by omega)] <;> omega) (jlt hq (by omega)) ?_
  show jWp 183 6 [some (jO q), some (jI (i : Int)), none, none, none, none, none] [jJ (w.1 q (25 + i))] 0 0 w _
  refine jWp.blk mt 3 ?_
  show jWp 183 9 [some (jO q), some (jI (i : Int)), some (jJ (w.1 q (25 + i))), none, none, none, none] [jJ (w.1 q (25 + i)), jJ 1] 0 0 w _
  refine jWp.lrem (pc' := 10) mt rfl rfl (show b64 1 = 1 by decide) (b64_id (by omega) (by omega)) (by omega) ?_
  show jWp 183 10 [some (jO q), some (jI (i : Int)), some (jJ (w.1 q (25 + i))), none, none, none, none] [jJ (Int.tmod 1 (w.1 q (25 + i)))] 0 0 w _
  refine jWp.blk mt 3 ?_
  show jWp 183 15 [some (jO q), some (jI (i : Int)), some (jJ (w.1 q (25 + i))), none, some (jJ (Int.tmod 1 (w.1 q (25 + i)))), none, some (jI 0)] [] 0 0 w _
  have lp1 : ∀ (N : Nat) (c : Nat) (y : Int) (hc : c ≤ n) (hy : 0 ≤ y ∧ y < w.1 q (25 + i)), n - c < N → jWp 183 15 [some (jO q), some (jI (i : Int)), some (jJ (w.1 q (25 + i))), none, some (jJ y), none, some (jI (c : Int))] [] 0 0 w (fun v w1 => w1 = w ∧ ∃ y, v = some (jI y) ∧ (y = 0 ∨ y = 1) ∧ (w.1 q (25 + i) = 1 → y = 1)) := by
    intro N
    induction N with
    | zero => intro c y hc hy hm; omega
    | succ N ih2 =>
      intro c y hc hy hm
      refine jWp.blk mt 1 ?_
      show jWp 183 17 [some (jO q), some (jI (i : Int)), some (jJ (w.1 q (25 + i))), none, some (jJ y), none, some (jI (c : Int))] [jI (c : Int)] 0 0 w _
      refine jWp.i2l (pc' := 18) mt rfl rfl (b32_id (by omega) (by omega)) ?_
      show jWp 183 18 [some (jO q), some (jI (i : Int)), some (jJ (w.1 q (25 + i))), none, some (jJ y), none, some (jI (c : Int))] [jJ (c : Int)] 0 0 w _
      refine jWp.blk mt 2 ?_
      show _ ∧ jWp 183 20 [some (jO q), some (jI (i : Int)), some (jJ (w.1 q (25 + i))), none, some (jJ y), none, some (jI (c : Int))] [jI 0, jO q, jJ (c : Int)] 0 0 w _
      refine ⟨rfl, ?_⟩
      refine jWp.lald (pc' := 21) (j := 0) mt rfl rfl (jtg hq) (by decide) (jlt hq (by decide)) ?_
      rw [show (w.1 q 0) = (n : Int) from hS.n0]
      show jWp 183 21 [some (jO q), some (jI (i : Int)), some (jJ (w.1 q (25 + i))), none, some (jJ y), none, some (jI (c : Int))] [jJ (n : Int), jJ (c : Int)] 0 0 w _
      refine jWp.lcmp (pc' := 25) mt rfl rfl rfl (b64_id (by omega) (by omega)) (b64_id (by omega) (by omega)) (fun h3 => ?_) (fun h3 => ?_)
      · have h3 : (n : Int) ≤ (c : Int) := h3
        refine jWp.blk mt 2 ?_
        show jWp 183 63 [some (jO q), some (jI (i : Int)), some (jJ (w.1 q (25 + i))), none, some (jJ y), none, some (jI (c : Int))] [jJ 0, jJ y] 0 0 w _
        refine jWp.lcmp (pc' := 67) mt rfl rfl rfl (b64_id (by omega) (by omega)) (show b64 0 = 0 by decide) (fun h4 => ?_) (fun h4 => ?_)
        · have h4 : y ≠ 0 := h4
          refine jWp.blk mt 1 ?_
          show jWp 183 72 [some (jO q), some (jI (i : Int)), some (jJ (w.1 q (25 + i))), none, some (jJ y), none, some (jI (c : Int))] [jI 0] 0 0 w _
          refine jWp.iretz mt rfl ⟨rfl, rfl⟩ rfl (Or.inl rfl) ?_
          exact ⟨rfl, _, rfl, by omega, fun h => by omega⟩
        · have h4 : y = 0 := h4
          refine jWp.blk mt 2 ?_
          show jWp 183 72 [some (jO q), some (jI (i : Int)), some (jJ (w.1 q (25 + i))), none, some (jJ y), none, some (jI (c : Int))] [jI 1] 0 0 w _
          refine jWp.iretz mt rfl ⟨rfl, rfl⟩ rfl (Or.inr rfl) ?_
          exact ⟨rfl, _, rfl, by omega, fun h => by omega⟩
      · have h3 : (c : Int) < (n : Int) := h3
        refine jWp.blk mt 5 ?_
        show _ ∧ jWp 183 33 [some (jO q), some (jI (i : Int)), some (jJ (w.1 q (25 + i))), none, some (jJ y), none, some (jI (c : Int))] [jI (17 + (c : Int)), jO q, jJ y] 0 0 w _
        refine ⟨rfl, ?_⟩
        refine jWp.lald (pc' := 34) (j := (17 + c)) mt rfl rfl (jtg hq) (by rw [b32_id (by omega) (by omega)] <;> omega) (jlt hq (by omega)) ?_
        show jWp 183 34 [some (jO q), some (jI (i : Int)), some (jJ (w.1 q (25 + i))), none, some (jJ y), none, some (jI (c : Int))] [jJ (w.1 q (17 + c)), jJ y] 0 0 w _
        refine jWp.blk mt 8 ?_
        show _ ∧ jWp 183 44 [some (jO q), some (jI (i : Int)), some (jJ (w.1 q (25 + i))), none, some (jJ y), none, some (jI (c : Int))] [jI ((29 + (4 * (i : Int))) + (c : Int)), jO q, jJ (w.1 q (17 + c)), jJ y] 0 0 w _
        refine ⟨rfl, ?_⟩
        refine jWp.lald (pc' := 45) (j := (29 + 4 * i + c)) mt rfl rfl (jtg hq) (by rw [b32_id (by omega) (by omega)]; omega) (jlt hq (by omega)) ?_
        show jWp 183 45 [some (jO q), some (jI (i : Int)), some (jJ (w.1 q (25 + i))), none, some (jJ y), none, some (jI (c : Int))] [jJ (w.1 q (29 + 4 * i + c)), jJ (w.1 q (17 + c)), jJ y] 0 0 w _
        refine jWp.blk mt 1 ?_
        show jWp 183 46 [some (jO q), some (jI (i : Int)), some (jJ (w.1 q (25 + i))), none, some (jJ y), none, some (jI (c : Int))] [jJ (w.1 q (25 + i)), jJ (w.1 q (29 + 4 * i + c)), jJ (w.1 q (17 + c)), jJ y] 0 0 w _
        refine jWp.calls (as := [jJ (w.1 q (17 + c)), jJ (w.1 q (29 + 4 * i + c)), jJ (w.1 q (25 + i))]) (rest := [jJ y]) mt rfl rfl rfl rfl ?_
        refine jCall.mono (E_powered (hst c (by omega)) (show 1 ≤ w.1 q (25 + i) ∧ w.1 q (25 + i) ≤ 1000000000 from hvi)) (fun v9 w9 h9 => ?_)
        obtain ⟨h9, p, rfl, hp⟩ := h9
        subst w9
        have hmp := zmul_n hy.1 hy.2 hp.1 hp.2 hvi.2
        show jWp 183 49 [some (jO q), some (jI (i : Int)), some (jJ (w.1 q (25 + i))), none, some (jJ y), none, some (jI (c : Int))] [jJ p, jJ y] 0 0 w _
        refine jWp.blk mt 2 ?_
        show jWp 183 51 [some (jO q), some (jI (i : Int)), some (jJ (w.1 q (25 + i))), none, some (jJ y), none, some (jI (c : Int))] [jJ (w.1 q (25 + i)), jJ (y * p)] 0 0 w _
        refine jWp.lrem (pc' := 52) mt rfl rfl (b64_id (by omega) (by omega)) (b64_id (by omega) (by omega)) (by omega) ?_
        show jWp 183 52 [some (jO q), some (jI (i : Int)), some (jJ (w.1 q (25 + i))), none, some (jJ y), none, some (jI (c : Int))] [jJ (Int.tmod (y * p) (w.1 q (25 + i)))] 0 0 w _
        refine jWp.blk mt 3 ?_
        show jWp 183 15 [some (jO q), some (jI (i : Int)), some (jJ (w.1 q (25 + i))), none, some (jJ (Int.tmod (y * p) (w.1 q (25 + i)))), none, some (jI ((c : Int) + 1))] [] 0 0 w _
        refine jWp.le (l := [some (jO q), some (jI (i : Int)), some (jJ (w.1 q (25 + i))), none, some (jJ (Int.tmod (y * p) (w.1 q (25 + i)))), none, some (jI ((c : Int) + 1))]) (by exact ⟨rfl, rfl, rfl, rfl, rfl, trivial⟩) ?_
        exact ih2 (c + 1) _ (by omega) (zmod_b hmp.1 hvi.1) (by omega)
  refine jWp.le (l := [some (jO q), some (jI (i : Int)), some (jJ (w.1 q (25 + i))), none, some (jJ (Int.tmod 1 (w.1 q (25 + i)))), none, some (jI 0)]) (by exact ⟨rfl, rfl, rfl, rfl, rfl, trivial⟩) ?_
  exact lp1 _ 0 _ (by omega) h1 (Nat.lt_succ_self _)
/-- the greatest degree as the reference looks for it -/
def zgi (q : Nat → Int) (i : Nat) : Nat → Int → Int
  | 0, y => y
  | c + 1, y => if b64 (zgi q i c y) < b64 (q (29 + 4 * i + c)) then q (29 + 4 * i + c) else zgi q i c y
def zgo (q : Nat → Int) (n : Nat) : Nat → Int
  | 0 => -1
  | i + 1 => zgi q i n (zgo q n i)
theorem zgi_t {q : Nat → Int} {i c : Nat} {y : Int} (h : b64 (zgi q i c y) < b64 (q (29 + 4 * i + c))) : zgi q i (c + 1) y = q (29 + 4 * i + c) := if_pos h
theorem zgi_f {q : Nat → Int} {i c : Nat} {y : Int} (h : ¬ b64 (zgi q i c y) < b64 (q (29 + 4 * i + c))) : zgi q i (c + 1) y = zgi q i c y := if_neg h
set_option maxHeartbeats 4000000 in
set_option maxRecDepth 20000 in
theorem E_greatest {w : jS} {q n : Nat} (hq : w.2.1 q = (101, 45)) (hS : zS (w.1 q) n) : jCall 191 [jO q] w (jvj (zgo (w.1 q) n n) w) := by
  have mt : jtb 191 = jT191 := rfl
  have hn4 := hS.n4
  show jWp 191 0 [some (jO q), none, none, none, none] [] 0 0 w _
  refine jWp.blk mt 4 ?_
  show jWp 191 6 [some (jO q), some (jJ (-1)), none, some (jI 0), none] [] 0 0 w _
  have lp1 : ∀ (N : Nat) (i : Nat) (y : Int) (hi : i ≤ n) (hy : y = zgo (w.1 q) n i), n - i < N → jWp 191 6 [some (jO q), some (jJ y), none, some (jI (i : Int)), none] [] 0 0 w (jvj (zgo (w.1 q) n n) w) := by
    intro N
    induction N with
    | zero => intro i y hi hy hm; omega
    | succ N ih2 =>
      intro i y hi hy hm
      refine jWp.blk mt 1 ?_
      show jWp 191 7 [some (jO q), some (jJ y), none, some (jI (i : Int)), none] [jI (i : Int)] 0 0 w _
      refine jWp.i2l (pc' := 8) mt rfl rfl (b32_id (by omega) (by omega)) ?_
      show jWp 191 8 [some (jO q), some (jJ y), none, some (jI (i : Int)), none] [jJ (i : Int)] 0 0 w _
      refine jWp.blk mt 2 ?_
      show _ ∧ jWp 191 10 [some (jO q), some (jJ y), none, some (jI (i : Int)), none] [jI 0, jO q, jJ (i : Int)] 0 0 w _
      refine ⟨rfl, ?_⟩
      refine jWp.lald (pc' := 11) (j := 0) mt rfl rfl (jtg hq) (by decide) (jlt hq (by decide)) ?_
      rw [show (w.1 q 0) = (n : Int) from hS.n0]
      show jWp 191 11 [some (jO q), some (jJ y), none, some (jI (i : Int)), none] [jJ (n : Int), jJ (i : Int)] 0 0 w _
      refine jWp.lcmp (pc' := 15) mt rfl rfl rfl (b64_id (by omega) (by omega)) (b64_id (by omega) (by omega)) (fun h3 => ?_) (fun h3 => ?_)
      · have h3 : (n : Int) ≤ (i : Int) := h3
        refine jWp.blk mt 1 ?_
        show jWp 191 73 [some (jO q), some (jJ y), none, some (jI (i : Int)), none] [jJ y] 0 0 w _
        refine jWp.lret mt rfl ⟨rfl, rfl⟩ rfl ?_
        refine ⟨?_, rfl⟩
        rw [hy, show i = n by omega]
      · have h3 : (i : Int) < (n : Int) := h3
        refine jWp.blk mt 2 ?_
        show jWp 191 18 [some (jO q), some (jJ y), none, some (jI (i : Int)), some (jI 0)] [] 0 0 w _
        have lp4 : ∀ (N : Nat) (c : Nat) (y : Int) (hc : c ≤ n) (hc1 : y = zgi (w.1 q) i c (zgo (w.1 q) n i)), n - c < N → jWp 191 18 [some (jO q), some (jJ y), none, some (jI (i : Int)), some (jI (c : Int))] [] 0 0 w (jvj (zgo (w.1 q) n n) w) := by
          intro N
          induction N with
          | zero => intro c y hc hc1 hm; omega
          | succ N ih5 =>
            intro c y hc hc1 hm
            have hi4 : i < n := by omega
            refine jWp.blk mt 1 ?_
            show jWp 191 20 [some (jO q), some (jJ y), none, some (jI (i : Int)), some (jI (c : Int))] [jI (c : Int)] 0 0 w _
            refine jWp.i2l (pc' := 21) mt rfl rfl (b32_id (by omega) (by omega)) ?_
            show jWp 191 21 [some (jO q), some (jJ y), none, some (jI (i : Int)), some (jI (c : Int))] [jJ (c : Int)] 0 0 w _
            refine jWp.blk mt 2 ?_
            show _ ∧ jWp 191 23 [some (jO q), some (jJ y), none, some (jI (i : Int)), some (jI (c : Int))] [jI 0, jO q, jJ (c : Int)] 0 0 w _
            refine ⟨rfl, ?_⟩
            refine jWp.lald (pc' := 24) (j := 0) mt rfl rfl (jtg hq) (by decide) (jlt hq (by decide)) ?_
            rw [show (w.1 q 0) = (n : Int) from hS.n0]
            show jWp 191 24 [some (jO q), some (jJ y), none, some (jI (i : Int)), some (jI (c : Int))] [jJ (n : Int), jJ (c : Int)] 0 0 w _
            refine jWp.lcmp (pc' := 28) mt rfl rfl rfl (b64_id (by omega) (by omega)) (b64_id (by omega) (by omega)) (fun h6 => ?_) (fun h6 => ?_)
            · have h6 : (n : Int) ≤ (c : Int) := h6
              refine jWp.blk mt 2 ?_
              show jWp 191 6 [some (jO q), some (jJ y), none, some (jI ((i : Int) + 1)), some (jI (c : Int))] [] 0 0 w _
              refine jWp.le (l := [some (jO q), some (jJ y), none, some (jI ((i : Int) + 1)), none]) (by exact ⟨rfl, rfl, rfl, trivial⟩) ?_
              exact ih2 (i + 1) y (by omega) (by rw [show c = n by omega] at hc1; exact hc1) (by omega)
            · have h6 : (c : Int) < (n : Int) := h6
              refine jWp.blk mt 8 ?_
              show _ ∧ jWp 191 38 [some (jO q), some (jJ y), none, some (jI (i : Int)), some (jI (c : Int))] [jI ((29 + (4 * (i : Int))) + (c : Int)), jO q] 0 0 w _
              refine ⟨rfl, ?_⟩
              refine jWp.lald (pc' := 39) (j := (29 + 4 * i + c)) mt rfl rfl (jtg hq) (by rw [b32_id (by omega) (by omega)]; omega) (jlt hq (by omega)) ?_
              show jWp 191 39 [some (jO q), some (jJ y), none, some (jI (i : Int)), some (jI (c : Int))] [jJ (w.1 q (29 + 4 * i + c))] 0 0 w _
              refine jWp.blk mt 1 ?_
              show jWp 191 40 [some (jO q), some (jJ y), none, some (jI (i : Int)), some (jI (c : Int))] [jJ y, jJ (w.1 q (29 + 4 * i + c))] 0 0 w _
              refine jWp.lcmp (pc' := 44) mt rfl rfl rfl rfl rfl (fun h7 => ?_) (fun h7 => ?_)
              · have h7 : (b64 (w.1 q (29 + 4 * i + c))) ≤ (b64 y) := h7
                refine jWp.blk mt 4 ?_
                show jWp 191 18 [some (jO q), some (jJ y), none, some (jI (i : Int)), some (jI ((c : Int) + 1))] [] 0 0 w _
                refine jWp.le (l := [some (jO q), some (jJ y), none, some (jI (i : Int)), some (jI ((c : Int) + 1))]) (by exact ⟨rfl, rfl, rfl, rfl, trivial⟩) ?_
                exact ih5 (c + 1) _ (by omega) (by subst hc1; first | (rw [zgi_t (by omega)]; done) | (rw [zgi_f (by omega)]; done)) (by omega)
              · have h7 : (b64 y) < (b64 (w.1 q (29 + 4 * i + c))) := h7
                refine jWp.blk mt 8 ?_
                show _ ∧ jWp 191 54 [some (jO q), some (jJ y), none, some (jI (i : Int)), some (jI (c : Int))] [jI ((29 + (4 * (i : Int))) + (c : Int)), jO q] 0 0 w _
                refine ⟨rfl, ?_⟩
                refine jWp.lald (pc' := 55) (j := (29 + 4 * i + c)) mt rfl rfl (jtg hq) (by rw [b32_id (by omega) (by omega)]; omega) (jlt hq (by omega)) ?_
                show jWp 191 55 [some (jO q), some (jJ y), none, some (jI (i : Int)), some (jI (c : Int))] [jJ (w.1 q (29 + 4 * i + c))] 0 0 w _
                refine jWp.blk mt 4 ?_
                show jWp 191 18 [some (jO q), some (jJ (w.1 q (29 + 4 * i + c))), none, some (jI (i : Int)), some (jI ((c : Int) + 1))] [] 0 0 w _
                refine jWp.le (l := [some (jO q), some (jJ (w.1 q (29 + 4 * i + c))), none, some (jI (i : Int)), some (jI ((c : Int) + 1))]) (by exact ⟨rfl, rfl, rfl, rfl, trivial⟩) ?_
                exact ih5 (c + 1) _ (by omega) (by subst hc1; first | (rw [zgi_t (by omega)]; done) | (rw [zgi_f (by omega)]; done)) (by omega)
        refine jWp.le (l := [some (jO q), some (jJ y), none, some (jI (i : Int)), some (jI 0)]) (by exact ⟨rfl, rfl, rfl, rfl, trivial⟩) ?_
        exact lp4 _ 0 y (by omega) hy (Nat.lt_succ_self _)
  refine jWp.le (l := [some (jO q), some (jJ (-1)), none, some (jI 0), none]) (by exact ⟨rfl, rfl, rfl, trivial⟩) ?_
  exact lp1 _ 0 _ (by omega) rfl (Nat.lt_succ_self _)
/-- two places changed -/
def zsw (i j x : Nat) : Nat := if x = i then j else if x = j then i else x
theorem zsw_i {i j : Nat} : zsw i j i = j := if_pos rfl
theorem zsw_j {i j : Nat} : zsw i j j = i := by
  unfold zsw
  by_cases h : j = i
  · rw [if_pos h, h]
  · rw [if_neg h, if_pos rfl]
theorem zsw_n {i j x : Nat} (h1 : x ≠ i) (h2 : x ≠ j) : zsw i j x = x := by
  unfold zsw
  rw [if_neg h1, if_neg h2]
/-- a change of two cells -/
def zch (T : Nat → Int) (x y : Nat) : Nat → Int := zset (zset T x (T y)) y (T x)
theorem zch_x {T : Nat → Int} {x y : Nat} : zch T x y x = T y := by
  unfold zch
  by_cases h : x = y
  · subst h
    exact zset_s
  · rw [zset_n h, zset_s]
theorem zch_y {T : Nat → Int} {x y : Nat} : zch T x y y = T x := zset_s
theorem zch_n {T : Nat → Int} {x y j : Nat} (h1 : j ≠ x) (h2 : j ≠ y) : zch T x y j = T j := by
  unfold zch
  rw [zset_n h2, zset_n h1]
theorem E_chg {w : jS} {q x y : Nat} {X Y : Int} {T : Nat → Int} (hq : w.2.1 q = (101, 45)) (hx : x < 45) (hy : y < 45) (eX : X = (x : Int)) (eY : Y = (y : Int)) : jCall 203 [jO q, jI X, jI Y] (kA w q T) (fun v w1 => v = none ∧ w1 = kA w q (zch T x y)) := by
  subst eX
  subst eY
  refine jCall.mono (E_changes (w := kA w q T) hq hx hy) (fun v w1 h => ⟨h.1, h.2.trans (kA_A.trans ?_)⟩)
  unfold zch
  rw [kA_s, kA_s, show (kA w q T).1 q = T from funext fun _ => kA_s]
theorem E_chg0 {w : jS} {q x y : Nat} {X Y : Int} (hq : w.2.1 q = (101, 45)) (hx : x < 45) (hy : y < 45) (eX : X = (x : Int)) (eY : Y = (y : Int)) : jCall 203 [jO q, jI X, jI Y] w (fun v w1 => v = none ∧ w1 = kA w q (zch (w.1 q) x y)) := by
  subst eX
  subst eY
  exact E_changes hq hx hy
theorem zsw_r {B : Nat} {T q : Nat → Int} {i j k : Nat} (hi : i < 4) (hj : j < 4) (hk : k < 4) (h : ∀ a b, a < 4 → b < 4 → T (B + (4 * a + b)) = if b < k then q (B + (4 * zsw i j a + b)) else q (B + (4 * a + b))) : ∀ a b, a < 4 → b < 4 → zch T (B + (4 * i + k)) (B + (4 * j + k)) (B + (4 * a + b)) = if b < k + 1 then q (B + (4 * zsw i j a + b)) else q (B + (4 * a + b)) := by
  intro a b ha hb
  by_cases e : b = k
  · subst e
    rw [if_pos (by omega)]
    by_cases e1 : a = i
    · subst e1
      rw [zch_x, h j b hj hb, if_neg (by omega), zsw_i]
    · by_cases e2 : a = j
      · subst e2
        rw [zch_y, h i b hi hb, if_neg (by omega), zsw_j]
      · rw [zch_n (by omega) (by omega), h a b ha hb, if_neg (by omega), zsw_n e1 e2]
  · rw [zch_n (by omega) (by omega), h a b ha hb]
    by_cases e1 : b < k
    · rw [if_pos e1, if_pos (by omega)]
    · rw [if_neg e1, if_neg (by omega)]
theorem zsw_c {B : Nat} {T q : Nat → Int} {i j k : Nat} (hi : i < 4) (hj : j < 4) (hk : k < 4) (h : ∀ a b, a < 4 → b < 4 → T (B + (4 * a + b)) = if a < k then q (B + (4 * zsw i j a + zsw i j b)) else q (B + (4 * zsw i j a + b))) : ∀ a b, a < 4 → b < 4 → zch T (B + (4 * k + i)) (B + (4 * k + j)) (B + (4 * a + b)) = if a < k + 1 then q (B + (4 * zsw i j a + zsw i j b)) else q (B + (4 * zsw i j a + b)) := by
  intro a b ha hb
  by_cases e : a = k
  · subst e
    rw [if_pos (by omega)]
    by_cases e1 : b = i
    · subst e1
      rw [zch_x, h a j ha hj, if_neg (by omega), zsw_i]
    · by_cases e2 : b = j
      · subst e2
        rw [zch_y, h a i ha hi, if_neg (by omega), zsw_j]
      · rw [zch_n (by omega) (by omega), h a b ha hb, if_neg (by omega), zsw_n e1 e2]
  · rw [zch_n (by omega) (by omega), h a b ha hb]
    by_cases e1 : a < k
    · rw [if_pos e1, if_pos (by omega)]
    · rw [if_neg e1, if_neg (by omega)]
theorem zsw_v {T q : Nat → Int} {i j b : Nat} (hi : i < 4) (hj : j < 4) (h : ∀ x, x < 4 → T (b + x) = q (b + x)) : ∀ x, x < 4 → zch T (b + i) (b + j) (b + x) = q (b + zsw i j x) := by
  intro x hx
  by_cases e1 : x = i
  · subst e1
    rw [zch_x, h j hj, zsw_i]
  · by_cases e2 : x = j
    · subst e2
      rw [zch_y, h i hi, zsw_j]
    · rw [zch_n (by omega) (by omega), h x hx, zsw_n e1 e2]
/-- two letters changed -/
def zswp (q S : Nat → Int) (i j : Nat) : Prop := S 0 = q 0 ∧ (∀ x, x < 4 → S (17 + x) = q (17 + zsw i j x) ∧ S (21 + x) = q (21 + zsw i j x) ∧ S (25 + x) = q (25 + zsw i j x)) ∧ (∀ a b, a < 4 → b < 4 → S (1 + (4 * a + b)) = q (1 + (4 * zsw i j a + zsw i j b))) ∧ ∀ a b, a < 4 → b < 4 → S (29 + (4 * a + b)) = q (29 + (4 * zsw i j a + zsw i j b))
set_option maxHeartbeats 4000000 in
set_option maxRecDepth 20000 in
theorem E_swaps {w : jS} {q i j : Nat} (hq : w.2.1 q = (101, 45)) (hi : i < 4) (hj : j < 4) : jCall 204 [jO q, jI (i : Int), jI (j : Int)] w (fun v w1 => v = none ∧ ∃ S, w1 = kA w q S ∧ zswp (w.1 q) S i j) := by
  have mt : jtb 204 = jT204 := rfl
  show jWp 204 0 [some (jO q), some (jI (i : Int)), some (jI (j : Int)), none] [] 0 0 w _
  refine jWp.blk mt 7 ?_
  show _ ∧ jWp 204 9 [some (jO q), some (jI (i : Int)), some (jI (j : Int)), none] [jI (17 + (j : Int)), jI (17 + (i : Int)), jO q] 0 0 w _
  refine ⟨rfl, ?_⟩
  refine jWp.calls (as := [jO q, jI (17 + (i : Int)), jI (17 + (j : Int))]) (rest := []) mt rfl rfl rfl rfl ?_
  refine jCall.mono (E_chg0 (x := (17 + i)) (y := (17 + j)) hq (by omega) (by omega) (by omega) (by omega)) (fun v9 w9 h9 => ?_)
  obtain ⟨rfl, h9⟩ := h9
  subst h9
  show jWp 204 12 [some (jO q), some (jI (i : Int)), some (jI (j : Int)), none] [] 0 0 (kA w q (zch (w.1 q) (17 + i) (17 + j))) _
  refine jWp.blk mt 7 ?_
  show _ ∧ jWp 204 21 [some (jO q), some (jI (i : Int)), some (jI (j : Int)), none] [jI (21 + (j : Int)), jI (21 + (i : Int)), jO q] 0 0 (kA w q (zch (w.1 q) (17 + i) (17 + j))) _
  refine ⟨rfl, ?_⟩
  refine jWp.calls (as := [jO q, jI (21 + (i : Int)), jI (21 + (j : Int))]) (rest := []) mt rfl rfl rfl rfl ?_
  refine jCall.mono (E_chg (x := (21 + i)) (y := (21 + j)) hq (by omega) (by omega) (by omega) (by omega)) (fun v9 w9 h9 => ?_)
  obtain ⟨rfl, h9⟩ := h9
  subst h9
  show jWp 204 24 [some (jO q), some (jI (i : Int)), some (jI (j : Int)), none] [] 0 0 (kA w q (zch (zch (w.1 q) (17 + i) (17 + j)) (21 + i) (21 + j))) _
  refine jWp.blk mt 7 ?_
  show _ ∧ jWp 204 33 [some (jO q), some (jI (i : Int)), some (jI (j : Int)), none] [jI (25 + (j : Int)), jI (25 + (i : Int)), jO q] 0 0 (kA w q (zch (zch (w.1 q) (17 + i) (17 + j)) (21 + i) (21 + j))) _
  refine ⟨rfl, ?_⟩
  refine jWp.calls (as := [jO q, jI (25 + (i : Int)), jI (25 + (j : Int))]) (rest := []) mt rfl rfl rfl rfl ?_
  refine jCall.mono (E_chg (x := (25 + i)) (y := (25 + j)) hq (by omega) (by omega) (by omega) (by omega)) (fun v9 w9 h9 => ?_)
  obtain ⟨rfl, h9⟩ := h9
  subst h9
  show jWp 204 36 [some (jO q), some (jI (i : Int)), some (jI (j : Int)), none] [] 0 0 (kA w q (zch (zch (zch (w.1 q) (17 + i) (17 + j)) (21 + i) (21 + j)) (25 + i) (25 + j))) _
  refine jWp.blk mt 2 ?_
  show jWp 204 38 [some (jO q), some (jI (i : Int)), some (jI (j : Int)), some (jI 0)] [] 0 0 (kA w q (zch (zch (zch (w.1 q) (17 + i) (17 + j)) (21 + i) (21 + j)) (25 + i) (25 + j))) _
  have lp1 : ∀ (N : Nat) (k : Nat) (T : Nat → Int) (hk : k ≤ 4) (h0 : T 0 = w.1 q 0) (hv : ∀ x, x < 4 → T (17 + x) = w.1 q (17 + zsw i j x) ∧ T (21 + x) = w.1 q (21 + zsw i j x) ∧ T (25 + x) = w.1 q (25 + zsw i j x)) (hr : ∀ a b, a < 4 → b < 4 → T (1 + (4 * a + b)) = if b < k then w.1 q (1 + (4 * zsw i j a + b)) else w.1 q (1 + (4 * a + b))) (hd : ∀ a b, a < 4 → b < 4 → T (29 + (4 * a + b)) = if b < k then w.1 q (29 + (4 * zsw i j a + b)) else w.1 q (29 + (4 * a + b))), 4 - k < N → jWp 204 38 [some (jO q), some (jI (i : Int)), some (jI (j : Int)), some (jI (k : Int))] [] 0 0 (kA w q T) (fun v w1 => v = none ∧ ∃ S, w1 = kA w q S ∧ zswp (w.1 q) S i j) := by
    intro N
    induction N with
    | zero => intro k T hk h0 hv hr hd hm; omega
    | succ N ih2 =>
      intro k T hk h0 hv hr hd hm
      refine jWp.blk mt 2 ?_
      show jWp 204 40 [some (jO q), some (jI (i : Int)), some (jI (j : Int)), some (jI (k : Int))] [jI 4, jI (k : Int)] 0 0 (kA w q T) _
      refine jWp.icmp (pc' := 43) mt rfl rfl (b32_id (by omega) (by omega)) (show b32 4 = 4 by decide) (fun h3 => ?_) (fun h3 => ?_)
      · have h3 : 4 ≤ (k : Int) := h3
        refine jWp.blk mt 2 ?_
        show jWp 204 89 [some (jO q), some (jI (i : Int)), some (jI (j : Int)), some (jI 0)] [] 0 0 (kA w q T) _
        have lp4 : ∀ (N : Nat) (k : Nat) (T : Nat → Int) (hk : k ≤ 4) (h0 : T 0 = w.1 q 0) (hv : ∀ x, x < 4 → T (17 + x) = w.1 q (17 + zsw i j x) ∧ T (21 + x) = w.1 q (21 + zsw i j x) ∧ T (25 + x) = w.1 q (25 + zsw i j x)) (hr : ∀ a b, a < 4 → b < 4 → T (1 + (4 * a + b)) = if a < k then w.1 q (1 + (4 * zsw i j a + zsw i j b)) else w.1 q (1 + (4 * zsw i j a + b))) (hd : ∀ a b, a < 4 → b < 4 → T (29 + (4 * a + b)) = if a < k then w.1 q (29 + (4 * zsw i j a + zsw i j b)) else w.1 q (29 + (4 * zsw i j a + b))), 4 - k < N → jWp 204 89 [some (jO q), some (jI (i : Int)), some (jI (j : Int)), some (jI (k : Int))] [] 0 0 (kA w q T) (fun v w1 => v = none ∧ ∃ S, w1 = kA w q S ∧ zswp (w.1 q) S i j) := by
          intro N
          induction N with
          | zero => intro k T hk h0 hv hr hd hm; omega
          | succ N ih5 =>
            intro k T hk h0 hv hr hd hm
            refine jWp.blk mt 2 ?_
            show jWp 204 91 [some (jO q), some (jI (i : Int)), some (jI (j : Int)), some (jI (k : Int))] [jI 4, jI (k : Int)] 0 0 (kA w q T) _
            refine jWp.icmp (pc' := 94) mt rfl rfl (b32_id (by omega) (by omega)) (show b32 4 = 4 by decide) (fun h6 => ?_) (fun h6 => ?_)
            · have h6 : 4 ≤ (k : Int) := h6
              refine jWp.vret mt rfl ⟨rfl, rfl⟩ rfl ?_
              exact ⟨rfl, T, rfl, h0, hv, fun a b ha hb => by rw [hr a b ha hb, if_pos (by omega)], fun a b ha hb => by rw [hd a b ha hb, if_pos (by omega)]⟩
            · have h6 : (k : Int) < 4 := h6
              refine jWp.blk mt 15 ?_
              show _ ∧ jWp 204 109 [some (jO q), some (jI (i : Int)), some (jI (j : Int)), some (jI (k : Int))] [jI ((1 + (4 * (k : Int))) + (j : Int)), jI ((1 + (4 * (k : Int))) + (i : Int)), jO q] 0 0 (kA w q T) _
              refine ⟨rfl, ?_⟩
              refine jWp.calls (as := [jO q, jI ((1 + (4 * (k : Int))) + (i : Int)), jI ((1 + (4 * (k : Int))) + (j : Int))]) (rest := []) mt rfl rfl rfl rfl ?_
              refine jCall.mono (E_chg (x := (1 + (4 * k + i))) (y := (1 + (4 * k + j))) hq (by omega) (by omega) (by omega) (by omega)) (fun v9 w9 h9 => ?_)
              obtain ⟨rfl, h9⟩ := h9
              subst h9
              show jWp 204 112 [some (jO q), some (jI (i : Int)), some (jI (j : Int)), some (jI (k : Int))] [] 0 0 (kA w q (zch T (1 + (4 * k + i)) (1 + (4 * k + j)))) _
              refine jWp.blk mt 15 ?_
              show _ ∧ jWp 204 129 [some (jO q), some (jI (i : Int)), some (jI (j : Int)), some (jI (k : Int))] [jI ((29 + (4 * (k : Int))) + (j : Int)), jI ((29 + (4 * (k : Int))) + (i : Int)), jO q] 0 0 (kA w q (zch T (1 + (4 * k + i)) (1 + (4 * k + j)))) _
              refine ⟨rfl, ?_⟩
              refine jWp.calls (as := [jO q, jI ((29 + (4 * (k : Int))) + (i : Int)), jI ((29 + (4 * (k : Int))) + (j : Int))]) (rest := []) mt rfl rfl rfl rfl ?_
              refine jCall.mono (E_chg (x := (29 + (4 * k + i))) (y := (29 + (4 * k + j))) hq (by omega) (by omega) (by omega) (by omega)) (fun v9 w9 h9 => ?_)
              obtain ⟨rfl, h9⟩ := h9
              subst h9
              show jWp 204 132 [some (jO q), some (jI (i : Int)), some (jI (j : Int)), some (jI (k : Int))] [] 0 0 (kA w q (zch (zch T (1 + (4 * k + i)) (1 + (4 * k + j))) (29 + (4 * k + i)) (29 + (4 * k + j)))) _
              refine jWp.blk mt 2 ?_
              show jWp 204 89 [some (jO q), some (jI (i : Int)), some (jI (j : Int)), some (jI ((k : Int) + 1))] [] 0 0 (kA w q (zch (zch T (1 + (4 * k + i)) (1 + (4 * k + j))) (29 + (4 * k + i)) (29 + (4 * k + j)))) _
              refine jWp.le (l := [some (jO q), some (jI (i : Int)), some (jI (j : Int)), some (jI ((k : Int) + 1))]) (by exact ⟨rfl, rfl, rfl, rfl, trivial⟩) ?_
              exact ih5 (k + 1) _ (by omega) (by rw [zch_n (by omega) (by omega), zch_n (by omega) (by omega)]; exact h0) (fun x hx => ⟨by rw [zch_n (by omega) (by omega), zch_n (by omega) (by omega)]; exact (hv x hx).1, by rw [zch_n (by omega) (by omega), zch_n (by omega) (by omega)]; exact (hv x hx).2.1, by rw [zch_n (by omega) (by omega), zch_n (by omega) (by omega)]; exact (hv x hx).2.2⟩) (fun a b ha hb => by rw [zch_n (by omega) (by omega)]; exact zsw_c hi hj (by omega) hr a b ha hb) (zsw_c hi hj (by omega) (fun a b ha hb => by rw [zch_n (by omega) (by omega)]; exact hd a b ha hb)) (by omega)
        refine jWp.le (l := [some (jO q), some (jI (i : Int)), some (jI (j : Int)), some (jI 0)]) (by exact ⟨rfl, rfl, rfl, rfl, trivial⟩) ?_
        exact lp4 _ 0 _ (by omega) h0 hv (fun a b ha hb => by rw [hr a b ha hb, if_pos (by omega), if_neg (by omega)]) (fun a b ha hb => by rw [hd a b ha hb, if_pos (by omega), if_neg (by omega)]) (Nat.lt_succ_self _)
      · have h3 : (k : Int) < 4 := h3
        refine jWp.blk mt 15 ?_
        show _ ∧ jWp 204 58 [some (jO q), some (jI (i : Int)), some (jI (j : Int)), some (jI (k : Int))] [jI ((1 + (4 * (j : Int))) + (k : Int)), jI ((1 + (4 * (i : Int))) + (k : Int)), jO q] 0 0 (kA w q T) _
        refine ⟨rfl, ?_⟩
        refine jWp.calls (as := [jO q, jI ((1 + (4 * (i : Int))) + (k : Int)), jI ((1 + (4 * (j : Int))) + (k : Int))]) (rest := []) mt rfl rfl rfl rfl ?_
        refine jCall.mono (E_chg (x := (1 + (4 * i + k))) (y := (1 + (4 * j + k))) hq (by omega) (by omega) (by omega) (by omega)) (fun v9 w9 h9 => ?_)
        obtain ⟨rfl, h9⟩ := h9
        subst h9
        show jWp 204 61 [some (jO q), some (jI (i : Int)), some (jI (j : Int)), some (jI (k : Int))] [] 0 0 (kA w q (zch T (1 + (4 * i + k)) (1 + (4 * j + k)))) _
        refine jWp.blk mt 15 ?_
        show _ ∧ jWp 204 78 [some (jO q), some (jI (i : Int)), some (jI (j : Int)), some (jI (k : Int))] [jI ((29 + (4 * (j : Int))) + (k : Int)), jI ((29 + (4 * (i : Int))) + (k : Int)), jO q] 0 0 (kA w q (zch T (1 + (4 * i + k)) (1 + (4 * j + k)))) _
        refine ⟨rfl, ?_⟩
        refine jWp.calls (as := [jO q, jI ((29 + (4 * (i : Int))) + (k : Int)), jI ((29 + (4 * (j : Int))) + (k : Int))]) (rest := []) mt rfl rfl rfl rfl ?_
        refine jCall.mono (E_chg (x := (29 + (4 * i + k))) (y := (29 + (4 * j + k))) hq (by omega) (by omega) (by omega) (by omega)) (fun v9 w9 h9 => ?_)
        obtain ⟨rfl, h9⟩ := h9
        subst h9
        show jWp 204 81 [some (jO q), some (jI (i : Int)), some (jI (j : Int)), some (jI (k : Int))] [] 0 0 (kA w q (zch (zch T (1 + (4 * i + k)) (1 + (4 * j + k))) (29 + (4 * i + k)) (29 + (4 * j + k)))) _
        refine jWp.blk mt 2 ?_
        show jWp 204 38 [some (jO q), some (jI (i : Int)), some (jI (j : Int)), some (jI ((k : Int) + 1))] [] 0 0 (kA w q (zch (zch T (1 + (4 * i + k)) (1 + (4 * j + k))) (29 + (4 * i + k)) (29 + (4 * j + k)))) _
        refine jWp.le (l := [some (jO q), some (jI (i : Int)), some (jI (j : Int)), some (jI ((k : Int) + 1))]) (by exact ⟨rfl, rfl, rfl, rfl, trivial⟩) ?_
        exact ih2 (k + 1) _ (by omega) (by rw [zch_n (by omega) (by omega), zch_n (by omega) (by omega)]; exact h0) (fun x hx => ⟨by rw [zch_n (by omega) (by omega), zch_n (by omega) (by omega)]; exact (hv x hx).1, by rw [zch_n (by omega) (by omega), zch_n (by omega) (by omega)]; exact (hv x hx).2.1, by rw [zch_n (by omega) (by omega), zch_n (by omega) (by omega)]; exact (hv x hx).2.2⟩) (fun a b ha hb => by rw [zch_n (by omega) (by omega)]; exact zsw_r hi hj (by omega) hr a b ha hb) (zsw_r hi hj (by omega) (fun a b ha hb => by rw [zch_n (by omega) (by omega)]; exact hd a b ha hb)) (by omega)
  refine jWp.le (l := [some (jO q), some (jI (i : Int)), some (jI (j : Int)), some (jI 0)]) (by exact ⟨rfl, rfl, rfl, rfl, trivial⟩) ?_
  exact lp1 _ 0 _ (by omega) (by rw [zch_n (by omega) (by omega), zch_n (by omega) (by omega), zch_n (by omega) (by omega)]) (fun x hx => ⟨by rw [zch_n (by omega) (by omega), zch_n (by omega) (by omega)]; exact zsw_v hi hj (fun _ _ => rfl) x hx, by rw [zch_n (by omega) (by omega)]; exact zsw_v hi hj (fun y hy => by rw [zch_n (by omega) (by omega)]) x hx, zsw_v hi hj (fun y hy => by rw [zch_n (by omega) (by omega), zch_n (by omega) (by omega)]) x hx⟩) (fun a b ha hb => by rw [zch_n (by omega) (by omega), zch_n (by omega) (by omega), zch_n (by omega) (by omega)]; rfl) (fun a b ha hb => by rw [zch_n (by omega) (by omega), zch_n (by omega) (by omega), zch_n (by omega) (by omega)]; rfl) (Nat.lt_succ_self _)
