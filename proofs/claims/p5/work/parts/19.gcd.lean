theorem zg_step {X Y i : Nat} (hy : 0 < Y) (hx1 : X < 9223372036854775808) (hy1 : Y < 9223372036854775808) (hP : i = 0 ∨ (Y ≤ X ∧ X * Y < 2 ^ (127 - i))) : X % Y ≤ Y ∧ Y * (X % Y) < 2 ^ (127 - (i + 1)) := by
  have hr : X % Y < Y := Nat.mod_lt _ hy
  refine ⟨Nat.le_of_lt hr, ?_⟩
  rcases hP with rfl | ⟨h1, h2⟩
  · have h3 : Y * (X % Y) ≤ Y * Y := Nat.mul_le_mul_left _ (Nat.le_of_lt hr)
    have h4 : Y * Y < 9223372036854775808 * 9223372036854775808 := Nat.mul_lt_mul_of_lt_of_lt hy1 hy1
    have e : (2 : Nat) ^ (127 - (0 + 1)) = 9223372036854775808 * 9223372036854775808 := by decide
    omega
  · have hq : 1 ≤ X / Y := (Nat.le_div_iff_mul_le hy).mpr (by omega)
    have hd : Y * (X / Y) + X % Y = X := Nat.div_add_mod X Y
    have h3 : Y ≤ Y * (X / Y) := Nat.le_mul_of_pos_right _ hq
    have h4 : 2 * (X % Y) < X := by omega
    have h5 : Y * (2 * (X % Y)) < Y * X := Nat.mul_lt_mul_of_pos_left h4 hy
    have h6 : Y * (2 * (X % Y)) = 2 * (Y * (X % Y)) := Nat.mul_left_comm _ _ _
    have h7 : Y * X = X * Y := Nat.mul_comm _ _
    rcases Nat.lt_or_ge i 127 with h | h
    · have e : (2 : Nat) ^ (127 - i) = 2 * 2 ^ (127 - (i + 1)) := by
        rw [show 127 - i = (127 - (i + 1)) + 1 by omega, Nat.pow_succ, Nat.mul_comm]
      omega
    · rw [show 127 - i = 0 by omega] at h2
      have : 0 < X * Y := Nat.mul_pos (by omega) hy
      omega
def zg (a b : Int) : Int := (Int.gcd a b : Int)
theorem zabs (x : Int) : jabs x = (x.natAbs : Int) := by
  unfold jabs
  split <;> omega
theorem ztm (X Y : Nat) : Int.tmod (X : Int) (Y : Int) = ((X % Y : Nat) : Int) := rfl
set_option maxHeartbeats 4000000 in
set_option maxRecDepth 20000 in
theorem E_gcd {w : jS} {a b : Int} (ha : -9223372036854775808 < a ∧ a < 9223372036854775808) (hb : -9223372036854775808 < b ∧ b < 9223372036854775808) : jCall 133 [jJ a, jJ b] w (jvj (zg a b) w) := by
  have mt : jtb 133 = jT133 := rfl
  show jWp 133 0 [some (jJ a), none, some (jJ b), none, none, none, none, none, none, none, none] [] 0 0 w _
  refine jWp.blk mt 1 ?_
  show jWp 133 1 [some (jJ a), none, some (jJ b), none, none, none, none, none, none, none, none] [jJ a] 0 0 w _
  refine jWp.absJ (pc' := 4) mt rfl rfl rfl (b64_id (by omega) (by omega)) ?_
  show jWp 133 4 [some (jJ a), none, some (jJ b), none, none, none, none, none, none, none, none] [jJ (jabs a)] 0 0 w _
  refine jWp.blk mt 2 ?_
  show jWp 133 7 [some (jJ a), none, some (jJ b), none, some (jJ (jabs a)), none, none, none, none, none, none] [jJ b] 0 0 w _
  refine jWp.absJ (pc' := 10) mt rfl rfl rfl (b64_id (by omega) (by omega)) ?_
  show jWp 133 10 [some (jJ a), none, some (jJ b), none, some (jJ (jabs a)), none, none, none, none, none, none] [jJ (jabs b)] 0 0 w _
  refine jWp.blk mt 3 ?_
  show jWp 133 15 [some (jJ a), none, some (jJ b), none, some (jJ (jabs a)), none, some (jJ (jabs b)), none, some (jI 0), none, none] [] 0 0 w _
  have lp1 : ∀ (N : Nat) (i X Y : Nat) (hg : Nat.gcd X Y = Int.gcd a b) (hX : X < 9223372036854775808) (hY : Y < 9223372036854775808) (hP : i = 0 ∨ (Y ≤ X ∧ X * Y < 2 ^ (127 - i))) (hi : i ≤ 200), 200 - i < N → jWp 133 15 [none, none, none, none, some (jJ (X : Int)), none, some (jJ (Y : Int)), none, some (jI (i : Int)), none, none] [] 0 0 w (jvj (zg a b) w) := by
    intro N
    induction N with
    | zero => intro i X Y hg hX hY hP hi hm; omega
    | succ N ih2 =>
      intro i X Y hg hX hY hP hi hm
      refine jWp.blk mt 2 ?_
      show jWp 133 20 [none, none, none, none, some (jJ (X : Int)), none, some (jJ (Y : Int)), none, some (jI (i : Int)), none, none] [jI 200, jI (i : Int)] 0 0 w _
      refine jWp.icmp (pc' := 23) mt rfl rfl (b32_id (by omega) (by omega)) (show b32 200 = 200 by decide) (fun h3 => ?_) (fun h3 => ?_)
      · have h3 : 200 ≤ (i : Int) := h3
        refine jWp.blk mt 1 ?_
        show jWp 133 53 [none, none, none, none, some (jJ (X : Int)), none, some (jJ (Y : Int)), none, some (jI (i : Int)), none, none] [jJ (X : Int)] 0 0 w _
        refine jWp.lret mt rfl ⟨rfl, rfl⟩ rfl ?_
        refine ⟨?_, rfl⟩
        have hz : Y = 0 := by
          first
          | omega
          | (rcases hP with e | ⟨e1, e2⟩
             · omega
             · rw [show 127 - i = 0 by omega] at e2
               rcases Nat.eq_zero_or_pos Y with e | e
               · exact e
               · have : 0 < X * Y := Nat.mul_pos (by omega) e
                 omega)
        subst hz
        show some (jJ (X : Int)) = some (jJ ((Int.gcd a b : Nat) : Int))
        rw [← hg, Nat.gcd_zero_right]
      · have h3 : (i : Int) < 200 := h3
        refine jWp.blk mt 2 ?_
        show jWp 133 26 [none, none, none, none, some (jJ (X : Int)), none, some (jJ (Y : Int)), none, some (jI (i : Int)), none, none] [jJ 0, jJ (Y : Int)] 0 0 w _
        refine jWp.lcmp (pc' := 30) mt rfl rfl rfl (b64_id (by omega) (by omega)) (show b64 0 = 0 by decide) (fun h4 => ?_) (fun h4 => ?_)
        · have h4 : (Y : Int) = 0 := h4
          refine jWp.blk mt 1 ?_
          show jWp 133 53 [none, none, none, none, some (jJ (X : Int)), none, some (jJ (Y : Int)), none, some (jI (i : Int)), none, none] [jJ (X : Int)] 0 0 w _
          refine jWp.lret mt rfl ⟨rfl, rfl⟩ rfl ?_
          refine ⟨?_, rfl⟩
          have hz : Y = 0 := by
            first
            | omega
            | (rcases hP with e | ⟨e1, e2⟩
               · omega
               · rw [show 127 - i = 0 by omega] at e2
                 rcases Nat.eq_zero_or_pos Y with e | e
                 · exact e
                 · have : 0 < X * Y := Nat.mul_pos (by omega) e
                   omega)
          subst hz
          show some (jJ (X : Int)) = some (jJ ((Int.gcd a b : Nat) : Int))
          rw [← hg, Nat.gcd_zero_right]
        · have h4 : (Y : Int) ≠ 0 := h4
          refine jWp.blk mt 2 ?_
          show jWp 133 34 [none, none, none, none, some (jJ (X : Int)), none, some (jJ (Y : Int)), none, some (jI (i : Int)), none, none] [jJ (Y : Int), jJ (X : Int)] 0 0 w _
          refine jWp.lrem (pc' := 35) mt rfl rfl (b64_id (by omega) (by omega)) (b64_id (by omega) (by omega)) (by omega) ?_
          show jWp 133 35 [none, none, none, none, some (jJ (X : Int)), none, some (jJ (Y : Int)), none, some (jI (i : Int)), none, none] [jJ (Int.tmod (X : Int) (Y : Int))] 0 0 w _
          refine jWp.blk mt 7 ?_
          show jWp 133 15 [none, none, none, none, some (jJ (Y : Int)), none, some (jJ (Int.tmod (X : Int) (Y : Int))), none, some (jI ((i : Int) + 1)), some (jJ (Int.tmod (X : Int) (Y : Int))), none] [] 0 0 w _
          refine jWp.le (l := [none, none, none, none, some (jJ (Y : Int)), none, some (jJ (Int.tmod (X : Int) (Y : Int))), none, some (jI ((i : Int) + 1)), none, none]) (by exact ⟨rfl, rfl, rfl, trivial⟩) ?_
          exact ih2 (i + 1) Y (X % Y) (by rw [← hg, Nat.gcd_comm X Y, Nat.gcd_rec Y X, Nat.gcd_comm]) hY (by have := (zg_step (by omega) hX hY hP).1; omega) (Or.inr (zg_step (by omega) hX hY hP)) (by omega) (by omega)
  refine jWp.le (l := [none, none, none, none, some (jJ (jabs a)), none, some (jJ (jabs b)), none, some (jI 0), none, none]) (by exact ⟨rfl, rfl, rfl, trivial⟩) ?_
  rw [zabs, zabs]
  exact lp1 _ 0 a.natAbs b.natAbs rfl (by omega) (by omega) (Or.inl rfl) (by omega) (Nat.lt_succ_self _)
