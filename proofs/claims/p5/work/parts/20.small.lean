theorem jW_s {w : jS} {a k : Nat} {x : Int} : (jW w a k x).1 a k = x := if_pos ⟨rfl, rfl⟩
theorem jW_k {w : jS} {a k k' : Nat} {x : Int} (h : k' ≠ k) : (jW w a k x).1 a k' = w.1 a k' := if_neg (fun e => h e.2)
theorem jW_a {w : jS} {a a' k k' : Nat} {x : Int} (h : a' ≠ a) : (jW w a k x).1 a' k' = w.1 a' k' := if_neg (fun e => h e.1)
theorem zg_pos {a b : Int} (hb : 0 < b) : 0 < zg a b := by
  unfold zg
  have : 0 < Int.gcd a b := Int.gcd_pos_of_ne_zero_right a (by omega)
  omega
theorem zg_le {a b : Int} (hb : 0 < b) : zg a b ≤ b := by
  unfold zg
  exact Int.le_of_dvd hb (Int.gcd_dvd_right a b)
def zu (a b : Int) : Int := Int.tdiv a (zg a b)
def zv (a b : Int) : Int := Int.tdiv b (zg a b)
theorem zu_b {a b : Int} (ha : 0 ≤ a) (hb : 0 < b) : 0 ≤ zu a b ∧ zu a b ≤ a := by
  have hg := zg_pos (a := a) hb
  unfold zu
  rw [Int.tdiv_eq_ediv_of_nonneg ha]
  exact ⟨Int.ediv_nonneg ha (by omega), Int.ediv_le_self _ ha⟩
theorem zu_p {a b : Int} (ha : 0 < a) (hb : 0 < b) : 1 ≤ zu a b := by
  have hg := zg_pos (a := a) hb
  unfold zu
  rw [Int.tdiv_eq_ediv_of_nonneg (by omega)]
  have : zg a b ≤ a := Int.le_of_dvd ha (Int.gcd_dvd_left a b)
  exact (Int.le_ediv_iff_mul_le hg).mpr (by omega)
theorem zv_b {a b : Int} (hb : 0 < b) : 1 ≤ zv a b ∧ zv a b ≤ b := by
  have hg := zg_pos (a := a) hb
  have hl := zg_le (a := a) hb
  unfold zv
  rw [Int.tdiv_eq_ediv_of_nonneg (by omega)]
  exact ⟨(Int.le_ediv_iff_mul_le hg).mpr (by omega), Int.ediv_le_self _ (by omega)⟩
set_option maxHeartbeats 4000000 in
set_option maxRecDepth 20000 in
theorem E_div {w : jS} {a b : Int} (ha : -9223372036854775808 < a ∧ a < 9223372036854775808) (hb : -9223372036854775808 < b ∧ b < 9223372036854775808) : jCall 139 [jJ a, jJ b] w (jvj (zg a b) w) := by
  have mt : jtb 139 = jT139 := rfl
  show jWp 139 0 [some (jJ a), none, some (jJ b), none, none, none, none, none, none, none] [] 0 0 w _
  refine jWp.blk mt 2 ?_
  show jWp 139 2 [some (jJ a), none, some (jJ b), none, none, none, none, none, none, none] [jJ 0, jJ a] 0 0 w _
  refine jWp.lcmp (pc' := 6) mt rfl rfl rfl (b64_id (by omega) (by omega)) (show b64 0 = 0 by decide) (fun h1 => ?_) (fun h1 => ?_)
  · have h1 : 0 ≤ a := h1
    refine jWp.blk mt 4 ?_
    show jWp 139 16 [some (jJ a), none, some (jJ b), none, some (jJ a), none, none, none, none, none] [jJ 0, jJ b] 0 0 w _
    refine jWp.lcmp (pc' := 20) mt rfl rfl rfl (b64_id (by omega) (by omega)) (show b64 0 = 0 by decide) (fun h2 => ?_) (fun h2 => ?_)
    · have h2 : 0 ≤ b := h2
      refine jWp.blk mt 2 ?_
      show jWp 139 28 [some (jJ a), none, some (jJ b), none, some (jJ a), none, some (jJ b), none, none, none] [] 0 0 w _
      have lp3 : ∀ (N : Nat) (X Y : Nat) (hg : Nat.gcd X Y = Int.gcd a b) (hX : X < 9223372036854775808) (hY : Y < 9223372036854775808), Y < N → jWp 139 28 [none, none, none, none, some (jJ (X : Int)), none, some (jJ (Y : Int)), none, none, none] [] 0 0 w (jvj (zg a b) w) := by
        intro N
        induction N with
        | zero => intro X Y hg hX hY hm; omega
        | succ N ih4 =>
          intro X Y hg hX hY hm
          refine jWp.blk mt 2 ?_
          show jWp 139 31 [none, none, none, none, some (jJ (X : Int)), none, some (jJ (Y : Int)), none, none, none] [jJ 0, jJ (Y : Int)] 0 0 w _
          refine jWp.lcmp (pc' := 35) mt rfl rfl rfl (b64_id (by omega) (by omega)) (show b64 0 = 0 by decide) (fun h5 => ?_) (fun h5 => ?_)
          · have h5 : (Y : Int) = 0 := h5
            refine jWp.blk mt 1 ?_
            show jWp 139 55 [none, none, none, none, some (jJ (X : Int)), none, some (jJ (Y : Int)), none, none, none] [jJ (X : Int)] 0 0 w _
            refine jWp.lret mt rfl ⟨rfl, rfl⟩ rfl ?_
            refine ⟨?_, rfl⟩
            have hz : Y = 0 := by omega
            subst hz
            show some (jJ (X : Int)) = some (jJ ((Int.gcd a b : Nat) : Int))
            rw [← hg, Nat.gcd_zero_right]
          · have h5 : (Y : Int) ≠ 0 := h5
            refine jWp.blk mt 2 ?_
            show jWp 139 39 [none, none, none, none, some (jJ (X : Int)), none, some (jJ (Y : Int)), none, none, none] [jJ (Y : Int), jJ (X : Int)] 0 0 w _
            refine jWp.lrem (pc' := 40) mt rfl rfl (b64_id (by omega) (by omega)) (b64_id (by omega) (by omega)) (by omega) ?_
            show jWp 139 40 [none, none, none, none, some (jJ (X : Int)), none, some (jJ (Y : Int)), none, none, none] [jJ (Int.tmod (X : Int) (Y : Int))] 0 0 w _
            refine jWp.blk mt 6 ?_
            show jWp 139 28 [none, none, none, none, some (jJ (Y : Int)), none, some (jJ (Int.tmod (X : Int) (Y : Int))), none, some (jJ (Int.tmod (X : Int) (Y : Int))), none] [] 0 0 w _
            refine jWp.le (l := [none, none, none, none, some (jJ (Y : Int)), none, some (jJ (Int.tmod (X : Int) (Y : Int))), none, none, none]) (by exact ⟨rfl, rfl, trivial⟩) ?_
            exact ih4 Y (X % Y) (by rw [← hg, Nat.gcd_comm X Y, Nat.gcd_rec Y X, Nat.gcd_comm]) hY (by have := Nat.mod_lt X (y := Y) (by omega); omega) (by have := Nat.mod_lt X (y := Y) (by omega); omega)
      refine jWp.le (l := [none, none, none, none, some (jJ a), none, some (jJ b), none, none, none]) (by exact ⟨rfl, rfl, trivial⟩) ?_
      rw [show a = (a.natAbs : Int) by omega, show b = (b.natAbs : Int) by omega]
      exact lp3 _ a.natAbs b.natAbs rfl (by omega) (by omega) (Nat.lt_succ_self _)
    · have h2 : b < 0 := h2
      refine jWp.blk mt 4 ?_
      show jWp 139 28 [some (jJ a), none, some (jJ b), none, some (jJ a), none, some (jJ (-b)), none, none, none] [] 0 0 w _
      have lp6 : ∀ (N : Nat) (X Y : Nat) (hg : Nat.gcd X Y = Int.gcd a b) (hX : X < 9223372036854775808) (hY : Y < 9223372036854775808), Y < N → jWp 139 28 [none, none, none, none, some (jJ (X : Int)), none, some (jJ (Y : Int)), none, none, none] [] 0 0 w (jvj (zg a b) w) := by
        intro N
        induction N with
        | zero => intro X Y hg hX hY hm; omega
        | succ N ih7 =>
          intro X Y hg hX hY hm
          refine jWp.blk mt 2 ?_
          show jWp 139 31 [none, none, none, none, some (jJ (X : Int)), none, some (jJ (Y : Int)), none, none, none] [jJ 0, jJ (Y : Int)] 0 0 w _
          refine jWp.lcmp (pc' := 35) mt rfl rfl rfl (b64_id (by omega) (by omega)) (show b64 0 = 0 by decide) (fun h8 => ?_) (fun h8 => ?_)
          · have h8 : (Y : Int) = 0 := h8
            refine jWp.blk mt 1 ?_
            show jWp 139 55 [none, none, none, none, some (jJ (X : Int)), none, some (jJ (Y : Int)), none, none, none] [jJ (X : Int)] 0 0 w _
            refine jWp.lret mt rfl ⟨rfl, rfl⟩ rfl ?_
            refine ⟨?_, rfl⟩
            have hz : Y = 0 := by omega
            subst hz
            show some (jJ (X : Int)) = some (jJ ((Int.gcd a b : Nat) : Int))
            rw [← hg, Nat.gcd_zero_right]
          · have h8 : (Y : Int) ≠ 0 := h8
            refine jWp.blk mt 2 ?_
            show jWp 139 39 [none, none, none, none, some (jJ (X : Int)), none, some (jJ (Y : Int)), none, none, none] [jJ (Y : Int), jJ (X : Int)] 0 0 w _
            refine jWp.lrem (pc' := 40) mt rfl rfl (b64_id (by omega) (by omega)) (b64_id (by omega) (by omega)) (by omega) ?_
            show jWp 139 40 [none, none, none, none, some (jJ (X : Int)), none, some (jJ (Y : Int)), none, none, none] [jJ (Int.tmod (X : Int) (Y : Int))] 0 0 w _
            refine jWp.blk mt 6 ?_
            show jWp 139 28 [none, none, none, none, some (jJ (Y : Int)), none, some (jJ (Int.tmod (X : Int) (Y : Int))), none, some (jJ (Int.tmod (X : Int) (Y : Int))), none] [] 0 0 w _
            refine jWp.le (l := [none, none, none, none, some (jJ (Y : Int)), none, some (jJ (Int.tmod (X : Int) (Y : Int))), none, none, none]) (by exact ⟨rfl, rfl, trivial⟩) ?_
            exact ih7 Y (X % Y) (by rw [← hg, Nat.gcd_comm X Y, Nat.gcd_rec Y X, Nat.gcd_comm]) hY (by have := Nat.mod_lt X (y := Y) (by omega); omega) (by have := Nat.mod_lt X (y := Y) (by omega); omega)
      refine jWp.le (l := [none, none, none, none, some (jJ a), none, some (jJ (-b)), none, none, none]) (by exact ⟨rfl, rfl, trivial⟩) ?_
      rw [show a = (a.natAbs : Int) by omega, show (-b) = (b.natAbs : Int) by omega]
      exact lp6 _ a.natAbs b.natAbs rfl (by omega) (by omega) (Nat.lt_succ_self _)
  · have h1 : a < 0 := h1
    refine jWp.blk mt 6 ?_
    show jWp 139 16 [some (jJ a), none, some (jJ b), none, some (jJ (-a)), none, none, none, none, none] [jJ 0, jJ b] 0 0 w _
    refine jWp.lcmp (pc' := 20) mt rfl rfl rfl (b64_id (by omega) (by omega)) (show b64 0 = 0 by decide) (fun h9 => ?_) (fun h9 => ?_)
    · have h9 : 0 ≤ b := h9
      refine jWp.blk mt 2 ?_
      show jWp 139 28 [some (jJ a), none, some (jJ b), none, some (jJ (-a)), none, some (jJ b), none, none, none] [] 0 0 w _
      have lp10 : ∀ (N : Nat) (X Y : Nat) (hg : Nat.gcd X Y = Int.gcd a b) (hX : X < 9223372036854775808) (hY : Y < 9223372036854775808), Y < N → jWp 139 28 [none, none, none, none, some (jJ (X : Int)), none, some (jJ (Y : Int)), none, none, none] [] 0 0 w (jvj (zg a b) w) := by
        intro N
        induction N with
        | zero => intro X Y hg hX hY hm; omega
        | succ N ih11 =>
          intro X Y hg hX hY hm
          refine jWp.blk mt 2 ?_
          show jWp 139 31 [none, none, none, none, some (jJ (X : Int)), none, some (jJ (Y : Int)), none, none, none] [jJ 0, jJ (Y : Int)] 0 0 w _
          refine jWp.lcmp (pc' := 35) mt rfl rfl rfl (b64_id (by omega) (by omega)) (show b64 0 = 0 by decide) (fun h12 => ?_) (fun h12 => ?_)
          · have h12 : (Y : Int) = 0 := h12
            refine jWp.blk mt 1 ?_
            show jWp 139 55 [none, none, none, none, some (jJ (X : Int)), none, some (jJ (Y : Int)), none, none, none] [jJ (X : Int)] 0 0 w _
            refine jWp.lret mt rfl ⟨rfl, rfl⟩ rfl ?_
            refine ⟨?_, rfl⟩
            have hz : Y = 0 := by omega
            subst hz
            show some (jJ (X : Int)) = some (jJ ((Int.gcd a b : Nat) : Int))
            rw [← hg, Nat.gcd_zero_right]
          · have h12 : (Y : Int) ≠ 0 := h12
            refine jWp.blk mt 2 ?_
            show jWp 139 39 [none, none, none, none, some (jJ (X : Int)), none, some (jJ (Y : Int)), none, none, none] [jJ (Y : Int), jJ (X : Int)] 0 0 w _
            refine jWp.lrem (pc' := 40) mt rfl rfl (b64_id (by omega) (by omega)) (b64_id (by omega) (by omega)) (by omega) ?_
            show jWp 139 40 [none, none, none, none, some (jJ (X : Int)), none, some (jJ (Y : Int)), none, none, none] [jJ (Int.tmod (X : Int) (Y : Int))] 0 0 w _
            refine jWp.blk mt 6 ?_
            show jWp 139 28 [none, none, none, none, some (jJ (Y : Int)), none, some (jJ (Int.tmod (X : Int) (Y : Int))), none, some (jJ (Int.tmod (X : Int) (Y : Int))), none] [] 0 0 w _
            refine jWp.le (l := [none, none, none, none, some (jJ (Y : Int)), none, some (jJ (Int.tmod (X : Int) (Y : Int))), none, none, none]) (by exact ⟨rfl, rfl, trivial⟩) ?_
            exact ih11 Y (X % Y) (by rw [← hg, Nat.gcd_comm X Y, Nat.gcd_rec Y X, Nat.gcd_comm]) hY (by have := Nat.mod_lt X (y := Y) (by omega); omega) (by have := Nat.mod_lt X (y := Y) (by omega); omega)
      refine jWp.le (l := [none, none, none, none, some (jJ (-a)), none, some (jJ b), none, none, none]) (by exact ⟨rfl, rfl, trivial⟩) ?_
      rw [show (-a) = (a.natAbs : Int) by omega, show b = (b.natAbs : Int) by omega]
      exact lp10 _ a.natAbs b.natAbs rfl (by omega) (by omega) (Nat.lt_succ_self _)
    · have h9 : b < 0 := h9
      refine jWp.blk mt 4 ?_
      show jWp 139 28 [some (jJ a), none, some (jJ b), none, some (jJ (-a)), none, some (jJ (-b)), none, none, none] [] 0 0 w _
      have lp13 : ∀ (N : Nat) (X Y : Nat) (hg : Nat.gcd X Y = Int.gcd a b) (hX : X < 9223372036854775808) (hY : Y < 9223372036854775808), Y < N → jWp 139 28 [none, none, none, none, some (jJ (X : Int)), none, some (jJ (Y : Int)), none, none, none] [] 0 0 w (jvj (zg a b) w) := by
        intro N
        induction N with
        | zero => intro X Y hg hX hY hm; omega
        | succ N ih14 =>
          intro X Y hg hX hY hm
          refine jWp.blk mt 2 ?_
          show jWp 139 31 [none, none, none, none, some (jJ (X : Int)), none, some (jJ (Y : Int)), none, none, none] [jJ 0, jJ (Y : Int)] 0 0 w _
          refine jWp.lcmp (pc' := 35) mt rfl rfl rfl (b64_id (by omega) (by omega)) (show b64 0 = 0 by decide) (fun h15 => ?_) (fun h15 => ?_)
          · have h15 : (Y : Int) = 0 := h15
            refine jWp.blk mt 1 ?_
            show jWp 139 55 [none, none, none, none, some (jJ (X : Int)), none, some (jJ (Y : Int)), none, none, none] [jJ (X : Int)] 0 0 w _
            refine jWp.lret mt rfl ⟨rfl, rfl⟩ rfl ?_
            refine ⟨?_, rfl⟩
            have hz : Y = 0 := by omega
            subst hz
            show some (jJ (X : Int)) = some (jJ ((Int.gcd a b : Nat) : Int))
            rw [← hg, Nat.gcd_zero_right]
          · have h15 : (Y : Int) ≠ 0 := h15
            refine jWp.blk mt 2 ?_
            show jWp 139 39 [none, none, none, none, some (jJ (X : Int)), none, some (jJ (Y : Int)), none, none, none] [jJ (Y : Int), jJ (X : Int)] 0 0 w _
            refine jWp.lrem (pc' := 40) mt rfl rfl (b64_id (by omega) (by omega)) (b64_id (by omega) (by omega)) (by omega) ?_
            show jWp 139 40 [none, none, none, none, some (jJ (X : Int)), none, some (jJ (Y : Int)), none, none, none] [jJ (Int.tmod (X : Int) (Y : Int))] 0 0 w _
            refine jWp.blk mt 6 ?_
            show jWp 139 28 [none, none, none, none, some (jJ (Y : Int)), none, some (jJ (Int.tmod (X : Int) (Y : Int))), none, some (jJ (Int.tmod (X : Int) (Y : Int))), none] [] 0 0 w _
            refine jWp.le (l := [none, none, none, none, some (jJ (Y : Int)), none, some (jJ (Int.tmod (X : Int) (Y : Int))), none, none, none]) (by exact ⟨rfl, rfl, trivial⟩) ?_
            exact ih14 Y (X % Y) (by rw [← hg, Nat.gcd_comm X Y, Nat.gcd_rec Y X, Nat.gcd_comm]) hY (by have := Nat.mod_lt X (y := Y) (by omega); omega) (by have := Nat.mod_lt X (y := Y) (by omega); omega)
      refine jWp.le (l := [none, none, none, none, some (jJ (-a)), none, some (jJ (-b)), none, none, none]) (by exact ⟨rfl, rfl, trivial⟩) ?_
      rw [show (-a) = (a.natAbs : Int) by omega, show (-b) = (b.natAbs : Int) by omega]
      exact lp13 _ a.natAbs b.natAbs rfl (by omega) (by omega) (Nat.lt_succ_self _)
set_option maxHeartbeats 4000000 in
set_option maxRecDepth 20000 in
theorem E_small {w : jS} {m L : Nat} {a b : Int} (hm : w.2.1 m = (10, L)) (ha : 0 ≤ a ∧ a < 9223372036854775808) (hb : 0 < b ∧ b < 9223372036854775808) : jCall 173 [jO m, jJ a, jJ b] w (jvb (zu a b ≤ 1000000000 ∧ zv a b ≤ 1000000000) (jW (jW w m 11 (zu a b)) m 12 (zv a b))) := by
  have mt : jtb 173 = jT173 := rfl
  have hg := zg_pos (a := a) hb.1
  have hl := zg_le (a := a) hb.1
  have hu := zu_b ha.1 hb.1
  have hv := zv_b (a := a) hb.1
  unfold zu at hu
  unfold zv at hv
  show jWp 173 0 [some (jO m), some (jJ a), none, some (jJ b), none, none, none] [] 0 0 w _
  refine jWp.blk mt 2 ?_
  show jWp 173 2 [some (jO m), some (jJ a), none, some (jJ b), none, none, none] [jJ b, jJ a] 0 0 w _
  refine jWp.calls (as := [jJ a, jJ b]) (rest := []) mt rfl rfl rfl rfl ?_
  refine jCall.mono (E_div (by omega) (by omega)) (fun v9 w9 h9 => ?_)
  obtain ⟨rfl, h9⟩ := h9
  subst w9
  show jWp 173 5 [some (jO m), some (jJ a), none, some (jJ b), none, none, none] [jJ (zg a b)] 0 0 w _
  refine jWp.blk mt 4 ?_
  show _ ∧ jWp 173 11 [some (jO m), some (jJ a), none, some (jJ b), none, some (jJ (zg a b)), none] [jJ (zg a b), jJ a, jO m] 0 0 w _
  refine ⟨rfl, ?_⟩
  refine jWp.ldiv (pc' := 12) mt rfl rfl (b64_id (by omega) (by omega)) (b64_id (by omega) (by omega)) (by omega) ?_
  show jWp 173 12 [some (jO m), some (jJ a), none, some (jJ b), none, some (jJ (zg a b)), none] [jJ (Int.tdiv a (zg a b)), jO m] 0 0 w _
  refine jWp.putJ (pc' := 15) mt rfl rfl (jtg hm) ?_
  show jWp 173 15 [some (jO m), some (jJ a), none, some (jJ b), none, some (jJ (zg a b)), none] [] 0 0 (jW w m 11 (Int.tdiv a (zg a b))) _
  refine jWp.blk mt 3 ?_
  show _ ∧ jWp 173 19 [some (jO m), some (jJ a), none, some (jJ b), none, some (jJ (zg a b)), none] [jJ (zg a b), jJ b, jO m] 0 0 (jW w m 11 (Int.tdiv a (zg a b))) _
  refine ⟨rfl, ?_⟩
  refine jWp.ldiv (pc' := 20) mt rfl rfl (b64_id (by omega) (by omega)) (b64_id (by omega) (by omega)) (by omega) ?_
  show jWp 173 20 [some (jO m), some (jJ a), none, some (jJ b), none, some (jJ (zg a b)), none] [jJ (Int.tdiv b (zg a b)), jO m] 0 0 (jW w m 11 (Int.tdiv a (zg a b))) _
  refine jWp.putJ (pc' := 23) mt rfl rfl (jtg hm) ?_
  show jWp 173 23 [some (jO m), some (jJ a), none, some (jJ b), none, some (jJ (zg a b)), none] [] 0 0 (jW (jW w m 11 (Int.tdiv a (zg a b))) m 12 (Int.tdiv b (zg a b))) _
  refine jWp.blk mt 1 ?_
  show _ ∧ jWp 173 24 [some (jO m), some (jJ a), none, some (jJ b), none, some (jJ (zg a b)), none] [jO m] 0 0 (jW (jW w m 11 (Int.tdiv a (zg a b))) m 12 (Int.tdiv b (zg a b))) _
  refine ⟨rfl, ?_⟩
  refine jWp.getJ (pc' := 27) mt rfl rfl (jtg hm) ?_
  rw [show ((jW (jW w m 11 (Int.tdiv a (zg a b))) m 12 (Int.tdiv b (zg a b))).1 m 11) = (Int.tdiv a (zg a b)) from (jW_k (by decide)).trans (jW_s)]
  show jWp 173 27 [some (jO m), some (jJ a), none, some (jJ b), none, some (jJ (zg a b)), none] [jJ (Int.tdiv a (zg a b))] 0 0 (jW (jW w m 11 (Int.tdiv a (zg a b))) m 12 (Int.tdiv b (zg a b))) _
  refine jWp.blk mt 1 ?_
  show jWp 173 30 [some (jO m), some (jJ a), none, some (jJ b), none, some (jJ (zg a b)), none] [jJ 1000000000, jJ (Int.tdiv a (zg a b))] 0 0 (jW (jW w m 11 (Int.tdiv a (zg a b))) m 12 (Int.tdiv b (zg a b))) _
  refine jWp.lcmp (pc' := 34) mt rfl rfl rfl (b64_id (by omega) (by omega)) (show b64 1000000000 = 1000000000 by decide) (fun h1 => ?_) (fun h1 => ?_)
  · have h1 : 1000000000 < (Int.tdiv a (zg a b)) := h1
    refine jWp.blk mt 1 ?_
    show jWp 173 50 [some (jO m), some (jJ a), none, some (jJ b), none, some (jJ (zg a b)), none] [jI 0] 0 0 (jW (jW w m 11 (Int.tdiv a (zg a b))) m 12 (Int.tdiv b (zg a b))) _
    refine jWp.iretz mt rfl ⟨rfl, rfl⟩ rfl (Or.inl rfl) ?_
    exact Or.inr ⟨rfl, rfl, by unfold zu zv; omega⟩
  · have h1 : (Int.tdiv a (zg a b)) ≤ 1000000000 := h1
    refine jWp.blk mt 1 ?_
    show _ ∧ jWp 173 35 [some (jO m), some (jJ a), none, some (jJ b), none, some (jJ (zg a b)), none] [jO m] 0 0 (jW (jW w m 11 (Int.tdiv a (zg a b))) m 12 (Int.tdiv b (zg a b))) _
    refine ⟨rfl, ?_⟩
    refine jWp.getJ (pc' := 38) mt rfl rfl (jtg hm) ?_
    rw [show ((jW (jW w m 11 (Int.tdiv a (zg a b))) m 12 (Int.tdiv b (zg a b))).1 m 12) = (Int.tdiv b (zg a b)) from (jW_s)]
    show jWp 173 38 [some (jO m), some (jJ a), none, some (jJ b), none, some (jJ (zg a b)), none] [jJ (Int.tdiv b (zg a b))] 0 0 (jW (jW w m 11 (Int.tdiv a (zg a b))) m 12 (Int.tdiv b (zg a b))) _
    refine jWp.blk mt 1 ?_
    show jWp 173 41 [some (jO m), some (jJ a), none, some (jJ b), none, some (jJ (zg a b)), none] [jJ 1000000000, jJ (Int.tdiv b (zg a b))] 0 0 (jW (jW w m 11 (Int.tdiv a (zg a b))) m 12 (Int.tdiv b (zg a b))) _
    refine jWp.lcmp (pc' := 45) mt rfl rfl rfl (b64_id (by omega) (by omega)) (show b64 1000000000 = 1000000000 by decide) (fun h2 => ?_) (fun h2 => ?_)
    · have h2 : 1000000000 < (Int.tdiv b (zg a b)) := h2
      refine jWp.blk mt 1 ?_
      show jWp 173 50 [some (jO m), some (jJ a), none, some (jJ b), none, some (jJ (zg a b)), none] [jI 0] 0 0 (jW (jW w m 11 (Int.tdiv a (zg a b))) m 12 (Int.tdiv b (zg a b))) _
      refine jWp.iretz mt rfl ⟨rfl, rfl⟩ rfl (Or.inl rfl) ?_
      exact Or.inr ⟨rfl, rfl, by unfold zu zv; omega⟩
    · have h2 : (Int.tdiv b (zg a b)) ≤ 1000000000 := h2
      refine jWp.blk mt 2 ?_
      show jWp 173 50 [some (jO m), some (jJ a), none, some (jJ b), none, some (jJ (zg a b)), none] [jI 1] 0 0 (jW (jW w m 11 (Int.tdiv a (zg a b))) m 12 (Int.tdiv b (zg a b))) _
      refine jWp.iretz mt rfl ⟨rfl, rfl⟩ rfl (Or.inr rfl) ?_
      exact Or.inl ⟨rfl, rfl, by unfold zu zv; omega⟩
set_option maxHeartbeats 4000000 in
set_option maxRecDepth 20000 in
theorem E_set {w : jS} {m L : Nat} {a b : Int} (hm : w.2.1 m = (2, L)) (ha : 0 ≤ a ∧ a < 9223372036854775808) (hb : 0 < b ∧ b < 9223372036854775808) : jCall 4 [jO m, jJ a, jJ b] w (jvb (zu a b ≤ 1000000000 ∧ zv a b ≤ 1000000000) (jW (jW w m 0 (zu a b)) m 1 (zv a b))) := by
  have mt : jtb 4 = jT4 := rfl
  have hg := zg_pos (a := a) hb.1
  have hl := zg_le (a := a) hb.1
  have hu := zu_b ha.1 hb.1
  have hv := zv_b (a := a) hb.1
  unfold zu at hu
  unfold zv at hv
  have hj : jabs (Int.tdiv a (zg a b)) = Int.tdiv a (zg a b) := if_pos hu.1
  show jWp 4 0 [some (jO m), some (jJ a), none, some (jJ b), none, none, none] [] 0 0 w _
  refine jWp.blk mt 2 ?_
  show jWp 4 2 [some (jO m), some (jJ a), none, some (jJ b), none, none, none] [jJ b, jJ a] 0 0 w _
  refine jWp.calls (as := [jJ a, jJ b]) (rest := []) mt rfl rfl rfl rfl ?_
  refine jCall.mono (E_gcd (by omega) (by omega)) (fun v9 w9 h9 => ?_)
  obtain ⟨rfl, h9⟩ := h9
  subst w9
  show jWp 4 5 [some (jO m), some (jJ a), none, some (jJ b), none, none, none] [jJ (zg a b)] 0 0 w _
  refine jWp.blk mt 3 ?_
  show jWp 4 10 [some (jO m), some (jJ a), none, some (jJ b), none, some (jJ (zg a b)), none] [jJ 0, jJ (zg a b)] 0 0 w _
  refine jWp.lcmp (pc' := 14) mt rfl rfl rfl (b64_id (by omega) (by omega)) (show b64 0 = 0 by decide) (fun h1 => ?_) (fun h1 => ?_)
  · have h1 : (zg a b) ≠ 0 := h1
    refine jWp.blk mt 3 ?_
    show _ ∧ jWp 4 30 [some (jO m), some (jJ a), none, some (jJ b), none, some (jJ (zg a b)), none] [jJ (zg a b), jJ a, jO m] 0 0 w _
    refine ⟨rfl, ?_⟩
    refine jWp.ldiv (pc' := 31) mt rfl rfl (b64_id (by omega) (by omega)) (b64_id (by omega) (by omega)) (by omega) ?_
    show jWp 4 31 [some (jO m), some (jJ a), none, some (jJ b), none, some (jJ (zg a b)), none] [jJ (Int.tdiv a (zg a b)), jO m] 0 0 w _
    refine jWp.putJ (pc' := 34) mt rfl rfl (jtg hm) ?_
    show jWp 4 34 [some (jO m), some (jJ a), none, some (jJ b), none, some (jJ (zg a b)), none] [] 0 0 (jW w m 0 (Int.tdiv a (zg a b))) _
    refine jWp.blk mt 3 ?_
    show _ ∧ jWp 4 38 [some (jO m), some (jJ a), none, some (jJ b), none, some (jJ (zg a b)), none] [jJ (zg a b), jJ b, jO m] 0 0 (jW w m 0 (Int.tdiv a (zg a b))) _
    refine ⟨rfl, ?_⟩
    refine jWp.ldiv (pc' := 39) mt rfl rfl (b64_id (by omega) (by omega)) (b64_id (by omega) (by omega)) (by omega) ?_
    show jWp 4 39 [some (jO m), some (jJ a), none, some (jJ b), none, some (jJ (zg a b)), none] [jJ (Int.tdiv b (zg a b)), jO m] 0 0 (jW w m 0 (Int.tdiv a (zg a b))) _
    refine jWp.putJ (pc' := 42) mt rfl rfl (jtg hm) ?_
    show jWp 4 42 [some (jO m), some (jJ a), none, some (jJ b), none, some (jJ (zg a b)), none] [] 0 0 (jW (jW w m 0 (Int.tdiv a (zg a b))) m 1 (Int.tdiv b (zg a b))) _
    refine jWp.blk mt 1 ?_
    show _ ∧ jWp 4 43 [some (jO m), some (jJ a), none, some (jJ b), none, some (jJ (zg a b)), none] [jO m] 0 0 (jW (jW w m 0 (Int.tdiv a (zg a b))) m 1 (Int.tdiv b (zg a b))) _
    refine ⟨rfl, ?_⟩
    refine jWp.getJ (pc' := 46) mt rfl rfl (jtg hm) ?_
    rw [show ((jW (jW w m 0 (Int.tdiv a (zg a b))) m 1 (Int.tdiv b (zg a b))).1 m 0) = (Int.tdiv a (zg a b)) from (jW_k (by decide)).trans (jW_s)]
    show jWp 4 46 [some (jO m), some (jJ a), none, some (jJ b), none, some (jJ (zg a b)), none] [jJ (Int.tdiv a (zg a b))] 0 0 (jW (jW w m 0 (Int.tdiv a (zg a b))) m 1 (Int.tdiv b (zg a b))) _
    refine jWp.absJ (pc' := 49) mt rfl rfl rfl (b64_id (by omega) (by omega)) ?_
    show jWp 4 49 [some (jO m), some (jJ a), none, some (jJ b), none, some (jJ (zg a b)), none] [jJ (jabs (Int.tdiv a (zg a b)))] 0 0 (jW (jW w m 0 (Int.tdiv a (zg a b))) m 1 (Int.tdiv b (zg a b))) _
    refine jWp.blk mt 1 ?_
    show jWp 4 52 [some (jO m), some (jJ a), none, some (jJ b), none, some (jJ (zg a b)), none] [jJ 1000000000, jJ (jabs (Int.tdiv a (zg a b)))] 0 0 (jW (jW w m 0 (Int.tdiv a (zg a b))) m 1 (Int.tdiv b (zg a b))) _
    refine jWp.lcmp (pc' := 56) mt rfl rfl rfl (b64_id (by omega) (by omega)) (show b64 1000000000 = 1000000000 by decide) (fun h2 => ?_) (fun h2 => ?_)
    · have h2 : 1000000000 < (jabs (Int.tdiv a (zg a b))) := h2
      refine jWp.blk mt 1 ?_
      show jWp 4 72 [some (jO m), some (jJ a), none, some (jJ b), none, some (jJ (zg a b)), none] [jI 0] 0 0 (jW (jW w m 0 (Int.tdiv a (zg a b))) m 1 (Int.tdiv b (zg a b))) _
      refine jWp.iretz mt rfl ⟨rfl, rfl⟩ rfl (Or.inl rfl) ?_
      exact Or.inr ⟨rfl, rfl, by unfold zu zv; omega⟩
    · have h2 : (jabs (Int.tdiv a (zg a b))) ≤ 1000000000 := h2
      refine jWp.blk mt 1 ?_
      show _ ∧ jWp 4 57 [some (jO m), some (jJ a), none, some (jJ b), none, some (jJ (zg a b)), none] [jO m] 0 0 (jW (jW w m 0 (Int.tdiv a (zg a b))) m 1 (Int.tdiv b (zg a b))) _
      refine ⟨rfl, ?_⟩
      refine jWp.getJ (pc' := 60) mt rfl rfl (jtg hm) ?_
      rw [show ((jW (jW w m 0 (Int.tdiv a (zg a b))) m 1 (Int.tdiv b (zg a b))).1 m 1) = (Int.tdiv b (zg a b)) from (jW_s)]
      show jWp 4 60 [some (jO m), some (jJ a), none, some (jJ b), none, some (jJ (zg a b)), none] [jJ (Int.tdiv b (zg a b))] 0 0 (jW (jW w m 0 (Int.tdiv a (zg a b))) m 1 (Int.tdiv b (zg a b))) _
      refine jWp.blk mt 1 ?_
      show jWp 4 63 [some (jO m), some (jJ a), none, some (jJ b), none, some (jJ (zg a b)), none] [jJ 1000000000, jJ (Int.tdiv b (zg a b))] 0 0 (jW (jW w m 0 (Int.tdiv a (zg a b))) m 1 (Int.tdiv b (zg a b))) _
      refine jWp.lcmp (pc' := 67) mt rfl rfl rfl (b64_id (by omega) (by omega)) (show b64 1000000000 = 1000000000 by decide) (fun h3 => ?_) (fun h3 => ?_)
      · have h3 : 1000000000 < (Int.tdiv b (zg a b)) := h3
        refine jWp.blk mt 1 ?_
        show jWp 4 72 [some (jO m), some (jJ a), none, some (jJ b), none, some (jJ (zg a b)), none] [jI 0] 0 0 (jW (jW w m 0 (Int.tdiv a (zg a b))) m 1 (Int.tdiv b (zg a b))) _
        refine jWp.iretz mt rfl ⟨rfl, rfl⟩ rfl (Or.inl rfl) ?_
        exact Or.inr ⟨rfl, rfl, by unfold zu zv; omega⟩
      · have h3 : (Int.tdiv b (zg a b)) ≤ 1000000000 := h3
        refine jWp.blk mt 2 ?_
        show jWp 4 72 [some (jO m), some (jJ a), none, some (jJ b), none, some (jJ (zg a b)), none] [jI 1] 0 0 (jW (jW w m 0 (Int.tdiv a (zg a b))) m 1 (Int.tdiv b (zg a b))) _
        refine jWp.iretz mt rfl ⟨rfl, rfl⟩ rfl (Or.inr rfl) ?_
        exact Or.inl ⟨rfl, rfl, by unfold zu zv; omega⟩
  · have h1 : (zg a b) = 0 := h1
    exfalso; omega
