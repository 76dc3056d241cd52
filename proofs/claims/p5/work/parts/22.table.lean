/-- an array told anew -/
def kA (w : jS) (a : Nat) (T : Nat → Int) : jS := (fun b j => if b = a then T j else w.1 b j, w.2)
def zset (T : Nat → Int) (k : Nat) (x : Int) : Nat → Int := fun j => if j = k then x else T j
theorem kA_s {w : jS} {a j : Nat} {T : Nat → Int} : (kA w a T).1 a j = T j := if_pos rfl
theorem kA_a {w : jS} {a b j : Nat} {T : Nat → Int} (h : b ≠ a) : (kA w a T).1 b j = w.1 b j := if_neg h
theorem kA_W {w : jS} {a k : Nat} {T : Nat → Int} {x : Int} : jW (kA w a T) a k x = kA w a (zset T k x) := by
  unfold kA jW jup zset
  congr 1
  funext b j
  by_cases hb : b = a <;> by_cases hj : j = k <;> simp [hb, hj]
theorem kA_self {w : jS} {a : Nat} : kA w a (w.1 a) = w := by
  unfold kA
  show (_, w.2) = (w.1, w.2)
  congr 1
  funext b j
  by_cases hb : b = a <;> simp [hb]
theorem kA_A {w : jS} {a : Nat} {T S : Nat → Int} : kA (kA w a T) a S = kA w a S := by
  unfold kA
  congr 1
  funext b j
  by_cases hb : b = a <;> simp [hb]
theorem zset_s {T : Nat → Int} {k : Nat} {x : Int} : zset T k x k = x := if_pos rfl
theorem zset_n {T : Nat → Int} {k j : Nat} {x : Int} (h : j ≠ k) : zset T k x j = T j := if_neg h
theorem zp9 {x y : Int} (hx : -9 ≤ x ∧ x ≤ 9) (hy : -9 ≤ y ∧ y ≤ 9) : -81 ≤ x * y ∧ x * y ≤ 81 := by
  have h : (x * y).natAbs ≤ 9 * 9 := by rw [Int.natAbs_mul]; exact Nat.mul_le_mul (by omega) (by omega)
  omega
theorem zmore {x y : Int} (hx : -9 ≤ x ∧ x ≤ 9) (hy : -9 ≤ y ∧ y ≤ 9) : (-81 ≤ jabs x * y ∧ jabs x * y ≤ 81) ∧ (-81 ≤ x * jabs y ∧ x * jabs y ≤ 81) ∧ (-81 ≤ Int.tdiv (jabs x * y + x * jabs y) 2 ∧ Int.tdiv (jabs x * y + x * jabs y) 2 ≤ 81) := by
  have hx' : -9 ≤ jabs x ∧ jabs x ≤ 9 := by unfold jabs; split <;> omega
  have hy' : -9 ≤ jabs y ∧ jabs y ≤ 9 := by unfold jabs; split <;> omega
  have h1 := zp9 hx' hy
  have h2 := zp9 hx hy'
  refine ⟨h1, h2, ?_⟩
  have h3 : (Int.tdiv (jabs x * y + x * jabs y) 2).natAbs = (jabs x * y + x * jabs y).natAbs / 2 := Int.natAbs_tdiv _ _
  omega
/-- the table behind an exchange -/
def zxb (f : Nat → Int) (k i j : Nat) : Int := if i = k ∨ j = k then -(f (4 * i + j)) else f (4 * i + j) + Int.tdiv (jabs (f (4 * i + k)) * f (4 * k + j) + f (4 * i + k) * jabs (f (4 * k + j))) 2
def zxe (f : Nat → Int) (k e : Nat) : Int := zxb f k (e / 4) (e % 4)
theorem zxe_at (f : Nat → Int) (k i j : Nat) (h : j < 4) : zxe f k (4 * i + j) = zxb f k i j := by
  unfold zxe
  rw [show (4 * i + j) / 4 = i by omega, show (4 * i + j) % 4 = j by omega]
def zxt (f : Nat → Int) (k : Nat) : Prop := ∀ e, e < 16 → -9 ≤ zxe f k e ∧ zxe f k e ≤ 9
set_option maxHeartbeats 4000000 in
set_option maxRecDepth 20000 in
theorem E_positive {w : jS} {v : Int} (hv : -9223372036854775808 < v ∧ v < 9223372036854775808) : jCall 175 [jJ v] w (jvj (jabs v) w) := by
  have mt : jtb 175 = jT175 := rfl
  show jWp 175 0 [some (jJ v), none] [] 0 0 w _
  refine jWp.blk mt 2 ?_
  show jWp 175 2 [some (jJ v), none] [jJ 0, jJ v] 0 0 w _
  refine jWp.lcmp (pc' := 6) mt rfl rfl rfl (b64_id (by omega) (by omega)) (show b64 0 = 0 by decide) (fun h1 => ?_) (fun h1 => ?_)
  · have h1 : 0 ≤ v := h1
    refine jWp.blk mt 1 ?_
    show jWp 175 12 [some (jJ v), none] [jJ v] 0 0 w _
    refine jWp.lret mt rfl ⟨rfl, rfl⟩ rfl ?_
    refine ⟨?_, rfl⟩
    unfold jabs
    rw [if_pos (by omega)]
  · have h1 : v < 0 := h1
    refine jWp.blk mt 3 ?_
    show jWp 175 12 [some (jJ v), none] [jJ (-v)] 0 0 w _
    refine jWp.lret mt rfl ⟨rfl, rfl⟩ rfl ?_
    refine ⟨?_, rfl⟩
    unfold jabs
    rw [if_neg (by omega), Int.zero_sub]
set_option maxHeartbeats 4000000 in
set_option maxRecDepth 20000 in
theorem E_isTable {w : jS} {m q tb L k : Nat} (hM : w.2.1 m = (10, L)) (ht : w.2.2.1 m 13 = some tb) (hq : w.2.1 q = (101, 45)) (htb : w.2.1 tb = (101, 16)) (hqt : q ≠ tb) (hk : k < 4) (hb : ∀ j, j < 16 → -9 ≤ w.1 q (1 + j) ∧ w.1 q (1 + j) ≤ 9) : jCall 176 [jO m, jO q, jI (k : Int)] w (fun v w1 => ∃ T, w1 = kA w tb T ∧ ((v = some (jI 1) ∧ ∀ e, e < 16 → T e = zxe (fun e => w.1 q (1 + e)) k e ∧ -9 ≤ T e ∧ T e ≤ 9) ∨ (v = some (jI 0) ∧ ¬ zxt (fun e => w.1 q (1 + e)) k))) := by
  have mt : jtb 176 = jT176 := rfl
  show jWp 176 0 [some (jO m), some (jO q), some (jI (k : Int)), none, none, none, none, none, none] [] 0 0 w _
  refine jWp.blk mt 2 ?_
  show jWp 176 2 [some (jO m), some (jO q), some (jI (k : Int)), some (jI 0), none, none, none, none, none] [] 0 0 w _
  have lp1 : ∀ (N : Nat) (i : Nat) (T : Nat → Int) (hi : i ≤ 4) (hT : ∀ e, e < 4 * i → T e = zxe (fun e => w.1 q (1 + e)) k e ∧ -9 ≤ T e ∧ T e ≤ 9), 4 - i < N → jWp 176 2 [some (jO m), some (jO q), some (jI (k : Int)), some (jI (i : Int)), none, none, none, none, none] [] 0 0 (kA w tb T) (fun v w1 => ∃ T, w1 = kA w tb T ∧ ((v = some (jI 1) ∧ ∀ e, e < 16 → T e = zxe (fun e => w.1 q (1 + e)) k e ∧ -9 ≤ T e ∧ T e ≤ 9) ∨ (v = some (jI 0) ∧ ¬ zxt (fun e => w.1 q (1 + e)) k))) := by
    intro N
    induction N with
    | zero => intro i T hi hT hm; omega
    | succ N ih2 =>
      intro i T hi hT hm
      refine jWp.blk mt 2 ?_
      show jWp 176 4 [some (jO m), some (jO q), some (jI (k : Int)), some (jI (i : Int)), none, none, none, none, none] [jI 4, jI (i : Int)] 0 0 (kA w tb T) _
      refine jWp.icmp (pc' := 7) mt rfl rfl (b32_id (by omega) (by omega)) (show b32 4 = 4 by decide) (fun h3 => ?_) (fun h3 => ?_)
      · have h3 : 4 ≤ (i : Int) := h3
        refine jWp.blk mt 1 ?_
        show jWp 176 133 [some (jO m), some (jO q), some (jI (k : Int)), some (jI (i : Int)), none, none, none, none, none] [jI 1] 0 0 (kA w tb T) _
        refine jWp.iretz mt rfl ⟨rfl, rfl⟩ rfl (Or.inr rfl) ?_
        exact ⟨T, rfl, Or.inl ⟨rfl, fun e he => hT e (by omega)⟩⟩
      · have h3 : (i : Int) < 4 := h3
        refine jWp.blk mt 2 ?_
        show jWp 176 10 [some (jO m), some (jO q), some (jI (k : Int)), some (jI (i : Int)), some (jI 0), none, none, none, none] [] 0 0 (kA w tb T) _
        have lp4 : ∀ (N : Nat) (j : Nat) (T : Nat → Int) (hj : j ≤ 4) (hT : ∀ e, e < 4 * i + j → T e = zxe (fun e => w.1 q (1 + e)) k e ∧ -9 ≤ T e ∧ T e ≤ 9), 4 - j < N → jWp 176 10 [some (jO m), some (jO q), some (jI (k : Int)), some (jI (i : Int)), some (jI (j : Int)), none, none, none, none] [] 0 0 (kA w tb T) (fun v w1 => ∃ T, w1 = kA w tb T ∧ ((v = some (jI 1) ∧ ∀ e, e < 16 → T e = zxe (fun e => w.1 q (1 + e)) k e ∧ -9 ≤ T e ∧ T e ≤ 9) ∨ (v = some (jI 0) ∧ ¬ zxt (fun e => w.1 q (1 + e)) k))) := by
          intro N
          induction N with
          | zero => intro j T hj hT hm; omega
          | succ N ih5 =>
            intro j T hj hT hm
            have hi4 : i < 4 := by omega
            have b1 := hb (4 * i + k) (by omega)
            have hf : j < 4 → _ := fun hj4 => (And.intro (hb (4 * k + j) (by omega)) (And.intro (hb (4 * i + j) (by omega)) (zmore b1 (hb (4 * k + j) (by omega)))))
            refine jWp.blk mt 2 ?_
            show jWp 176 13 [some (jO m), some (jO q), some (jI (k : Int)), some (jI (i : Int)), some (jI (j : Int)), none, none, none, none] [jI 4, jI (j : Int)] 0 0 (kA w tb T) _
            refine jWp.icmp (pc' := 16) mt rfl rfl (b32_id (by omega) (by omega)) (show b32 4 = 4 by decide) (fun h6 => ?_) (fun h6 => ?_)
            · have h6 : 4 ≤ (j : Int) := h6
              refine jWp.blk mt 2 ?_
              show jWp 176 2 [some (jO m), some (jO q), some (jI (k : Int)), some (jI ((i : Int) + 1)), some (jI (j : Int)), none, none, none, none] [] 0 0 (kA w tb T) _
              refine jWp.le (l := [some (jO m), some (jO q), some (jI (k : Int)), some (jI ((i : Int) + 1)), none, none, none, none, none]) (by exact ⟨rfl, rfl, rfl, rfl, trivial⟩) ?_
              exact ih2 (i + 1) T (by omega) (fun e he => hT e (by omega)) (by omega)
            · have h6 : (j : Int) < 4 := h6
              refine jWp.blk mt 3 ?_
              show _ ∧ jWp 176 19 [some (jO m), some (jO q), some (jI (k : Int)), some (jI (i : Int)), some (jI (j : Int)), none, none, none, none] [jI (k : Int), jI (i : Int), jO q] 0 0 (kA w tb T) _
              refine ⟨rfl, ?_⟩
              refine jWp.calls (as := [jO q, jI (i : Int), jI (k : Int)]) (rest := []) mt rfl rfl rfl rfl ?_
              refine jCall.mono ((show jCall 163 [jO q, jI (i : Int), jI (k : Int)] (kA w tb T) (jvj (w.1 q (1 + (4 * i + k))) (kA w tb T)) from by have h := E_b (w := (kA w tb T)) (i := i) (k := k) hq (by omega) (by omega) (by omega); rw [kA_a hqt] at h; exact h)) (fun v9 w9 h9 => ?_)
              obtain ⟨rfl, h9⟩ := h9
              subst w9
              show jWp 176 22 [some (jO m), some (jO q), some (jI (k : Int)), some (jI (i : Int)), some (jI (j : Int)), none, none, none, none] [jJ (w.1 q (1 + (4 * i + k)))] 0 0 (kA w tb T) _
              refine jWp.calls (as := [jJ (w.1 q (1 + (4 * i + k)))]) (rest := []) mt rfl rfl rfl rfl ?_
              refine jCall.mono (E_positive (by omega)) (fun v9 w9 h9 => ?_)
              obtain ⟨rfl, h9⟩ := h9
              subst w9
              show jWp 176 25 [some (jO m), some (jO q), some (jI (k : Int)), some (jI (i : Int)), some (jI (j : Int)), none, none, none, none] [jJ (jabs (w.1 q (1 + (4 * i + k))))] 0 0 (kA w tb T) _
              refine jWp.blk mt 3 ?_
              show _ ∧ jWp 176 29 [some (jO m), some (jO q), some (jI (k : Int)), some (jI (i : Int)), some (jI (j : Int)), none, none, none, none] [jI (j : Int), jI (k : Int), jO q, jJ (jabs (w.1 q (1 + (4 * i + k))))] 0 0 (kA w tb T) _
              refine ⟨rfl, ?_⟩
              refine jWp.calls (as := [jO q, jI (k : Int), jI (j : Int)]) (rest := [jJ (jabs (w.1 q (1 + (4 * i + k))))]) mt rfl rfl rfl rfl ?_
              refine jCall.mono ((show jCall 163 [jO q, jI (k : Int), jI (j : Int)] (kA w tb T) (jvj (w.1 q (1 + (4 * k + j))) (kA w tb T)) from by have h := E_b (w := (kA w tb T)) (i := k) (k := j) hq (by omega) (by omega) (by omega); rw [kA_a hqt] at h; exact h)) (fun v9 w9 h9 => ?_)
              obtain ⟨rfl, h9⟩ := h9
              subst w9
              show jWp 176 32 [some (jO m), some (jO q), some (jI (k : Int)), some (jI (i : Int)), some (jI (j : Int)), none, none, none, none] [jJ (w.1 q (1 + (4 * k + j))), jJ (jabs (w.1 q (1 + (4 * i + k))))] 0 0 (kA w tb T) _
              refine jWp.blk mt 4 ?_
              show _ ∧ jWp 176 36 [some (jO m), some (jO q), some (jI (k : Int)), some (jI (i : Int)), some (jI (j : Int)), none, none, none, none] [jI (k : Int), jI (i : Int), jO q, jJ ((jabs (w.1 q (1 + (4 * i + k)))) * (w.1 q (1 + (4 * k + j))))] 0 0 (kA w tb T) _
              refine ⟨rfl, ?_⟩
              refine jWp.calls (as := [jO q, jI (i : Int), jI (k : Int)]) (rest := [jJ ((jabs (w.1 q (1 + (4 * i + k)))) * (w.1 q (1 + (4 * k + j))))]) mt rfl rfl rfl rfl ?_
              refine jCall.mono ((show jCall 163 [jO q, jI (i : Int), jI (k : Int)] (kA w tb T) (jvj (w.1 q (1 + (4 * i + k))) (kA w tb T)) from by have h := E_b (w := (kA w tb T)) (i := i) (k := k) hq (by omega) (by omega) (by omega); rw [kA_a hqt] at h; exact h)) (fun v9 w9 h9 => ?_)
              obtain ⟨rfl, h9⟩ := h9
              subst w9
              show jWp 176 39 [some (jO m), some (jO q), some (jI (k : Int)), some (jI (i : Int)), some (jI (j : Int)), none, none, none, none] [jJ (w.1 q (1 + (4 * i + k))), jJ ((jabs (w.1 q (1 + (4 * i + k)))) * (w.1 q (1 + (4 * k + j))))] 0 0 (kA w tb T) _
              refine jWp.blk mt 3 ?_
              show _ ∧ jWp 176 43 [some (jO m), some (jO q), some (jI (k : Int)), some (jI (i : Int)), some (jI (j : Int)), none, none, none, none] [jI (j : Int), jI (k : Int), jO q, jJ (w.1 q (1 + (4 * i + k))), jJ ((jabs (w.1 q (1 + (4 * i + k)))) * (w.1 q (1 + (4 * k + j))))] 0 0 (kA w tb T) _
              refine ⟨rfl, ?_⟩
              refine jWp.calls (as := [jO q, jI (k : Int), jI (j : Int)]) (rest := [jJ (w.1 q (1 + (4 * i + k))), jJ ((jabs (w.1 q (1 + (4 * i + k)))) * (w.1 q (1 + (4 * k + j))))]) mt rfl rfl rfl rfl ?_
              refine jCall.mono ((show jCall 163 [jO q, jI (k : Int), jI (j : Int)] (kA w tb T) (jvj (w.1 q (1 + (4 * k + j))) (kA w tb T)) from by have h := E_b (w := (kA w tb T)) (i := k) (k := j) hq (by omega) (by omega) (by omega); rw [kA_a hqt] at h; exact h)) (fun v9 w9 h9 => ?_)
              obtain ⟨rfl, h9⟩ := h9
              subst w9
              show jWp 176 46 [some (jO m), some (jO q), some (jI (k : Int)), some (jI (i : Int)), some (jI (j : Int)), none, none, none, none] [jJ (w.1 q (1 + (4 * k + j))), jJ (w.1 q (1 + (4 * i + k))), jJ ((jabs (w.1 q (1 + (4 * i + k)))) * (w.1 q (1 + (4 * k + j))))] 0 0 (kA w tb T) _
              refine jWp.calls (as := [jJ (w.1 q (1 + (4 * k + j)))]) (rest := [jJ (w.1 q (1 + (4 * i + k))), jJ ((jabs (w.1 q (1 + (4 * i + k)))) * (w.1 q (1 + (4 * k + j))))]) mt rfl rfl rfl rfl ?_
              refine jCall.mono (E_positive (by omega)) (fun v9 w9 h9 => ?_)
              obtain ⟨rfl, h9⟩ := h9
              subst w9
              show jWp 176 49 [some (jO m), some (jO q), some (jI (k : Int)), some (jI (i : Int)), some (jI (j : Int)), none, none, none, none] [jJ (jabs (w.1 q (1 + (4 * k + j)))), jJ (w.1 q (1 + (4 * i + k))), jJ ((jabs (w.1 q (1 + (4 * i + k)))) * (w.1 q (1 + (4 * k + j))))] 0 0 (kA w tb T) _
              refine jWp.blk mt 3 ?_
              show jWp 176 54 [some (jO m), some (jO q), some (jI (k : Int)), some (jI (i : Int)), some (jI (j : Int)), none, none, none, none] [jJ 2, jJ (((jabs (w.1 q (1 + (4 * i + k)))) * (w.1 q (1 + (4 * k + j)))) + ((w.1 q (1 + (4 * i + k))) * (jabs (w.1 q (1 + (4 * k + j))))))] 0 0 (kA w tb T) _
              refine jWp.ldiv (pc' := 55) mt rfl rfl (b64_id (by omega) (by omega)) (show b64 2 = 2 by decide) (by decide) ?_
              show jWp 176 55 [some (jO m), some (jO q), some (jI (k : Int)), some (jI (i : Int)), some (jI (j : Int)), none, none, none, none] [jJ (Int.tdiv (((jabs (w.1 q (1 + (4 * i + k)))) * (w.1 q (1 + (4 * k + j)))) + ((w.1 q (1 + (4 * i + k))) * (jabs (w.1 q (1 + (4 * k + j)))))) 2)] 0 0 (kA w tb T) _
              refine jWp.blk mt 3 ?_
              show jWp 176 59 [some (jO m), some (jO q), some (jI (k : Int)), some (jI (i : Int)), some (jI (j : Int)), some (jJ (Int.tdiv (((jabs (w.1 q (1 + (4 * i + k)))) * (w.1 q (1 + (4 * k + j)))) + ((w.1 q (1 + (4 * i + k))) * (jabs (w.1 q (1 + (4 * k + j)))))) 2)), none, none, none] [jI (k : Int), jI (i : Int)] 0 0 (kA w tb T) _
              refine jWp.icmp (pc' := 62) mt rfl rfl (b32_id (by omega) (by omega)) (b32_id (by omega) (by omega)) (fun h7 => ?_) (fun h7 => ?_)
              · have h7 : (i : Int) = (k : Int) := h7
                refine jWp.blk mt 3 ?_
                show _ ∧ jWp 176 72 [some (jO m), some (jO q), some (jI (k : Int)), some (jI (i : Int)), some (jI (j : Int)), some (jJ (Int.tdiv (((jabs (w.1 q (1 + (4 * i + k)))) * (w.1 q (1 + (4 * k + j)))) + ((w.1 q (1 + (4 * i + k))) * (jabs (w.1 q (1 + (4 * k + j)))))) 2)), none, none, none] [jI (j : Int), jI (i : Int), jO q] 0 0 (kA w tb T) _
                refine ⟨rfl, ?_⟩
                refine jWp.calls (as := [jO q, jI (i : Int), jI (j : Int)]) (rest := []) mt rfl rfl rfl rfl ?_
                refine jCall.mono ((show jCall 163 [jO q, jI (i : Int), jI (j : Int)] (kA w tb T) (jvj (w.1 q (1 + (4 * i + j))) (kA w tb T)) from by have h := E_b (w := (kA w tb T)) (i := i) (k := j) hq (by omega) (by omega) (by omega); rw [kA_a hqt] at h; exact h)) (fun v9 w9 h9 => ?_)
                obtain ⟨rfl, h9⟩ := h9
                subst w9
                show jWp 176 75 [some (jO m), some (jO q), some (jI (k : Int)), some (jI (i : Int)), some (jI (j : Int)), some (jJ (Int.tdiv (((jabs (w.1 q (1 + (4 * i + k)))) * (w.1 q (1 + (4 * k + j)))) + ((w.1 q (1 + (4 * i + k))) * (jabs (w.1 q (1 + (4 * k + j)))))) 2)), none, none, none] [jJ (w.1 q (1 + (4 * i + j)))] 0 0 (kA w tb T) _
                refine jWp.blk mt 4 ?_
                show _ ∧ jWp 176 92 [some (jO m), some (jO q), some (jI (k : Int)), some (jI (i : Int)), some (jI (j : Int)), some (jJ (Int.tdiv (((jabs (w.1 q (1 + (4 * i + k)))) * (w.1 q (1 + (4 * k + j)))) + ((w.1 q (1 + (4 * i + k))) * (jabs (w.1 q (1 + (4 * k + j)))))) 2)), none, some (jJ (-(w.1 q (1 + (4 * i + j))))), none] [jO m] 0 0 (kA w tb T) _
                refine ⟨rfl, ?_⟩
                refine jWp.getR (pc' := 95) (o := tb) mt rfl rfl (jtg hM) ht ?_
                show jWp 176 95 [some (jO m), some (jO q), some (jI (k : Int)), some (jI (i : Int)), some (jI (j : Int)), some (jJ (Int.tdiv (((jabs (w.1 q (1 + (4 * i + k)))) * (w.1 q (1 + (4 * k + j)))) + ((w.1 q (1 + (4 * i + k))) * (jabs (w.1 q (1 + (4 * k + j)))))) 2)), none, some (jJ (-(w.1 q (1 + (4 * i + j))))), none] [jO tb] 0 0 (kA w tb T) _
                refine jWp.blk mt 6 ?_
                show jWp 176 103 [some (jO m), some (jO q), some (jI (k : Int)), some (jI (i : Int)), some (jI (j : Int)), some (jJ (Int.tdiv (((jabs (w.1 q (1 + (4 * i + k)))) * (w.1 q (1 + (4 * k + j)))) + ((w.1 q (1 + (4 * i + k))) * (jabs (w.1 q (1 + (4 * k + j)))))) 2)), none, some (jJ (-(w.1 q (1 + (4 * i + j))))), none] [jJ (-(w.1 q (1 + (4 * i + j)))), jI ((4 * (i : Int)) + (j : Int)), jO tb] 0 0 (kA w tb T) _
                refine jWp.last (pc' := 104) (j := (4 * i + j)) mt rfl rfl (jtg htb) (by rw [b32_id (by omega) (by omega)]; omega) (jlt htb (by omega)) ?_
                rw [show jW (kA w tb T) tb (4 * i + j) (-(w.1 q (1 + (4 * i + j)))) = (kA w tb (zset T (4 * i + j) (-(w.1 q (1 + (4 * i + j)))))) from kA_W]
                show jWp 176 104 [some (jO m), some (jO q), some (jI (k : Int)), some (jI (i : Int)), some (jI (j : Int)), some (jJ (Int.tdiv (((jabs (w.1 q (1 + (4 * i + k)))) * (w.1 q (1 + (4 * k + j)))) + ((w.1 q (1 + (4 * i + k))) * (jabs (w.1 q (1 + (4 * k + j)))))) 2)), none, some (jJ (-(w.1 q (1 + (4 * i + j))))), none] [] 0 0 (kA w tb (zset T (4 * i + j) (-(w.1 q (1 + (4 * i + j)))))) _
                refine jWp.blk mt 3 ?_
                show jWp 176 112 [some (jO m), some (jO q), some (jI (k : Int)), some (jI (i : Int)), some (jI (j : Int)), some (jJ (Int.tdiv (((jabs (w.1 q (1 + (4 * i + k)))) * (w.1 q (1 + (4 * k + j)))) + ((w.1 q (1 + (4 * i + k))) * (jabs (w.1 q (1 + (4 * k + j)))))) 2)), none, some (jJ (-(w.1 q (1 + (4 * i + j))))), none] [jJ 9, jJ (-9), jJ (-(w.1 q (1 + (4 * i + j))))] 0 0 (kA w tb (zset T (4 * i + j) (-(w.1 q (1 + (4 * i + j)))))) _
                refine jWp.calls (as := [jJ (-(w.1 q (1 + (4 * i + j)))), jJ (-9), jJ 9]) (rest := []) mt rfl rfl rfl rfl ?_
                refine jCall.mono (E_in (b64_id (by omega) (by omega)) (show b64 (-9) = (-9) by decide) (show b64 9 = 9 by decide)) (fun v9 w9 h9 => ?_)
                rcases h9 with ⟨rfl, h9, h8⟩ | ⟨rfl, h9, h8⟩ <;> subst w9
                · have h8 : (-9) ≤ (-(w.1 q (1 + (4 * i + j)))) ∧ (-(w.1 q (1 + (4 * i + j)))) ≤ 9 := h8
                  show jWp 176 115 [some (jO m), some (jO q), some (jI (k : Int)), some (jI (i : Int)), some (jI (j : Int)), some (jJ (Int.tdiv (((jabs (w.1 q (1 + (4 * i + k)))) * (w.1 q (1 + (4 * k + j)))) + ((w.1 q (1 + (4 * i + k))) * (jabs (w.1 q (1 + (4 * k + j)))))) 2)), none, some (jJ (-(w.1 q (1 + (4 * i + j))))), none] [jI 1] 0 0 (kA w tb (zset T (4 * i + j) (-(w.1 q (1 + (4 * i + j)))))) _
                  have hT9 : ∀ e, e < 4 * i + (j + 1) → zset T (4 * i + j) (-(w.1 q (1 + (4 * i + j)))) e = zxe (fun e => w.1 q (1 + e)) k e ∧ -9 ≤ zset T (4 * i + j) (-(w.1 q (1 + (4 * i + j)))) e ∧ zset T (4 * i + j) (-(w.1 q (1 + (4 * i + j)))) e ≤ 9 := by
                    intro e he
                    by_cases h : e = 4 * i + j
                    · subst h; rw [zset_s, zxe_at _ _ _ _ (by omega)]
                      refine ⟨?_, h8⟩
                      unfold zxb
                      first | rw [if_pos (Or.inl (by omega))] | rw [if_pos (Or.inr (by omega))] | rw [if_neg (by omega)]
                    · rw [zset_n h]; exact hT e (by omega)
                  refine jWp.ifc (b := true) mt rfl (by decide) rfl ?_
                  show jWp 176 120 [some (jO m), some (jO q), some (jI (k : Int)), some (jI (i : Int)), some (jI (j : Int)), some (jJ (Int.tdiv (((jabs (w.1 q (1 + (4 * i + k)))) * (w.1 q (1 + (4 * k + j)))) + ((w.1 q (1 + (4 * i + k))) * (jabs (w.1 q (1 + (4 * k + j)))))) 2)), none, some (jJ (-(w.1 q (1 + (4 * i + j))))), none] [] 0 0 (kA w tb (zset T (4 * i + j) (-(w.1 q (1 + (4 * i + j)))))) _
                  refine jWp.blk mt 2 ?_
                  show jWp 176 10 [some (jO m), some (jO q), some (jI (k : Int)), some (jI (i : Int)), some (jI ((j : Int) + 1)), some (jJ (Int.tdiv (((jabs (w.1 q (1 + (4 * i + k)))) * (w.1 q (1 + (4 * k + j)))) + ((w.1 q (1 + (4 * i + k))) * (jabs (w.1 q (1 + (4 * k + j)))))) 2)), none, some (jJ (-(w.1 q (1 + (4 * i + j))))), none] [] 0 0 (kA w tb (zset T (4 * i + j) (-(w.1 q (1 + (4 * i + j)))))) _
                  refine jWp.le (l := [some (jO m), some (jO q), some (jI (k : Int)), some (jI (i : Int)), some (jI ((j : Int) + 1)), none, none, none, none]) (by exact ⟨rfl, rfl, rfl, rfl, rfl, trivial⟩) ?_
                  exact ih5 (j + 1) _ (by omega) hT9 (by omega)
                · have h8 : ¬ ((-9) ≤ (-(w.1 q (1 + (4 * i + j)))) ∧ (-(w.1 q (1 + (4 * i + j)))) ≤ 9) := h8
                  show jWp 176 115 [some (jO m), some (jO q), some (jI (k : Int)), some (jI (i : Int)), some (jI (j : Int)), some (jJ (Int.tdiv (((jabs (w.1 q (1 + (4 * i + k)))) * (w.1 q (1 + (4 * k + j)))) + ((w.1 q (1 + (4 * i + k))) * (jabs (w.1 q (1 + (4 * k + j)))))) 2)), none, some (jJ (-(w.1 q (1 + (4 * i + j))))), none] [jI 0] 0 0 (kA w tb (zset T (4 * i + j) (-(w.1 q (1 + (4 * i + j)))))) _
                  refine jWp.ifc (b := false) mt rfl (by decide) rfl ?_
                  show jWp 176 118 [some (jO m), some (jO q), some (jI (k : Int)), some (jI (i : Int)), some (jI (j : Int)), some (jJ (Int.tdiv (((jabs (w.1 q (1 + (4 * i + k)))) * (w.1 q (1 + (4 * k + j)))) + ((w.1 q (1 + (4 * i + k))) * (jabs (w.1 q (1 + (4 * k + j)))))) 2)), none, some (jJ (-(w.1 q (1 + (4 * i + j))))), none] [] 0 0 (kA w tb (zset T (4 * i + j) (-(w.1 q (1 + (4 * i + j)))))) _
                  refine jWp.blk mt 1 ?_
                  show jWp 176 119 [some (jO m), some (jO q), some (jI (k : Int)), some (jI (i : Int)), some (jI (j : Int)), some (jJ (Int.tdiv (((jabs (w.1 q (1 + (4 * i + k)))) * (w.1 q (1 + (4 * k + j)))) + ((w.1 q (1 + (4 * i + k))) * (jabs (w.1 q (1 + (4 * k + j)))))) 2)), none, some (jJ (-(w.1 q (1 + (4 * i + j))))), none] [jI 0] 0 0 (kA w tb (zset T (4 * i + j) (-(w.1 q (1 + (4 * i + j)))))) _
                  refine jWp.iretz mt rfl ⟨rfl, rfl⟩ rfl (Or.inl rfl) ?_
                  refine ⟨_, rfl, Or.inr ⟨rfl, fun hz => ?_⟩⟩
                  have hz := hz (4 * i + j) (by omega)
                  rw [zxe_at _ _ _ _ (by omega)] at hz
                  unfold zxb at hz
                  first
                  | (rw [if_pos (Or.inl (by omega))] at hz; contradiction)
                  | (rw [if_pos (Or.inr (by omega))] at hz; contradiction)
                  | (rw [if_neg (by omega)] at hz; contradiction)
              · have h7 : (i : Int) ≠ (k : Int) := h7
                refine jWp.blk mt 2 ?_
                show jWp 176 65 [some (jO m), some (jO q), some (jI (k : Int)), some (jI (i : Int)), some (jI (j : Int)), some (jJ (Int.tdiv (((jabs (w.1 q (1 + (4 * i + k)))) * (w.1 q (1 + (4 * k + j)))) + ((w.1 q (1 + (4 * i + k))) * (jabs (w.1 q (1 + (4 * k + j)))))) 2)), none, none, none] [jI (k : Int), jI (j : Int)] 0 0 (kA w tb T) _
                refine jWp.icmp (pc' := 68) mt rfl rfl (b32_id (by omega) (by omega)) (b32_id (by omega) (by omega)) (fun h9 => ?_) (fun h9 => ?_)
                · have h9 : (j : Int) ≠ (k : Int) := h9
                  refine jWp.blk mt 3 ?_
                  show _ ∧ jWp 176 83 [some (jO m), some (jO q), some (jI (k : Int)), some (jI (i : Int)), some (jI (j : Int)), some (jJ (Int.tdiv (((jabs (w.1 q (1 + (4 * i + k)))) * (w.1 q (1 + (4 * k + j)))) + ((w.1 q (1 + (4 * i + k))) * (jabs (w.1 q (1 + (4 * k + j)))))) 2)), none, none, none] [jI (j : Int), jI (i : Int), jO q] 0 0 (kA w tb T) _
                  refine ⟨rfl, ?_⟩
                  refine jWp.calls (as := [jO q, jI (i : Int), jI (j : Int)]) (rest := []) mt rfl rfl rfl rfl ?_
                  refine jCall.mono ((show jCall 163 [jO q, jI (i : Int), jI (j : Int)] (kA w tb T) (jvj (w.1 q (1 + (4 * i + j))) (kA w tb T)) from by have h := E_b (w := (kA w tb T)) (i := i) (k := j) hq (by omega) (by omega) (by omega); rw [kA_a hqt] at h; exact h)) (fun v9 w9 h9 => ?_)
                  obtain ⟨rfl, h9⟩ := h9
                  subst w9
                  show jWp 176 86 [some (jO m), some (jO q), some (jI (k : Int)), some (jI (i : Int)), some (jI (j : Int)), some (jJ (Int.tdiv (((jabs (w.1 q (1 + (4 * i + k)))) * (w.1 q (1 + (4 * k + j)))) + ((w.1 q (1 + (4 * i + k))) * (jabs (w.1 q (1 + (4 * k + j)))))) 2)), none, none, none] [jJ (w.1 q (1 + (4 * i + j)))] 0 0 (kA w tb T) _
                  refine jWp.blk mt 4 ?_
                  show _ ∧ jWp 176 92 [some (jO m), some (jO q), some (jI (k : Int)), some (jI (i : Int)), some (jI (j : Int)), some (jJ (Int.tdiv (((jabs (w.1 q (1 + (4 * i + k)))) * (w.1 q (1 + (4 * k + j)))) + ((w.1 q (1 + (4 * i + k))) * (jabs (w.1 q (1 + (4 * k + j)))))) 2)), none, some (jJ ((w.1 q (1 + (4 * i + j))) + (Int.tdiv (((jabs (w.1 q (1 + (4 * i + k)))) * (w.1 q (1 + (4 * k + j)))) + ((w.1 q (1 + (4 * i + k))) * (jabs (w.1 q (1 + (4 * k + j)))))) 2))), none] [jO m] 0 0 (kA w tb T) _
                  refine ⟨rfl, ?_⟩
                  refine jWp.getR (pc' := 95) (o := tb) mt rfl rfl (jtg hM) ht ?_
                  show jWp 176 95 [some (jO m), some (jO q), some (jI (k : Int)), some (jI (i : Int)), some (jI (j : Int)), some (jJ (Int.tdiv (((jabs (w.1 q (1 + (4 * i + k)))) * (w.1 q (1 + (4 * k + j)))) + ((w.1 q (1 + (4 * i + k))) * (jabs (w.1 q (1 + (4 * k + j)))))) 2)), none, some (jJ ((w.1 q (1 + (4 * i + j))) + (Int.tdiv (((jabs (w.1 q (1 + (4 * i + k)))) * (w.1 q (1 + (4 * k + j)))) + ((w.1 q (1 + (4 * i + k))) * (jabs (w.1 q (1 + (4 * k + j)))))) 2))), none] [jO tb] 0 0 (kA w tb T) _
                  refine jWp.blk mt 6 ?_
                  show jWp 176 103 [some (jO m), some (jO q), some (jI (k : Int)), some (jI (i : Int)), some (jI (j : Int)), some (jJ (Int.tdiv (((jabs (w.1 q (1 + (4 * i + k)))) * (w.1 q (1 + (4 * k + j)))) + ((w.1 q (1 + (4 * i + k))) * (jabs (w.1 q (1 + (4 * k + j)))))) 2)), none, some (jJ ((w.1 q (1 + (4 * i + j))) + (Int.tdiv (((jabs (w.1 q (1 + (4 * i + k)))) * (w.1 q (1 + (4 * k + j)))) + ((w.1 q (1 + (4 * i + k))) * (jabs (w.1 q (1 + (4 * k + j)))))) 2))), none] [jJ ((w.1 q (1 + (4 * i + j))) + (Int.tdiv (((jabs (w.1 q (1 + (4 * i + k)))) * (w.1 q (1 + (4 * k + j)))) + ((w.1 q (1 + (4 * i + k))) * (jabs (w.1 q (1 + (4 * k + j)))))) 2)), jI ((4 * (i : Int)) + (j : Int)), jO tb] 0 0 (kA w tb T) _
                  refine jWp.last (pc' := 104) (j := (4 * i + j)) mt rfl rfl (jtg htb) (by rw [b32_id (by omega) (by omega)]; omega) (jlt htb (by omega)) ?_
                  rw [show jW (kA w tb T) tb (4 * i + j) ((w.1 q (1 + (4 * i + j))) + (Int.tdiv (((jabs (w.1 q (1 + (4 * i + k)))) * (w.1 q (1 + (4 * k + j)))) + ((w.1 q (1 + (4 * i + k))) * (jabs (w.1 q (1 + (4 * k + j)))))) 2)) = (kA w tb (zset T (4 * i + j) ((w.1 q (1 + (4 * i + j))) + (Int.tdiv (((jabs (w.1 q (1 + (4 * i + k)))) * (w.1 q (1 + (4 * k + j)))) + ((w.1 q (1 + (4 * i + k))) * (jabs (w.1 q (1 + (4 * k + j)))))) 2)))) from kA_W]
                  show jWp 176 104 [some (jO m), some (jO q), some (jI (k : Int)), some (jI (i : Int)), some (jI (j : Int)), some (jJ (Int.tdiv (((jabs (w.1 q (1 + (4 * i + k)))) * (w.1 q (1 + (4 * k + j)))) + ((w.1 q (1 + (4 * i + k))) * (jabs (w.1 q (1 + (4 * k + j)))))) 2)), none, some (jJ ((w.1 q (1 + (4 * i + j))) + (Int.tdiv (((jabs (w.1 q (1 + (4 * i + k)))) * (w.1 q (1 + (4 * k + j)))) + ((w.1 q (1 + (4 * i + k))) * (jabs (w.1 q (1 + (4 * k + j)))))) 2))), none] [] 0 0 (kA w tb (zset T (4 * i + j) ((w.1 q (1 + (4 * i + j))) + (Int.tdiv (((jabs (w.1 q (1 + (4 * i + k)))) * (w.1 q (1 + (4 * k + j)))) + ((w.1 q (1 + (4 * i + k))) * (jabs (w.1 q (1 + (4 * k + j)))))) 2)))) _
                  refine jWp.blk mt 3 ?_
                  show jWp 176 112 [some (jO m), some (jO q), some (jI (k : Int)), some (jI (i : Int)), some (jI (j : Int)), some (jJ (Int.tdiv (((jabs (w.1 q (1 + (4 * i + k)))) * (w.1 q (1 + (4 * k + j)))) + ((w.1 q (1 + (4 * i + k))) * (jabs (w.1 q (1 + (4 * k + j)))))) 2)), none, some (jJ ((w.1 q (1 + (4 * i + j))) + (Int.tdiv (((jabs (w.1 q (1 + (4 * i + k)))) * (w.1 q (1 + (4 * k + j)))) + ((w.1 q (1 + (4 * i + k))) * (jabs (w.1 q (1 + (4 * k + j)))))) 2))), none] [jJ 9, jJ (-9), jJ ((w.1 q (1 + (4 * i + j))) + (Int.tdiv (((jabs (w.1 q (1 + (4 * i + k)))) * (w.1 q (1 + (4 * k + j)))) + ((w.1 q (1 + (4 * i + k))) * (jabs (w.1 q (1 + (4 * k + j)))))) 2))] 0 0 (kA w tb (zset T (4 * i + j) ((w.1 q (1 + (4 * i + j))) + (Int.tdiv (((jabs (w.1 q (1 + (4 * i + k)))) * (w.1 q (1 + (4 * k + j)))) + ((w.1 q (1 + (4 * i + k))) * (jabs (w.1 q (1 + (4 * k + j)))))) 2)))) _
                  refine jWp.calls (as := [jJ ((w.1 q (1 + (4 * i + j))) + (Int.tdiv (((jabs (w.1 q (1 + (4 * i + k)))) * (w.1 q (1 + (4 * k + j)))) + ((w.1 q (1 + (4 * i + k))) * (jabs (w.1 q (1 + (4 * k + j)))))) 2)), jJ (-9), jJ 9]) (rest := []) mt rfl rfl rfl rfl ?_
                  refine jCall.mono (E_in (b64_id (by omega) (by omega)) (show b64 (-9) = (-9) by decide) (show b64 9 = 9 by decide)) (fun v9 w9 h9 => ?_)
                  rcases h9 with ⟨rfl, h9, h10⟩ | ⟨rfl, h9, h10⟩ <;> subst w9
                  · have h10 : (-9) ≤ ((w.1 q (1 + (4 * i + j))) + (Int.tdiv (((jabs (w.1 q (1 + (4 * i + k)))) * (w.1 q (1 + (4 * k + j)))) + ((w.1 q (1 + (4 * i + k))) * (jabs (w.1 q (1 + (4 * k + j)))))) 2)) ∧ ((w.1 q (1 + (4 * i + j))) + (Int.tdiv (((jabs (w.1 q (1 + (4 * i + k)))) * (w.1 q (1 + (4 * k + j)))) + ((w.1 q (1 + (4 * i + k))) * (jabs (w.1 q (1 + (4 * k + j)))))) 2)) ≤ 9 := h10
                    show jWp 176 115 [some (jO m), some (jO q), some (jI (k : Int)), some (jI (i : Int)), some (jI (j : Int)), some (jJ (Int.tdiv (((jabs (w.1 q (1 + (4 * i + k)))) * (w.1 q (1 + (4 * k + j)))) + ((w.1 q (1 + (4 * i + k))) * (jabs (w.1 q (1 + (4 * k + j)))))) 2)), none, some (jJ ((w.1 q (1 + (4 * i + j))) + (Int.tdiv (((jabs (w.1 q (1 + (4 * i + k)))) * (w.1 q (1 + (4 * k + j)))) + ((w.1 q (1 + (4 * i + k))) * (jabs (w.1 q (1 + (4 * k + j)))))) 2))), none] [jI 1] 0 0 (kA w tb (zset T (4 * i + j) ((w.1 q (1 + (4 * i + j))) + (Int.tdiv (((jabs (w.1 q (1 + (4 * i + k)))) * (w.1 q (1 + (4 * k + j)))) + ((w.1 q (1 + (4 * i + k))) * (jabs (w.1 q (1 + (4 * k + j)))))) 2)))) _
                    have hT9 : ∀ e, e < 4 * i + (j + 1) → zset T (4 * i + j) ((w.1 q (1 + (4 * i + j))) + (Int.tdiv (((jabs (w.1 q (1 + (4 * i + k)))) * (w.1 q (1 + (4 * k + j)))) + ((w.1 q (1 + (4 * i + k))) * (jabs (w.1 q (1 + (4 * k + j)))))) 2)) e = zxe (fun e => w.1 q (1 + e)) k e ∧ -9 ≤ zset T (4 * i + j) ((w.1 q (1 + (4 * i + j))) + (Int.tdiv (((jabs (w.1 q (1 + (4 * i + k)))) * (w.1 q (1 + (4 * k + j)))) + ((w.1 q (1 + (4 * i + k))) * (jabs (w.1 q (1 + (4 * k + j)))))) 2)) e ∧ zset T (4 * i + j) ((w.1 q (1 + (4 * i + j))) + (Int.tdiv (((jabs (w.1 q (1 + (4 * i + k)))) * (w.1 q (1 + (4 * k + j)))) + ((w.1 q (1 + (4 * i + k))) * (jabs (w.1 q (1 + (4 * k + j)))))) 2)) e ≤ 9 := by
                      intro e he
                      by_cases h : e = 4 * i + j
                      · subst h; rw [zset_s, zxe_at _ _ _ _ (by omega)]
                        refine ⟨?_, h10⟩
                        unfold zxb
                        first | rw [if_pos (Or.inl (by omega))] | rw [if_pos (Or.inr (by omega))] | rw [if_neg (by omega)]
                      · rw [zset_n h]; exact hT e (by omega)
                    refine jWp.ifc (b := true) mt rfl (by decide) rfl ?_
                    show jWp 176 120 [some (jO m), some (jO q), some (jI (k : Int)), some (jI (i : Int)), some (jI (j : Int)), some (jJ (Int.tdiv (((jabs (w.1 q (1 + (4 * i + k)))) * (w.1 q (1 + (4 * k + j)))) + ((w.1 q (1 + (4 * i + k))) * (jabs (w.1 q (1 + (4 * k + j)))))) 2)), none, some (jJ ((w.1 q (1 + (4 * i + j))) + (Int.tdiv (((jabs (w.1 q (1 + (4 * i + k)))) * (w.1 q (1 + (4 * k + j)))) + ((w.1 q (1 + (4 * i + k))) * (jabs (w.1 q (1 + (4 * k + j)))))) 2))), none] [] 0 0 (kA w tb (zset T (4 * i + j) ((w.1 q (1 + (4 * i + j))) + (Int.tdiv (((jabs (w.1 q (1 + (4 * i + k)))) * (w.1 q (1 + (4 * k + j)))) + ((w.1 q (1 + (4 * i + k))) * (jabs (w.1 q (1 + (4 * k + j)))))) 2)))) _
                    refine jWp.blk mt 2 ?_
                    show jWp 176 10 [some (jO m), some (jO q), some (jI (k : Int)), some (jI (i : Int)), some (jI ((j : Int) + 1)), some (jJ (Int.tdiv (((jabs (w.1 q (1 + (4 * i + k)))) * (w.1 q (1 + (4 * k + j)))) + ((w.1 q (1 + (4 * i + k))) * (jabs (w.1 q (1 + (4 * k + j)))))) 2)), none, some (jJ ((w.1 q (1 + (4 * i + j))) + (Int.tdiv (((jabs (w.1 q (1 + (4 * i + k)))) * (w.1 q (1 + (4 * k + j)))) + ((w.1 q (1 + (4 * i + k))) * (jabs (w.1 q (1 + (4 * k + j)))))) 2))), none] [] 0 0 (kA w tb (zset T (4 * i + j) ((w.1 q (1 + (4 * i + j))) + (Int.tdiv (((jabs (w.1 q (1 + (4 * i + k)))) * (w.1 q (1 + (4 * k + j)))) + ((w.1 q (1 + (4 * i + k))) * (jabs (w.1 q (1 + (4 * k + j)))))) 2)))) _
                    refine jWp.le (l := [some (jO m), some (jO q), some (jI (k : Int)), some (jI (i : Int)), some (jI ((j : Int) + 1)), none, none, none, none]) (by exact ⟨rfl, rfl, rfl, rfl, rfl, trivial⟩) ?_
                    exact ih5 (j + 1) _ (by omega) hT9 (by omega)
                  · have h10 : ¬ ((-9) ≤ ((w.1 q (1 + (4 * i + j))) + (Int.tdiv (((jabs (w.1 q (1 + (4 * i + k)))) * (w.1 q (1 + (4 * k + j)))) + ((w.1 q (1 + (4 * i + k))) * (jabs (w.1 q (1 + (4 * k + j)))))) 2)) ∧ ((w.1 q (1 + (4 * i + j))) + (Int.tdiv (((jabs (w.1 q (1 + (4 * i + k)))) * (w.1 q (1 + (4 * k + j)))) + ((w.1 q (1 + (4 * i + k))) * (jabs (w.1 q (1 + (4 * k + j)))))) 2)) ≤ 9) := h10
                    show jWp 176 115 [some (jO m), some (jO q), some (jI (k : Int)), some (jI (i : Int)), some (jI (j : Int)), some (jJ (Int.tdiv (((jabs (w.1 q (1 + (4 * i + k)))) * (w.1 q (1 + (4 * k + j)))) + ((w.1 q (1 + (4 * i + k))) * (jabs (w.1 q (1 + (4 * k + j)))))) 2)), none, some (jJ ((w.1 q (1 + (4 * i + j))) + (Int.tdiv (((jabs (w.1 q (1 + (4 * i + k)))) * (w.1 q (1 + (4 * k + j)))) + ((w.1 q (1 + (4 * i + k))) * (jabs (w.1 q (1 + (4 * k + j)))))) 2))), none] [jI 0] 0 0 (kA w tb (zset T (4 * i + j) ((w.1 q (1 + (4 * i + j))) + (Int.tdiv (((jabs (w.1 q (1 + (4 * i + k)))) * (w.1 q (1 + (4 * k + j)))) + ((w.1 q (1 + (4 * i + k))) * (jabs (w.1 q (1 + (4 * k + j)))))) 2)))) _
                    refine jWp.ifc (b := false) mt rfl (by decide) rfl ?_
                    show jWp 176 118 [some (jO m), some (jO q), some (jI (k : Int)), some (jI (i : Int)), some (jI (j : Int)), some (jJ (Int.tdiv (((jabs (w.1 q (1 + (4 * i + k)))) * (w.1 q (1 + (4 * k + j)))) + ((w.1 q (1 + (4 * i + k))) * (jabs (w.1 q (1 + (4 * k + j)))))) 2)), none, some (jJ ((w.1 q (1 + (4 * i + j))) + (Int.tdiv (((jabs (w.1 q (1 + (4 * i + k)))) * (w.1 q (1 + (4 * k + j)))) + ((w.1 q (1 + (4 * i + k))) * (jabs (w.1 q (1 + (4 * k + j)))))) 2))), none] [] 0 0 (kA w tb (zset T (4 * i + j) ((w.1 q (1 + (4 * i + j))) + (Int.tdiv (((jabs (w.1 q (1 + (4 * i + k)))) * (w.1 q (1 + (4 * k + j)))) + ((w.1 q (1 + (4 * i + k))) * (jabs (w.1 q (1 + (4 * k + j)))))) 2)))) _
                    refine jWp.blk mt 1 ?_
                    show jWp 176 119 [some (jO m), some (jO q), some (jI (k : Int)), some (jI (i : Int)), some (jI (j : Int)), some (jJ (Int.tdiv (((jabs (w.1 q (1 + (4 * i + k)))) * (w.1 q (1 + (4 * k + j)))) + ((w.1 q (1 + (4 * i + k))) * (jabs (w.1 q (1 + (4 * k + j)))))) 2)), none, some (jJ ((w.1 q (1 + (4 * i + j))) + (Int.tdiv (((jabs (w.1 q (1 + (4 * i + k)))) * (w.1 q (1 + (4 * k + j)))) + ((w.1 q (1 + (4 * i + k))) * (jabs (w.1 q (1 + (4 * k + j)))))) 2))), none] [jI 0] 0 0 (kA w tb (zset T (4 * i + j) ((w.1 q (1 + (4 * i + j))) + (Int.tdiv (((jabs (w.1 q (1 + (4 * i + k)))) * (w.1 q (1 + (4 * k + j)))) + ((w.1 q (1 + (4 * i + k))) * (jabs (w.1 q (1 + (4 * k + j)))))) 2)))) _
                    refine jWp.iretz mt rfl ⟨rfl, rfl⟩ rfl (Or.inl rfl) ?_
                    refine ⟨_, rfl, Or.inr ⟨rfl, fun hz => ?_⟩⟩
                    have hz := hz (4 * i + j) (by omega)
                    rw [zxe_at _ _ _ _ (by omega)] at hz
                    unfold zxb at hz
                    first
                    | (rw [if_pos (Or.inl (by omega))] at hz; contradiction)
                    | (rw [if_pos (Or.inr (by omega))] at hz; contradiction)
                    | (rw [if_neg (by omega)] at hz; contradiction)
                · have h9 : (j : Int) = (k : Int) := h9
                  refine jWp.blk mt 3 ?_
                  show _ ∧ jWp 176 72 [some (jO m), some (jO q), some (jI (k : Int)), some (jI (i : Int)), some (jI (j : Int)), some (jJ (Int.tdiv (((jabs (w.1 q (1 + (4 * i + k)))) * (w.1 q (1 + (4 * k + j)))) + ((w.1 q (1 + (4 * i + k))) * (jabs (w.1 q (1 + (4 * k + j)))))) 2)), none, none, none] [jI (j : Int), jI (i : Int), jO q] 0 0 (kA w tb T) _
                  refine ⟨rfl, ?_⟩
                  refine jWp.calls (as := [jO q, jI (i : Int), jI (j : Int)]) (rest := []) mt rfl rfl rfl rfl ?_
                  refine jCall.mono ((show jCall 163 [jO q, jI (i : Int), jI (j : Int)] (kA w tb T) (jvj (w.1 q (1 + (4 * i + j))) (kA w tb T)) from by have h := E_b (w := (kA w tb T)) (i := i) (k := j) hq (by omega) (by omega) (by omega); rw [kA_a hqt] at h; exact h)) (fun v9 w9 h9 => ?_)
                  obtain ⟨rfl, h9⟩ := h9
                  subst w9
                  show jWp 176 75 [some (jO m), some (jO q), some (jI (k : Int)), some (jI (i : Int)), some (jI (j : Int)), some (jJ (Int.tdiv (((jabs (w.1 q (1 + (4 * i + k)))) * (w.1 q (1 + (4 * k + j)))) + ((w.1 q (1 + (4 * i + k))) * (jabs (w.1 q (1 + (4 * k + j)))))) 2)), none, none, none] [jJ (w.1 q (1 + (4 * i + j)))] 0 0 (kA w tb T) _
                  refine jWp.blk mt 4 ?_
                  show _ ∧ jWp 176 92 [some (jO m), some (jO q), some (jI (k : Int)), some (jI (i : Int)), some (jI (j : Int)), some (jJ (Int.tdiv (((jabs (w.1 q (1 + (4 * i + k)))) * (w.1 q (1 + (4 * k + j)))) + ((w.1 q (1 + (4 * i + k))) * (jabs (w.1 q (1 + (4 * k + j)))))) 2)), none, some (jJ (-(w.1 q (1 + (4 * i + j))))), none] [jO m] 0 0 (kA w tb T) _
                  refine ⟨rfl, ?_⟩
                  refine jWp.getR (pc' := 95) (o := tb) mt rfl rfl (jtg hM) ht ?_
                  show jWp 176 95 [some (jO m), some (jO q), some (jI (k : Int)), some (jI (i : Int)), some (jI (j : Int)), some (jJ (Int.tdiv (((jabs (w.1 q (1 + (4 * i + k)))) * (w.1 q (1 + (4 * k + j)))) + ((w.1 q (1 + (4 * i + k))) * (jabs (w.1 q (1 + (4 * k + j)))))) 2)), none, some (jJ (-(w.1 q (1 + (4 * i + j))))), none] [jO tb] 0 0 (kA w tb T) _
                  refine jWp.blk mt 6 ?_
                  show jWp 176 103 [some (jO m), some (jO q), some (jI (k : Int)), some (jI (i : Int)), some (jI (j : Int)), some (jJ (Int.tdiv (((jabs (w.1 q (1 + (4 * i + k)))) * (w.1 q (1 + (4 * k + j)))) + ((w.1 q (1 + (4 * i + k))) * (jabs (w.1 q (1 + (4 * k + j)))))) 2)), none, some (jJ (-(w.1 q (1 + (4 * i + j))))), none] [jJ (-(w.1 q (1 + (4 * i + j)))), jI ((4 * (i : Int)) + (j : Int)), jO tb] 0 0 (kA w tb T) _
                  refine jWp.last (pc' := 104) (j := (4 * i + j)) mt rfl rfl (jtg htb) (by rw [b32_id (by omega) (by omega)]; omega) (jlt htb (by omega)) ?_
                  rw [show jW (kA w tb T) tb (4 * i + j) (-(w.1 q (1 + (4 * i + j)))) = (kA w tb (zset T (4 * i + j) (-(w.1 q (1 + (4 * i + j)))))) from kA_W]
                  show jWp 176 104 [some (jO m), some (jO q), some (jI (k : Int)), some (jI (i : Int)), some (jI (j : Int)), some (jJ (Int.tdiv (((jabs (w.1 q (1 + (4 * i + k)))) * (w.1 q (1 + (4 * k + j)))) + ((w.1 q (1 + (4 * i + k))) * (jabs (w.1 q (1 + (4 * k + j)))))) 2)), none, some (jJ (-(w.1 q (1 + (4 * i + j))))), none] [] 0 0 (kA w tb (zset T (4 * i + j) (-(w.1 q (1 + (4 * i + j)))))) _
                  refine jWp.blk mt 3 ?_
                  show jWp 176 112 [some (jO m), some (jO q), some (jI (k : Int)), some (jI (i : Int)), some (jI (j : Int)), some (jJ (Int.tdiv (((jabs (w.1 q (1 + (4 * i + k)))) * (w.1 q (1 + (4 * k + j)))) + ((w.1 q (1 + (4 * i + k))) * (jabs (w.1 q (1 + (4 * k + j)))))) 2)), none, some (jJ (-(w.1 q (1 + (4 * i + j))))), none] [jJ 9, jJ (-9), jJ (-(w.1 q (1 + (4 * i + j))))] 0 0 (kA w tb (zset T (4 * i + j) (-(w.1 q (1 + (4 * i + j)))))) _
                  refine jWp.calls (as := [jJ (-(w.1 q (1 + (4 * i + j)))), jJ (-9), jJ 9]) (rest := []) mt rfl rfl rfl rfl ?_
                  refine jCall.mono (E_in (b64_id (by omega) (by omega)) (show b64 (-9) = (-9) by decide) (show b64 9 = 9 by decide)) (fun v9 w9 h9 => ?_)
                  rcases h9 with ⟨rfl, h9, h11⟩ | ⟨rfl, h9, h11⟩ <;> subst w9
                  · have h11 : (-9) ≤ (-(w.1 q (1 + (4 * i + j)))) ∧ (-(w.1 q (1 + (4 * i + j)))) ≤ 9 := h11
                    show jWp 176 115 [some (jO m), some (jO q), some (jI (k : Int)), some (jI (i : Int)), some (jI (j : Int)), some (jJ (Int.tdiv (((jabs (w.1 q (1 + (4 * i + k)))) * (w.1 q (1 + (4 * k + j)))) + ((w.1 q (1 + (4 * i + k))) * (jabs (w.1 q (1 + (4 * k + j)))))) 2)), none, some (jJ (-(w.1 q (1 + (4 * i + j))))), none] [jI 1] 0 0 (kA w tb (zset T (4 * i + j) (-(w.1 q (1 + (4 * i + j)))))) _
                    have hT9 : ∀ e, e < 4 * i + (j + 1) → zset T (4 * i + j) (-(w.1 q (1 + (4 * i + j)))) e = zxe (fun e => w.1 q (1 + e)) k e ∧ -9 ≤ zset T (4 * i + j) (-(w.1 q (1 + (4 * i + j)))) e ∧ zset T (4 * i + j) (-(w.1 q (1 + (4 * i + j)))) e ≤ 9 := by
                      intro e he
                      by_cases h : e = 4 * i + j
                      · subst h; rw [zset_s, zxe_at _ _ _ _ (by omega)]
                        refine ⟨?_, h11⟩
                        unfold zxb
                        first | rw [if_pos (Or.inl (by omega))] | rw [if_pos (Or.inr (by omega))] | rw [if_neg (by omega)]
                      · rw [zset_n h]; exact hT e (by omega)
                    refine jWp.ifc (b := true) mt rfl (by decide) rfl ?_
                    show jWp 176 120 [some (jO m), some (jO q), some (jI (k : Int)), some (jI (i : Int)), some (jI (j : Int)), some (jJ (Int.tdiv (((jabs (w.1 q (1 + (4 * i + k)))) * (w.1 q (1 + (4 * k + j)))) + ((w.1 q (1 + (4 * i + k))) * (jabs (w.1 q (1 + (4 * k + j)))))) 2)), none, some (jJ (-(w.1 q (1 + (4 * i + j))))), none] [] 0 0 (kA w tb (zset T (4 * i + j) (-(w.1 q (1 + (4 * i + j)))))) _
                    refine jWp.blk mt 2 ?_
                    show jWp 176 10 [some (jO m), some (jO q), some (jI (k : Int)), some (jI (i : Int)), some (jI ((j : Int) + 1)), some (jJ (Int.tdiv (((jabs (w.1 q (1 + (4 * i + k)))) * (w.1 q (1 + (4 * k + j)))) + ((w.1 q (1 + (4 * i + k))) * (jabs (w.1 q (1 + (4 * k + j)))))) 2)), none, some (jJ (-(w.1 q (1 + (4 * i + j))))), none] [] 0 0 (kA w tb (zset T (4 * i + j) (-(w.1 q (1 + (4 * i + j)))))) _
                    refine jWp.le (l := [some (jO m), some (jO q), some (jI (k : Int)), some (jI (i : Int)), some (jI ((j : Int) + 1)), none, none, none, none]) (by exact ⟨rfl, rfl, rfl, rfl, rfl, trivial⟩) ?_
                    exact ih5 (j + 1) _ (by omega) hT9 (by omega)
                  · have h11 : ¬ ((-9) ≤ (-(w.1 q (1 + (4 * i + j)))) ∧ (-(w.1 q (1 + (4 * i + j)))) ≤ 9) := h11
                    show jWp 176 115 [some (jO m), some (jO q), some (jI (k : Int)), some (jI (i : Int)), some (jI (j : Int)), some (jJ (Int.tdiv (((jabs (w.1 q (1 + (4 * i + k)))) * (w.1 q (1 + (4 * k + j)))) + ((w.1 q (1 + (4 * i + k))) * (jabs (w.1 q (1 + (4 * k + j)))))) 2)), none, some (jJ (-(w.1 q (1 + (4 * i + j))))), none] [jI 0] 0 0 (kA w tb (zset T (4 * i + j) (-(w.1 q (1 + (4 * i + j)))))) _
                    refine jWp.ifc (b := false) mt rfl (by decide) rfl ?_
                    show jWp 176 118 [some (jO m), some (jO q), some (jI (k : Int)), some (jI (i : Int)), some (jI (j : Int)), some (jJ (Int.tdiv (((jabs (w.1 q (1 + (4 * i + k)))) * (w.1 q (1 + (4 * k + j)))) + ((w.1 q (1 + (4 * i + k))) * (jabs (w.1 q (1 + (4 * k + j)))))) 2)), none, some (jJ (-(w.1 q (1 + (4 * i + j))))), none] [] 0 0 (kA w tb (zset T (4 * i + j) (-(w.1 q (1 + (4 * i + j)))))) _
                    refine jWp.blk mt 1 ?_
                    show jWp 176 119 [some (jO m), some (jO q), some (jI (k : Int)), some (jI (i : Int)), some (jI (j : Int)), some (jJ (Int.tdiv (((jabs (w.1 q (1 + (4 * i + k)))) * (w.1 q (1 + (4 * k + j)))) + ((w.1 q (1 + (4 * i + k))) * (jabs (w.1 q (1 + (4 * k + j)))))) 2)), none, some (jJ (-(w.1 q (1 + (4 * i + j))))), none] [jI 0] 0 0 (kA w tb (zset T (4 * i + j) (-(w.1 q (1 + (4 * i + j)))))) _
                    refine jWp.iretz mt rfl ⟨rfl, rfl⟩ rfl (Or.inl rfl) ?_
                    refine ⟨_, rfl, Or.inr ⟨rfl, fun hz => ?_⟩⟩
                    have hz := hz (4 * i + j) (by omega)
                    rw [zxe_at _ _ _ _ (by omega)] at hz
                    unfold zxb at hz
                    first
                    | (rw [if_pos (Or.inl (by omega))] at hz; contradiction)
                    | (rw [if_pos (Or.inr (by omega))] at hz; contradiction)
                    | (rw [if_neg (by omega)] at hz; contradiction)
        refine jWp.le (l := [some (jO m), some (jO q), some (jI (k : Int)), some (jI (i : Int)), some (jI 0), none, none, none, none]) (by exact ⟨rfl, rfl, rfl, rfl, rfl, trivial⟩) ?_
        exact lp4 _ 0 T (by omega) (fun e he => hT e (by omega)) (Nat.lt_succ_self _)
  refine jWp.le (l := [some (jO m), some (jO q), some (jI (k : Int)), some (jI 0), none, none, none, none, none]) (by exact ⟨rfl, rfl, rfl, rfl, trivial⟩) ?_
  have key := lp1 _ 0 (w.1 tb) (by omega) (fun e he => absurd he (by omega)) (Nat.lt_succ_self _)
  rw [kA_self] at key
  exact key
