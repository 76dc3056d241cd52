theorem zmk_sm {q : Nat → Int} {n k : Nat} {sg : Int} {p : Int × Int} (hS : zS q n) (hk : k < 4) (h : zmk q n k sg = some p) : zsm p := by
  have ht : ∀ (x y : Int) (hx : zsm (x, y)) (t : Nat) (p r : Int × Int), zsm p → zmt x y t p = some r → zsm r := by
    intro x y hx t
    induction t with
    | zero => intro p r hp h; cases h; exact hp
    | succ t ih =>
      intro p r hp h
      unfold zmt at h
      split at h
      · rename_i hz
        have a1 := zmul_b hp.1 hp.2.1 hx.1 hx.2.1
        have a2 := zmul_b hp.2.2.1 hp.2.2.2 hx.2.2.1 hx.2.2.2
        exact ih _ _ (zok_sm (a := p.1 * x) (b := p.2 * y) a1.1 a2.1 hz) h
      · cases h
  have hl : ∀ (r i : Nat) (p s : Int × Int), i + r ≤ 4 → zsm p → zml (fun i => q (21 + i)) (fun i => q (25 + i)) (fun i => sg * q (1 + (4 * i + k))) r i p = some s → zsm s := by
    intro r
    induction r with
    | zero => intro i p s _ hp h; cases h; exact hp
    | succ r ih =>
      intro i p s hi hp h
      unfold zml at h
      cases hz : zmt (q (21 + i)) (q (25 + i)) (sg * q (1 + (4 * i + k))).toNat p with
      | none => rw [hz] at h; cases h
      | some p' =>
        rw [hz] at h
        exact ih (i + 1) p' s (by omega) (ht _ _ (hS.v i (by omega)) _ _ _ hp hz) h
  exact hl n 0 (1, 1) p (by have := hS.n4; omega) (by decide) h
/-- a seed of so many letters, all new -/
def zNw (n : Nat) : Nat → Int := fun j => if j = 0 then (n : Int) else if j < 17 then 0 else if j < 29 then 1 else if (j - 29) / 4 = (j - 29) % 4 then -1 else 0
/-- a seed that begins anew -/
def zBg (q : Nat → Int) : Nat → Int := fun j => if j < 21 then q j else if j < 25 then q (j - 4) else if j < 29 then 1 else if (j - 29) / 4 = (j - 29) % 4 then -1 else 0
/-- a seed with two letters changed -/
def zSp (q : Nat → Int) (i j : Nat) : Nat → Int := fun x => if x = 0 then q 0 else if x < 17 then q (1 + (4 * zsw i j ((x - 1) / 4) + zsw i j ((x - 1) % 4))) else if x < 21 then q (17 + zsw i j (x - 17)) else if x < 25 then q (21 + zsw i j (x - 21)) else if x < 29 then q (25 + zsw i j (x - 25)) else q (29 + (4 * zsw i j ((x - 29) / 4) + zsw i j ((x - 29) % 4)))
theorem zdgl {S : Nat → Int} (h : ∀ i c, i < 4 → c < 4 → S (29 + 4 * i + c) = if i = c then -1 else 0) {j : Nat} (h1 : 29 ≤ j) (h2 : j < 45) : S j = if (j - 29) / 4 = (j - 29) % 4 then -1 else 0 := by
  have := h ((j - 29) / 4) ((j - 29) % 4) (by omega) (by omega)
  rw [show 29 + 4 * ((j - 29) / 4) + (j - 29) % 4 = j by omega] at this
  exact this
theorem znew_e {S : Nat → Int} {n : Nat} (h : znew S n) : zeq S (zNw n) := by
  intro j hj
  unfold zNw
  by_cases h0 : j = 0
  · rw [if_pos h0, h0]
    exact h.1
  · rw [if_neg h0]
    by_cases h1 : j < 17
    · rw [if_pos h1, show j = 1 + (j - 1) by omega]
      exact h.2.1 _ (by omega)
    · rw [if_neg h1]
      by_cases h2 : j < 29
      · rw [if_pos h2]
        rcases (show j < 21 ∨ (21 ≤ j ∧ j < 25) ∨ 25 ≤ j by omega) with g | g | g
        · have := (h.2.2.1 (j - 17) (by omega)).1
          rw [show 17 + (j - 17) = j by omega] at this
          exact this
        · have := (h.2.2.1 (j - 21) (by omega)).2.1
          rw [show 21 + (j - 21) = j by omega] at this
          exact this
        · have := (h.2.2.1 (j - 25) (by omega)).2.2
          rw [show 25 + (j - 25) = j by omega] at this
          exact this
      · rw [if_neg h2]
        exact zdgl h.2.2.2 (by omega) hj
theorem zbg_e {q S : Nat → Int} (h : zbg q S) : zeq S (zBg q) := by
  intro j hj
  unfold zBg
  by_cases h0 : j < 21
  · rw [if_pos h0]
    exact h.1 j h0
  · rw [if_neg h0]
    by_cases h1 : j < 25
    · have := (h.2.1 (j - 21) (by omega)).1
      rw [show 21 + (j - 21) = j by omega, show 17 + (j - 21) = j - 4 by omega] at this
      rw [if_pos h1]
      exact this
    · rw [if_neg h1]
      by_cases h2 : j < 29
      · have := (h.2.1 (j - 25) (by omega)).2
        rw [show 25 + (j - 25) = j by omega] at this
        rw [if_pos h2]
        exact this
      · rw [if_neg h2]
        exact zdgl h.2.2 (by omega) hj
theorem zsw_4 {i j x : Nat} (hi : i < 4) (hj : j < 4) (hx : x < 4) : zsw i j x < 4 := by
  unfold zsw
  split
  · exact hj
  · split <;> omega
theorem zswp_e {q S : Nat → Int} {i j : Nat} (h : zswp q S i j) : zeq S (zSp q i j) := by
  intro x hx
  unfold zSp
  by_cases h0 : x = 0
  · rw [if_pos h0, h0]
    exact h.1
  · rw [if_neg h0]
    by_cases h1 : x < 17
    · have := h.2.2.1 ((x - 1) / 4) ((x - 1) % 4) (by omega) (by omega)
      rw [show 1 + (4 * ((x - 1) / 4) + (x - 1) % 4) = x by omega] at this
      rw [if_pos h1]
      exact this
    · rw [if_neg h1]
      by_cases h2 : x < 21
      · have := (h.2.1 (x - 17) (by omega)).1
        rw [show 17 + (x - 17) = x by omega] at this
        rw [if_pos h2]
        exact this
      · rw [if_neg h2]
        by_cases h3 : x < 25
        · have := (h.2.1 (x - 21) (by omega)).2.1
          rw [show 21 + (x - 21) = x by omega] at this
          rw [if_pos h3]
          exact this
        · rw [if_neg h3]
          by_cases h4 : x < 29
          · have := (h.2.1 (x - 25) (by omega)).2.2
            rw [show 25 + (x - 25) = x by omega] at this
            rw [if_pos h4]
            exact this
          · have := h.2.2.2 ((x - 29) / 4) ((x - 29) % 4) (by omega) (by omega)
            rw [show 29 + (4 * ((x - 29) / 4) + (x - 29) % 4) = x by omega] at this
            rw [if_neg h4]
            exact this
theorem zBg_c {S q : Nat → Int} (h : zeq S q) : zeq (zBg S) (zBg q) := by
  intro j hj
  unfold zBg
  rw [h j hj, h (j - 4) (by omega)]
theorem zset_c {S q : Nat → Int} {k : Nat} {x : Int} (h : zeq S q) : zeq (zset S k x) (zset q k x) := by
  intro j hj
  unfold zset
  rw [h j hj]
theorem zSp_c {S q : Nat → Int} {i j : Nat} (hi : i < 4) (hj : j < 4) (h : zeq S q) : zeq (zSp S i j) (zSp q i j) := by
  intro x hx
  unfold zSp
  have a : ∀ y, y < 4 → zsw i j y < 4 := fun y hy => zsw_4 hi hj hy
  by_cases h0 : x = 0
  · rw [if_pos h0, if_pos h0]
    exact h 0 (by omega)
  · rw [if_neg h0, if_neg h0]
    by_cases h1 : x < 17
    · have b := a ((x - 1) / 4) (by omega)
      have c := a ((x - 1) % 4) (by omega)
      rw [if_pos h1, if_pos h1]
      exact h _ (by omega)
    · rw [if_neg h1, if_neg h1]
      by_cases h2 : x < 21
      · have b := a (x - 17) (by omega)
        rw [if_pos h2, if_pos h2]
        exact h _ (by omega)
      · rw [if_neg h2, if_neg h2]
        by_cases h3 : x < 25
        · have b := a (x - 21) (by omega)
          rw [if_pos h3, if_pos h3]
          exact h _ (by omega)
        · rw [if_neg h3, if_neg h3]
          by_cases h4 : x < 29
          · have b := a (x - 25) (by omega)
            rw [if_pos h4, if_pos h4]
            exact h _ (by omega)
          · have b := a ((x - 29) / 4) (by omega)
            have c := a ((x - 29) % 4) (by omega)
            rw [if_neg h4, if_neg h4]
            exact h _ (by omega)
/-- a seed as it always is -/
def zQ (q : Nat → Int) (n : Nat) : Prop := zS q n ∧ (∀ i, i < 4 → 1 ≤ q (17 + i) ∧ q (17 + i) ≤ 9) ∧ (∀ i j, i < 4 → j < 4 → n ≤ i ∨ n ≤ j → q (1 + (4 * i + j)) = 0) ∧ (∀ i j, i < 4 → j < 4 → q (1 + (4 * i + j)) = -(q (1 + (4 * j + i)))) ∧ ∀ i, i < 4 → zg (q (21 + i)) (q (25 + i)) = 1
theorem zQ.S {q : Nat → Int} {n : Nat} (h : zQ q n) : zS q n := h.1
theorem zQ.s {q : Nat → Int} {n : Nat} (h : zQ q n) : ∀ i, i < 4 → 1 ≤ q (17 + i) ∧ q (17 + i) ≤ 9 := h.2.1
theorem zQ.z {q : Nat → Int} {n : Nat} (h : zQ q n) : ∀ i j, i < 4 → j < 4 → n ≤ i ∨ n ≤ j → q (1 + (4 * i + j)) = 0 := h.2.2.1
theorem zQ.a {q : Nat → Int} {n : Nat} (h : zQ q n) : ∀ i j, i < 4 → j < 4 → q (1 + (4 * i + j)) = -(q (1 + (4 * j + i))) := h.2.2.2.1
theorem zQ.g {q : Nat → Int} {n : Nat} (h : zQ q n) : ∀ i, i < 4 → zg (q (21 + i)) (q (25 + i)) = 1 := h.2.2.2.2
theorem zQ_c {S q : Nat → Int} {n : Nat} (h : zeq S q) (hq : zQ q n) : zQ S n :=
  ⟨zeq_S h hq.S, fun i hi => by rw [h _ (by omega)]; exact hq.s i hi, fun i j hi hj g => by rw [h _ (by omega)]; exact hq.z i j hi hj g, fun i j hi hj => by rw [h _ (by omega), h (1 + (4 * j + i)) (by omega)]; exact hq.a i j hi hj, fun i hi => by rw [h _ (by omega), h (25 + i) (by omega)]; exact hq.g i hi⟩
theorem zg_11 {s : Int} : zg s 1 = 1 := by
  unfold zg
  rw [Int.gcd_one_right]
  rfl
theorem zQ_bg {q : Nat → Int} {n : Nat} (h0 : q 0 = (n : Int)) (h2 : 2 ≤ n) (h4 : n ≤ 4) (hb : ∀ j, j < 16 → -9 ≤ q (1 + j) ∧ q (1 + j) ≤ 9) (hs : ∀ i, i < 4 → 1 ≤ q (17 + i) ∧ q (17 + i) ≤ 9) (hz : ∀ i j, i < 4 → j < 4 → n ≤ i ∨ n ≤ j → q (1 + (4 * i + j)) = 0) (ha : ∀ i j, i < 4 → j < 4 → q (1 + (4 * i + j)) = -(q (1 + (4 * j + i)))) : zQ (zBg q) n := by
  have e0 : ∀ j, j < 21 → zBg q j = q j := fun j hj => if_pos hj
  have eu : ∀ i, i < 4 → zBg q (21 + i) = q (17 + i) := fun i hi => by
    unfold zBg
    rw [if_neg (by omega), if_pos (by omega), show 21 + i - 4 = 17 + i by omega]
  have ed : ∀ i, i < 4 → zBg q (25 + i) = 1 := fun i hi => by
    unfold zBg
    rw [if_neg (by omega), if_neg (by omega), if_pos (by omega)]
  refine ⟨⟨(e0 0 (by omega)).trans h0, h2, h4, fun i hi => ?_, fun j hj => by rw [e0 _ (by omega)]; exact hb j hj⟩, fun i hi => by rw [e0 _ (by omega)]; exact hs i hi, fun i j hi hj g => by rw [e0 _ (by omega)]; exact hz i j hi hj g, fun i j hi hj => by rw [e0 _ (by omega), e0 (1 + (4 * j + i)) (by omega)]; exact ha i j hi hj, fun i hi => by rw [eu i hi, ed i hi]; exact zg_11⟩
  rw [eu i hi, ed i hi]
  have := hs i hi
  exact ⟨this.1, by show q (17 + i) ≤ 1000000000; omega, (by decide : (1 : Int) ≤ 1), (by decide : (1 : Int) ≤ 1000000000)⟩
theorem zQ_new {n : Nat} (h2 : 2 ≤ n) (h4 : n ≤ 4) : zQ (zNw n) n := by
  have e0 : zNw n 0 = (n : Int) := rfl
  have eb : ∀ j, j < 16 → zNw n (1 + j) = 0 := fun j hj => by
    unfold zNw
    rw [if_neg (by omega), if_pos (by omega)]
  have e1 : ∀ j, 17 ≤ j → j < 29 → zNw n j = 1 := fun j hj hj2 => by
    unfold zNw
    rw [if_neg (by omega), if_neg (by omega), if_pos (by omega)]
  refine ⟨⟨e0, h2, h4, fun i hi => ?_, fun j hj => by rw [eb j hj]; decide⟩, fun i hi => by rw [e1 _ (by omega) (by omega)]; decide, fun i j hi hj g => eb _ (by omega), fun i j hi hj => by rw [eb _ (by omega), eb (4 * j + i) (by omega)]; rfl, fun i hi => by rw [e1 _ (by omega) (by omega), e1 (25 + i) (by omega) (by omega)]; exact zg_11⟩
  rw [e1 (21 + i) (by omega) (by omega), e1 (25 + i) (by omega) (by omega)]
  decide
theorem zQ_st {q : Nat → Int} {n i : Nat} {v : Int} (hq : zQ q n) (hi : i < n) (hv : 1 ≤ v ∧ v ≤ 9) : zQ (zBg (zset q (17 + i) v)) n := by
  have hn := hq.S.n4
  refine zQ_bg (by rw [zset_n (by omega)]; exact hq.S.n0) hq.S.n2 hn (fun j hj => by rw [zset_n (by omega)]; exact hq.S.b j hj) (fun x hx => ?_) (fun a b ha hb g => by rw [zset_n (by omega)]; exact hq.z a b ha hb g) (fun a b ha hb => by rw [zset_n (by omega), zset_n (by omega)]; exact hq.a a b ha hb)
  by_cases e : x = i
  · rw [e, zset_s]
    exact hv
  · rw [zset_n (by omega)]
    exact hq.s x hx
theorem zQ_tb {q : Nat → Int} {n i j : Nat} {v : Int} (hq : zQ q n) (hi : i < n) (hj : j < n) (hij : i ≠ j) (hv : -9 ≤ v ∧ v ≤ 9) : zQ (zBg (zset (zset q (1 + (4 * i + j)) v) (1 + (4 * j + i)) (-v))) n := by
  have hn := hq.S.n4
  have e : ∀ a b, a < 4 → b < 4 → zset (zset q (1 + (4 * i + j)) v) (1 + (4 * j + i)) (-v) (1 + (4 * a + b)) = if a = i ∧ b = j then v else if a = j ∧ b = i then -v else q (1 + (4 * a + b)) := by
    intro a b ha hb
    by_cases h1 : a = i ∧ b = j
    · rw [if_pos h1, h1.1, h1.2, zset_n (by omega), zset_s]
    · rw [if_neg h1]
      by_cases h2 : a = j ∧ b = i
      · rw [if_pos h2, h2.1, h2.2, zset_s]
      · rw [if_neg h2, zset_n (by omega), zset_n (by omega)]
  refine zQ_bg (by rw [zset_n (by omega), zset_n (by omega)]; exact hq.S.n0) hq.S.n2 hn (fun x hx => ?_) (fun x hx => by rw [zset_n (by omega), zset_n (by omega)]; exact hq.s x hx) (fun a b ha hb g => ?_) (fun a b ha hb => ?_)
  · have := e (x / 4) (x % 4) (by omega) (by omega)
    rw [show 1 + (4 * (x / 4) + x % 4) = 1 + x by omega] at this
    rw [this]
    have := hq.S.b x hx
    split
    · omega
    · split <;> omega
  · rw [e a b ha hb, if_neg (by omega), if_neg (by omega)]
    exact hq.z a b ha hb g
  · rw [e a b ha hb, e b a hb ha]
    have := hq.a a b ha hb
    by_cases h1 : a = i ∧ b = j
    · rw [if_pos h1, if_neg (by omega), if_pos (by omega)]
      omega
    · rw [if_neg h1]
      by_cases h2 : a = j ∧ b = i
      · rw [if_pos h2, if_pos (by omega)]
      · rw [if_neg h2, if_neg (by omega), if_neg (by omega)]
        exact this
theorem zg_uv {a b : Int} (ha : 0 < a) (hb : 0 < b) : zg (zu a b) (zv a b) = 1 := by
  have hg := zg_pos (a := a) hb
  unfold zu zv
  rw [Int.tdiv_eq_ediv_of_nonneg (by omega), Int.tdiv_eq_ediv_of_nonneg (by omega)]
  unfold zg at hg ⊢
  have h := Int.gcd_ediv_gcd_ediv_gcd (i := a) (j := b) (by omega)
  rw [h]
  rfl
/-- what an exchange makes is in least terms -/
theorem zxv_g {q : Nat → Int} {n k : Nat} {p : Int × Int} (hS : zS q n) (hk : k < 4) (h : zxv q n k = some p) : zg p.1 p.2 = 1 := by
  unfold zxv at h
  cases h1 : zmk q n k 1 with
  | none => rw [h1] at h; cases h
  | some a =>
    cases h2 : zmk q n k (-1) with
    | none => rw [h1, h2] at h; cases h
    | some b =>
      rw [h1, h2] at h
      dsimp only at h
      have s1 := zmk_sm hS hk h1
      have s2 := zmk_sm hS hk h2
      have q1 := zmul_b s1.1 s1.2.1 s2.2.2.1 s2.2.2.2
      have q2 := zmul_b s2.1 s2.2.1 s1.2.2.1 s1.2.2.2
      have q3 := zmul_b s1.2.2.1 s1.2.2.2 s2.2.2.1 s2.2.2.2
      split at h
      · rename_i z1
        have g1 := zok_sm (by omega) (by omega) z1
        have hv := hS.v k hk
        have g2 := zmul_b g1.1 g1.2.1 hv.2.2.1 hv.2.2.2
        have g3 := zmul_b g1.2.2.1 g1.2.2.2 hv.1 hv.2.1
        split at h
        · cases h
          exact zg_uv (Int.lt_of_lt_of_le (by decide : (0 : Int) < 1) g2.1) (Int.lt_of_lt_of_le (by decide : (0 : Int) < 1) g3.1)
        · cases h
      · cases h
theorem zxb_z {q : Nat → Int} {n k i j : Nat} (hq : zQ q n) (hk : k < 4) (hi : i < 4) (hj : j < 4) (g : n ≤ i ∨ n ≤ j) : zxb (fun e => q (1 + e)) k i j = 0 := by
  unfold zxb
  dsimp only
  rw [hq.z i j hi hj g]
  split
  · rfl
  · rcases g with g | g
    · rw [hq.z i k hi hk (Or.inl g)]
      show 0 + Int.tdiv (jabs 0 * _ + 0 * _) 2 = 0
      rw [show jabs 0 = 0 from rfl, Int.zero_mul, Int.zero_mul]
      rfl
    · rw [hq.z k j hk hj (Or.inr g)]
      show 0 + Int.tdiv (_ * 0 + _ * jabs 0) 2 = 0
      rw [show jabs 0 = 0 from rfl, Int.mul_zero, Int.mul_zero]
      rfl
theorem jabs_neg (x : Int) : jabs (-x) = jabs x := by
  unfold jabs
  split <;> split <;> omega
theorem zxb_a {q : Nat → Int} {n k i j : Nat} (hq : zQ q n) (hk : k < 4) (hi : i < 4) (hj : j < 4) : zxb (fun e => q (1 + e)) k i j = -(zxb (fun e => q (1 + e)) k j i) := by
  unfold zxb
  dsimp only
  have a1 := hq.a i j hi hj
  by_cases h : i = k ∨ j = k
  · rw [if_pos h, if_pos (by omega)]
    omega
  · rw [if_neg h, if_neg (by omega), hq.a j k hj hk, hq.a k i hk hi, jabs_neg, jabs_neg, a1]
    have e : jabs (q (1 + (4 * k + j))) * -q (1 + (4 * i + k)) + -q (1 + (4 * k + j)) * jabs (q (1 + (4 * i + k))) = -(jabs (q (1 + (4 * i + k))) * q (1 + (4 * k + j)) + q (1 + (4 * i + k)) * jabs (q (1 + (4 * k + j)))) := by
      rw [Int.mul_neg, Int.neg_mul, Int.neg_add, Int.mul_comm (jabs (q (1 + (4 * k + j)))), Int.mul_comm (q (1 + (4 * k + j))), Int.add_comm]
    rw [e, Int.neg_tdiv]
    omega
theorem zQ_x {q : Nat → Int} {n k : Nat} (hq : zQ q n) (hk : k < 4) (hc : zcan q n k) : zQ (zxF q n k) n := by
  have hx := zxF_n hk hc
  have hS := zxn_S hq.S hk hx
  refine ⟨hS, fun i hi => by rw [zxF_o (by omega) (by omega) (by omega) (by omega)]; exact hq.s i hi, fun i j hi hj g => ?_, fun i j hi hj => ?_, fun i hi => ?_⟩
  · rw [zxF_b (by omega), zxe_at _ _ _ _ hj]
    exact zxb_z hq hk hi hj g
  · rw [zxF_b (by omega), zxe_at _ _ _ _ hj, zxF_b (by omega), zxe_at _ _ _ _ hi]
    exact zxb_a hq hk hi hj
  · by_cases e : i = k
    · subst e
      exact zxv_g hq.S hk hx.2.1
    · rw [zxF_o (by omega) (by omega) (by omega) (by omega), zxF_o (j := 25 + i) (by omega) (by omega) (by omega) (by omega)]
      exact hq.g i hi
theorem zQ_sw {q : Nat → Int} {n i j : Nat} (hq : zQ q n) (hi : i < n) (hj : j < n) : zQ (zSp q i j) n := by
  have hn := hq.S.n4
  have a : ∀ y, y < 4 → zsw i j y < 4 := fun y hy => zsw_4 (by omega) (by omega) hy
  have an : ∀ y, y < 4 → n ≤ y → n ≤ zsw i j y := fun y hy h => by rw [zsw_n (by omega) (by omega)]; exact h
  have e0 : zSp q i j 0 = q 0 := rfl
  have eb : ∀ x y, x < 4 → y < 4 → zSp q i j (1 + (4 * x + y)) = q (1 + (4 * zsw i j x + zsw i j y)) := fun x y hx hy => by
    unfold zSp
    rw [if_neg (by omega), if_pos (by omega), show (1 + (4 * x + y) - 1) / 4 = x by omega, show (1 + (4 * x + y) - 1) % 4 = y by omega]
  have es : ∀ x, x < 4 → zSp q i j (17 + x) = q (17 + zsw i j x) := fun x hx => by
    unfold zSp
    rw [if_neg (by omega), if_neg (by omega), if_pos (by omega), show 17 + x - 17 = x by omega]
  have eu : ∀ x, x < 4 → zSp q i j (21 + x) = q (21 + zsw i j x) := fun x hx => by
    unfold zSp
    rw [if_neg (by omega), if_neg (by omega), if_neg (by omega), if_pos (by omega), show 21 + x - 21 = x by omega]
  have ed : ∀ x, x < 4 → zSp q i j (25 + x) = q (25 + zsw i j x) := fun x hx => by
    unfold zSp
    rw [if_neg (by omega), if_neg (by omega), if_neg (by omega), if_neg (by omega), if_pos (by omega), show 25 + x - 25 = x by omega]
  refine ⟨⟨e0.trans hq.S.n0, hq.S.n2, hn, fun x hx => by rw [eu x hx, ed x hx]; exact hq.S.v _ (a x hx), fun x hx => ?_⟩, fun x hx => by rw [es x hx]; exact hq.s _ (a x hx), fun x y hx hy g => by rw [eb x y hx hy]; exact hq.z _ _ (a x hx) (a y hy) (g.imp (an x hx) (an y hy)), fun x y hx hy => by rw [eb x y hx hy, eb y x hy hx]; exact hq.a _ _ (a x hx) (a y hy), fun x hx => by rw [eu x hx, ed x hx]; exact hq.g _ (a x hx)⟩
  have b := a (x / 4) (by omega)
  have c := a (x % 4) (by omega)
  have := eb (x / 4) (x % 4) (by omega) (by omega)
  rw [show 1 + (4 * (x / 4) + x % 4) = 1 + x by omega] at this
  rw [this]
  exact hq.S.b _ (by omega)
