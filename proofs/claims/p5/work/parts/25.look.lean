/-- alike: the same table and the same values -/
def zal (q p : Nat → Int) (n : Nat) : Prop := (∀ e, e < 16 → q (1 + e) = p (1 + e)) ∧ ∀ i, i < n → q (21 + i) = p (21 + i) ∧ q (25 + i) = p (25 + i)
/-- how often a value stands -/
def zcnt (u v : Nat → Int) : Nat → Int → Int → Int
  | 0, _, _ => 0
  | j + 1, x, y => zcnt u v j x y + if u j = x ∧ v j = y then 1 else 0
theorem zcnt_b (u v : Nat → Int) (x y : Int) : ∀ j, 0 ≤ zcnt u v j x y ∧ zcnt u v j x y ≤ (j : Int)
  | 0 => ⟨Int.le_refl _, Int.le_refl _⟩
  | j + 1 => by
    have h := zcnt_b u v x y j
    unfold zcnt
    split <;> omega
theorem zcnt_t (u v : Nat → Int) {j : Nat} {x y : Int} (h : u j = x ∧ v j = y) : zcnt u v (j + 1) x y = zcnt u v j x y + 1 := by
  show _ + (if _ then _ else _) = _
  rw [if_pos h]
theorem zcnt_f (u v : Nat → Int) {j : Nat} {x y : Int} (h : ¬ (u j = x ∧ v j = y)) : zcnt u v (j + 1) x y = zcnt u v j x y + 0 := by
  show _ + (if _ then _ else _) = _
  rw [if_neg h]
def zsame (q p : Nat → Int) (n : Nat) : Prop := ∀ i, i < n → zcnt (fun j => q (21 + j)) (fun j => q (25 + j)) n (q (21 + i)) (q (25 + i)) = zcnt (fun j => p (21 + j)) (fun j => p (25 + j)) n (q (21 + i)) (q (25 + i))
theorem zhalf {R : Int} (h : 0 < b64 R) : (b64 (Int.tdiv (b64 R) 2)).toNat < (b64 R).toNat := by
  have h1 := b64_hi R
  have h2 : Int.tdiv (b64 R) 2 = b64 R / 2 := Int.tdiv_eq_ediv_of_nonneg (by omega)
  rw [h2, b64_id (by omega) (by omega)]
  omega
theorem zmod_b {x y : Int} (hx : 0 ≤ x) (hy : 1 ≤ y) : 0 ≤ Int.tmod x y ∧ Int.tmod x y < y := by
  rw [Int.tmod_eq_emod_of_nonneg hx]
  exact ⟨Int.emod_nonneg _ (by omega), Int.emod_lt_of_pos _ (by omega)⟩
theorem zmul_n {x y b : Int} (hx : 0 ≤ x) (hx' : x < b) (hy : 0 ≤ y) (hy' : y < b) (hb : b ≤ 1000000000) : 0 ≤ x * y ∧ x * y ≤ 1000000000000000000 := by
  have h1 : 0 ≤ x * y := Int.mul_nonneg hx hy
  have h2 : x * y ≤ 1000000000 * 1000000000 := Int.mul_le_mul (by omega) (by omega) hy (by decide)
  omega
set_option maxHeartbeats 4000000 in
set_option maxRecDepth 20000 in
theorem E_areAlike {w : jS} {q p n : Nat} (hq : w.2.1 q = (101, 45)) (hp : w.2.1 p = (101, 45)) (hS : zS (w.1 q) n) (hS2 : zS (w.1 p) n) : jCall 188 [jO q, jO p] w (jvb (zal (w.1 q) (w.1 p) n) w) := by
  have mt : jtb 188 = jT188 := rfl
  have hn4 := hS.n4
  show jWp 188 0 [some (jO q), some (jO p), none] [] 0 0 w _
  refine jWp.blk mt 2 ?_
  show jWp 188 2 [some (jO q), some (jO p), some (jI 0)] [] 0 0 w _
  have lp1 : ∀ (N : Nat) (e : Nat) (he : e ≤ 16) (hA : ∀ x, x < e → w.1 q (1 + x) = w.1 p (1 + x)), 16 - e < N → jWp 188 2 [some (jO q), some (jO p), some (jI (e : Int))] [] 0 0 w (jvb (zal (w.1 q) (w.1 p) n) w) := by
    intro N
    induction N with
    | zero => intro e he hA hm; omega
    | succ N ih2 =>
      intro e he hA hm
      have hf : e < 16 → _ := fun h => And.intro (hS.b e h) (hS2.b e h)
      refine jWp.blk mt 2 ?_
      show jWp 188 5 [some (jO q), some (jO p), some (jI (e : Int))] [jI 16, jI (e : Int)] 0 0 w _
      refine jWp.icmp (pc' := 8) mt rfl rfl (b32_id (by omega) (by omega)) (show b32 16 = 16 by decide) (fun h3 => ?_) (fun h3 => ?_)
      · have h3 : 16 ≤ (e : Int) := h3
        refine jWp.blk mt 2 ?_
        show jWp 188 32 [some (jO q), some (jO p), some (jI 0)] [] 0 0 w _
        have lp4 : ∀ (N : Nat) (i : Nat) (hi : i ≤ n) (hB : ∀ x, x < i → w.1 q (21 + x) = w.1 p (21 + x) ∧ w.1 q (25 + x) = w.1 p (25 + x)), n - i < N → jWp 188 32 [some (jO q), some (jO p), some (jI (i : Int))] [] 0 0 w (jvb (zal (w.1 q) (w.1 p) n) w) := by
          intro N
          induction N with
          | zero => intro i hi hB hm; omega
          | succ N ih5 =>
            intro i hi hB hm
            have hf : i < n → (1 ≤ w.1 q (21 + i) ∧ w.1 q (21 + i) ≤ 1000000000 ∧ 1 ≤ w.1 q (25 + i) ∧ w.1 q (25 + i) ≤ 1000000000) ∧ (1 ≤ w.1 p (21 + i) ∧ w.1 p (21 + i) ≤ 1000000000 ∧ 1 ≤ w.1 p (25 + i) ∧ w.1 p (25 + i) ≤ 1000000000) := fun h => And.intro (hS.v i (by omega)) (hS2.v i (by omega))
            refine jWp.blk mt 1 ?_
            show jWp 188 33 [some (jO q), some (jO p), some (jI (i : Int))] [jI (i : Int)] 0 0 w _
            refine jWp.i2l (pc' := 34) mt rfl rfl (b32_id (by omega) (by omega)) ?_
            show jWp 188 34 [some (jO q), some (jO p), some (jI (i : Int))] [jJ (i : Int)] 0 0 w _
            refine jWp.blk mt 2 ?_
            show _ ∧ jWp 188 36 [some (jO q), some (jO p), some (jI (i : Int))] [jI 0, jO q, jJ (i : Int)] 0 0 w _
            refine ⟨rfl, ?_⟩
            refine jWp.lald (pc' := 37) (j := 0) mt rfl rfl (jtg hq) (by decide) (jlt hq (by decide)) ?_
            rw [show (w.1 q 0) = (n : Int) from hS.n0]
            show jWp 188 37 [some (jO q), some (jO p), some (jI (i : Int))] [jJ (n : Int), jJ (i : Int)] 0 0 w _
            refine jWp.lcmp (pc' := 41) mt rfl rfl rfl (b64_id (by omega) (by omega)) (b64_id (by omega) (by omega)) (fun h6 => ?_) (fun h6 => ?_)
            · have h6 : (n : Int) ≤ (i : Int) := h6
              refine jWp.blk mt 1 ?_
              show jWp 188 82 [some (jO q), some (jO p), some (jI (i : Int))] [jI 1] 0 0 w _
              refine jWp.iretz mt rfl ⟨rfl, rfl⟩ rfl (Or.inr rfl) ?_
              exact Or.inl ⟨rfl, rfl, fun x hx => hA x (by omega), fun x hx => hB x (by omega)⟩
            · have h6 : (i : Int) < (n : Int) := h6
              refine jWp.blk mt 4 ?_
              show _ ∧ jWp 188 46 [some (jO q), some (jO p), some (jI (i : Int))] [jI (21 + (i : Int)), jO q] 0 0 w _
              refine ⟨rfl, ?_⟩
              refine jWp.lald (pc' := 47) (j := (21 + i)) mt rfl rfl (jtg hq) (by rw [b32_id (by omega) (by omega)] <;> omega) (jlt hq (by omega)) ?_
              show jWp 188 47 [some (jO q), some (jO p), some (jI (i : Int))] [jJ (w.1 q (21 + i))] 0 0 w _
              refine jWp.blk mt 4 ?_
              show _ ∧ jWp 188 52 [some (jO q), some (jO p), some (jI (i : Int))] [jI (21 + (i : Int)), jO p, jJ (w.1 q (21 + i))] 0 0 w _
              refine ⟨rfl, ?_⟩
              refine jWp.lald (pc' := 53) (j := (21 + i)) mt rfl rfl (jtg hp) (by rw [b32_id (by omega) (by omega)] <;> omega) (jlt hp (by omega)) ?_
              show jWp 188 53 [some (jO q), some (jO p), some (jI (i : Int))] [jJ (w.1 p (21 + i)), jJ (w.1 q (21 + i))] 0 0 w _
              refine jWp.lcmp (pc' := 57) mt rfl rfl rfl (b64_id (by omega) (by omega)) (b64_id (by omega) (by omega)) (fun h7 => ?_) (fun h7 => ?_)
              · have h7 : (w.1 q (21 + i)) ≠ (w.1 p (21 + i)) := h7
                refine jWp.blk mt 1 ?_
                show jWp 188 74 [some (jO q), some (jO p), some (jI (i : Int))] [jI 0] 0 0 w _
                refine jWp.iretz mt rfl ⟨rfl, rfl⟩ rfl (Or.inl rfl) ?_
                refine Or.inr ⟨rfl, rfl, fun hz => ?_⟩
                first
                | exact absurd (hz.1 e (by omega)) (by assumption)
                | exact absurd (hz.2 i (by omega)).1 (by assumption)
                | exact absurd (hz.2 i (by omega)).2 (by assumption)
              · have h7 : (w.1 q (21 + i)) = (w.1 p (21 + i)) := h7
                refine jWp.blk mt 4 ?_
                show _ ∧ jWp 188 62 [some (jO q), some (jO p), some (jI (i : Int))] [jI (25 + (i : Int)), jO q] 0 0 w _
                refine ⟨rfl, ?_⟩
                refine jWp.lald (pc' := 63) (j := (25 + i)) mt rfl rfl (jtg hq) (by rw [b32_id (by omega) (by omega)] <;> omega) (jlt hq (by omega)) ?_
                show jWp 188 63 [some (jO q), some (jO p), some (jI (i : Int))] [jJ (w.1 q (25 + i))] 0 0 w _
                refine jWp.blk mt 4 ?_
                show _ ∧ jWp 188 68 [some (jO q), some (jO p), some (jI (i : Int))] [jI (25 + (i : Int)), jO p, jJ (w.1 q (25 + i))] 0 0 w _
                refine ⟨rfl, ?_⟩
                refine jWp.lald (pc' := 69) (j := (25 + i)) mt rfl rfl (jtg hp) (by rw [b32_id (by omega) (by omega)] <;> omega) (jlt hp (by omega)) ?_
                show jWp 188 69 [some (jO q), some (jO p), some (jI (i : Int))] [jJ (w.1 p (25 + i)), jJ (w.1 q (25 + i))] 0 0 w _
                refine jWp.lcmp (pc' := 73) mt rfl rfl rfl (b64_id (by omega) (by omega)) (b64_id (by omega) (by omega)) (fun h8 => ?_) (fun h8 => ?_)
                · have h8 : (w.1 q (25 + i)) = (w.1 p (25 + i)) := h8
                  refine jWp.blk mt 2 ?_
                  show jWp 188 32 [some (jO q), some (jO p), some (jI ((i : Int) + 1))] [] 0 0 w _
                  refine jWp.le (l := [some (jO q), some (jO p), some (jI ((i : Int) + 1))]) (by exact ⟨rfl, rfl, rfl, trivial⟩) ?_
                  exact ih5 (i + 1) (by omega) (fun x hx => by rcases Nat.lt_or_ge x i with h | h; exact hB x h; rw [show x = i by omega]; exact ⟨by assumption, by assumption⟩) (by omega)
                · have h8 : (w.1 q (25 + i)) ≠ (w.1 p (25 + i)) := h8
                  refine jWp.blk mt 1 ?_
                  show jWp 188 74 [some (jO q), some (jO p), some (jI (i : Int))] [jI 0] 0 0 w _
                  refine jWp.iretz mt rfl ⟨rfl, rfl⟩ rfl (Or.inl rfl) ?_
                  refine Or.inr ⟨rfl, rfl, fun hz => ?_⟩
                  first
                  | exact absurd (hz.1 e (by omega)) (by assumption)
                  | exact absurd (hz.2 i (by omega)).1 (by assumption)
                  | exact absurd (hz.2 i (by omega)).2 (by assumption)
        refine jWp.le (l := [some (jO q), some (jO p), some (jI 0)]) (by exact ⟨rfl, rfl, rfl, trivial⟩) ?_
        exact lp4 _ 0 (by omega) (fun x hx => absurd hx (by omega)) (Nat.lt_succ_self _)
      · have h3 : (e : Int) < 16 := h3
        refine jWp.blk mt 4 ?_
        show _ ∧ jWp 188 12 [some (jO q), some (jO p), some (jI (e : Int))] [jI (1 + (e : Int)), jO q] 0 0 w _
        refine ⟨rfl, ?_⟩
        refine jWp.lald (pc' := 13) (j := (1 + e)) mt rfl rfl (jtg hq) (by rw [b32_id (by omega) (by omega)] <;> omega) (jlt hq (by omega)) ?_
        show jWp 188 13 [some (jO q), some (jO p), some (jI (e : Int))] [jJ (w.1 q (1 + e))] 0 0 w _
        refine jWp.blk mt 4 ?_
        show _ ∧ jWp 188 17 [some (jO q), some (jO p), some (jI (e : Int))] [jI (1 + (e : Int)), jO p, jJ (w.1 q (1 + e))] 0 0 w _
        refine ⟨rfl, ?_⟩
        refine jWp.lald (pc' := 18) (j := (1 + e)) mt rfl rfl (jtg hp) (by rw [b32_id (by omega) (by omega)] <;> omega) (jlt hp (by omega)) ?_
        show jWp 188 18 [some (jO q), some (jO p), some (jI (e : Int))] [jJ (w.1 p (1 + e)), jJ (w.1 q (1 + e))] 0 0 w _
        refine jWp.lcmp (pc' := 22) mt rfl rfl rfl (b64_id (by omega) (by omega)) (b64_id (by omega) (by omega)) (fun h9 => ?_) (fun h9 => ?_)
        · have h9 : (w.1 q (1 + e)) = (w.1 p (1 + e)) := h9
          refine jWp.blk mt 2 ?_
          show jWp 188 2 [some (jO q), some (jO p), some (jI ((e : Int) + 1))] [] 0 0 w _
          refine jWp.le (l := [some (jO q), some (jO p), some (jI ((e : Int) + 1))]) (by exact ⟨rfl, rfl, rfl, trivial⟩) ?_
          exact ih2 (e + 1) (by omega) (fun x hx => by rcases Nat.lt_or_ge x e with h | h; exact hA x h; rw [show x = e by omega]; assumption) (by omega)
        · have h9 : (w.1 q (1 + e)) ≠ (w.1 p (1 + e)) := h9
          refine jWp.blk mt 1 ?_
          show jWp 188 23 [some (jO q), some (jO p), some (jI (e : Int))] [jI 0] 0 0 w _
          refine jWp.iretz mt rfl ⟨rfl, rfl⟩ rfl (Or.inl rfl) ?_
          refine Or.inr ⟨rfl, rfl, fun hz => ?_⟩
          first
          | exact absurd (hz.1 e (by omega)) (by assumption)
          | exact absurd (hz.2 i (by omega)).1 (by assumption)
          | exact absurd (hz.2 i (by omega)).2 (by assumption)
  refine jWp.le (l := [some (jO q), some (jO p), some (jI 0)]) (by exact ⟨rfl, rfl, rfl, trivial⟩) ?_
  exact lp1 _ 0 (by omega) (fun x hx => absurd hx (by omega)) (Nat.lt_succ_self _)
set_option maxHeartbeats 4000000 in
set_option maxRecDepth 20000 in
theorem E_haveSame {w : jS} {q p n : Nat} (hq : w.2.1 q = (101, 45)) (hp : w.2.1 p = (101, 45)) (hS : zS (w.1 q) n) (hS2 : zS (w.1 p) n) : jCall 186 [jO q, jO p] w (jvb (zsame (w.1 q) (w.1 p) n) w) := by
  have mt : jtb 186 = jT186 := rfl
  have hn4 := hS.n4
  show jWp 186 0 [some (jO q), some (jO p), none, none, none] [] 0 0 w _
  refine jWp.blk mt 2 ?_
  show jWp 186 2 [some (jO q), some (jO p), some (jI 0), none, none] [] 0 0 w _
  have lp1 : ∀ (N : Nat) (i : Nat) (hi : i ≤ n) (hA : ∀ x, x < i → zcnt (fun j => w.1 q (21 + j)) (fun j => w.1 q (25 + j)) n (w.1 q (21 + x)) (w.1 q (25 + x)) = zcnt (fun j => w.1 p (21 + j)) (fun j => w.1 p (25 + j)) n (w.1 q (21 + x)) (w.1 q (25 + x))), n - i < N → jWp 186 2 [some (jO q), some (jO p), some (jI (i : Int)), none, none] [] 0 0 w (jvb (zsame (w.1 q) (w.1 p) n) w) := by
    intro N
    induction N with
    | zero => intro i hi hA hm; omega
    | succ N ih2 =>
      intro i hi hA hm
      have hf : i < n → (1 ≤ w.1 q (21 + i) ∧ w.1 q (21 + i) ≤ 1000000000 ∧ 1 ≤ w.1 q (25 + i) ∧ w.1 q (25 + i) ≤ 1000000000) := fun h => hS.v i (by omega)
      refine jWp.blk mt 1 ?_
      show jWp 186 3 [some (jO q), some (jO p), some (jI (i : Int)), none, none] [jI (i : Int)] 0 0 w _
      refine jWp.i2l (pc' := 4) mt rfl rfl (b32_id (by omega) (by omega)) ?_
      show jWp 186 4 [some (jO q), some (jO p), some (jI (i : Int)), none, none] [jJ (i : Int)] 0 0 w _
      refine jWp.blk mt 2 ?_
      show _ ∧ jWp 186 6 [some (jO q), some (jO p), some (jI (i : Int)), none, none] [jI 0, jO q, jJ (i : Int)] 0 0 w _
      refine ⟨rfl, ?_⟩
      refine jWp.lald (pc' := 7) (j := 0) mt rfl rfl (jtg hq) (by decide) (jlt hq (by decide)) ?_
      rw [show (w.1 q 0) = (n : Int) from hS.n0]
      show jWp 186 7 [some (jO q), some (jO p), some (jI (i : Int)), none, none] [jJ (n : Int), jJ (i : Int)] 0 0 w _
      refine jWp.lcmp (pc' := 11) mt rfl rfl rfl (b64_id (by omega) (by omega)) (b64_id (by omega) (by omega)) (fun h3 => ?_) (fun h3 => ?_)
      · have h3 : (n : Int) ≤ (i : Int) := h3
        refine jWp.blk mt 1 ?_
        show jWp 186 129 [some (jO q), some (jO p), some (jI (i : Int)), none, none] [jI 1] 0 0 w _
        refine jWp.iretz mt rfl ⟨rfl, rfl⟩ rfl (Or.inr rfl) ?_
        exact Or.inl ⟨rfl, rfl, fun x hx => hA x (by omega)⟩
      · have h3 : (i : Int) < (n : Int) := h3
        refine jWp.blk mt 4 ?_
        show jWp 186 16 [some (jO q), some (jO p), some (jI (i : Int)), some (jI 0), some (jI 0)] [] 0 0 w _
        have lp4 : ∀ (N : Nat) (j : Nat) (o : Int) (hj : j ≤ n) (ho : o = zcnt (fun j => w.1 q (21 + j)) (fun j => w.1 q (25 + j)) j (w.1 q (21 + i)) (w.1 q (25 + i)) - zcnt (fun j => w.1 p (21 + j)) (fun j => w.1 p (25 + j)) j (w.1 q (21 + i)) (w.1 q (25 + i))), n - j < N → jWp 186 16 [some (jO q), some (jO p), some (jI (i : Int)), some (jI o), some (jI (j : Int))] [] 0 0 w (jvb (zsame (w.1 q) (w.1 p) n) w) := by
          intro N
          induction N with
          | zero => intro j o hj ho hm; omega
          | succ N ih5 =>
            intro j o hj ho hm
            have hi4 : i < n := by omega
            have hf2 := hf hi4
            have hg : j < n → (1 ≤ w.1 q (21 + j) ∧ w.1 q (21 + j) ≤ 1000000000 ∧ 1 ≤ w.1 q (25 + j) ∧ w.1 q (25 + j) ≤ 1000000000) ∧ (1 ≤ w.1 p (21 + j) ∧ w.1 p (21 + j) ≤ 1000000000 ∧ 1 ≤ w.1 p (25 + j) ∧ w.1 p (25 + j) ≤ 1000000000) := fun h => And.intro (hS.v j (by omega)) (hS2.v j (by omega))
            have c1 := zcnt_b (fun j => w.1 q (21 + j)) (fun j => w.1 q (25 + j)) (w.1 q (21 + i)) (w.1 q (25 + i)) j
            have c2 := zcnt_b (fun j => w.1 p (21 + j)) (fun j => w.1 p (25 + j)) (w.1 q (21 + i)) (w.1 q (25 + i)) j
            refine jWp.blk mt 1 ?_
            show jWp 186 18 [some (jO q), some (jO p), some (jI (i : Int)), some (jI o), some (jI (j : Int))] [jI (j : Int)] 0 0 w _
            refine jWp.i2l (pc' := 19) mt rfl rfl (b32_id (by omega) (by omega)) ?_
            show jWp 186 19 [some (jO q), some (jO p), some (jI (i : Int)), some (jI o), some (jI (j : Int))] [jJ (j : Int)] 0 0 w _
            refine jWp.blk mt 2 ?_
            show _ ∧ jWp 186 21 [some (jO q), some (jO p), some (jI (i : Int)), some (jI o), some (jI (j : Int))] [jI 0, jO q, jJ (j : Int)] 0 0 w _
            refine ⟨rfl, ?_⟩
            refine jWp.lald (pc' := 22) (j := 0) mt rfl rfl (jtg hq) (by decide) (jlt hq (by decide)) ?_
            rw [show (w.1 q 0) = (n : Int) from hS.n0]
            show jWp 186 22 [some (jO q), some (jO p), some (jI (i : Int)), some (jI o), some (jI (j : Int))] [jJ (n : Int), jJ (j : Int)] 0 0 w _
            refine jWp.lcmp (pc' := 26) mt rfl rfl rfl (b64_id (by omega) (by omega)) (b64_id (by omega) (by omega)) (fun h6 => ?_) (fun h6 => ?_)
            · have h6 : (n : Int) ≤ (j : Int) := h6
              refine jWp.blk mt 1 ?_
              show jWp 186 117 [some (jO q), some (jO p), some (jI (i : Int)), some (jI o), some (jI (j : Int))] [jI o] 0 0 w _
              refine jWp.ifz (pc' := 120) mt rfl rfl (b32_id (by omega) (by omega)) (fun h7 => ?_) (fun h7 => ?_)
              · have h7 : o = 0 := h7
                refine jWp.blk mt 2 ?_
                show jWp 186 2 [some (jO q), some (jO p), some (jI ((i : Int) + 1)), some (jI o), some (jI (j : Int))] [] 0 0 w _
                refine jWp.le (l := [some (jO q), some (jO p), some (jI ((i : Int) + 1)), none, none]) (by exact ⟨rfl, rfl, rfl, trivial⟩) ?_
                exact ih2 (i + 1) (by omega) (fun x hx => by rcases Nat.lt_or_ge x i with h | h; exact hA x h; rw [show x = i by omega, show n = j by omega]; omega) (by omega)
              · have h7 : o ≠ 0 := h7
                refine jWp.blk mt 1 ?_
                show jWp 186 121 [some (jO q), some (jO p), some (jI (i : Int)), some (jI o), some (jI (j : Int))] [jI 0] 0 0 w _
                refine jWp.iretz mt rfl ⟨rfl, rfl⟩ rfl (Or.inl rfl) ?_
                refine Or.inr ⟨rfl, rfl, fun hz => ?_⟩
                have hz := hz i (by omega)
                rw [show n = j by omega] at hz
                omega
            · have h6 : (j : Int) < (n : Int) := h6
              refine jWp.blk mt 5 ?_
              show _ ∧ jWp 186 33 [some (jO q), some (jO p), some (jI (i : Int)), some (jI o), some (jI (j : Int))] [jI (21 + (j : Int)), jO q, jI o] 0 0 w _
              refine ⟨rfl, ?_⟩
              refine jWp.lald (pc' := 34) (j := (21 + j)) mt rfl rfl (jtg hq) (by rw [b32_id (by omega) (by omega)] <;> omega) (jlt hq (by omega)) ?_
              show jWp 186 34 [some (jO q), some (jO p), some (jI (i : Int)), some (jI o), some (jI (j : Int))] [jJ (w.1 q (21 + j)), jI o] 0 0 w _
              refine jWp.blk mt 4 ?_
              show _ ∧ jWp 186 39 [some (jO q), some (jO p), some (jI (i : Int)), some (jI o), some (jI (j : Int))] [jI (21 + (i : Int)), jO q, jJ (w.1 q (21 + j)), jI o] 0 0 w _
              refine ⟨rfl, ?_⟩
              refine jWp.lald (pc' := 40) (j := (21 + i)) mt rfl rfl (jtg hq) (by rw [b32_id (by omega) (by omega)] <;> omega) (jlt hq (by omega)) ?_
              show jWp 186 40 [some (jO q), some (jO p), some (jI (i : Int)), some (jI o), some (jI (j : Int))] [jJ (w.1 q (21 + i)), jJ (w.1 q (21 + j)), jI o] 0 0 w _
              refine jWp.lcmp (pc' := 44) mt rfl rfl rfl (b64_id (by omega) (by omega)) (b64_id (by omega) (by omega)) (fun h8 => ?_) (fun h8 => ?_)
              · have h8 : (w.1 q (21 + j)) ≠ (w.1 q (21 + i)) := h8
                refine jWp.blk mt 8 ?_
                show _ ∧ jWp 186 75 [some (jO q), some (jO p), some (jI (i : Int)), some (jI (o + 0)), some (jI (j : Int))] [jI (21 + (j : Int)), jO p, jI (o + 0)] 0 0 w _
                refine ⟨rfl, ?_⟩
                refine jWp.lald (pc' := 76) (j := (21 + j)) mt rfl rfl (jtg hp) (by rw [b32_id (by omega) (by omega)] <;> omega) (jlt hp (by omega)) ?_
                show jWp 186 76 [some (jO q), some (jO p), some (jI (i : Int)), some (jI (o + 0)), some (jI (j : Int))] [jJ (w.1 p (21 + j)), jI (o + 0)] 0 0 w _
                refine jWp.blk mt 4 ?_
                show _ ∧ jWp 186 81 [some (jO q), some (jO p), some (jI (i : Int)), some (jI (o + 0)), some (jI (j : Int))] [jI (21 + (i : Int)), jO q, jJ (w.1 p (21 + j)), jI (o + 0)] 0 0 w _
                refine ⟨rfl, ?_⟩
                refine jWp.lald (pc' := 82) (j := (21 + i)) mt rfl rfl (jtg hq) (by rw [b32_id (by omega) (by omega)] <;> omega) (jlt hq (by omega)) ?_
                show jWp 186 82 [some (jO q), some (jO p), some (jI (i : Int)), some (jI (o + 0)), some (jI (j : Int))] [jJ (w.1 q (21 + i)), jJ (w.1 p (21 + j)), jI (o + 0)] 0 0 w _
                refine jWp.lcmp (pc' := 86) mt rfl rfl rfl (b64_id (by omega) (by omega)) (b64_id (by omega) (by omega)) (fun h9 => ?_) (fun h9 => ?_)
                · have h9 : (w.1 p (21 + j)) ≠ (w.1 q (21 + i)) := h9
                  refine jWp.blk mt 5 ?_
                  show jWp 186 16 [some (jO q), some (jO p), some (jI (i : Int)), some (jI ((o + 0) - 0)), some (jI ((j : Int) + 1))] [] 0 0 w _
                  refine jWp.le (l := [some (jO q), some (jO p), some (jI (i : Int)), some (jI ((o + 0) - 0)), some (jI ((j : Int) + 1))]) (by exact ⟨rfl, rfl, rfl, rfl, rfl, trivial⟩) ?_
                  exact ih5 (j + 1) _ (by omega) (by rw [(zcnt_f (fun j => w.1 q (21 + j)) (fun j => w.1 q (25 + j)) (j := j) (fun h => by first | exact absurd h.1 (by assumption) | exact absurd h.2 (by assumption))), (zcnt_f (fun j => w.1 p (21 + j)) (fun j => w.1 p (25 + j)) (j := j) (fun h => by first | exact absurd h.1 (by assumption) | exact absurd h.2 (by assumption)))]; omega) (by omega)
                · have h9 : (w.1 p (21 + j)) = (w.1 q (21 + i)) := h9
                  refine jWp.blk mt 4 ?_
                  show _ ∧ jWp 186 92 [some (jO q), some (jO p), some (jI (i : Int)), some (jI (o + 0)), some (jI (j : Int))] [jI (25 + (j : Int)), jO p, jI (o + 0)] 0 0 w _
                  refine ⟨rfl, ?_⟩
                  refine jWp.lald (pc' := 93) (j := (25 + j)) mt rfl rfl (jtg hp) (by rw [b32_id (by omega) (by omega)] <;> omega) (jlt hp (by omega)) ?_
                  show jWp 186 93 [some (jO q), some (jO p), some (jI (i : Int)), some (jI (o + 0)), some (jI (j : Int))] [jJ (w.1 p (25 + j)), jI (o + 0)] 0 0 w _
                  refine jWp.blk mt 4 ?_
                  show _ ∧ jWp 186 98 [some (jO q), some (jO p), some (jI (i : Int)), some (jI (o + 0)), some (jI (j : Int))] [jI (25 + (i : Int)), jO q, jJ (w.1 p (25 + j)), jI (o + 0)] 0 0 w _
                  refine ⟨rfl, ?_⟩
                  refine jWp.lald (pc' := 99) (j := (25 + i)) mt rfl rfl (jtg hq) (by rw [b32_id (by omega) (by omega)] <;> omega) (jlt hq (by omega)) ?_
                  show jWp 186 99 [some (jO q), some (jO p), some (jI (i : Int)), some (jI (o + 0)), some (jI (j : Int))] [jJ (w.1 q (25 + i)), jJ (w.1 p (25 + j)), jI (o + 0)] 0 0 w _
                  refine jWp.lcmp (pc' := 103) mt rfl rfl rfl (b64_id (by omega) (by omega)) (b64_id (by omega) (by omega)) (fun h10 => ?_) (fun h10 => ?_)
                  · have h10 : (w.1 p (25 + j)) ≠ (w.1 q (25 + i)) := h10
                    refine jWp.blk mt 5 ?_
                    show jWp 186 16 [some (jO q), some (jO p), some (jI (i : Int)), some (jI ((o + 0) - 0)), some (jI ((j : Int) + 1))] [] 0 0 w _
                    refine jWp.le (l := [some (jO q), some (jO p), some (jI (i : Int)), some (jI ((o + 0) - 0)), some (jI ((j : Int) + 1))]) (by exact ⟨rfl, rfl, rfl, rfl, rfl, trivial⟩) ?_
                    exact ih5 (j + 1) _ (by omega) (by rw [(zcnt_f (fun j => w.1 q (21 + j)) (fun j => w.1 q (25 + j)) (j := j) (fun h => by first | exact absurd h.1 (by assumption) | exact absurd h.2 (by assumption))), (zcnt_f (fun j => w.1 p (21 + j)) (fun j => w.1 p (25 + j)) (j := j) (fun h => by first | exact absurd h.1 (by assumption) | exact absurd h.2 (by assumption)))]; omega) (by omega)
                  · have h10 : (w.1 p (25 + j)) = (w.1 q (25 + i)) := h10
                    refine jWp.blk mt 6 ?_
                    show jWp 186 16 [some (jO q), some (jO p), some (jI (i : Int)), some (jI ((o + 0) - 1)), some (jI ((j : Int) + 1))] [] 0 0 w _
                    refine jWp.le (l := [some (jO q), some (jO p), some (jI (i : Int)), some (jI ((o + 0) - 1)), some (jI ((j : Int) + 1))]) (by exact ⟨rfl, rfl, rfl, rfl, rfl, trivial⟩) ?_
                    exact ih5 (j + 1) _ (by omega) (by rw [(zcnt_f (fun j => w.1 q (21 + j)) (fun j => w.1 q (25 + j)) (j := j) (fun h => by first | exact absurd h.1 (by assumption) | exact absurd h.2 (by assumption))), (zcnt_t (fun j => w.1 p (21 + j)) (fun j => w.1 p (25 + j)) (j := j) ⟨by assumption, by assumption⟩)]; omega) (by omega)
              · have h8 : (w.1 q (21 + j)) = (w.1 q (21 + i)) := h8
                refine jWp.blk mt 4 ?_
                show _ ∧ jWp 186 50 [some (jO q), some (jO p), some (jI (i : Int)), some (jI o), some (jI (j : Int))] [jI (25 + (j : Int)), jO q, jI o] 0 0 w _
                refine ⟨rfl, ?_⟩
                refine jWp.lald (pc' := 51) (j := (25 + j)) mt rfl rfl (jtg hq) (by rw [b32_id (by omega) (by omega)] <;> omega) (jlt hq (by omega)) ?_
                show jWp 186 51 [some (jO q), some (jO p), some (jI (i : Int)), some (jI o), some (jI (j : Int))] [jJ (w.1 q (25 + j)), jI o] 0 0 w _
                refine jWp.blk mt 4 ?_
                show _ ∧ jWp 186 56 [some (jO q), some (jO p), some (jI (i : Int)), some (jI o), some (jI (j : Int))] [jI (25 + (i : Int)), jO q, jJ (w.1 q (25 + j)), jI o] 0 0 w _
                refine ⟨rfl, ?_⟩
                refine jWp.lald (pc' := 57) (j := (25 + i)) mt rfl rfl (jtg hq) (by rw [b32_id (by omega) (by omega)] <;> omega) (jlt hq (by omega)) ?_
                show jWp 186 57 [some (jO q), some (jO p), some (jI (i : Int)), some (jI o), some (jI (j : Int))] [jJ (w.1 q (25 + i)), jJ (w.1 q (25 + j)), jI o] 0 0 w _
                refine jWp.lcmp (pc' := 61) mt rfl rfl rfl (b64_id (by omega) (by omega)) (b64_id (by omega) (by omega)) (fun h11 => ?_) (fun h11 => ?_)
                · have h11 : (w.1 q (25 + j)) ≠ (w.1 q (25 + i)) := h11
                  refine jWp.blk mt 8 ?_
                  show _ ∧ jWp 186 75 [some (jO q), some (jO p), some (jI (i : Int)), some (jI (o + 0)), some (jI (j : Int))] [jI (21 + (j : Int)), jO p, jI (o + 0)] 0 0 w _
                  refine ⟨rfl, ?_⟩
                  refine jWp.lald (pc' := 76) (j := (21 + j)) mt rfl rfl (jtg hp) (by rw [b32_id (by omega) (by omega)] <;> omega) (jlt hp (by omega)) ?_
                  show jWp 186 76 [some (jO q), some (jO p), some (jI (i : Int)), some (jI (o + 0)), some (jI (j : Int))] [jJ (w.1 p (21 + j)), jI (o + 0)] 0 0 w _
                  refine jWp.blk mt 4 ?_
                  show _ ∧ jWp 186 81 [some (jO q), some (jO p), some (jI (i : Int)), some (jI (o + 0)), some (jI (j : Int))] [jI (21 + (i : Int)), jO q, jJ (w.1 p (21 + j)), jI (o + 0)] 0 0 w _
                  refine ⟨rfl, ?_⟩
                  refine jWp.lald (pc' := 82) (j := (21 + i)) mt rfl rfl (jtg hq) (by rw [b32_id (by omega) (by omega)] <;> omega) (jlt hq (by omega)) ?_
                  show jWp 186 82 [some (jO q), some (jO p), some (jI (i : Int)), some (jI (o + 0)), some (jI (j : Int))] [jJ (w.1 q (21 + i)), jJ (w.1 p (21 + j)), jI (o + 0)] 0 0 w _
                  refine jWp.lcmp (pc' := 86) mt rfl rfl rfl (b64_id (by omega) (by omega)) (b64_id (by omega) (by omega)) (fun h12 => ?_) (fun h12 => ?_)
                  · have h12 : (w.1 p (21 + j)) ≠ (w.1 q (21 + i)) := h12
                    refine jWp.blk mt 5 ?_
                    show jWp 186 16 [some (jO q), some (jO p), some (jI (i : Int)), some (jI ((o + 0) - 0)), some (jI ((j : Int) + 1))] [] 0 0 w _
                    refine jWp.le (l := [some (jO q), some (jO p), some (jI (i : Int)), some (jI ((o + 0) - 0)), some (jI ((j : Int) + 1))]) (by exact ⟨rfl, rfl, rfl, rfl, rfl, trivial⟩) ?_
                    exact ih5 (j + 1) _ (by omega) (by rw [(zcnt_f (fun j => w.1 q (21 + j)) (fun j => w.1 q (25 + j)) (j := j) (fun h => by first | exact absurd h.1 (by assumption) | exact absurd h.2 (by assumption))), (zcnt_f (fun j => w.1 p (21 + j)) (fun j => w.1 p (25 + j)) (j := j) (fun h => by first | exact absurd h.1 (by assumption) | exact absurd h.2 (by assumption)))]; omega) (by omega)
                  · have h12 : (w.1 p (21 + j)) = (w.1 q (21 + i)) := h12
                    refine jWp.blk mt 4 ?_
                    show _ ∧ jWp 186 92 [some (jO q), some (jO p), some (jI (i : Int)), some (jI (o + 0)), some (jI (j : Int))] [jI (25 + (j : Int)), jO p, jI (o + 0)] 0 0 w _
                    refine ⟨rfl, ?_⟩
                    refine jWp.lald (pc' := 93) (j := (25 + j)) mt rfl rfl (jtg hp) (by rw [b32_id (by omega) (by omega)] <;> omega) (jlt hp (by omega)) ?_
                    show jWp 186 93 [some (jO q), some (jO p), some (jI (i : Int)), some (jI (o + 0)), some (jI (j : Int))] [jJ (w.1 p (25 + j)), jI (o + 0)] 0 0 w _
                    refine jWp.blk mt 4 ?_
                    show _ ∧ jWp 186 98 [some (jO q), some (jO p), some (jI (i : Int)), some (jI (o + 0)), some (jI (j : Int))] [jI (25 + (i : Int)), jO q, jJ (w.1 p (25 + j)), jI (o + 0)] 0 0 w _
                    refine ⟨rfl, ?_⟩
                    refine jWp.lald (pc' := 99) (j := (25 + i)) mt rfl rfl (jtg hq) (by rw [b32_id (by omega) (by omega)] <;> omega) (jlt hq (by omega)) ?_
                    show jWp 186 99 [some (jO q), some (jO p), some (jI (i : Int)), some (jI (o + 0)), some (jI (j : Int))] [jJ (w.1 q (25 + i)), jJ (w.1 p (25 + j)), jI (o + 0)] 0 0 w _
                    refine jWp.lcmp (pc' := 103) mt rfl rfl rfl (b64_id (by omega) (by omega)) (b64_id (by omega) (by omega)) (fun h13 => ?_) (fun h13 => ?_)
                    · have h13 : (w.1 p (25 + j)) ≠ (w.1 q (25 + i)) := h13
                      refine jWp.blk mt 5 ?_
                      show jWp 186 16 [some (jO q), some (jO p), some (jI (i : Int)), some (jI ((o + 0) - 0)), some (jI ((j : Int) + 1))] [] 0 0 w _
                      refine jWp.le (l := [some (jO q), some (jO p), some (jI (i : Int)), some (jI ((o + 0) - 0)), some (jI ((j : Int) + 1))]) (by exact ⟨rfl, rfl, rfl, rfl, rfl, trivial⟩) ?_
                      exact ih5 (j + 1) _ (by omega) (by rw [(zcnt_f (fun j => w.1 q (21 + j)) (fun j => w.1 q (25 + j)) (j := j) (fun h => by first | exact absurd h.1 (by assumption) | exact absurd h.2 (by assumption))), (zcnt_f (fun j => w.1 p (21 + j)) (fun j => w.1 p (25 + j)) (j := j) (fun h => by first | exact absurd h.1 (by assumption) | exact absurd h.2 (by assumption)))]; omega) (by omega)
                    · have h13 : (w.1 p (25 + j)) = (w.1 q (25 + i)) := h13
                      refine jWp.blk mt 6 ?_
                      show jWp 186 16 [some (jO q), some (jO p), some (jI (i : Int)), some (jI ((o + 0) - 1)), some (jI ((j : Int) + 1))] [] 0 0 w _
                      refine jWp.le (l := [some (jO q), some (jO p), some (jI (i : Int)), some (jI ((o + 0) - 1)), some (jI ((j : Int) + 1))]) (by exact ⟨rfl, rfl, rfl, rfl, rfl, trivial⟩) ?_
                      exact ih5 (j + 1) _ (by omega) (by rw [(zcnt_f (fun j => w.1 q (21 + j)) (fun j => w.1 q (25 + j)) (j := j) (fun h => by first | exact absurd h.1 (by assumption) | exact absurd h.2 (by assumption))), (zcnt_t (fun j => w.1 p (21 + j)) (fun j => w.1 p (25 + j)) (j := j) ⟨by assumption, by assumption⟩)]; omega) (by omega)
                · have h11 : (w.1 q (25 + j)) = (w.1 q (25 + i)) := h11
                  refine jWp.blk mt 9 ?_
                  show _ ∧ jWp 186 75 [some (jO q), some (jO p), some (jI (i : Int)), some (jI (o + 1)), some (jI (j : Int))] [jI (21 + (j : Int)), jO p, jI (o + 1)] 0 0 w _
                  refine ⟨rfl, ?_⟩
                  refine jWp.lald (pc' := 76) (j := (21 + j)) mt rfl rfl (jtg hp) (by rw [b32_id (by omega) (by omega)] <;> omega) (jlt hp (by omega)) ?_
                  show jWp 186 76 [some (jO q), some (jO p), some (jI (i : Int)), some (jI (o + 1)), some (jI (j : Int))] [jJ (w.1 p (21 + j)), jI (o + 1)] 0 0 w _
                  refine jWp.blk mt 4 ?_
                  show _ ∧ jWp 186 81 [some (jO q), some (jO p), some (jI (i : Int)), some (jI (o + 1)), some (jI (j : Int))] [jI (21 + (i : Int)), jO q, jJ (w.1 p (21 + j)), jI (o + 1)] 0 0 w _
                  refine ⟨rfl, ?_⟩
                  refine jWp.lald (pc' := 82) (j := (21 + i)) mt rfl rfl (jtg hq) (by rw [b32_id (by omega) (by omega)] <;> omega) (jlt hq (by omega)) ?_
                  show jWp 186 82 [some (jO q), some (jO p), some (jI (i : Int)), some (jI (o + 1)), some (jI (j : Int))] [jJ (w.1 q (21 + i)), jJ (w.1 p (21 + j)), jI (o + 1)] 0 0 w _
                  refine jWp.lcmp (pc' := 86) mt rfl rfl rfl (b64_id (by omega) (by omega)) (b64_id (by omega) (by omega)) (fun h14 => ?_) (fun h14 => ?_)
                  · have h14 : (w.1 p (21 + j)) ≠ (w.1 q (21 + i)) := h14
                    refine jWp.blk mt 5 ?_
                    show jWp 186 16 [some (jO q), some (jO p), some (jI (i : Int)), some (jI ((o + 1) - 0)), some (jI ((j : Int) + 1))] [] 0 0 w _
                    refine jWp.le (l := [some (jO q), some (jO p), some (jI (i : Int)), some (jI ((o + 1) - 0)), some (jI ((j : Int) + 1))]) (by exact ⟨rfl, rfl, rfl, rfl, rfl, trivial⟩) ?_
                    exact ih5 (j + 1) _ (by omega) (by rw [(zcnt_t (fun j => w.1 q (21 + j)) (fun j => w.1 q (25 + j)) (j := j) ⟨by assumption, by assumption⟩), (zcnt_f (fun j => w.1 p (21 + j)) (fun j => w.1 p (25 + j)) (j := j) (fun h => by first | exact absurd h.1 (by assumption) | exact absurd h.2 (by assumption)))]; omega) (by omega)
                  · have h14 : (w.1 p (21 + j)) = (w.1 q (21 + i)) := h14
                    refine jWp.blk mt 4 ?_
                    show _ ∧ jWp 186 92 [some (jO q), some (jO p), some (jI (i : Int)), some (jI (o + 1)), some (jI (j : Int))] [jI (25 + (j : Int)), jO p, jI (o + 1)] 0 0 w _
                    refine ⟨rfl, ?_⟩
                    refine jWp.lald (pc' := 93) (j := (25 + j)) mt rfl rfl (jtg hp) (by rw [b32_id (by omega) (by omega)] <;> omega) (jlt hp (by omega)) ?_
                    show jWp 186 93 [some (jO q), some (jO p), some (jI (i : Int)), some (jI (o + 1)), some (jI (j : Int))] [jJ (w.1 p (25 + j)), jI (o + 1)] 0 0 w _
                    refine jWp.blk mt 4 ?_
                    show _ ∧ jWp 186 98 [some (jO q), some (jO p), some (jI (i : Int)), some (jI (o + 1)), some (jI (j : Int))] [jI (25 + (i : Int)), jO q, jJ (w.1 p (25 + j)), jI (o + 1)] 0 0 w _
                    refine ⟨rfl, ?_⟩
                    refine jWp.lald (pc' := 99) (j := (25 + i)) mt rfl rfl (jtg hq) (by rw [b32_id (by omega) (by omega)] <;> omega) (jlt hq (by omega)) ?_
                    show jWp 186 99 [some (jO q), some (jO p), some (jI (i : Int)), some (jI (o + 1)), some (jI (j : Int))] [jJ (w.1 q (25 + i)), jJ (w.1 p (25 + j)), jI (o + 1)] 0 0 w _
                    refine jWp.lcmp (pc' := 103) mt rfl rfl rfl (b64_id (by omega) (by omega)) (b64_id (by omega) (by omega)) (fun h15 => ?_) (fun h15 => ?_)
                    · have h15 : (w.1 p (25 + j)) ≠ (w.1 q (25 + i)) := h15
                      refine jWp.blk mt 5 ?_
                      show jWp 186 16 [some (jO q), some (jO p), some (jI (i : Int)), some (jI ((o + 1) - 0)), some (jI ((j : Int) + 1))] [] 0 0 w _
                      refine jWp.le (l := [some (jO q), some (jO p), some (jI (i : Int)), some (jI ((o + 1) - 0)), some (jI ((j : Int) + 1))]) (by exact ⟨rfl, rfl, rfl, rfl, rfl, trivial⟩) ?_
                      exact ih5 (j + 1) _ (by omega) (by rw [(zcnt_t (fun j => w.1 q (21 + j)) (fun j => w.1 q (25 + j)) (j := j) ⟨by assumption, by assumption⟩), (zcnt_f (fun j => w.1 p (21 + j)) (fun j => w.1 p (25 + j)) (j := j) (fun h => by first | exact absurd h.1 (by assumption) | exact absurd h.2 (by assumption)))]; omega) (by omega)
                    · have h15 : (w.1 p (25 + j)) = (w.1 q (25 + i)) := h15
                      refine jWp.blk mt 6 ?_
                      show jWp 186 16 [some (jO q), some (jO p), some (jI (i : Int)), some (jI ((o + 1) - 1)), some (jI ((j : Int) + 1))] [] 0 0 w _
                      refine jWp.le (l := [some (jO q), some (jO p), some (jI (i : Int)), some (jI ((o + 1) - 1)), some (jI ((j : Int) + 1))]) (by exact ⟨rfl, rfl, rfl, rfl, rfl, trivial⟩) ?_
                      exact ih5 (j + 1) _ (by omega) (by rw [(zcnt_t (fun j => w.1 q (21 + j)) (fun j => w.1 q (25 + j)) (j := j) ⟨by assumption, by assumption⟩), (zcnt_t (fun j => w.1 p (21 + j)) (fun j => w.1 p (25 + j)) (j := j) ⟨by assumption, by assumption⟩)]; omega) (by omega)
        refine jWp.le (l := [some (jO q), some (jO p), some (jI (i : Int)), some (jI 0), some (jI 0)]) (by exact ⟨rfl, rfl, rfl, rfl, rfl, trivial⟩) ?_
        exact lp4 _ 0 0 (by omega) rfl (Nat.lt_succ_self _)
  refine jWp.le (l := [some (jO q), some (jO p), some (jI 0), none, none]) (by exact ⟨rfl, rfl, rfl, trivial⟩) ?_
  exact lp1 _ 0 (by omega) (fun x hx => absurd hx (by omega)) (Nat.lt_succ_self _)
set_option maxHeartbeats 4000000 in
set_option maxRecDepth 20000 in
theorem E_powered {w : jS} {x R b : Int} (hx : 0 ≤ x ∧ x ≤ 9) (hb : 1 ≤ b ∧ b ≤ 1000000000) : jCall 182 [jJ x, jJ R, jJ b] w (fun v w1 => w1 = w ∧ ∃ y, v = some (jJ y) ∧ 0 ≤ y ∧ y < b) := by
  have mt : jtb 182 = jT182 := rfl
  have h1 := zmod_b (x := 1) (by omega) hb.1
  have h2 := zmod_b hx.1 hb.1
  show jWp 182 0 [some (jJ x), none, some (jJ R), none, some (jJ b), none, none, none, none, none, none, none] [] 0 0 w _
  refine jWp.blk mt 2 ?_
  show jWp 182 3 [some (jJ x), none, some (jJ R), none, some (jJ b), none, none, none, none, none, none, none] [jJ b, jJ 1] 0 0 w _
  refine jWp.lrem (pc' := 4) mt rfl rfl (show b64 1 = 1 by decide) (b64_id (by omega) (by omega)) (by omega) ?_
  show jWp 182 4 [some (jJ x), none, some (jJ R), none, some (jJ b), none, none, none, none, none, none, none] [jJ (Int.tmod 1 b)] 0 0 w _
  refine jWp.blk mt 3 ?_
  show jWp 182 9 [some (jJ x), none, some (jJ R), none, some (jJ b), none, some (jJ (Int.tmod 1 b)), none, none, none, none, none] [jJ b, jJ x] 0 0 w _
  refine jWp.lrem (pc' := 10) mt rfl rfl (b64_id (by omega) (by omega)) (b64_id (by omega) (by omega)) (by omega) ?_
  show jWp 182 10 [some (jJ x), none, some (jJ R), none, some (jJ b), none, some (jJ (Int.tmod 1 b)), none, none, none, none, none] [jJ (Int.tmod x b)] 0 0 w _
  refine jWp.blk mt 3 ?_
  show jWp 182 15 [some (jJ x), none, some (jJ R), none, some (jJ b), none, some (jJ (Int.tmod 1 b)), none, some (jJ (Int.tmod x b)), none, some (jJ R), none] [] 0 0 w _
  have lp1 : ∀ (N : Nat) (y s R : Int) (hy : 0 ≤ y ∧ y < b) (hs : 0 ≤ s ∧ s < b), (b64 R).toNat < N → jWp 182 15 [none, none, none, none, some (jJ b), none, some (jJ y), none, some (jJ s), none, some (jJ R), none] [] 0 0 w (fun v w1 => w1 = w ∧ ∃ y, v = some (jJ y) ∧ 0 ≤ y ∧ y < b) := by
    intro N
    induction N with
    | zero => intro y s R hy hs hm; omega
    | succ N ih2 =>
      intro y s R hy hs hm
      have h3 := zmul_n hy.1 hy.2 hs.1 hs.2 hb.2
      have h4 := zmul_n hs.1 hs.2 hs.1 hs.2 hb.2
      have h5 := zmod_b h3.1 hb.1
      have h6 := zmod_b h4.1 hb.1
      have hR1 := b64_lo R
      have hR2 := b64_hi R
      refine jWp.blk mt 2 ?_
      show jWp 182 18 [none, none, none, none, some (jJ b), none, some (jJ y), none, some (jJ s), none, some (jJ R), none] [jJ 0, jJ R] 0 0 w _
      refine jWp.lcmp (pc' := 22) mt rfl rfl rfl rfl (show b64 0 = 0 by decide) (fun h3 => ?_) (fun h3 => ?_)
      · have h3 : (b64 R) ≤ 0 := h3
        refine jWp.blk mt 1 ?_
        show jWp 182 71 [none, none, none, none, some (jJ b), none, some (jJ y), none, some (jJ s), none, some (jJ R), none] [jJ y] 0 0 w _
        refine jWp.lret mt rfl ⟨rfl, rfl⟩ rfl ?_
        exact ⟨rfl, y, rfl, hy⟩
      · have h3 : 0 < (b64 R) := h3
        refine jWp.blk mt 2 ?_
        show jWp 182 27 [none, none, none, none, some (jJ b), none, some (jJ y), none, some (jJ s), none, some (jJ R), none] [jJ 2, jJ R] 0 0 w _
        refine jWp.lrem (pc' := 28) mt rfl rfl rfl (show b64 2 = 2 by decide) (by decide) ?_
        show jWp 182 28 [none, none, none, none, some (jJ b), none, some (jJ y), none, some (jJ s), none, some (jJ R), none] [jJ (Int.tmod (b64 R) 2)] 0 0 w _
        refine jWp.blk mt 1 ?_
        show jWp 182 29 [none, none, none, none, some (jJ b), none, some (jJ y), none, some (jJ s), none, some (jJ R), none] [jJ 1, jJ (Int.tmod (b64 R) 2)] 0 0 w _
        refine jWp.lcmp (pc' := 33) mt rfl rfl rfl (b64_id (by have := zmod_b (x := b64 R) (y := 2) (by omega) (by decide); omega) (by have := zmod_b (x := b64 R) (y := 2) (by omega) (by decide); omega)) (show b64 1 = 1 by decide) (fun h4 => ?_) (fun h4 => ?_)
        · have h4 : (Int.tmod (b64 R) 2) ≠ 1 := h4
          refine jWp.blk mt 6 ?_
          show jWp 182 55 [none, none, none, none, some (jJ b), none, some (jJ y), none, some (jJ s), none, some (jJ R), none] [jJ b, jJ (s * s)] 0 0 w _
          refine jWp.lrem (pc' := 56) mt rfl rfl (b64_id (by omega) (by omega)) (b64_id (by omega) (by omega)) (by omega) ?_
          show jWp 182 56 [none, none, none, none, some (jJ b), none, some (jJ y), none, some (jJ s), none, some (jJ R), none] [jJ (Int.tmod (s * s) b)] 0 0 w _
          refine jWp.blk mt 3 ?_
          show jWp 182 63 [none, none, none, none, some (jJ b), none, some (jJ y), none, some (jJ (Int.tmod (s * s) b)), none, some (jJ R), none] [jJ 2, jJ R] 0 0 w _
          refine jWp.ldiv (pc' := 64) mt rfl rfl rfl (show b64 2 = 2 by decide) (by decide) ?_
          show jWp 182 64 [none, none, none, none, some (jJ b), none, some (jJ y), none, some (jJ (Int.tmod (s * s) b)), none, some (jJ R), none] [jJ (Int.tdiv (b64 R) 2)] 0 0 w _
          refine jWp.blk mt 2 ?_
          show jWp 182 15 [none, none, none, none, some (jJ b), none, some (jJ y), none, some (jJ (Int.tmod (s * s) b)), none, some (jJ (Int.tdiv (b64 R) 2)), none] [] 0 0 w _
          refine jWp.le (l := [none, none, none, none, some (jJ b), none, some (jJ y), none, some (jJ (Int.tmod (s * s) b)), none, some (jJ (Int.tdiv (b64 R) 2)), none]) (by exact ⟨rfl, rfl, rfl, rfl, trivial⟩) ?_
          exact ih2 _ _ _ (by first | exact h5 | exact hy) h6 (by have := zhalf (R := R) (by assumption); omega)
        · have h4 : (Int.tmod (b64 R) 2) = 1 := h4
          refine jWp.blk mt 4 ?_
          show jWp 182 40 [none, none, none, none, some (jJ b), none, some (jJ y), none, some (jJ s), none, some (jJ R), none] [jJ b, jJ (y * s)] 0 0 w _
          refine jWp.lrem (pc' := 41) mt rfl rfl (b64_id (by omega) (by omega)) (b64_id (by omega) (by omega)) (by omega) ?_
          show jWp 182 41 [none, none, none, none, some (jJ b), none, some (jJ y), none, some (jJ s), none, some (jJ R), none] [jJ (Int.tmod (y * s) b)] 0 0 w _
          refine jWp.blk mt 6 ?_
          show jWp 182 55 [none, none, none, none, some (jJ b), none, some (jJ (Int.tmod (y * s) b)), none, some (jJ s), none, some (jJ R), none] [jJ b, jJ (s * s)] 0 0 w _
          refine jWp.lrem (pc' := 56) mt rfl rfl (b64_id (by omega) (by omega)) (b64_id (by omega) (by omega)) (by omega) ?_
          show jWp 182 56 [none, none, none, none, some (jJ b), none, some (jJ (Int.tmod (y * s) b)), none, some (jJ s), none, some (jJ R), none] [jJ (Int.tmod (s * s) b)] 0 0 w _
          refine jWp.blk mt 3 ?_
          show jWp 182 63 [none, none, none, none, some (jJ b), none, some (jJ (Int.tmod (y * s) b)), none, some (jJ (Int.tmod (s * s) b)), none, some (jJ R), none] [jJ 2, jJ R] 0 0 w _
          refine jWp.ldiv (pc' := 64) mt rfl rfl rfl (show b64 2 = 2 by decide) (by decide) ?_
          show jWp 182 64 [none, none, none, none, some (jJ b), none, some (jJ (Int.tmod (y * s) b)), none, some (jJ (Int.tmod (s * s) b)), none, some (jJ R), none] [jJ (Int.tdiv (b64 R) 2)] 0 0 w _
          refine jWp.blk mt 2 ?_
          show jWp 182 15 [none, none, none, none, some (jJ b), none, some (jJ (Int.tmod (y * s) b)), none, some (jJ (Int.tmod (s * s) b)), none, some (jJ (Int.tdiv (b64 R) 2)), none] [] 0 0 w _
          refine jWp.le (l := [none, none, none, none, some (jJ b), none, some (jJ (Int.tmod (y * s) b)), none, some (jJ (Int.tmod (s * s) b)), none, some (jJ (Int.tdiv (b64 R) 2)), none]) (by exact ⟨rfl, rfl, rfl, rfl, trivial⟩) ?_
          exact ih2 _ _ _ (by first | exact h5 | exact hy) h6 (by have := zhalf (R := R) (by assumption); omega)
  refine jWp.le (l := [none, none, none, none, some (jJ b), none, some (jJ (Int.tmod 1 b)), none, some (jJ (Int.tmod x b)), none, some (jJ R), none]) (by exact ⟨rfl, rfl, rfl, rfl, trivial⟩) ?_
  exact lp1 _ (Int.tmod 1 b) (Int.tmod x b) R h1 h2 (Nat.lt_succ_self _)
