section
/-- alike: the same table and the same values -/
def zal (q p : Nat → Int) (n : Nat) : Prop := (∀ e, e < 16 → q (1 + e) = p (1 + e)) ∧ ∀ i, i < n → q (21 + i) = p (21 + i) ∧ q (25 + i) = p (25 + i)
/-- how often a value stands -/
def zcnt (u v : Nat → Int) : Nat → Int → Int → Int
  | 0, _, _ => 0
  | j + 1, x, y => zcnt u v j x y + if u j = x ∧ v j = y then 1 else 0
theorem zcnt_b (u v : Nat → Int) (x y : Int) : ∀ j, 0 ≤ zcnt u v j x y ∧ zcnt u v j x y ≤ (j : Int)
  | 0 => ⟨Int.le_refl _, Int.le_refl _⟩
  | j + 1 => by
    have h := zcnt_b u v x y j
    unfold zcnt
    split <;> omega
theorem zcnt_t (u v : Nat → Int) {j : Nat} {x y : Int} (h : u j = x ∧ v j = y) : zcnt u v (j + 1) x y = zcnt u v j x y + 1 := by
  show _ + (if _ then _ else _) = _
  rw [if_pos h]
theorem zcnt_f (u v : Nat → Int) {j : Nat} {x y : Int} (h : ¬ (u j = x ∧ v j = y)) : zcnt u v (j + 1) x y = zcnt u v j x y + 0 := by
  show _ + (if _ then _ else _) = _
  rw [if_neg h]
def zsame (q p : Nat → Int) (n : Nat) : Prop := ∀ i, i < n → zcnt (fun j => q (21 + j)) (fun j => q (25 + j)) n (q (21 + i)) (q (25 + i)) = zcnt (fun j => p (21 + j)) (fun j => p (25 + j)) n (q (21 + i)) (q (25 + i))
theorem zhalf {R : Int} (h : 0 < b64 R) : (b64 (Int.tdiv (b64 R) 2)).toNat < (b64 R).toNat := by
  have h1 := b64_hi R
  have h2 : Int.tdiv (b64 R) 2 = b64 R / 2 := Int.tdiv_eq_ediv_of_nonneg (by omega)
  rw [h2, b64_id (by omega) (by omega)]
  omega
theorem zmod_b {x y : Int} (hx : 0 ≤ x) (hy : 1 ≤ y) : 0 ≤ Int.tmod x y ∧ Int.tmod x y < y := by
  rw [Int.tmod_eq_emod_of_nonneg hx]
  exact ⟨Int.emod_nonneg _ (by omega), Int.emod_lt_of_pos _ (by omega)⟩
theorem zmul_n {x y b : Int} (hx : 0 ≤ x) (hx' : x < b) (hy : 0 ≤ y) (hy' : y < b) (hb : b ≤ 1000000000) : 0 ≤ x * y ∧ x * y ≤ 1000000000000000000 := by
  have h1 : 0 ≤ x * y := Int.mul_nonneg hx hy
  have h2 : x * y ≤ 1000000000 * 1000000000 := Int.mul_le_mul (by omega) (by omega) hy (by decide)
  omega
set_option maxHeartbeats 4000000 in
set_option maxRecDepth 20000 in
theorem E_areAlike {w : jS} {q p n : Nat} (hq : w.2.1 q = (101, 45)) (hp : w.2.1 p = (101, 45)) (hS : zS (w.1 q) n) (hS2 : zS (w.1 p) n) : jCall 188 [jO q, jO p] w (jvb (zal (w.1 q) (w.1 p) n) w) := by
  have mt : jtb 188 = jT188 := rfl
  have hn4 := hS.n4
  show jWp 188 0 [some (jO q), some (jO p), none] [] 0 0 w _
  refine jWp.blk mt 2 ?_
  show jWp 188 2 [some (jO q), some (jO p), some (jI 0)] [] 0 0 w _
  have lp1 : ∀ (N : Nat) (e : Nat) (he : e ≤ 16) (hA : ∀ x, x < e → w.1 q (1 + x) = w.1 p (1 + x)), 16 - e < N → jWp 188 2 [some (jO q), some (jO p), some (jI (e : Int))] [] 0 0 w (jvb (zal (w.1 q) (w.1 p) n) w) := by
    intro N
    induction N with
    | zero => intro e he hA hm; omega
    | succ N ih2 =>
      intro e he hA hm
      have hf : e < 16 → _ := fun h => And.intro (hS.b e h) (hS2.b e h)
      refine jWp.blk mt 2 ?_
      show jWp 188 5 [some (jO q), some (jO p), some (jI (e : Int))] [jI 16, jI (e : Int)] 0 0 w _
      refine jWp.icmp (pc' := 8) mt rfl rfl (b32_id (by omega) (by omega)) (show b32 16 = 16 by decide) (fun h3 => ?_) (fun h3 => ?_)
      · have h3 : 16 ≤ (e : Int) := h3
        refine jWp.blk mt 2 ?_
        show jWp 188 32 [some (jO q), some (jO p), some (jI 0)] [] 0 0 w _
        have lp4 : ∀ (N : Nat) (i : Nat) (hi : i ≤ n) (hB : ∀ x, x < i → w.1 q (21 + x) = w.1 p (21 + x) ∧ w.1 q (25 + x) = w.1 p (25 + x)), n - i < N → jWp 188 32 [some (jO q), some (jO p), some (jI (i : Int))] [] 0 0 w (jvb (zal (w.1 q) (w.1 p) n) w) := by
          intro N
          induction N with
          | zero => intro i hi hB hm; omega
          | succ N ih5 =>
            intro i hi hB hm
            have hf : i < n → (1 ≤ w.1 q (21 + i) ∧ w.1 q (21 + i) ≤ 1000000000 ∧ 1 ≤ w.1 q (25 + i) ∧ w.1 q (25 + i) ≤ 1000000000) ∧ (1 ≤ w.1 p (21 + i) ∧ w.1 p (21 + i) ≤ 1000000000 ∧ 1 ≤ w.1 p (25 + i) ∧ w.1 p (25 + i) ≤ 1000000000) := fun h => And.intro (hS.v i (by omega)) (hS2.v i (by omega))
            refine jWp.blk mt 1 ?_
            show jWp 188 33 [some (jO q), some (jO p), some (jI (i : Int))] [jI (i : Int)] 0 0 w _
            refine jWp.i2l (pc' := 34) mt rfl rfl (b32_id (by omega) (by omega)) ?_
            show jWp 188 34 [some (jO q), some (jO p), some (jI (i : Int))] [jJ (i : Int)] 0 0 w _
            refine jWp.blk mt 2 ?_
            show _ ∧ jWp 188 36 [some (jO q), some (jO p), some (jI (i : Int))] [jI 0, jO q, jJ (i : Int)] 0 0 w _
            refine ⟨rfl, ?_⟩
            refine jWp.lald (pc' := 37) (j := 0) mt rfl rfl (jtg hq) (by decide) (jlt hq (by decide)) ?_
            rw [show (w.1 q 0) = (n : Int) from hS.n0]
            show jWp 188 37 [some (jO q), some (jO p), some (jI (i : Int))] [jJ (n : Int), jJ (i : Int)] 0 0 w _
            refine jWp.lcmp (pc' := 41) mt rfl rfl rfl (b64_id (by omega) (by omega)) (b64_id (by omega) (by omega)) (fun h6 => ?_) (fun h6 => ?_)
            · have h6 : (n : Int) ≤ (i : Int) := h6
              refine jWp.blk mt 1 ?_
              show jWp 188 82 [some (jO q), some (jO p), some (jI (i : Int))] [jI 1] 0 0 w _
              refine jWp.iretz mt rfl ⟨rfl, rfl⟩ rfl (Or.inr rfl) ?_
              exact Or.inl ⟨rfl, rfl, fun x hx => hA x (by omega), fun x hx => hB x (by omega)⟩
            · have h6 : (i : Int) < (n : Int) := h6
              refine jWp.blk mt 4 ?_
              show _ ∧ jWp 188 46 [some (jO q), some (jO p), some (jI (i : Int))] [jI (21 + (i : Int)), jO q] 0 0 w _
              refine ⟨rfl, ?_⟩
              refine jWp.lald (pc' := 47) (j := (21 + i)) mt rfl rfl (jtg hq) (by rw [b32_id (by omega) (by omega)] <;> omega) (jlt hq (by omega)) ?_
              show jWp 188 47 [some (jO q), some (jO p), some (jI (i : Int))] [jJ (w.1 q (21 + i))] 0 0 w _
              refine jWp.blk mt 4 ?_
              show _ ∧ jWp 188 52 [some (jO q), some (jO p), some (jI (i : Int))] [jI (21 + (i : Int)), jO p, jJ (w.1 q (21 + i))] 0 0 w _
              refine ⟨rfl, ?_⟩
              refine jWp.lald (pc' := 53) (j := (21 + i)) mt rfl rfl (jtg hp) (by rw [b32_id (by omega) (by omega)] <;> omega) (jlt hp (by omega)) ?_
              show jWp 188 53 [some (jO q), some (jO p), some (jI (i : Int))] [jJ (w.1 p (21 + i)), jJ (w.1 q (21 + i))] 0 0 w _
              refine jWp.lcmp (pc' := 57) mt rfl rfl rfl (b64_id (by omega) (by omega)) (b64_id (by omega) (by omega)) (fun h7 => ?_) (fun h7 => ?_)
              · have h7 : (w.1 q (21 + i)) ≠ (w.1 p (21 + i)) := h7
                refine jWp.blk mt 1 ?_
                show jWp 188 74 [some (jO q), some (jO p), some (jI (i : Int))] [jI 0] 0 0 w _
                refine jWp.iretz mt rfl ⟨rfl, rfl⟩ rfl (Or.inl rfl) ?_
                refine Or.inr ⟨rfl, rfl, fun hz => ?_⟩
                first
                | exact absurd (hz.1 e (by omega)) (by assumption)
                | exact absurd (hz.2 i (by omega)).1 (by assumption)
                | exact absurd (hz.2 i (by omega)).2 (by assumption)
              · have h7 : (w.1 q (21 + i)) = (w.1 p (21 + i)) := h7
                refine jWp.blk mt 4 ?_
                show _ ∧ jWp 188 62 [some (jO q), some (jO p), some (jI (i : Int))] [jI (25 + (i : Int)), jO q] 0 0 w _
                refine ⟨rfl, ?_⟩
                refine jWp.lald (pc' := 63) (j := (25 + i)) mt rfl rfl (jtg hq) (by rw [b32_id (by omega) (by omega)] <;> omega) (jlt hq (by omega)) ?_
                show jWp 188 63 [some (jO q), some (jO p), some (jI (i : Int))] [jJ (w.1 q (25 + i))] 0 0 w _
                refine jWp.blk mt 4 ?_
                show _ ∧ jWp 188 68 [some (jO q), some (jO p), some (jI (i : Int))] [jI (25 + (i : Int)), jO p, jJ (w.1 q (25 + i))] 0 0 w _
                refine ⟨rfl, ?_⟩
                refine jWp.lald (pc' := 69) (j := (25 + i)) mt rfl rfl (jtg hp) (by rw [b32_id (by omega) (by omega)] <;> omega) (jlt hp (by omega)) ?_
                show jWp 188 69 [some (jO q), some (jO p), some (jI (i : Int))] [jJ (w.1 p (25 + i)), jJ (w.1 q (25 + i))] 0 0 w _
                refine jWp.lcmp (pc' := 73) mt rfl rfl rfl (b64_id (by omega) (by omega)) (b64_id (by omega) (by omega)) (fun h8 => ?_) (fun h8 => ?_)
                · have h8 : (w.1 q (25 + i)) = (w.1 p (25 + i)) := h8
                  refine jWp.blk mt 2 ?_
                  show jWp 188 32 [some (jO q), some (jO p), some (jI ((i : Int) + 1))] [] 0 0 w _
                  refine jWp.le (l := [some (jO q), some (jO p), some (jI ((i : Int) + 1))]) (by exact ⟨rfl, rfl, rfl, trivial⟩) ?_
                  exact ih5 (i + 1) (by omega) (fun x hx => by rcases Nat.lt_or_ge x i with h | h; exact hB x h; rw [show x = i by omega]; exact ⟨by assumption, by assumption⟩) (by omega)
                · have h8 : (w.1 q (25 + i)) ≠ (w.1 p (25 + i)) := h8
                  refine jWp.blk mt 1 ?_
                  show jWp 188 74 [some (jO q), some (jO p), some (jI (i : Int))] [jI 0] 0 0 w _
                  refine jWp.iretz mt rfl ⟨rfl, rfl⟩ rfl (Or.inl rfl) ?_
                  refine Or.inr ⟨rfl, rfl, fun hz => ?_⟩
                  first
                  | exact absurd (hz.1 e (by omega)) (by assumption)
                  | exact absurd (hz.2 i (by omega)).1 (by assumption)
                  | exact absurd (hz.2 i (by omega)).2 (by assumption)
        refine jWp.le (l := [some (jO q), some (jO p), some (jI 0)]) (by exact ⟨rfl, rfl, rfl, trivial⟩) ?_
        exact lp4 _ 0 (by omega) (fun x hx => absurd hx (by omega)) (Nat.lt_succ_self _)
      · have h3 : (e : Int) < 16 := h3
        refine jWp.blk mt 4 ?_
        show _ ∧ jWp 188 12 [some (jO q), some (jO p), some (jI (e : Int))] [jI (1 + (e : Int)), jO q] 0 0 w _
        refine ⟨rfl, ?_⟩
        refine jWp.lald (pc' := 13) (j := (1 + e)) mt rfl rfl (jtg hq) (by rw [b32_id (by omega) (by omega)] <;> omega) (jlt hq (by omega)) ?_
        show jWp 188 13 [some (jO q), some (jO p), some (jI (e : Int))] [jJ (w.1 q (1 + e))] 0 0 w _
        refine jWp.blk mt 4 ?_
        show _ ∧ jWp 188 17 [some (jO q), some (jO p), some (jI (e : Int))] [jI (1 + (e : Int)), jO p, jJ (w.1 q (1 + e))] 0 0 w _
        refine ⟨rfl, ?_⟩
        refine jWp.lald (pc' := 18) (j := (1 + e)) mt rfl rfl (jtg hp) (by rw [b32_id (by omega) (by omega)] <;> omega) (jlt hp (by omega)) ?_
        show jWp 188 18 [some (jO q), some (jO p), some (jI (e : Int))] [jJ (w.1 p (1 + e)), jJ (w.1 q (1 + e))] 0 0 w _
        refine jWp.lcmp (pc' := 22) mt rfl rfl rfl (b64_id (by omega) (by omega)) (b64_id (by omega) (by omega)) (fun h9 => ?_) (fun h9 => ?_)
        · have h9 : (w.1 q (1 + e)) = (w.1 p (1 + e)) := h9
          refine jWp.blk mt 2 ?_
          show jWp 188 2 [some (jO q), some (jO p), some (jI ((e : Int) + 1))] [] 0 0 w _
          refine jWp.le (l := [some (jO q), some (jO p), some (jI ((e : Int) + 1))]) (by exact ⟨rfl, rfl, rfl, trivial⟩) ?_
          exact ih2 (e + 1) (by omega) (fun x hx => by rcases Nat.lt_or_ge x e with h | h; exact hA x h; rw [show x = e by omega]; assumption) (by omega)
        · have h9 : (w.1 q (1 + e)) ≠ (w.1 p (1 + e)) := h9
          refine jWp.blk mt 1 ?_
          show jWp 188 23 [some (jO q), some (jO p), some (jI (e : Int))] [jI 0] 0 0 w _
          refine jWp.iretz mt rfl ⟨rfl, rfl⟩ rfl (Or.inl rfl) ?_
          refine Or.inr ⟨rfl, rfl, fun hz => ?_⟩
          first
          | exact absurd (hz.1 e (by omega)) (by assumption)
          | exact absurd (hz.2 i (by omega)).1 (by assumption)
          | exact absurd (hz.2 i (by omega)).2 (by assumption)
  refine jWp.le (l := [some (jO q), some (jO p), some (jI 0)]) (by exact ⟨rfl, rfl, rfl, trivial⟩) ?_
  exact lp1 _ 0 (by omega) (fun x hx => absurd hx (by omega)) (Nat.lt_succ_self _)
set_option maxHeartbeats 4000000 in
set_option maxRecDepth 20000 in
theorem E_haveSame {w : jS} {q p n : Nat} (hq : w.2.1 q = (101, 45)) (hp : w.2.1 p = (101, 45)) (hS : zS (w.1 q) n) (hS2 : zS (w.1 p) n) : jCall 186 [jO q, jO p] w (jvb (zsame (w.1 q) (w.1 p) n) w) := by
  have mt : jtb 186 = jT186 := rfl
  have hn4 := hS.n4
  show jWp 186 0 [some (jO q), some (jO p), none, none, none] [] 0 0 w _
  refine jWp.blk mt 2 ?_
  show jWp 186 2 [some (jO q), some (jO p), some (jI 0), none, none] [] 0 0 w _
  have lp1 : ∀ (N : Nat) (i : Nat) (hi : i ≤ n) (hA : ∀ x, x < i → zcnt (fun j => w.1 q (21 + j)) (fun j => w.1 q (25 + j)) n (w.1 q (21 + x)) (w.1 q (25 + x)) = zcnt (fun j => w.1 p (21 + j)) (fun j => w.1 p (25 + j)) n (w.1 q (21 + x)) (w.1 q (25 + x))), n - i < N → jWp 186 2 [some (jO q), some (jO p), some (jI (i : Int)), none, none] [] 0 0 w (jvb (zsame (w.1 q) (w.1 p) n) w) := by
    intro N
    induction N with
    | zero => intro i hi hA hm; omega
    | succ N ih2 =>
      intro i hi hA hm
      have hf : i < n → (1 ≤ w.1 q (21 + i) ∧ w.1 q (21 + i) ≤ 1000000000 ∧ 1 ≤ w.1 q (25 + i) ∧ w.1 q (25 + i) ≤ 1000000000) := fun h => hS.v i (by omega)
      refine jWp.blk mt 1 ?_
      show jWp 186 3 [some (jO q), some (jO p), some (jI (i : Int)), none, none] [jI (i : Int)] 0 0 w _
      refine jWp.i2l (pc' := 4) mt rfl rfl (b32_id (by omega) (by omega)) ?_
      show jWp 186 4 [some (jO q), some (jO p), some (jI (i : Int)), none, none] [jJ (i : Int)] 0 0 w _
      refine jWp.blk mt 2 ?_
      show _ ∧ jWp 186 6 [some (jO q), some (jO p), some (jI (i : Int)), none, none] [jI 0, jO q, jJ (i : Int)] 0 0 w _
      refine ⟨rfl, ?_⟩
      refine jWp.lald (pc' := 7) (j := 0) mt rfl rfl (jtg hq) (by decide) (jlt hq (by decide)) ?_
      rw [show (w.1 q 0) = (n : Int) from hS.n0]
      show jWp 186 7 [some (jO q), some (jO p), some (jI (i : Int)), none, none] [jJ (n : Int), jJ (i : Int)] 0 0 w _
      refine jWp.lcmp (pc' := 11) mt rfl rfl rfl (b64_id (by omega) (by omega)) (b64_id (by omega) (by omega)) (fun h3 => ?_) (fun h3 => ?_)
      · have h3 : (n : Int) ≤ (i : Int) := h3
        refine jWp.blk mt 1 ?_
        show jWp 186 129 [some (jO q), some (jO p), some (jI (i : Int)), none, none] [jI 1] 0 0 w _
        refine jWp.iretz mt rfl ⟨rfl, rfl⟩ rfl (Or.inr rfl) ?_
        exact Or.inl ⟨rfl, rfl, fun x hx => hA x (by omega)⟩
      · have h3 : (i : Int) < (n : Int) := h3
        refine jWp.blk mt 4 ?_
        show jWp 186 16 [some (jO q), some (jO p), some (jI (i : Int)), some (jI 0), some (jI 0)] [] 0 0 w _
        have lp4 : ∀ (N : Nat) (j : Nat) (o : Int) (hj : j ≤ n) (ho : o = zcnt (fun j => w.1 q (21 + j)) (fun j => w.1 q (25 + j)) j (w.1 q (21 + i)) (w.1 q (25 + i)) - zcnt (fun j => w.1 p (21 + j)) (fun j => w.1 p (25 + j)) j (w.1 q (21 + i)) (w.1 q (25 + i))), n - j < N → jWp 186 16 [some (jO q), some (jO p), some (jI (i : Int)), some (jI o), some (jI (j : Int))] [] 0 0 w (jvb (zsame (w.1 q) (w.1 p) n) w) := by
          intro N
          induction N with
          | zero => intro j o hj ho hm; omega
          | succ N ih5 =>
            intro j o hj ho hm
            have hi4 : i < n := by omega
            have hf2 := hf hi4
            have hg : j < n → (1 ≤ w.1 q (21 + j) ∧ w.1 q (21 + j) ≤ 1000000000 ∧ 1 ≤ w.1 q (25 + j) ∧ w.1 q (25 + j) ≤ 1000000000) ∧ (1 ≤ w.1 p (21 + j) ∧ w.1 p (21 + j) ≤ 1000000000 ∧ 1 ≤ w.1 p (25 + j) ∧ w.1 p (25 + j) ≤ 1000000000) := fun h => And.intro (hS.v j (by omega)) (hS2.v j (by omega))
            have c1 := zcnt_b (fun j => w.1 q (21 + j)) (fun j => w.1 q (25 + j)) (w.1 q (21 + i)) (w.1 q (25 + i)) j
            have c2 := zcnt_b (fun j => w.1 p (21 + j)) (fun j => w.1 p (25 + j)) (w.1 q (21 + i)) (w.1 q (25 + i)) j
            refine jWp.blk mt 1 ?_
            show jWp 186 18 [some (jO q), some (jO p), some (jI (i : Int)), some (jI o), some (jI (j : Int))] [jI (j : Int)] 0 0 w _
            refine jWp.i2l (pc' := 19) mt rfl rfl (b32_id (by omega) (by omega)) ?_
            show jWp 186 19 [some (jO q), some (jO p), some (jI (i : Int)), some (jI o), some (jI (j : Int))] [jJ (j : Int)] 0 0 w _
            refine jWp.blk mt 2 ?_
            show _ ∧ jWp 186 21 [some (jO q), some (jO p), some (jI (i : Int)), some (jI o), some (jI (j : Int))] [jI 0, jO q, jJ (j : Int)] 0 0 w _
            refine ⟨rfl, ?_⟩
            refine jWp.lald (pc' := 22) (j := 0) mt rfl rfl (jtg hq) (by decide) (jlt hq (by decide)) ?_
            rw [show (w.1 q 0) = (n : Int) from hS.n0]
            show jWp 186 22 [some (jO q), some (jO p), some (jI (i : Int)), some (jI o), some (jI (j : Int))] [jJ (n : Int), jJ (j : Int)] 0 0 w _
            refine jWp.lcmp (pc' := 26) mt rfl rfl rfl (b64_id (by omega) (by omega)) (b64_id (by omega) (by omega)) (fun h6 => ?_) (fun h6 => ?_)
            · have h6 : (n : Int) ≤ (j : Int) := h6
              refine jWp.blk mt 1 ?_
              show jWp 186 117 [some (jO q), some (jO p), some (jI (i : Int)), some (jI o), some (jI (j : Int))] [jI o] 0 0 w _
              refine jWp.ifz (pc' := 120) mt rfl rfl (b32_id (by omega) (by omega)) (fun h7 => ?_) (fun h7 => ?_)
              · have h7 : o = 0 := h7
                refine jWp.blk mt 2 ?_
                show jWp 186 2 [some (jO q), some (jO p), some (jI ((i : Int) + 1)), some (jI o), some (jI (j : Int))] [] 0 0 w _
                refine jWp.le (l := [some (jO q), some (jO p), some (jI ((i : Int) + 1)), none, none]) (by exact ⟨rfl, rfl, rfl, trivial⟩) ?_
                exact ih2 (i + 1) (by omega) (fun x hx => by rcases Nat.lt_or_ge x i with h | h; exact hA x h; rw [show x = i by omega, show n = j by omega]; omega) (by omega)
              · have h7 : o ≠ 0 := h7
                refine jWp.blk mt 1 ?_
                show jWp 186 121 [some (jO q), some (jO p), some (jI (i : Int)), some (jI o), some (jI (j : Int))] [jI 0] 0 0 w _
                refine jWp.iretz mt rfl ⟨rfl, rfl⟩ rfl (Or.inl rfl) ?_
                refine Or.inr ⟨rfl, rfl, fun hz => ?_⟩
                have hz := hz i (by omega)
                rw [show n = j by omega] at hz
                omega
            · have h6 : (j : Int) < (n : Int) := h6
              refine jWp.blk mt 5 ?_
              show _ ∧ jWp 186 33 [some (jO q), some (jO p), some (jI (i : Int)), some (jI o), some (jI (j : Int))] [jI (21 + (j : Int)), jO q, jI o] 0 0 w _
              refine ⟨rfl, ?_⟩
              refine jWp.lald (pc' := 34) (j := (21 + j)) mt rfl rfl (jtg hq) (by rw [b32_id (by omega) (by omega)] <;> omega) (jlt hq (by omega)) ?_
              show jWp 186 34 [some (jO q), some (jO p), some (jI (i : Int)), some (jI o), some (jI (j : Int))] [jJ (w.1 q (21 + j)), jI o] 0 0 w _
              refine jWp.blk mt 4 ?_
              show _ ∧ jWp 186 39 [some (jO q), some (jO p), some (jI (i : Int)), some (jI o), some (jI (j : Int))] [jI (21 + (i : Int)), jO q, jJ (w.1 q (21 + j)), jI o] 0 0 w _
              refine ⟨rfl, ?_⟩
              refine jWp.lald (pc' := 40) (j := (21 + i)) mt rfl rfl (jtg hq) (by rw [b32_id (by omega) (by omega)] <;> omega) (jlt hq (by omega)) ?_
              show jWp 186 40 [some (jO q), some (jO p), some (jI (i : Int)), some (jI o), some (jI (j : Int))] [jJ (w.1 q (21 + i)), jJ (w.1 q (21 + j)), jI o] 0 0 w _
              refine jWp.lcmp (pc' := 44) mt rfl rfl rfl (b64_id (by omega) (by omega)) (b64_id (by omega) (by omega)) (fun h8 => ?_) (fun h8 => ?_)
              · have h8 : (w.1 q (21 + j)) ≠ (w.1 q (21 + i)) := h8
                refine jWp.blk mt 8 ?_
                show _ ∧ jWp 186 75 [some (jO q), some (jO p), some (jI (i : Int)), some (jI (o + 0)), some (jI (j : Int))] [jI (21 + (j : Int)), jO p, jI (o + 0)] 0 0 w _
                refine ⟨rfl, ?_⟩
                refine jWp.lald (pc' := 76) (j := (21 + j)) mt rfl rfl (jtg hp) (by rw [b32_id (by omega) (by omega)] <;> omega) (jlt hp (by omega)) ?_
                show jWp 186 76 [some (jO q), some (jO p), some (jI (i : Int)), some (jI (o + 0)), some (jI (j : Int))] [jJ (w.1 p (21 + j)), jI (o + 0)] 0 0 w _
                refine jWp.blk mt 4 ?_
                show _ ∧ jWp 186 81 [some (jO q), some (jO p), some (jI (i : Int)), some (jI (o + 0)), some (jI (j : Int))] [jI (21 + (i : Int)), jO q, jJ (w.1 p (21 + j)), jI (o + 0)] 0 0 w _
                refine ⟨rfl, ?_⟩
                refine jWp.lald (pc' := 82) (j := (21 + i)) mt rfl rfl (jtg hq) (by rw [b32_id (by omega) (by omega)] <;> omega) (jlt hq (by omega)) ?_
                show jWp 186 82 [some (jO q), some (jO p), some (jI (i : Int)), some (jI (o + 0)), some (jI (j : Int))] [jJ (w.1 q (21 + i)), jJ (w.1 p (21 + j)), jI (o + 0)] 0 0 w _
                refine jWp.lcmp (pc' := 86) mt rfl rfl rfl (b64_id (by omega) (by omega)) (b64_id (by omega) (by omega)) (fun h9 => ?_) (fun h9 => ?_)
                · have h9 : (w.1 p (21 + j)) ≠ (w.1 q (21 + i)) := h9
                  refine jWp.blk mt 5 ?_
                  show jWp 186 16 [some (jO q), some (jO p), some (jI (i : Int)), some (jI ((o + 0) - 0)), some (jI ((j : Int) + 1))] [] 0 0 w _
                  refine jWp.le (l := [some (jO q), some (jO p), some (jI (i : Int)), some (jI ((o + 0) - 0)), some (jI ((j : Int) + 1))]) (by exact ⟨rfl, rfl, rfl, rfl, rfl, trivial⟩) ?_
                  exact ih5 (j + 1) _ (by omega) (by rw [(zcnt_f (fun j => w.1 q (21 + j)) (fun j => w.1 q (25 + j)) (j := j) (fun h => by first | exact absurd h.1 (by assumption) | exact absurd h.2 (by assumption))), (zcnt_f (fun j => w.1 p (21 + j)) (fun j => w.1 p (25 + j)) (j := j) (fun h => by first | exact absurd h.1 (by assumption) | exact absurd h.2 (by assumption)))]; omega) (by omega)
                · have h9 : (w.1 p (21 + j)) = (w.1 q (21 + i)) := h9
                  refine jWp.blk mt 4 ?_
                  show _ ∧ jWp 186 92 [some (jO q), some (jO p), some (jI (i : Int)), some (jI (o + 0)), some (jI (j : Int))] [jI (25 + (j : Int)), jO p, jI (o + 0)] 0 0 w _
                  refine ⟨rfl, ?_⟩
                  refine jWp.lald (pc' := 93) (j := (25 + j)) mt rfl rfl (jtg hp) (by rw [b32_id (by omega) (by omega)] <;> omega) (jlt hp (by omega)) ?_
                  show jWp 186 93 [some (jO q), some (jO p), some (jI (i : Int)), some (jI (o + 0)), some (jI (j : Int))] [jJ (w.1 p (25 + j)), jI (o + 0)] 0 0 w _
                  refine jWp.blk mt 4 ?_
                  show _ ∧ jWp 186 98 [some (jO q), some (jO p), some (jI (i : Int)), some (jI (o + 0)), some (jI (j : Int))] [jI (25 + (i : Int)), jO q, jJ (w.1 p (25 + j)), jI (o + 0)] 0 0 w _
                  refine ⟨rfl, ?_⟩
                  refine jWp.lald (pc' := 99) (j := (25 + i)) mt rfl rfl (jtg hq) (by rw [b32_id (by omega) (by omega)] <;> omega) (jlt hq (by omega)) ?_
                  show jWp 186 99 [some (jO q), some (jO p), some (jI (i : Int)), some (jI (o + 0)), some (jI (j : Int))] [jJ (w.1 q (25 + i)), jJ (w.1 p (25 + j)), jI (o + 0)] 0 0 w _
                  refine jWp.lcmp (pc' := 103) mt rfl rfl rfl (b64_id (by omega) (by omega)) (b64_id (by omega) (by omega)) (fun h10 => ?_) (fun h10 => ?_)
                  · have h10 : (w.1 p (25 + j)) ≠ (w.1 q (25 + i)) := h10
                    refine jWp.blk mt 5 ?_
                    show jWp 186 16 [some (jO q), some (jO p), some (jI (i : Int)), some (jI ((o + 0) - 0)), some (jI ((j : Int) + 1))] [] 0 0 w _
                    refine jWp.le (l := [some (jO q), some (jO p), some (jI (i : Int)), some (jI ((o + 0) - 0)), some (jI ((j : Int) + 1))]) (by exact ⟨rfl, rfl, rfl, rfl, rfl, trivial⟩) ?_
                    exact ih5 (j + 1) _ (by omega) (by rw [(zcnt_f (fun j => w.1 q (21 + j)) (fun j => w.1 q (25 + j)) (j := j) (fun h => by first | exact absurd h.1 (by assumption) | exact absurd h.2 (by assumption))), (zcnt_f (fun j => w.1 p (21 + j)) (fun j => w.1 p (25 + j)) (j := j) (fun h => by first | exact absurd h.1 (by assumption) | exact absurd h.2 (by assumption)))]; omega) (by omega)
                  · have h10 : (w.1 p (25 + j)) = (w.1 q (25 + i)) := h10
                    refine jWp.blk mt 6 ?_
                    show jWp 186 16 [some (jO q), some (jO p), some (jI (i : Int)), some (jI ((o + 0) - 1)), some (jI ((j : Int) + 1))] [] 0 0 w _
                    refine jWp.le (l := [some (jO q), some (jO p), some (jI (i : Int)), some (jI ((o + 0) - 1)), some (jI ((j : Int) + 1))]) (by exact ⟨rfl, rfl, rfl, rfl, rfl, trivial⟩) ?_
                    exact ih5 (j + 1) _ (by omega) (by rw [(zcnt_f (fun j => w.1 q (21 + j)) (fun j => w.1 q (25 + j)) (j := j) (fun h => by first | exact absurd h.1 (by assumption) | exact absurd h.2 (by assumption))), (zcnt_t (fun j => w.1 p (21 + j)) (fun j => w.1 p (25 + j)) (j := j) ⟨by assumption, by assumption⟩)]; omega) (by omega)
              · have h8 : (w.1 q (21 + j)) = (w.1 q (21 + i)) := h8
                refine jWp.blk mt 4 ?_
                show _ ∧ jWp 186 50 [some (jO q), some (jO p), some (jI (i : Int)), some (jI o), some (jI (j : Int))] [jI (25 + (j : Int)), jO q, jI o] 0 0 w _
                refine ⟨rfl, ?_⟩
                refine jWp.lald (pc' := 51) (j := (25 + j)) mt rfl rfl (jtg hq) (by rw [b32_id (by omega) (by omega)] <;> omega) (jlt hq (by omega)) ?_
                show jWp 186 51 [some (jO q), some (jO p), some (jI (i : Int)), some (jI o), some (jI (j : Int))] [jJ (w.1 q (25 + j)), jI o] 0 0 w _
                refine jWp.blk mt 4 ?_
                show _ ∧ jWp 186 56 [some (jO q), some (jO p), some (jI (i : Int)), some (jI o), some (jI (j : Int))] [jI (25 + (i : Int)), jO q, jJ (w.1 q (25 + j)), jI o] 0 0 w _
                refine ⟨rfl, ?_⟩
                refine jWp.lald (pc' := 57) (j := (25 + i)) mt rfl rfl (jtg hq) (by rw [b32_id (by omega) (by omega)] <;> omega) (jlt hq (by omega)) ?_
                show jWp 186 57 [some (jO q), some (jO p), some (jI (i : Int)), some (jI o), some (jI (j : Int))] [jJ (w.1 q (25 + i)), jJ (w.1 q (25 + j)), jI o] 0 0 w _
                refine jWp.lcmp (pc' := 61) mt rfl rfl rfl (b64_id (by omega) (by omega)) (b64_id (by omega) (by omega)) (fun h11 => ?_) (fun h11 => ?_)
                · have h11 : (w.1 q (25 + j)) ≠ (w.1 q (25 + i)) := h11
                  refine jWp.blk mt 8 ?_
                  show _ ∧ jWp 186 75 [some (jO q), some (jO p), some (jI (i : Int)), some (jI (o + 0)), some (jI (j : Int))] [jI (21 + (j : Int)), jO p, jI (o + 0)] 0 0 w _
                  refine ⟨rfl, ?_⟩
                  refine jWp.lald (pc' := 76) (j := (21 + j)) mt rfl rfl (jtg hp) (by rw [b32_id (by omega) (by omega)] <;> omega) (jlt hp (by omega)) ?_
                  show jWp 186 76 [some (jO q), some (jO p), some (jI (i : Int)), some (jI (o + 0)), some (jI (j : Int))] [jJ (w.1 p (21 + j)), jI (o + 0)] 0 0 w _
                  refine jWp.blk mt 4 ?_
                  show _ ∧ jWp 186 81 [some (jO q), some (jO p), some (jI (i : Int)), some (jI (o + 0)), some (jI (j : Int))] [jI (21 + (i : Int)), jO q, jJ (w.1 p (21 + j)), jI (o + 0)] 0 0 w _
                  refine ⟨rfl, ?_⟩
                  refine jWp.lald (pc' := 82) (j := (21 + i)) mt rfl rfl (jtg hq) (by rw [b32_id (by omega) (by omega)] <;> omega) (jlt hq (by omega)) ?_
                  show jWp 186 82 [some (jO q), some (jO p), some (jI (i : Int)), some (jI (o + 0)), some (jI (j : Int))] [jJ (w.1 q (21 + i)), jJ (w.1 p (21 + j)), jI (o + 0)] 0 0 w _
                  refine jWp.lcmp (pc' := 86) mt rfl rfl rfl (b64_id (by omega) (by omega)) (b64_id (by omega) (by omega)) (fun h12 => ?_) (fun h12 => ?_)
                  · have h12 : (w.1 p (21 + j)) ≠ (w.1 q (21 + i)) := h12
                    refine jWp.blk mt 5 ?_
                    show jWp 186 16 [some (jO q), some (jO p), some (jI (i : Int)), some (jI ((o + 0) - 0)), some (jI ((j : Int) + 1))] [] 0 0 w _
                    refine jWp.le (l := [some (jO q), some (jO p), some (jI (i : Int)), some (jI ((o + 0) - 0)), some (jI ((j : Int) + 1))]) (by exact ⟨rfl, rfl, rfl, rfl, rfl, trivial⟩) ?_
                    exact ih5 (j + 1) _ (by omega) (by rw [(zcnt_f (fun j => w.1 q (21 + j)) (fun j => w.1 q (25 + j)) (j := j) (fun h => by first | exact absurd h.1 (by assumption) | exact absurd h.2 (by assumption))), (zcnt_f (fun j => w.1 p (21 + j)) (fun j => w.1 p (25 + j)) (j := j) (fun h => by first | exact absurd h.1 (by assumption) | exact absurd h.2 (by assumption)))]; omega) (by omega)
                  · have h12 : (w.1 p (21 + j)) = (w.1 q (21 + i)) := h12
                    refine jWp.blk mt 4 ?_
                    show _ ∧ jWp 186 92 [some (jO q), some (jO p), some (jI (i : Int)), some (jI (o + 0)), some (jI (j : Int))] [jI (25 + (j : Int)), jO p, jI (o + 0)] 0 0 w _
                    refine ⟨rfl, ?_⟩
                    refine jWp.lald (pc' := 93) (j := (25 + j)) mt rfl rfl (jtg hp) (by rw [b32_id (by omega) (by omega)] <;> omega) (jlt hp (by omega)) ?_
                    show jWp 186 93 [some (jO q), some (jO p), some (jI (i : Int)), some (jI (o + 0)), some (jI (j : Int))] [jJ (w.1 p (25 + j)), jI (o + 0)] 0 0 w _
                    refine jWp.blk mt 4 ?_
                    show _ ∧ jWp 186 98 [some (jO q), some (jO p), some (jI (i : Int)), some (jI (o + 0)), some (jI (j : Int))] [jI (25 + (i : Int)), jO q, jJ (w.1 p (25 + j)), jI (o + 0)] 0 0 w _
                    refine ⟨rfl, ?_⟩
                    refine jWp.lald (pc' := 99) (j := (25 + i)) mt rfl rfl (jtg hq) (by rw [b32_id (by omega) (by omega)] <;> omega) (jlt hq (by omega)) ?_
                    show jWp 186 99 [some (jO q), some (jO p), some (jI (i : Int)), some (jI (o + 0)), some (jI (j : Int))] [jJ (w.1 q (25 + i)), jJ (w.1 p (25 + j)), jI (o + 0)] 0 0 w _
                    refine jWp.lcmp (pc' := 103) mt rfl rfl rfl (b64_id (by omega) (by omega)) (b64_id (by omega) (by omega)) (fun h13 => ?_) (fun h13 => ?_)
                    · have h13 : (w.1 p (25 + j)) ≠ (w.1 q (25 + i)) := h13
                      refine jWp.blk mt 5 ?_
                      show jWp 186 16 [some (jO q), some (jO p), some (jI (i : Int)), some (jI ((o + 0) - 0)), some (jI ((j : Int) + 1))] [] 0 0 w _
                      refine jWp.le (l := [some (jO q), some (jO p), some (jI (i : Int)), some (jI ((o + 0) - 0)), some (jI ((j : Int) + 1))]) (by exact ⟨rfl, rfl, rfl, rfl, rfl, trivial⟩) ?_
                      exact ih5 (j + 1) _ (by omega) (by rw [(zcnt_f (fun j => w.1 q (21 + j)) (fun j => w.1 q (25 + j)) (j := j) (fun h => by first | exact absurd h.1 (by assumption) | exact absurd h.2 (by assumption))), (zcnt_f (fun j => w.1 p (21 + j)) (fun j => w.1 p (25 + j)) (j := j) (fun h => by first | exact absurd h.1 (by assumption) | exact absurd h.2 (by assumption)))]; omega) (by omega)
                    · have h13 : (w.1 p (25 + j)) = (w.1 q (25 + i)) := h13
                      refine jWp.blk mt 6 ?_
                      show jWp 186 16 [some (jO q), some (jO p), some (jI (i : Int)), some (jI ((o + 0) - 1)), some (jI ((j : Int) + 1))] [] 0 0 w _
                      refine jWp.le (l := [some (jO q), some (jO p), some (jI (i : Int)), some (jI ((o + 0) - 1)), some (jI ((j : Int) + 1))]) (by exact ⟨rfl, rfl, rfl, rfl, rfl, trivial⟩) ?_
                      exact ih5 (j + 1) _ (by omega) (by rw [(zcnt_f (fun j => w.1 q (21 + j)) (fun j => w.1 q (25 + j)) (j := j) (fun h => by first | exact absurd h.1 (by assumption) | exact absurd h.2 (by assumption))), (zcnt_t (fun j => w.1 p (21 + j)) (fun j => w.1 p (25 + j)) (j := j) ⟨by assumption, by assumption⟩)]; omega) (by omega)
                · have h11 : (w.1 q (25 + j)) = (w.1 q (25 + i)) := h11
                  refine jWp.blk mt 9 ?_
                  show _ ∧ jWp 186 75 [some (jO q), some (jO p), some (jI (i : Int)), some (jI (o + 1)), some (jI (j : Int))] [jI (21 + (j : Int)), jO p, jI (o + 1)] 0 0 w _
                  refine ⟨rfl, ?_⟩
                  refine jWp.lald (pc' := 76) (j := (21 + j)) mt rfl rfl (jtg hp) (by rw [b32_id (by omega) (by omega)] <;> omega) (jlt hp (by omega)) ?_
                  show jWp 186 76 [some (jO q), some (jO p), some (jI (i : Int)), some (jI (o + 1)), some (jI (j : Int))] [jJ (w.1 p (21 + j)), jI (o + 1)] 0 0 w _
                  refine jWp.blk mt 4 ?_
                  show _ ∧ jWp 186 81 [some (jO q), some (jO p), some (jI (i : Int)), some (jI (o + 1)), some (jI (j : Int))] [jI (21 + (i : Int)), jO q, jJ (w.1 p (21 + j)), jI (o + 1)] 0 0 w _
                  refine ⟨rfl, ?_⟩
                  refine jWp.lald (pc' := 82) (j := (21 + i)) mt rfl rfl (jtg hq) (by rw [b32_id (by omega) (by omega)] <;> omega) (jlt hq (by omega)) ?_
                  show jWp 186 82 [some (jO q), some (jO p), some (jI (i : Int)), some (jI (o + 1)), some (jI (j : Int))] [jJ (w.1 q (21 + i)), jJ (w.1 p (21 + j)), jI (o + 1)] 0 0 w _
                  refine jWp.lcmp (pc' := 86) mt rfl rfl rfl (b64_id (by omega) (by omega)) (b64_id (by omega) (by omega)) (fun h14 => ?_) (fun h14 => ?_)
                  · have h14 : (w.1 p (21 + j)) ≠ (w.1 q (21 + i)) := h14
                    refine jWp.blk mt 5 ?_
                    show jWp 186 16 [some (jO q), some (jO p), some (jI (i : Int)), some (jI ((o + 1) - 0)), some (jI ((j : Int) + 1))] [] 0 0 w _
                    refine jWp.le (l := [some (jO q), some (jO p), some (jI (i : Int)), some (jI ((o + 1) - 0)), some (jI ((j : Int) + 1))]) (by exact ⟨rfl, rfl, rfl, rfl, rfl, trivial⟩) ?_
                    exact ih5 (j + 1) _ (by omega) (by rw [(zcnt_t (fun j => w.1 q (21 + j)) (fun j => w.1 q (25 + j)) (j := j) ⟨by assumption, by assumption⟩), (zcnt_f (fun j => w.1 p (21 + j)) (fun j => w.1 p (25 + j)) (j := j) (fun h => by first | exact absurd h.1 (by assumption) | exact absurd h.2 (by assumption)))]; omega) (by omega)
                  · have h14 : (w.1 p (21 + j)) = (w.1 q (21 + i)) := h14
                    refine jWp.blk mt 4 ?_
                    show _ ∧ jWp 186 92 [some (jO q), some (jO p), some (jI (i : Int)), some (jI (o + 1)), some (jI (j : Int))] [jI (25 + (j : Int)), jO p, jI (o + 1)] 0 0 w _
                    refine ⟨rfl, ?_⟩
                    refine jWp.lald (pc' := 93) (j := (25 + j)) mt rfl rfl (jtg hp) (by rw [b32_id (by omega) (by omega)] <;> omega) (jlt hp (by omega)) ?_
                    show jWp 186 93 [some (jO q), some (jO p), some (jI (i : Int)), some (jI (o + 1)), some (jI (j : Int))] [jJ (w.1 p (25 + j)), jI (o + 1)] 0 0 w _
                    refine jWp.blk mt 4 ?_
                    show _ ∧ jWp 186 98 [some (jO q), some (jO p), some (jI (i : Int)), some (jI (o + 1)), some (jI (j : Int))] [jI (25 + (i : Int)), jO q, jJ (w.1 p (25 + j)), jI (o + 1)] 0 0 w _
                    refine ⟨rfl, ?_⟩
                    refine jWp.lald (pc' := 99) (j := (25 + i)) mt rfl rfl (jtg hq) (by rw [b32_id (by omega) (by omega)] <;> omega) (jlt hq (by omega)) ?_
                    show jWp 186 99 [some (jO q), some (jO p), some (jI (i : Int)), some (jI (o + 1)), some (jI (j : Int))] [jJ (w.1 q (25 + i)), jJ (w.1 p (25 + j)), jI (o + 1)] 0 0 w _
                    refine jWp.lcmp (pc' := 103) mt rfl rfl rfl (b64_id (by omega) (by omega)) (b64_id (by omega) (by omega)) (fun h15 => ?_) (fun h15 => ?_)
                    · have h15 : (w.1 p (25 + j)) ≠ (w.1 q (25 + i)) := h15
                      refine jWp.blk mt 5 ?_
                      show jWp 186 16 [some (jO q), some (jO p), some (jI (i : Int)), some (jI ((o + 1) - 0)), some (jI ((j : Int) + 1))] [] 0 0 w _
                      refine jWp.le (l := [some (jO q), some (jO p), some (jI (i : Int)), some (jI ((o + 1) - 0)), some (jI ((j : Int) + 1))]) (by exact ⟨rfl, rfl, rfl, rfl, rfl, trivial⟩) ?_
                      exact ih5 (j + 1) _ (by omega) (by rw [(zcnt_t (fun j => w.1 q (21 + j)) (fun j => w.1 q (25 + j)) (j := j) ⟨by assumption, by assumption⟩), (zcnt_f (fun j => w.1 p (21 + j)) (fun j => w.1 p (25 + j)) (j := j) (fun h => by first | exact absurd h.1 (by assumption) | exact absurd h.2 (by assumption)))]; omega) (by omega)
                    · have h15 : (w.1 p (25 + j)) = (w.1 q (25 + i)) := h15
                      refine jWp.blk mt 6 ?_
                      show jWp 186 16 [some (jO q), some (jO p), some (jI (i : Int)), some (jI ((o + 1) - 1)), some (jI ((j : Int) + 1))] [] 0 0 w _
                      refine jWp.le (l := [some (jO q), some (jO p), some (jI (i : Int)), some (jI ((o + 1) - 1)), some (jI ((j : Int) + 1))]) (by exact ⟨rfl, rfl, rfl, rfl, rfl, trivial⟩) ?_
                      exact ih5 (j + 1) _ (by omega) (by rw [(zcnt_t (fun j => w.1 q (21 + j)) (fun j => w.1 q (25 + j)) (j := j) ⟨by assumption, by assumption⟩), (zcnt_t (fun j => w.1 p (21 + j)) (fun j => w.1 p (25 + j)) (j := j) ⟨by assumption, by assumption⟩)]; omega) (by omega)
        refine jWp.le (l := [some (jO q), some (jO p), some (jI (i : Int)), some (jI 0), some (jI 0)]) (by exact ⟨rfl, rfl, rfl, rfl, rfl, trivial⟩) ?_
        exact lp4 _ 0 0 (by omega) rfl (Nat.lt_succ_self _)
  refine jWp.le (l := [some (jO q), some (jO p), some (jI 0), none, none]) (by exact ⟨rfl, rfl, rfl, trivial⟩) ?_
  exact lp1 _ 0 (by omega) (fun x hx => absurd hx (by omega)) (Nat.lt_succ_self _)
set_option maxHeartbeats 4000000 in
set_option maxRecDepth 20000 in
theorem E_powered {w : jS} {x R b : Int} (hx : 0 ≤ x ∧ x ≤ 9) (hb : 1 ≤ b ∧ b ≤ 1000000000) : jCall 182 [jJ x, jJ R, jJ b] w (fun v w1 => w1 = w ∧ ∃ y, v = some (jJ y) ∧ 0 ≤ y ∧ y < b) := by
  have mt : jtb 182 = jT182 := rfl
  have h1 := zmod_b (x := 1) (by omega) hb.1
  have h2 := zmod_b hx.1 hb.1
  show jWp 182 0 [some (jJ x), none, some (jJ R), none, some (jJ b), none, none, none, none, none, none, none] [] 0 0 w _
  refine jWp.blk mt 2 ?_
  show jWp 182 3 [some (jJ x), none, some (jJ R), none, some (jJ b), none, none, none, none, none, none, none] [jJ b, jJ 1] 0 0 w _
  refine jWp.lrem (pc' := 4) mt rfl rfl (show b64 1 = 1 by decide) (b64_id (by omega) (by omega)) (by omega) ?_
  show jWp 182 4 [some (jJ x), none, some (jJ R), none, some (jJ b), none, none, none, none, none, none, none] [jJ (Int.tmod 1 b)] 0 0 w _
  refine jWp.blk mt 3 ?_
  show jWp 182 9 [some (jJ x), none, some (jJ R), none, some (jJ b), none, some (jJ (Int.tmod 1 b)), none, none, none, none, none] [jJ b, jJ x] 0 0 w _
  refine jWp.lrem (pc' := 10) mt rfl rfl (b64_id (by omega) (by omega)) (b64_id (by omega) (by omega)) (by omega) ?_
  show jWp 182 10 [some (jJ x), none, some (jJ R), none, some (jJ b), none, some (jJ (Int.tmod 1 b)), none, none, none, none, none] [jJ (Int.tmod x b)] 0 0 w _
  refine jWp.blk mt 3 ?_
  show jWp 182 15 [some (jJ x), none, some (jJ R), none, some (jJ b), none, some (jJ (Int.tmod 1 b)), none, some (jJ (Int.tmod x b)), none, some (jJ R), none] [] 0 0 w _
  have lp1 : ∀ (N : Nat) (y s R : Int) (hy : 0 ≤ y ∧ y < b) (hs : 0 ≤ s ∧ s < b), (b64 R).toNat < N → jWp 182 15 [none, none, none, none, some (jJ b), none, some (jJ y), none, some (jJ s), none, some (jJ R), none] [] 0 0 w (fun v w1 => w1 = w ∧ ∃ y, v = some (jJ y) ∧ 0 ≤ y ∧ y < b) := by
    intro N
    induction N with
    | zero => intro y s R hy hs hm; omega
    | succ N ih2 =>
      intro y s R hy hs hm
      have h3 := zmul_n hy.1 hy.2 hs.1 hs.2 hb.2
      have h4 := zmul_n hs.1 hs.2 hs.1 hs.2 hb.2
      have h5 := zmod_b h3.1 hb.1
      have h6 := zmod_b h4.1 hb.1
      have hR1 := b64_lo R
      have hR2 := b64_hi R
      refine jWp.blk mt 2 ?_
      show jWp 182 18 [none, none, none, none, some (jJ b), none, some (jJ y), none, some (jJ s), none, some (jJ R), none] [jJ 0, jJ R] 0 0 w _
      refine jWp.lcmp (pc' := 22) mt rfl rfl rfl rfl (show b64 0 = 0 by decide) (fun h3 => ?_) (fun h3 => ?_)
      · have h3 : (b64 R) ≤ 0 := h3
        refine jWp.blk mt 1 ?_
        show jWp 182 71 [none, none, none, none, some (jJ b), none, some (jJ y), none, some (jJ s), none, some (jJ R), none] [jJ y] 0 0 w _
        refine jWp.lret mt rfl ⟨rfl, rfl⟩ rfl ?_
        exact ⟨rfl, y, rfl, hy⟩
      · have h3 : 0 < (b64 R) := h3
        refine jWp.blk mt 2 ?_
        show jWp 182 27 [none, none, none, none, some (jJ b), none, some (jJ y), none, some (jJ s), none, some (jJ R), none] [jJ 2, jJ R] 0 0 w _
        refine jWp.lrem (pc' := 28) mt rfl rfl rfl (show b64 2 = 2 by decide) (by decide) ?_
        show jWp 182 28 [none, none, none, none, some (jJ b), none, some (jJ y), none, some (jJ s), none, some (jJ R), none] [jJ (Int.tmod (b64 R) 2)] 0 0 w _
        refine jWp.blk mt 1 ?_
        show jWp 182 29 [none, none, none, none, some (jJ b), none, some (jJ y), none, some (jJ s), none, some (jJ R), none] [jJ 1, jJ (Int.tmod (b64 R) 2)] 0 0 w _
        refine jWp.lcmp (pc' := 33) mt rfl rfl rfl (b64_id (by have := zmod_b (x := b64 R) (y := 2) (by omega) (by decide); omega) (by have := zmod_b (x := b64 R) (y := 2) (by omega) (by decide); omega)) (show b64 1 = 1 by decide) (fun h4 => ?_) (fun h4 => ?_)
        · have h4 : (Int.tmod (b64 R) 2) ≠ 1 := h4
          refine jWp.blk mt 6 ?_
          show jWp 182 55 [none, none, none, none, some (jJ b), none, some (jJ y), none, some (jJ s), none, some (jJ R), none] [jJ b, jJ (s * s)] 0 0 w _
          refine jWp.lrem (pc' := 56) mt rfl rfl (b64_id (by omega) (by omega)) (b64_id (by omega) (by omega)) (by omega) ?_
          show jWp 182 56 [none, none, none, none, some (jJ b), none, some (jJ y), none, some (jJ s), none, some (jJ R), none] [jJ (Int.tmod (s * s) b)] 0 0 w _
          refine jWp.blk mt 3 ?_
          show jWp 182 63 [none, none, none, none, some (jJ b), none, some (jJ y), none, some (jJ (Int.tmod (s * s) b)), none, some (jJ R), none] [jJ 2, jJ R] 0 0 w _
          refine jWp.ldiv (pc' := 64) mt rfl rfl rfl (show b64 2 = 2 by decide) (by decide) ?_
          show jWp 182 64 [none, none, none, none, some (jJ b), none, some (jJ y), none, some (jJ (Int.tmod (s * s) b)), none, some (jJ R), none] [jJ (Int.tdiv (b64 R) 2)] 0 0 w _
          refine jWp.blk mt 2 ?_
          show jWp 182 15 [none, none, none, none, some (jJ b), none, some (jJ y), none, some (jJ (Int.tmod (s * s) b)), none, some (jJ (Int.tdiv (b64 R) 2)), none] [] 0 0 w _
          refine jWp.le (l := [none, none, none, none, some (jJ b), none, some (jJ y), none, some (jJ (Int.tmod (s * s) b)), none, some (jJ (Int.tdiv (b64 R) 2)), none]) (by exact ⟨rfl, rfl, rfl, rfl, trivial⟩) ?_
          exact ih2 _ _ _ (by first | exact h5 | exact hy) h6 (by have := zhalf (R := R) (by assumption); omega)
        · have h4 : (Int.tmod (b64 R) 2) = 1 := h4
          refine jWp.blk mt 4 ?_
          show jWp 182 40 [none, none, none, none, some (jJ b), none, some (jJ y), none, some (jJ s), none, some (jJ R), none] [jJ b, jJ (y * s)] 0 0 w _
          refine jWp.lrem (pc' := 41) mt rfl rfl (b64_id (by omega) (by omega)) (b64_id (by omega) (by omega)) (by omega) ?_
          show jWp 182 41 [none, none, none, none, some (jJ b), none, some (jJ y), none, some (jJ s), none, some (jJ R), none] [jJ (Int.tmod (y * s) b)] 0 0 w _
          refine jWp.blk mt 6 ?_
          show jWp 182 55 [none, none, none, none, some (jJ b), none, some (jJ (Int.tmod (y * s) b)), none, some (jJ s), none, some (jJ R), none] [jJ b, jJ (s * s)] 0 0 w _
          refine jWp.lrem (pc' := 56) mt rfl rfl (b64_id (by omega) (by omega)) (b64_id (by omega) (by omega)) (by omega) ?_
          show jWp 182 56 [none, none, none, none, some (jJ b), none, some (jJ (Int.tmod (y * s) b)), none, some (jJ s), none, some (jJ R), none] [jJ (Int.tmod (s * s) b)] 0 0 w _
          refine jWp.blk mt 3 ?_
          show jWp 182 63 [none, none, none, none, some (jJ b), none, some (jJ (Int.tmod (y * s) b)), none, some (jJ (Int.tmod (s * s) b)), none, some (jJ R), none] [jJ 2, jJ R] 0 0 w _
          refine jWp.ldiv (pc' := 64) mt rfl rfl rfl (show b64 2 = 2 by decide) (by decide) ?_
          show jWp 182 64 [none, none, none, none, some (jJ b), none, some (jJ (Int.tmod (y * s) b)), none, some (jJ (Int.tmod (s * s) b)), none, some (jJ R), none] [jJ (Int.tdiv (b64 R) 2)] 0 0 w _
          refine jWp.blk mt 2 ?_
          show jWp 182 15 [none, none, none, none, some (jJ b), none, some (jJ (Int.tmod (y * s) b)), none, some (jJ (Int.tmod (s * s) b)), none, some (jJ (Int.tdiv (b64 R) 2)), none] [] 0 0 w _
          refine jWp.le (l := [none, none, none, none, some (jJ b), none, some (jJ (Int.tmod (y * s) b)), none, some (jJ (Int.tmod (s * s) b)), none, some (jJ (Int.tdiv (b64 R) 2)), none]) (by exact ⟨rfl, rfl, rfl, rfl, trivial⟩) ?_
          exact ih2 _ _ _ (by first | exact h5 | exact hy) h6 (by have := zhalf (R := R) (by assumption); omega)
  refine jWp.le (l := [none, none, none, none, some (jJ b), none, some (jJ (Int.tmod 1 b)), none, some (jJ (Int.tmod x b)), none, some (jJ R), none]) (by exact ⟨rfl, rfl, rfl, rfl, trivial⟩) ?_
  exact lp1 _ (Int.tmod 1 b) (Int.tmod x b) R h1 h2 (Nat.lt_succ_self _)
end
section
set_option maxHeartbeats 4000000 in
set_option maxRecDepth 20000 in
theorem E_isWhole {w : jS} {q n i : Nat} (hq : w.2.1 q = (101, 45)) (hS : zS (w.1 q) n) (hst : ∀ c, c < 4 → 0 ≤ w.1 q (17 + c) ∧ w.1 q (17 + c) ≤ 9) (hi : i < 4) : jCall 183 [jO q, jI (i : Int)] w (fun v w1 => w1 = w ∧ ∃ y, v = some (jI y) ∧ (y = 0 ∨ y = 1) ∧ (w.1 q (25 + i) = 1 → y = 1)) := by
  have mt : jtb 183 = jT183 := rfl
  have hn4 := hS.n4
  have hvi0 := hS.v i hi
  have hvi : 1 ≤ w.1 q (25 + i) ∧ w.1 q (25 + i) ≤ 1000000000 := hvi0.2.2
  have h1 := zmod_b (x := 1) (by omega) hvi.1
  show jWp 183 0 [some (jO q), some (jI (i : Int)), none, none, none, none, none] [] 0 0 w _
  refine jWp.blk mt 4 ?_
  show _ ∧ jWp 183 5 [some (jO q), some (jI (i : Int)), none, none, none, none, none] [jI (25 + (i : Int)), jO q] 0 0 w _
  refine ⟨rfl, ?_⟩
  refine jWp.lald (pc' := 6) (j := (25 + i)) mt rfl rfl (jtg hq) (by rw [b32_id (by omega) (by omega)] <;> omega) (jlt hq (by omega)) ?_
  show jWp 183 6 [some (jO q), some (jI (i : Int)), none, none, none, none, none] [jJ (w.1 q (25 + i))] 0 0 w _
  refine jWp.blk mt 3 ?_
  show jWp 183 9 [some (jO q), some (jI (i : Int)), some (jJ (w.1 q (25 + i))), none, none, none, none] [jJ (w.1 q (25 + i)), jJ 1] 0 0 w _
  refine jWp.lrem (pc' := 10) mt rfl rfl (show b64 1 = 1 by decide) (b64_id (by omega) (by omega)) (by omega) ?_
  show jWp 183 10 [some (jO q), some (jI (i : Int)), some (jJ (w.1 q (25 + i))), none, none, none, none] [jJ (Int.tmod 1 (w.1 q (25 + i)))] 0 0 w _
  refine jWp.blk mt 3 ?_
  show jWp 183 15 [some (jO q), some (jI (i : Int)), some (jJ (w.1 q (25 + i))), none, some (jJ (Int.tmod 1 (w.1 q (25 + i)))), none, some (jI 0)] [] 0 0 w _
  have lp1 : ∀ (N : Nat) (c : Nat) (y : Int) (hc : c ≤ n) (hy : 0 ≤ y ∧ y < w.1 q (25 + i)), n - c < N → jWp 183 15 [some (jO q), some (jI (i : Int)), some (jJ (w.1 q (25 + i))), none, some (jJ y), none, some (jI (c : Int))] [] 0 0 w (fun v w1 => w1 = w ∧ ∃ y, v = some (jI y) ∧ (y = 0 ∨ y = 1) ∧ (w.1 q (25 + i) = 1 → y = 1)) := by
    intro N
    induction N with
    | zero => intro c y hc hy hm; omega
    | succ N ih2 =>
      intro c y hc hy hm
      refine jWp.blk mt 1 ?_
      show jWp 183 17 [some (jO q), some (jI (i : Int)), some (jJ (w.1 q (25 + i))), none, some (jJ y), none, some (jI (c : Int))] [jI (c : Int)] 0 0 w _
      refine jWp.i2l (pc' := 18) mt rfl rfl (b32_id (by omega) (by omega)) ?_
      show jWp 183 18 [some (jO q), some (jI (i : Int)), some (jJ (w.1 q (25 + i))), none, some (jJ y), none, some (jI (c : Int))] [jJ (c : Int)] 0 0 w _
      refine jWp.blk mt 2 ?_
      show _ ∧ jWp 183 20 [some (jO q), some (jI (i : Int)), some (jJ (w.1 q (25 + i))), none, some (jJ y), none, some (jI (c : Int))] [jI 0, jO q, jJ (c : Int)] 0 0 w _
      refine ⟨rfl, ?_⟩
      refine jWp.lald (pc' := 21) (j := 0) mt rfl rfl (jtg hq) (by decide) (jlt hq (by decide)) ?_
      rw [show (w.1 q 0) = (n : Int) from hS.n0]
      show jWp 183 21 [some (jO q), some (jI (i : Int)), some (jJ (w.1 q (25 + i))), none, some (jJ y), none, some (jI (c : Int))] [jJ (n : Int), jJ (c : Int)] 0 0 w _
      refine jWp.lcmp (pc' := 25) mt rfl rfl rfl (b64_id (by omega) (by omega)) (b64_id (by omega) (by omega)) (fun h3 => ?_) (fun h3 => ?_)
      · have h3 : (n : Int) ≤ (c : Int) := h3
        refine jWp.blk mt 2 ?_
        show jWp 183 63 [some (jO q), some (jI (i : Int)), some (jJ (w.1 q (25 + i))), none, some (jJ y), none, some (jI (c : Int))] [jJ 0, jJ y] 0 0 w _
        refine jWp.lcmp (pc' := 67) mt rfl rfl rfl (b64_id (by omega) (by omega)) (show b64 0 = 0 by decide) (fun h4 => ?_) (fun h4 => ?_)
        · have h4 : y ≠ 0 := h4
          refine jWp.blk mt 1 ?_
          show jWp 183 72 [some (jO q), some (jI (i : Int)), some (jJ (w.1 q (25 + i))), none, some (jJ y), none, some (jI (c : Int))] [jI 0] 0 0 w _
          refine jWp.iretz mt rfl ⟨rfl, rfl⟩ rfl (Or.inl rfl) ?_
          exact ⟨rfl, _, rfl, by omega, fun h => by omega⟩
        · have h4 : y = 0 := h4
          refine jWp.blk mt 2 ?_
          show jWp 183 72 [some (jO q), some (jI (i : Int)), some (jJ (w.1 q (25 + i))), none, some (jJ y), none, some (jI (c : Int))] [jI 1] 0 0 w _
          refine jWp.iretz mt rfl ⟨rfl, rfl⟩ rfl (Or.inr rfl) ?_
          exact ⟨rfl, _, rfl, by omega, fun h => by omega⟩
      · have h3 : (c : Int) < (n : Int) := h3
        refine jWp.blk mt 5 ?_
        show _ ∧ jWp 183 33 [some (jO q), some (jI (i : Int)), some (jJ (w.1 q (25 + i))), none, some (jJ y), none, some (jI (c : Int))] [jI (17 + (c : Int)), jO q, jJ y] 0 0 w _
        refine ⟨rfl, ?_⟩
        refine jWp.lald (pc' := 34) (j := (17 + c)) mt rfl rfl (jtg hq) (by rw [b32_id (by omega) (by omega)] <;> omega) (jlt hq (by omega)) ?_
        show jWp 183 34 [some (jO q), some (jI (i : Int)), some (jJ (w.1 q (25 + i))), none, some (jJ y), none, some (jI (c : Int))] [jJ (w.1 q (17 + c)), jJ y] 0 0 w _
        refine jWp.blk mt 8 ?_
        show _ ∧ jWp 183 44 [some (jO q), some (jI (i : Int)), some (jJ (w.1 q (25 + i))), none, some (jJ y), none, some (jI (c : Int))] [jI ((29 + (4 * (i : Int))) + (c : Int)), jO q, jJ (w.1 q (17 + c)), jJ y] 0 0 w _
        refine ⟨rfl, ?_⟩
        refine jWp.lald (pc' := 45) (j := (29 + 4 * i + c)) mt rfl rfl (jtg hq) (by rw [b32_id (by omega) (by omega)]; omega) (jlt hq (by omega)) ?_
        show jWp 183 45 [some (jO q), some (jI (i : Int)), some (jJ (w.1 q (25 + i))), none, some (jJ y), none, some (jI (c : Int))] [jJ (w.1 q (29 + 4 * i + c)), jJ (w.1 q (17 + c)), jJ y] 0 0 w _
        refine jWp.blk mt 1 ?_
        show jWp 183 46 [some (jO q), some (jI (i : Int)), some (jJ (w.1 q (25 + i))), none, some (jJ y), none, some (jI (c : Int))] [jJ (w.1 q (25 + i)), jJ (w.1 q (29 + 4 * i + c)), jJ (w.1 q (17 + c)), jJ y] 0 0 w _
        refine jWp.calls (as := [jJ (w.1 q (17 + c)), jJ (w.1 q (29 + 4 * i + c)), jJ (w.1 q (25 + i))]) (rest := [jJ y]) mt rfl rfl rfl rfl ?_
        refine jCall.mono (E_powered (hst c (by omega)) (show 1 ≤ w.1 q (25 + i) ∧ w.1 q (25 + i) ≤ 1000000000 from hvi)) (fun v9 w9 h9 => ?_)
        obtain ⟨h9, p, rfl, hp⟩ := h9
        subst w9
        have hmp := zmul_n hy.1 hy.2 hp.1 hp.2 hvi.2
        show jWp 183 49 [some (jO q), some (jI (i : Int)), some (jJ (w.1 q (25 + i))), none, some (jJ y), none, some (jI (c : Int))] [jJ p, jJ y] 0 0 w _
        refine jWp.blk mt 2 ?_
        show jWp 183 51 [some (jO q), some (jI (i : Int)), some (jJ (w.1 q (25 + i))), none, some (jJ y), none, some (jI (c : Int))] [jJ (w.1 q (25 + i)), jJ (y * p)] 0 0 w _
        refine jWp.lrem (pc' := 52) mt rfl rfl (b64_id (by omega) (by omega)) (b64_id (by omega) (by omega)) (by omega) ?_
        show jWp 183 52 [some (jO q), some (jI (i : Int)), some (jJ (w.1 q (25 + i))), none, some (jJ y), none, some (jI (c : Int))] [jJ (Int.tmod (y * p) (w.1 q (25 + i)))] 0 0 w _
        refine jWp.blk mt 3 ?_
        show jWp 183 15 [some (jO q), some (jI (i : Int)), some (jJ (w.1 q (25 + i))), none, some (jJ (Int.tmod (y * p) (w.1 q (25 + i)))), none, some (jI ((c : Int) + 1))] [] 0 0 w _
        refine jWp.le (l := [some (jO q), some (jI (i : Int)), some (jJ (w.1 q (25 + i))), none, some (jJ (Int.tmod (y * p) (w.1 q (25 + i)))), none, some (jI ((c : Int) + 1))]) (by exact ⟨rfl, rfl, rfl, rfl, rfl, trivial⟩) ?_
        exact ih2 (c + 1) _ (by omega) (zmod_b hmp.1 hvi.1) (by omega)
  refine jWp.le (l := [some (jO q), some (jI (i : Int)), some (jJ (w.1 q (25 + i))), none, some (jJ (Int.tmod 1 (w.1 q (25 + i)))), none, some (jI 0)]) (by exact ⟨rfl, rfl, rfl, rfl, rfl, trivial⟩) ?_
  exact lp1 _ 0 _ (by omega) h1 (Nat.lt_succ_self _)
/-- the greatest degree as the reference looks for it -/
def zgi (q : Nat → Int) (i : Nat) : Nat → Int → Int
  | 0, y => y
  | c + 1, y => if b64 (zgi q i c y) < b64 (q (29 + 4 * i + c)) then q (29 + 4 * i + c) else zgi q i c y
def zgo (q : Nat → Int) (n : Nat) : Nat → Int
  | 0 => -1
  | i + 1 => zgi q i n (zgo q n i)
theorem zgi_t {q : Nat → Int} {i c : Nat} {y : Int} (h : b64 (zgi q i c y) < b64 (q (29 + 4 * i + c))) : zgi q i (c + 1) y = q (29 + 4 * i + c) := if_pos h
theorem zgi_f {q : Nat → Int} {i c : Nat} {y : Int} (h : ¬ b64 (zgi q i c y) < b64 (q (29 + 4 * i + c))) : zgi q i (c + 1) y = zgi q i c y := if_neg h
set_option maxHeartbeats 4000000 in
set_option maxRecDepth 20000 in
theorem E_greatest {w : jS} {q n : Nat} (hq : w.2.1 q = (101, 45)) (hS : zS (w.1 q) n) : jCall 191 [jO q] w (jvj (zgo (w.1 q) n n) w) := by
  have mt : jtb 191 = jT191 := rfl
  have hn4 := hS.n4
  show jWp 191 0 [some (jO q), none, none, none, none] [] 0 0 w _
  refine jWp.blk mt 4 ?_
  show jWp 191 6 [some (jO q), some (jJ (-1)), none, some (jI 0), none] [] 0 0 w _
  have lp1 : ∀ (N : Nat) (i : Nat) (y : Int) (hi : i ≤ n) (hy : y = zgo (w.1 q) n i), n - i < N → jWp 191 6 [some (jO q), some (jJ y), none, some (jI (i : Int)), none] [] 0 0 w (jvj (zgo (w.1 q) n n) w) := by
    intro N
    induction N with
    | zero => intro i y hi hy hm; omega
    | succ N ih2 =>
      intro i y hi hy hm
      refine jWp.blk mt 1 ?_
      show jWp 191 7 [some (jO q), some (jJ y), none, some (jI (i : Int)), none] [jI (i : Int)] 0 0 w _
      refine jWp.i2l (pc' := 8) mt rfl rfl (b32_id (by omega) (by omega)) ?_
      show jWp 191 8 [some (jO q), some (jJ y), none, some (jI (i : Int)), none] [jJ (i : Int)] 0 0 w _
      refine jWp.blk mt 2 ?_
      show _ ∧ jWp 191 10 [some (jO q), some (jJ y), none, some (jI (i : Int)), none] [jI 0, jO q, jJ (i : Int)] 0 0 w _
      refine ⟨rfl, ?_⟩
      refine jWp.lald (pc' := 11) (j := 0) mt rfl rfl (jtg hq) (by decide) (jlt hq (by decide)) ?_
      rw [show (w.1 q 0) = (n : Int) from hS.n0]
      show jWp 191 11 [some (jO q), some (jJ y), none, some (jI (i : Int)), none] [jJ (n : Int), jJ (i : Int)] 0 0 w _
      refine jWp.lcmp (pc' := 15) mt rfl rfl rfl (b64_id (by omega) (by omega)) (b64_id (by omega) (by omega)) (fun h3 => ?_) (fun h3 => ?_)
      · have h3 : (n : Int) ≤ (i : Int) := h3
        refine jWp.blk mt 1 ?_
        show jWp 191 73 [some (jO q), some (jJ y), none, some (jI (i : Int)), none] [jJ y] 0 0 w _
        refine jWp.lret mt rfl ⟨rfl, rfl⟩ rfl ?_
        refine ⟨?_, rfl⟩
        rw [hy, show i = n by omega]
      · have h3 : (i : Int) < (n : Int) := h3
        refine jWp.blk mt 2 ?_
        show jWp 191 18 [some (jO q), some (jJ y), none, some (jI (i : Int)), some (jI 0)] [] 0 0 w _
        have lp4 : ∀ (N : Nat) (c : Nat) (y : Int) (hc : c ≤ n) (hc1 : y = zgi (w.1 q) i c (zgo (w.1 q) n i)), n - c < N → jWp 191 18 [some (jO q), some (jJ y), none, some (jI (i : Int)), some (jI (c : Int))] [] 0 0 w (jvj (zgo (w.1 q) n n) w) := by
          intro N
          induction N with
          | zero => intro c y hc hc1 hm; omega
          | succ N ih5 =>
            intro c y hc hc1 hm
            have hi4 : i < n := by omega
            refine jWp.blk mt 1 ?_
            show jWp 191 20 [some (jO q), some (jJ y), none, some (jI (i : Int)), some (jI (c : Int))] [jI (c : Int)] 0 0 w _
            refine jWp.i2l (pc' := 21) mt rfl rfl (b32_id (by omega) (by omega)) ?_
            show jWp 191 21 [some (jO q), some (jJ y), none, some (jI (i : Int)), some (jI (c : Int))] [jJ (c : Int)] 0 0 w _
            refine jWp.blk mt 2 ?_
            show _ ∧ jWp 191 23 [some (jO q), some (jJ y), none, some (jI (i : Int)), some (jI (c : Int))] [jI 0, jO q, jJ (c : Int)] 0 0 w _
            refine ⟨rfl, ?_⟩
            refine jWp.lald (pc' := 24) (j := 0) mt rfl rfl (jtg hq) (by decide) (jlt hq (by decide)) ?_
            rw [show (w.1 q 0) = (n : Int) from hS.n0]
            show jWp 191 24 [some (jO q), some (jJ y), none, some (jI (i : Int)), some (jI (c : Int))] [jJ (n : Int), jJ (c : Int)] 0 0 w _
            refine jWp.lcmp (pc' := 28) mt rfl rfl rfl (b64_id (by omega) (by omega)) (b64_id (by omega) (by omega)) (fun h6 => ?_) (fun h6 => ?_)
            · have h6 : (n : Int) ≤ (c : Int) := h6
              refine jWp.blk mt 2 ?_
              show jWp 191 6 [some (jO q), some (jJ y), none, some (jI ((i : Int) + 1)), some (jI (c : Int))] [] 0 0 w _
              refine jWp.le (l := [some (jO q), some (jJ y), none, some (jI ((i : Int) + 1)), none]) (by exact ⟨rfl, rfl, rfl, trivial⟩) ?_
              exact ih2 (i + 1) y (by omega) (by rw [show c = n by omega] at hc1; exact hc1) (by omega)
            · have h6 : (c : Int) < (n : Int) := h6
              refine jWp.blk mt 8 ?_
              show _ ∧ jWp 191 38 [some (jO q), some (jJ y), none, some (jI (i : Int)), some (jI (c : Int))] [jI ((29 + (4 * (i : Int))) + (c : Int)), jO q] 0 0 w _
              refine ⟨rfl, ?_⟩
              refine jWp.lald (pc' := 39) (j := (29 + 4 * i + c)) mt rfl rfl (jtg hq) (by rw [b32_id (by omega) (by omega)]; omega) (jlt hq (by omega)) ?_
              show jWp 191 39 [some (jO q), some (jJ y), none, some (jI (i : Int)), some (jI (c : Int))] [jJ (w.1 q (29 + 4 * i + c))] 0 0 w _
              refine jWp.blk mt 1 ?_
              show jWp 191 40 [some (jO q), some (jJ y), none, some (jI (i : Int)), some (jI (c : Int))] [jJ y, jJ (w.1 q (29 + 4 * i + c))] 0 0 w _
              refine jWp.lcmp (pc' := 44) mt rfl rfl rfl rfl rfl (fun h7 => ?_) (fun h7 => ?_)
              · have h7 : (b64 (w.1 q (29 + 4 * i + c))) ≤ (b64 y) := h7
                refine jWp.blk mt 4 ?_
                show jWp 191 18 [some (jO q), some (jJ y), none, some (jI (i : Int)), some (jI ((c : Int) + 1))] [] 0 0 w _
                refine jWp.le (l := [some (jO q), some (jJ y), none, some (jI (i : Int)), some (jI ((c : Int) + 1))]) (by exact ⟨rfl, rfl, rfl, rfl, trivial⟩) ?_
                exact ih5 (c + 1) _ (by omega) (by subst hc1; first | (rw [zgi_t (by omega)]; done) | (rw [zgi_f (by omega)]; done)) (by omega)
              · have h7 : (b64 y) < (b64 (w.1 q (29 + 4 * i + c))) := h7
                refine jWp.blk mt 8 ?_
                show _ ∧ jWp 191 54 [some (jO q), some (jJ y), none, some (jI (i : Int)), some (jI (c : Int))] [jI ((29 + (4 * (i : Int))) + (c : Int)), jO q] 0 0 w _
                refine ⟨rfl, ?_⟩
                refine jWp.lald (pc' := 55) (j := (29 + 4 * i + c)) mt rfl rfl (jtg hq) (by rw [b32_id (by omega) (by omega)]; omega) (jlt hq (by omega)) ?_
                show jWp 191 55 [some (jO q), some (jJ y), none, some (jI (i : Int)), some (jI (c : Int))] [jJ (w.1 q (29 + 4 * i + c))] 0 0 w _
                refine jWp.blk mt 4 ?_
                show jWp 191 18 [some (jO q), some (jJ (w.1 q (29 + 4 * i + c))), none, some (jI (i : Int)), some (jI ((c : Int) + 1))] [] 0 0 w _
                refine jWp.le (l := [some (jO q), some (jJ (w.1 q (29 + 4 * i + c))), none, some (jI (i : Int)), some (jI ((c : Int) + 1))]) (by exact ⟨rfl, rfl, rfl, rfl, trivial⟩) ?_
                exact ih5 (c + 1) _ (by omega) (by subst hc1; first | (rw [zgi_t (by omega)]; done) | (rw [zgi_f (by omega)]; done)) (by omega)
        refine jWp.le (l := [some (jO q), some (jJ y), none, some (jI (i : Int)), some (jI 0)]) (by exact ⟨rfl, rfl, rfl, rfl, trivial⟩) ?_
        exact lp4 _ 0 y (by omega) hy (Nat.lt_succ_self _)
  refine jWp.le (l := [some (jO q), some (jJ (-1)), none, some (jI 0), none]) (by exact ⟨rfl, rfl, rfl, trivial⟩) ?_
  exact lp1 _ 0 _ (by omega) rfl (Nat.lt_succ_self _)
/-- two places changed -/
def zsw (i j x : Nat) : Nat := if x = i then j else if x = j then i else x
theorem zsw_i {i j : Nat} : zsw i j i = j := if_pos rfl
theorem zsw_j {i j : Nat} : zsw i j j = i := by
  unfold zsw
  by_cases h : j = i
  · rw [if_pos h, h]
  · rw [if_neg h, if_pos rfl]
theorem zsw_n {i j x : Nat} (h1 : x ≠ i) (h2 : x ≠ j) : zsw i j x = x := by
  unfold zsw
  rw [if_neg h1, if_neg h2]
/-- a change of two cells -/
def zch (T : Nat → Int) (x y : Nat) : Nat → Int := zset (zset T x (T y)) y (T x)
theorem zch_x {T : Nat → Int} {x y : Nat} : zch T x y x = T y := by
  unfold zch
  by_cases h : x = y
  · subst h
    exact zset_s
  · rw [zset_n h, zset_s]
theorem zch_y {T : Nat → Int} {x y : Nat} : zch T x y y = T x := zset_s
theorem zch_n {T : Nat → Int} {x y j : Nat} (h1 : j ≠ x) (h2 : j ≠ y) : zch T x y j = T j := by
  unfold zch
  rw [zset_n h2, zset_n h1]
theorem E_chg {w : jS} {q x y : Nat} {X Y : Int} {T : Nat → Int} (hq : w.2.1 q = (101, 45)) (hx : x < 45) (hy : y < 45) (eX : X = (x : Int)) (eY : Y = (y : Int)) : jCall 203 [jO q, jI X, jI Y] (kA w q T) (fun v w1 => v = none ∧ w1 = kA w q (zch T x y)) := by
  subst eX
  subst eY
  refine jCall.mono (E_changes (w := kA w q T) hq hx hy) (fun v w1 h => ⟨h.1, h.2.trans (kA_A.trans ?_)⟩)
  unfold zch
  rw [kA_s, kA_s, show (kA w q T).1 q = T from funext fun _ => kA_s]
theorem E_chg0 {w : jS} {q x y : Nat} {X Y : Int} (hq : w.2.1 q = (101, 45)) (hx : x < 45) (hy : y < 45) (eX : X = (x : Int)) (eY : Y = (y : Int)) : jCall 203 [jO q, jI X, jI Y] w (fun v w1 => v = none ∧ w1 = kA w q (zch (w.1 q) x y)) := by
  subst eX
  subst eY
  exact E_changes hq hx hy
theorem zsw_r {B : Nat} {T q : Nat → Int} {i j k : Nat} (hi : i < 4) (hj : j < 4) (hk : k < 4) (h : ∀ a b, a < 4 → b < 4 → T (B + (4 * a + b)) = if b < k then q (B + (4 * zsw i j a + b)) else q (B + (4 * a + b))) : ∀ a b, a < 4 → b < 4 → zch T (B + (4 * i + k)) (B + (4 * j + k)) (B + (4 * a + b)) = if b < k + 1 then q (B + (4 * zsw i j a + b)) else q (B + (4 * a + b)) := by
  intro a b ha hb
  by_cases e : b = k
  · subst e
    rw [if_pos (by omega)]
    by_cases e1 : a = i
    · subst e1
      rw [zch_x, h j b hj hb, if_neg (by omega), zsw_i]
    · by_cases e2 : a = j
      · subst e2
        rw [zch_y, h i b hi hb, if_neg (by omega), zsw_j]
      · rw [zch_n (by omega) (by omega), h a b ha hb, if_neg (by omega), zsw_n e1 e2]
  · rw [zch_n (by omega) (by omega), h a b ha hb]
    by_cases e1 : b < k
    · rw [if_pos e1, if_pos (by omega)]
    · rw [if_neg e1, if_neg (by omega)]
theorem zsw_c {B : Nat} {T q : Nat → Int} {i j k : Nat} (hi : i < 4) (hj : j < 4) (hk : k < 4) (h : ∀ a b, a < 4 → b < 4 → T (B + (4 * a + b)) = if a < k then q (B + (4 * zsw i j a + zsw i j b)) else q (B + (4 * zsw i j a + b))) : ∀ a b, a < 4 → b < 4 → zch T (B + (4 * k + i)) (B + (4 * k + j)) (B + (4 * a + b)) = if a < k + 1 then q (B + (4 * zsw i j a + zsw i j b)) else q (B + (4 * zsw i j a + b)) := by
  intro a b ha hb
  by_cases e : a = k
  · subst e
    rw [if_pos (by omega)]
    by_cases e1 : b = i
    · subst e1
      rw [zch_x, h a j ha hj, if_neg (by omega), zsw_i]
    · by_cases e2 : b = j
      · subst e2
        rw [zch_y, h a i ha hi, if_neg (by omega), zsw_j]
      · rw [zch_n (by omega) (by omega), h a b ha hb, if_neg (by omega), zsw_n e1 e2]
  · rw [zch_n (by omega) (by omega), h a b ha hb]
    by_cases e1 : a < k
    · rw [if_pos e1, if_pos (by omega)]
    · rw [if_neg e1, if_neg (by omega)]
theorem zsw_v {T q : Nat → Int} {i j b : Nat} (hi : i < 4) (hj : j < 4) (h : ∀ x, x < 4 → T (b + x) = q (b + x)) : ∀ x, x < 4 → zch T (b + i) (b + j) (b + x) = q (b + zsw i j x) := by
  intro x hx
  by_cases e1 : x = i
  · subst e1
    rw [zch_x, h j hj, zsw_i]
  · by_cases e2 : x = j
    · subst e2
      rw [zch_y, h i hi, zsw_j]
    · rw [zch_n (by omega) (by omega), h x hx, zsw_n e1 e2]
/-- two letters changed -/
def zswp (q S : Nat → Int) (i j : Nat) : Prop := S 0 = q 0 ∧ (∀ x, x < 4 → S (17 + x) = q (17 + zsw i j x) ∧ S (21 + x) = q (21 + zsw i j x) ∧ S (25 + x) = q (25 + zsw i j x)) ∧ (∀ a b, a < 4 → b < 4 → S (1 + (4 * a + b)) = q (1 + (4 * zsw i j a + zsw i j b))) ∧ ∀ a b, a < 4 → b < 4 → S (29 + (4 * a + b)) = q (29 + (4 * zsw i j a + zsw i j b))
set_option maxHeartbeats 4000000 in
set_option maxRecDepth 20000 in
theorem E_swaps {w : jS} {q i j : Nat} (hq : w.2.1 q = (101, 45)) (hi : i < 4) (hj : j < 4) : jCall 204 [jO q, jI (i : Int), jI (j : Int)] w (fun v w1 => v = none ∧ ∃ S, w1 = kA w q S ∧ zswp (w.1 q) S i j) := by
  have mt : jtb 204 = jT204 := rfl
  show jWp 204 0 [some (jO q), some (jI (i : Int)), some (jI (j : Int)), none] [] 0 0 w _
  refine jWp.blk mt 7 ?_
  show _ ∧ jWp 204 9 [some (jO q), some (jI (i : Int)), some (jI (j : Int)), none] [jI (17 + (j : Int)), jI (17 + (i : Int)), jO q] 0 0 w _
  refine ⟨rfl, ?_⟩
  refine jWp.calls (as := [jO q, jI (17 + (i : Int)), jI (17 + (j : Int))]) (rest := []) mt rfl rfl rfl rfl ?_
  refine jCall.mono (E_chg0 (x := (17 + i)) (y := (17 + j)) hq (by omega) (by omega) (by omega) (by omega)) (fun v9 w9 h9 => ?_)
  obtain ⟨rfl, h9⟩ := h9
  subst h9
  show jWp 204 12 [some (jO q), some (jI (i : Int)), some (jI (j : Int)), none] [] 0 0 (kA w q (zch (w.1 q) (17 + i) (17 + j))) _
  refine jWp.blk mt 7 ?_
  show _ ∧ jWp 204 21 [some (jO q), some (jI (i : Int)), some (jI (j : Int)), none] [jI (21 + (j : Int)), jI (21 + (i : Int)), jO q] 0 0 (kA w q (zch (w.1 q) (17 + i) (17 + j))) _
  refine ⟨rfl, ?_⟩
  refine jWp.calls (as := [jO q, jI (21 + (i : Int)), jI (21 + (j : Int))]) (rest := []) mt rfl rfl rfl rfl ?_
  refine jCall.mono (E_chg (x := (21 + i)) (y := (21 + j)) hq (by omega) (by omega) (by omega) (by omega)) (fun v9 w9 h9 => ?_)
  obtain ⟨rfl, h9⟩ := h9
  subst h9
  show jWp 204 24 [some (jO q), some (jI (i : Int)), some (jI (j : Int)), none] [] 0 0 (kA w q (zch (zch (w.1 q) (17 + i) (17 + j)) (21 + i) (21 + j))) _
  refine jWp.blk mt 7 ?_
  show _ ∧ jWp 204 33 [some (jO q), some (jI (i : Int)), some (jI (j : Int)), none] [jI (25 + (j : Int)), jI (25 + (i : Int)), jO q] 0 0 (kA w q (zch (zch (w.1 q) (17 + i) (17 + j)) (21 + i) (21 + j))) _
  refine ⟨rfl, ?_⟩
  refine jWp.calls (as := [jO q, jI (25 + (i : Int)), jI (25 + (j : Int))]) (rest := []) mt rfl rfl rfl rfl ?_
  refine jCall.mono (E_chg (x := (25 + i)) (y := (25 + j)) hq (by omega) (by omega) (by omega) (by omega)) (fun v9 w9 h9 => ?_)
  obtain ⟨rfl, h9⟩ := h9
  subst h9
  show jWp 204 36 [some (jO q), some (jI (i : Int)), some (jI (j : Int)), none] [] 0 0 (kA w q (zch (zch (zch (w.1 q) (17 + i) (17 + j)) (21 + i) (21 + j)) (25 + i) (25 + j))) _
  refine jWp.blk mt 2 ?_
  show jWp 204 38 [some (jO q), some (jI (i : Int)), some (jI (j : Int)), some (jI 0)] [] 0 0 (kA w q (zch (zch (zch (w.1 q) (17 + i) (17 + j)) (21 + i) (21 + j)) (25 + i) (25 + j))) _
  have lp1 : ∀ (N : Nat) (k : Nat) (T : Nat → Int) (hk : k ≤ 4) (h0 : T 0 = w.1 q 0) (hv : ∀ x, x < 4 → T (17 + x) = w.1 q (17 + zsw i j x) ∧ T (21 + x) = w.1 q (21 + zsw i j x) ∧ T (25 + x) = w.1 q (25 + zsw i j x)) (hr : ∀ a b, a < 4 → b < 4 → T (1 + (4 * a + b)) = if b < k then w.1 q (1 + (4 * zsw i j a + b)) else w.1 q (1 + (4 * a + b))) (hd : ∀ a b, a < 4 → b < 4 → T (29 + (4 * a + b)) = if b < k then w.1 q (29 + (4 * zsw i j a + b)) else w.1 q (29 + (4 * a + b))), 4 - k < N → jWp 204 38 [some (jO q), some (jI (i : Int)), some (jI (j : Int)), some (jI (k : Int))] [] 0 0 (kA w q T) (fun v w1 => v = none ∧ ∃ S, w1 = kA w q S ∧ zswp (w.1 q) S i j) := by
    intro N
    induction N with
    | zero => intro k T hk h0 hv hr hd hm; omega
    | succ N ih2 =>
      intro k T hk h0 hv hr hd hm
      refine jWp.blk mt 2 ?_
      show jWp 204 40 [some (jO q), some (jI (i : Int)), some (jI (j : Int)), some (jI (k : Int))] [jI 4, jI (k : Int)] 0 0 (kA w q T) _
      refine jWp.icmp (pc' := 43) mt rfl rfl (b32_id (by omega) (by omega)) (show b32 4 = 4 by decide) (fun h3 => ?_) (fun h3 => ?_)
      · have h3 : 4 ≤ (k : Int) := h3
        refine jWp.blk mt 2 ?_
        show jWp 204 89 [some (jO q), some (jI (i : Int)), some (jI (j : Int)), some (jI 0)] [] 0 0 (kA w q T) _
        have lp4 : ∀ (N : Nat) (k : Nat) (T : Nat → Int) (hk : k ≤ 4) (h0 : T 0 = w.1 q 0) (hv : ∀ x, x < 4 → T (17 + x) = w.1 q (17 + zsw i j x) ∧ T (21 + x) = w.1 q (21 + zsw i j x) ∧ T (25 + x) = w.1 q (25 + zsw i j x)) (hr : ∀ a b, a < 4 → b < 4 → T (1 + (4 * a + b)) = if a < k then w.1 q (1 + (4 * zsw i j a + zsw i j b)) else w.1 q (1 + (4 * zsw i j a + b))) (hd : ∀ a b, a < 4 → b < 4 → T (29 + (4 * a + b)) = if a < k then w.1 q (29 + (4 * zsw i j a + zsw i j b)) else w.1 q (29 + (4 * zsw i j a + b))), 4 - k < N → jWp 204 89 [some (jO q), some (jI (i : Int)), some (jI (j : Int)), some (jI (k : Int))] [] 0 0 (kA w q T) (fun v w1 => v = none ∧ ∃ S, w1 = kA w q S ∧ zswp (w.1 q) S i j) := by
          intro N
          induction N with
          | zero => intro k T hk h0 hv hr hd hm; omega
          | succ N ih5 =>
            intro k T hk h0 hv hr hd hm
            refine jWp.blk mt 2 ?_
            show jWp 204 91 [some (jO q), some (jI (i : Int)), some (jI (j : Int)), some (jI (k : Int))] [jI 4, jI (k : Int)] 0 0 (kA w q T) _
            refine jWp.icmp (pc' := 94) mt rfl rfl (b32_id (by omega) (by omega)) (show b32 4 = 4 by decide) (fun h6 => ?_) (fun h6 => ?_)
            · have h6 : 4 ≤ (k : Int) := h6
              refine jWp.vret mt rfl ⟨rfl, rfl⟩ rfl ?_
              exact ⟨rfl, T, rfl, h0, hv, fun a b ha hb => by rw [hr a b ha hb, if_pos (by omega)], fun a b ha hb => by rw [hd a b ha hb, if_pos (by omega)]⟩
            · have h6 : (k : Int) < 4 := h6
              refine jWp.blk mt 15 ?_
              show _ ∧ jWp 204 109 [some (jO q), some (jI (i : Int)), some (jI (j : Int)), some (jI (k : Int))] [jI ((1 + (4 * (k : Int))) + (j : Int)), jI ((1 + (4 * (k : Int))) + (i : Int)), jO q] 0 0 (kA w q T) _
              refine ⟨rfl, ?_⟩
              refine jWp.calls (as := [jO q, jI ((1 + (4 * (k : Int))) + (i : Int)), jI ((1 + (4 * (k : Int))) + (j : Int))]) (rest := []) mt rfl rfl rfl rfl ?_
              refine jCall.mono (E_chg (x := (1 + (4 * k + i))) (y := (1 + (4 * k + j))) hq (by omega) (by omega) (by omega) (by omega)) (fun v9 w9 h9 => ?_)
              obtain ⟨rfl, h9⟩ := h9
              subst h9
              show jWp 204 112 [some (jO q), some (jI (i : Int)), some (jI (j : Int)), some (jI (k : Int))] [] 0 0 (kA w q (zch T (1 + (4 * k + i)) (1 + (4 * k + j)))) _
              refine jWp.blk mt 15 ?_
              show _ ∧ jWp 204 129 [some (jO q), some (jI (i : Int)), some (jI (j : Int)), some (jI (k : Int))] [jI ((29 + (4 * (k : Int))) + (j : Int)), jI ((29 + (4 * (k : Int))) + (i : Int)), jO q] 0 0 (kA w q (zch T (1 + (4 * k + i)) (1 + (4 * k + j)))) _
              refine ⟨rfl, ?_⟩
              refine jWp.calls (as := [jO q, jI ((29 + (4 * (k : Int))) + (i : Int)), jI ((29 + (4 * (k : Int))) + (j : Int))]) (rest := []) mt rfl rfl rfl rfl ?_
              refine jCall.mono (E_chg (x := (29 + (4 * k + i))) (y := (29 + (4 * k + j))) hq (by omega) (by omega) (by omega) (by omega)) (fun v9 w9 h9 => ?_)
              obtain ⟨rfl, h9⟩ := h9
              subst h9
              show jWp 204 132 [some (jO q), some (jI (i : Int)), some (jI (j : Int)), some (jI (k : Int))] [] 0 0 (kA w q (zch (zch T (1 + (4 * k + i)) (1 + (4 * k + j))) (29 + (4 * k + i)) (29 + (4 * k + j)))) _
              refine jWp.blk mt 2 ?_
              show jWp 204 89 [some (jO q), some (jI (i : Int)), some (jI (j : Int)), some (jI ((k : Int) + 1))] [] 0 0 (kA w q (zch (zch T (1 + (4 * k + i)) (1 + (4 * k + j))) (29 + (4 * k + i)) (29 + (4 * k + j)))) _
              refine jWp.le (l := [some (jO q), some (jI (i : Int)), some (jI (j : Int)), some (jI ((k : Int) + 1))]) (by exact ⟨rfl, rfl, rfl, rfl, trivial⟩) ?_
              exact ih5 (k + 1) _ (by omega) (by rw [zch_n (by omega) (by omega), zch_n (by omega) (by omega)]; exact h0) (fun x hx => ⟨by rw [zch_n (by omega) (by omega), zch_n (by omega) (by omega)]; exact (hv x hx).1, by rw [zch_n (by omega) (by omega), zch_n (by omega) (by omega)]; exact (hv x hx).2.1, by rw [zch_n (by omega) (by omega), zch_n (by omega) (by omega)]; exact (hv x hx).2.2⟩) (fun a b ha hb => by rw [zch_n (by omega) (by omega)]; exact zsw_c hi hj (by omega) hr a b ha hb) (zsw_c hi hj (by omega) (fun a b ha hb => by rw [zch_n (by omega) (by omega)]; exact hd a b ha hb)) (by omega)
        refine jWp.le (l := [some (jO q), some (jI (i : Int)), some (jI (j : Int)), some (jI 0)]) (by exact ⟨rfl, rfl, rfl, rfl, trivial⟩) ?_
        exact lp4 _ 0 _ (by omega) h0 hv (fun a b ha hb => by rw [hr a b ha hb, if_pos (by omega), if_neg (by omega)]) (fun a b ha hb => by rw [hd a b ha hb, if_pos (by omega), if_neg (by omega)]) (Nat.lt_succ_self _)
      · have h3 : (k : Int) < 4 := h3
        refine jWp.blk mt 15 ?_
        show _ ∧ jWp 204 58 [some (jO q), some (jI (i : Int)), some (jI (j : Int)), some (jI (k : Int))] [jI ((1 + (4 * (j : Int))) + (k : Int)), jI ((1 + (4 * (i : Int))) + (k : Int)), jO q] 0 0 (kA w q T) _
        refine ⟨rfl, ?_⟩
        refine jWp.calls (as := [jO q, jI ((1 + (4 * (i : Int))) + (k : Int)), jI ((1 + (4 * (j : Int))) + (k : Int))]) (rest := []) mt rfl rfl rfl rfl ?_
        refine jCall.mono (E_chg (x := (1 + (4 * i + k))) (y := (1 + (4 * j + k))) hq (by omega) (by omega) (by omega) (by omega)) (fun v9 w9 h9 => ?_)
        obtain ⟨rfl, h9⟩ := h9
        subst h9
        show jWp 204 61 [some (jO q), some (jI (i : Int)), some (jI (j : Int)), some (jI (k : Int))] [] 0 0 (kA w q (zch T (1 + (4 * i + k)) (1 + (4 * j + k)))) _
        refine jWp.blk mt 15 ?_
        show _ ∧ jWp 204 78 [some (jO q), some (jI (i : Int)), some (jI (j : Int)), some (jI (k : Int))] [jI ((29 + (4 * (j : Int))) + (k : Int)), jI ((29 + (4 * (i : Int))) + (k : Int)), jO q] 0 0 (kA w q (zch T (1 + (4 * i + k)) (1 + (4 * j + k)))) _
        refine ⟨rfl, ?_⟩
        refine jWp.calls (as := [jO q, jI ((29 + (4 * (i : Int))) + (k : Int)), jI ((29 + (4 * (j : Int))) + (k : Int))]) (rest := []) mt rfl rfl rfl rfl ?_
        refine jCall.mono (E_chg (x := (29 + (4 * i + k))) (y := (29 + (4 * j + k))) hq (by omega) (by omega) (by omega) (by omega)) (fun v9 w9 h9 => ?_)
        obtain ⟨rfl, h9⟩ := h9
        subst h9
        show jWp 204 81 [some (jO q), some (jI (i : Int)), some (jI (j : Int)), some (jI (k : Int))] [] 0 0 (kA w q (zch (zch T (1 + (4 * i + k)) (1 + (4 * j + k))) (29 + (4 * i + k)) (29 + (4 * j + k)))) _
        refine jWp.blk mt 2 ?_
        show jWp 204 38 [some (jO q), some (jI (i : Int)), some (jI (j : Int)), some (jI ((k : Int) + 1))] [] 0 0 (kA w q (zch (zch T (1 + (4 * i + k)) (1 + (4 * j + k))) (29 + (4 * i + k)) (29 + (4 * j + k)))) _
        refine jWp.le (l := [some (jO q), some (jI (i : Int)), some (jI (j : Int)), some (jI ((k : Int) + 1))]) (by exact ⟨rfl, rfl, rfl, rfl, trivial⟩) ?_
        exact ih2 (k + 1) _ (by omega) (by rw [zch_n (by omega) (by omega), zch_n (by omega) (by omega)]; exact h0) (fun x hx => ⟨by rw [zch_n (by omega) (by omega), zch_n (by omega) (by omega)]; exact (hv x hx).1, by rw [zch_n (by omega) (by omega), zch_n (by omega) (by omega)]; exact (hv x hx).2.1, by rw [zch_n (by omega) (by omega), zch_n (by omega) (by omega)]; exact (hv x hx).2.2⟩) (fun a b ha hb => by rw [zch_n (by omega) (by omega)]; exact zsw_r hi hj (by omega) hr a b ha hb) (zsw_r hi hj (by omega) (fun a b ha hb => by rw [zch_n (by omega) (by omega)]; exact hd a b ha hb)) (by omega)
  refine jWp.le (l := [some (jO q), some (jI (i : Int)), some (jI (j : Int)), some (jI 0)]) (by exact ⟨rfl, rfl, rfl, rfl, trivial⟩) ?_
  exact lp1 _ 0 _ (by omega) (by rw [zch_n (by omega) (by omega), zch_n (by omega) (by omega), zch_n (by omega) (by omega)]) (fun x hx => ⟨by rw [zch_n (by omega) (by omega), zch_n (by omega) (by omega)]; exact zsw_v hi hj (fun _ _ => rfl) x hx, by rw [zch_n (by omega) (by omega)]; exact zsw_v hi hj (fun y hy => by rw [zch_n (by omega) (by omega)]) x hx, zsw_v hi hj (fun y hy => by rw [zch_n (by omega) (by omega), zch_n (by omega) (by omega)]) x hx⟩) (fun a b ha hb => by rw [zch_n (by omega) (by omega), zch_n (by omega) (by omega), zch_n (by omega) (by omega)]; rfl) (fun a b ha hb => by rw [zch_n (by omega) (by omega), zch_n (by omega) (by omega), zch_n (by omega) (by omega)]; rfl) (Nat.lt_succ_self _)
end
section
def MW (g : (Nat → Nat × Nat) × (Nat → Nat → Option Nat) × Nat × Nat) (m : Nat) : Prop :=
  (g.1 m = (10, 0)) ∧
  (g.1 (m + 1) = (101, 45)) ∧
  (g.1 (m + 2) = (100, 41)) ∧
  (g.1 (m + 3) = (100, 7)) ∧
  (g.1 (m + 4) = (101, 60)) ∧
  (g.1 (m + 5) = (101, 60)) ∧
  (g.1 (m + 6) = (101, 16)) ∧
  (g.1 (m + 7) = (105, 8)) ∧
  (∀ i, i < 8 → g.1 (m + (8 + i)) = (101, 45)) ∧
  (g.1 (m + 16) = (101, 45)) ∧
  (g.1 (m + 17) = (105, 400)) ∧
  (∀ i, i < 400 → g.1 (m + (18 + i)) = (101, 45)) ∧
  (g.1 (m + 418) = (100, 400)) ∧
  (g.1 (m + 419) = (100, 400)) ∧
  (g.1 (m + 420) = (100, 400)) ∧
  (g.1 (m + 421) = (100, 72)) ∧
  (g.1 (m + 422) = (100, 3)) ∧
  (g.1 (m + 423) = (100, 3)) ∧
  (g.1 (m + 424) = (105, 3)) ∧
  (∀ i, i < 3 → g.1 (m + (425 + i)) = (101, 40)) ∧
  (g.1 (m + 428) = (101, 45)) ∧
  (g.1 (m + 429) = (100, 41)) ∧
  (g.2.1 m 0 = some (m + 1)) ∧
  (g.2.1 m 1 = some (m + 2)) ∧
  (g.2.1 m 2 = some (m + 3)) ∧
  (g.2.1 m 3 = some (m + 4)) ∧
  (g.2.1 m 10 = some (m + 5)) ∧
  (g.2.1 m 13 = some (m + 6)) ∧
  (g.2.1 m 14 = some (m + 7)) ∧
  (g.2.1 m 16 = some (m + 16)) ∧
  (g.2.1 m 17 = some (m + 17)) ∧
  (g.2.1 m 18 = some (m + 418)) ∧
  (g.2.1 m 19 = some (m + 419)) ∧
  (g.2.1 m 20 = some (m + 420)) ∧
  (g.2.1 m 23 = some (m + 421)) ∧
  (g.2.1 m 26 = some (m + 422)) ∧
  (g.2.1 m 27 = some (m + 423)) ∧
  (g.2.1 m 28 = some (m + 424)) ∧
  (g.2.1 m 29 = some (m + 428)) ∧
  (g.2.1 m 30 = some (m + 429)) ∧
  (∀ i, i < 8 → g.2.1 (m + 7) i = some (m + (8 + i))) ∧
  (∀ i, i < 400 → g.2.1 (m + 17) i = some (m + (18 + i))) ∧
  (∀ i, i < 3 → g.2.1 (m + 424) i = some (m + (425 + i)))
theorem MW.K0 {g : (Nat → Nat × Nat) × (Nat → Nat → Option Nat) × Nat × Nat} {m : Nat} (h : MW g m) : g.1 m = (10, 0) := h.1
theorem MW.K1 {g : (Nat → Nat × Nat) × (Nat → Nat → Option Nat) × Nat × Nat} {m : Nat} (h : MW g m) : g.1 (m + 1) = (101, 45) := h.2.1
theorem MW.K2 {g : (Nat → Nat × Nat) × (Nat → Nat → Option Nat) × Nat × Nat} {m : Nat} (h : MW g m) : g.1 (m + 2) = (100, 41) := h.2.2.1
theorem MW.K3 {g : (Nat → Nat × Nat) × (Nat → Nat → Option Nat) × Nat × Nat} {m : Nat} (h : MW g m) : g.1 (m + 3) = (100, 7) := h.2.2.2.1
theorem MW.K4 {g : (Nat → Nat × Nat) × (Nat → Nat → Option Nat) × Nat × Nat} {m : Nat} (h : MW g m) : g.1 (m + 4) = (101, 60) := h.2.2.2.2.1
theorem MW.K5 {g : (Nat → Nat × Nat) × (Nat → Nat → Option Nat) × Nat × Nat} {m : Nat} (h : MW g m) : g.1 (m + 5) = (101, 60) := h.2.2.2.2.2.1
theorem MW.K6 {g : (Nat → Nat × Nat) × (Nat → Nat → Option Nat) × Nat × Nat} {m : Nat} (h : MW g m) : g.1 (m + 6) = (101, 16) := h.2.2.2.2.2.2.1
theorem MW.K7 {g : (Nat → Nat × Nat) × (Nat → Nat → Option Nat) × Nat × Nat} {m : Nat} (h : MW g m) : g.1 (m + 7) = (105, 8) := h.2.2.2.2.2.2.2.1
theorem MW.KW {g : (Nat → Nat × Nat) × (Nat → Nat → Option Nat) × Nat × Nat} {m : Nat} (h : MW g m) : ∀ i, i < 8 → g.1 (m + (8 + i)) = (101, 45) := h.2.2.2.2.2.2.2.2.1
theorem MW.K16 {g : (Nat → Nat × Nat) × (Nat → Nat → Option Nat) × Nat × Nat} {m : Nat} (h : MW g m) : g.1 (m + 16) = (101, 45) := h.2.2.2.2.2.2.2.2.2.1
theorem MW.K17 {g : (Nat → Nat × Nat) × (Nat → Nat → Option Nat) × Nat × Nat} {m : Nat} (h : MW g m) : g.1 (m + 17) = (105, 400) := h.2.2.2.2.2.2.2.2.2.2.1
theorem MW.KF {g : (Nat → Nat × Nat) × (Nat → Nat → Option Nat) × Nat × Nat} {m : Nat} (h : MW g m) : ∀ i, i < 400 → g.1 (m + (18 + i)) = (101, 45) := h.2.2.2.2.2.2.2.2.2.2.2.1
theorem MW.K418 {g : (Nat → Nat × Nat) × (Nat → Nat → Option Nat) × Nat × Nat} {m : Nat} (h : MW g m) : g.1 (m + 418) = (100, 400) := h.2.2.2.2.2.2.2.2.2.2.2.2.1
theorem MW.K419 {g : (Nat → Nat × Nat) × (Nat → Nat → Option Nat) × Nat × Nat} {m : Nat} (h : MW g m) : g.1 (m + 419) = (100, 400) := h.2.2.2.2.2.2.2.2.2.2.2.2.2.1
theorem MW.K420 {g : (Nat → Nat × Nat) × (Nat → Nat → Option Nat) × Nat × Nat} {m : Nat} (h : MW g m) : g.1 (m + 420) = (100, 400) := h.2.2.2.2.2.2.2.2.2.2.2.2.2.2.1
theorem MW.K421 {g : (Nat → Nat × Nat) × (Nat → Nat → Option Nat) × Nat × Nat} {m : Nat} (h : MW g m) : g.1 (m + 421) = (100, 72) := h.2.2.2.2.2.2.2.2.2.2.2.2.2.2.2.1
theorem MW.K422 {g : (Nat → Nat × Nat) × (Nat → Nat → Option Nat) × Nat × Nat} {m : Nat} (h : MW g m) : g.1 (m + 422) = (100, 3) := h.2.2.2.2.2.2.2.2.2.2.2.2.2.2.2.2.1
theorem MW.K423 {g : (Nat → Nat × Nat) × (Nat → Nat → Option Nat) × Nat × Nat} {m : Nat} (h : MW g m) : g.1 (m + 423) = (100, 3) := h.2.2.2.2.2.2.2.2.2.2.2.2.2.2.2.2.2.1
theorem MW.K424 {g : (Nat → Nat × Nat) × (Nat → Nat → Option Nat) × Nat × Nat} {m : Nat} (h : MW g m) : g.1 (m + 424) = (105, 3) := h.2.2.2.2.2.2.2.2.2.2.2.2.2.2.2.2.2.2.1
theorem MW.KI {g : (Nat → Nat × Nat) × (Nat → Nat → Option Nat) × Nat × Nat} {m : Nat} (h : MW g m) : ∀ i, i < 3 → g.1 (m + (425 + i)) = (101, 40) := h.2.2.2.2.2.2.2.2.2.2.2.2.2.2.2.2.2.2.2.1
theorem MW.K428 {g : (Nat → Nat × Nat) × (Nat → Nat → Option Nat) × Nat × Nat} {m : Nat} (h : MW g m) : g.1 (m + 428) = (101, 45) := h.2.2.2.2.2.2.2.2.2.2.2.2.2.2.2.2.2.2.2.2.1
theorem MW.K429 {g : (Nat → Nat × Nat) × (Nat → Nat → Option Nat) × Nat × Nat} {m : Nat} (h : MW g m) : g.1 (m + 429) = (100, 41) := h.2.2.2.2.2.2.2.2.2.2.2.2.2.2.2.2.2.2.2.2.2.1
theorem MW.R0 {g : (Nat → Nat × Nat) × (Nat → Nat → Option Nat) × Nat × Nat} {m : Nat} (h : MW g m) : g.2.1 m 0 = some (m + 1) := h.2.2.2.2.2.2.2.2.2.2.2.2.2.2.2.2.2.2.2.2.2.2.1
theorem MW.R1 {g : (Nat → Nat × Nat) × (Nat → Nat → Option Nat) × Nat × Nat} {m : Nat} (h : MW g m) : g.2.1 m 1 = some (m + 2) := h.2.2.2.2.2.2.2.2.2.2.2.2.2.2.2.2.2.2.2.2.2.2.2.1
theorem MW.R2 {g : (Nat → Nat × Nat) × (Nat → Nat → Option Nat) × Nat × Nat} {m : Nat} (h : MW g m) : g.2.1 m 2 = some (m + 3) := h.2.2.2.2.2.2.2.2.2.2.2.2.2.2.2.2.2.2.2.2.2.2.2.2.1
theorem MW.R3 {g : (Nat → Nat × Nat) × (Nat → Nat → Option Nat) × Nat × Nat} {m : Nat} (h : MW g m) : g.2.1 m 3 = some (m + 4) := h.2.2.2.2.2.2.2.2.2.2.2.2.2.2.2.2.2.2.2.2.2.2.2.2.2.1
theorem MW.R10 {g : (Nat → Nat × Nat) × (Nat → Nat → Option Nat) × Nat × Nat} {m : Nat} (h : MW g m) : g.2.1 m 10 = some (m + 5) := h.2.2.2.2.2.2.2.2.2.2.2.2.2.2.2.2.2.2.2.2.2.2.2.2.2.2.1
theorem MW.R13 {g : (Nat → Nat × Nat) × (Nat → Nat → Option Nat) × Nat × Nat} {m : Nat} (h : MW g m) : g.2.1 m 13 = some (m + 6) := h.2.2.2.2.2.2.2.2.2.2.2.2.2.2.2.2.2.2.2.2.2.2.2.2.2.2.2.1
theorem MW.R14 {g : (Nat → Nat × Nat) × (Nat → Nat → Option Nat) × Nat × Nat} {m : Nat} (h : MW g m) : g.2.1 m 14 = some (m + 7) := h.2.2.2.2.2.2.2.2.2.2.2.2.2.2.2.2.2.2.2.2.2.2.2.2.2.2.2.2.1
theorem MW.R16 {g : (Nat → Nat × Nat) × (Nat → Nat → Option Nat) × Nat × Nat} {m : Nat} (h : MW g m) : g.2.1 m 16 = some (m + 16) := h.2.2.2.2.2.2.2.2.2.2.2.2.2.2.2.2.2.2.2.2.2.2.2.2.2.2.2.2.2.1
theorem MW.R17 {g : (Nat → Nat × Nat) × (Nat → Nat → Option Nat) × Nat × Nat} {m : Nat} (h : MW g m) : g.2.1 m 17 = some (m + 17) := h.2.2.2.2.2.2.2.2.2.2.2.2.2.2.2.2.2.2.2.2.2.2.2.2.2.2.2.2.2.2.1
theorem MW.R18 {g : (Nat → Nat × Nat) × (Nat → Nat → Option Nat) × Nat × Nat} {m : Nat} (h : MW g m) : g.2.1 m 18 = some (m + 418) := h.2.2.2.2.2.2.2.2.2.2.2.2.2.2.2.2.2.2.2.2.2.2.2.2.2.2.2.2.2.2.2.1
theorem MW.R19 {g : (Nat → Nat × Nat) × (Nat → Nat → Option Nat) × Nat × Nat} {m : Nat} (h : MW g m) : g.2.1 m 19 = some (m + 419) := h.2.2.2.2.2.2.2.2.2.2.2.2.2.2.2.2.2.2.2.2.2.2.2.2.2.2.2.2.2.2.2.2.1
theorem MW.R20 {g : (Nat → Nat × Nat) × (Nat → Nat → Option Nat) × Nat × Nat} {m : Nat} (h : MW g m) : g.2.1 m 20 = some (m + 420) := h.2.2.2.2.2.2.2.2.2.2.2.2.2.2.2.2.2.2.2.2.2.2.2.2.2.2.2.2.2.2.2.2.2.1
theorem MW.R23 {g : (Nat → Nat × Nat) × (Nat → Nat → Option Nat) × Nat × Nat} {m : Nat} (h : MW g m) : g.2.1 m 23 = some (m + 421) := h.2.2.2.2.2.2.2.2.2.2.2.2.2.2.2.2.2.2.2.2.2.2.2.2.2.2.2.2.2.2.2.2.2.2.1
theorem MW.R26 {g : (Nat → Nat × Nat) × (Nat → Nat → Option Nat) × Nat × Nat} {m : Nat} (h : MW g m) : g.2.1 m 26 = some (m + 422) := h.2.2.2.2.2.2.2.2.2.2.2.2.2.2.2.2.2.2.2.2.2.2.2.2.2.2.2.2.2.2.2.2.2.2.2.1
theorem MW.R27 {g : (Nat → Nat × Nat) × (Nat → Nat → Option Nat) × Nat × Nat} {m : Nat} (h : MW g m) : g.2.1 m 27 = some (m + 423) := h.2.2.2.2.2.2.2.2.2.2.2.2.2.2.2.2.2.2.2.2.2.2.2.2.2.2.2.2.2.2.2.2.2.2.2.2.1
theorem MW.R28 {g : (Nat → Nat × Nat) × (Nat → Nat → Option Nat) × Nat × Nat} {m : Nat} (h : MW g m) : g.2.1 m 28 = some (m + 424) := h.2.2.2.2.2.2.2.2.2.2.2.2.2.2.2.2.2.2.2.2.2.2.2.2.2.2.2.2.2.2.2.2.2.2.2.2.2.1
theorem MW.R29 {g : (Nat → Nat × Nat) × (Nat → Nat → Option Nat) × Nat × Nat} {m : Nat} (h : MW g m) : g.2.1 m 29 = some (m + 428) := h.2.2.2.2.2.2.2.2.2.2.2.2.2.2.2.2.2.2.2.2.2.2.2.2.2.2.2.2.2.2.2.2.2.2.2.2.2.2.1
theorem MW.R30 {g : (Nat → Nat × Nat) × (Nat → Nat → Option Nat) × Nat × Nat} {m : Nat} (h : MW g m) : g.2.1 m 30 = some (m + 429) := h.2.2.2.2.2.2.2.2.2.2.2.2.2.2.2.2.2.2.2.2.2.2.2.2.2.2.2.2.2.2.2.2.2.2.2.2.2.2.2.1
theorem MW.RW {g : (Nat → Nat × Nat) × (Nat → Nat → Option Nat) × Nat × Nat} {m : Nat} (h : MW g m) : ∀ i, i < 8 → g.2.1 (m + 7) i = some (m + (8 + i)) := h.2.2.2.2.2.2.2.2.2.2.2.2.2.2.2.2.2.2.2.2.2.2.2.2.2.2.2.2.2.2.2.2.2.2.2.2.2.2.2.2.1
theorem MW.RFo {g : (Nat → Nat × Nat) × (Nat → Nat → Option Nat) × Nat × Nat} {m : Nat} (h : MW g m) : ∀ i, i < 400 → g.2.1 (m + 17) i = some (m + (18 + i)) := h.2.2.2.2.2.2.2.2.2.2.2.2.2.2.2.2.2.2.2.2.2.2.2.2.2.2.2.2.2.2.2.2.2.2.2.2.2.2.2.2.2.1
theorem MW.RI {g : (Nat → Nat × Nat) × (Nat → Nat → Option Nat) × Nat × Nat} {m : Nat} (h : MW g m) : ∀ i, i < 3 → g.2.1 (m + 424) i = some (m + (425 + i)) := h.2.2.2.2.2.2.2.2.2.2.2.2.2.2.2.2.2.2.2.2.2.2.2.2.2.2.2.2.2.2.2.2.2.2.2.2.2.2.2.2.2.2
theorem jW_f {w : jS} {a b k : Nat} {x : Int} (h : b ≠ a) : (jW w a k x).1 b = w.1 b := funext fun _ => jW_a h
theorem jrg {p : Nat × Nat} {t n : Nat} (h : p = (t, n)) (h1 : 102 ≤ t) (h2 : t ≤ 105) : 102 ≤ p.1 ∧ p.1 ≤ 105 := by rw [h]; exact ⟨h1, h2⟩
theorem kA_fs {w : jS} {a : Nat} {T : Nat → Int} : (kA w a T).1 a = T := funext fun _ => kA_s
set_option maxHeartbeats 4000000 in
set_option maxRecDepth 20000 in
theorem E_refuses {w : jS} {m : Nat} (hW : MW w.2 m) {y : Int} {j : Nat} (hj : 1 ≤ j ∧ j ≤ 6) (hy : y = -(j : Int)) : jCall 136 [jO m, jI y] w (fun v w1 => v = some (jI y) ∧ w1 = jW w (m + 3) j (w.1 (m + 3) j + 1)) := by
  have mt : jtb 136 = jT136 := rfl
  show jWp 136 0 [some (jO m), some (jI y)] [] 0 0 w _
  refine jWp.blk mt 1 ?_
  show _ ∧ jWp 136 1 [some (jO m), some (jI y)] [jO m] 0 0 w _
  refine ⟨rfl, ?_⟩
  refine jWp.getR (pc' := 4) (o := (m + 3)) mt rfl rfl (jtg hW.K0) hW.R2 ?_
  show jWp 136 4 [some (jO m), some (jI y)] [jO (m + 3)] 0 0 w _
  refine jWp.blk mt 3 ?_
  show _ ∧ jWp 136 7 [some (jO m), some (jI y)] [jI (-y), jO (m + 3), jI (-y), jO (m + 3)] 0 0 w _
  refine ⟨rfl, ?_⟩
  refine jWp.iald (pc' := 8) (j := j) mt rfl rfl (jird_of hW.K3) (by rw [b32_id (by omega) (by omega)]; omega) (jlt hW.K3 (by omega)) ?_
  show jWp 136 8 [some (jO m), some (jI y)] [jI (w.1 (m + 3) j), jI (-y), jO (m + 3)] 0 0 w _
  refine jWp.blk mt 2 ?_
  show jWp 136 10 [some (jO m), some (jI y)] [jI ((w.1 (m + 3) j) + 1), jI (-y), jO (m + 3)] 0 0 w _
  refine jWp.iast (pc' := 11) (j := j) mt rfl rfl (jtg hW.K3) (by rw [b32_id (by omega) (by omega)]; omega) (jlt hW.K3 (by omega)) ?_
  show jWp 136 11 [some (jO m), some (jI y)] [] 0 0 (jW w (m + 3) j ((w.1 (m + 3) j) + 1)) _
  refine jWp.blk mt 1 ?_
  show jWp 136 12 [some (jO m), some (jI y)] [jI y] 0 0 (jW w (m + 3) j ((w.1 (m + 3) j) + 1)) _
  refine jWp.ireti mt rfl ⟨rfl, rfl⟩ rfl ?_
  exact ⟨rfl, rfl⟩
set_option maxHeartbeats 4000000 in
set_option maxRecDepth 20000 in
theorem E_far {w : jS} {m : Nat} (hW : MW w.2 m) {y : Int} {j : Nat} (hj : 1 ≤ j ∧ j ≤ 6) (hy : y = -(j : Int)) : jCall 137 [jO m, jI y] w (fun v w1 => v = some (jI (1000000000 - y)) ∧ w1 = jW w (m + 3) j (w.1 (m + 3) j + 1)) := by
  have mt : jtb 137 = jT137 := rfl
  show jWp 137 0 [some (jO m), some (jI y)] [] 0 0 w _
  refine jWp.blk mt 3 ?_
  show _ ∧ jWp 137 4 [some (jO m), some (jI y)] [jI y, jO m, jI 1000000000] 0 0 w _
  refine ⟨rfl, ?_⟩
  refine jWp.callv (as := [jO m, jI y]) (rest := [jI 1000000000]) mt rfl rfl rfl ⟨rfl, jtg hW.K0⟩ ?_
  refine jCall.mono (E_refuses hW hj hy) (fun v9 w9 h9 => ?_)
  obtain ⟨rfl, h9⟩ := h9
  subst h9
  show jWp 137 7 [some (jO m), some (jI y)] [jI y, jI 1000000000] 0 0 (jW w (m + 3) j (w.1 (m + 3) j + 1)) _
  refine jWp.blk mt 1 ?_
  show jWp 137 8 [some (jO m), some (jI y)] [jI (1000000000 - y)] 0 0 (jW w (m + 3) j (w.1 (m + 3) j + 1)) _
  refine jWp.ireti mt rfl ⟨rfl, rfl⟩ rfl ?_
  exact ⟨rfl, rfl⟩
set_option maxHeartbeats 4000000 in
set_option maxRecDepth 20000 in
theorem E_farther {w : jS} {m : Nat} (hW : MW w.2 m) {y : Int} {j : Nat} (hj : 1 ≤ j ∧ j ≤ 6) (hy : y = -(j : Int)) : jCall 138 [jO m, jI y] w (fun v w1 => v = some (jJ (4000000000000000000 - y)) ∧ w1 = jW w (m + 3) j (w.1 (m + 3) j + 1)) := by
  have mt : jtb 138 = jT138 := rfl
  show jWp 138 0 [some (jO m), some (jI y)] [] 0 0 w _
  refine jWp.blk mt 3 ?_
  show _ ∧ jWp 138 5 [some (jO m), some (jI y)] [jI y, jO m, jJ 4000000000000000000] 0 0 w _
  refine ⟨rfl, ?_⟩
  refine jWp.callv (as := [jO m, jI y]) (rest := [jJ 4000000000000000000]) mt rfl rfl rfl ⟨rfl, jtg hW.K0⟩ ?_
  refine jCall.mono (E_refuses hW hj hy) (fun v9 w9 h9 => ?_)
  obtain ⟨rfl, h9⟩ := h9
  subst h9
  show jWp 138 8 [some (jO m), some (jI y)] [jI y, jJ 4000000000000000000] 0 0 (jW w (m + 3) j (w.1 (m + 3) j + 1)) _
  refine jWp.i2l (pc' := 9) mt rfl rfl (b32_id (by omega) (by omega)) ?_
  show jWp 138 9 [some (jO m), some (jI y)] [jJ y, jJ 4000000000000000000] 0 0 (jW w (m + 3) j (w.1 (m + 3) j + 1)) _
  refine jWp.blk mt 1 ?_
  show jWp 138 10 [some (jO m), some (jI y)] [jJ (4000000000000000000 - y)] 0 0 (jW w (m + 3) j (w.1 (m + 3) j + 1)) _
  refine jWp.lret mt rfl ⟨rfl, rfl⟩ rfl ?_
  exact ⟨rfl, rfl⟩
set_option maxHeartbeats 4000000 in
set_option maxRecDepth 20000 in
theorem E_isLetter {w : jS} {m : Nat} (hW : MW w.2 m) {n : Nat} {i : Int} (hS : zS (w.1 (m + 1)) n) (hri : r32 i) : jCall 165 [jO m, jI i] w (jvb (0 ≤ i ∧ i < (n : Int)) w) := by
  have mt : jtb 165 = jT165 := rfl
  show jWp 165 0 [some (jO m), some (jI i)] [] 0 0 w _
  refine jWp.blk mt 1 ?_
  show _ ∧ jWp 165 1 [some (jO m), some (jI i)] [jO m] 0 0 w _
  refine ⟨rfl, ?_⟩
  refine jWp.getR (pc' := 4) (o := (m + 1)) mt rfl rfl (jtg hW.K0) hW.R0 ?_
  show jWp 165 4 [some (jO m), some (jI i)] [jO (m + 1)] 0 0 w _
  refine jWp.blk mt 1 ?_
  show jWp 165 5 [some (jO m), some (jI i)] [jI i, jO (m + 1)] 0 0 w _
  refine jWp.calls (as := [jO (m + 1), jI i]) (rest := []) mt rfl rfl rfl rfl ?_
  refine jCall.mono (E_isIn (n := n) hW.K1 hS.n0 hS.n4 hri) (fun v9 w9 h9 => ?_)
  rcases h9 with ⟨rfl, h9, h1⟩ | ⟨rfl, h9, h1⟩ <;> subst w9
  · have h1 : 0 ≤ i ∧ i < (n : Int) := h1
    show jWp 165 8 [some (jO m), some (jI i)] [jI 1] 0 0 w _
    refine jWp.iretz mt rfl ⟨rfl, rfl⟩ rfl (Or.inr rfl) ?_
    exact Or.inl ⟨rfl, rfl, by assumption⟩
  · have h1 : ¬ (0 ≤ i ∧ i < (n : Int)) := h1
    show jWp 165 8 [some (jO m), some (jI i)] [jI 0] 0 0 w _
    refine jWp.iretz mt rfl ⟨rfl, rfl⟩ rfl (Or.inl rfl) ?_
    exact Or.inr ⟨rfl, rfl, by assumption⟩
end
section
/-- a refusal of the reference: what it answers, and what it counts -/
def jno (w : jS) (m j : Nat) (x : jV) (v : Option jV) (w1 : jS) : Prop := v = some x ∧ w1 = jW w (m + 3) j (w.1 (m + 3) j + 1)
set_option maxHeartbeats 4000000 in
set_option maxRecDepth 20000 in
theorem E_value {w : jS} {m : Nat} (hW : MW w.2 m) {n : Nat} (hS : zS (w.1 (m + 1)) n) {i p : Int} (hri : r32 i) (hrp : r32 p) : jCall 171 [jO m, jI i, jI p] w (fun v w1 => ((¬ (0 ≤ i ∧ i < (n : Int))) → jno w m 1 (jI (-1)) v w1) ∧ (¬ (¬ (0 ≤ i ∧ i < (n : Int))) → (¬ (0 ≤ p ∧ p ≤ 1)) → jno w m 2 (jI (-2)) v w1) ∧ (¬ (¬ (0 ≤ i ∧ i < (n : Int))) → ¬ (¬ (0 ≤ p ∧ p ≤ 1)) → v = some (jI (w.1 (m + 1) ((if p = 0 then 21 else 25) + i.toNat))) ∧ w1 = w)) := by
  have mt : jtb 171 = jT171 := rfl
  have hn2 := hS.n2
  have hn4 := hS.n4
  have hri1 : -2147483648 ≤ i ∧ i < 2147483648 := hri
  have hrp1 : -2147483648 ≤ p ∧ p < 2147483648 := hrp
  show jWp 171 0 [some (jO m), some (jI i), some (jI p)] [] 0 0 w _
  refine jWp.blk mt 2 ?_
  show _ ∧ jWp 171 2 [some (jO m), some (jI i), some (jI p)] [jI i, jO m] 0 0 w _
  refine ⟨rfl, ?_⟩
  refine jWp.callv (as := [jO m, jI i]) (rest := []) mt rfl rfl rfl ⟨rfl, jtg hW.K0⟩ ?_
  refine jCall.mono (E_isLetter hW hS hri) (fun v9 w9 h9 => ?_)
  rcases h9 with ⟨rfl, h9, h1⟩ | ⟨rfl, h9, h1⟩ <;> subst w9
  · have h1 : 0 ≤ i ∧ i < (n : Int) := h1
    show jWp 171 5 [some (jO m), some (jI i), some (jI p)] [jI 1] 0 0 w _
    obtain ⟨i1, rfl⟩ : ∃ i1 : Nat, i = (i1 : Int) := ⟨i.toNat, by omega⟩
    show jWp 171 5 [some (jO m), some (jI (i1 : Int)), some (jI p)] [jI 1] 0 0 w _
    refine jWp.ifc (b := true) mt rfl (by decide) rfl ?_
    show jWp 171 14 [some (jO m), some (jI (i1 : Int)), some (jI p)] [] 0 0 w _
    refine jWp.blk mt 1 ?_
    show jWp 171 15 [some (jO m), some (jI (i1 : Int)), some (jI p)] [jI p] 0 0 w _
    refine jWp.i2l (pc' := 16) mt rfl rfl (b32_id (by omega) (by omega)) ?_
    show jWp 171 16 [some (jO m), some (jI (i1 : Int)), some (jI p)] [jJ p] 0 0 w _
    refine jWp.blk mt 2 ?_
    show jWp 171 18 [some (jO m), some (jI (i1 : Int)), some (jI p)] [jJ 1, jJ 0, jJ p] 0 0 w _
    refine jWp.calls (as := [jJ p, jJ 0, jJ 1]) (rest := []) mt rfl rfl rfl rfl ?_
    refine jCall.mono (E_in (b64_id (by omega) (by omega)) (show b64 0 = 0 by decide) (show b64 1 = 1 by decide)) (fun v9 w9 h9 => ?_)
    rcases h9 with ⟨rfl, h9, h2⟩ | ⟨rfl, h9, h2⟩ <;> subst w9
    · have h2 : 0 ≤ p ∧ p ≤ 1 := h2
      show jWp 171 21 [some (jO m), some (jI (i1 : Int)), some (jI p)] [jI 1] 0 0 w _
      refine jWp.ifc (b := true) mt rfl (by decide) rfl ?_
      show jWp 171 31 [some (jO m), some (jI (i1 : Int)), some (jI p)] [] 0 0 w _
      refine jWp.blk mt 1 ?_
      show _ ∧ jWp 171 32 [some (jO m), some (jI (i1 : Int)), some (jI p)] [jO m] 0 0 w _
      refine ⟨rfl, ?_⟩
      refine jWp.getR (pc' := 35) (o := (m + 1)) mt rfl rfl (jtg hW.K0) hW.R0 ?_
      show jWp 171 35 [some (jO m), some (jI (i1 : Int)), some (jI p)] [jO (m + 1)] 0 0 w _
      refine jWp.blk mt 1 ?_
      show jWp 171 36 [some (jO m), some (jI (i1 : Int)), some (jI p)] [jI p, jO (m + 1)] 0 0 w _
      refine jWp.ifz (pc' := 39) mt rfl rfl (b32_id (by omega) (by omega)) (fun h3 => ?_) (fun h3 => ?_)
      · have h3 : p ≠ 0 := h3
        refine jWp.blk mt 3 ?_
        show jWp 171 48 [some (jO m), some (jI (i1 : Int)), some (jI p)] [jI (25 + (i1 : Int)), jO (m + 1)] 0 0 w _
        refine jWp.lald (pc' := 49) (j := (25 + i1)) mt rfl rfl (jtg hW.K1) (by rw [b32_id (by omega) (by omega)] <;> omega) (jlt hW.K1 (by omega)) ?_
        show jWp 171 49 [some (jO m), some (jI (i1 : Int)), some (jI p)] [jJ (w.1 (m + 1) (25 + i1))] 0 0 w _
        refine jWp.blk mt 1 ?_
        show jWp 171 50 [some (jO m), some (jI (i1 : Int)), some (jI p)] [jI (w.1 (m + 1) (25 + i1))] 0 0 w _
        refine jWp.ireti mt rfl ⟨rfl, rfl⟩ rfl ?_
        refine ⟨fun c0 => ?_, fun c0 c1 => ?_, fun c0 c1 => ?_⟩
        all_goals first
        | (exfalso; omega)
        | exact ⟨rfl, rfl⟩
        | exact ⟨by rw [if_pos (by omega)]; rfl, rfl⟩
        | exact ⟨by rw [if_neg (by omega)]; rfl, rfl⟩
      · have h3 : p = 0 := h3
        refine jWp.blk mt 4 ?_
        show jWp 171 48 [some (jO m), some (jI (i1 : Int)), some (jI p)] [jI (21 + (i1 : Int)), jO (m + 1)] 0 0 w _
        refine jWp.lald (pc' := 49) (j := (21 + i1)) mt rfl rfl (jtg hW.K1) (by rw [b32_id (by omega) (by omega)] <;> omega) (jlt hW.K1 (by omega)) ?_
        show jWp 171 49 [some (jO m), some (jI (i1 : Int)), some (jI p)] [jJ (w.1 (m + 1) (21 + i1))] 0 0 w _
        refine jWp.blk mt 1 ?_
        show jWp 171 50 [some (jO m), some (jI (i1 : Int)), some (jI p)] [jI (w.1 (m + 1) (21 + i1))] 0 0 w _
        refine jWp.ireti mt rfl ⟨rfl, rfl⟩ rfl ?_
        refine ⟨fun c0 => ?_, fun c0 c1 => ?_, fun c0 c1 => ?_⟩
        all_goals first
        | (exfalso; omega)
        | exact ⟨rfl, rfl⟩
        | exact ⟨by rw [if_pos (by omega)]; rfl, rfl⟩
        | exact ⟨by rw [if_neg (by omega)]; rfl, rfl⟩
    · have h2 : ¬ (0 ≤ p ∧ p ≤ 1) := h2
      show jWp 171 21 [some (jO m), some (jI (i1 : Int)), some (jI p)] [jI 0] 0 0 w _
      refine jWp.ifc (b := false) mt rfl (by decide) rfl ?_
      show jWp 171 24 [some (jO m), some (jI (i1 : Int)), some (jI p)] [] 0 0 w _
      refine jWp.blk mt 2 ?_
      show _ ∧ jWp 171 27 [some (jO m), some (jI (i1 : Int)), some (jI p)] [jI (-2), jO m] 0 0 w _
      refine ⟨rfl, ?_⟩
      refine jWp.callv (as := [jO m, jI (-2)]) (rest := []) mt rfl rfl rfl ⟨rfl, jtg hW.K0⟩ ?_
      refine jCall.mono (E_refuses (w := w) (j := 2) hW (by decide) (by decide)) (fun v9 w9 h9 => ?_)
      obtain ⟨rfl, h9⟩ := h9
      subst h9
      show jWp 171 30 [some (jO m), some (jI (i1 : Int)), some (jI p)] [jI (-2)] 0 0 (jW w (m + 3) 2 ((w.1 (m + 3) 2) + 1)) _
      refine jWp.ireti mt rfl ⟨rfl, rfl⟩ rfl ?_
      refine ⟨fun c0 => ?_, fun c0 c1 => ?_, fun c0 c1 => ?_⟩
      all_goals first
      | (exfalso; omega)
      | exact ⟨rfl, rfl⟩
      | exact ⟨by rw [if_pos (by omega)]; rfl, rfl⟩
      | exact ⟨by rw [if_neg (by omega)]; rfl, rfl⟩
  · have h1 : ¬ (0 ≤ i ∧ i < (n : Int)) := h1
    show jWp 171 5 [some (jO m), some (jI i), some (jI p)] [jI 0] 0 0 w _
    refine jWp.ifc (b := false) mt rfl (by decide) rfl ?_
    show jWp 171 8 [some (jO m), some (jI i), some (jI p)] [] 0 0 w _
    refine jWp.blk mt 2 ?_
    show _ ∧ jWp 171 10 [some (jO m), some (jI i), some (jI p)] [jI (-1), jO m] 0 0 w _
    refine ⟨rfl, ?_⟩
    refine jWp.callv (as := [jO m, jI (-1)]) (rest := []) mt rfl rfl rfl ⟨rfl, jtg hW.K0⟩ ?_
    refine jCall.mono (E_refuses (w := w) (j := 1) hW (by decide) (by decide)) (fun v9 w9 h9 => ?_)
    obtain ⟨rfl, h9⟩ := h9
    subst h9
    show jWp 171 13 [some (jO m), some (jI i), some (jI p)] [jI (-1)] 0 0 (jW w (m + 3) 1 ((w.1 (m + 3) 1) + 1)) _
    refine jWp.ireti mt rfl ⟨rfl, rfl⟩ rfl ?_
    refine ⟨fun c0 => ?_, fun c0 c1 => ?_, fun c0 c1 => ?_⟩
    all_goals first
    | (exfalso; omega)
    | exact ⟨rfl, rfl⟩
    | exact ⟨by rw [if_pos (by omega)]; rfl, rfl⟩
    | exact ⟨by rw [if_neg (by omega)]; rfl, rfl⟩
set_option maxHeartbeats 4000000 in
set_option maxRecDepth 20000 in
theorem E_entry {w : jS} {m : Nat} (hW : MW w.2 m) {n : Nat} (hS : zS (w.1 (m + 1)) n) {i j : Int} (hri : r32 i) (hrj : r32 j) : jCall 170 [jO m, jI i, jI j] w (fun v w1 => ((¬ (0 ≤ i ∧ i < (n : Int)) ∨ ¬ (0 ≤ j ∧ j < (n : Int))) → jno w m 1 (jI (1000000000 - (-1))) v w1) ∧ (¬ (¬ (0 ≤ i ∧ i < (n : Int)) ∨ ¬ (0 ≤ j ∧ j < (n : Int))) → v = some (jI (w.1 (m + 1) (1 + (4 * i.toNat + j.toNat)))) ∧ w1 = w)) := by
  have mt : jtb 170 = jT170 := rfl
  have hn2 := hS.n2
  have hn4 := hS.n4
  have hri1 : -2147483648 ≤ i ∧ i < 2147483648 := hri
  show jWp 170 0 [some (jO m), some (jI i), some (jI j)] [] 0 0 w _
  refine jWp.blk mt 2 ?_
  show _ ∧ jWp 170 2 [some (jO m), some (jI i), some (jI j)] [jI i, jO m] 0 0 w _
  refine ⟨rfl, ?_⟩
  refine jWp.callv (as := [jO m, jI i]) (rest := []) mt rfl rfl rfl ⟨rfl, jtg hW.K0⟩ ?_
  refine jCall.mono (E_isLetter hW hS hri) (fun v9 w9 h9 => ?_)
  rcases h9 with ⟨rfl, h9, h1⟩ | ⟨rfl, h9, h1⟩ <;> subst w9
  · have h1 : 0 ≤ i ∧ i < (n : Int) := h1
    show jWp 170 5 [some (jO m), some (jI i), some (jI j)] [jI 1] 0 0 w _
    obtain ⟨i1, rfl⟩ : ∃ i1 : Nat, i = (i1 : Int) := ⟨i.toNat, by omega⟩
    show jWp 170 5 [some (jO m), some (jI (i1 : Int)), some (jI j)] [jI 1] 0 0 w _
    refine jWp.ifc (b := false) mt rfl (by decide) rfl ?_
    show jWp 170 8 [some (jO m), some (jI (i1 : Int)), some (jI j)] [] 0 0 w _
    refine jWp.blk mt 2 ?_
    show _ ∧ jWp 170 10 [some (jO m), some (jI (i1 : Int)), some (jI j)] [jI j, jO m] 0 0 w _
    refine ⟨rfl, ?_⟩
    refine jWp.callv (as := [jO m, jI j]) (rest := []) mt rfl rfl rfl ⟨rfl, jtg hW.K0⟩ ?_
    refine jCall.mono (E_isLetter hW hS hrj) (fun v9 w9 h9 => ?_)
    rcases h9 with ⟨rfl, h9, h2⟩ | ⟨rfl, h9, h2⟩ <;> subst w9
    · have h2 : 0 ≤ j ∧ j < (n : Int) := h2
      show jWp 170 13 [some (jO m), some (jI (i1 : Int)), some (jI j)] [jI 1] 0 0 w _
      obtain ⟨j1, rfl⟩ : ∃ j1 : Nat, j = (j1 : Int) := ⟨j.toNat, by omega⟩
      show jWp 170 13 [some (jO m), some (jI (i1 : Int)), some (jI (j1 : Int))] [jI 1] 0 0 w _
      refine jWp.ifc (b := false) mt rfl (by decide) rfl ?_
      show jWp 170 16 [some (jO m), some (jI (i1 : Int)), some (jI (j1 : Int))] [] 0 0 w _
      refine jWp.blk mt 1 ?_
      show _ ∧ jWp 170 17 [some (jO m), some (jI (i1 : Int)), some (jI (j1 : Int))] [jO m] 0 0 w _
      refine ⟨rfl, ?_⟩
      refine jWp.getR (pc' := 20) (o := (m + 1)) mt rfl rfl (jtg hW.K0) hW.R0 ?_
      show jWp 170 20 [some (jO m), some (jI (i1 : Int)), some (jI (j1 : Int))] [jO (m + 1)] 0 0 w _
      refine jWp.blk mt 2 ?_
      show jWp 170 22 [some (jO m), some (jI (i1 : Int)), some (jI (j1 : Int))] [jI (j1 : Int), jI (i1 : Int), jO (m + 1)] 0 0 w _
      refine jWp.calls (as := [jO (m + 1), jI (i1 : Int), jI (j1 : Int)]) (rest := []) mt rfl rfl rfl rfl ?_
      refine jCall.mono (E_b (w := w) (i := i1) (k := j1) hW.K1 (by omega) (by omega) (by omega)) (fun v9 w9 h9 => ?_)
      obtain ⟨rfl, h9⟩ := h9
      subst w9
      show jWp 170 25 [some (jO m), some (jI (i1 : Int)), some (jI (j1 : Int))] [jJ (w.1 (m + 1) (1 + (4 * i1 + j1)))] 0 0 w _
      refine jWp.blk mt 2 ?_
      show jWp 170 34 [some (jO m), some (jI (i1 : Int)), some (jI (j1 : Int))] [jI (w.1 (m + 1) (1 + (4 * i1 + j1)))] 0 0 w _
      refine jWp.ireti mt rfl ⟨rfl, rfl⟩ rfl ?_
      refine ⟨fun c0 => ?_, fun c0 => ?_⟩
      all_goals first
      | (exfalso; omega)
      | exact ⟨rfl, rfl⟩
    · have h2 : ¬ (0 ≤ j ∧ j < (n : Int)) := h2
      show jWp 170 13 [some (jO m), some (jI (i1 : Int)), some (jI j)] [jI 0] 0 0 w _
      refine jWp.ifc (b := true) mt rfl (by decide) rfl ?_
      show jWp 170 29 [some (jO m), some (jI (i1 : Int)), some (jI j)] [] 0 0 w _
      refine jWp.blk mt 2 ?_
      show _ ∧ jWp 170 31 [some (jO m), some (jI (i1 : Int)), some (jI j)] [jI (-1), jO m] 0 0 w _
      refine ⟨rfl, ?_⟩
      refine jWp.callv (as := [jO m, jI (-1)]) (rest := []) mt rfl rfl rfl ⟨rfl, jtg hW.K0⟩ ?_
      refine jCall.mono (E_far (w := w) (j := 1) hW (by decide) (by decide)) (fun v9 w9 h9 => ?_)
      obtain ⟨rfl, h9⟩ := h9
      subst h9
      show jWp 170 34 [some (jO m), some (jI (i1 : Int)), some (jI j)] [jI (1000000000 - (-1))] 0 0 (jW w (m + 3) 1 ((w.1 (m + 3) 1) + 1)) _
      refine jWp.ireti mt rfl ⟨rfl, rfl⟩ rfl ?_
      refine ⟨fun c0 => ?_, fun c0 => ?_⟩
      all_goals first
      | (exfalso; omega)
      | exact ⟨rfl, rfl⟩
  · have h1 : ¬ (0 ≤ i ∧ i < (n : Int)) := h1
    show jWp 170 5 [some (jO m), some (jI i), some (jI j)] [jI 0] 0 0 w _
    refine jWp.ifc (b := true) mt rfl (by decide) rfl ?_
    show jWp 170 29 [some (jO m), some (jI i), some (jI j)] [] 0 0 w _
    refine jWp.blk mt 2 ?_
    show _ ∧ jWp 170 31 [some (jO m), some (jI i), some (jI j)] [jI (-1), jO m] 0 0 w _
    refine ⟨rfl, ?_⟩
    refine jWp.callv (as := [jO m, jI (-1)]) (rest := []) mt rfl rfl rfl ⟨rfl, jtg hW.K0⟩ ?_
    refine jCall.mono (E_far (w := w) (j := 1) hW (by decide) (by decide)) (fun v9 w9 h9 => ?_)
    obtain ⟨rfl, h9⟩ := h9
    subst h9
    show jWp 170 34 [some (jO m), some (jI i), some (jI j)] [jI (1000000000 - (-1))] 0 0 (jW w (m + 3) 1 ((w.1 (m + 3) 1) + 1)) _
    refine jWp.ireti mt rfl ⟨rfl, rfl⟩ rfl ?_
    refine ⟨fun c0 => ?_, fun c0 => ?_⟩
    all_goals first
    | (exfalso; omega)
    | exact ⟨rfl, rfl⟩
end
section
theorem zS_c {S q : Nat → Int} {n : Nat} (h : ∀ j, j < 29 → S j = q j) (hS : zS q n) : zS S n :=
  ⟨(h 0 (by omega)).trans hS.n0, hS.n2, hS.n4, fun i hi => by rw [h _ (by omega), h _ (by omega)]; exact hS.v i hi, fun j hj => by rw [h _ (by omega)]; exact hS.b j hj⟩
theorem zml_c {up dn tm up' dn' tm' : Nat → Int} : ∀ (r i : Nat) (p : Int × Int), (∀ x, x < i + r → up x = up' x ∧ dn x = dn' x ∧ tm x = tm' x) → zml up dn tm r i p = zml up' dn' tm' r i p
  | 0, _, _, _ => rfl
  | r + 1, i, p, h => by
    show (zmt (up i) (dn i) (tm i).toNat p).bind (zml up dn tm r (i + 1)) = (zmt (up' i) (dn' i) (tm' i).toNat p).bind (zml up' dn' tm' r (i + 1))
    have e := h i (by omega)
    rw [e.1, e.2.1, e.2.2, show zml up dn tm r (i + 1) = zml up' dn' tm' r (i + 1) from funext fun p => zml_c r (i + 1) p (fun x hx => h x (by omega))]
theorem zmk_c {S q : Nat → Int} {n k : Nat} {sg : Int} (h : ∀ j, j < 29 → S j = q j) (hn : n ≤ 4) (hk : k < 4) : zmk S n k sg = zmk q n k sg :=
  zml_c n 0 _ (fun x hx => ⟨h _ (by omega), h _ (by omega), by show sg * S (1 + (4 * x + k)) = sg * q (1 + (4 * x + k)); rw [h _ (by omega)]⟩)
theorem zxv_c {S q : Nat → Int} {n k : Nat} (h : ∀ j, j < 29 → S j = q j) (hn : n ≤ 4) (hk : k < 4) : zxv S n k = zxv q n k := by
  unfold zxv
  rw [zmk_c h hn hk, zmk_c h hn hk, h (25 + k) (by omega), h (21 + k) (by omega)]
theorem zxe_c {S q : Nat → Int} {k e : Nat} (h : ∀ j, j < 29 → S j = q j) (hk : k < 4) (he : e < 16) : zxe (fun e => S (1 + e)) k e = zxe (fun e => q (1 + e)) k e := by
  have h4 : e / 4 < 4 := by omega
  have h5 : e % 4 < 4 := by omega
  unfold zxe zxb
  dsimp only
  rw [h (1 + (4 * (e / 4) + e % 4)) (by omega), h (1 + (4 * (e / 4) + k)) (by omega), h (1 + (4 * k + e % 4)) (by omega)]
theorem zxt_c {S q : Nat → Int} {k : Nat} (h : ∀ j, j < 29 → S j = q j) (hk : k < 4) : zxt (fun e => S (1 + e)) k ↔ zxt (fun e => q (1 + e)) k := by
  unfold zxt
  constructor
  · intro g e he; rw [← zxe_c h hk he]; exact g e he
  · intro g e he; rw [zxe_c h hk he]; exact g e he
/-- whether a letter can be exchanged, and what the seed is then -/
def zcan (q : Nat → Int) (n k : Nat) : Prop := zxt (fun e => q (1 + e)) k ∧ (zxv q n k).isSome = true
theorem zcan_c {S q : Nat → Int} {n k : Nat} (h : ∀ j, j < 29 → S j = q j) (hn : n ≤ 4) (hk : k < 4) : zcan S n k ↔ zcan q n k := by
  unfold zcan
  rw [zxv_c h hn hk, zxt_c h hk]
def zxn (q S : Nat → Int) (n k : Nat) : Prop := zcan q n k ∧ zxv q n k = some (S (21 + k), S (25 + k)) ∧ (∀ e, e < 16 → S (1 + e) = zxe (fun e => q (1 + e)) k e) ∧ (∀ j, j < 29 → (j < 1 ∨ 17 ≤ j) → j ≠ 21 + k → j ≠ 25 + k → S j = q j) ∧ zdg q S n k
theorem zdg_c {S q R : Nat → Int} {n k : Nat} (h : ∀ j, j < 45 → S j = q j) (hn : n ≤ 4) (hk : k < 4) (hx : zdg S R n k) : zdg q R n k :=
  ⟨fun c hc => (hx.1 c hc).trans (zdn_c hn hk hc (fun j hj _ => h j hj)), fun i c hi hc hik => (hx.2 i c hi hc hik).trans (h _ (by omega))⟩
theorem zxn_c {S q R : Nat → Int} {n k : Nat} (h45 : ∀ j, j < 45 → S j = q j) (hn : n ≤ 4) (hk : k < 4) (hx : zxn S R n k) : zxn q R n k :=
  have h : ∀ j, j < 29 → S j = q j := fun j hj => h45 j (by omega)
  ⟨(zcan_c h hn hk).mp hx.1, by rw [← zxv_c h hn hk]; exact hx.2.1, fun e he => by rw [← zxe_c h hk he]; exact hx.2.2.1 e he, fun j hj h1 h2 h3 => by rw [← h j hj]; exact hx.2.2.2.1 j hj h1 h2 h3, zdg_c h45 hn hk hx.2.2.2.2⟩
theorem zxv_sm {q : Nat → Int} {n k : Nat} {p : Int × Int} (hS : zS q n) (hk : k < 4) (h : zxv q n k = some p) : zsm p := by
  have hm : ∀ sg p, zmk q n k sg = some p → zsm p := by
    have ht : ∀ (x y : Int) (hx : zsm (x, y)) (t : Nat) (p r : Int × Int), zsm p → zmt x y t p = some r → zsm r := by
      intro x y hx t
      induction t with
      | zero => intro p r hp h; cases h; exact hp
      | succ t ih =>
        intro p r hp h
        unfold zmt at h
        split at h
        · rename_i hz
          have a1 := zmul_b hp.1 hp.2.1 hx.1 hx.2.1
          have a2 := zmul_b hp.2.2.1 hp.2.2.2 hx.2.2.1 hx.2.2.2
          exact ih _ _ (zok_sm (a := p.1 * x) (b := p.2 * y) a1.1 a2.1 hz) h
        · cases h
    have hl : ∀ (sg : Int) (r i : Nat) (p s : Int × Int), i + r ≤ 4 → zsm p → zml (fun i => q (21 + i)) (fun i => q (25 + i)) (fun i => sg * q (1 + (4 * i + k))) r i p = some s → zsm s := by
      intro sg r
      induction r with
      | zero => intro i p s _ hp h; cases h; exact hp
      | succ r ih =>
        intro i p s hi hp h
        unfold zml at h
        cases hz : zmt (q (21 + i)) (q (25 + i)) (sg * q (1 + (4 * i + k))).toNat p with
        | none => rw [hz] at h; cases h
        | some p' =>
          rw [hz] at h
          exact ih (i + 1) p' s (by omega) (ht _ _ (hS.v i (by omega)) _ _ _ hp hz) h
    intro sg p h
    exact hl sg n 0 (1, 1) p (by have := hS.n4; omega) (by decide) h
  unfold zxv at h
  cases h1 : zmk q n k 1 with
  | none => rw [h1] at h; cases h
  | some a =>
    cases h2 : zmk q n k (-1) with
    | none => rw [h1, h2] at h; cases h
    | some b =>
      rw [h1, h2] at h
      dsimp only at h
      have s1 := hm _ _ h1
      have s2 := hm _ _ h2
      have q1 := zmul_b s1.1 s1.2.1 s2.2.2.1 s2.2.2.2
      have q2 := zmul_b s2.1 s2.2.1 s1.2.2.1 s1.2.2.2
      have q3 := zmul_b s1.2.2.1 s1.2.2.2 s2.2.2.1 s2.2.2.2
      split at h
      · rename_i z1
        have g1 := zok_sm (by omega) (by omega) z1
        have hv := hS.v k hk
        have g2 := zmul_b g1.1 g1.2.1 hv.2.2.1 hv.2.2.2
        have g3 := zmul_b g1.2.2.1 g1.2.2.2 hv.1 hv.2.1
        split at h
        · rename_i z2
          cases h
          exact zok_sm g2.1 g3.1 z2
        · cases h
      · cases h
/-- an exchange leads from seeds to seeds -/
theorem zxn_S {q S : Nat → Int} {n k : Nat} (hS : zS q n) (hk : k < 4) (h : zxn q S n k) : zS S n := by
  refine ⟨(h.2.2.2.1 0 (by omega) (by omega) (by omega) (by omega)).trans hS.n0, hS.n2, hS.n4, fun i hi => ?_, fun j hj => ?_⟩
  · by_cases e : i = k
    · subst e
      exact zxv_sm hS hk h.2.1
    · rw [h.2.2.2.1 (21 + i) (by omega) (by omega) (by omega) (by omega), h.2.2.2.1 (25 + i) (by omega) (by omega) (by omega) (by omega)]
      exact hS.v i hi
  · rw [h.2.2.1 j hj]
    exact h.1.1 j hj
end
section
/-- the past of the reference behind one more seed -/
def zcom (w : jS) (m : Nat) (u : Nat) (q : Nat → Int) (w1 : jS) : Prop :=
  (∀ a, a ≠ m → (∀ x, x < 8 → a ≠ m + (8 + x)) → w1.1 a = w.1 a) ∧ (∀ j, j ≠ 15 → w1.1 m j = w.1 m j) ∧ w1.2 = w.2 ∧
  ((u < 8 ∧ w1.1 m 15 = ((u + 1 : Nat) : Int) ∧ (∀ x, x < u → w1.1 (m + (8 + x)) = w.1 (m + (8 + x))) ∧ ∀ c, c < 45 → w1.1 (m + (8 + u)) c = q c) ∨
   (u = 8 ∧ w1.1 m 15 = ((8 : Nat) : Int) ∧ (∀ x, x < 7 → ∀ c, c < 45 → w1.1 (m + (8 + x)) c = w.1 (m + (8 + (x + 1))) c) ∧ ∀ c, c < 45 → w1.1 (m + (8 + 7)) c = q c))
set_option maxHeartbeats 4000000 in
set_option maxRecDepth 20000 in
theorem E_comes {w : jS} {m : Nat} (hW : MW w.2 m) {u b : Nat} (hu : w.1 m 15 = (u : Int)) (hu8 : u ≤ 8) (hb : w.2.1 (m + b) = (101, 45)) (hb0 : b ≠ 0) (hbn : b < 8 ∨ 16 ≤ b) : jCall 179 [jO m, jO (m + b)] w (fun v w1 => v = none ∧ zcom w m u (w.1 (m + b)) w1) := by
  have mt : jtb 179 = jT179 := rfl
  show jWp 179 0 [some (jO m), some (jO (m + b)), none] [] 0 0 w _
  refine jWp.blk mt 1 ?_
  show _ ∧ jWp 179 1 [some (jO m), some (jO (m + b)), none] [jO m] 0 0 w _
  refine ⟨rfl, ?_⟩
  refine jWp.getI (pc' := 4) mt rfl rfl (jtg hW.K0) ?_
  rw [show (w.1 m 15) = (u : Int) from hu]
  show jWp 179 4 [some (jO m), some (jO (m + b)), none] [jI (u : Int)] 0 0 w _
  refine jWp.blk mt 1 ?_
  show jWp 179 6 [some (jO m), some (jO (m + b)), none] [jI 8, jI (u : Int)] 0 0 w _
  refine jWp.icmp (pc' := 9) mt rfl rfl (b32_id (by omega) (by omega)) (show b32 8 = 8 by decide) (fun h1 => ?_) (fun h1 => ?_)
  · have h1 : (u : Int) ≠ 8 := h1
    refine jWp.blk mt 2 ?_
    show _ ∧ _ ∧ jWp 179 52 [some (jO m), some (jO (m + b)), none] [jO m, jO (m + b)] 0 0 w _
    refine ⟨rfl, rfl, ?_⟩
    refine jWp.getR (pc' := 55) (o := (m + 7)) mt rfl rfl (jtg hW.K0) hW.R14 ?_
    show jWp 179 55 [some (jO m), some (jO (m + b)), none] [jO (m + 7), jO (m + b)] 0 0 w _
    refine jWp.blk mt 1 ?_
    show _ ∧ jWp 179 56 [some (jO m), some (jO (m + b)), none] [jO m, jO (m + 7), jO (m + b)] 0 0 w _
    refine ⟨rfl, ?_⟩
    refine jWp.getI (pc' := 59) mt rfl rfl (jtg hW.K0) ?_
    rw [show (w.1 m 15) = (u : Int) from hu]
    show jWp 179 59 [some (jO m), some (jO (m + b)), none] [jI (u : Int), jO (m + 7), jO (m + b)] 0 0 w _
    refine jWp.aald (pc' := 60) (j := u) (o := (m + (8 + u))) mt rfl rfl (jrg hW.K7 (by decide) (by decide)) (by rw [b32_id (by omega) (by omega)] <;> omega) (jlt hW.K7 (by omega)) (hW.RW u (by omega)) ?_
    show jWp 179 60 [some (jO m), some (jO (m + b)), none] [jO (m + (8 + u)), jO (m + b)] 0 0 w _
    refine jWp.calls (as := [jO (m + b), jO (m + (8 + u))]) (rest := []) mt rfl rfl rfl rfl ?_
    refine jCall.mono (E_copies (w := w) (a := m + b) (q := m + (8 + u)) hb (hW.KW _ (by omega)) (by omega)) (fun v9 w9 h9 => ?_)
    obtain ⟨rfl, T2, h9, hT3⟩ := h9
    subst h9
    show jWp 179 63 [some (jO m), some (jO (m + b)), none] [] 0 0 (kA w (m + (8 + u)) T2) _
    refine jWp.blk mt 2 ?_
    show _ ∧ _ ∧ jWp 179 65 [some (jO m), some (jO (m + b)), none] [jO m, jO m] 0 0 (kA w (m + (8 + u)) T2) _
    refine ⟨rfl, rfl, ?_⟩
    refine jWp.getI (pc' := 68) mt rfl rfl (jtg hW.K0) ?_
    rw [show ((kA w (m + (8 + u)) T2).1 m 15) = (u : Int) from (((kA_a (by omega)).trans rfl).trans hu)]
    show jWp 179 68 [some (jO m), some (jO (m + b)), none] [jI (u : Int), jO m] 0 0 (kA w (m + (8 + u)) T2) _
    refine jWp.blk mt 2 ?_
    show jWp 179 70 [some (jO m), some (jO (m + b)), none] [jI ((u : Int) + 1), jO m] 0 0 (kA w (m + (8 + u)) T2) _
    refine jWp.putI (pc' := 73) mt rfl rfl (jtg hW.K0) ?_
    show jWp 179 73 [some (jO m), some (jO (m + b)), none] [] 0 0 (jW (kA w (m + (8 + u)) T2) m 15 ((u : Int) + 1)) _
    refine jWp.vret mt rfl ⟨rfl, rfl⟩ rfl ?_
    refine ⟨rfl, fun a h1 h2 => ?_, fun j hj => ?_, rfl, Or.inl ⟨by omega, ?_, fun x hx => ?_, fun c hc => ?_⟩⟩
    · exact (jW_f h1).trans (kA_f (h2 u (by omega)))
    · exact (jW_k hj).trans (kA_a (by omega))
    · exact jW_s.trans (by omega)
    · exact (jW_f (by omega)).trans (kA_f (by omega))
    · exact (jW_a (by omega)).trans (kA_s.trans (hT3 c hc))
  · have h1 : (u : Int) = 8 := h1
    refine jWp.blk mt 2 ?_
    show jWp 179 11 [some (jO m), some (jO (m + b)), some (jI 1)] [] 0 0 w _
    have lp4 : ∀ (N : Nat) (k : Nat) (M1 : Nat → Nat → Int) (hk : 1 ≤ k ∧ k ≤ 8) (hF : ∀ a, (∀ x, x < 8 → a ≠ m + (8 + x)) → M1 a = w.1 a) (hA : ∀ x, x + 1 < k → ∀ c, c < 45 → M1 (m + (8 + x)) c = w.1 (m + (8 + (x + 1))) c) (hB : ∀ x, k ≤ x + 1 → x < 8 → M1 (m + (8 + x)) = w.1 (m + (8 + x))), 8 - k < N → jWp 179 11 [some (jO m), some (jO (m + b)), some (jI (k : Int))] [] 0 0 (M1, w.2) (fun v w1 => v = none ∧ zcom w m u (w.1 (m + b)) w1) := by
      intro N
      induction N with
      | zero => intro k M1 hk hF hA hB hm; omega
      | succ N ih5 =>
        intro k M1 hk hF hA hB hm
        refine jWp.blk mt 2 ?_
        show jWp 179 14 [some (jO m), some (jO (m + b)), some (jI (k : Int))] [jI 8, jI (k : Int)] 0 0 (M1, w.2) _
        refine jWp.icmp (pc' := 17) mt rfl rfl (b32_id (by omega) (by omega)) (show b32 8 = 8 by decide) (fun h6 => ?_) (fun h6 => ?_)
        · have h6 : 8 ≤ (k : Int) := h6
          refine jWp.blk mt 2 ?_
          show _ ∧ _ ∧ jWp 179 42 [some (jO m), some (jO (m + b)), some (jI (k : Int))] [jO m, jO m] 0 0 (M1, w.2) _
          refine ⟨rfl, rfl, ?_⟩
          refine jWp.getI (pc' := 45) mt rfl rfl (jtg hW.K0) ?_
          rw [show ((M1, w.2).1 m 15) = (u : Int) from ((congrFun (hF m (by omega)) 15).trans hu)]
          show jWp 179 45 [some (jO m), some (jO (m + b)), some (jI (k : Int))] [jI (u : Int), jO m] 0 0 (M1, w.2) _
          refine jWp.blk mt 2 ?_
          show jWp 179 47 [some (jO m), some (jO (m + b)), some (jI (k : Int))] [jI ((u : Int) - 1), jO m] 0 0 (M1, w.2) _
          refine jWp.putI (pc' := 50) mt rfl rfl (jtg hW.K0) ?_
          show jWp 179 50 [some (jO m), some (jO (m + b)), some (jI (k : Int))] [] 0 0 (jW (M1, w.2) m 15 ((u : Int) - 1)) _
          refine jWp.blk mt 2 ?_
          show _ ∧ _ ∧ jWp 179 52 [some (jO m), some (jO (m + b)), some (jI (k : Int))] [jO m, jO (m + b)] 0 0 (jW (M1, w.2) m 15 ((u : Int) - 1)) _
          refine ⟨rfl, rfl, ?_⟩
          refine jWp.getR (pc' := 55) (o := (m + 7)) mt rfl rfl (jtg hW.K0) hW.R14 ?_
          show jWp 179 55 [some (jO m), some (jO (m + b)), some (jI (k : Int))] [jO (m + 7), jO (m + b)] 0 0 (jW (M1, w.2) m 15 ((u : Int) - 1)) _
          refine jWp.blk mt 1 ?_
          show _ ∧ jWp 179 56 [some (jO m), some (jO (m + b)), some (jI (k : Int))] [jO m, jO (m + 7), jO (m + b)] 0 0 (jW (M1, w.2) m 15 ((u : Int) - 1)) _
          refine ⟨rfl, ?_⟩
          refine jWp.getI (pc' := 59) mt rfl rfl (jtg hW.K0) ?_
          rw [show ((jW (M1, w.2) m 15 ((u : Int) - 1)).1 m 15) = ((u : Int) - 1) from jW_s]
          show jWp 179 59 [some (jO m), some (jO (m + b)), some (jI (k : Int))] [jI ((u : Int) - 1), jO (m + 7), jO (m + b)] 0 0 (jW (M1, w.2) m 15 ((u : Int) - 1)) _
          refine jWp.aald (pc' := 60) (j := ((u : Int) - 1).toNat) (o := (m + (8 + ((u : Int) - 1).toNat))) mt rfl rfl (jrg hW.K7 (by decide) (by decide)) (by rw [b32_id (by omega) (by omega)]; omega) (jlt hW.K7 (by omega)) (hW.RW ((u : Int) - 1).toNat (by omega)) ?_
          show jWp 179 60 [some (jO m), some (jO (m + b)), some (jI (k : Int))] [jO (m + (8 + ((u : Int) - 1).toNat)), jO (m + b)] 0 0 (jW (M1, w.2) m 15 ((u : Int) - 1)) _
          refine jWp.calls (as := [jO (m + b), jO (m + (8 + ((u : Int) - 1).toNat))]) (rest := []) mt rfl rfl rfl rfl ?_
          refine jCall.mono (E_copies (w := (jW (M1, w.2) m 15 ((u : Int) - 1))) (a := m + b) (q := m + (8 + ((u : Int) - 1).toNat)) hb (hW.KW _ (by omega)) (by omega)) (fun v9 w9 h9 => ?_)
          obtain ⟨rfl, T7, h9, hT8⟩ := h9
          subst h9
          have hT8b : ∀ j, j < 45 → T7 j = ((M1, w.2).1 (m + b)) j := fun j hj => (hT8 j hj).trans (congrFun ((jW_f (by omega)).trans rfl) j)
          show jWp 179 63 [some (jO m), some (jO (m + b)), some (jI (k : Int))] [] 0 0 (kA (jW (M1, w.2) m 15 ((u : Int) - 1)) (m + (8 + ((u : Int) - 1).toNat)) T7) _
          refine jWp.blk mt 2 ?_
          show _ ∧ _ ∧ jWp 179 65 [some (jO m), some (jO (m + b)), some (jI (k : Int))] [jO m, jO m] 0 0 (kA (jW (M1, w.2) m 15 ((u : Int) - 1)) (m + (8 + ((u : Int) - 1).toNat)) T7) _
          refine ⟨rfl, rfl, ?_⟩
          refine jWp.getI (pc' := 68) mt rfl rfl (jtg hW.K0) ?_
          rw [show ((kA (jW (M1, w.2) m 15 ((u : Int) - 1)) (m + (8 + ((u : Int) - 1).toNat)) T7).1 m 15) = ((u : Int) - 1) from ((kA_a (by omega)).trans jW_s)]
          show jWp 179 68 [some (jO m), some (jO (m + b)), some (jI (k : Int))] [jI ((u : Int) - 1), jO m] 0 0 (kA (jW (M1, w.2) m 15 ((u : Int) - 1)) (m + (8 + ((u : Int) - 1).toNat)) T7) _
          refine jWp.blk mt 2 ?_
          show jWp 179 70 [some (jO m), some (jO (m + b)), some (jI (k : Int))] [jI (((u : Int) - 1) + 1), jO m] 0 0 (kA (jW (M1, w.2) m 15 ((u : Int) - 1)) (m + (8 + ((u : Int) - 1).toNat)) T7) _
          refine jWp.putI (pc' := 73) mt rfl rfl (jtg hW.K0) ?_
          show jWp 179 73 [some (jO m), some (jO (m + b)), some (jI (k : Int))] [] 0 0 (jW (kA (jW (M1, w.2) m 15 ((u : Int) - 1)) (m + (8 + ((u : Int) - 1).toNat)) T7) m 15 (((u : Int) - 1) + 1)) _
          refine jWp.vret mt rfl ⟨rfl, rfl⟩ rfl ?_
          have eu : u = 8 := by omega
          subst eu
          rw [show (((8 : Nat) : Int) - 1).toNat = 7 from by decide]
          refine ⟨rfl, fun a h1 h2 => ?_, fun j hj => ?_, rfl, Or.inr ⟨rfl, ?_, fun x hx c hc => ?_, fun c hc => ?_⟩⟩
          · exact (jW_f h1).trans ((kA_f (h2 7 (by omega))).trans ((jW_f h1).trans (hF a h2)))
          · exact (jW_k hj).trans ((kA_a (by omega)).trans ((jW_k hj).trans (congrFun (hF m (by omega)) j)))
          · exact jW_s.trans (by omega)
          · exact (jW_a (by omega)).trans ((kA_a (by omega)).trans ((jW_a (by omega)).trans (hA x (by omega) c hc)))
          · exact (jW_a (by omega)).trans (kA_s.trans ((hT8b c hc).trans (congrFun (hF (m + b) (by omega)) c)))
        · have h6 : (k : Int) < 8 := h6
          refine jWp.blk mt 1 ?_
          show _ ∧ jWp 179 18 [some (jO m), some (jO (m + b)), some (jI (k : Int))] [jO m] 0 0 (M1, w.2) _
          refine ⟨rfl, ?_⟩
          refine jWp.getR (pc' := 21) (o := (m + 7)) mt rfl rfl (jtg hW.K0) hW.R14 ?_
          show jWp 179 21 [some (jO m), some (jO (m + b)), some (jI (k : Int))] [jO (m + 7)] 0 0 (M1, w.2) _
          refine jWp.blk mt 1 ?_
          show jWp 179 22 [some (jO m), some (jO (m + b)), some (jI (k : Int))] [jI (k : Int), jO (m + 7)] 0 0 (M1, w.2) _
          refine jWp.aald (pc' := 23) (j := k) (o := (m + (8 + k))) mt rfl rfl (jrg hW.K7 (by decide) (by decide)) (b32_id (by omega) (by omega)) (jlt hW.K7 (by omega)) (hW.RW k (by omega)) ?_
          show jWp 179 23 [some (jO m), some (jO (m + b)), some (jI (k : Int))] [jO (m + (8 + k))] 0 0 (M1, w.2) _
          refine jWp.blk mt 1 ?_
          show _ ∧ jWp 179 24 [some (jO m), some (jO (m + b)), some (jI (k : Int))] [jO m, jO (m + (8 + k))] 0 0 (M1, w.2) _
          refine ⟨rfl, ?_⟩
          refine jWp.getR (pc' := 27) (o := (m + 7)) mt rfl rfl (jtg hW.K0) hW.R14 ?_
          show jWp 179 27 [some (jO m), some (jO (m + b)), some (jI (k : Int))] [jO (m + 7), jO (m + (8 + k))] 0 0 (M1, w.2) _
          refine jWp.blk mt 3 ?_
          show jWp 179 30 [some (jO m), some (jO (m + b)), some (jI (k : Int))] [jI ((k : Int) - 1), jO (m + 7), jO (m + (8 + k))] 0 0 (M1, w.2) _
          refine jWp.aald (pc' := 31) (j := (k - 1)) (o := (m + (8 + (k - 1)))) mt rfl rfl (jrg hW.K7 (by decide) (by decide)) (by rw [b32_id (by omega) (by omega)]; omega) (jlt hW.K7 (by omega)) (hW.RW (k - 1) (by omega)) ?_
          show jWp 179 31 [some (jO m), some (jO (m + b)), some (jI (k : Int))] [jO (m + (8 + (k - 1))), jO (m + (8 + k))] 0 0 (M1, w.2) _
          refine jWp.calls (as := [jO (m + (8 + k)), jO (m + (8 + (k - 1)))]) (rest := []) mt rfl rfl rfl rfl ?_
          refine jCall.mono (E_copies (w := (M1, w.2)) (a := m + (8 + k)) (q := m + (8 + (k - 1))) (hW.KW _ (by omega)) (hW.KW _ (by omega)) (by omega)) (fun v9 w9 h9 => ?_)
          obtain ⟨rfl, T9, h9, hT10⟩ := h9
          subst h9
          show jWp 179 34 [some (jO m), some (jO (m + b)), some (jI (k : Int))] [] 0 0 (kA (M1, w.2) (m + (8 + (k - 1))) T9) _
          refine jWp.blk mt 2 ?_
          show jWp 179 11 [some (jO m), some (jO (m + b)), some (jI ((k : Int) + 1))] [] 0 0 (kA (M1, w.2) (m + (8 + (k - 1))) T9) _
          refine jWp.le (l := [some (jO m), some (jO (m + b)), some (jI ((k : Int) + 1))]) (by exact ⟨rfl, rfl, rfl, trivial⟩) ?_
          exact ih5 (k + 1) _ (by omega) (fun a h => (kA_f (h (k - 1) (by omega))).trans (hF a h)) (fun x hx c hc => by rcases Nat.lt_or_ge (x + 1) k with e | e; exact (kA_a (by omega)).trans (hA x e c hc); rw [show x = k - 1 by omega]; exact kA_s.trans ((hT10 c hc).trans (by show M1 (m + (8 + k)) c = _; rw [hB k (by omega) (by omega), show k - 1 + 1 = k by omega]))) (fun x h h2 => (kA_f (by omega)).trans (hB x (by omega) h2)) (by omega)
    refine jWp.le (l := [some (jO m), some (jO (m + b)), some (jI 1)]) (by exact ⟨rfl, rfl, rfl, trivial⟩) ?_
    exact lp4 _ 1 w.1 (by omega) (fun a h => rfl) (fun x hx => absurd hx (by omega)) (fun x h h2 => rfl) (Nat.lt_succ_self _)
end
section
/-- what an exchange, a walk, an undoing leave of the reference as it was -/
def mfr (w : jS) (m : Nat) (w1 : jS) : Prop := w1.2 = w.2 ∧ (∀ a, a ≠ m → a ≠ m + 1 → a ≠ m + 6 → (a < m + 8 ∨ m + 17 ≤ a) → w1.1 a = w.1 a) ∧ ∀ j, j ≠ 11 → j ≠ 12 → j ≠ 15 → w1.1 m j = w.1 m j
/-- the past behind one more seed q -/
def zpst (w : jS) (m u : Nat) (q : Nat → Int) (w1 : jS) : Prop :=
  (u < 8 ∧ w1.1 m 15 = ((u + 1 : Nat) : Int) ∧ (∀ x, x < u → w1.1 (m + (8 + x)) = w.1 (m + (8 + x))) ∧ ∀ c, c < 45 → w1.1 (m + (8 + u)) c = q c) ∨
   (u = 8 ∧ w1.1 m 15 = ((8 : Nat) : Int) ∧ (∀ x, x < 7 → ∀ c, c < 45 → w1.1 (m + (8 + x)) c = w.1 (m + (8 + (x + 1))) c) ∧ ∀ c, c < 45 → w1.1 (m + (8 + 7)) c = q c)
/-- an exchange of the seed that is tried, which was copied from another -/
theorem E_xtried {w : jS} {m n k : Nat} {q T : Nat → Int} (hW : MW w.2 m) (hS : zS q n) (hk : k < 4) (hT : ∀ j, j < 45 → T j = q j) : jCall 178 [jO m, jO (m + 16), jI (k : Int)] (kA w (m + 16) T) (fun v w1 => ∃ x y T6 S, w1 = kA (kA (jF2 w m x y) (m + 6) T6) (m + 16) S ∧ ((v = some (jI 1) ∧ zxn q S n k) ∨ (v = some (jI 0) ∧ (∀ j, j < 45 → S j = q j) ∧ ¬ zcan q n k))) := by
  have e : (kA w (m + 16) T).1 (m + 16) = T := kA_fs
  have hT9 : ∀ j, j < 29 → T j = q j := fun j hj => hT j (by omega)
  have hn := hS.n4
  refine jCall.mono (E_exchanges (w := kA w (m + 16) T) (q := m + 16) (tb := m + 6) (n := n) hW.K0 hW.R13 hW.K16 hW.K6 (by rw [e]; exact zS_c hT9 hS) hk) (fun v w1 h => ?_)
  obtain ⟨x, y, T6, S, h1, h2⟩ := h
  refine ⟨x, y, T6, S, ?_, ?_⟩
  · rw [h1]
    unfold jX jF2 jW jup kA
    refine Prod.ext (funext fun a => funext fun j => ?_) rfl
    show (if a = m + 16 then _ else if a = m + 6 then _ else if a = m ∧ j = 12 then _ else if a = m ∧ j = 11 then _ else if a = m + 16 then _ else _) = (if a = m + 16 then _ else if a = m + 6 then _ else if a = m ∧ j = 12 then _ else if a = m ∧ j = 11 then _ else _)
    by_cases h : a = m + 16
    · rw [if_pos h, if_pos h]
    · rw [if_neg h, if_neg h, if_neg h]
  · rw [e] at h2
    rcases h2 with ⟨hv, h3, h4, h5, h6, h7, h8, hg⟩ | ⟨hv, h3, h4⟩
    · refine Or.inl ⟨hv, zxn_c hT hn hk ⟨⟨h4, by rw [h3]; rfl⟩, by rw [h3, h6, h7], h5, h8, hg⟩⟩
    · exact Or.inr ⟨hv, fun j hj => by rw [h3]; exact hT j hj, fun hc => h4 ((zcan_c hT9 hn hk).mpr hc)⟩
theorem zxn_c2 {q S T : Nat → Int} {n k : Nat} (h : ∀ j, j < 45 → T j = S j) (hk : k < 4) (hx : zxn q S n k) : zxn q T n k :=
  ⟨hx.1, by rw [h _ (by omega), h _ (by omega)]; exact hx.2.1, fun e he => by rw [h _ (by omega)]; exact hx.2.2.1 e he, fun j hj h1 h2 h3 => by rw [h j (by omega)]; exact hx.2.2.2.1 j hj h1 h2 h3, fun c hc => by rw [h _ (by omega)]; exact hx.2.2.2.2.1 c hc, fun i c hi hc hik => by rw [h _ (by omega)]; exact hx.2.2.2.2.2 i c hi hc hik⟩
/-- what stays: the seed and the past -/
def zkeep (w : jS) (m : Nat) (w1 : jS) : Prop := w1.1 (m + 1) = w.1 (m + 1) ∧ w1.1 m 15 = w.1 m 15 ∧ ∀ x, x < 8 → w1.1 (m + (8 + x)) = w.1 (m + (8 + x))
theorem zfin {w W2 w3 : jS} {m u : Nat} {T : Nat → Int} (h2 : mfr w m W2) (hk : zkeep w m W2) (hc : zcom W2 m u (W2.1 (m + 1)) w3) (hT : ∀ j, j < 45 → T j = w3.1 (m + 16) j) : mfr w m (kA w3 (m + 1) T) ∧ zpst w m u (w.1 (m + 1)) (kA w3 (m + 1) T) ∧ ∀ j, j < 45 → T j = W2.1 (m + 16) j := by
  obtain ⟨f1, f2, hg, hc⟩ := hc
  refine ⟨⟨hg.trans h2.1, fun a h0 h1 h6 hr => ?_, fun j h11 h12 h15 => ?_⟩, ?_, fun j hj => ?_⟩
  · exact (kA_f h1).trans ((f1 a h0 (fun x hx => by omega)).trans (h2.2.1 a h0 h1 h6 hr))
  · exact (kA_a (by omega)).trans ((f2 j h15).trans (h2.2.2 j h11 h12 h15))
  · rcases hc with ⟨a1, a2, a3, a4⟩ | ⟨a1, a2, a3, a4⟩
    · refine Or.inl ⟨a1, (kA_a (by omega)).trans a2, fun x hx => (kA_f (by omega)).trans ((a3 x hx).trans (hk.2.2 x (by omega))), fun c hc => (kA_a (by omega)).trans ((a4 c hc).trans (congrFun hk.1 c))⟩
    · refine Or.inr ⟨a1, (kA_a (by omega)).trans a2, fun x hx c hc => (kA_a (by omega)).trans ((a3 x hx c hc).trans (congrFun (hk.2.2 (x + 1) (by omega)) c)), fun c hc => (kA_a (by omega)).trans ((a4 c hc).trans (congrFun hk.1 c))⟩
  · exact (hT j hj).trans (congrFun (f1 (m + 16) (by omega) (fun x hx => by omega)) j)
set_option maxHeartbeats 4000000 in
set_option maxRecDepth 20000 in
theorem E_exchange {w : jS} {m : Nat} (hW : MW w.2 m) {n : Nat} (hS : zS (w.1 (m + 1)) n) {u : Nat} (hu : w.1 m 15 = (u : Int)) (hu8 : u ≤ 8) {i : Int} (hri : r32 i) : jCall 180 [jO m, jI i] w (fun v w1 => ((¬ (0 ≤ i ∧ i < (n : Int))) → jno w m 1 (jI (-1)) v w1) ∧ (¬ (¬ (0 ≤ i ∧ i < (n : Int))) → (¬ zcan (w.1 (m + 1)) n i.toNat) → v = some (jI (-6)) ∧ ∃ w2, mfr w m w2 ∧ zkeep w m w2 ∧ w1 = jW w2 (m + 3) 6 (w.1 (m + 3) 6 + 1)) ∧ (¬ (¬ (0 ≤ i ∧ i < (n : Int))) → ¬ (¬ zcan (w.1 (m + 1)) n i.toNat) → v = some (jI (w1.1 (m + 1) (21 + i.toNat))) ∧ mfr w m w1 ∧ zxn (w.1 (m + 1)) (w1.1 (m + 1)) n i.toNat ∧ zpst w m u (w.1 (m + 1)) w1)) := by
  have mt : jtb 180 = jT180 := rfl
  have hn2 := hS.n2
  have hn4 := hS.n4
  have hri1 : -2147483648 ≤ i ∧ i < 2147483648 := hri
  show jWp 180 0 [some (jO m), some (jI i)] [] 0 0 w _
  refine jWp.blk mt 2 ?_
  show _ ∧ jWp 180 2 [some (jO m), some (jI i)] [jI i, jO m] 0 0 w _
  refine ⟨rfl, ?_⟩
  refine jWp.callv (as := [jO m, jI i]) (rest := []) mt rfl rfl rfl ⟨rfl, jtg hW.K0⟩ ?_
  refine jCall.mono (E_isLetter hW hS hri) (fun v9 w9 h9 => ?_)
  rcases h9 with ⟨rfl, h9, h1⟩ | ⟨rfl, h9, h1⟩ <;> subst w9
  · have h1 : 0 ≤ i ∧ i < (n : Int) := h1
    show jWp 180 5 [some (jO m), some (jI i)] [jI 1] 0 0 w _
    obtain ⟨i1, rfl⟩ : ∃ i1 : Nat, i = (i1 : Int) := ⟨i.toNat, by omega⟩
    show jWp 180 5 [some (jO m), some (jI (i1 : Int))] [jI 1] 0 0 w _
    refine jWp.ifc (b := true) mt rfl (by decide) rfl ?_
    show jWp 180 14 [some (jO m), some (jI (i1 : Int))] [] 0 0 w _
    refine jWp.blk mt 1 ?_
    show _ ∧ jWp 180 15 [some (jO m), some (jI (i1 : Int))] [jO m] 0 0 w _
    refine ⟨rfl, ?_⟩
    refine jWp.getR (pc' := 18) (o := (m + 1)) mt rfl rfl (jtg hW.K0) hW.R0 ?_
    show jWp 180 18 [some (jO m), some (jI (i1 : Int))] [jO (m + 1)] 0 0 w _
    refine jWp.blk mt 1 ?_
    show _ ∧ jWp 180 19 [some (jO m), some (jI (i1 : Int))] [jO m, jO (m + 1)] 0 0 w _
    refine ⟨rfl, ?_⟩
    refine jWp.getR (pc' := 22) (o := (m + 16)) mt rfl rfl (jtg hW.K0) hW.R16 ?_
    show jWp 180 22 [some (jO m), some (jI (i1 : Int))] [jO (m + 16), jO (m + 1)] 0 0 w _
    refine jWp.calls (as := [jO (m + 1), jO (m + 16)]) (rest := []) mt rfl rfl rfl rfl ?_
    refine jCall.mono (E_copies (w := w) (a := m + 1) (q := m + 16) hW.K1 hW.K16 (by omega)) (fun v9 w9 h9 => ?_)
    obtain ⟨rfl, T2, h9, hT3⟩ := h9
    subst h9
    show jWp 180 25 [some (jO m), some (jI (i1 : Int))] [] 0 0 (kA w (m + 16) T2) _
    refine jWp.blk mt 2 ?_
    show _ ∧ _ ∧ jWp 180 27 [some (jO m), some (jI (i1 : Int))] [jO m, jO m] 0 0 (kA w (m + 16) T2) _
    refine ⟨rfl, rfl, ?_⟩
    refine jWp.getR (pc' := 30) (o := (m + 16)) mt rfl rfl (jtg hW.K0) hW.R16 ?_
    show jWp 180 30 [some (jO m), some (jI (i1 : Int))] [jO (m + 16), jO m] 0 0 (kA w (m + 16) T2) _
    refine jWp.blk mt 1 ?_
    show jWp 180 31 [some (jO m), some (jI (i1 : Int))] [jI (i1 : Int), jO (m + 16), jO m] 0 0 (kA w (m + 16) T2) _
    refine jWp.callv (as := [jO m, jO (m + 16), jI (i1 : Int)]) (rest := []) mt rfl rfl rfl ⟨rfl, jtg hW.K0⟩ ?_
    refine jCall.mono (E_xtried (q := w.1 (m + 1)) hW hS (by omega) hT3) (fun v9 w9 h9 => ?_)
    obtain ⟨x9, y9, T6, S9, h9, hh⟩ := h9
    subst h9
    rcases hh with ⟨rfl, hz⟩ | ⟨rfl, hzS, hz⟩
    · have hz' := hz
      show jWp 180 34 [some (jO m), some (jI (i1 : Int))] [jI 1] 0 0 (kA (kA (jF2 w m x9 y9) (m + 6) T6) (m + 16) S9) _
      refine jWp.ifc (b := true) mt rfl (by decide) rfl ?_
      show jWp 180 44 [some (jO m), some (jI (i1 : Int))] [] 0 0 (kA (kA (jF2 w m x9 y9) (m + 6) T6) (m + 16) S9) _
      refine jWp.blk mt 2 ?_
      show _ ∧ _ ∧ jWp 180 46 [some (jO m), some (jI (i1 : Int))] [jO m, jO m] 0 0 (kA (kA (jF2 w m x9 y9) (m + 6) T6) (m + 16) S9) _
      refine ⟨rfl, rfl, ?_⟩
      refine jWp.getR (pc' := 49) (o := (m + 1)) mt rfl rfl (jtg hW.K0) hW.R0 ?_
      show jWp 180 49 [some (jO m), some (jI (i1 : Int))] [jO (m + 1), jO m] 0 0 (kA (kA (jF2 w m x9 y9) (m + 6) T6) (m + 16) S9) _
      refine jWp.callv (as := [jO m, jO (m + 1)]) (rest := []) mt rfl rfl rfl ⟨rfl, jtg hW.K0⟩ ?_
      refine jCall.mono (E_comes (w := (kA (kA (jF2 w m x9 y9) (m + 6) T6) (m + 16) S9)) (u := u) (b := 1) hW (((kA_a (by omega)).trans ((kA_a (by omega)).trans ((jF2_k (by omega) (by omega)).trans rfl))).trans hu) hu8 hW.K1 (by decide) (Or.inl (by decide))) (fun v9 w9 h9 => ?_)
      obtain ⟨rfl, hzc⟩ := h9
      obtain ⟨M3, G3⟩ := w9
      have hg : G3 = w.2 := hzc.2.2.1
      subst hg
      show jWp 180 52 [some (jO m), some (jI (i1 : Int))] [] 0 0 (M3, w.2) _
      refine jWp.blk mt 1 ?_
      show _ ∧ jWp 180 53 [some (jO m), some (jI (i1 : Int))] [jO m] 0 0 (M3, w.2) _
      refine ⟨rfl, ?_⟩
      refine jWp.getR (pc' := 56) (o := (m + 16)) mt rfl rfl (jtg hW.K0) hW.R16 ?_
      show jWp 180 56 [some (jO m), some (jI (i1 : Int))] [jO (m + 16)] 0 0 (M3, w.2) _
      refine jWp.blk mt 1 ?_
      show _ ∧ jWp 180 57 [some (jO m), some (jI (i1 : Int))] [jO m, jO (m + 16)] 0 0 (M3, w.2) _
      refine ⟨rfl, ?_⟩
      refine jWp.getR (pc' := 60) (o := (m + 1)) mt rfl rfl (jtg hW.K0) hW.R0 ?_
      show jWp 180 60 [some (jO m), some (jI (i1 : Int))] [jO (m + 1), jO (m + 16)] 0 0 (M3, w.2) _
      refine jWp.calls (as := [jO (m + 16), jO (m + 1)]) (rest := []) mt rfl rfl rfl rfl ?_
      refine jCall.mono (E_copies (w := (M3, w.2)) (a := m + 16) (q := m + 1) hW.K16 hW.K1 (by omega)) (fun v9 w9 h9 => ?_)
      obtain ⟨rfl, T4, h9, hT5⟩ := h9
      subst h9
      show jWp 180 63 [some (jO m), some (jI (i1 : Int))] [] 0 0 (kA (M3, w.2) (m + 1) T4) _
      refine jWp.blk mt 1 ?_
      show _ ∧ jWp 180 64 [some (jO m), some (jI (i1 : Int))] [jO m] 0 0 (kA (M3, w.2) (m + 1) T4) _
      refine ⟨rfl, ?_⟩
      refine jWp.getR (pc' := 67) (o := (m + 1)) mt rfl rfl (jtg hW.K0) hW.R0 ?_
      show jWp 180 67 [some (jO m), some (jI (i1 : Int))] [jO (m + 1)] 0 0 (kA (M3, w.2) (m + 1) T4) _
      refine jWp.blk mt 3 ?_
      show jWp 180 71 [some (jO m), some (jI (i1 : Int))] [jI (21 + (i1 : Int)), jO (m + 1)] 0 0 (kA (M3, w.2) (m + 1) T4) _
      refine jWp.lald (pc' := 72) (j := (21 + i1)) mt rfl rfl (jtg hW.K1) (by rw [b32_id (by omega) (by omega)] <;> omega) (jlt hW.K1 (by omega)) ?_
      rw [show ((kA (M3, w.2) (m + 1) T4).1 (m + 1) (21 + i1)) = (T4 (21 + i1)) from kA_s]
      show jWp 180 72 [some (jO m), some (jI (i1 : Int))] [jJ (T4 (21 + i1))] 0 0 (kA (M3, w.2) (m + 1) T4) _
      refine jWp.blk mt 1 ?_
      show jWp 180 73 [some (jO m), some (jI (i1 : Int))] [jI (T4 (21 + i1))] 0 0 (kA (M3, w.2) (m + 1) T4) _
      refine jWp.ireti mt rfl ⟨rfl, rfl⟩ rfl ?_
      have hZ := zfin (⟨rfl, fun a h0 h1 h6 hr => (kA_f (by omega)).trans ((kA_f h6).trans (jF2_f h0)), fun j h11 h12 h15 => (kA_a (by omega)).trans ((kA_a (by omega)).trans (jF2_k h11 h12))⟩ : mfr w m (kA (kA (jF2 w m x9 y9) (m + 6) T6) (m + 16) S9)) (⟨(kA_f (by omega)).trans ((kA_f (by omega)).trans (jF2_f (by omega))), (kA_a (by omega)).trans ((kA_a (by omega)).trans (jF2_k (by decide) (by decide))), fun x hx => (kA_f (by omega)).trans ((kA_f (by omega)).trans (jF2_f (by omega)))⟩ : zkeep w m (kA (kA (jF2 w m x9 y9) (m + 6) T6) (m + 16) S9)) hzc hT5
      refine ⟨fun c0 => ?_, fun c0 c1 => ?_, fun c0 c1 => ?_⟩
      · exfalso; omega
      · exact absurd hz.1 c1
      · exact ⟨by rw [kA_s]; rfl, hZ.1, by rw [kA_fs]; exact zxn_c2 (fun j hj => (hZ.2.2 j hj).trans kA_s) (by omega) hz, hZ.2.1⟩
    · have hz' := hz
      show jWp 180 34 [some (jO m), some (jI (i1 : Int))] [jI 0] 0 0 (kA (kA (jF2 w m x9 y9) (m + 6) T6) (m + 16) S9) _
      refine jWp.ifc (b := false) mt rfl (by decide) rfl ?_
      show jWp 180 37 [some (jO m), some (jI (i1 : Int))] [] 0 0 (kA (kA (jF2 w m x9 y9) (m + 6) T6) (m + 16) S9) _
      refine jWp.blk mt 2 ?_
      show _ ∧ jWp 180 40 [some (jO m), some (jI (i1 : Int))] [jI (-6), jO m] 0 0 (kA (kA (jF2 w m x9 y9) (m + 6) T6) (m + 16) S9) _
      refine ⟨rfl, ?_⟩
      refine jWp.callv (as := [jO m, jI (-6)]) (rest := []) mt rfl rfl rfl ⟨rfl, jtg hW.K0⟩ ?_
      refine jCall.mono (E_refuses (w := (kA (kA (jF2 w m x9 y9) (m + 6) T6) (m + 16) S9)) (j := 6) hW (by decide) (by decide)) (fun v9 w9 h9 => ?_)
      obtain ⟨rfl, h9⟩ := h9
      subst h9
      rw [show (kA (kA (jF2 w m x9 y9) (m + 6) T6) (m + 16) S9).1 (m + 3) 6 = (w.1 (m + 3) 6) from ((kA_a (by omega)).trans ((kA_a (by omega)).trans ((jF2_a (by omega)).trans rfl)))]
      show jWp 180 43 [some (jO m), some (jI (i1 : Int))] [jI (-6)] 0 0 (jW (kA (kA (jF2 w m x9 y9) (m + 6) T6) (m + 16) S9) (m + 3) 6 ((w.1 (m + 3) 6) + 1)) _
      refine jWp.ireti mt rfl ⟨rfl, rfl⟩ rfl ?_
      refine ⟨fun c0 => ?_, fun c0 c1 => ?_, fun c0 c1 => ?_⟩
      · exfalso; omega
      · exact ⟨rfl, (kA (kA (jF2 w m x9 y9) (m + 6) T6) (m + 16) S9), (⟨rfl, fun a h0 h1 h6 hr => (kA_f (by omega)).trans ((kA_f h6).trans (jF2_f h0)), fun j h11 h12 h15 => (kA_a (by omega)).trans ((kA_a (by omega)).trans (jF2_k h11 h12))⟩ : mfr w m (kA (kA (jF2 w m x9 y9) (m + 6) T6) (m + 16) S9)), (⟨(kA_f (by omega)).trans ((kA_f (by omega)).trans (jF2_f (by omega))), (kA_a (by omega)).trans ((kA_a (by omega)).trans (jF2_k (by decide) (by decide))), fun x hx => (kA_f (by omega)).trans ((kA_f (by omega)).trans (jF2_f (by omega)))⟩ : zkeep w m (kA (kA (jF2 w m x9 y9) (m + 6) T6) (m + 16) S9)), rfl⟩
      · exact absurd c1 (fun h => h hz)
  · have h1 : ¬ (0 ≤ i ∧ i < (n : Int)) := h1
    show jWp 180 5 [some (jO m), some (jI i)] [jI 0] 0 0 w _
    refine jWp.ifc (b := false) mt rfl (by decide) rfl ?_
    show jWp 180 8 [some (jO m), some (jI i)] [] 0 0 w _
    refine jWp.blk mt 2 ?_
    show _ ∧ jWp 180 10 [some (jO m), some (jI i)] [jI (-1), jO m] 0 0 w _
    refine ⟨rfl, ?_⟩
    refine jWp.callv (as := [jO m, jI (-1)]) (rest := []) mt rfl rfl rfl ⟨rfl, jtg hW.K0⟩ ?_
    refine jCall.mono (E_refuses (w := w) (j := 1) hW (by decide) (by decide)) (fun v9 w9 h9 => ?_)
    obtain ⟨rfl, h9⟩ := h9
    subst h9
    show jWp 180 13 [some (jO m), some (jI i)] [jI (-1)] 0 0 (jW w (m + 3) 1 ((w.1 (m + 3) 1) + 1)) _
    refine jWp.ireti mt rfl ⟨rfl, rfl⟩ rfl ?_
    refine ⟨fun c0 => ?_, fun c0 c1 => ?_, fun c0 c1 => ?_⟩
    · exact ⟨rfl, rfl⟩
    · exfalso; omega
    · exfalso; omega
end
section
/-- a seed of so many letters, all new -/
def znew (S : Nat → Int) (n : Nat) : Prop := S 0 = (n : Int) ∧ (∀ j, j < 16 → S (1 + j) = 0) ∧ (∀ i, i < 4 → S (17 + i) = 1 ∧ S (21 + i) = 1 ∧ S (25 + i) = 1) ∧ (∀ i c, i < 4 → c < 4 → S (29 + 4 * i + c) = if i = c then -1 else 0)
theorem znew_S {S : Nat → Int} {n : Nat} (h : znew S n) (h2 : 2 ≤ n) (h4 : n ≤ 4) : zS S n :=
  ⟨h.1, h2, h4, fun i hi => by rw [(h.2.2.1 i hi).2.1, (h.2.2.1 i hi).2.2]; decide, fun j hj => by rw [h.2.1 j hj]; decide⟩
/-- only the seed is new, and nothing can be undone -/
def znw (w : jS) (m : Nat) (w1 : jS) : Prop := w1.2 = w.2 ∧ (∀ a, a ≠ m → a ≠ m + 1 → w1.1 a = w.1 a) ∧ w1.1 m 15 = 0 ∧ ∀ j, j ≠ 15 → w1.1 m j = w.1 m j
theorem znw_k {w : jS} {m : Nat} {S : Nat → Int} : znw w m (jW (kA w (m + 1) S) m 15 0) :=
  ⟨rfl, fun a h0 h1 => (jW_f h0).trans (kA_f h1), jW_s, fun j hj => (jW_k hj).trans (kA_a (by omega))⟩
theorem zbg_S {q S : Nat → Int} {n : Nat} (hS : zS q n) (hs : ∀ i, i < 4 → 1 ≤ q (17 + i) ∧ q (17 + i) ≤ 9) (h : zbg q S) : zS S n :=
  ⟨(h.1 0 (by omega)).trans hS.n0, hS.n2, hS.n4, fun i hi => by have := hs i hi; rw [(h.2.1 i hi).1, (h.2.1 i hi).2]; exact ⟨this.1, by show q (17 + i) ≤ 1000000000; omega, (by decide : (1 : Int) ≤ 1), (by decide : (1 : Int) ≤ 1000000000)⟩, fun j hj => by rw [h.1 (1 + j) (by omega)]; exact hS.b j hj⟩
set_option maxHeartbeats 4000000 in
set_option maxRecDepth 20000 in
theorem E_empties {w : jS} {m : Nat} (hW : MW w.2 m) {n : Nat} (hn : n ≤ 4) : jCall 161 [jO m, jI (n : Int)] w (fun v w1 => v = none ∧ ∃ S, w1 = jW (kA w (m + 1) S) m 15 0 ∧ znew S n) := by
  have mt : jtb 161 = jT161 := rfl
  show jWp 161 0 [some (jO m), some (jI (n : Int))] [] 0 0 w _
  refine jWp.blk mt 2 ?_
  show _ ∧ _ ∧ jWp 161 2 [some (jO m), some (jI (n : Int))] [jO m, jO m] 0 0 w _
  refine ⟨rfl, rfl, ?_⟩
  refine jWp.getR (pc' := 5) (o := (m + 1)) mt rfl rfl (jtg hW.K0) hW.R0 ?_
  show jWp 161 5 [some (jO m), some (jI (n : Int))] [jO (m + 1), jO m] 0 0 w _
  refine jWp.blk mt 1 ?_
  show jWp 161 6 [some (jO m), some (jI (n : Int))] [jI (n : Int), jO (m + 1), jO m] 0 0 w _
  refine jWp.callv (as := [jO m, jO (m + 1), jI (n : Int)]) (rest := []) mt rfl rfl rfl ⟨rfl, jtg hW.K0⟩ ?_
  refine jCall.mono (E_tells (w := w) (n := n) (M0 := (0, 0)) hW.K0 hW.K1 (by omega)) (fun v9 w9 h9 => ?_)
  obtain ⟨rfl, S9, h9, hS9⟩ := h9
  subst h9
  show jWp 161 9 [some (jO m), some (jI (n : Int))] [] 0 0 (kA w (m + 1) S9) _
  refine jWp.blk mt 2 ?_
  show _ ∧ jWp 161 11 [some (jO m), some (jI (n : Int))] [jI 0, jO m] 0 0 (kA w (m + 1) S9) _
  refine ⟨rfl, ?_⟩
  refine jWp.putI (pc' := 14) mt rfl rfl (jtg hW.K0) ?_
  show jWp 161 14 [some (jO m), some (jI (n : Int))] [] 0 0 (jW (kA w (m + 1) S9) m 15 0) _
  refine jWp.vret mt rfl ⟨rfl, rfl⟩ rfl ?_
  exact ⟨rfl, S9, rfl, hS9⟩
set_option maxHeartbeats 4000000 in
set_option maxRecDepth 20000 in
theorem E_seed {w : jS} {m : Nat} (hW : MW w.2 m) {n : Nat} (hS : zS (w.1 (m + 1)) n) {i : Int} (hri : r32 i) : jCall 166 [jO m, jI i] w (fun v w1 => ((i < 2) → jno w m 4 (jI (-4)) v w1) ∧ (¬ (i < 2) → (4 < i) → jno w m 6 (jI (-6)) v w1) ∧ (¬ (i < 2) → ¬ (4 < i) → v = some (jI (n : Int)) ∧ znw w m w1 ∧ znew (w1.1 (m + 1)) i.toNat)) := by
  have mt : jtb 166 = jT166 := rfl
  have hn2 := hS.n2
  have hn4 := hS.n4
  have hri1 : -2147483648 ≤ i ∧ i < 2147483648 := hri
  show jWp 166 0 [some (jO m), some (jI i), none] [] 0 0 w _
  refine jWp.blk mt 2 ?_
  show jWp 166 2 [some (jO m), some (jI i), none] [jI 2, jI i] 0 0 w _
  refine jWp.icmp (pc' := 5) mt rfl rfl (b32_id (by omega) (by omega)) (show b32 2 = 2 by decide) (fun h1 => ?_) (fun h1 => ?_)
  · have h1 : 2 ≤ i := h1
    refine jWp.blk mt 2 ?_
    show jWp 166 14 [some (jO m), some (jI i), none] [jI 4, jI i] 0 0 w _
    refine jWp.icmp (pc' := 17) mt rfl rfl (b32_id (by omega) (by omega)) (show b32 4 = 4 by decide) (fun h2 => ?_) (fun h2 => ?_)
    · have h2 : i ≤ 4 := h2
      obtain ⟨i1, rfl⟩ : ∃ i1 : Nat, i = (i1 : Int) := ⟨i.toNat, by omega⟩
      show jWp 166 24 [some (jO m), some (jI (i1 : Int)), none] [] 0 0 w _
      refine jWp.blk mt 1 ?_
      show _ ∧ jWp 166 25 [some (jO m), some (jI (i1 : Int)), none] [jO m] 0 0 w _
      refine ⟨rfl, ?_⟩
      refine jWp.getR (pc' := 28) (o := (m + 1)) mt rfl rfl (jtg hW.K0) hW.R0 ?_
      show jWp 166 28 [some (jO m), some (jI (i1 : Int)), none] [jO (m + 1)] 0 0 w _
      refine jWp.blk mt 1 ?_
      show jWp 166 29 [some (jO m), some (jI (i1 : Int)), none] [jI 0, jO (m + 1)] 0 0 w _
      refine jWp.lald (pc' := 30) (j := 0) mt rfl rfl (jtg hW.K1) (by decide) (jlt hW.K1 (by decide)) ?_
      rw [show (w.1 (m + 1) 0) = (n : Int) from hS.n0]
      show jWp 166 30 [some (jO m), some (jI (i1 : Int)), none] [jJ (n : Int)] 0 0 w _
      refine jWp.blk mt 4 ?_
      show _ ∧ jWp 166 34 [some (jO m), some (jI (i1 : Int)), some (jI (n : Int))] [jI (i1 : Int), jO m] 0 0 w _
      refine ⟨rfl, ?_⟩
      refine jWp.callv (as := [jO m, jI (i1 : Int)]) (rest := []) mt rfl rfl rfl ⟨rfl, jtg hW.K0⟩ ?_
      refine jCall.mono (E_empties (w := w) (n := i1) hW (by omega)) (fun v9 w9 h9 => ?_)
      obtain ⟨rfl, S9, h9, hS9⟩ := h9
      subst h9
      show jWp 166 37 [some (jO m), some (jI (i1 : Int)), some (jI (n : Int))] [] 0 0 (jW (kA w (m + 1) S9) m 15 0) _
      refine jWp.blk mt 1 ?_
      show jWp 166 38 [some (jO m), some (jI (i1 : Int)), some (jI (n : Int))] [jI (n : Int)] 0 0 (jW (kA w (m + 1) S9) m 15 0) _
      refine jWp.ireti mt rfl ⟨rfl, rfl⟩ rfl ?_
      refine ⟨fun c0 => ?_, fun c0 c1 => ?_, fun c0 c1 => ?_⟩
      all_goals first
      | (exfalso; omega)
      | exact ⟨rfl, rfl⟩
      | exact ⟨rfl, znw_k, by rw [jW_f (by omega), kA_fs]; exact hS9⟩
    · have h2 : 4 < i := h2
      refine jWp.blk mt 2 ?_
      show _ ∧ jWp 166 20 [some (jO m), some (jI i), none] [jI (-6), jO m] 0 0 w _
      refine ⟨rfl, ?_⟩
      refine jWp.callv (as := [jO m, jI (-6)]) (rest := []) mt rfl rfl rfl ⟨rfl, jtg hW.K0⟩ ?_
      refine jCall.mono (E_refuses (w := w) (j := 6) hW (by decide) (by decide)) (fun v9 w9 h9 => ?_)
      obtain ⟨rfl, h9⟩ := h9
      subst h9
      show jWp 166 23 [some (jO m), some (jI i), none] [jI (-6)] 0 0 (jW w (m + 3) 6 ((w.1 (m + 3) 6) + 1)) _
      refine jWp.ireti mt rfl ⟨rfl, rfl⟩ rfl ?_
      refine ⟨fun c0 => ?_, fun c0 c1 => ?_, fun c0 c1 => ?_⟩
      all_goals first
      | (exfalso; omega)
      | exact ⟨rfl, rfl⟩
      | exact ⟨rfl, znw_k, by rw [jW_f (by omega), kA_fs]; exact hS9⟩
  · have h1 : i < 2 := h1
    refine jWp.blk mt 2 ?_
    show _ ∧ jWp 166 8 [some (jO m), some (jI i), none] [jI (-4), jO m] 0 0 w _
    refine ⟨rfl, ?_⟩
    refine jWp.callv (as := [jO m, jI (-4)]) (rest := []) mt rfl rfl rfl ⟨rfl, jtg hW.K0⟩ ?_
    refine jCall.mono (E_refuses (w := w) (j := 4) hW (by decide) (by decide)) (fun v9 w9 h9 => ?_)
    obtain ⟨rfl, h9⟩ := h9
    subst h9
    show jWp 166 11 [some (jO m), some (jI i), none] [jI (-4)] 0 0 (jW w (m + 3) 4 ((w.1 (m + 3) 4) + 1)) _
    refine jWp.ireti mt rfl ⟨rfl, rfl⟩ rfl ?_
    refine ⟨fun c0 => ?_, fun c0 c1 => ?_, fun c0 c1 => ?_⟩
    all_goals first
    | (exfalso; omega)
    | exact ⟨rfl, rfl⟩
    | exact ⟨rfl, znw_k, by rw [jW_f (by omega), kA_fs]; exact hS9⟩
set_option maxHeartbeats 4000000 in
set_option maxRecDepth 20000 in
theorem E_table {w : jS} {m : Nat} (hW : MW w.2 m) {n : Nat} (hS : zS (w.1 (m + 1)) n) {i j v : Int} (hri : r32 i) (hrj : r32 j) (hrv : r32 v) : jCall 168 [jO m, jI i, jI j, jI v] w (fun x w1 => ((¬ (0 ≤ i ∧ i < (n : Int)) ∨ ¬ (0 ≤ j ∧ j < (n : Int)) ∨ i = j) → jno w m 1 (jI (1000000000 - (-1))) x w1) ∧ (¬ (¬ (0 ≤ i ∧ i < (n : Int)) ∨ ¬ (0 ≤ j ∧ j < (n : Int)) ∨ i = j) → (v < -9) → jno w m 4 (jI (1000000000 - (-4))) x w1) ∧ (¬ (¬ (0 ≤ i ∧ i < (n : Int)) ∨ ¬ (0 ≤ j ∧ j < (n : Int)) ∨ i = j) → ¬ (v < -9) → (9 < v) → jno w m 6 (jI (1000000000 - (-6))) x w1) ∧ (¬ (¬ (0 ≤ i ∧ i < (n : Int)) ∨ ¬ (0 ≤ j ∧ j < (n : Int)) ∨ i = j) → ¬ (v < -9) → ¬ (9 < v) → x = some (jI (w.1 (m + 1) (1 + (4 * i.toNat + j.toNat)))) ∧ znw w m w1 ∧ zbg (zset (zset (w.1 (m + 1)) (1 + (4 * i.toNat + j.toNat)) v) (1 + (4 * j.toNat + i.toNat)) (-v)) (w1.1 (m + 1)))) := by
  have mt : jtb 168 = jT168 := rfl
  have hn2 := hS.n2
  have hn4 := hS.n4
  have hri1 : -2147483648 ≤ i ∧ i < 2147483648 := hri
  have hrj1 : -2147483648 ≤ j ∧ j < 2147483648 := hrj
  have hrv1 : -2147483648 ≤ v ∧ v < 2147483648 := hrv
  show jWp 168 0 [some (jO m), some (jI i), some (jI j), some (jI v), none] [] 0 0 w _
  refine jWp.blk mt 2 ?_
  show _ ∧ jWp 168 2 [some (jO m), some (jI i), some (jI j), some (jI v), none] [jI i, jO m] 0 0 w _
  refine ⟨rfl, ?_⟩
  refine jWp.callv (as := [jO m, jI i]) (rest := []) mt rfl rfl rfl ⟨rfl, jtg hW.K0⟩ ?_
  refine jCall.mono (E_isLetter hW hS hri) (fun v9 w9 h9 => ?_)
  rcases h9 with ⟨rfl, h9, h1⟩ | ⟨rfl, h9, h1⟩ <;> subst w9
  · have h1 : 0 ≤ i ∧ i < (n : Int) := h1
    show jWp 168 5 [some (jO m), some (jI i), some (jI j), some (jI v), none] [jI 1] 0 0 w _
    obtain ⟨i1, rfl⟩ : ∃ i1 : Nat, i = (i1 : Int) := ⟨i.toNat, by omega⟩
    show jWp 168 5 [some (jO m), some (jI (i1 : Int)), some (jI j), some (jI v), none] [jI 1] 0 0 w _
    refine jWp.ifc (b := false) mt rfl (by decide) rfl ?_
    show jWp 168 8 [some (jO m), some (jI (i1 : Int)), some (jI j), some (jI v), none] [] 0 0 w _
    refine jWp.blk mt 2 ?_
    show _ ∧ jWp 168 10 [some (jO m), some (jI (i1 : Int)), some (jI j), some (jI v), none] [jI j, jO m] 0 0 w _
    refine ⟨rfl, ?_⟩
    refine jWp.callv (as := [jO m, jI j]) (rest := []) mt rfl rfl rfl ⟨rfl, jtg hW.K0⟩ ?_
    refine jCall.mono (E_isLetter hW hS hrj) (fun v9 w9 h9 => ?_)
    rcases h9 with ⟨rfl, h9, h2⟩ | ⟨rfl, h9, h2⟩ <;> subst w9
    · have h2 : 0 ≤ j ∧ j < (n : Int) := h2
      show jWp 168 13 [some (jO m), some (jI (i1 : Int)), some (jI j), some (jI v), none] [jI 1] 0 0 w _
      obtain ⟨j1, rfl⟩ : ∃ j1 : Nat, j = (j1 : Int) := ⟨j.toNat, by omega⟩
      show jWp 168 13 [some (jO m), some (jI (i1 : Int)), some (jI (j1 : Int)), some (jI v), none] [jI 1] 0 0 w _
      refine jWp.ifc (b := false) mt rfl (by decide) rfl ?_
      show jWp 168 16 [some (jO m), some (jI (i1 : Int)), some (jI (j1 : Int)), some (jI v), none] [] 0 0 w _
      refine jWp.blk mt 2 ?_
      show jWp 168 18 [some (jO m), some (jI (i1 : Int)), some (jI (j1 : Int)), some (jI v), none] [jI (j1 : Int), jI (i1 : Int)] 0 0 w _
      refine jWp.icmp (pc' := 21) mt rfl rfl (b32_id (by omega) (by omega)) (b32_id (by omega) (by omega)) (fun h3 => ?_) (fun h3 => ?_)
      · have h3 : (i1 : Int) ≠ (j1 : Int) := h3
        refine jWp.blk mt 2 ?_
        show jWp 168 30 [some (jO m), some (jI (i1 : Int)), some (jI (j1 : Int)), some (jI v), none] [jI (-9), jI v] 0 0 w _
        refine jWp.icmp (pc' := 33) mt rfl rfl (b32_id (by omega) (by omega)) (show b32 (-9) = (-9) by decide) (fun h4 => ?_) (fun h4 => ?_)
        · have h4 : (-9) ≤ v := h4
          refine jWp.blk mt 2 ?_
          show jWp 168 43 [some (jO m), some (jI (i1 : Int)), some (jI (j1 : Int)), some (jI v), none] [jI 9, jI v] 0 0 w _
          refine jWp.icmp (pc' := 46) mt rfl rfl (b32_id (by omega) (by omega)) (show b32 9 = 9 by decide) (fun h5 => ?_) (fun h5 => ?_)
          · have h5 : v ≤ 9 := h5
            refine jWp.blk mt 1 ?_
            show _ ∧ jWp 168 54 [some (jO m), some (jI (i1 : Int)), some (jI (j1 : Int)), some (jI v), none] [jO m] 0 0 w _
            refine ⟨rfl, ?_⟩
            refine jWp.getR (pc' := 57) (o := (m + 1)) mt rfl rfl (jtg hW.K0) hW.R0 ?_
            show jWp 168 57 [some (jO m), some (jI (i1 : Int)), some (jI (j1 : Int)), some (jI v), none] [jO (m + 1)] 0 0 w _
            refine jWp.blk mt 2 ?_
            show jWp 168 59 [some (jO m), some (jI (i1 : Int)), some (jI (j1 : Int)), some (jI v), none] [jI (j1 : Int), jI (i1 : Int), jO (m + 1)] 0 0 w _
            refine jWp.calls (as := [jO (m + 1), jI (i1 : Int), jI (j1 : Int)]) (rest := []) mt rfl rfl rfl rfl ?_
            refine jCall.mono (E_b (w := w) (i := i1) (k := j1) hW.K1 (by omega) (by omega) (by omega)) (fun v9 w9 h9 => ?_)
            obtain ⟨rfl, h9⟩ := h9
            subst w9
            show jWp 168 62 [some (jO m), some (jI (i1 : Int)), some (jI (j1 : Int)), some (jI v), none] [jJ (w.1 (m + 1) (1 + (4 * i1 + j1)))] 0 0 w _
            refine jWp.blk mt 4 ?_
            show _ ∧ _ ∧ jWp 168 67 [some (jO m), some (jI (i1 : Int)), some (jI (j1 : Int)), some (jI v), some (jI (w.1 (m + 1) (1 + (4 * i1 + j1))))] [jO m, jO m] 0 0 w _
            refine ⟨rfl, rfl, ?_⟩
            refine jWp.getR (pc' := 70) (o := (m + 1)) mt rfl rfl (jtg hW.K0) hW.R0 ?_
            show jWp 168 70 [some (jO m), some (jI (i1 : Int)), some (jI (j1 : Int)), some (jI v), some (jI (w.1 (m + 1) (1 + (4 * i1 + j1))))] [jO (m + 1), jO m] 0 0 w _
            refine jWp.blk mt 3 ?_
            show jWp 168 73 [some (jO m), some (jI (i1 : Int)), some (jI (j1 : Int)), some (jI v), some (jI (w.1 (m + 1) (1 + (4 * i1 + j1))))] [jI v, jI (j1 : Int), jI (i1 : Int), jO (m + 1), jO m] 0 0 w _
            refine jWp.callv (as := [jO m, jO (m + 1), jI (i1 : Int), jI (j1 : Int), jI v]) (rest := []) mt rfl rfl rfl ⟨rfl, jtg hW.K0⟩ ?_
            refine jCall.mono (E_puts (w := w) (i := i1) (j := j1) hW.K0 hW.K1 (by omega) (by omega) (by omega)) (fun v9 w9 h9 => ?_)
            obtain ⟨rfl, S9, h9, hS9⟩ := h9
            subst h9
            show jWp 168 76 [some (jO m), some (jI (i1 : Int)), some (jI (j1 : Int)), some (jI v), some (jI (w.1 (m + 1) (1 + (4 * i1 + j1))))] [] 0 0 (kA w (m + 1) S9) _
            refine jWp.blk mt 2 ?_
            show _ ∧ jWp 168 78 [some (jO m), some (jI (i1 : Int)), some (jI (j1 : Int)), some (jI v), some (jI (w.1 (m + 1) (1 + (4 * i1 + j1))))] [jI 0, jO m] 0 0 (kA w (m + 1) S9) _
            refine ⟨rfl, ?_⟩
            refine jWp.putI (pc' := 81) mt rfl rfl (jtg hW.K0) ?_
            show jWp 168 81 [some (jO m), some (jI (i1 : Int)), some (jI (j1 : Int)), some (jI v), some (jI (w.1 (m + 1) (1 + (4 * i1 + j1))))] [] 0 0 (jW (kA w (m + 1) S9) m 15 0) _
            refine jWp.blk mt 1 ?_
            show jWp 168 83 [some (jO m), some (jI (i1 : Int)), some (jI (j1 : Int)), some (jI v), some (jI (w.1 (m + 1) (1 + (4 * i1 + j1))))] [jI (w.1 (m + 1) (1 + (4 * i1 + j1)))] 0 0 (jW (kA w (m + 1) S9) m 15 0) _
            refine jWp.ireti mt rfl ⟨rfl, rfl⟩ rfl ?_
            refine ⟨fun c0 => ?_, fun c0 c1 => ?_, fun c0 c1 c2 => ?_, fun c0 c1 c2 => ?_⟩
            all_goals first
            | (exfalso; omega)
            | exact ⟨rfl, rfl⟩
            | exact ⟨rfl, znw_k, by rw [jW_f (by omega), kA_fs]; exact hS9⟩
          · have h5 : 9 < v := h5
            refine jWp.blk mt 2 ?_
            show _ ∧ jWp 168 49 [some (jO m), some (jI (i1 : Int)), some (jI (j1 : Int)), some (jI v), none] [jI (-6), jO m] 0 0 w _
            refine ⟨rfl, ?_⟩
            refine jWp.callv (as := [jO m, jI (-6)]) (rest := []) mt rfl rfl rfl ⟨rfl, jtg hW.K0⟩ ?_
            refine jCall.mono (E_far (w := w) (j := 6) hW (by decide) (by decide)) (fun v9 w9 h9 => ?_)
            obtain ⟨rfl, h9⟩ := h9
            subst h9
            show jWp 168 52 [some (jO m), some (jI (i1 : Int)), some (jI (j1 : Int)), some (jI v), none] [jI (1000000000 - (-6))] 0 0 (jW w (m + 3) 6 ((w.1 (m + 3) 6) + 1)) _
            refine jWp.ireti mt rfl ⟨rfl, rfl⟩ rfl ?_
            refine ⟨fun c0 => ?_, fun c0 c1 => ?_, fun c0 c1 c2 => ?_, fun c0 c1 c2 => ?_⟩
            all_goals first
            | (exfalso; omega)
            | exact ⟨rfl, rfl⟩
            | exact ⟨rfl, znw_k, by rw [jW_f (by omega), kA_fs]; exact hS9⟩
        · have h4 : v < (-9) := h4
          refine jWp.blk mt 2 ?_
          show _ ∧ jWp 168 36 [some (jO m), some (jI (i1 : Int)), some (jI (j1 : Int)), some (jI v), none] [jI (-4), jO m] 0 0 w _
          refine ⟨rfl, ?_⟩
          refine jWp.callv (as := [jO m, jI (-4)]) (rest := []) mt rfl rfl rfl ⟨rfl, jtg hW.K0⟩ ?_
          refine jCall.mono (E_far (w := w) (j := 4) hW (by decide) (by decide)) (fun v9 w9 h9 => ?_)
          obtain ⟨rfl, h9⟩ := h9
          subst h9
          show jWp 168 39 [some (jO m), some (jI (i1 : Int)), some (jI (j1 : Int)), some (jI v), none] [jI (1000000000 - (-4))] 0 0 (jW w (m + 3) 4 ((w.1 (m + 3) 4) + 1)) _
          refine jWp.ireti mt rfl ⟨rfl, rfl⟩ rfl ?_
          refine ⟨fun c0 => ?_, fun c0 c1 => ?_, fun c0 c1 c2 => ?_, fun c0 c1 c2 => ?_⟩
          all_goals first
          | (exfalso; omega)
          | exact ⟨rfl, rfl⟩
          | exact ⟨rfl, znw_k, by rw [jW_f (by omega), kA_fs]; exact hS9⟩
      · have h3 : (i1 : Int) = (j1 : Int) := h3
        refine jWp.blk mt 2 ?_
        show _ ∧ jWp 168 23 [some (jO m), some (jI (i1 : Int)), some (jI (j1 : Int)), some (jI v), none] [jI (-1), jO m] 0 0 w _
        refine ⟨rfl, ?_⟩
        refine jWp.callv (as := [jO m, jI (-1)]) (rest := []) mt rfl rfl rfl ⟨rfl, jtg hW.K0⟩ ?_
        refine jCall.mono (E_far (w := w) (j := 1) hW (by decide) (by decide)) (fun v9 w9 h9 => ?_)
        obtain ⟨rfl, h9⟩ := h9
        subst h9
        show jWp 168 26 [some (jO m), some (jI (i1 : Int)), some (jI (j1 : Int)), some (jI v), none] [jI (1000000000 - (-1))] 0 0 (jW w (m + 3) 1 ((w.1 (m + 3) 1) + 1)) _
        refine jWp.ireti mt rfl ⟨rfl, rfl⟩ rfl ?_
        refine ⟨fun c0 => ?_, fun c0 c1 => ?_, fun c0 c1 c2 => ?_, fun c0 c1 c2 => ?_⟩
        all_goals first
        | (exfalso; omega)
        | exact ⟨rfl, rfl⟩
        | exact ⟨rfl, znw_k, by rw [jW_f (by omega), kA_fs]; exact hS9⟩
    · have h2 : ¬ (0 ≤ j ∧ j < (n : Int)) := h2
      show jWp 168 13 [some (jO m), some (jI (i1 : Int)), some (jI j), some (jI v), none] [jI 0] 0 0 w _
      refine jWp.ifc (b := true) mt rfl (by decide) rfl ?_
      show jWp 168 21 [some (jO m), some (jI (i1 : Int)), some (jI j), some (jI v), none] [] 0 0 w _
      refine jWp.blk mt 2 ?_
      show _ ∧ jWp 168 23 [some (jO m), some (jI (i1 : Int)), some (jI j), some (jI v), none] [jI (-1), jO m] 0 0 w _
      refine ⟨rfl, ?_⟩
      refine jWp.callv (as := [jO m, jI (-1)]) (rest := []) mt rfl rfl rfl ⟨rfl, jtg hW.K0⟩ ?_
      refine jCall.mono (E_far (w := w) (j := 1) hW (by decide) (by decide)) (fun v9 w9 h9 => ?_)
      obtain ⟨rfl, h9⟩ := h9
      subst h9
      show jWp 168 26 [some (jO m), some (jI (i1 : Int)), some (jI j), some (jI v), none] [jI (1000000000 - (-1))] 0 0 (jW w (m + 3) 1 ((w.1 (m + 3) 1) + 1)) _
      refine jWp.ireti mt rfl ⟨rfl, rfl⟩ rfl ?_
      refine ⟨fun c0 => ?_, fun c0 c1 => ?_, fun c0 c1 c2 => ?_, fun c0 c1 c2 => ?_⟩
      all_goals first
      | (exfalso; omega)
      | exact ⟨rfl, rfl⟩
      | exact ⟨rfl, znw_k, by rw [jW_f (by omega), kA_fs]; exact hS9⟩
  · have h1 : ¬ (0 ≤ i ∧ i < (n : Int)) := h1
    show jWp 168 5 [some (jO m), some (jI i), some (jI j), some (jI v), none] [jI 0] 0 0 w _
    refine jWp.ifc (b := true) mt rfl (by decide) rfl ?_
    show jWp 168 21 [some (jO m), some (jI i), some (jI j), some (jI v), none] [] 0 0 w _
    refine jWp.blk mt 2 ?_
    show _ ∧ jWp 168 23 [some (jO m), some (jI i), some (jI j), some (jI v), none] [jI (-1), jO m] 0 0 w _
    refine ⟨rfl, ?_⟩
    refine jWp.callv (as := [jO m, jI (-1)]) (rest := []) mt rfl rfl rfl ⟨rfl, jtg hW.K0⟩ ?_
    refine jCall.mono (E_far (w := w) (j := 1) hW (by decide) (by decide)) (fun v9 w9 h9 => ?_)
    obtain ⟨rfl, h9⟩ := h9
    subst h9
    show jWp 168 26 [some (jO m), some (jI i), some (jI j), some (jI v), none] [jI (1000000000 - (-1))] 0 0 (jW w (m + 3) 1 ((w.1 (m + 3) 1) + 1)) _
    refine jWp.ireti mt rfl ⟨rfl, rfl⟩ rfl ?_
    refine ⟨fun c0 => ?_, fun c0 c1 => ?_, fun c0 c1 c2 => ?_, fun c0 c1 c2 => ?_⟩
    all_goals first
    | (exfalso; omega)
    | exact ⟨rfl, rfl⟩
    | exact ⟨rfl, znw_k, by rw [jW_f (by omega), kA_fs]; exact hS9⟩
set_option maxHeartbeats 4000000 in
set_option maxRecDepth 20000 in
theorem E_begins {w : jS} {m : Nat} (hW : MW w.2 m) {n : Nat} (hS : zS (w.1 (m + 1)) n) {i v : Int} (hri : r32 i) (hrv : r32 v) : jCall 169 [jO m, jI i, jI v] w (fun x w1 => ((¬ (0 ≤ i ∧ i < (n : Int))) → jno w m 1 (jI (-1)) x w1) ∧ (¬ (¬ (0 ≤ i ∧ i < (n : Int))) → (v < 1) → jno w m 4 (jI (-4)) x w1) ∧ (¬ (¬ (0 ≤ i ∧ i < (n : Int))) → ¬ (v < 1) → (9 < v) → jno w m 6 (jI (-6)) x w1) ∧ (¬ (¬ (0 ≤ i ∧ i < (n : Int))) → ¬ (v < 1) → ¬ (9 < v) → x = some (jI (w.1 (m + 1) (17 + i.toNat))) ∧ znw w m w1 ∧ zbg (zset (w.1 (m + 1)) (17 + i.toNat) v) (w1.1 (m + 1)))) := by
  have mt : jtb 169 = jT169 := rfl
  have hn2 := hS.n2
  have hn4 := hS.n4
  have hri1 : -2147483648 ≤ i ∧ i < 2147483648 := hri
  have hrv1 : -2147483648 ≤ v ∧ v < 2147483648 := hrv
  show jWp 169 0 [some (jO m), some (jI i), some (jI v), none] [] 0 0 w _
  refine jWp.blk mt 2 ?_
  show _ ∧ jWp 169 2 [some (jO m), some (jI i), some (jI v), none] [jI i, jO m] 0 0 w _
  refine ⟨rfl, ?_⟩
  refine jWp.callv (as := [jO m, jI i]) (rest := []) mt rfl rfl rfl ⟨rfl, jtg hW.K0⟩ ?_
  refine jCall.mono (E_isLetter hW hS hri) (fun v9 w9 h9 => ?_)
  rcases h9 with ⟨rfl, h9, h1⟩ | ⟨rfl, h9, h1⟩ <;> subst w9
  · have h1 : 0 ≤ i ∧ i < (n : Int) := h1
    show jWp 169 5 [some (jO m), some (jI i), some (jI v), none] [jI 1] 0 0 w _
    obtain ⟨i1, rfl⟩ : ∃ i1 : Nat, i = (i1 : Int) := ⟨i.toNat, by omega⟩
    show jWp 169 5 [some (jO m), some (jI (i1 : Int)), some (jI v), none] [jI 1] 0 0 w _
    refine jWp.ifc (b := true) mt rfl (by decide) rfl ?_
    show jWp 169 14 [some (jO m), some (jI (i1 : Int)), some (jI v), none] [] 0 0 w _
    refine jWp.blk mt 2 ?_
    show jWp 169 16 [some (jO m), some (jI (i1 : Int)), some (jI v), none] [jI 1, jI v] 0 0 w _
    refine jWp.icmp (pc' := 19) mt rfl rfl (b32_id (by omega) (by omega)) (show b32 1 = 1 by decide) (fun h2 => ?_) (fun h2 => ?_)
    · have h2 : 1 ≤ v := h2
      refine jWp.blk mt 2 ?_
      show jWp 169 29 [some (jO m), some (jI (i1 : Int)), some (jI v), none] [jI 9, jI v] 0 0 w _
      refine jWp.icmp (pc' := 32) mt rfl rfl (b32_id (by omega) (by omega)) (show b32 9 = 9 by decide) (fun h3 => ?_) (fun h3 => ?_)
      · have h3 : v ≤ 9 := h3
        refine jWp.blk mt 1 ?_
        show _ ∧ jWp 169 40 [some (jO m), some (jI (i1 : Int)), some (jI v), none] [jO m] 0 0 w _
        refine ⟨rfl, ?_⟩
        refine jWp.getR (pc' := 43) (o := (m + 1)) mt rfl rfl (jtg hW.K0) hW.R0 ?_
        show jWp 169 43 [some (jO m), some (jI (i1 : Int)), some (jI v), none] [jO (m + 1)] 0 0 w _
        refine jWp.blk mt 3 ?_
        show jWp 169 47 [some (jO m), some (jI (i1 : Int)), some (jI v), none] [jI (17 + (i1 : Int)), jO (m + 1)] 0 0 w _
        refine jWp.lald (pc' := 48) (j := (17 + i1)) mt rfl rfl (jtg hW.K1) (by rw [b32_id (by omega) (by omega)] <;> omega) (jlt hW.K1 (by omega)) ?_
        show jWp 169 48 [some (jO m), some (jI (i1 : Int)), some (jI v), none] [jJ (w.1 (m + 1) (17 + i1))] 0 0 w _
        refine jWp.blk mt 3 ?_
        show _ ∧ jWp 169 51 [some (jO m), some (jI (i1 : Int)), some (jI v), some (jI (w.1 (m + 1) (17 + i1)))] [jO m] 0 0 w _
        refine ⟨rfl, ?_⟩
        refine jWp.getR (pc' := 54) (o := (m + 1)) mt rfl rfl (jtg hW.K0) hW.R0 ?_
        show jWp 169 54 [some (jO m), some (jI (i1 : Int)), some (jI v), some (jI (w.1 (m + 1) (17 + i1)))] [jO (m + 1)] 0 0 w _
        refine jWp.blk mt 4 ?_
        show jWp 169 59 [some (jO m), some (jI (i1 : Int)), some (jI v), some (jI (w.1 (m + 1) (17 + i1)))] [jI v, jI (17 + (i1 : Int)), jO (m + 1)] 0 0 w _
        refine jWp.i2l (pc' := 60) mt rfl rfl (b32_id (by omega) (by omega)) ?_
        show jWp 169 60 [some (jO m), some (jI (i1 : Int)), some (jI v), some (jI (w.1 (m + 1) (17 + i1)))] [jJ v, jI (17 + (i1 : Int)), jO (m + 1)] 0 0 w _
        refine jWp.last (pc' := 61) (j := (17 + i1)) mt rfl rfl (jtg hW.K1) (by rw [b32_id (by omega) (by omega)] <;> omega) (jlt hW.K1 (by omega)) ?_
        show jWp 169 61 [some (jO m), some (jI (i1 : Int)), some (jI v), some (jI (w.1 (m + 1) (17 + i1)))] [] 0 0 (jW w (m + 1) (17 + i1) v) _
        refine jWp.blk mt 2 ?_
        show _ ∧ _ ∧ jWp 169 63 [some (jO m), some (jI (i1 : Int)), some (jI v), some (jI (w.1 (m + 1) (17 + i1)))] [jO m, jO m] 0 0 (jW w (m + 1) (17 + i1) v) _
        refine ⟨rfl, rfl, ?_⟩
        refine jWp.getR (pc' := 66) (o := (m + 1)) mt rfl rfl (jtg hW.K0) hW.R0 ?_
        show jWp 169 66 [some (jO m), some (jI (i1 : Int)), some (jI v), some (jI (w.1 (m + 1) (17 + i1)))] [jO (m + 1), jO m] 0 0 (jW w (m + 1) (17 + i1) v) _
        refine jWp.callv (as := [jO m, jO (m + 1)]) (rest := []) mt rfl rfl rfl ⟨rfl, jtg hW.K0⟩ ?_
        refine jCall.mono (E_begun (w := (jW w (m + 1) (17 + i1) v)) (q := m + 1) hW.K1) (fun v9 w9 h9 => ?_)
        obtain ⟨rfl, S9, h9, hS9⟩ := h9
        subst h9
        show jWp 169 69 [some (jO m), some (jI (i1 : Int)), some (jI v), some (jI (w.1 (m + 1) (17 + i1)))] [] 0 0 (kA (jW w (m + 1) (17 + i1) v) (m + 1) S9) _
        refine jWp.blk mt 2 ?_
        show _ ∧ jWp 169 71 [some (jO m), some (jI (i1 : Int)), some (jI v), some (jI (w.1 (m + 1) (17 + i1)))] [jI 0, jO m] 0 0 (kA (jW w (m + 1) (17 + i1) v) (m + 1) S9) _
        refine ⟨rfl, ?_⟩
        refine jWp.putI (pc' := 74) mt rfl rfl (jtg hW.K0) ?_
        show jWp 169 74 [some (jO m), some (jI (i1 : Int)), some (jI v), some (jI (w.1 (m + 1) (17 + i1)))] [] 0 0 (jW (kA (jW w (m + 1) (17 + i1) v) (m + 1) S9) m 15 0) _
        refine jWp.blk mt 1 ?_
        show jWp 169 75 [some (jO m), some (jI (i1 : Int)), some (jI v), some (jI (w.1 (m + 1) (17 + i1)))] [jI (w.1 (m + 1) (17 + i1))] 0 0 (jW (kA (jW w (m + 1) (17 + i1) v) (m + 1) S9) m 15 0) _
        refine jWp.ireti mt rfl ⟨rfl, rfl⟩ rfl ?_
        refine ⟨fun c0 => ?_, fun c0 c1 => ?_, fun c0 c1 c2 => ?_, fun c0 c1 c2 => ?_⟩
        all_goals first
        | (exfalso; omega)
        | exact ⟨rfl, rfl⟩
        | (refine ⟨rfl, ?_, ?_⟩
           · rw [show kA (jW w (m + 1) (17 + i1) v) (m + 1) S9 = kA w (m + 1) S9 from by rw [kA_W0, kA_A]]
             exact znw_k
           · rw [jW_f (by omega), kA_fs]
             rw [show (jW w (m + 1) (17 + i1) v).1 (m + 1) = zset (w.1 (m + 1)) (17 + i1) v from by rw [kA_W0, kA_fs]] at hS9
             exact hS9)
      · have h3 : 9 < v := h3
        refine jWp.blk mt 2 ?_
        show _ ∧ jWp 169 35 [some (jO m), some (jI (i1 : Int)), some (jI v), none] [jI (-6), jO m] 0 0 w _
        refine ⟨rfl, ?_⟩
        refine jWp.callv (as := [jO m, jI (-6)]) (rest := []) mt rfl rfl rfl ⟨rfl, jtg hW.K0⟩ ?_
        refine jCall.mono (E_refuses (w := w) (j := 6) hW (by decide) (by decide)) (fun v9 w9 h9 => ?_)
        obtain ⟨rfl, h9⟩ := h9
        subst h9
        show jWp 169 38 [some (jO m), some (jI (i1 : Int)), some (jI v), none] [jI (-6)] 0 0 (jW w (m + 3) 6 ((w.1 (m + 3) 6) + 1)) _
        refine jWp.ireti mt rfl ⟨rfl, rfl⟩ rfl ?_
        refine ⟨fun c0 => ?_, fun c0 c1 => ?_, fun c0 c1 c2 => ?_, fun c0 c1 c2 => ?_⟩
        all_goals first
        | (exfalso; omega)
        | exact ⟨rfl, rfl⟩
        | (refine ⟨rfl, ?_, ?_⟩
           · rw [show kA (jW w (m + 1) (17 + i1) v) (m + 1) S9 = kA w (m + 1) S9 from by rw [kA_W0, kA_A]]
             exact znw_k
           · rw [jW_f (by omega), kA_fs]
             rw [show (jW w (m + 1) (17 + i1) v).1 (m + 1) = zset (w.1 (m + 1)) (17 + i1) v from by rw [kA_W0, kA_fs]] at hS9
             exact hS9)
    · have h2 : v < 1 := h2
      refine jWp.blk mt 2 ?_
      show _ ∧ jWp 169 22 [some (jO m), some (jI (i1 : Int)), some (jI v), none] [jI (-4), jO m] 0 0 w _
      refine ⟨rfl, ?_⟩
      refine jWp.callv (as := [jO m, jI (-4)]) (rest := []) mt rfl rfl rfl ⟨rfl, jtg hW.K0⟩ ?_
      refine jCall.mono (E_refuses (w := w) (j := 4) hW (by decide) (by decide)) (fun v9 w9 h9 => ?_)
      obtain ⟨rfl, h9⟩ := h9
      subst h9
      show jWp 169 25 [some (jO m), some (jI (i1 : Int)), some (jI v), none] [jI (-4)] 0 0 (jW w (m + 3) 4 ((w.1 (m + 3) 4) + 1)) _
      refine jWp.ireti mt rfl ⟨rfl, rfl⟩ rfl ?_
      refine ⟨fun c0 => ?_, fun c0 c1 => ?_, fun c0 c1 c2 => ?_, fun c0 c1 c2 => ?_⟩
      all_goals first
      | (exfalso; omega)
      | exact ⟨rfl, rfl⟩
      | (refine ⟨rfl, ?_, ?_⟩
         · rw [show kA (jW w (m + 1) (17 + i1) v) (m + 1) S9 = kA w (m + 1) S9 from by rw [kA_W0, kA_A]]
           exact znw_k
         · rw [jW_f (by omega), kA_fs]
           rw [show (jW w (m + 1) (17 + i1) v).1 (m + 1) = zset (w.1 (m + 1)) (17 + i1) v from by rw [kA_W0, kA_fs]] at hS9
           exact hS9)
  · have h1 : ¬ (0 ≤ i ∧ i < (n : Int)) := h1
    show jWp 169 5 [some (jO m), some (jI i), some (jI v), none] [jI 0] 0 0 w _
    refine jWp.ifc (b := false) mt rfl (by decide) rfl ?_
    show jWp 169 8 [some (jO m), some (jI i), some (jI v), none] [] 0 0 w _
    refine jWp.blk mt 2 ?_
    show _ ∧ jWp 169 10 [some (jO m), some (jI i), some (jI v), none] [jI (-1), jO m] 0 0 w _
    refine ⟨rfl, ?_⟩
    refine jWp.callv (as := [jO m, jI (-1)]) (rest := []) mt rfl rfl rfl ⟨rfl, jtg hW.K0⟩ ?_
    refine jCall.mono (E_refuses (w := w) (j := 1) hW (by decide) (by decide)) (fun v9 w9 h9 => ?_)
    obtain ⟨rfl, h9⟩ := h9
    subst h9
    show jWp 169 13 [some (jO m), some (jI i), some (jI v), none] [jI (-1)] 0 0 (jW w (m + 3) 1 ((w.1 (m + 3) 1) + 1)) _
    refine jWp.ireti mt rfl ⟨rfl, rfl⟩ rfl ?_
    refine ⟨fun c0 => ?_, fun c0 c1 => ?_, fun c0 c1 c2 => ?_, fun c0 c1 c2 => ?_⟩
    all_goals first
    | (exfalso; omega)
    | exact ⟨rfl, rfl⟩
    | (refine ⟨rfl, ?_, ?_⟩
       · rw [show kA (jW w (m + 1) (17 + i1) v) (m + 1) S9 = kA w (m + 1) S9 from by rw [kA_W0, kA_A]]
         exact znw_k
       · rw [jW_f (by omega), kA_fs]
         rw [show (jW w (m + 1) (17 + i1) v).1 (m + 1) = zset (w.1 (m + 1)) (17 + i1) v from by rw [kA_W0, kA_fs]] at hS9
         exact hS9)
end
section
set_option maxHeartbeats 4000000 in
set_option maxRecDepth 20000 in
theorem E_letter {w : jS} {m : Nat} (hW : MW w.2 m) {f : Nat} (hf : w.1 m 24 = (f : Int)) (hf8 : f ≤ 72) {c : Int} (hrc : r32 c) : jCall 197 [jO m, jI c] w (fun v w1 => ((c < 0) → jno w m 4 (jI (-4)) v w1) ∧ (¬ (c < 0) → (255 < c ∨ f = 72) → jno w m 6 (jI (-6)) v w1) ∧ (¬ (c < 0) → ¬ (255 < c ∨ f = 72) → v = some (jI ((f : Int) + 1)) ∧ w1 = jW (jW w (m + 421) f c) m 24 ((f : Int) + 1))) := by
  have mt : jtb 197 = jT197 := rfl
  have hrc1 : -2147483648 ≤ c ∧ c < 2147483648 := hrc
  show jWp 197 0 [some (jO m), some (jI c)] [] 0 0 w _
  refine jWp.blk mt 1 ?_
  show jWp 197 1 [some (jO m), some (jI c)] [jI c] 0 0 w _
  refine jWp.ifz (pc' := 4) mt rfl rfl (b32_id (by omega) (by omega)) (fun h1 => ?_) (fun h1 => ?_)
  · have h1 : 0 ≤ c := h1
    refine jWp.blk mt 2 ?_
    show jWp 197 15 [some (jO m), some (jI c)] [jI 255, jI c] 0 0 w _
    refine jWp.icmp (pc' := 18) mt rfl rfl (b32_id (by omega) (by omega)) (show b32 255 = 255 by decide) (fun h2 => ?_) (fun h2 => ?_)
    · have h2 : 255 < c := h2
      refine jWp.blk mt 2 ?_
      show _ ∧ jWp 197 30 [some (jO m), some (jI c)] [jI (-6), jO m] 0 0 w _
      refine ⟨rfl, ?_⟩
      refine jWp.callv (as := [jO m, jI (-6)]) (rest := []) mt rfl rfl rfl ⟨rfl, jtg hW.K0⟩ ?_
      refine jCall.mono (E_refuses (w := w) (j := 6) hW (by decide) (by decide)) (fun v9 w9 h9 => ?_)
      obtain ⟨rfl, h9⟩ := h9
      subst h9
      show jWp 197 33 [some (jO m), some (jI c)] [jI (-6)] 0 0 (jW w (m + 3) 6 ((w.1 (m + 3) 6) + 1)) _
      refine jWp.ireti mt rfl ⟨rfl, rfl⟩ rfl ?_
      refine ⟨fun c0 => ?_, fun c0 c1 => ?_, fun c0 c1 => ?_⟩
      all_goals first
      | (exfalso; omega)
      | exact ⟨rfl, rfl⟩
    · have h2 : c ≤ 255 := h2
      refine jWp.blk mt 1 ?_
      show _ ∧ jWp 197 19 [some (jO m), some (jI c)] [jO m] 0 0 w _
      refine ⟨rfl, ?_⟩
      refine jWp.getI (pc' := 22) mt rfl rfl (jtg hW.K0) ?_
      rw [show (w.1 m 24) = (f : Int) from hf]
      show jWp 197 22 [some (jO m), some (jI c)] [jI (f : Int)] 0 0 w _
      refine jWp.blk mt 1 ?_
      show jWp 197 24 [some (jO m), some (jI c)] [jI 72, jI (f : Int)] 0 0 w _
      refine jWp.icmp (pc' := 27) mt rfl rfl (b32_id (by omega) (by omega)) (show b32 72 = 72 by decide) (fun h3 => ?_) (fun h3 => ?_)
      · have h3 : (f : Int) ≠ 72 := h3
        refine jWp.blk mt 1 ?_
        show _ ∧ jWp 197 35 [some (jO m), some (jI c)] [jO m] 0 0 w _
        refine ⟨rfl, ?_⟩
        refine jWp.getR (pc' := 38) (o := (m + 421)) mt rfl rfl (jtg hW.K0) hW.R23 ?_
        show jWp 197 38 [some (jO m), some (jI c)] [jO (m + 421)] 0 0 w _
        refine jWp.blk mt 1 ?_
        show _ ∧ jWp 197 39 [some (jO m), some (jI c)] [jO m, jO (m + 421)] 0 0 w _
        refine ⟨rfl, ?_⟩
        refine jWp.getI (pc' := 42) mt rfl rfl (jtg hW.K0) ?_
        rw [show (w.1 m 24) = (f : Int) from hf]
        show jWp 197 42 [some (jO m), some (jI c)] [jI (f : Int), jO (m + 421)] 0 0 w _
        refine jWp.blk mt 1 ?_
        show jWp 197 43 [some (jO m), some (jI c)] [jI c, jI (f : Int), jO (m + 421)] 0 0 w _
        refine jWp.iast (pc' := 44) (j := f) mt rfl rfl (jtg hW.K421) (b32_id (by omega) (by omega)) (jlt hW.K421 (by omega)) ?_
        show jWp 197 44 [some (jO m), some (jI c)] [] 0 0 (jW w (m + 421) f c) _
        refine jWp.blk mt 2 ?_
        show _ ∧ _ ∧ jWp 197 46 [some (jO m), some (jI c)] [jO m, jO m] 0 0 (jW w (m + 421) f c) _
        refine ⟨rfl, rfl, ?_⟩
        refine jWp.getI (pc' := 49) mt rfl rfl (jtg hW.K0) ?_
        rw [show ((jW w (m + 421) f c).1 m 24) = (f : Int) from (((jW_a (by omega)).trans rfl).trans hf)]
        show jWp 197 49 [some (jO m), some (jI c)] [jI (f : Int), jO m] 0 0 (jW w (m + 421) f c) _
        refine jWp.blk mt 2 ?_
        show jWp 197 51 [some (jO m), some (jI c)] [jI ((f : Int) + 1), jO m] 0 0 (jW w (m + 421) f c) _
        refine jWp.putI (pc' := 54) mt rfl rfl (jtg hW.K0) ?_
        show jWp 197 54 [some (jO m), some (jI c)] [] 0 0 (jW (jW w (m + 421) f c) m 24 ((f : Int) + 1)) _
        refine jWp.blk mt 1 ?_
        show _ ∧ jWp 197 55 [some (jO m), some (jI c)] [jO m] 0 0 (jW (jW w (m + 421) f c) m 24 ((f : Int) + 1)) _
        refine ⟨rfl, ?_⟩
        refine jWp.getI (pc' := 58) mt rfl rfl (jtg hW.K0) ?_
        rw [show ((jW (jW w (m + 421) f c) m 24 ((f : Int) + 1)).1 m 24) = ((f : Int) + 1) from jW_s]
        show jWp 197 58 [some (jO m), some (jI c)] [jI ((f : Int) + 1)] 0 0 (jW (jW w (m + 421) f c) m 24 ((f : Int) + 1)) _
        refine jWp.ireti mt rfl ⟨rfl, rfl⟩ rfl ?_
        refine ⟨fun c0 => ?_, fun c0 c1 => ?_, fun c0 c1 => ?_⟩
        all_goals first
        | (exfalso; omega)
        | exact ⟨rfl, rfl⟩
      · have h3 : (f : Int) = 72 := h3
        refine jWp.blk mt 2 ?_
        show _ ∧ jWp 197 30 [some (jO m), some (jI c)] [jI (-6), jO m] 0 0 w _
        refine ⟨rfl, ?_⟩
        refine jWp.callv (as := [jO m, jI (-6)]) (rest := []) mt rfl rfl rfl ⟨rfl, jtg hW.K0⟩ ?_
        refine jCall.mono (E_refuses (w := w) (j := 6) hW (by decide) (by decide)) (fun v9 w9 h9 => ?_)
        obtain ⟨rfl, h9⟩ := h9
        subst h9
        show jWp 197 33 [some (jO m), some (jI c)] [jI (-6)] 0 0 (jW w (m + 3) 6 ((w.1 (m + 3) 6) + 1)) _
        refine jWp.ireti mt rfl ⟨rfl, rfl⟩ rfl ?_
        refine ⟨fun c0 => ?_, fun c0 c1 => ?_, fun c0 c1 => ?_⟩
        all_goals first
        | (exfalso; omega)
        | exact ⟨rfl, rfl⟩
  · have h1 : c < 0 := h1
    refine jWp.blk mt 2 ?_
    show _ ∧ jWp 197 7 [some (jO m), some (jI c)] [jI (-4), jO m] 0 0 w _
    refine ⟨rfl, ?_⟩
    refine jWp.callv (as := [jO m, jI (-4)]) (rest := []) mt rfl rfl rfl ⟨rfl, jtg hW.K0⟩ ?_
    refine jCall.mono (E_refuses (w := w) (j := 4) hW (by decide) (by decide)) (fun v9 w9 h9 => ?_)
    obtain ⟨rfl, h9⟩ := h9
    subst h9
    show jWp 197 10 [some (jO m), some (jI c)] [jI (-4)] 0 0 (jW w (m + 3) 4 ((w.1 (m + 3) 4) + 1)) _
    refine jWp.ireti mt rfl ⟨rfl, rfl⟩ rfl ?_
    refine ⟨fun c0 => ?_, fun c0 c1 => ?_, fun c0 c1 => ?_⟩
    all_goals first
    | (exfalso; omega)
    | exact ⟨rfl, rfl⟩
set_option maxHeartbeats 4000000 in
set_option maxRecDepth 20000 in
theorem E_isList {w : jS} {l : Int} (hrl : r32 l) : jCall 207 [jI l] w (jvb (0 ≤ l ∧ l ≤ 2) w) := by
  have mt : jtb 207 = jT207 := rfl
  have hrl1 : -2147483648 ≤ l ∧ l < 2147483648 := hrl
  show jWp 207 0 [some (jI l)] [] 0 0 w _
  refine jWp.blk mt 1 ?_
  show jWp 207 1 [some (jI l)] [jI l] 0 0 w _
  refine jWp.i2l (pc' := 2) mt rfl rfl (b32_id (by omega) (by omega)) ?_
  show jWp 207 2 [some (jI l)] [jJ l] 0 0 w _
  refine jWp.blk mt 2 ?_
  show jWp 207 6 [some (jI l)] [jJ 2, jJ 0, jJ l] 0 0 w _
  refine jWp.calls (as := [jJ l, jJ 0, jJ 2]) (rest := []) mt rfl rfl rfl rfl ?_
  refine jCall.mono (E_in (b64_id (by omega) (by omega)) (show b64 0 = 0 by decide) (show b64 2 = 2 by decide)) (fun v9 w9 h9 => ?_)
  rcases h9 with ⟨rfl, h9, h1⟩ | ⟨rfl, h9, h1⟩ <;> subst w9
  · have h1 : 0 ≤ l ∧ l ≤ 2 := h1
    show jWp 207 9 [some (jI l)] [jI 1] 0 0 w _
    refine jWp.iretz mt rfl ⟨rfl, rfl⟩ rfl (Or.inr rfl) ?_
    exact Or.inl ⟨rfl, rfl, by omega⟩
  · have h1 : ¬ (0 ≤ l ∧ l ≤ 2) := h1
    show jWp 207 9 [some (jI l)] [jI 0] 0 0 w _
    refine jWp.iretz mt rfl ⟨rfl, rfl⟩ rfl (Or.inl rfl) ?_
    exact Or.inr ⟨rfl, rfl, by omega⟩
set_option maxHeartbeats 4000000 in
set_option maxRecDepth 20000 in
theorem E_put {w : jS} {m : Nat} (hW : MW w.2 m) (hz : ∀ x, x < 3 → -1 ≤ w.1 (m + 423) x ∧ w.1 (m + 423) x ≤ 40) {l i v : Int} (hrl : r32 l) (hri : r32 i) (hrv : r32 v) : jCall 214 [jO m, jI l, jI i, jI v] w (fun x w1 => ((¬ (0 ≤ l ∧ l ≤ 2)) → jno w m 1 (jI (-1)) x w1) ∧ (¬ (¬ (0 ≤ l ∧ l ≤ 2)) → ((w.1 (m + 423) l.toNat) < 0) → x = some (jI (-11)) ∧ w1 = w) ∧ (¬ (¬ (0 ≤ l ∧ l ≤ 2)) → ¬ ((w.1 (m + 423) l.toNat) < 0) → (¬ (0 ≤ i ∧ i < (w.1 (m + 423) l.toNat))) → x = some (jI (-13)) ∧ w1 = w) ∧ (¬ (¬ (0 ≤ l ∧ l ≤ 2)) → ¬ ((w.1 (m + 423) l.toNat) < 0) → ¬ (¬ (0 ≤ i ∧ i < (w.1 (m + 423) l.toNat))) → x = some (jI 1) ∧ w1 = jW w (m + (425 + l.toNat)) i.toNat v)) := by
  have mt : jtb 214 = jT214 := rfl
  have hrl1 : -2147483648 ≤ l ∧ l < 2147483648 := hrl
  have hri1 : -2147483648 ≤ i ∧ i < 2147483648 := hri
  have hrv1 : -2147483648 ≤ v ∧ v < 2147483648 := hrv
  show jWp 214 0 [some (jO m), some (jI l), some (jI i), some (jI v)] [] 0 0 w _
  refine jWp.blk mt 1 ?_
  show jWp 214 1 [some (jO m), some (jI l), some (jI i), some (jI v)] [jI l] 0 0 w _
  refine jWp.calls (as := [jI l]) (rest := []) mt rfl rfl rfl rfl ?_
  refine jCall.mono (E_isList hrl) (fun v9 w9 h9 => ?_)
  rcases h9 with ⟨rfl, h9, h1⟩ | ⟨rfl, h9, h1⟩ <;> subst w9
  · have h1 : 0 ≤ l ∧ l ≤ 2 := h1
    show jWp 214 4 [some (jO m), some (jI l), some (jI i), some (jI v)] [jI 1] 0 0 w _
    obtain ⟨l1, rfl⟩ : ∃ l1 : Nat, l = (l1 : Int) := ⟨l.toNat, by omega⟩
    show jWp 214 4 [some (jO m), some (jI (l1 : Int)), some (jI i), some (jI v)] [jI 1] 0 0 w _
    have hz2 : -1 ≤ w.1 (m + 423) l1 ∧ w.1 (m + 423) l1 ≤ 40 := hz l1 (by omega)
    refine jWp.ifc (b := true) mt rfl (by decide) rfl ?_
    show jWp 214 13 [some (jO m), some (jI (l1 : Int)), some (jI i), some (jI v)] [] 0 0 w _
    refine jWp.blk mt 1 ?_
    show _ ∧ jWp 214 14 [some (jO m), some (jI (l1 : Int)), some (jI i), some (jI v)] [jO m] 0 0 w _
    refine ⟨rfl, ?_⟩
    refine jWp.getR (pc' := 17) (o := (m + 423)) mt rfl rfl (jtg hW.K0) hW.R27 ?_
    show jWp 214 17 [some (jO m), some (jI (l1 : Int)), some (jI i), some (jI v)] [jO (m + 423)] 0 0 w _
    refine jWp.blk mt 1 ?_
    show jWp 214 18 [some (jO m), some (jI (l1 : Int)), some (jI i), some (jI v)] [jI (l1 : Int), jO (m + 423)] 0 0 w _
    refine jWp.iald (pc' := 19) (j := l1) mt rfl rfl (jird_of hW.K423) (b32_id (by omega) (by omega)) (jlt hW.K423 (by omega)) ?_
    show jWp 214 19 [some (jO m), some (jI (l1 : Int)), some (jI i), some (jI v)] [jI (w.1 (m + 423) l1)] 0 0 w _
    refine jWp.ifz (pc' := 22) mt rfl rfl (b32_id (by omega) (by omega)) (fun h2 => ?_) (fun h2 => ?_)
    · have h2 : 0 ≤ (w.1 (m + 423) l1) := h2
      refine jWp.blk mt 1 ?_
      show jWp 214 26 [some (jO m), some (jI (l1 : Int)), some (jI i), some (jI v)] [jI i] 0 0 w _
      refine jWp.i2l (pc' := 27) mt rfl rfl (b32_id (by omega) (by omega)) ?_
      show jWp 214 27 [some (jO m), some (jI (l1 : Int)), some (jI i), some (jI v)] [jJ i] 0 0 w _
      refine jWp.blk mt 2 ?_
      show _ ∧ jWp 214 29 [some (jO m), some (jI (l1 : Int)), some (jI i), some (jI v)] [jO m, jJ 0, jJ i] 0 0 w _
      refine ⟨rfl, ?_⟩
      refine jWp.getR (pc' := 32) (o := (m + 423)) mt rfl rfl (jtg hW.K0) hW.R27 ?_
      show jWp 214 32 [some (jO m), some (jI (l1 : Int)), some (jI i), some (jI v)] [jO (m + 423), jJ 0, jJ i] 0 0 w _
      refine jWp.blk mt 1 ?_
      show jWp 214 33 [some (jO m), some (jI (l1 : Int)), some (jI i), some (jI v)] [jI (l1 : Int), jO (m + 423), jJ 0, jJ i] 0 0 w _
      refine jWp.iald (pc' := 34) (j := l1) mt rfl rfl (jird_of hW.K423) (b32_id (by omega) (by omega)) (jlt hW.K423 (by omega)) ?_
      show jWp 214 34 [some (jO m), some (jI (l1 : Int)), some (jI i), some (jI v)] [jI (w.1 (m + 423) l1), jJ 0, jJ i] 0 0 w _
      refine jWp.blk mt 2 ?_
      show jWp 214 36 [some (jO m), some (jI (l1 : Int)), some (jI i), some (jI v)] [jI ((w.1 (m + 423) l1) - 1), jJ 0, jJ i] 0 0 w _
      refine jWp.i2l (pc' := 37) mt rfl rfl (b32_id (by omega) (by omega)) ?_
      show jWp 214 37 [some (jO m), some (jI (l1 : Int)), some (jI i), some (jI v)] [jJ ((w.1 (m + 423) l1) - 1), jJ 0, jJ i] 0 0 w _
      refine jWp.calls (as := [jJ i, jJ 0, jJ ((w.1 (m + 423) l1) - 1)]) (rest := []) mt rfl rfl rfl rfl ?_
      refine jCall.mono (E_in (b64_id (by omega) (by omega)) (show b64 0 = 0 by decide) (b64_id (by omega) (by omega))) (fun v9 w9 h9 => ?_)
      rcases h9 with ⟨rfl, h9, h3⟩ | ⟨rfl, h9, h3⟩ <;> subst w9
      · have h3 : 0 ≤ i ∧ i ≤ ((w.1 (m + 423) l1) - 1) := h3
        show jWp 214 40 [some (jO m), some (jI (l1 : Int)), some (jI i), some (jI v)] [jI 1] 0 0 w _
        refine jWp.ifc (b := true) mt rfl (by decide) rfl ?_
        show jWp 214 46 [some (jO m), some (jI (l1 : Int)), some (jI i), some (jI v)] [] 0 0 w _
        obtain ⟨i1, rfl⟩ : ∃ i1 : Nat, i = (i1 : Int) := ⟨i.toNat, by omega⟩
        show jWp 214 46 [some (jO m), some (jI (l1 : Int)), some (jI (i1 : Int)), some (jI v)] [] 0 0 w _
        refine jWp.blk mt 1 ?_
        show _ ∧ jWp 214 47 [some (jO m), some (jI (l1 : Int)), some (jI (i1 : Int)), some (jI v)] [jO m] 0 0 w _
        refine ⟨rfl, ?_⟩
        refine jWp.getR (pc' := 50) (o := (m + 424)) mt rfl rfl (jtg hW.K0) hW.R28 ?_
        show jWp 214 50 [some (jO m), some (jI (l1 : Int)), some (jI (i1 : Int)), some (jI v)] [jO (m + 424)] 0 0 w _
        refine jWp.blk mt 1 ?_
        show jWp 214 51 [some (jO m), some (jI (l1 : Int)), some (jI (i1 : Int)), some (jI v)] [jI (l1 : Int), jO (m + 424)] 0 0 w _
        refine jWp.aald (pc' := 52) (j := l1) (o := (m + (425 + l1))) mt rfl rfl (jrg hW.K424 (by decide) (by decide)) (b32_id (by omega) (by omega)) (jlt hW.K424 (by omega)) (hW.RI l1 (by omega)) ?_
        show jWp 214 52 [some (jO m), some (jI (l1 : Int)), some (jI (i1 : Int)), some (jI v)] [jO (m + (425 + l1))] 0 0 w _
        refine jWp.blk mt 2 ?_
        show jWp 214 54 [some (jO m), some (jI (l1 : Int)), some (jI (i1 : Int)), some (jI v)] [jI v, jI (i1 : Int), jO (m + (425 + l1))] 0 0 w _
        refine jWp.i2l (pc' := 55) mt rfl rfl (b32_id (by omega) (by omega)) ?_
        show jWp 214 55 [some (jO m), some (jI (l1 : Int)), some (jI (i1 : Int)), some (jI v)] [jJ v, jI (i1 : Int), jO (m + (425 + l1))] 0 0 w _
        refine jWp.last (pc' := 56) (j := i1) mt rfl rfl (jtg (hW.KI _ (by omega))) (b32_id (by omega) (by omega)) (jlt (hW.KI _ (by omega)) (by omega)) ?_
        show jWp 214 56 [some (jO m), some (jI (l1 : Int)), some (jI (i1 : Int)), some (jI v)] [] 0 0 (jW w (m + (425 + l1)) i1 v) _
        refine jWp.blk mt 1 ?_
        show jWp 214 57 [some (jO m), some (jI (l1 : Int)), some (jI (i1 : Int)), some (jI v)] [jI 1] 0 0 (jW w (m + (425 + l1)) i1 v) _
        refine jWp.ireti mt rfl ⟨rfl, rfl⟩ rfl ?_
        try rw [show ((l1 : Nat) : Int).toNat = l1 from rfl]
        refine ⟨fun c0 => ?_, fun c0 c1 => ?_, fun c0 c1 c2 => ?_, fun c0 c1 c2 => ?_⟩
        all_goals first
        | (exfalso; omega)
        | exact ⟨rfl, rfl⟩
      · have h3 : ¬ (0 ≤ i ∧ i ≤ ((w.1 (m + 423) l1) - 1)) := h3
        show jWp 214 40 [some (jO m), some (jI (l1 : Int)), some (jI i), some (jI v)] [jI 0] 0 0 w _
        refine jWp.ifc (b := false) mt rfl (by decide) rfl ?_
        show jWp 214 43 [some (jO m), some (jI (l1 : Int)), some (jI i), some (jI v)] [] 0 0 w _
        refine jWp.blk mt 1 ?_
        show jWp 214 45 [some (jO m), some (jI (l1 : Int)), some (jI i), some (jI v)] [jI (-13)] 0 0 w _
        refine jWp.ireti mt rfl ⟨rfl, rfl⟩ rfl ?_
        try rw [show ((l1 : Nat) : Int).toNat = l1 from rfl]
        refine ⟨fun c0 => ?_, fun c0 c1 => ?_, fun c0 c1 c2 => ?_, fun c0 c1 c2 => ?_⟩
        all_goals first
        | (exfalso; omega)
        | exact ⟨rfl, rfl⟩
    · have h2 : (w.1 (m + 423) l1) < 0 := h2
      refine jWp.blk mt 1 ?_
      show jWp 214 24 [some (jO m), some (jI (l1 : Int)), some (jI i), some (jI v)] [jI (-11)] 0 0 w _
      refine jWp.ireti mt rfl ⟨rfl, rfl⟩ rfl ?_
      try rw [show ((l1 : Nat) : Int).toNat = l1 from rfl]
      refine ⟨fun c0 => ?_, fun c0 c1 => ?_, fun c0 c1 c2 => ?_, fun c0 c1 c2 => ?_⟩
      all_goals first
      | (exfalso; omega)
      | exact ⟨rfl, rfl⟩
  · have h1 : ¬ (0 ≤ l ∧ l ≤ 2) := h1
    show jWp 214 4 [some (jO m), some (jI l), some (jI i), some (jI v)] [jI 0] 0 0 w _
    refine jWp.ifc (b := false) mt rfl (by decide) rfl ?_
    show jWp 214 7 [some (jO m), some (jI l), some (jI i), some (jI v)] [] 0 0 w _
    refine jWp.blk mt 2 ?_
    show _ ∧ jWp 214 9 [some (jO m), some (jI l), some (jI i), some (jI v)] [jI (-1), jO m] 0 0 w _
    refine ⟨rfl, ?_⟩
    refine jWp.callv (as := [jO m, jI (-1)]) (rest := []) mt rfl rfl rfl ⟨rfl, jtg hW.K0⟩ ?_
    refine jCall.mono (E_refuses (w := w) (j := 1) hW (by decide) (by decide)) (fun v9 w9 h9 => ?_)
    obtain ⟨rfl, h9⟩ := h9
    subst h9
    show jWp 214 12 [some (jO m), some (jI l), some (jI i), some (jI v)] [jI (-1)] 0 0 (jW w (m + 3) 1 ((w.1 (m + 3) 1) + 1)) _
    refine jWp.ireti mt rfl ⟨rfl, rfl⟩ rfl ?_
    try rw [show ((l1 : Nat) : Int).toNat = l1 from rfl]
    refine ⟨fun c0 => ?_, fun c0 c1 => ?_, fun c0 c1 c2 => ?_, fun c0 c1 c2 => ?_⟩
    all_goals first
    | (exfalso; omega)
    | exact ⟨rfl, rfl⟩
set_option maxHeartbeats 4000000 in
set_option maxRecDepth 20000 in
theorem E_look {w : jS} {m : Nat} (hW : MW w.2 m) (hz : ∀ x, x < 3 → -1 ≤ w.1 (m + 423) x ∧ w.1 (m + 423) x ≤ 40) {l i : Int} (hrl : r32 l) (hri : r32 i) : jCall 215 [jO m, jI l, jI i] w (fun x w1 => ((¬ (0 ≤ l ∧ l ≤ 2)) → jno w m 1 (jJ (4000000000000000000 - (-1))) x w1) ∧ (¬ (¬ (0 ≤ l ∧ l ≤ 2)) → ((w.1 (m + 423) l.toNat) < 0) → x = some (jJ 4000000000000000011) ∧ w1 = w) ∧ (¬ (¬ (0 ≤ l ∧ l ≤ 2)) → ¬ ((w.1 (m + 423) l.toNat) < 0) → (¬ (0 ≤ i ∧ i < (w.1 (m + 423) l.toNat))) → x = some (jJ 4000000000000000013) ∧ w1 = w) ∧ (¬ (¬ (0 ≤ l ∧ l ≤ 2)) → ¬ ((w.1 (m + 423) l.toNat) < 0) → ¬ (¬ (0 ≤ i ∧ i < (w.1 (m + 423) l.toNat))) → x = some (jJ (w.1 (m + (425 + l.toNat)) i.toNat)) ∧ w1 = w)) := by
  have mt : jtb 215 = jT215 := rfl
  have hrl1 : -2147483648 ≤ l ∧ l < 2147483648 := hrl
  have hri1 : -2147483648 ≤ i ∧ i < 2147483648 := hri
  show jWp 215 0 [some (jO m), some (jI l), some (jI i)] [] 0 0 w _
  refine jWp.blk mt 1 ?_
  show jWp 215 1 [some (jO m), some (jI l), some (jI i)] [jI l] 0 0 w _
  refine jWp.calls (as := [jI l]) (rest := []) mt rfl rfl rfl rfl ?_
  refine jCall.mono (E_isList hrl) (fun v9 w9 h9 => ?_)
  rcases h9 with ⟨rfl, h9, h1⟩ | ⟨rfl, h9, h1⟩ <;> subst w9
  · have h1 : 0 ≤ l ∧ l ≤ 2 := h1
    show jWp 215 4 [some (jO m), some (jI l), some (jI i)] [jI 1] 0 0 w _
    obtain ⟨l1, rfl⟩ : ∃ l1 : Nat, l = (l1 : Int) := ⟨l.toNat, by omega⟩
    show jWp 215 4 [some (jO m), some (jI (l1 : Int)), some (jI i)] [jI 1] 0 0 w _
    have hz2 : -1 ≤ w.1 (m + 423) l1 ∧ w.1 (m + 423) l1 ≤ 40 := hz l1 (by omega)
    refine jWp.ifc (b := true) mt rfl (by decide) rfl ?_
    show jWp 215 13 [some (jO m), some (jI (l1 : Int)), some (jI i)] [] 0 0 w _
    refine jWp.blk mt 1 ?_
    show _ ∧ jWp 215 14 [some (jO m), some (jI (l1 : Int)), some (jI i)] [jO m] 0 0 w _
    refine ⟨rfl, ?_⟩
    refine jWp.getR (pc' := 17) (o := (m + 423)) mt rfl rfl (jtg hW.K0) hW.R27 ?_
    show jWp 215 17 [some (jO m), some (jI (l1 : Int)), some (jI i)] [jO (m + 423)] 0 0 w _
    refine jWp.blk mt 1 ?_
    show jWp 215 18 [some (jO m), some (jI (l1 : Int)), some (jI i)] [jI (l1 : Int), jO (m + 423)] 0 0 w _
    refine jWp.iald (pc' := 19) (j := l1) mt rfl rfl (jird_of hW.K423) (b32_id (by omega) (by omega)) (jlt hW.K423 (by omega)) ?_
    show jWp 215 19 [some (jO m), some (jI (l1 : Int)), some (jI i)] [jI (w.1 (m + 423) l1)] 0 0 w _
    refine jWp.ifz (pc' := 22) mt rfl rfl (b32_id (by omega) (by omega)) (fun h2 => ?_) (fun h2 => ?_)
    · have h2 : 0 ≤ (w.1 (m + 423) l1) := h2
      refine jWp.blk mt 1 ?_
      show jWp 215 27 [some (jO m), some (jI (l1 : Int)), some (jI i)] [jI i] 0 0 w _
      refine jWp.i2l (pc' := 28) mt rfl rfl (b32_id (by omega) (by omega)) ?_
      show jWp 215 28 [some (jO m), some (jI (l1 : Int)), some (jI i)] [jJ i] 0 0 w _
      refine jWp.blk mt 2 ?_
      show _ ∧ jWp 215 30 [some (jO m), some (jI (l1 : Int)), some (jI i)] [jO m, jJ 0, jJ i] 0 0 w _
      refine ⟨rfl, ?_⟩
      refine jWp.getR (pc' := 33) (o := (m + 423)) mt rfl rfl (jtg hW.K0) hW.R27 ?_
      show jWp 215 33 [some (jO m), some (jI (l1 : Int)), some (jI i)] [jO (m + 423), jJ 0, jJ i] 0 0 w _
      refine jWp.blk mt 1 ?_
      show jWp 215 34 [some (jO m), some (jI (l1 : Int)), some (jI i)] [jI (l1 : Int), jO (m + 423), jJ 0, jJ i] 0 0 w _
      refine jWp.iald (pc' := 35) (j := l1) mt rfl rfl (jird_of hW.K423) (b32_id (by omega) (by omega)) (jlt hW.K423 (by omega)) ?_
      show jWp 215 35 [some (jO m), some (jI (l1 : Int)), some (jI i)] [jI (w.1 (m + 423) l1), jJ 0, jJ i] 0 0 w _
      refine jWp.blk mt 2 ?_
      show jWp 215 37 [some (jO m), some (jI (l1 : Int)), some (jI i)] [jI ((w.1 (m + 423) l1) - 1), jJ 0, jJ i] 0 0 w _
      refine jWp.i2l (pc' := 38) mt rfl rfl (b32_id (by omega) (by omega)) ?_
      show jWp 215 38 [some (jO m), some (jI (l1 : Int)), some (jI i)] [jJ ((w.1 (m + 423) l1) - 1), jJ 0, jJ i] 0 0 w _
      refine jWp.calls (as := [jJ i, jJ 0, jJ ((w.1 (m + 423) l1) - 1)]) (rest := []) mt rfl rfl rfl rfl ?_
      refine jCall.mono (E_in (b64_id (by omega) (by omega)) (show b64 0 = 0 by decide) (b64_id (by omega) (by omega))) (fun v9 w9 h9 => ?_)
      rcases h9 with ⟨rfl, h9, h3⟩ | ⟨rfl, h9, h3⟩ <;> subst w9
      · have h3 : 0 ≤ i ∧ i ≤ ((w.1 (m + 423) l1) - 1) := h3
        show jWp 215 41 [some (jO m), some (jI (l1 : Int)), some (jI i)] [jI 1] 0 0 w _
        refine jWp.ifc (b := false) mt rfl (by decide) rfl ?_
        show jWp 215 44 [some (jO m), some (jI (l1 : Int)), some (jI i)] [] 0 0 w _
        obtain ⟨i1, rfl⟩ : ∃ i1 : Nat, i = (i1 : Int) := ⟨i.toNat, by omega⟩
        show jWp 215 44 [some (jO m), some (jI (l1 : Int)), some (jI (i1 : Int))] [] 0 0 w _
        refine jWp.blk mt 1 ?_
        show _ ∧ jWp 215 45 [some (jO m), some (jI (l1 : Int)), some (jI (i1 : Int))] [jO m] 0 0 w _
        refine ⟨rfl, ?_⟩
        refine jWp.getR (pc' := 48) (o := (m + 424)) mt rfl rfl (jtg hW.K0) hW.R28 ?_
        show jWp 215 48 [some (jO m), some (jI (l1 : Int)), some (jI (i1 : Int))] [jO (m + 424)] 0 0 w _
        refine jWp.blk mt 1 ?_
        show jWp 215 49 [some (jO m), some (jI (l1 : Int)), some (jI (i1 : Int))] [jI (l1 : Int), jO (m + 424)] 0 0 w _
        refine jWp.aald (pc' := 50) (j := l1) (o := (m + (425 + l1))) mt rfl rfl (jrg hW.K424 (by decide) (by decide)) (b32_id (by omega) (by omega)) (jlt hW.K424 (by omega)) (hW.RI l1 (by omega)) ?_
        show jWp 215 50 [some (jO m), some (jI (l1 : Int)), some (jI (i1 : Int))] [jO (m + (425 + l1))] 0 0 w _
        refine jWp.blk mt 1 ?_
        show jWp 215 51 [some (jO m), some (jI (l1 : Int)), some (jI (i1 : Int))] [jI (i1 : Int), jO (m + (425 + l1))] 0 0 w _
        refine jWp.lald (pc' := 52) (j := i1) mt rfl rfl (jtg (hW.KI _ (by omega))) (b32_id (by omega) (by omega)) (jlt (hW.KI _ (by omega)) (by omega)) ?_
        show jWp 215 52 [some (jO m), some (jI (l1 : Int)), some (jI (i1 : Int))] [jJ (w.1 (m + (425 + l1)) i1)] 0 0 w _
        refine jWp.blk mt 1 ?_
        show jWp 215 58 [some (jO m), some (jI (l1 : Int)), some (jI (i1 : Int))] [jJ (w.1 (m + (425 + l1)) i1)] 0 0 w _
        refine jWp.lret mt rfl ⟨rfl, rfl⟩ rfl ?_
        try rw [show ((l1 : Nat) : Int).toNat = l1 from rfl]
        refine ⟨fun c0 => ?_, fun c0 c1 => ?_, fun c0 c1 c2 => ?_, fun c0 c1 c2 => ?_⟩
        all_goals first
        | (exfalso; omega)
        | exact ⟨rfl, rfl⟩
      · have h3 : ¬ (0 ≤ i ∧ i ≤ ((w.1 (m + 423) l1) - 1)) := h3
        show jWp 215 41 [some (jO m), some (jI (l1 : Int)), some (jI i)] [jI 0] 0 0 w _
        refine jWp.ifc (b := true) mt rfl (by decide) rfl ?_
        show jWp 215 55 [some (jO m), some (jI (l1 : Int)), some (jI i)] [] 0 0 w _
        refine jWp.blk mt 1 ?_
        show jWp 215 58 [some (jO m), some (jI (l1 : Int)), some (jI i)] [jJ 4000000000000000013] 0 0 w _
        refine jWp.lret mt rfl ⟨rfl, rfl⟩ rfl ?_
        try rw [show ((l1 : Nat) : Int).toNat = l1 from rfl]
        refine ⟨fun c0 => ?_, fun c0 c1 => ?_, fun c0 c1 c2 => ?_, fun c0 c1 c2 => ?_⟩
        all_goals first
        | (exfalso; omega)
        | exact ⟨rfl, rfl⟩
    · have h2 : (w.1 (m + 423) l1) < 0 := h2
      refine jWp.blk mt 1 ?_
      show jWp 215 25 [some (jO m), some (jI (l1 : Int)), some (jI i)] [jJ 4000000000000000011] 0 0 w _
      refine jWp.lret mt rfl ⟨rfl, rfl⟩ rfl ?_
      try rw [show ((l1 : Nat) : Int).toNat = l1 from rfl]
      refine ⟨fun c0 => ?_, fun c0 c1 => ?_, fun c0 c1 c2 => ?_, fun c0 c1 c2 => ?_⟩
      all_goals first
      | (exfalso; omega)
      | exact ⟨rfl, rfl⟩
  · have h1 : ¬ (0 ≤ l ∧ l ≤ 2) := h1
    show jWp 215 4 [some (jO m), some (jI l), some (jI i)] [jI 0] 0 0 w _
    refine jWp.ifc (b := false) mt rfl (by decide) rfl ?_
    show jWp 215 7 [some (jO m), some (jI l), some (jI i)] [] 0 0 w _
    refine jWp.blk mt 2 ?_
    show _ ∧ jWp 215 9 [some (jO m), some (jI l), some (jI i)] [jI (-1), jO m] 0 0 w _
    refine ⟨rfl, ?_⟩
    refine jWp.callv (as := [jO m, jI (-1)]) (rest := []) mt rfl rfl rfl ⟨rfl, jtg hW.K0⟩ ?_
    refine jCall.mono (E_farther (w := w) (j := 1) hW (by decide) (by decide)) (fun v9 w9 h9 => ?_)
    obtain ⟨rfl, h9⟩ := h9
    subst h9
    show jWp 215 12 [some (jO m), some (jI l), some (jI i)] [jJ (4000000000000000000 - (-1))] 0 0 (jW w (m + 3) 1 ((w.1 (m + 3) 1) + 1)) _
    refine jWp.lret mt rfl ⟨rfl, rfl⟩ rfl ?_
    try rw [show ((l1 : Nat) : Int).toNat = l1 from rfl]
    refine ⟨fun c0 => ?_, fun c0 c1 => ?_, fun c0 c1 c2 => ?_, fun c0 c1 c2 => ?_⟩
    all_goals first
    | (exfalso; omega)
    | exact ⟨rfl, rfl⟩
/-- the rows as the reference holds them -/
def zRw (r : Nat → Int) (c : Nat) : Prop := r 0 = (c : Int) ∧ c ≤ 4 ∧ ∀ x, x < c → (0 ≤ r (1 + 10 * x) ∧ r (1 + 10 * x) ≤ 6) ∧ (0 ≤ r (2 + 10 * x) ∧ r (2 + 10 * x) ≤ 9) ∧ ∀ y, y < 8 → 1 ≤ r (3 + 10 * x + y) ∧ r (3 + 10 * x + y) ≤ 9
set_option maxHeartbeats 4000000 in
set_option maxRecDepth 20000 in
theorem E_isRow {w : jS} {m : Nat} (hW : MW w.2 m) {c : Nat} (hR : zRw (w.1 (m + 2)) c) {r : Int} (hrr : r32 r) : jCall 140 [jO m, jI r] w (jvb (0 ≤ r ∧ r < (c : Int)) w) := by
  have mt : jtb 140 = jT140 := rfl
  have hrr1 : -2147483648 ≤ r ∧ r < 2147483648 := hrr
  have hc4 := hR.2.1
  show jWp 140 0 [some (jO m), some (jI r)] [] 0 0 w _
  refine jWp.blk mt 1 ?_
  show jWp 140 1 [some (jO m), some (jI r)] [jI r] 0 0 w _
  refine jWp.i2l (pc' := 2) mt rfl rfl (b32_id (by omega) (by omega)) ?_
  show jWp 140 2 [some (jO m), some (jI r)] [jJ r] 0 0 w _
  refine jWp.blk mt 2 ?_
  show _ ∧ jWp 140 4 [some (jO m), some (jI r)] [jO m, jJ 0, jJ r] 0 0 w _
  refine ⟨rfl, ?_⟩
  refine jWp.getR (pc' := 7) (o := (m + 2)) mt rfl rfl (jtg hW.K0) hW.R1 ?_
  show jWp 140 7 [some (jO m), some (jI r)] [jO (m + 2), jJ 0, jJ r] 0 0 w _
  refine jWp.blk mt 1 ?_
  show jWp 140 8 [some (jO m), some (jI r)] [jI 0, jO (m + 2), jJ 0, jJ r] 0 0 w _
  refine jWp.iald (pc' := 9) (j := 0) mt rfl rfl (jird_of hW.K2) (by decide) (jlt hW.K2 (by decide)) ?_
  rw [show (w.1 (m + 2) 0) = (c : Int) from hR.1]
  show jWp 140 9 [some (jO m), some (jI r)] [jI (c : Int), jJ 0, jJ r] 0 0 w _
  refine jWp.blk mt 2 ?_
  show jWp 140 11 [some (jO m), some (jI r)] [jI ((c : Int) - 1), jJ 0, jJ r] 0 0 w _
  refine jWp.i2l (pc' := 12) mt rfl rfl (b32_id (by omega) (by omega)) ?_
  show jWp 140 12 [some (jO m), some (jI r)] [jJ ((c : Int) - 1), jJ 0, jJ r] 0 0 w _
  refine jWp.calls (as := [jJ r, jJ 0, jJ ((c : Int) - 1)]) (rest := []) mt rfl rfl rfl rfl ?_
  refine jCall.mono (E_in (b64_id (by omega) (by omega)) (show b64 0 = 0 by decide) (b64_id (by omega) (by omega))) (fun v9 w9 h9 => ?_)
  rcases h9 with ⟨rfl, h9, h1⟩ | ⟨rfl, h9, h1⟩ <;> subst w9
  · have h1 : 0 ≤ r ∧ r ≤ ((c : Int) - 1) := h1
    show jWp 140 15 [some (jO m), some (jI r)] [jI 1] 0 0 w _
    refine jWp.iretz mt rfl ⟨rfl, rfl⟩ rfl (Or.inr rfl) ?_
    exact Or.inl ⟨rfl, rfl, by omega⟩
  · have h1 : ¬ (0 ≤ r ∧ r ≤ ((c : Int) - 1)) := h1
    show jWp 140 15 [some (jO m), some (jI r)] [jI 0] 0 0 w _
    refine jWp.iretz mt rfl ⟨rfl, rfl⟩ rfl (Or.inl rfl) ?_
    exact Or.inr ⟨rfl, rfl, by omega⟩
set_option maxHeartbeats 4000000 in
set_option maxRecDepth 20000 in
theorem E_law {w : jS} {m : Nat} (hW : MW w.2 m) {x : Nat} (hx : x < 4) : jCall 142 [jO m, jI (x : Int)] w (jvi (w.1 (m + 2) (1 + 10 * x)) w) := by
  have mt : jtb 142 = jT142 := rfl
  show jWp 142 0 [some (jO m), some (jI (x : Int))] [] 0 0 w _
  refine jWp.blk mt 1 ?_
  show _ ∧ jWp 142 1 [some (jO m), some (jI (x : Int))] [jO m] 0 0 w _
  refine ⟨rfl, ?_⟩
  refine jWp.getR (pc' := 4) (o := (m + 2)) mt rfl rfl (jtg hW.K0) hW.R1 ?_
  show jWp 142 4 [some (jO m), some (jI (x : Int))] [jO (m + 2)] 0 0 w _
  refine jWp.blk mt 5 ?_
  show jWp 142 10 [some (jO m), some (jI (x : Int))] [jI (1 + (10 * (x : Int))), jO (m + 2)] 0 0 w _
  refine jWp.iald (pc' := 11) (j := (1 + (10 * x))) mt rfl rfl (jird_of hW.K2) (by rw [b32_id (by omega) (by omega)] <;> omega) (jlt hW.K2 (by omega)) ?_
  show jWp 142 11 [some (jO m), some (jI (x : Int))] [jI (w.1 (m + 2) (1 + (10 * x)))] 0 0 w _
  refine jWp.ireti mt rfl ⟨rfl, rfl⟩ rfl ?_
  exact ⟨rfl, rfl⟩
set_option maxHeartbeats 4000000 in
set_option maxRecDepth 20000 in
theorem E_figure {w : jS} {m : Nat} (hW : MW w.2 m) {x : Nat} (hx : x < 4) : jCall 143 [jO m, jI (x : Int)] w (jvi (w.1 (m + 2) (2 + 10 * x)) w) := by
  have mt : jtb 143 = jT143 := rfl
  show jWp 143 0 [some (jO m), some (jI (x : Int))] [] 0 0 w _
  refine jWp.blk mt 1 ?_
  show _ ∧ jWp 143 1 [some (jO m), some (jI (x : Int))] [jO m] 0 0 w _
  refine ⟨rfl, ?_⟩
  refine jWp.getR (pc' := 4) (o := (m + 2)) mt rfl rfl (jtg hW.K0) hW.R1 ?_
  show jWp 143 4 [some (jO m), some (jI (x : Int))] [jO (m + 2)] 0 0 w _
  refine jWp.blk mt 5 ?_
  show jWp 143 10 [some (jO m), some (jI (x : Int))] [jI (2 + (10 * (x : Int))), jO (m + 2)] 0 0 w _
  refine jWp.iald (pc' := 11) (j := (2 + (10 * x))) mt rfl rfl (jird_of hW.K2) (by rw [b32_id (by omega) (by omega)] <;> omega) (jlt hW.K2 (by omega)) ?_
  show jWp 143 11 [some (jO m), some (jI (x : Int))] [jI (w.1 (m + 2) (2 + (10 * x)))] 0 0 w _
  refine jWp.ireti mt rfl ⟨rfl, rfl⟩ rfl ?_
  exact ⟨rfl, rfl⟩
end
section
set_option maxHeartbeats 4000000 in
set_option maxRecDepth 20000 in
theorem E_undo {w : jS} {m : Nat} (hW : MW w.2 m) {u : Nat} (hu : w.1 m 15 = (u : Int)) (hu8 : u ≤ 8) : jCall 181 [jO m] w (fun v w1 => ((u = 0) → jno w m 3 (jI (-3)) v w1) ∧ (¬ (u = 0) → v = some (jI ((u : Int) - 1)) ∧ w1.2 = w.2 ∧ (∀ a, a ≠ m → a ≠ m + 1 → w1.1 a = w.1 a) ∧ (∀ j, j ≠ 15 → w1.1 m j = w.1 m j) ∧ w1.1 m 15 = ((u - 1 : Nat) : Int) ∧ ∀ c, c < 45 → w1.1 (m + 1) c = w.1 (m + (8 + (u - 1))) c)) := by
  have mt : jtb 181 = jT181 := rfl
  show jWp 181 0 [some (jO m)] [] 0 0 w _
  refine jWp.blk mt 1 ?_
  show _ ∧ jWp 181 1 [some (jO m)] [jO m] 0 0 w _
  refine ⟨rfl, ?_⟩
  refine jWp.getI (pc' := 4) mt rfl rfl (jtg hW.K0) ?_
  rw [show (w.1 m 15) = (u : Int) from hu]
  show jWp 181 4 [some (jO m)] [jI (u : Int)] 0 0 w _
  refine jWp.ifz (pc' := 7) mt rfl rfl (b32_id (by omega) (by omega)) (fun h1 => ?_) (fun h1 => ?_)
  · have h1 : (u : Int) ≠ 0 := h1
    refine jWp.blk mt 2 ?_
    show _ ∧ _ ∧ jWp 181 16 [some (jO m)] [jO m, jO m] 0 0 w _
    refine ⟨rfl, rfl, ?_⟩
    refine jWp.getI (pc' := 19) mt rfl rfl (jtg hW.K0) ?_
    rw [show (w.1 m 15) = (u : Int) from hu]
    show jWp 181 19 [some (jO m)] [jI (u : Int), jO m] 0 0 w _
    refine jWp.blk mt 2 ?_
    show jWp 181 21 [some (jO m)] [jI ((u : Int) - 1), jO m] 0 0 w _
    refine jWp.putI (pc' := 24) mt rfl rfl (jtg hW.K0) ?_
    show jWp 181 24 [some (jO m)] [] 0 0 (jW w m 15 ((u : Int) - 1)) _
    refine jWp.blk mt 1 ?_
    show _ ∧ jWp 181 25 [some (jO m)] [jO m] 0 0 (jW w m 15 ((u : Int) - 1)) _
    refine ⟨rfl, ?_⟩
    refine jWp.getR (pc' := 28) (o := (m + 7)) mt rfl rfl (jtg hW.K0) hW.R14 ?_
    show jWp 181 28 [some (jO m)] [jO (m + 7)] 0 0 (jW w m 15 ((u : Int) - 1)) _
    refine jWp.blk mt 1 ?_
    show _ ∧ jWp 181 29 [some (jO m)] [jO m, jO (m + 7)] 0 0 (jW w m 15 ((u : Int) - 1)) _
    refine ⟨rfl, ?_⟩
    refine jWp.getI (pc' := 32) mt rfl rfl (jtg hW.K0) ?_
    rw [show ((jW w m 15 ((u : Int) - 1)).1 m 15) = ((u : Int) - 1) from jW_s]
    show jWp 181 32 [some (jO m)] [jI ((u : Int) - 1), jO (m + 7)] 0 0 (jW w m 15 ((u : Int) - 1)) _
    refine jWp.aald (pc' := 33) (j := (u - 1)) (o := (m + (8 + (u - 1)))) mt rfl rfl (jrg hW.K7 (by decide) (by decide)) (by rw [b32_id (by omega) (by omega)]; omega) (jlt hW.K7 (by omega)) (hW.RW (u - 1) (by omega)) ?_
    show jWp 181 33 [some (jO m)] [jO (m + (8 + (u - 1)))] 0 0 (jW w m 15 ((u : Int) - 1)) _
    refine jWp.blk mt 1 ?_
    show _ ∧ jWp 181 34 [some (jO m)] [jO m, jO (m + (8 + (u - 1)))] 0 0 (jW w m 15 ((u : Int) - 1)) _
    refine ⟨rfl, ?_⟩
    refine jWp.getR (pc' := 37) (o := (m + 1)) mt rfl rfl (jtg hW.K0) hW.R0 ?_
    show jWp 181 37 [some (jO m)] [jO (m + 1), jO (m + (8 + (u - 1)))] 0 0 (jW w m 15 ((u : Int) - 1)) _
    refine jWp.calls (as := [jO (m + (8 + (u - 1))), jO (m + 1)]) (rest := []) mt rfl rfl rfl rfl ?_
    refine jCall.mono (E_copies (w := (jW w m 15 ((u : Int) - 1))) (a := m + (8 + (u - 1))) (q := m + 1) (hW.KW _ (by omega)) hW.K1 (by omega)) (fun v9 w9 h9 => ?_)
    obtain ⟨rfl, T2, h9, hT3⟩ := h9
    subst h9
    have hT3b : ∀ j, j < 45 → T2 j = (w.1 (m + (8 + (u - 1)))) j := fun j hj => (hT3 j hj).trans (congrFun ((jW_f (by omega)).trans rfl) j)
    show jWp 181 40 [some (jO m)] [] 0 0 (kA (jW w m 15 ((u : Int) - 1)) (m + 1) T2) _
    refine jWp.blk mt 1 ?_
    show _ ∧ jWp 181 41 [some (jO m)] [jO m] 0 0 (kA (jW w m 15 ((u : Int) - 1)) (m + 1) T2) _
    refine ⟨rfl, ?_⟩
    refine jWp.getI (pc' := 44) mt rfl rfl (jtg hW.K0) ?_
    rw [show ((kA (jW w m 15 ((u : Int) - 1)) (m + 1) T2).1 m 15) = ((u : Int) - 1) from ((kA_a (by omega)).trans jW_s)]
    show jWp 181 44 [some (jO m)] [jI ((u : Int) - 1)] 0 0 (kA (jW w m 15 ((u : Int) - 1)) (m + 1) T2) _
    refine jWp.ireti mt rfl ⟨rfl, rfl⟩ rfl ?_
    refine ⟨fun c0 => ?_, fun c0 => ?_⟩
    all_goals first
    | (exfalso; omega)
    | exact ⟨rfl, rfl⟩
    | exact ⟨rfl, rfl, fun a h0 h1 => (kA_f h1).trans (jW_f h0), fun j hj => (kA_a (by omega)).trans (jW_k hj), (kA_a (by omega)).trans (jW_s.trans (by omega)), fun c hc => kA_s.trans (hT3b c hc)⟩
  · have h1 : (u : Int) = 0 := h1
    refine jWp.blk mt 2 ?_
    show _ ∧ jWp 181 10 [some (jO m)] [jI (-3), jO m] 0 0 w _
    refine ⟨rfl, ?_⟩
    refine jWp.callv (as := [jO m, jI (-3)]) (rest := []) mt rfl rfl rfl ⟨rfl, jtg hW.K0⟩ ?_
    refine jCall.mono (E_refuses (w := w) (j := 3) hW (by decide) (by decide)) (fun v9 w9 h9 => ?_)
    obtain ⟨rfl, h9⟩ := h9
    subst h9
    show jWp 181 13 [some (jO m)] [jI (-3)] 0 0 (jW w (m + 3) 3 ((w.1 (m + 3) 3) + 1)) _
    refine jWp.ireti mt rfl ⟨rfl, rfl⟩ rfl ?_
    refine ⟨fun c0 => ?_, fun c0 => ?_⟩
    all_goals first
    | (exfalso; omega)
    | exact ⟨rfl, rfl⟩
set_option maxHeartbeats 4000000 in
set_option maxRecDepth 20000 in
theorem E_image {w : jS} {m : Nat} (hW : MW w.2 m) : jCall 217 [jO m] w (fun v w1 => v = some (jI (w.1 (m + 2) 0)) ∧ w1.2 = w.2 ∧ (∀ a, a ≠ m → a ≠ m + 428 → a ≠ m + 429 → w1.1 a = w.1 a) ∧ (∀ j, j ≠ 31 → w1.1 m j = w.1 m j) ∧ w1.1 m 31 = 1 ∧ (∀ c, c < 45 → w1.1 (m + 428) c = w.1 (m + 1) c) ∧ ∀ c, c < 41 → w1.1 (m + 429) c = w.1 (m + 2) c) := by
  have mt : jtb 217 = jT217 := rfl
  show jWp 217 0 [some (jO m), none] [] 0 0 w _
  refine jWp.blk mt 1 ?_
  show _ ∧ jWp 217 1 [some (jO m), none] [jO m] 0 0 w _
  refine ⟨rfl, ?_⟩
  refine jWp.getR (pc' := 4) (o := (m + 1)) mt rfl rfl (jtg hW.K0) hW.R0 ?_
  show jWp 217 4 [some (jO m), none] [jO (m + 1)] 0 0 w _
  refine jWp.blk mt 1 ?_
  show _ ∧ jWp 217 5 [some (jO m), none] [jO m, jO (m + 1)] 0 0 w _
  refine ⟨rfl, ?_⟩
  refine jWp.getR (pc' := 8) (o := (m + 428)) mt rfl rfl (jtg hW.K0) hW.R29 ?_
  show jWp 217 8 [some (jO m), none] [jO (m + 428), jO (m + 1)] 0 0 w _
  refine jWp.calls (as := [jO (m + 1), jO (m + 428)]) (rest := []) mt rfl rfl rfl rfl ?_
  refine jCall.mono (E_copies (w := w) (a := m + 1) (q := m + 428) hW.K1 hW.K428 (by omega)) (fun v9 w9 h9 => ?_)
  obtain ⟨rfl, T1, h9, hT2⟩ := h9
  subst h9
  show jWp 217 11 [some (jO m), none] [] 0 0 (kA w (m + 428) T1) _
  refine jWp.blk mt 2 ?_
  show jWp 217 13 [some (jO m), some (jI 0)] [] 0 0 (kA w (m + 428) T1) _
  have lp3 : ∀ (N : Nat) (i : Nat) (T : Nat → Int) (hi : i ≤ 41) (hTT : ∀ j, j < i → T j = w.1 (m + 2) j), 41 - i < N → jWp 217 13 [some (jO m), some (jI (i : Int))] [] 0 0 (kA (kA w (m + 428) T1) (m + 429) T) (fun v w1 => v = some (jI (w.1 (m + 2) 0)) ∧ w1.2 = w.2 ∧ (∀ a, a ≠ m → a ≠ m + 428 → a ≠ m + 429 → w1.1 a = w.1 a) ∧ (∀ j, j ≠ 31 → w1.1 m j = w.1 m j) ∧ w1.1 m 31 = 1 ∧ (∀ c, c < 45 → w1.1 (m + 428) c = w.1 (m + 1) c) ∧ ∀ c, c < 41 → w1.1 (m + 429) c = w.1 (m + 2) c) := by
    intro N
    induction N with
    | zero => intro i T hi hTT hm; omega
    | succ N ih4 =>
      intro i T hi hTT hm
      refine jWp.blk mt 2 ?_
      show jWp 217 16 [some (jO m), some (jI (i : Int))] [jI 41, jI (i : Int)] 0 0 (kA (kA w (m + 428) T1) (m + 429) T) _
      refine jWp.icmp (pc' := 19) mt rfl rfl (b32_id (by omega) (by omega)) (show b32 41 = 41 by decide) (fun h5 => ?_) (fun h5 => ?_)
      · have h5 : 41 ≤ (i : Int) := h5
        refine jWp.blk mt 2 ?_
        show _ ∧ jWp 217 39 [some (jO m), some (jI (i : Int))] [jI 1, jO m] 0 0 (kA (kA w (m + 428) T1) (m + 429) T) _
        refine ⟨rfl, ?_⟩
        refine jWp.putZ (pc' := 42) mt rfl rfl (jtg hW.K0) (by decide) ?_
        show jWp 217 42 [some (jO m), some (jI (i : Int))] [] 0 0 (jW (kA (kA w (m + 428) T1) (m + 429) T) m 31 1) _
        refine jWp.blk mt 1 ?_
        show _ ∧ jWp 217 43 [some (jO m), some (jI (i : Int))] [jO m] 0 0 (jW (kA (kA w (m + 428) T1) (m + 429) T) m 31 1) _
        refine ⟨rfl, ?_⟩
        refine jWp.getR (pc' := 46) (o := (m + 2)) mt rfl rfl (jtg hW.K0) hW.R1 ?_
        show jWp 217 46 [some (jO m), some (jI (i : Int))] [jO (m + 2)] 0 0 (jW (kA (kA w (m + 428) T1) (m + 429) T) m 31 1) _
        refine jWp.blk mt 1 ?_
        show jWp 217 47 [some (jO m), some (jI (i : Int))] [jI 0, jO (m + 2)] 0 0 (jW (kA (kA w (m + 428) T1) (m + 429) T) m 31 1) _
        refine jWp.iald (pc' := 48) (j := 0) mt rfl rfl (jird_of hW.K2) (by decide) (jlt hW.K2 (by decide)) ?_
        rw [show ((jW (kA (kA w (m + 428) T1) (m + 429) T) m 31 1).1 (m + 2) 0) = (w.1 (m + 2) 0) from ((jW_a (by omega)).trans ((kA_a (by omega)).trans ((kA_a (by omega)).trans rfl)))]
        show jWp 217 48 [some (jO m), some (jI (i : Int))] [jI (w.1 (m + 2) 0)] 0 0 (jW (kA (kA w (m + 428) T1) (m + 429) T) m 31 1) _
        refine jWp.ireti mt rfl ⟨rfl, rfl⟩ rfl ?_
        exact ⟨rfl, rfl, fun a h0 h1 h2 => (jW_f h0).trans ((kA_f h2).trans (kA_f h1)), fun j hj => (jW_k hj).trans ((kA_a (by omega)).trans (kA_a (by omega))), jW_s, fun c hc => (jW_a (by omega)).trans ((kA_a (by omega)).trans (kA_s.trans (hT2 c hc))), fun c hc => (jW_a (by omega)).trans (kA_s.trans (hTT c (by omega)))⟩
      · have h5 : (i : Int) < 41 := h5
        refine jWp.blk mt 1 ?_
        show _ ∧ jWp 217 20 [some (jO m), some (jI (i : Int))] [jO m] 0 0 (kA (kA w (m + 428) T1) (m + 429) T) _
        refine ⟨rfl, ?_⟩
        refine jWp.getR (pc' := 23) (o := (m + 429)) mt rfl rfl (jtg hW.K0) hW.R30 ?_
        show jWp 217 23 [some (jO m), some (jI (i : Int))] [jO (m + 429)] 0 0 (kA (kA w (m + 428) T1) (m + 429) T) _
        refine jWp.blk mt 2 ?_
        show _ ∧ jWp 217 25 [some (jO m), some (jI (i : Int))] [jO m, jI (i : Int), jO (m + 429)] 0 0 (kA (kA w (m + 428) T1) (m + 429) T) _
        refine ⟨rfl, ?_⟩
        refine jWp.getR (pc' := 28) (o := (m + 2)) mt rfl rfl (jtg hW.K0) hW.R1 ?_
        show jWp 217 28 [some (jO m), some (jI (i : Int))] [jO (m + 2), jI (i : Int), jO (m + 429)] 0 0 (kA (kA w (m + 428) T1) (m + 429) T) _
        refine jWp.blk mt 1 ?_
        show jWp 217 29 [some (jO m), some (jI (i : Int))] [jI (i : Int), jO (m + 2), jI (i : Int), jO (m + 429)] 0 0 (kA (kA w (m + 428) T1) (m + 429) T) _
        refine jWp.iald (pc' := 30) (j := i) mt rfl rfl (jird_of hW.K2) (b32_id (by omega) (by omega)) (jlt hW.K2 (by omega)) ?_
        rw [show ((kA (kA w (m + 428) T1) (m + 429) T).1 (m + 2) i) = (w.1 (m + 2) i) from ((kA_a (by omega)).trans ((kA_a (by omega)).trans rfl))]
        show jWp 217 30 [some (jO m), some (jI (i : Int))] [jI (w.1 (m + 2) i), jI (i : Int), jO (m + 429)] 0 0 (kA (kA w (m + 428) T1) (m + 429) T) _
        refine jWp.iast (pc' := 31) (j := i) mt rfl rfl (jtg hW.K429) (b32_id (by omega) (by omega)) (jlt hW.K429 (by omega)) ?_
        rw [show jW (kA (kA w (m + 428) T1) (m + 429) T) (m + 429) i (w.1 (m + 2) i) = (kA (kA w (m + 428) T1) (m + 429) (zset T i (w.1 (m + 2) i))) from kA_W]
        show jWp 217 31 [some (jO m), some (jI (i : Int))] [] 0 0 (kA (kA w (m + 428) T1) (m + 429) (zset T i (w.1 (m + 2) i))) _
        refine jWp.blk mt 2 ?_
        show jWp 217 13 [some (jO m), some (jI ((i : Int) + 1))] [] 0 0 (kA (kA w (m + 428) T1) (m + 429) (zset T i (w.1 (m + 2) i))) _
        refine jWp.le (l := [some (jO m), some (jI ((i : Int) + 1))]) (by exact ⟨rfl, rfl, trivial⟩) ?_
        exact ih4 (i + 1) _ (by omega) (fun j hj => by rcases Nat.lt_or_ge j i with h | h; rw [zset_n (by omega)]; exact hTT j h; rw [show j = i by omega, zset_s]) (by omega)
  refine jWp.le (l := [some (jO m), some (jI 0)]) (by exact ⟨rfl, rfl, trivial⟩) ?_
  have key := lp3 _ 0 ((kA w (m + 428) T1).1 (m + 429)) (by omega) (fun j hj => absurd hj (by omega)) (Nat.lt_succ_self _)
  rw [kA_self] at key
  exact key
set_option maxHeartbeats 4000000 in
set_option maxRecDepth 20000 in
theorem E_on {w : jS} {m : Nat} (hW : MW w.2 m) (hk : w.1 m 31 = 0 ∨ w.1 m 31 = 1) : jCall 218 [jO m] w (fun v w1 => ((w.1 m 31 = 0) → jno w m 3 (jI (-3)) v w1) ∧ (¬ (w.1 m 31 = 0) → v = some (jI (w.1 (m + 429) 0)) ∧ w1.2 = w.2 ∧ (∀ a, a ≠ m → a ≠ m + 1 → a ≠ m + 2 → w1.1 a = w.1 a) ∧ (∀ j, j ≠ 15 → w1.1 m j = w.1 m j) ∧ w1.1 m 15 = 0 ∧ (∀ c, c < 45 → w1.1 (m + 1) c = w.1 (m + 428) c) ∧ ∀ c, c < 41 → w1.1 (m + 2) c = w.1 (m + 429) c)) := by
  have mt : jtb 218 = jT218 := rfl
  show jWp 218 0 [some (jO m), none] [] 0 0 w _
  refine jWp.blk mt 1 ?_
  show _ ∧ jWp 218 1 [some (jO m), none] [jO m] 0 0 w _
  refine ⟨rfl, ?_⟩
  refine jWp.getZ (pc' := 4) mt rfl rfl (jtg hW.K0) ?_
  show jWp 218 4 [some (jO m), none] [jI (w.1 m 31)] 0 0 w _
  refine jWp.ifz (pc' := 7) mt rfl rfl (b32_id (by omega) (by omega)) (fun h1 => ?_) (fun h1 => ?_)
  · have h1 : (w.1 m 31) ≠ 0 := h1
    refine jWp.blk mt 1 ?_
    show _ ∧ jWp 218 15 [some (jO m), none] [jO m] 0 0 w _
    refine ⟨rfl, ?_⟩
    refine jWp.getR (pc' := 18) (o := (m + 428)) mt rfl rfl (jtg hW.K0) hW.R29 ?_
    show jWp 218 18 [some (jO m), none] [jO (m + 428)] 0 0 w _
    refine jWp.blk mt 1 ?_
    show _ ∧ jWp 218 19 [some (jO m), none] [jO m, jO (m + 428)] 0 0 w _
    refine ⟨rfl, ?_⟩
    refine jWp.getR (pc' := 22) (o := (m + 1)) mt rfl rfl (jtg hW.K0) hW.R0 ?_
    show jWp 218 22 [some (jO m), none] [jO (m + 1), jO (m + 428)] 0 0 w _
    refine jWp.calls (as := [jO (m + 428), jO (m + 1)]) (rest := []) mt rfl rfl rfl rfl ?_
    refine jCall.mono (E_copies (w := w) (a := m + 428) (q := m + 1) hW.K428 hW.K1 (by omega)) (fun v9 w9 h9 => ?_)
    obtain ⟨rfl, T2, h9, hT3⟩ := h9
    subst h9
    show jWp 218 25 [some (jO m), none] [] 0 0 (kA w (m + 1) T2) _
    refine jWp.blk mt 2 ?_
    show jWp 218 27 [some (jO m), some (jI 0)] [] 0 0 (kA w (m + 1) T2) _
    have lp4 : ∀ (N : Nat) (i : Nat) (T : Nat → Int) (hi : i ≤ 41) (hTT : ∀ j, j < i → T j = w.1 (m + 429) j), 41 - i < N → jWp 218 27 [some (jO m), some (jI (i : Int))] [] 0 0 (kA (kA w (m + 1) T2) (m + 2) T) (fun v w1 => ((w.1 m 31 = 0) → jno w m 3 (jI (-3)) v w1) ∧ (¬ (w.1 m 31 = 0) → v = some (jI (w.1 (m + 429) 0)) ∧ w1.2 = w.2 ∧ (∀ a, a ≠ m → a ≠ m + 1 → a ≠ m + 2 → w1.1 a = w.1 a) ∧ (∀ j, j ≠ 15 → w1.1 m j = w.1 m j) ∧ w1.1 m 15 = 0 ∧ (∀ c, c < 45 → w1.1 (m + 1) c = w.1 (m + 428) c) ∧ ∀ c, c < 41 → w1.1 (m + 2) c = w.1 (m + 429) c)) := by
      intro N
      induction N with
      | zero => intro i T hi hTT hm; omega
      | succ N ih5 =>
        intro i T hi hTT hm
        refine jWp.blk mt 2 ?_
        show jWp 218 30 [some (jO m), some (jI (i : Int))] [jI 41, jI (i : Int)] 0 0 (kA (kA w (m + 1) T2) (m + 2) T) _
        refine jWp.icmp (pc' := 33) mt rfl rfl (b32_id (by omega) (by omega)) (show b32 41 = 41 by decide) (fun h6 => ?_) (fun h6 => ?_)
        · have h6 : 41 ≤ (i : Int) := h6
          refine jWp.blk mt 2 ?_
          show _ ∧ jWp 218 53 [some (jO m), some (jI (i : Int))] [jI 0, jO m] 0 0 (kA (kA w (m + 1) T2) (m + 2) T) _
          refine ⟨rfl, ?_⟩
          refine jWp.putI (pc' := 56) mt rfl rfl (jtg hW.K0) ?_
          show jWp 218 56 [some (jO m), some (jI (i : Int))] [] 0 0 (jW (kA (kA w (m + 1) T2) (m + 2) T) m 15 0) _
          refine jWp.blk mt 1 ?_
          show _ ∧ jWp 218 57 [some (jO m), some (jI (i : Int))] [jO m] 0 0 (jW (kA (kA w (m + 1) T2) (m + 2) T) m 15 0) _
          refine ⟨rfl, ?_⟩
          refine jWp.getR (pc' := 60) (o := (m + 2)) mt rfl rfl (jtg hW.K0) hW.R1 ?_
          show jWp 218 60 [some (jO m), some (jI (i : Int))] [jO (m + 2)] 0 0 (jW (kA (kA w (m + 1) T2) (m + 2) T) m 15 0) _
          refine jWp.blk mt 1 ?_
          show jWp 218 61 [some (jO m), some (jI (i : Int))] [jI 0, jO (m + 2)] 0 0 (jW (kA (kA w (m + 1) T2) (m + 2) T) m 15 0) _
          refine jWp.iald (pc' := 62) (j := 0) mt rfl rfl (jird_of hW.K2) (by decide) (jlt hW.K2 (by decide)) ?_
          rw [show ((jW (kA (kA w (m + 1) T2) (m + 2) T) m 15 0).1 (m + 2) 0) = (T 0) from ((jW_a (by omega)).trans kA_s)]
          show jWp 218 62 [some (jO m), some (jI (i : Int))] [jI (T 0)] 0 0 (jW (kA (kA w (m + 1) T2) (m + 2) T) m 15 0) _
          refine jWp.ireti mt rfl ⟨rfl, rfl⟩ rfl ?_
          refine ⟨fun c0 => ?_, fun c0 => ?_⟩
          all_goals first
          | (exfalso; omega)
          | exact ⟨rfl, rfl⟩
          | exact ⟨by rw [hTT 0 (by omega)], rfl, fun a h0 h1 h2 => (jW_f h0).trans ((kA_f h2).trans (kA_f h1)), fun j hj => (jW_k hj).trans ((kA_a (by omega)).trans (kA_a (by omega))), jW_s, fun c hc => (jW_a (by omega)).trans ((kA_a (by omega)).trans (kA_s.trans (hT3 c hc))), fun c hc => (jW_a (by omega)).trans (kA_s.trans (hTT c (by omega)))⟩
        · have h6 : (i : Int) < 41 := h6
          refine jWp.blk mt 1 ?_
          show _ ∧ jWp 218 34 [some (jO m), some (jI (i : Int))] [jO m] 0 0 (kA (kA w (m + 1) T2) (m + 2) T) _
          refine ⟨rfl, ?_⟩
          refine jWp.getR (pc' := 37) (o := (m + 2)) mt rfl rfl (jtg hW.K0) hW.R1 ?_
          show jWp 218 37 [some (jO m), some (jI (i : Int))] [jO (m + 2)] 0 0 (kA (kA w (m + 1) T2) (m + 2) T) _
          refine jWp.blk mt 2 ?_
          show _ ∧ jWp 218 39 [some (jO m), some (jI (i : Int))] [jO m, jI (i : Int), jO (m + 2)] 0 0 (kA (kA w (m + 1) T2) (m + 2) T) _
          refine ⟨rfl, ?_⟩
          refine jWp.getR (pc' := 42) (o := (m + 429)) mt rfl rfl (jtg hW.K0) hW.R30 ?_
          show jWp 218 42 [some (jO m), some (jI (i : Int))] [jO (m + 429), jI (i : Int), jO (m + 2)] 0 0 (kA (kA w (m + 1) T2) (m + 2) T) _
          refine jWp.blk mt 1 ?_
          show jWp 218 43 [some (jO m), some (jI (i : Int))] [jI (i : Int), jO (m + 429), jI (i : Int), jO (m + 2)] 0 0 (kA (kA w (m + 1) T2) (m + 2) T) _
          refine jWp.iald (pc' := 44) (j := i) mt rfl rfl (jird_of hW.K429) (b32_id (by omega) (by omega)) (jlt hW.K429 (by omega)) ?_
          rw [show ((kA (kA w (m + 1) T2) (m + 2) T).1 (m + 429) i) = (w.1 (m + 429) i) from ((kA_a (by omega)).trans ((kA_a (by omega)).trans rfl))]
          show jWp 218 44 [some (jO m), some (jI (i : Int))] [jI (w.1 (m + 429) i), jI (i : Int), jO (m + 2)] 0 0 (kA (kA w (m + 1) T2) (m + 2) T) _
          refine jWp.iast (pc' := 45) (j := i) mt rfl rfl (jtg hW.K2) (b32_id (by omega) (by omega)) (jlt hW.K2 (by omega)) ?_
          rw [show jW (kA (kA w (m + 1) T2) (m + 2) T) (m + 2) i (w.1 (m + 429) i) = (kA (kA w (m + 1) T2) (m + 2) (zset T i (w.1 (m + 429) i))) from kA_W]
          show jWp 218 45 [some (jO m), some (jI (i : Int))] [] 0 0 (kA (kA w (m + 1) T2) (m + 2) (zset T i (w.1 (m + 429) i))) _
          refine jWp.blk mt 2 ?_
          show jWp 218 27 [some (jO m), some (jI ((i : Int) + 1))] [] 0 0 (kA (kA w (m + 1) T2) (m + 2) (zset T i (w.1 (m + 429) i))) _
          refine jWp.le (l := [some (jO m), some (jI ((i : Int) + 1))]) (by exact ⟨rfl, rfl, trivial⟩) ?_
          exact ih5 (i + 1) _ (by omega) (fun j hj => by rcases Nat.lt_or_ge j i with h | h; rw [zset_n (by omega)]; exact hTT j h; rw [show j = i by omega, zset_s]) (by omega)
    refine jWp.le (l := [some (jO m), some (jI 0)]) (by exact ⟨rfl, rfl, trivial⟩) ?_
    have key := lp4 _ 0 ((kA w (m + 1) T2).1 (m + 2)) (by omega) (fun j hj => absurd hj (by omega)) (Nat.lt_succ_self _)
    rw [kA_self] at key
    exact key
  · have h1 : (w.1 m 31) = 0 := h1
    refine jWp.blk mt 2 ?_
    show _ ∧ jWp 218 10 [some (jO m), none] [jI (-3), jO m] 0 0 w _
    refine ⟨rfl, ?_⟩
    refine jWp.callv (as := [jO m, jI (-3)]) (rest := []) mt rfl rfl rfl ⟨rfl, jtg hW.K0⟩ ?_
    refine jCall.mono (E_refuses (w := w) (j := 3) hW (by decide) (by decide)) (fun v9 w9 h9 => ?_)
    obtain ⟨rfl, h9⟩ := h9
    subst h9
    show jWp 218 13 [some (jO m), none] [jI (-3)] 0 0 (jW w (m + 3) 3 ((w.1 (m + 3) 3) + 1)) _
    refine jWp.ireti mt rfl ⟨rfl, rfl⟩ rfl ?_
    refine ⟨fun c0 => ?_, fun c0 => ?_⟩
    all_goals first
    | (exfalso; omega)
    | exact ⟨rfl, rfl⟩
end
section
set_option maxHeartbeats 4000000 in
set_option maxRecDepth 20000 in
theorem E_row {w : jS} {m : Nat} (hW : MW w.2 m) {c : Nat} (hR : zRw (w.1 (m + 2)) c) {l f : Int} (hrl : r32 l) (hrf : r32 f) : jCall 147 [jO m, jI l, jI f] w (fun v w1 => ((¬ (0 ≤ l ∧ l ≤ 6)) → jno w m 2 (jI (-2)) v w1) ∧ (¬ (¬ (0 ≤ l ∧ l ≤ 6)) → (f < 0) → jno w m 4 (jI (-4)) v w1) ∧ (¬ (¬ (0 ≤ l ∧ l ≤ 6)) → ¬ (f < 0) → (9 < f ∨ c = 4) → jno w m 6 (jI (-6)) v w1) ∧ (¬ (¬ (0 ≤ l ∧ l ≤ 6)) → ¬ (f < 0) → ¬ (9 < f ∨ c = 4) → v = some (jI (c : Int)) ∧ ∃ T, w1 = kA w (m + 2) T ∧ T 0 = (c : Int) + 1 ∧ T (1 + 10 * c) = l ∧ T (2 + 10 * c) = f ∧ (∀ y, y < 8 → T (3 + 10 * c + y) = 1) ∧ ∀ j, 1 ≤ j → j < 1 + 10 * c → T j = w.1 (m + 2) j)) := by
  have mt : jtb 147 = jT147 := rfl
  have hc4 := hR.2.1
  have hrl1 : -2147483648 ≤ l ∧ l < 2147483648 := hrl
  have hrf1 : -2147483648 ≤ f ∧ f < 2147483648 := hrf
  show jWp 147 0 [some (jO m), some (jI l), some (jI f), none, none] [] 0 0 w _
  refine jWp.blk mt 1 ?_
  show jWp 147 1 [some (jO m), some (jI l), some (jI f), none, none] [jI l] 0 0 w _
  refine jWp.i2l (pc' := 2) mt rfl rfl (b32_id (by omega) (by omega)) ?_
  show jWp 147 2 [some (jO m), some (jI l), some (jI f), none, none] [jJ l] 0 0 w _
  refine jWp.blk mt 2 ?_
  show jWp 147 6 [some (jO m), some (jI l), some (jI f), none, none] [jJ 6, jJ 0, jJ l] 0 0 w _
  refine jWp.calls (as := [jJ l, jJ 0, jJ 6]) (rest := []) mt rfl rfl rfl rfl ?_
  refine jCall.mono (E_in (b64_id (by omega) (by omega)) (show b64 0 = 0 by decide) (show b64 6 = 6 by decide)) (fun v9 w9 h9 => ?_)
  rcases h9 with ⟨rfl, h9, h1⟩ | ⟨rfl, h9, h1⟩ <;> subst w9
  · have h1 : 0 ≤ l ∧ l ≤ 6 := h1
    show jWp 147 9 [some (jO m), some (jI l), some (jI f), none, none] [jI 1] 0 0 w _
    refine jWp.ifc (b := true) mt rfl (by decide) rfl ?_
    show jWp 147 19 [some (jO m), some (jI l), some (jI f), none, none] [] 0 0 w _
    refine jWp.blk mt 1 ?_
    show jWp 147 20 [some (jO m), some (jI l), some (jI f), none, none] [jI f] 0 0 w _
    refine jWp.ifz (pc' := 23) mt rfl rfl (b32_id (by omega) (by omega)) (fun h2 => ?_) (fun h2 => ?_)
    · have h2 : 0 ≤ f := h2
      refine jWp.blk mt 2 ?_
      show jWp 147 33 [some (jO m), some (jI l), some (jI f), none, none] [jI 9, jI f] 0 0 w _
      refine jWp.icmp (pc' := 36) mt rfl rfl (b32_id (by omega) (by omega)) (show b32 9 = 9 by decide) (fun h3 => ?_) (fun h3 => ?_)
      · have h3 : 9 < f := h3
        refine jWp.blk mt 2 ?_
        show _ ∧ jWp 147 49 [some (jO m), some (jI l), some (jI f), none, none] [jI (-6), jO m] 0 0 w _
        refine ⟨rfl, ?_⟩
        refine jWp.callv (as := [jO m, jI (-6)]) (rest := []) mt rfl rfl rfl ⟨rfl, jtg hW.K0⟩ ?_
        refine jCall.mono (E_refuses (w := w) (j := 6) hW (by decide) (by decide)) (fun v9 w9 h9 => ?_)
        obtain ⟨rfl, h9⟩ := h9
        subst h9
        show jWp 147 52 [some (jO m), some (jI l), some (jI f), none, none] [jI (-6)] 0 0 (jW w (m + 3) 6 ((w.1 (m + 3) 6) + 1)) _
        refine jWp.ireti mt rfl ⟨rfl, rfl⟩ rfl ?_
        refine ⟨fun c0 => ?_, fun c0 c1 => ?_, fun c0 c1 c2 => ?_, fun c0 c1 c2 => ?_⟩
        all_goals first
        | (exfalso; omega)
        | exact ⟨rfl, rfl⟩
      · have h3 : f ≤ 9 := h3
        refine jWp.blk mt 1 ?_
        show _ ∧ jWp 147 37 [some (jO m), some (jI l), some (jI f), none, none] [jO m] 0 0 w _
        refine ⟨rfl, ?_⟩
        refine jWp.getR (pc' := 40) (o := (m + 2)) mt rfl rfl (jtg hW.K0) hW.R1 ?_
        show jWp 147 40 [some (jO m), some (jI l), some (jI f), none, none] [jO (m + 2)] 0 0 w _
        refine jWp.blk mt 1 ?_
        show jWp 147 41 [some (jO m), some (jI l), some (jI f), none, none] [jI 0, jO (m + 2)] 0 0 w _
        refine jWp.iald (pc' := 42) (j := 0) mt rfl rfl (jird_of hW.K2) (by decide) (jlt hW.K2 (by decide)) ?_
        rw [show (w.1 (m + 2) 0) = (c : Int) from hR.1]
        show jWp 147 42 [some (jO m), some (jI l), some (jI f), none, none] [jI (c : Int)] 0 0 w _
        refine jWp.blk mt 1 ?_
        show jWp 147 43 [some (jO m), some (jI l), some (jI f), none, none] [jI 4, jI (c : Int)] 0 0 w _
        refine jWp.icmp (pc' := 46) mt rfl rfl (b32_id (by omega) (by omega)) (show b32 4 = 4 by decide) (fun h4 => ?_) (fun h4 => ?_)
        · have h4 : (c : Int) ≠ 4 := h4
          refine jWp.blk mt 3 ?_
          show _ ∧ jWp 147 57 [some (jO m), some (jI l), some (jI f), none, none] [jO m, jI 10, jI 1] 0 0 w _
          refine ⟨rfl, ?_⟩
          refine jWp.getR (pc' := 60) (o := (m + 2)) mt rfl rfl (jtg hW.K0) hW.R1 ?_
          show jWp 147 60 [some (jO m), some (jI l), some (jI f), none, none] [jO (m + 2), jI 10, jI 1] 0 0 w _
          refine jWp.blk mt 1 ?_
          show jWp 147 61 [some (jO m), some (jI l), some (jI f), none, none] [jI 0, jO (m + 2), jI 10, jI 1] 0 0 w _
          refine jWp.iald (pc' := 62) (j := 0) mt rfl rfl (jird_of hW.K2) (by decide) (jlt hW.K2 (by decide)) ?_
          rw [show (w.1 (m + 2) 0) = (c : Int) from hR.1]
          show jWp 147 62 [some (jO m), some (jI l), some (jI f), none, none] [jI (c : Int), jI 10, jI 1] 0 0 w _
          refine jWp.blk mt 4 ?_
          show _ ∧ jWp 147 66 [some (jO m), some (jI l), some (jI f), some (jI (1 + (10 * (c : Int)))), none] [jO m] 0 0 w _
          refine ⟨rfl, ?_⟩
          refine jWp.getR (pc' := 69) (o := (m + 2)) mt rfl rfl (jtg hW.K0) hW.R1 ?_
          show jWp 147 69 [some (jO m), some (jI l), some (jI f), some (jI (1 + (10 * (c : Int)))), none] [jO (m + 2)] 0 0 w _
          refine jWp.blk mt 2 ?_
          show jWp 147 71 [some (jO m), some (jI l), some (jI f), some (jI (1 + (10 * (c : Int)))), none] [jI l, jI (1 + (10 * (c : Int))), jO (m + 2)] 0 0 w _
          refine jWp.iast (pc' := 72) (j := (1 + (10 * c))) mt rfl rfl (jtg hW.K2) (by rw [b32_id (by omega) (by omega)] <;> omega) (jlt hW.K2 (by omega)) ?_
          rw [show jW w (m + 2) (1 + (10 * c)) l = (kA w (m + 2) (zset (w.1 (m + 2)) (1 + (10 * c)) l)) from kA_W0]
          show jWp 147 72 [some (jO m), some (jI l), some (jI f), some (jI (1 + (10 * (c : Int)))), none] [] 0 0 (kA w (m + 2) (zset (w.1 (m + 2)) (1 + (10 * c)) l)) _
          refine jWp.blk mt 1 ?_
          show _ ∧ jWp 147 73 [some (jO m), some (jI l), some (jI f), some (jI (1 + (10 * (c : Int)))), none] [jO m] 0 0 (kA w (m + 2) (zset (w.1 (m + 2)) (1 + (10 * c)) l)) _
          refine ⟨rfl, ?_⟩
          refine jWp.getR (pc' := 76) (o := (m + 2)) mt rfl rfl (jtg hW.K0) hW.R1 ?_
          show jWp 147 76 [some (jO m), some (jI l), some (jI f), some (jI (1 + (10 * (c : Int)))), none] [jO (m + 2)] 0 0 (kA w (m + 2) (zset (w.1 (m + 2)) (1 + (10 * c)) l)) _
          refine jWp.blk mt 4 ?_
          show jWp 147 80 [some (jO m), some (jI l), some (jI f), some (jI (1 + (10 * (c : Int)))), none] [jI f, jI ((1 + (10 * (c : Int))) + 1), jO (m + 2)] 0 0 (kA w (m + 2) (zset (w.1 (m + 2)) (1 + (10 * c)) l)) _
          refine jWp.iast (pc' := 81) (j := ((1 + (10 * c)) + 1)) mt rfl rfl (jtg hW.K2) (by rw [b32_id (by omega) (by omega)] <;> omega) (jlt hW.K2 (by omega)) ?_
          rw [show jW (kA w (m + 2) (zset (w.1 (m + 2)) (1 + (10 * c)) l)) (m + 2) ((1 + (10 * c)) + 1) f = (kA w (m + 2) (zset (zset (w.1 (m + 2)) (1 + (10 * c)) l) ((1 + (10 * c)) + 1) f)) from kA_W]
          show jWp 147 81 [some (jO m), some (jI l), some (jI f), some (jI (1 + (10 * (c : Int)))), none] [] 0 0 (kA w (m + 2) (zset (zset (w.1 (m + 2)) (1 + (10 * c)) l) ((1 + (10 * c)) + 1) f)) _
          refine jWp.blk mt 2 ?_
          show jWp 147 84 [some (jO m), some (jI l), some (jI f), some (jI (1 + (10 * (c : Int)))), some (jI 0)] [] 0 0 (kA w (m + 2) (zset (zset (w.1 (m + 2)) (1 + (10 * c)) l) ((1 + (10 * c)) + 1) f)) _
          have lp5 : ∀ (N : Nat) (k : Nat) (T : Nat → Int) (hk : k ≤ 8) (hT : T 0 = (c : Int) ∧ T (1 + 10 * c) = l ∧ T (2 + 10 * c) = f ∧ (∀ y, y < k → T (3 + 10 * c + y) = 1) ∧ ∀ j, 1 ≤ j → j < 1 + 10 * c → T j = w.1 (m + 2) j), 8 - k < N → jWp 147 84 [some (jO m), none, none, some (jI (1 + (10 * (c : Int)))), some (jI (k : Int))] [] 0 0 (kA w (m + 2) T) (fun v w1 => ((¬ (0 ≤ l ∧ l ≤ 6)) → jno w m 2 (jI (-2)) v w1) ∧ (¬ (¬ (0 ≤ l ∧ l ≤ 6)) → (f < 0) → jno w m 4 (jI (-4)) v w1) ∧ (¬ (¬ (0 ≤ l ∧ l ≤ 6)) → ¬ (f < 0) → (9 < f ∨ c = 4) → jno w m 6 (jI (-6)) v w1) ∧ (¬ (¬ (0 ≤ l ∧ l ≤ 6)) → ¬ (f < 0) → ¬ (9 < f ∨ c = 4) → v = some (jI (c : Int)) ∧ ∃ T, w1 = kA w (m + 2) T ∧ T 0 = (c : Int) + 1 ∧ T (1 + 10 * c) = l ∧ T (2 + 10 * c) = f ∧ (∀ y, y < 8 → T (3 + 10 * c + y) = 1) ∧ ∀ j, 1 ≤ j → j < 1 + 10 * c → T j = w.1 (m + 2) j)) := by
            intro N
            induction N with
            | zero => intro k T hk hT hm; omega
            | succ N ih6 =>
              intro k T hk hT hm
              have hc3 : c < 4 := by omega
              refine jWp.blk mt 2 ?_
              show jWp 147 88 [some (jO m), none, none, some (jI (1 + (10 * (c : Int)))), some (jI (k : Int))] [jI 8, jI (k : Int)] 0 0 (kA w (m + 2) T) _
              refine jWp.icmp (pc' := 91) mt rfl rfl (b32_id (by omega) (by omega)) (show b32 8 = 8 by decide) (fun h7 => ?_) (fun h7 => ?_)
              · have h7 : 8 ≤ (k : Int) := h7
                refine jWp.blk mt 1 ?_
                show _ ∧ jWp 147 110 [some (jO m), none, none, some (jI (1 + (10 * (c : Int)))), some (jI (k : Int))] [jO m] 0 0 (kA w (m + 2) T) _
                refine ⟨rfl, ?_⟩
                refine jWp.getR (pc' := 113) (o := (m + 2)) mt rfl rfl (jtg hW.K0) hW.R1 ?_
                show jWp 147 113 [some (jO m), none, none, some (jI (1 + (10 * (c : Int)))), some (jI (k : Int))] [jO (m + 2)] 0 0 (kA w (m + 2) T) _
                refine jWp.blk mt 2 ?_
                show _ ∧ jWp 147 115 [some (jO m), none, none, some (jI (1 + (10 * (c : Int)))), some (jI (k : Int))] [jI 0, jO (m + 2), jI 0, jO (m + 2)] 0 0 (kA w (m + 2) T) _
                refine ⟨rfl, ?_⟩
                refine jWp.iald (pc' := 116) (j := 0) mt rfl rfl (jird_of hW.K2) (by decide) (jlt hW.K2 (by decide)) ?_
                rw [show ((kA w (m + 2) T).1 (m + 2) 0) = (c : Int) from (kA_s.trans hT.1)]
                show jWp 147 116 [some (jO m), none, none, some (jI (1 + (10 * (c : Int)))), some (jI (k : Int))] [jI (c : Int), jI 0, jO (m + 2)] 0 0 (kA w (m + 2) T) _
                refine jWp.blk mt 2 ?_
                show jWp 147 118 [some (jO m), none, none, some (jI (1 + (10 * (c : Int)))), some (jI (k : Int))] [jI ((c : Int) + 1), jI 0, jO (m + 2)] 0 0 (kA w (m + 2) T) _
                refine jWp.iast (pc' := 119) (j := 0) mt rfl rfl (jtg hW.K2) (by decide) (jlt hW.K2 (by decide)) ?_
                rw [show jW (kA w (m + 2) T) (m + 2) 0 ((c : Int) + 1) = (kA w (m + 2) (zset T 0 ((c : Int) + 1))) from kA_W]
                show jWp 147 119 [some (jO m), none, none, some (jI (1 + (10 * (c : Int)))), some (jI (k : Int))] [] 0 0 (kA w (m + 2) (zset T 0 ((c : Int) + 1))) _
                refine jWp.blk mt 1 ?_
                show _ ∧ jWp 147 120 [some (jO m), none, none, some (jI (1 + (10 * (c : Int)))), some (jI (k : Int))] [jO m] 0 0 (kA w (m + 2) (zset T 0 ((c : Int) + 1))) _
                refine ⟨rfl, ?_⟩
                refine jWp.getR (pc' := 123) (o := (m + 2)) mt rfl rfl (jtg hW.K0) hW.R1 ?_
                show jWp 147 123 [some (jO m), none, none, some (jI (1 + (10 * (c : Int)))), some (jI (k : Int))] [jO (m + 2)] 0 0 (kA w (m + 2) (zset T 0 ((c : Int) + 1))) _
                refine jWp.blk mt 1 ?_
                show jWp 147 124 [some (jO m), none, none, some (jI (1 + (10 * (c : Int)))), some (jI (k : Int))] [jI 0, jO (m + 2)] 0 0 (kA w (m + 2) (zset T 0 ((c : Int) + 1))) _
                refine jWp.iald (pc' := 125) (j := 0) mt rfl rfl (jird_of hW.K2) (by decide) (jlt hW.K2 (by decide)) ?_
                rw [show ((kA w (m + 2) (zset T 0 ((c : Int) + 1))).1 (m + 2) 0) = ((zset T 0 ((c : Int) + 1)) 0) from kA_s]
                show jWp 147 125 [some (jO m), none, none, some (jI (1 + (10 * (c : Int)))), some (jI (k : Int))] [jI ((zset T 0 ((c : Int) + 1)) 0)] 0 0 (kA w (m + 2) (zset T 0 ((c : Int) + 1))) _
                refine jWp.blk mt 2 ?_
                show jWp 147 127 [some (jO m), none, none, some (jI (1 + (10 * (c : Int)))), some (jI (k : Int))] [jI (((zset T 0 ((c : Int) + 1)) 0) - 1)] 0 0 (kA w (m + 2) (zset T 0 ((c : Int) + 1))) _
                refine jWp.ireti mt rfl ⟨rfl, rfl⟩ rfl ?_
                refine ⟨fun c0 => ?_, fun c0 c1 => ?_, fun c0 c1 c2 => ?_, fun c0 c1 c2 => ?_⟩
                all_goals first
                | (exfalso; omega)
                | exact ⟨rfl, rfl⟩
                | (refine ⟨?_, _, rfl, zset_s, ?_, ?_, fun y hy => ?_, fun j h1 h2 => ?_⟩
                   · rw [zset_s, show (c : Int) + 1 - 1 = (c : Int) by omega]
                   · rw [zset_n (by omega)]; exact hT.2.1
                   · rw [zset_n (by omega)]; exact hT.2.2.1
                   · rw [zset_n (by omega)]; exact hT.2.2.2.1 y (by omega)
                   · rw [zset_n (by omega)]; exact hT.2.2.2.2 j h1 h2)
              · have h7 : (k : Int) < 8 := h7
                refine jWp.blk mt 1 ?_
                show _ ∧ jWp 147 92 [some (jO m), none, none, some (jI (1 + (10 * (c : Int)))), some (jI (k : Int))] [jO m] 0 0 (kA w (m + 2) T) _
                refine ⟨rfl, ?_⟩
                refine jWp.getR (pc' := 95) (o := (m + 2)) mt rfl rfl (jtg hW.K0) hW.R1 ?_
                show jWp 147 95 [some (jO m), none, none, some (jI (1 + (10 * (c : Int)))), some (jI (k : Int))] [jO (m + 2)] 0 0 (kA w (m + 2) T) _
                refine jWp.blk mt 6 ?_
                show jWp 147 102 [some (jO m), none, none, some (jI (1 + (10 * (c : Int)))), some (jI (k : Int))] [jI 1, jI (((1 + (10 * (c : Int))) + 2) + (k : Int)), jO (m + 2)] 0 0 (kA w (m + 2) T) _
                refine jWp.iast (pc' := 103) (j := (((1 + (10 * c)) + 2) + k)) mt rfl rfl (jtg hW.K2) (by rw [b32_id (by omega) (by omega)] <;> omega) (jlt hW.K2 (by omega)) ?_
                rw [show jW (kA w (m + 2) T) (m + 2) (((1 + (10 * c)) + 2) + k) 1 = (kA w (m + 2) (zset T (((1 + (10 * c)) + 2) + k) 1)) from kA_W]
                show jWp 147 103 [some (jO m), none, none, some (jI (1 + (10 * (c : Int)))), some (jI (k : Int))] [] 0 0 (kA w (m + 2) (zset T (((1 + (10 * c)) + 2) + k) 1)) _
                refine jWp.blk mt 2 ?_
                show jWp 147 84 [some (jO m), none, none, some (jI (1 + (10 * (c : Int)))), some (jI ((k : Int) + 1))] [] 0 0 (kA w (m + 2) (zset T (((1 + (10 * c)) + 2) + k) 1)) _
                refine jWp.le (l := [some (jO m), none, none, some (jI (1 + (10 * (c : Int)))), some (jI ((k : Int) + 1))]) (by exact ⟨rfl, rfl, rfl, trivial⟩) ?_
                exact ih6 (k + 1) _ (by omega) ⟨by rw [zset_n (by omega)]; exact hT.1, by rw [zset_n (by omega)]; exact hT.2.1, by rw [zset_n (by omega)]; exact hT.2.2.1, fun y hy => by rcases Nat.lt_or_ge y k with h | h; rw [zset_n (by omega)]; exact hT.2.2.2.1 y h; rw [show 3 + 10 * c + y = (((1 + (10 * c)) + 2) + k) by omega, zset_s], fun j h1 h2 => by rw [zset_n (by omega)]; exact hT.2.2.2.2 j h1 h2⟩ (by omega)
          refine jWp.le (l := [some (jO m), none, none, some (jI (1 + (10 * (c : Int)))), some (jI 0)]) (by exact ⟨rfl, rfl, rfl, trivial⟩) ?_
          exact lp5 _ 0 _ (by omega) ⟨by rw [zset_n (by omega), zset_n (by omega)]; exact hR.1, by rw [zset_n (by omega), show 1 + 10 * c = (1 + (10 * c)) by omega, zset_s], by rw [show 2 + 10 * c = ((1 + (10 * c)) + 1) by omega, zset_s], fun y hy => absurd hy (by omega), fun j h1 h2 => by rw [zset_n (by omega), zset_n (by omega)]⟩ (Nat.lt_succ_self _)
        · have h4 : (c : Int) = 4 := h4
          refine jWp.blk mt 2 ?_
          show _ ∧ jWp 147 49 [some (jO m), some (jI l), some (jI f), none, none] [jI (-6), jO m] 0 0 w _
          refine ⟨rfl, ?_⟩
          refine jWp.callv (as := [jO m, jI (-6)]) (rest := []) mt rfl rfl rfl ⟨rfl, jtg hW.K0⟩ ?_
          refine jCall.mono (E_refuses (w := w) (j := 6) hW (by decide) (by decide)) (fun v9 w9 h9 => ?_)
          obtain ⟨rfl, h9⟩ := h9
          subst h9
          show jWp 147 52 [some (jO m), some (jI l), some (jI f), none, none] [jI (-6)] 0 0 (jW w (m + 3) 6 ((w.1 (m + 3) 6) + 1)) _
          refine jWp.ireti mt rfl ⟨rfl, rfl⟩ rfl ?_
          refine ⟨fun c0 => ?_, fun c0 c1 => ?_, fun c0 c1 c2 => ?_, fun c0 c1 c2 => ?_⟩
          all_goals first
          | (exfalso; omega)
          | exact ⟨rfl, rfl⟩
    · have h2 : f < 0 := h2
      refine jWp.blk mt 2 ?_
      show _ ∧ jWp 147 26 [some (jO m), some (jI l), some (jI f), none, none] [jI (-4), jO m] 0 0 w _
      refine ⟨rfl, ?_⟩
      refine jWp.callv (as := [jO m, jI (-4)]) (rest := []) mt rfl rfl rfl ⟨rfl, jtg hW.K0⟩ ?_
      refine jCall.mono (E_refuses (w := w) (j := 4) hW (by decide) (by decide)) (fun v9 w9 h9 => ?_)
      obtain ⟨rfl, h9⟩ := h9
      subst h9
      show jWp 147 29 [some (jO m), some (jI l), some (jI f), none, none] [jI (-4)] 0 0 (jW w (m + 3) 4 ((w.1 (m + 3) 4) + 1)) _
      refine jWp.ireti mt rfl ⟨rfl, rfl⟩ rfl ?_
      refine ⟨fun c0 => ?_, fun c0 c1 => ?_, fun c0 c1 c2 => ?_, fun c0 c1 c2 => ?_⟩
      all_goals first
      | (exfalso; omega)
      | exact ⟨rfl, rfl⟩
  · have h1 : ¬ (0 ≤ l ∧ l ≤ 6) := h1
    show jWp 147 9 [some (jO m), some (jI l), some (jI f), none, none] [jI 0] 0 0 w _
    refine jWp.ifc (b := false) mt rfl (by decide) rfl ?_
    show jWp 147 12 [some (jO m), some (jI l), some (jI f), none, none] [] 0 0 w _
    refine jWp.blk mt 2 ?_
    show _ ∧ jWp 147 15 [some (jO m), some (jI l), some (jI f), none, none] [jI (-2), jO m] 0 0 w _
    refine ⟨rfl, ?_⟩
    refine jWp.callv (as := [jO m, jI (-2)]) (rest := []) mt rfl rfl rfl ⟨rfl, jtg hW.K0⟩ ?_
    refine jCall.mono (E_refuses (w := w) (j := 2) hW (by decide) (by decide)) (fun v9 w9 h9 => ?_)
    obtain ⟨rfl, h9⟩ := h9
    subst h9
    show jWp 147 18 [some (jO m), some (jI l), some (jI f), none, none] [jI (-2)] 0 0 (jW w (m + 3) 2 ((w.1 (m + 3) 2) + 1)) _
    refine jWp.ireti mt rfl ⟨rfl, rfl⟩ rfl ?_
    refine ⟨fun c0 => ?_, fun c0 c1 => ?_, fun c0 c1 c2 => ?_, fun c0 c1 c2 => ?_⟩
    all_goals first
    | (exfalso; omega)
    | exact ⟨rfl, rfl⟩
set_option maxHeartbeats 4000000 in
set_option maxRecDepth 20000 in
theorem E_start {w : jS} {m : Nat} (hW : MW w.2 m) {c : Nat} (hR : zRw (w.1 (m + 2)) c) {r i v : Int} (hrr : r32 r) (hri : r32 i) (hrv : r32 v) : jCall 148 [jO m, jI r, jI i, jI v] w (fun x w1 => ((¬ (0 ≤ r ∧ r < (c : Int))) → jno w m 1 (jI (-1)) x w1) ∧ (¬ (¬ (0 ≤ r ∧ r < (c : Int))) → (i < 0 ∨ v < 1) → jno w m 4 (jI (-4)) x w1) ∧ (¬ (¬ (0 ≤ r ∧ r < (c : Int))) → ¬ (i < 0 ∨ v < 1) → (zO (w.1 (m + 2) (1 + 10 * r.toNat)) ≤ i ∨ 9 < v) → jno w m 6 (jI (-6)) x w1) ∧ (¬ (¬ (0 ≤ r ∧ r < (c : Int))) → ¬ (i < 0 ∨ v < 1) → ¬ (zO (w.1 (m + 2) (1 + 10 * r.toNat)) ≤ i ∨ 9 < v) → x = some (jI (w.1 (m + 2) (3 + 10 * r.toNat + i.toNat))) ∧ w1 = jW w (m + 2) (3 + 10 * r.toNat + i.toNat) v)) := by
  have mt : jtb 148 = jT148 := rfl
  have hc4 := hR.2.1
  have hrr1 : -2147483648 ≤ r ∧ r < 2147483648 := hrr
  have hri1 : -2147483648 ≤ i ∧ i < 2147483648 := hri
  have hrv1 : -2147483648 ≤ v ∧ v < 2147483648 := hrv
  show jWp 148 0 [some (jO m), some (jI r), some (jI i), some (jI v), none, none] [] 0 0 w _
  refine jWp.blk mt 2 ?_
  show _ ∧ jWp 148 2 [some (jO m), some (jI r), some (jI i), some (jI v), none, none] [jI r, jO m] 0 0 w _
  refine ⟨rfl, ?_⟩
  refine jWp.callv (as := [jO m, jI r]) (rest := []) mt rfl rfl rfl ⟨rfl, jtg hW.K0⟩ ?_
  refine jCall.mono (E_isRow hW hR hrr) (fun v9 w9 h9 => ?_)
  rcases h9 with ⟨rfl, h9, h1⟩ | ⟨rfl, h9, h1⟩ <;> subst w9
  · have h1 : 0 ≤ r ∧ r < (c : Int) := h1
    show jWp 148 5 [some (jO m), some (jI r), some (jI i), some (jI v), none, none] [jI 1] 0 0 w _
    obtain ⟨r1, rfl⟩ : ∃ r1 : Nat, r = (r1 : Int) := ⟨r.toNat, by omega⟩
    show jWp 148 5 [some (jO m), some (jI (r1 : Int)), some (jI i), some (jI v), none, none] [jI 1] 0 0 w _
    have hRr := hR.2.2 r1 (by omega)
    have hRo := zO_b hRr.1.1 hRr.1.2
    refine jWp.ifc (b := true) mt rfl (by decide) rfl ?_
    show jWp 148 14 [some (jO m), some (jI (r1 : Int)), some (jI i), some (jI v), none, none] [] 0 0 w _
    refine jWp.blk mt 1 ?_
    show jWp 148 15 [some (jO m), some (jI (r1 : Int)), some (jI i), some (jI v), none, none] [jI i] 0 0 w _
    refine jWp.ifz (pc' := 18) mt rfl rfl (b32_id (by omega) (by omega)) (fun h2 => ?_) (fun h2 => ?_)
    · have h2 : i < 0 := h2
      refine jWp.blk mt 2 ?_
      show _ ∧ jWp 148 26 [some (jO m), some (jI (r1 : Int)), some (jI i), some (jI v), none, none] [jI (-4), jO m] 0 0 w _
      refine ⟨rfl, ?_⟩
      refine jWp.callv (as := [jO m, jI (-4)]) (rest := []) mt rfl rfl rfl ⟨rfl, jtg hW.K0⟩ ?_
      refine jCall.mono (E_refuses (w := w) (j := 4) hW (by decide) (by decide)) (fun v9 w9 h9 => ?_)
      obtain ⟨rfl, h9⟩ := h9
      subst h9
      show jWp 148 29 [some (jO m), some (jI (r1 : Int)), some (jI i), some (jI v), none, none] [jI (-4)] 0 0 (jW w (m + 3) 4 ((w.1 (m + 3) 4) + 1)) _
      refine jWp.ireti mt rfl ⟨rfl, rfl⟩ rfl ?_
      try rw [show ((r1 : Nat) : Int).toNat = r1 from rfl]
      refine ⟨fun c0 => ?_, fun c0 c1 => ?_, fun c0 c1 c2 => ?_, fun c0 c1 c2 => ?_⟩
      all_goals first
      | (exfalso; omega)
      | exact ⟨rfl, rfl⟩
    · have h2 : 0 ≤ i := h2
      refine jWp.blk mt 2 ?_
      show jWp 148 20 [some (jO m), some (jI (r1 : Int)), some (jI i), some (jI v), none, none] [jI 1, jI v] 0 0 w _
      refine jWp.icmp (pc' := 23) mt rfl rfl (b32_id (by omega) (by omega)) (show b32 1 = 1 by decide) (fun h3 => ?_) (fun h3 => ?_)
      · have h3 : 1 ≤ v := h3
        refine jWp.blk mt 3 ?_
        show _ ∧ jWp 148 33 [some (jO m), some (jI (r1 : Int)), some (jI i), some (jI v), none, none] [jI (r1 : Int), jO m, jI i] 0 0 w _
        refine ⟨rfl, ?_⟩
        refine jWp.callv (as := [jO m, jI (r1 : Int)]) (rest := [jI i]) mt rfl rfl rfl ⟨rfl, jtg hW.K0⟩ ?_
        refine jCall.mono (E_law (x := r1) hW (by omega)) (fun v9 w9 h9 => ?_)
        obtain ⟨rfl, h9⟩ := h9
        subst w9
        show jWp 148 36 [some (jO m), some (jI (r1 : Int)), some (jI i), some (jI v), none, none] [jI (w.1 (m + 2) (1 + 10 * r1)), jI i] 0 0 w _
        refine jWp.calls (as := [jI (w.1 (m + 2) (1 + 10 * r1))]) (rest := [jI i]) mt rfl rfl rfl rfl ?_
        refine jCall.mono (E_order (by omega) (by omega)) (fun v9 w9 h9 => ?_)
        obtain ⟨rfl, h9⟩ := h9
        subst w9
        show jWp 148 39 [some (jO m), some (jI (r1 : Int)), some (jI i), some (jI v), none, none] [jI (zO (w.1 (m + 2) (1 + 10 * r1))), jI i] 0 0 w _
        refine jWp.icmp (pc' := 42) mt rfl rfl (b32_id (by omega) (by omega)) (b32_id (by omega) (by omega)) (fun h4 => ?_) (fun h4 => ?_)
        · have h4 : (zO (w.1 (m + 2) (1 + 10 * r1))) ≤ i := h4
          refine jWp.blk mt 2 ?_
          show _ ∧ jWp 148 51 [some (jO m), some (jI (r1 : Int)), some (jI i), some (jI v), none, none] [jI (-6), jO m] 0 0 w _
          refine ⟨rfl, ?_⟩
          refine jWp.callv (as := [jO m, jI (-6)]) (rest := []) mt rfl rfl rfl ⟨rfl, jtg hW.K0⟩ ?_
          refine jCall.mono (E_refuses (w := w) (j := 6) hW (by decide) (by decide)) (fun v9 w9 h9 => ?_)
          obtain ⟨rfl, h9⟩ := h9
          subst h9
          show jWp 148 54 [some (jO m), some (jI (r1 : Int)), some (jI i), some (jI v), none, none] [jI (-6)] 0 0 (jW w (m + 3) 6 ((w.1 (m + 3) 6) + 1)) _
          refine jWp.ireti mt rfl ⟨rfl, rfl⟩ rfl ?_
          try rw [show ((r1 : Nat) : Int).toNat = r1 from rfl]
          refine ⟨fun c0 => ?_, fun c0 c1 => ?_, fun c0 c1 c2 => ?_, fun c0 c1 c2 => ?_⟩
          all_goals first
          | (exfalso; omega)
          | exact ⟨rfl, rfl⟩
        · have h4 : i < (zO (w.1 (m + 2) (1 + 10 * r1))) := h4
          refine jWp.blk mt 2 ?_
          show jWp 148 45 [some (jO m), some (jI (r1 : Int)), some (jI i), some (jI v), none, none] [jI 9, jI v] 0 0 w _
          refine jWp.icmp (pc' := 48) mt rfl rfl (b32_id (by omega) (by omega)) (show b32 9 = 9 by decide) (fun h5 => ?_) (fun h5 => ?_)
          · have h5 : v ≤ 9 := h5
            obtain ⟨i1, rfl⟩ : ∃ i1 : Nat, i = (i1 : Int) := ⟨i.toNat, by omega⟩
            show jWp 148 55 [some (jO m), some (jI (r1 : Int)), some (jI (i1 : Int)), some (jI v), none, none] [] 0 0 w _
            refine jWp.blk mt 9 ?_
            show _ ∧ jWp 148 66 [some (jO m), some (jI (r1 : Int)), some (jI (i1 : Int)), some (jI v), some (jI ((3 + (10 * (r1 : Int))) + (i1 : Int))), none] [jO m] 0 0 w _
            refine ⟨rfl, ?_⟩
            refine jWp.getR (pc' := 69) (o := (m + 2)) mt rfl rfl (jtg hW.K0) hW.R1 ?_
            show jWp 148 69 [some (jO m), some (jI (r1 : Int)), some (jI (i1 : Int)), some (jI v), some (jI ((3 + (10 * (r1 : Int))) + (i1 : Int))), none] [jO (m + 2)] 0 0 w _
            refine jWp.blk mt 1 ?_
            show jWp 148 71 [some (jO m), some (jI (r1 : Int)), some (jI (i1 : Int)), some (jI v), some (jI ((3 + (10 * (r1 : Int))) + (i1 : Int))), none] [jI ((3 + (10 * (r1 : Int))) + (i1 : Int)), jO (m + 2)] 0 0 w _
            refine jWp.iald (pc' := 72) (j := (3 + 10 * r1 + i1)) mt rfl rfl (jird_of hW.K2) (by rw [b32_id (by omega) (by omega)]; omega) (jlt hW.K2 (by omega)) ?_
            show jWp 148 72 [some (jO m), some (jI (r1 : Int)), some (jI (i1 : Int)), some (jI v), some (jI ((3 + (10 * (r1 : Int))) + (i1 : Int))), none] [jI (w.1 (m + 2) (3 + 10 * r1 + i1))] 0 0 w _
            refine jWp.blk mt 2 ?_
            show _ ∧ jWp 148 75 [some (jO m), some (jI (r1 : Int)), some (jI (i1 : Int)), some (jI v), some (jI ((3 + (10 * (r1 : Int))) + (i1 : Int))), some (jI (w.1 (m + 2) (3 + 10 * r1 + i1)))] [jO m] 0 0 w _
            refine ⟨rfl, ?_⟩
            refine jWp.getR (pc' := 78) (o := (m + 2)) mt rfl rfl (jtg hW.K0) hW.R1 ?_
            show jWp 148 78 [some (jO m), some (jI (r1 : Int)), some (jI (i1 : Int)), some (jI v), some (jI ((3 + (10 * (r1 : Int))) + (i1 : Int))), some (jI (w.1 (m + 2) (3 + 10 * r1 + i1)))] [jO (m + 2)] 0 0 w _
            refine jWp.blk mt 2 ?_
            show jWp 148 81 [some (jO m), some (jI (r1 : Int)), some (jI (i1 : Int)), some (jI v), some (jI ((3 + (10 * (r1 : Int))) + (i1 : Int))), some (jI (w.1 (m + 2) (3 + 10 * r1 + i1)))] [jI v, jI ((3 + (10 * (r1 : Int))) + (i1 : Int)), jO (m + 2)] 0 0 w _
            refine jWp.iast (pc' := 82) (j := (3 + 10 * r1 + i1)) mt rfl rfl (jtg hW.K2) (by rw [b32_id (by omega) (by omega)]; omega) (jlt hW.K2 (by omega)) ?_
            show jWp 148 82 [some (jO m), some (jI (r1 : Int)), some (jI (i1 : Int)), some (jI v), some (jI ((3 + (10 * (r1 : Int))) + (i1 : Int))), some (jI (w.1 (m + 2) (3 + 10 * r1 + i1)))] [] 0 0 (jW w (m + 2) (3 + 10 * r1 + i1) v) _
            refine jWp.blk mt 1 ?_
            show jWp 148 84 [some (jO m), some (jI (r1 : Int)), some (jI (i1 : Int)), some (jI v), some (jI ((3 + (10 * (r1 : Int))) + (i1 : Int))), some (jI (w.1 (m + 2) (3 + 10 * r1 + i1)))] [jI (w.1 (m + 2) (3 + 10 * r1 + i1))] 0 0 (jW w (m + 2) (3 + 10 * r1 + i1) v) _
            refine jWp.ireti mt rfl ⟨rfl, rfl⟩ rfl ?_
            try rw [show ((r1 : Nat) : Int).toNat = r1 from rfl]
            refine ⟨fun c0 => ?_, fun c0 c1 => ?_, fun c0 c1 c2 => ?_, fun c0 c1 c2 => ?_⟩
            all_goals first
            | (exfalso; omega)
            | exact ⟨rfl, rfl⟩
          · have h5 : 9 < v := h5
            refine jWp.blk mt 2 ?_
            show _ ∧ jWp 148 51 [some (jO m), some (jI (r1 : Int)), some (jI i), some (jI v), none, none] [jI (-6), jO m] 0 0 w _
            refine ⟨rfl, ?_⟩
            refine jWp.callv (as := [jO m, jI (-6)]) (rest := []) mt rfl rfl rfl ⟨rfl, jtg hW.K0⟩ ?_
            refine jCall.mono (E_refuses (w := w) (j := 6) hW (by decide) (by decide)) (fun v9 w9 h9 => ?_)
            obtain ⟨rfl, h9⟩ := h9
            subst h9
            show jWp 148 54 [some (jO m), some (jI (r1 : Int)), some (jI i), some (jI v), none, none] [jI (-6)] 0 0 (jW w (m + 3) 6 ((w.1 (m + 3) 6) + 1)) _
            refine jWp.ireti mt rfl ⟨rfl, rfl⟩ rfl ?_
            try rw [show ((r1 : Nat) : Int).toNat = r1 from rfl]
            refine ⟨fun c0 => ?_, fun c0 c1 => ?_, fun c0 c1 c2 => ?_, fun c0 c1 c2 => ?_⟩
            all_goals first
            | (exfalso; omega)
            | exact ⟨rfl, rfl⟩
      · have h3 : v < 1 := h3
        refine jWp.blk mt 2 ?_
        show _ ∧ jWp 148 26 [some (jO m), some (jI (r1 : Int)), some (jI i), some (jI v), none, none] [jI (-4), jO m] 0 0 w _
        refine ⟨rfl, ?_⟩
        refine jWp.callv (as := [jO m, jI (-4)]) (rest := []) mt rfl rfl rfl ⟨rfl, jtg hW.K0⟩ ?_
        refine jCall.mono (E_refuses (w := w) (j := 4) hW (by decide) (by decide)) (fun v9 w9 h9 => ?_)
        obtain ⟨rfl, h9⟩ := h9
        subst h9
        show jWp 148 29 [some (jO m), some (jI (r1 : Int)), some (jI i), some (jI v), none, none] [jI (-4)] 0 0 (jW w (m + 3) 4 ((w.1 (m + 3) 4) + 1)) _
        refine jWp.ireti mt rfl ⟨rfl, rfl⟩ rfl ?_
        try rw [show ((r1 : Nat) : Int).toNat = r1 from rfl]
        refine ⟨fun c0 => ?_, fun c0 c1 => ?_, fun c0 c1 c2 => ?_, fun c0 c1 c2 => ?_⟩
        all_goals first
        | (exfalso; omega)
        | exact ⟨rfl, rfl⟩
  · have h1 : ¬ (0 ≤ r ∧ r < (c : Int)) := h1
    show jWp 148 5 [some (jO m), some (jI r), some (jI i), some (jI v), none, none] [jI 0] 0 0 w _
    refine jWp.ifc (b := false) mt rfl (by decide) rfl ?_
    show jWp 148 8 [some (jO m), some (jI r), some (jI i), some (jI v), none, none] [] 0 0 w _
    refine jWp.blk mt 2 ?_
    show _ ∧ jWp 148 10 [some (jO m), some (jI r), some (jI i), some (jI v), none, none] [jI (-1), jO m] 0 0 w _
    refine ⟨rfl, ?_⟩
    refine jWp.callv (as := [jO m, jI (-1)]) (rest := []) mt rfl rfl rfl ⟨rfl, jtg hW.K0⟩ ?_
    refine jCall.mono (E_refuses (w := w) (j := 1) hW (by decide) (by decide)) (fun v9 w9 h9 => ?_)
    obtain ⟨rfl, h9⟩ := h9
    subst h9
    show jWp 148 13 [some (jO m), some (jI r), some (jI i), some (jI v), none, none] [jI (-1)] 0 0 (jW w (m + 3) 1 ((w.1 (m + 3) 1) + 1)) _
    refine jWp.ireti mt rfl ⟨rfl, rfl⟩ rfl ?_
    try rw [show ((r1 : Nat) : Int).toNat = r1 from rfl]
    refine ⟨fun c0 => ?_, fun c0 c1 => ?_, fun c0 c1 c2 => ?_, fun c0 c1 c2 => ?_⟩
    all_goals first
    | (exfalso; omega)
    | exact ⟨rfl, rfl⟩
set_option maxHeartbeats 4000000 in
set_option maxRecDepth 20000 in
theorem E_list {w : jS} {m : Nat} (hW : MW w.2 m) {l n : Int} (hrl : r32 l) (hrn : r32 n) : jCall 213 [jO m, jI l, jI n] w (fun v w1 => ((¬ (0 ≤ l ∧ l ≤ 2)) → jno w m 1 (jI (-1)) v w1) ∧ (¬ (¬ (0 ≤ l ∧ l ≤ 2)) → (40 < n) → jno w m 6 (jI (-6)) v w1) ∧ (¬ (¬ (0 ≤ l ∧ l ≤ 2)) → ¬ (40 < n) → (n < 0) → v = some (jI (-14)) ∧ w1 = w) ∧ (¬ (¬ (0 ≤ l ∧ l ≤ 2)) → ¬ (40 < n) → ¬ (n < 0) → v = some (jI 1) ∧ ∃ T, w1 = kA (jW w (m + 423) l.toNat n) (m + (425 + l.toNat)) T ∧ ∀ j, j < 40 → T j = 0)) := by
  have mt : jtb 213 = jT213 := rfl
  have hrl1 : -2147483648 ≤ l ∧ l < 2147483648 := hrl
  have hrn1 : -2147483648 ≤ n ∧ n < 2147483648 := hrn
  show jWp 213 0 [some (jO m), some (jI l), some (jI n), none] [] 0 0 w _
  refine jWp.blk mt 1 ?_
  show jWp 213 1 [some (jO m), some (jI l), some (jI n), none] [jI l] 0 0 w _
  refine jWp.calls (as := [jI l]) (rest := []) mt rfl rfl rfl rfl ?_
  refine jCall.mono (E_isList hrl) (fun v9 w9 h9 => ?_)
  rcases h9 with ⟨rfl, h9, h1⟩ | ⟨rfl, h9, h1⟩ <;> subst w9
  · have h1 : 0 ≤ l ∧ l ≤ 2 := h1
    show jWp 213 4 [some (jO m), some (jI l), some (jI n), none] [jI 1] 0 0 w _
    obtain ⟨l1, rfl⟩ : ∃ l1 : Nat, l = (l1 : Int) := ⟨l.toNat, by omega⟩
    show jWp 213 4 [some (jO m), some (jI (l1 : Int)), some (jI n), none] [jI 1] 0 0 w _
    refine jWp.ifc (b := true) mt rfl (by decide) rfl ?_
    show jWp 213 13 [some (jO m), some (jI (l1 : Int)), some (jI n), none] [] 0 0 w _
    refine jWp.blk mt 2 ?_
    show jWp 213 16 [some (jO m), some (jI (l1 : Int)), some (jI n), none] [jI 40, jI n] 0 0 w _
    refine jWp.icmp (pc' := 19) mt rfl rfl (b32_id (by omega) (by omega)) (show b32 40 = 40 by decide) (fun h2 => ?_) (fun h2 => ?_)
    · have h2 : n ≤ 40 := h2
      refine jWp.blk mt 1 ?_
      show jWp 213 27 [some (jO m), some (jI (l1 : Int)), some (jI n), none] [jI n] 0 0 w _
      refine jWp.ifz (pc' := 30) mt rfl rfl (b32_id (by omega) (by omega)) (fun h3 => ?_) (fun h3 => ?_)
      · have h3 : 0 ≤ n := h3
        refine jWp.blk mt 1 ?_
        show _ ∧ jWp 213 34 [some (jO m), some (jI (l1 : Int)), some (jI n), none] [jO m] 0 0 w _
        refine ⟨rfl, ?_⟩
        refine jWp.getR (pc' := 37) (o := (m + 423)) mt rfl rfl (jtg hW.K0) hW.R27 ?_
        show jWp 213 37 [some (jO m), some (jI (l1 : Int)), some (jI n), none] [jO (m + 423)] 0 0 w _
        refine jWp.blk mt 2 ?_
        show jWp 213 39 [some (jO m), some (jI (l1 : Int)), some (jI n), none] [jI n, jI (l1 : Int), jO (m + 423)] 0 0 w _
        refine jWp.iast (pc' := 40) (j := l1) mt rfl rfl (jtg hW.K423) (b32_id (by omega) (by omega)) (jlt hW.K423 (by omega)) ?_
        show jWp 213 40 [some (jO m), some (jI (l1 : Int)), some (jI n), none] [] 0 0 (jW w (m + 423) l1 n) _
        refine jWp.blk mt 2 ?_
        show jWp 213 42 [some (jO m), some (jI (l1 : Int)), some (jI n), some (jI 0)] [] 0 0 (jW w (m + 423) l1 n) _
        have lp4 : ∀ (N : Nat) (k : Nat) (T : Nat → Int) (hk : k ≤ 40) (hT : ∀ j, j < k → T j = 0), 40 - k < N → jWp 213 42 [some (jO m), some (jI (l1 : Int)), none, some (jI (k : Int))] [] 0 0 (kA (jW w (m + 423) l1 n) (m + (425 + l1)) T) (fun v w1 => ((¬ (0 ≤ (l1 : Int) ∧ (l1 : Int) ≤ 2)) → jno w m 1 (jI (-1)) v w1) ∧ (¬ (¬ (0 ≤ (l1 : Int) ∧ (l1 : Int) ≤ 2)) → (40 < n) → jno w m 6 (jI (-6)) v w1) ∧ (¬ (¬ (0 ≤ (l1 : Int) ∧ (l1 : Int) ≤ 2)) → ¬ (40 < n) → (n < 0) → v = some (jI (-14)) ∧ w1 = w) ∧ (¬ (¬ (0 ≤ (l1 : Int) ∧ (l1 : Int) ≤ 2)) → ¬ (40 < n) → ¬ (n < 0) → v = some (jI 1) ∧ ∃ T, w1 = kA (jW w (m + 423) (l1 : Int).toNat n) (m + (425 + (l1 : Int).toNat)) T ∧ ∀ j, j < 40 → T j = 0)) := by
          intro N
          induction N with
          | zero => intro k T hk hT hm; omega
          | succ N ih5 =>
            intro k T hk hT hm
            refine jWp.blk mt 2 ?_
            show jWp 213 45 [some (jO m), some (jI (l1 : Int)), none, some (jI (k : Int))] [jI 40, jI (k : Int)] 0 0 (kA (jW w (m + 423) l1 n) (m + (425 + l1)) T) _
            refine jWp.icmp (pc' := 48) mt rfl rfl (b32_id (by omega) (by omega)) (show b32 40 = 40 by decide) (fun h6 => ?_) (fun h6 => ?_)
            · have h6 : 40 ≤ (k : Int) := h6
              refine jWp.blk mt 1 ?_
              show jWp 213 64 [some (jO m), some (jI (l1 : Int)), none, some (jI (k : Int))] [jI 1] 0 0 (kA (jW w (m + 423) l1 n) (m + (425 + l1)) T) _
              refine jWp.ireti mt rfl ⟨rfl, rfl⟩ rfl ?_
              refine ⟨fun c0 => ?_, fun c0 c1 => ?_, fun c0 c1 c2 => ?_, fun c0 c1 c2 => ?_⟩
              all_goals first
              | (exfalso; omega)
              | exact ⟨rfl, rfl⟩
              | exact ⟨rfl, T, rfl, fun j hj => hT j (by omega)⟩
            · have h6 : (k : Int) < 40 := h6
              refine jWp.blk mt 1 ?_
              show _ ∧ jWp 213 49 [some (jO m), some (jI (l1 : Int)), none, some (jI (k : Int))] [jO m] 0 0 (kA (jW w (m + 423) l1 n) (m + (425 + l1)) T) _
              refine ⟨rfl, ?_⟩
              refine jWp.getR (pc' := 52) (o := (m + 424)) mt rfl rfl (jtg hW.K0) hW.R28 ?_
              show jWp 213 52 [some (jO m), some (jI (l1 : Int)), none, some (jI (k : Int))] [jO (m + 424)] 0 0 (kA (jW w (m + 423) l1 n) (m + (425 + l1)) T) _
              refine jWp.blk mt 1 ?_
              show jWp 213 53 [some (jO m), some (jI (l1 : Int)), none, some (jI (k : Int))] [jI (l1 : Int), jO (m + 424)] 0 0 (kA (jW w (m + 423) l1 n) (m + (425 + l1)) T) _
              refine jWp.aald (pc' := 54) (j := l1) (o := (m + (425 + l1))) mt rfl rfl (jrg hW.K424 (by decide) (by decide)) (b32_id (by omega) (by omega)) (jlt hW.K424 (by omega)) (hW.RI l1 (by omega)) ?_
              show jWp 213 54 [some (jO m), some (jI (l1 : Int)), none, some (jI (k : Int))] [jO (m + (425 + l1))] 0 0 (kA (jW w (m + 423) l1 n) (m + (425 + l1)) T) _
              refine jWp.blk mt 2 ?_
              show jWp 213 56 [some (jO m), some (jI (l1 : Int)), none, some (jI (k : Int))] [jJ 0, jI (k : Int), jO (m + (425 + l1))] 0 0 (kA (jW w (m + 423) l1 n) (m + (425 + l1)) T) _
              refine jWp.last (pc' := 57) (j := k) mt rfl rfl (jtg (hW.KI _ (by omega))) (b32_id (by omega) (by omega)) (jlt (hW.KI _ (by omega)) (by omega)) ?_
              rw [show jW (kA (jW w (m + 423) l1 n) (m + (425 + l1)) T) (m + (425 + l1)) k 0 = (kA (jW w (m + 423) l1 n) (m + (425 + l1)) (zset T k 0)) from kA_W]
              show jWp 213 57 [some (jO m), some (jI (l1 : Int)), none, some (jI (k : Int))] [] 0 0 (kA (jW w (m + 423) l1 n) (m + (425 + l1)) (zset T k 0)) _
              refine jWp.blk mt 2 ?_
              show jWp 213 42 [some (jO m), some (jI (l1 : Int)), none, some (jI ((k : Int) + 1))] [] 0 0 (kA (jW w (m + 423) l1 n) (m + (425 + l1)) (zset T k 0)) _
              refine jWp.le (l := [some (jO m), some (jI (l1 : Int)), none, some (jI ((k : Int) + 1))]) (by exact ⟨rfl, rfl, rfl, trivial⟩) ?_
              exact ih5 (k + 1) _ (by omega) (fun j hj => by rcases Nat.lt_or_ge j k with h | h; rw [zset_n (by omega)]; exact hT j h; rw [show j = k by omega, zset_s]) (by omega)
        refine jWp.le (l := [some (jO m), some (jI (l1 : Int)), none, some (jI 0)]) (by exact ⟨rfl, rfl, rfl, trivial⟩) ?_
        have key := lp4 _ 0 ((jW w (m + 423) l1 n).1 (m + (425 + l1))) (by omega) (fun j hj => absurd hj (by omega)) (Nat.lt_succ_self _)
        rw [kA_self] at key
        exact key
      · have h3 : n < 0 := h3
        refine jWp.blk mt 1 ?_
        show jWp 213 32 [some (jO m), some (jI (l1 : Int)), some (jI n), none] [jI (-14)] 0 0 w _
        refine jWp.ireti mt rfl ⟨rfl, rfl⟩ rfl ?_
        refine ⟨fun c0 => ?_, fun c0 c1 => ?_, fun c0 c1 c2 => ?_, fun c0 c1 c2 => ?_⟩
        all_goals first
        | (exfalso; omega)
        | exact ⟨rfl, rfl⟩
        | exact ⟨rfl, T, rfl, fun j hj => hT j (by omega)⟩
    · have h2 : 40 < n := h2
      refine jWp.blk mt 2 ?_
      show _ ∧ jWp 213 22 [some (jO m), some (jI (l1 : Int)), some (jI n), none] [jI (-6), jO m] 0 0 w _
      refine ⟨rfl, ?_⟩
      refine jWp.callv (as := [jO m, jI (-6)]) (rest := []) mt rfl rfl rfl ⟨rfl, jtg hW.K0⟩ ?_
      refine jCall.mono (E_refuses (w := w) (j := 6) hW (by decide) (by decide)) (fun v9 w9 h9 => ?_)
      obtain ⟨rfl, h9⟩ := h9
      subst h9
      show jWp 213 25 [some (jO m), some (jI (l1 : Int)), some (jI n), none] [jI (-6)] 0 0 (jW w (m + 3) 6 ((w.1 (m + 3) 6) + 1)) _
      refine jWp.ireti mt rfl ⟨rfl, rfl⟩ rfl ?_
      refine ⟨fun c0 => ?_, fun c0 c1 => ?_, fun c0 c1 c2 => ?_, fun c0 c1 c2 => ?_⟩
      all_goals first
      | (exfalso; omega)
      | exact ⟨rfl, rfl⟩
      | exact ⟨rfl, T, rfl, fun j hj => hT j (by omega)⟩
  · have h1 : ¬ (0 ≤ l ∧ l ≤ 2) := h1
    show jWp 213 4 [some (jO m), some (jI l), some (jI n), none] [jI 0] 0 0 w _
    refine jWp.ifc (b := false) mt rfl (by decide) rfl ?_
    show jWp 213 7 [some (jO m), some (jI l), some (jI n), none] [] 0 0 w _
    refine jWp.blk mt 2 ?_
    show _ ∧ jWp 213 9 [some (jO m), some (jI l), some (jI n), none] [jI (-1), jO m] 0 0 w _
    refine ⟨rfl, ?_⟩
    refine jWp.callv (as := [jO m, jI (-1)]) (rest := []) mt rfl rfl rfl ⟨rfl, jtg hW.K0⟩ ?_
    refine jCall.mono (E_refuses (w := w) (j := 1) hW (by decide) (by decide)) (fun v9 w9 h9 => ?_)
    obtain ⟨rfl, h9⟩ := h9
    subst h9
    show jWp 213 12 [some (jO m), some (jI l), some (jI n), none] [jI (-1)] 0 0 (jW w (m + 3) 1 ((w.1 (m + 3) 1) + 1)) _
    refine jWp.ireti mt rfl ⟨rfl, rfl⟩ rfl ?_
    refine ⟨fun c0 => ?_, fun c0 c1 => ?_, fun c0 c1 c2 => ?_, fun c0 c1 c2 => ?_⟩
    all_goals first
    | (exfalso; omega)
    | exact ⟨rfl, rfl⟩
    | exact ⟨rfl, T, rfl, fun j hj => hT j (by omega)⟩
end
section
set_option maxHeartbeats 4000000 in
set_option maxRecDepth 20000 in
theorem E_power {w : jS} {m : Nat} (hW : MW w.2 m) {n : Nat} (hS : zS (w.1 (m + 1)) n) {i j : Int} (hri : r32 i) (hrj : r32 j) : jCall 172 [jO m, jI i, jI j] w (fun v w1 => ((¬ (0 ≤ i ∧ i < (n : Int)) ∨ ¬ (0 ≤ j ∧ j < (n : Int))) → jno w m 1 (jI (1000000000 - (-1))) v w1) ∧ (¬ (¬ (0 ≤ i ∧ i < (n : Int)) ∨ ¬ (0 ≤ j ∧ j < (n : Int))) → v = some (jI (w.1 (m + 1) (29 + 4 * i.toNat + j.toNat))) ∧ w1 = w)) := by
  have mt : jtb 172 = jT172 := rfl
  have hn2 := hS.n2
  have hn4 := hS.n4
  have hri1 : -2147483648 ≤ i ∧ i < 2147483648 := hri
  show jWp 172 0 [some (jO m), some (jI i), some (jI j)] [] 0 0 w _
  refine jWp.blk mt 2 ?_
  show _ ∧ jWp 172 2 [some (jO m), some (jI i), some (jI j)] [jI i, jO m] 0 0 w _
  refine ⟨rfl, ?_⟩
  refine jWp.callv (as := [jO m, jI i]) (rest := []) mt rfl rfl rfl ⟨rfl, jtg hW.K0⟩ ?_
  refine jCall.mono (E_isLetter hW hS hri) (fun v9 w9 h9 => ?_)
  rcases h9 with ⟨rfl, h9, h1⟩ | ⟨rfl, h9, h1⟩ <;> subst w9
  · have h1 : 0 ≤ i ∧ i < (n : Int) := h1
    show jWp 172 5 [some (jO m), some (jI i), some (jI j)] [jI 1] 0 0 w _
    obtain ⟨i1, rfl⟩ : ∃ i1 : Nat, i = (i1 : Int) := ⟨i.toNat, by omega⟩
    show jWp 172 5 [some (jO m), some (jI (i1 : Int)), some (jI j)] [jI 1] 0 0 w _
    refine jWp.ifc (b := false) mt rfl (by decide) rfl ?_
    show jWp 172 8 [some (jO m), some (jI (i1 : Int)), some (jI j)] [] 0 0 w _
    refine jWp.blk mt 2 ?_
    show _ ∧ jWp 172 10 [some (jO m), some (jI (i1 : Int)), some (jI j)] [jI j, jO m] 0 0 w _
    refine ⟨rfl, ?_⟩
    refine jWp.callv (as := [jO m, jI j]) (rest := []) mt rfl rfl rfl ⟨rfl, jtg hW.K0⟩ ?_
    refine jCall.mono (E_isLetter hW hS hrj) (fun v9 w9 h9 => ?_)
    rcases h9 with ⟨rfl, h9, h2⟩ | ⟨rfl, h9, h2⟩ <;> subst w9
    · have h2 : 0 ≤ j ∧ j < (n : Int) := h2
      show jWp 172 13 [some (jO m), some (jI (i1 : Int)), some (jI j)] [jI 1] 0 0 w _
      obtain ⟨j1, rfl⟩ : ∃ j1 : Nat, j = (j1 : Int) := ⟨j.toNat, by omega⟩
      show jWp 172 13 [some (jO m), some (jI (i1 : Int)), some (jI (j1 : Int))] [jI 1] 0 0 w _
      refine jWp.ifc (b := false) mt rfl (by decide) rfl ?_
      show jWp 172 16 [some (jO m), some (jI (i1 : Int)), some (jI (j1 : Int))] [] 0 0 w _
      refine jWp.blk mt 1 ?_
      show _ ∧ jWp 172 17 [some (jO m), some (jI (i1 : Int)), some (jI (j1 : Int))] [jO m] 0 0 w _
      refine ⟨rfl, ?_⟩
      refine jWp.getR (pc' := 20) (o := (m + 1)) mt rfl rfl (jtg hW.K0) hW.R0 ?_
      show jWp 172 20 [some (jO m), some (jI (i1 : Int)), some (jI (j1 : Int))] [jO (m + 1)] 0 0 w _
      refine jWp.blk mt 7 ?_
      show jWp 172 28 [some (jO m), some (jI (i1 : Int)), some (jI (j1 : Int))] [jI ((29 + (4 * (i1 : Int))) + (j1 : Int)), jO (m + 1)] 0 0 w _
      refine jWp.lald (pc' := 29) (j := (29 + 4 * i1 + j1)) mt rfl rfl (jtg hW.K1) (by rw [b32_id (by omega) (by omega)]; omega) (jlt hW.K1 (by omega)) ?_
      show jWp 172 29 [some (jO m), some (jI (i1 : Int)), some (jI (j1 : Int))] [jJ (w.1 (m + 1) (29 + 4 * i1 + j1))] 0 0 w _
      refine jWp.blk mt 2 ?_
      show jWp 172 38 [some (jO m), some (jI (i1 : Int)), some (jI (j1 : Int))] [jI (w.1 (m + 1) (29 + 4 * i1 + j1))] 0 0 w _
      refine jWp.ireti mt rfl ⟨rfl, rfl⟩ rfl ?_
      refine ⟨fun c0 => ?_, fun c0 => ?_⟩
      all_goals first
      | (exfalso; omega)
      | exact ⟨rfl, rfl⟩
    · have h2 : ¬ (0 ≤ j ∧ j < (n : Int)) := h2
      show jWp 172 13 [some (jO m), some (jI (i1 : Int)), some (jI j)] [jI 0] 0 0 w _
      refine jWp.ifc (b := true) mt rfl (by decide) rfl ?_
      show jWp 172 33 [some (jO m), some (jI (i1 : Int)), some (jI j)] [] 0 0 w _
      refine jWp.blk mt 2 ?_
      show _ ∧ jWp 172 35 [some (jO m), some (jI (i1 : Int)), some (jI j)] [jI (-1), jO m] 0 0 w _
      refine ⟨rfl, ?_⟩
      refine jWp.callv (as := [jO m, jI (-1)]) (rest := []) mt rfl rfl rfl ⟨rfl, jtg hW.K0⟩ ?_
      refine jCall.mono (E_far (w := w) (j := 1) hW (by decide) (by decide)) (fun v9 w9 h9 => ?_)
      obtain ⟨rfl, h9⟩ := h9
      subst h9
      show jWp 172 38 [some (jO m), some (jI (i1 : Int)), some (jI j)] [jI (1000000000 - (-1))] 0 0 (jW w (m + 3) 1 ((w.1 (m + 3) 1) + 1)) _
      refine jWp.ireti mt rfl ⟨rfl, rfl⟩ rfl ?_
      refine ⟨fun c0 => ?_, fun c0 => ?_⟩
      all_goals first
      | (exfalso; omega)
      | exact ⟨rfl, rfl⟩
  · have h1 : ¬ (0 ≤ i ∧ i < (n : Int)) := h1
    show jWp 172 5 [some (jO m), some (jI i), some (jI j)] [jI 0] 0 0 w _
    refine jWp.ifc (b := true) mt rfl (by decide) rfl ?_
    show jWp 172 33 [some (jO m), some (jI i), some (jI j)] [] 0 0 w _
    refine jWp.blk mt 2 ?_
    show _ ∧ jWp 172 35 [some (jO m), some (jI i), some (jI j)] [jI (-1), jO m] 0 0 w _
    refine ⟨rfl, ?_⟩
    refine jWp.callv (as := [jO m, jI (-1)]) (rest := []) mt rfl rfl rfl ⟨rfl, jtg hW.K0⟩ ?_
    refine jCall.mono (E_far (w := w) (j := 1) hW (by decide) (by decide)) (fun v9 w9 h9 => ?_)
    obtain ⟨rfl, h9⟩ := h9
    subst h9
    show jWp 172 38 [some (jO m), some (jI i), some (jI j)] [jI (1000000000 - (-1))] 0 0 (jW w (m + 3) 1 ((w.1 (m + 3) 1) + 1)) _
    refine jWp.ireti mt rfl ⟨rfl, rfl⟩ rfl ?_
    refine ⟨fun c0 => ?_, fun c0 => ?_⟩
    all_goals first
    | (exfalso; omega)
    | exact ⟨rfl, rfl⟩
set_option maxHeartbeats 4000000 in
set_option maxRecDepth 20000 in
theorem E_whole {w : jS} {m : Nat} (hW : MW w.2 m) {n : Nat} (hS : zS (w.1 (m + 1)) n) (hst : ∀ c, c < 4 → 0 ≤ w.1 (m + 1) (17 + c) ∧ w.1 (m + 1) (17 + c) ≤ 9) {i : Int} (hri : r32 i) : jCall 184 [jO m, jI i] w (fun v w1 => ((¬ (0 ≤ i ∧ i < (n : Int))) → jno w m 1 (jI (-1)) v w1) ∧ (¬ (¬ (0 ≤ i ∧ i < (n : Int))) → ∃ y, v = some (jI y) ∧ w1 = w ∧ (y = 0 ∨ y = 1) ∧ (w.1 (m + 1) (25 + i.toNat) = 1 → y = 1))) := by
  have mt : jtb 184 = jT184 := rfl
  have hn2 := hS.n2
  have hn4 := hS.n4
  have hri1 : -2147483648 ≤ i ∧ i < 2147483648 := hri
  show jWp 184 0 [some (jO m), some (jI i)] [] 0 0 w _
  refine jWp.blk mt 2 ?_
  show _ ∧ jWp 184 2 [some (jO m), some (jI i)] [jI i, jO m] 0 0 w _
  refine ⟨rfl, ?_⟩
  refine jWp.callv (as := [jO m, jI i]) (rest := []) mt rfl rfl rfl ⟨rfl, jtg hW.K0⟩ ?_
  refine jCall.mono (E_isLetter hW hS hri) (fun v9 w9 h9 => ?_)
  rcases h9 with ⟨rfl, h9, h1⟩ | ⟨rfl, h9, h1⟩ <;> subst w9
  · have h1 : 0 ≤ i ∧ i < (n : Int) := h1
    show jWp 184 5 [some (jO m), some (jI i)] [jI 1] 0 0 w _
    obtain ⟨i1, rfl⟩ : ∃ i1 : Nat, i = (i1 : Int) := ⟨i.toNat, by omega⟩
    show jWp 184 5 [some (jO m), some (jI (i1 : Int))] [jI 1] 0 0 w _
    refine jWp.ifc (b := true) mt rfl (by decide) rfl ?_
    show jWp 184 16 [some (jO m), some (jI (i1 : Int))] [] 0 0 w _
    refine jWp.blk mt 1 ?_
    show _ ∧ jWp 184 17 [some (jO m), some (jI (i1 : Int))] [jO m] 0 0 w _
    refine ⟨rfl, ?_⟩
    refine jWp.getR (pc' := 20) (o := (m + 1)) mt rfl rfl (jtg hW.K0) hW.R0 ?_
    show jWp 184 20 [some (jO m), some (jI (i1 : Int))] [jO (m + 1)] 0 0 w _
    refine jWp.blk mt 1 ?_
    show jWp 184 21 [some (jO m), some (jI (i1 : Int))] [jI (i1 : Int), jO (m + 1)] 0 0 w _
    refine jWp.calls (as := [jO (m + 1), jI (i1 : Int)]) (rest := []) mt rfl rfl rfl rfl ?_
    refine jCall.mono (E_isWhole (n := n) hW.K1 hS hst (i := i1) (by omega)) (fun v9 w9 h9 => ?_)
    obtain ⟨h9, y, rfl, hy, hy1⟩ := h9
    subst w9
    show jWp 184 24 [some (jO m), some (jI (i1 : Int))] [jI y] 0 0 w _
    refine jWp.ifz (pc' := 27) mt rfl rfl (b32_id (by omega) (by omega)) (fun h2 => ?_) (fun h2 => ?_)
    · have h2 : y = 0 := h2
      refine jWp.blk mt 1 ?_
      show jWp 184 32 [some (jO m), some (jI (i1 : Int))] [jI 0] 0 0 w _
      refine jWp.ireti mt rfl ⟨rfl, rfl⟩ rfl ?_
      refine ⟨fun c0 => ?_, fun c0 => ?_⟩
      all_goals first
      | (exfalso; omega)
      | exact ⟨rfl, rfl⟩
      | exact ⟨_, rfl, rfl, by omega, fun h => by have := hy1 h; omega⟩
    · have h2 : y ≠ 0 := h2
      refine jWp.blk mt 2 ?_
      show jWp 184 32 [some (jO m), some (jI (i1 : Int))] [jI 1] 0 0 w _
      refine jWp.ireti mt rfl ⟨rfl, rfl⟩ rfl ?_
      refine ⟨fun c0 => ?_, fun c0 => ?_⟩
      all_goals first
      | (exfalso; omega)
      | exact ⟨rfl, rfl⟩
      | exact ⟨_, rfl, rfl, by omega, fun h => by have := hy1 h; omega⟩
  · have h1 : ¬ (0 ≤ i ∧ i < (n : Int)) := h1
    show jWp 184 5 [some (jO m), some (jI i)] [jI 0] 0 0 w _
    refine jWp.ifc (b := false) mt rfl (by decide) rfl ?_
    show jWp 184 8 [some (jO m), some (jI i)] [] 0 0 w _
    refine jWp.blk mt 2 ?_
    show _ ∧ jWp 184 10 [some (jO m), some (jI i)] [jI (-1), jO m] 0 0 w _
    refine ⟨rfl, ?_⟩
    refine jWp.callv (as := [jO m, jI (-1)]) (rest := []) mt rfl rfl rfl ⟨rfl, jtg hW.K0⟩ ?_
    refine jCall.mono (E_refuses (w := w) (j := 1) hW (by decide) (by decide)) (fun v9 w9 h9 => ?_)
    obtain ⟨rfl, h9⟩ := h9
    subst h9
    show jWp 184 13 [some (jO m), some (jI i)] [jI (-1)] 0 0 (jW w (m + 3) 1 ((w.1 (m + 3) 1) + 1)) _
    refine jWp.blk mt 1 ?_
    show jWp 184 32 [some (jO m), some (jI i)] [jI (-1)] 0 0 (jW w (m + 3) 1 ((w.1 (m + 3) 1) + 1)) _
    refine jWp.ireti mt rfl ⟨rfl, rfl⟩ rfl ?_
    refine ⟨fun c0 => ?_, fun c0 => ?_⟩
    all_goals first
    | (exfalso; omega)
    | exact ⟨rfl, rfl⟩
    | exact ⟨_, rfl, rfl, by omega, fun h => by have := hy1 h; omega⟩
end
