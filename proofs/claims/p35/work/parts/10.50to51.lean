section
theorem zba_w {n a k d : Nat} {L : List zE} (h : ∀ o, o < L.length → (zL L o).2.2.2 ≤ d) (ha : (zL L a).2.2.2 < d) (hl : a < L.length) : (∀ o, o < (zba n a k L).length → (zL (zba n a k L) o).2.2.2 ≤ d) ∧ (zL (zba n a k L) a).2.2.2 < d ∧ a < (zba n a k L).length := by
  by_cases c : zcan (zL L a).1 n k ∧ znw2 L n (zxF (zL L a).1 n k)
  · rw [zba_t c]
    refine ⟨fun o ho => ?_, by rw [zL_l hl]; exact ha, by rw [List.length_append]; omega⟩
    rw [List.length_append] at ho
    simp only [List.length_cons, List.length_nil] at ho
    rcases Nat.lt_or_ge o L.length with g | g
    · rw [zL_l g]
      exact h o g
    · rw [show o = L.length by omega, zL_r]
      exact ha
  · rw [zba_f c]
    exact ⟨h, ha, hl⟩
theorem zbi_w {n a d : Nat} : ∀ f k L, (∀ o, o < L.length → (zL L o).2.2.2 ≤ d) → (zL L a).2.2.2 < d → a < L.length → ∀ o, o < (zbi n a f k L).length → (zL (zbi n a f k L) o).2.2.2 ≤ d
  | 0, _, _, h, _, _ => h
  | f + 1, k, L, h, ha, hl => by
    have g := zba_w (n := n) (k := k) h ha hl
    exact zbi_w f (k + 1) (zba n a k L) g.1 g.2.1 g.2.2
theorem zbo_w {n d : Nat} : ∀ f a L, (∀ o, o < L.length → (zL L o).2.2.2 ≤ d) → ∀ o, o < (zbo n d f a L).length → (zL (zbo n d f a L) o).2.2.2 ≤ d
  | 0, _, _, h => h
  | f + 1, a, L, h => by
    by_cases c : a < L.length ∧ (zL L a).2.2.2 < d
    · rw [zbo_t c]
      exact zbo_w f (a + 1) _ (zbi_w n 0 L h c.2 c.1)
    · rw [zbo_f c]
      exact h
theorem zBF_w {n d : Nat} {q : Nat → Int} : ∀ o, o < (zBF n d q).length → (zL (zBF n d q) o).2.2.2 ≤ d := by
  refine zbo_w 400 0 _ (fun o ho => ?_)
  have h : o = 0 := by simp only [List.length_cons, List.length_nil] at ho; omega
  subst h
  exact Nat.zero_le _
/-- whether some letter has a value; whether one of the first seeds has just this one -/
def zhv (q : Nat → Int) (n : Nat) (a b : Int) : Prop := ∃ i, i < n ∧ q (21 + i) * b = q (25 + i) * a
def zsd (L : List zE) (n s : Nat) (a b : Int) : Prop := ∃ p i, p < s ∧ i < n ∧ (zL L p).1 (21 + i) = a ∧ (zL L p).1 (25 + i) = b
theorem zmulv {x y : Int} (hx : 1 ≤ x ∧ x ≤ 1000000000) (hy : 0 ≤ y ∧ y ≤ 2147483648) : 0 ≤ x * y ∧ x * y ≤ 2147483648000000000 := by
  have h1 := Int.mul_nonneg (show 0 ≤ x by omega) hy.1
  have h2 : x * y ≤ 1000000000 * 2147483648 := Int.mul_le_mul hx.2 hy.2 hy.1 (by decide)
  omega
set_option maxHeartbeats 4000000 in
set_option maxRecDepth 20000 in
theorem E_hasValue {w : jS} {m : Nat} (hW : MW w.2 m) {n o : Nat} {q : Nat → Int} {L : List zE} (hn0 : w.1 (m + 1) 0 = (n : Int)) (hn4 : n ≤ 4) (hRL : zRL w.1 m L) (hBL : zBL n q L) (hl : L.length ≤ 341) {a b : Int} (ho : o < L.length) (ha : 0 ≤ a ∧ a ≤ 2147483648) (hb : 0 ≤ b ∧ b ≤ 2147483648) : jCall 193 [jO m, jI (o : Int), jJ a, jJ b] w (jvb (zhv (zL L o).1 n a b) w) := by
  have mt : jtb 193 = jT193 := rfl
  show jWp 193 0 [some (jO m), some (jI (o : Int)), some (jJ a), none, some (jJ b), none, none] [] 0 0 w _
  refine jWp.blk mt 2 ?_
  show jWp 193 3 [some (jO m), some (jI (o : Int)), some (jJ a), none, some (jJ b), none, some (jI 0)] [] 0 0 w _
  have lp1 : ∀ (N : Nat) (i : Nat) (hi : i ≤ n) (hA : ∀ x, x < i → ¬ (zL L o).1 (21 + x) * b = (zL L o).1 (25 + x) * a), n - i < N → jWp 193 3 [some (jO m), some (jI (o : Int)), some (jJ a), none, some (jJ b), none, some (jI (i : Int))] [] 0 0 w (jvb (zhv (zL L o).1 n a b) w) := by
    intro N
    induction N with
    | zero => intro i hi hA hm; omega
    | succ N ih2 =>
      intro i hi hA hm
      have hv : i < n → (1 ≤ (zL L o).1 (21 + i) ∧ (zL L o).1 (21 + i) ≤ 1000000000 ∧ 1 ≤ (zL L o).1 (25 + i) ∧ (zL L o).1 (25 + i) ≤ 1000000000) := fun h => (hBL.2.2.2 o ho).1.S.v i (by omega)
      have hp1 : i < n → _ := fun h => zmulv (x := (zL L o).1 (21 + i)) (y := b) ⟨(hv h).1, (hv h).2.1⟩ hb
      have hp2 : i < n → _ := fun h => zmulv (x := (zL L o).1 (25 + i)) (y := a) ⟨(hv h).2.2.1, (hv h).2.2.2⟩ ha
      refine jWp.blk mt 1 ?_
      show jWp 193 5 [some (jO m), some (jI (o : Int)), some (jJ a), none, some (jJ b), none, some (jI (i : Int))] [jI (i : Int)] 0 0 w _
      refine jWp.i2l (pc' := 6) mt rfl rfl (b32_id (by omega) (by omega)) ?_
      show jWp 193 6 [some (jO m), some (jI (o : Int)), some (jJ a), none, some (jJ b), none, some (jI (i : Int))] [jJ (i : Int)] 0 0 w _
      refine jWp.blk mt 1 ?_
      show _ ∧ jWp 193 7 [some (jO m), some (jI (o : Int)), some (jJ a), none, some (jJ b), none, some (jI (i : Int))] [jO m, jJ (i : Int)] 0 0 w _
      refine ⟨rfl, ?_⟩
      refine jWp.getR (pc' := 10) (o := (m + 1)) mt rfl rfl (jtg hW.K0) hW.R0 ?_
      show jWp 193 10 [some (jO m), some (jI (o : Int)), some (jJ a), none, some (jJ b), none, some (jI (i : Int))] [jO (m + 1), jJ (i : Int)] 0 0 w _
      refine jWp.blk mt 1 ?_
      show jWp 193 11 [some (jO m), some (jI (o : Int)), some (jJ a), none, some (jJ b), none, some (jI (i : Int))] [jI 0, jO (m + 1), jJ (i : Int)] 0 0 w _
      refine jWp.lald (pc' := 12) (j := 0) mt rfl rfl (jtg hW.K1) (by decide) (jlt hW.K1 (by decide)) ?_
      rw [show (w.1 (m + 1) 0) = (n : Int) from hn0]
      show jWp 193 12 [some (jO m), some (jI (o : Int)), some (jJ a), none, some (jJ b), none, some (jI (i : Int))] [jJ (n : Int), jJ (i : Int)] 0 0 w _
      refine jWp.lcmp (pc' := 16) mt rfl rfl rfl (b64_id (by omega) (by omega)) (b64_id (by omega) (by omega)) (fun h3 => ?_) (fun h3 => ?_)
      · have h3 : (n : Int) ≤ (i : Int) := h3
        refine jWp.blk mt 1 ?_
        show jWp 193 58 [some (jO m), some (jI (o : Int)), some (jJ a), none, some (jJ b), none, some (jI (i : Int))] [jI 0] 0 0 w _
        refine jWp.iretz mt rfl ⟨rfl, rfl⟩ rfl (Or.inl rfl) ?_
        exact Or.inr ⟨rfl, rfl, fun ⟨x, g1, g2⟩ => hA x (by omega) g2⟩
      · have h3 : (i : Int) < (n : Int) := h3
        refine jWp.blk mt 1 ?_
        show _ ∧ jWp 193 17 [some (jO m), some (jI (o : Int)), some (jJ a), none, some (jJ b), none, some (jI (i : Int))] [jO m] 0 0 w _
        refine ⟨rfl, ?_⟩
        refine jWp.getR (pc' := 20) (o := (m + 17)) mt rfl rfl (jtg hW.K0) hW.R17 ?_
        show jWp 193 20 [some (jO m), some (jI (o : Int)), some (jJ a), none, some (jJ b), none, some (jI (i : Int))] [jO (m + 17)] 0 0 w _
        refine jWp.blk mt 1 ?_
        show jWp 193 21 [some (jO m), some (jI (o : Int)), some (jJ a), none, some (jJ b), none, some (jI (i : Int))] [jI (o : Int), jO (m + 17)] 0 0 w _
        refine jWp.aald (pc' := 22) (j := o) (o := (m + (18 + o))) mt rfl rfl (jrg hW.K17 (by decide) (by decide)) (b32_id (by omega) (by omega)) (jlt hW.K17 (by omega)) (hW.RFo o (by omega)) ?_
        show jWp 193 22 [some (jO m), some (jI (o : Int)), some (jJ a), none, some (jJ b), none, some (jI (i : Int))] [jO (m + (18 + o))] 0 0 w _
        refine jWp.blk mt 3 ?_
        show jWp 193 27 [some (jO m), some (jI (o : Int)), some (jJ a), none, some (jJ b), none, some (jI (i : Int))] [jI (21 + (i : Int)), jO (m + (18 + o))] 0 0 w _
        refine jWp.lald (pc' := 28) (j := (21 + i)) mt rfl rfl (jtg (hW.KF _ (by omega))) (by rw [b32_id (by omega) (by omega)]; omega) (jlt (hW.KF _ (by omega)) (by omega)) ?_
        rw [show (w.1 (m + (18 + o)) (21 + i)) = ((zL L o).1 (21 + i)) from ((hRL.2 o (by omega)).1 (21 + i) (by omega))]
        show jWp 193 28 [some (jO m), some (jI (o : Int)), some (jJ a), none, some (jJ b), none, some (jI (i : Int))] [jJ ((zL L o).1 (21 + i))] 0 0 w _
        refine jWp.blk mt 3 ?_
        show _ ∧ jWp 193 32 [some (jO m), some (jI (o : Int)), some (jJ a), none, some (jJ b), none, some (jI (i : Int))] [jO m, jJ (((zL L o).1 (21 + i)) * b)] 0 0 w _
        refine ⟨rfl, ?_⟩
        refine jWp.getR (pc' := 35) (o := (m + 17)) mt rfl rfl (jtg hW.K0) hW.R17 ?_
        show jWp 193 35 [some (jO m), some (jI (o : Int)), some (jJ a), none, some (jJ b), none, some (jI (i : Int))] [jO (m + 17), jJ (((zL L o).1 (21 + i)) * b)] 0 0 w _
        refine jWp.blk mt 1 ?_
        show jWp 193 36 [some (jO m), some (jI (o : Int)), some (jJ a), none, some (jJ b), none, some (jI (i : Int))] [jI (o : Int), jO (m + 17), jJ (((zL L o).1 (21 + i)) * b)] 0 0 w _
        refine jWp.aald (pc' := 37) (j := o) (o := (m + (18 + o))) mt rfl rfl (jrg hW.K17 (by decide) (by decide)) (b32_id (by omega) (by omega)) (jlt hW.K17 (by omega)) (hW.RFo o (by omega)) ?_
        show jWp 193 37 [some (jO m), some (jI (o : Int)), some (jJ a), none, some (jJ b), none, some (jI (i : Int))] [jO (m + (18 + o)), jJ (((zL L o).1 (21 + i)) * b)] 0 0 w _
        refine jWp.blk mt 3 ?_
        show jWp 193 42 [some (jO m), some (jI (o : Int)), some (jJ a), none, some (jJ b), none, some (jI (i : Int))] [jI (25 + (i : Int)), jO (m + (18 + o)), jJ (((zL L o).1 (21 + i)) * b)] 0 0 w _
        refine jWp.lald (pc' := 43) (j := (25 + i)) mt rfl rfl (jtg (hW.KF _ (by omega))) (by rw [b32_id (by omega) (by omega)]; omega) (jlt (hW.KF _ (by omega)) (by omega)) ?_
        rw [show (w.1 (m + (18 + o)) (25 + i)) = ((zL L o).1 (25 + i)) from ((hRL.2 o (by omega)).1 (25 + i) (by omega))]
        show jWp 193 43 [some (jO m), some (jI (o : Int)), some (jJ a), none, some (jJ b), none, some (jI (i : Int))] [jJ ((zL L o).1 (25 + i)), jJ (((zL L o).1 (21 + i)) * b)] 0 0 w _
        refine jWp.blk mt 2 ?_
        show jWp 193 45 [some (jO m), some (jI (o : Int)), some (jJ a), none, some (jJ b), none, some (jI (i : Int))] [jJ (((zL L o).1 (25 + i)) * a), jJ (((zL L o).1 (21 + i)) * b)] 0 0 w _
        refine jWp.lcmp (pc' := 49) mt rfl rfl rfl (b64_id (by omega) (by omega)) (b64_id (by omega) (by omega)) (fun h4 => ?_) (fun h4 => ?_)
        · have h4 : (((zL L o).1 (21 + i)) * b) ≠ (((zL L o).1 (25 + i)) * a) := h4
          refine jWp.blk mt 2 ?_
          show jWp 193 3 [some (jO m), some (jI (o : Int)), some (jJ a), none, some (jJ b), none, some (jI ((i : Int) + 1))] [] 0 0 w _
          refine jWp.le (l := [some (jO m), some (jI (o : Int)), some (jJ a), none, some (jJ b), none, some (jI ((i : Int) + 1))]) (by exact ⟨rfl, rfl, rfl, rfl, rfl, trivial⟩) ?_
          exact ih2 (i + 1) (by omega) (fun x hx => by rcases Nat.lt_or_ge x i with e | e; exact hA x e; rw [show x = i by omega]; assumption) (by omega)
        · have h4 : (((zL L o).1 (21 + i)) * b) = (((zL L o).1 (25 + i)) * a) := h4
          refine jWp.blk mt 1 ?_
          show jWp 193 50 [some (jO m), some (jI (o : Int)), some (jJ a), none, some (jJ b), none, some (jI (i : Int))] [jI 1] 0 0 w _
          refine jWp.iretz mt rfl ⟨rfl, rfl⟩ rfl (Or.inr rfl) ?_
          exact Or.inl ⟨rfl, rfl, i, by omega, by assumption⟩
  refine jWp.le (l := [some (jO m), some (jI (o : Int)), some (jJ a), none, some (jJ b), none, some (jI 0)]) (by exact ⟨rfl, rfl, rfl, rfl, rfl, trivial⟩) ?_
  exact lp1 _ 0 (by omega) (fun x hx => absurd hx (by omega)) (Nat.lt_succ_self _)
set_option maxHeartbeats 4000000 in
set_option maxRecDepth 20000 in
theorem E_stands {w : jS} {m : Nat} (hW : MW w.2 m) {n s9 : Nat} {q : Nat → Int} {L : List zE} (hn0 : w.1 (m + 1) 0 = (n : Int)) (hn4 : n ≤ 4) (hRL : zRL w.1 m L) (hBL : zBL n q L) (hl : L.length ≤ 341) {a b : Int} (hs9 : s9 ≤ L.length) (ha : 1 ≤ a ∧ a ≤ 1000000000) (hb : 1 ≤ b ∧ b ≤ 1000000000) : jCall 190 [jO m, jI (s9 : Int), jJ a, jJ b] w (jvb (zsd L n s9 a b) w) := by
  have mt : jtb 190 = jT190 := rfl
  show jWp 190 0 [some (jO m), some (jI (s9 : Int)), some (jJ a), none, some (jJ b), none, none, none] [] 0 0 w _
  refine jWp.blk mt 2 ?_
  show jWp 190 3 [some (jO m), some (jI (s9 : Int)), some (jJ a), none, some (jJ b), none, some (jI 0), none] [] 0 0 w _
  have lp1 : ∀ (N : Nat) (o : Nat) (ho : o ≤ s9) (hA : ∀ p i, p < o → i < n → ¬ ((zL L p).1 (21 + i) = a ∧ (zL L p).1 (25 + i) = b)), s9 - o < N → jWp 190 3 [some (jO m), some (jI (s9 : Int)), some (jJ a), none, some (jJ b), none, some (jI (o : Int)), none] [] 0 0 w (jvb (zsd L n s9 a b) w) := by
    intro N
    induction N with
    | zero => intro o ho hA hm; omega
    | succ N ih2 =>
      intro o ho hA hm
      refine jWp.blk mt 2 ?_
      show jWp 190 6 [some (jO m), some (jI (s9 : Int)), some (jJ a), none, some (jJ b), none, some (jI (o : Int)), none] [jI (s9 : Int), jI (o : Int)] 0 0 w _
      refine jWp.icmp (pc' := 9) mt rfl rfl (b32_id (by omega) (by omega)) (b32_id (by omega) (by omega)) (fun h3 => ?_) (fun h3 => ?_)
      · have h3 : (s9 : Int) ≤ (o : Int) := h3
        refine jWp.blk mt 1 ?_
        show jWp 190 77 [some (jO m), some (jI (s9 : Int)), some (jJ a), none, some (jJ b), none, some (jI (o : Int)), none] [jI 0] 0 0 w _
        refine jWp.iretz mt rfl ⟨rfl, rfl⟩ rfl (Or.inl rfl) ?_
        exact Or.inr ⟨rfl, rfl, fun ⟨p, x, g1, g2, g3⟩ => hA p x (by omega) g2 g3⟩
      · have h3 : (o : Int) < (s9 : Int) := h3
        refine jWp.blk mt 2 ?_
        show jWp 190 12 [some (jO m), some (jI (s9 : Int)), some (jJ a), none, some (jJ b), none, some (jI (o : Int)), some (jI 0)] [] 0 0 w _
        have lp4 : ∀ (N : Nat) (i : Nat) (hi : i ≤ n) (hB : ∀ x, x < i → ¬ ((zL L o).1 (21 + x) = a ∧ (zL L o).1 (25 + x) = b)), n - i < N → jWp 190 12 [some (jO m), some (jI (s9 : Int)), some (jJ a), none, some (jJ b), none, some (jI (o : Int)), some (jI (i : Int))] [] 0 0 w (jvb (zsd L n s9 a b) w) := by
          intro N
          induction N with
          | zero => intro i hi hB hm; omega
          | succ N ih5 =>
            intro i hi hB hm
            have hv : i < n → (1 ≤ (zL L o).1 (21 + i) ∧ (zL L o).1 (21 + i) ≤ 1000000000 ∧ 1 ≤ (zL L o).1 (25 + i) ∧ (zL L o).1 (25 + i) ≤ 1000000000) := fun h => (hBL.2.2.2 o (by omega)).1.S.v i (by omega)
            refine jWp.blk mt 1 ?_
            show jWp 190 14 [some (jO m), some (jI (s9 : Int)), some (jJ a), none, some (jJ b), none, some (jI (o : Int)), some (jI (i : Int))] [jI (i : Int)] 0 0 w _
            refine jWp.i2l (pc' := 15) mt rfl rfl (b32_id (by omega) (by omega)) ?_
            show jWp 190 15 [some (jO m), some (jI (s9 : Int)), some (jJ a), none, some (jJ b), none, some (jI (o : Int)), some (jI (i : Int))] [jJ (i : Int)] 0 0 w _
            refine jWp.blk mt 1 ?_
            show _ ∧ jWp 190 16 [some (jO m), some (jI (s9 : Int)), some (jJ a), none, some (jJ b), none, some (jI (o : Int)), some (jI (i : Int))] [jO m, jJ (i : Int)] 0 0 w _
            refine ⟨rfl, ?_⟩
            refine jWp.getR (pc' := 19) (o := (m + 1)) mt rfl rfl (jtg hW.K0) hW.R0 ?_
            show jWp 190 19 [some (jO m), some (jI (s9 : Int)), some (jJ a), none, some (jJ b), none, some (jI (o : Int)), some (jI (i : Int))] [jO (m + 1), jJ (i : Int)] 0 0 w _
            refine jWp.blk mt 1 ?_
            show jWp 190 20 [some (jO m), some (jI (s9 : Int)), some (jJ a), none, some (jJ b), none, some (jI (o : Int)), some (jI (i : Int))] [jI 0, jO (m + 1), jJ (i : Int)] 0 0 w _
            refine jWp.lald (pc' := 21) (j := 0) mt rfl rfl (jtg hW.K1) (by decide) (jlt hW.K1 (by decide)) ?_
            rw [show (w.1 (m + 1) 0) = (n : Int) from hn0]
            show jWp 190 21 [some (jO m), some (jI (s9 : Int)), some (jJ a), none, some (jJ b), none, some (jI (o : Int)), some (jI (i : Int))] [jJ (n : Int), jJ (i : Int)] 0 0 w _
            refine jWp.lcmp (pc' := 25) mt rfl rfl rfl (b64_id (by omega) (by omega)) (b64_id (by omega) (by omega)) (fun h6 => ?_) (fun h6 => ?_)
            · have h6 : (n : Int) ≤ (i : Int) := h6
              refine jWp.blk mt 2 ?_
              show jWp 190 3 [some (jO m), some (jI (s9 : Int)), some (jJ a), none, some (jJ b), none, some (jI ((o : Int) + 1)), some (jI (i : Int))] [] 0 0 w _
              refine jWp.le (l := [some (jO m), some (jI (s9 : Int)), some (jJ a), none, some (jJ b), none, some (jI ((o : Int) + 1)), none]) (by exact ⟨rfl, rfl, rfl, rfl, rfl, trivial⟩) ?_
              exact ih2 (o + 1) (by omega) (fun p x hp hx => by rcases Nat.lt_or_ge p o with e | e; exact hA p x e hx; rw [show p = o by omega]; exact hB x (by omega)) (by omega)
            · have h6 : (i : Int) < (n : Int) := h6
              refine jWp.blk mt 1 ?_
              show _ ∧ jWp 190 26 [some (jO m), some (jI (s9 : Int)), some (jJ a), none, some (jJ b), none, some (jI (o : Int)), some (jI (i : Int))] [jO m] 0 0 w _
              refine ⟨rfl, ?_⟩
              refine jWp.getR (pc' := 29) (o := (m + 17)) mt rfl rfl (jtg hW.K0) hW.R17 ?_
              show jWp 190 29 [some (jO m), some (jI (s9 : Int)), some (jJ a), none, some (jJ b), none, some (jI (o : Int)), some (jI (i : Int))] [jO (m + 17)] 0 0 w _
              refine jWp.blk mt 1 ?_
              show jWp 190 31 [some (jO m), some (jI (s9 : Int)), some (jJ a), none, some (jJ b), none, some (jI (o : Int)), some (jI (i : Int))] [jI (o : Int), jO (m + 17)] 0 0 w _
              refine jWp.aald (pc' := 32) (j := o) (o := (m + (18 + o))) mt rfl rfl (jrg hW.K17 (by decide) (by decide)) (b32_id (by omega) (by omega)) (jlt hW.K17 (by omega)) (hW.RFo o (by omega)) ?_
              show jWp 190 32 [some (jO m), some (jI (s9 : Int)), some (jJ a), none, some (jJ b), none, some (jI (o : Int)), some (jI (i : Int))] [jO (m + (18 + o))] 0 0 w _
              refine jWp.blk mt 3 ?_
              show jWp 190 37 [some (jO m), some (jI (s9 : Int)), some (jJ a), none, some (jJ b), none, some (jI (o : Int)), some (jI (i : Int))] [jI (21 + (i : Int)), jO (m + (18 + o))] 0 0 w _
              refine jWp.lald (pc' := 38) (j := (21 + i)) mt rfl rfl (jtg (hW.KF _ (by omega))) (by rw [b32_id (by omega) (by omega)]; omega) (jlt (hW.KF _ (by omega)) (by omega)) ?_
              rw [show (w.1 (m + (18 + o)) (21 + i)) = ((zL L o).1 (21 + i)) from ((hRL.2 o (by omega)).1 (21 + i) (by omega))]
              show jWp 190 38 [some (jO m), some (jI (s9 : Int)), some (jJ a), none, some (jJ b), none, some (jI (o : Int)), some (jI (i : Int))] [jJ ((zL L o).1 (21 + i))] 0 0 w _
              refine jWp.blk mt 1 ?_
              show jWp 190 39 [some (jO m), some (jI (s9 : Int)), some (jJ a), none, some (jJ b), none, some (jI (o : Int)), some (jI (i : Int))] [jJ a, jJ ((zL L o).1 (21 + i))] 0 0 w _
              refine jWp.lcmp (pc' := 43) mt rfl rfl rfl (b64_id (by omega) (by omega)) (b64_id (by omega) (by omega)) (fun h7 => ?_) (fun h7 => ?_)
              · have h7 : ((zL L o).1 (21 + i)) ≠ a := h7
                refine jWp.blk mt 2 ?_
                show jWp 190 12 [some (jO m), some (jI (s9 : Int)), some (jJ a), none, some (jJ b), none, some (jI (o : Int)), some (jI ((i : Int) + 1))] [] 0 0 w _
                refine jWp.le (l := [some (jO m), some (jI (s9 : Int)), some (jJ a), none, some (jJ b), none, some (jI (o : Int)), some (jI ((i : Int) + 1))]) (by exact ⟨rfl, rfl, rfl, rfl, rfl, rfl, trivial⟩) ?_
                exact ih5 (i + 1) (by omega) (fun x hx => by rcases Nat.lt_or_ge x i with e | e; exact hB x e; rw [show x = i by omega]; intro g; first | exact absurd g.1 (by assumption) | exact absurd g.2 (by assumption)) (by omega)
              · have h7 : ((zL L o).1 (21 + i)) = a := h7
                refine jWp.blk mt 1 ?_
                show _ ∧ jWp 190 44 [some (jO m), some (jI (s9 : Int)), some (jJ a), none, some (jJ b), none, some (jI (o : Int)), some (jI (i : Int))] [jO m] 0 0 w _
                refine ⟨rfl, ?_⟩
                refine jWp.getR (pc' := 47) (o := (m + 17)) mt rfl rfl (jtg hW.K0) hW.R17 ?_
                show jWp 190 47 [some (jO m), some (jI (s9 : Int)), some (jJ a), none, some (jJ b), none, some (jI (o : Int)), some (jI (i : Int))] [jO (m + 17)] 0 0 w _
                refine jWp.blk mt 1 ?_
                show jWp 190 49 [some (jO m), some (jI (s9 : Int)), some (jJ a), none, some (jJ b), none, some (jI (o : Int)), some (jI (i : Int))] [jI (o : Int), jO (m + 17)] 0 0 w _
                refine jWp.aald (pc' := 50) (j := o) (o := (m + (18 + o))) mt rfl rfl (jrg hW.K17 (by decide) (by decide)) (b32_id (by omega) (by omega)) (jlt hW.K17 (by omega)) (hW.RFo o (by omega)) ?_
                show jWp 190 50 [some (jO m), some (jI (s9 : Int)), some (jJ a), none, some (jJ b), none, some (jI (o : Int)), some (jI (i : Int))] [jO (m + (18 + o))] 0 0 w _
                refine jWp.blk mt 3 ?_
                show jWp 190 55 [some (jO m), some (jI (s9 : Int)), some (jJ a), none, some (jJ b), none, some (jI (o : Int)), some (jI (i : Int))] [jI (25 + (i : Int)), jO (m + (18 + o))] 0 0 w _
                refine jWp.lald (pc' := 56) (j := (25 + i)) mt rfl rfl (jtg (hW.KF _ (by omega))) (by rw [b32_id (by omega) (by omega)]; omega) (jlt (hW.KF _ (by omega)) (by omega)) ?_
                rw [show (w.1 (m + (18 + o)) (25 + i)) = ((zL L o).1 (25 + i)) from ((hRL.2 o (by omega)).1 (25 + i) (by omega))]
                show jWp 190 56 [some (jO m), some (jI (s9 : Int)), some (jJ a), none, some (jJ b), none, some (jI (o : Int)), some (jI (i : Int))] [jJ ((zL L o).1 (25 + i))] 0 0 w _
                refine jWp.blk mt 1 ?_
                show jWp 190 58 [some (jO m), some (jI (s9 : Int)), some (jJ a), none, some (jJ b), none, some (jI (o : Int)), some (jI (i : Int))] [jJ b, jJ ((zL L o).1 (25 + i))] 0 0 w _
                refine jWp.lcmp (pc' := 62) mt rfl rfl rfl (b64_id (by omega) (by omega)) (b64_id (by omega) (by omega)) (fun h8 => ?_) (fun h8 => ?_)
                · have h8 : ((zL L o).1 (25 + i)) ≠ b := h8
                  refine jWp.blk mt 2 ?_
                  show jWp 190 12 [some (jO m), some (jI (s9 : Int)), some (jJ a), none, some (jJ b), none, some (jI (o : Int)), some (jI ((i : Int) + 1))] [] 0 0 w _
                  refine jWp.le (l := [some (jO m), some (jI (s9 : Int)), some (jJ a), none, some (jJ b), none, some (jI (o : Int)), some (jI ((i : Int) + 1))]) (by exact ⟨rfl, rfl, rfl, rfl, rfl, rfl, trivial⟩) ?_
                  exact ih5 (i + 1) (by omega) (fun x hx => by rcases Nat.lt_or_ge x i with e | e; exact hB x e; rw [show x = i by omega]; intro g; first | exact absurd g.1 (by assumption) | exact absurd g.2 (by assumption)) (by omega)
                · have h8 : ((zL L o).1 (25 + i)) = b := h8
                  refine jWp.blk mt 1 ?_
                  show jWp 190 63 [some (jO m), some (jI (s9 : Int)), some (jJ a), none, some (jJ b), none, some (jI (o : Int)), some (jI (i : Int))] [jI 1] 0 0 w _
                  refine jWp.iretz mt rfl ⟨rfl, rfl⟩ rfl (Or.inr rfl) ?_
                  exact Or.inl ⟨rfl, rfl, o, i, by omega, by omega, by assumption, by assumption⟩
        refine jWp.le (l := [some (jO m), some (jI (s9 : Int)), some (jJ a), none, some (jJ b), none, some (jI (o : Int)), some (jI 0)]) (by exact ⟨rfl, rfl, rfl, rfl, rfl, rfl, trivial⟩) ?_
        exact lp4 _ 0 (by omega) (fun x hx => absurd hx (by omega)) (Nat.lt_succ_self _)
  refine jWp.le (l := [some (jO m), some (jI (s9 : Int)), some (jJ a), none, some (jJ b), none, some (jI 0), none]) (by exact ⟨rfl, rfl, rfl, rfl, rfl, trivial⟩) ?_
  exact lp1 _ 0 (by omega) (fun p i hp => absurd hp (by omega)) (Nat.lt_succ_self _)
/-- the seed on the way to one that so many exchanges lead to -/
def zan (L : List zE) : Nat → Nat → Int → Nat
  | 0, p, _ => p
  | f + 1, p, i => if i + 1 < ((zL L p).2.2.2 : Int) then zan L f (zL L p).2.1 i else p
theorem zan_t {L : List zE} {f p : Nat} {i : Int} (h : i + 1 < ((zL L p).2.2.2 : Int)) : zan L (f + 1) p i = zan L f (zL L p).2.1 i := if_pos h
theorem zan_f {L : List zE} {f p : Nat} {i : Int} (h : ¬ i + 1 < ((zL L p).2.2.2 : Int)) : zan L f p i = p := by
  cases f with
  | zero => rfl
  | succ f => exact if_neg h
/-- the fewest exchanges to a value -/
noncomputable def zfp (L : List zE) (n : Nat) (a b : Int) : Int := zff (fun o => zhv (zL L o).1 n a b) L.length 0
noncomputable def zfw (L : List zE) (n : Nat) (a b i : Int) : Int := if zfp L n a b < 0 then -9 else if i = -1 then ((zL L (zfp L n a b).toNat).2.2.2 : Int) else if ((zL L (zfp L n a b).toNat).2.2.2 : Int) ≤ i then -9 else ((zL L (zan L 5 (zfp L n a b).toNat i)).2.2.1 : Int)
set_option maxHeartbeats 4000000 in
set_option maxRecDepth 20000 in
theorem E_fewest {w : jS} {m : Nat} (hW : MW w.2 m) {n : Nat} (hQ : zQ (w.1 (m + 1)) n) {a b i : Int} (hra : r32 a) (hrb : r32 b) (hri : r32 i) : jCall 194 [jO m, jI a, jI b, jI i] w (fun v w1 => ((a < 0 ∨ b < 1 ∨ i < -1) → jno w m 4 (jI (-4)) v w1) ∧ (¬ (a < 0 ∨ b < 1 ∨ i < -1) → v = some (jI (zfw (zBF n 4 (w.1 (m + 1))) n a b i)) ∧ mq w m w1)) := by
  have mt : jtb 194 = jT194 := rfl
  have hra1 : -2147483648 ≤ a ∧ a < 2147483648 := hra
  have hrb1 : -2147483648 ≤ b ∧ b < 2147483648 := hrb
  have hri1 : -2147483648 ≤ i ∧ i < 2147483648 := hri
  show jWp 194 0 [some (jO m), some (jI a), some (jI b), some (jI i), none] [] 0 0 w _
  refine jWp.blk mt 1 ?_
  show jWp 194 1 [some (jO m), some (jI a), some (jI b), some (jI i), none] [jI a] 0 0 w _
  refine jWp.ifz (pc' := 4) mt rfl rfl (b32_id (by omega) (by omega)) (fun h1 => ?_) (fun h1 => ?_)
  · have h1 : a < 0 := h1
    refine jWp.blk mt 2 ?_
    show _ ∧ jWp 194 17 [some (jO m), some (jI a), some (jI b), some (jI i), none] [jI (-4), jO m] 0 0 w _
    refine ⟨rfl, ?_⟩
    refine jWp.callv (as := [jO m, jI (-4)]) (rest := []) mt rfl rfl rfl ⟨rfl, jtg hW.K0⟩ ?_
    refine jCall.mono (E_refuses (w := w) (j := 4) hW (by decide) (by decide)) (fun v9 w9 h9 => ?_)
    obtain ⟨rfl, h9⟩ := h9
    subst h9
    show jWp 194 20 [some (jO m), some (jI a), some (jI b), some (jI i), none] [jI (-4)] 0 0 (jW w (m + 3) 4 ((w.1 (m + 3) 4) + 1)) _
    refine jWp.ireti mt rfl ⟨rfl, rfl⟩ rfl ?_
    refine ⟨fun c0 => ?_, fun c0 => ?_⟩
    all_goals first
    | (exfalso; omega)
    | exact ⟨rfl, rfl⟩
  · have h1 : 0 ≤ a := h1
    refine jWp.blk mt 2 ?_
    show jWp 194 6 [some (jO m), some (jI a), some (jI b), some (jI i), none] [jI 1, jI b] 0 0 w _
    refine jWp.icmp (pc' := 9) mt rfl rfl (b32_id (by omega) (by omega)) (show b32 1 = 1 by decide) (fun h2 => ?_) (fun h2 => ?_)
    · have h2 : b < 1 := h2
      refine jWp.blk mt 2 ?_
      show _ ∧ jWp 194 17 [some (jO m), some (jI a), some (jI b), some (jI i), none] [jI (-4), jO m] 0 0 w _
      refine ⟨rfl, ?_⟩
      refine jWp.callv (as := [jO m, jI (-4)]) (rest := []) mt rfl rfl rfl ⟨rfl, jtg hW.K0⟩ ?_
      refine jCall.mono (E_refuses (w := w) (j := 4) hW (by decide) (by decide)) (fun v9 w9 h9 => ?_)
      obtain ⟨rfl, h9⟩ := h9
      subst h9
      show jWp 194 20 [some (jO m), some (jI a), some (jI b), some (jI i), none] [jI (-4)] 0 0 (jW w (m + 3) 4 ((w.1 (m + 3) 4) + 1)) _
      refine jWp.ireti mt rfl ⟨rfl, rfl⟩ rfl ?_
      refine ⟨fun c0 => ?_, fun c0 => ?_⟩
      all_goals first
      | (exfalso; omega)
      | exact ⟨rfl, rfl⟩
    · have h2 : 1 ≤ b := h2
      refine jWp.blk mt 2 ?_
      show jWp 194 11 [some (jO m), some (jI a), some (jI b), some (jI i), none] [jI (-1), jI i] 0 0 w _
      refine jWp.icmp (pc' := 14) mt rfl rfl (b32_id (by omega) (by omega)) (show b32 (-1) = (-1) by decide) (fun h3 => ?_) (fun h3 => ?_)
      · have h3 : (-1) ≤ i := h3
        refine jWp.blk mt 2 ?_
        show _ ∧ jWp 194 23 [some (jO m), some (jI a), some (jI b), some (jI i), none] [jI 4, jO m] 0 0 w _
        refine ⟨rfl, ?_⟩
        refine jWp.callv (as := [jO m, jI 4]) (rest := []) mt rfl rfl rfl ⟨rfl, jtg hW.K0⟩ ?_
        refine jCall.mono (E_finds (w := w) (n := n) (d := 4) hW hQ (by omega)) (fun v9 w9 h9 => ?_)
        obtain ⟨rfl, hmq, hRL, hBL, hl⟩ := h9
        obtain ⟨M1, G9⟩ := w9
        have hg : G9 = w.2 := hmq.1
        subst hg
        have hRL : zRL M1 m (zBF n 4 (w.1 (m + 1))) := hRL
        have hw9 := zBF_w (n := n) (d := 4) (q := w.1 (m + 1))
        obtain ⟨L, hLe⟩ : ∃ L, zBF n 4 (w.1 (m + 1)) = L := ⟨_, rfl⟩
        rw [hLe] at hRL hBL hl hw9
        have hn0 : M1 (m + 1) 0 = (n : Int) := (congrFun (hmq.2.1 (m + 1) (by omega)) 0).trans hQ.S.n0
        have hn4 := hQ.S.n4
        have hl1 := hBL.1
        show jWp 194 26 [some (jO m), some (jI a), some (jI b), some (jI i), none] [] 0 0 (M1, w.2) _
        refine jWp.blk mt 2 ?_
        show jWp 194 29 [some (jO m), some (jI a), some (jI b), some (jI i), some (jI 0)] [] 0 0 (M1, w.2) _
        have lp4 : ∀ (N : Nat) (p : Nat) (hp : p ≤ L.length) (hfp : zff (fun o => zhv (zL L o).1 n a b) (L.length - p) p = zff (fun o => zhv (zL L o).1 n a b) L.length 0), L.length - p < N → jWp 194 29 [some (jO m), some (jI a), some (jI b), some (jI i), some (jI (p : Int))] [] 0 0 (M1, w.2) (fun v w1 => ((a < 0 ∨ b < 1 ∨ i < -1) → jno w m 4 (jI (-4)) v w1) ∧ (¬ (a < 0 ∨ b < 1 ∨ i < -1) → v = some (jI (zfw (zBF n 4 (w.1 (m + 1))) n a b i)) ∧ mq w m w1)) := by
          intro N
          induction N with
          | zero => intro p hp hfp hm; omega
          | succ N ih5 =>
            intro p hp hfp hm
            have haw : p < L.length → (zL L p).2.2.2 ≤ 4 := fun g => hw9 p g
            refine jWp.blk mt 2 ?_
            show _ ∧ jWp 194 32 [some (jO m), some (jI a), some (jI b), some (jI i), some (jI (p : Int))] [jO m, jI (p : Int)] 0 0 (M1, w.2) _
            refine ⟨rfl, ?_⟩
            refine jWp.getI (pc' := 35) mt rfl rfl (jtg hW.K0) ?_
            rw [show ((M1, w.2).1 m 21) = (L.length : Int) from hRL.1]
            show jWp 194 35 [some (jO m), some (jI a), some (jI b), some (jI i), some (jI (p : Int))] [jI (L.length : Int), jI (p : Int)] 0 0 (M1, w.2) _
            refine jWp.icmp (pc' := 38) mt rfl rfl (b32_id (by omega) (by omega)) (b32_id (by omega) (by omega)) (fun h6 => ?_) (fun h6 => ?_)
            · have h6 : (L.length : Int) ≤ (p : Int) := h6
              refine jWp.blk mt 2 ?_
              show _ ∧ jWp 194 60 [some (jO m), some (jI a), some (jI b), some (jI i), some (jI (p : Int))] [jO m, jI (p : Int)] 0 0 (M1, w.2) _
              refine ⟨rfl, ?_⟩
              refine jWp.getI (pc' := 63) mt rfl rfl (jtg hW.K0) ?_
              rw [show ((M1, w.2).1 m 21) = (L.length : Int) from hRL.1]
              show jWp 194 63 [some (jO m), some (jI a), some (jI b), some (jI i), some (jI (p : Int))] [jI (L.length : Int), jI (p : Int)] 0 0 (M1, w.2) _
              refine jWp.icmp (pc' := 66) mt rfl rfl (b32_id (by omega) (by omega)) (b32_id (by omega) (by omega)) (fun h7 => ?_) (fun h7 => ?_)
              · have h7 : (p : Int) ≠ (L.length : Int) := h7
                refine jWp.blk mt 2 ?_
                show jWp 194 71 [some (jO m), some (jI a), some (jI b), some (jI i), some (jI (p : Int))] [jI (-1), jI i] 0 0 (M1, w.2) _
                refine jWp.icmp (pc' := 74) mt rfl rfl (b32_id (by omega) (by omega)) (show b32 (-1) = (-1) by decide) (fun h8 => ?_) (fun h8 => ?_)
                · have h8 : i ≠ (-1) := h8
                  refine jWp.blk mt 2 ?_
                  show _ ∧ jWp 194 84 [some (jO m), some (jI a), some (jI b), some (jI i), some (jI (p : Int))] [jO m, jI i] 0 0 (M1, w.2) _
                  refine ⟨rfl, ?_⟩
                  refine jWp.getR (pc' := 87) (o := (m + 420)) mt rfl rfl (jtg hW.K0) hW.R20 ?_
                  show jWp 194 87 [some (jO m), some (jI a), some (jI b), some (jI i), some (jI (p : Int))] [jO (m + 420), jI i] 0 0 (M1, w.2) _
                  refine jWp.blk mt 1 ?_
                  show jWp 194 89 [some (jO m), some (jI a), some (jI b), some (jI i), some (jI (p : Int))] [jI (p : Int), jO (m + 420), jI i] 0 0 (M1, w.2) _
                  refine jWp.iald (pc' := 90) (j := p) mt rfl rfl (jird_of hW.K420) (b32_id (by omega) (by omega)) (jlt hW.K420 (by omega)) ?_
                  rw [show ((M1, w.2).1 (m + 420) p) = ((zL L p).2.2.2 : Int) from (hRL.2 p (by omega)).2.1]
                  show jWp 194 90 [some (jO m), some (jI a), some (jI b), some (jI i), some (jI (p : Int))] [jI ((zL L p).2.2.2 : Int), jI i] 0 0 (M1, w.2) _
                  refine jWp.icmp (pc' := 93) mt rfl rfl (b32_id (by omega) (by omega)) (b32_id (by omega) (by omega)) (fun h9 => ?_) (fun h9 => ?_)
                  · have h9 : i < ((zL L p).2.2.2 : Int) := h9
                    have lp10 : ∀ (N : Nat) (x f : Nat) (hx : x < L.length ∧ i < ((zL L x).2.2.2 : Int) ∧ (zL L x).2.2.2 ≤ f) (hza : zan L f x i = zan L 5 p i), f < N → jWp 194 96 [some (jO m), none, none, some (jI i), some (jI (x : Int))] [] 0 0 (M1, w.2) (fun v w1 => ((a < 0 ∨ b < 1 ∨ i < -1) → jno w m 4 (jI (-4)) v w1) ∧ (¬ (a < 0 ∨ b < 1 ∨ i < -1) → v = some (jI (zfw (zBF n 4 (w.1 (m + 1))) n a b i)) ∧ mq w m w1)) := by
                      intro N
                      induction N with
                      | zero => intro x f hx hza hm; omega
                      | succ N ih11 =>
                        intro x f hx hza hm
                        have hwx : (zL L x).2.2.2 ≤ 4 := hw9 x hx.1
                        have hx1 : 1 ≤ x := by
                          rcases Nat.eq_zero_or_pos x with e | e
                          · have := hx.2.1
                            rw [e, hBL.2.2.1] at this
                            omega
                          · exact e
                        have hxg := (hBL.2.2.2 x hx.1).2 hx1
                        refine jWp.blk mt 1 ?_
                        show _ ∧ jWp 194 97 [some (jO m), none, none, some (jI i), some (jI (x : Int))] [jO m] 0 0 (M1, w.2) _
                        refine ⟨rfl, ?_⟩
                        refine jWp.getR (pc' := 100) (o := (m + 420)) mt rfl rfl (jtg hW.K0) hW.R20 ?_
                        show jWp 194 100 [some (jO m), none, none, some (jI i), some (jI (x : Int))] [jO (m + 420)] 0 0 (M1, w.2) _
                        refine jWp.blk mt 1 ?_
                        show jWp 194 102 [some (jO m), none, none, some (jI i), some (jI (x : Int))] [jI (x : Int), jO (m + 420)] 0 0 (M1, w.2) _
                        refine jWp.iald (pc' := 103) (j := x) mt rfl rfl (jird_of hW.K420) (b32_id (by omega) (by omega)) (jlt hW.K420 (by omega)) ?_
                        rw [show ((M1, w.2).1 (m + 420) x) = ((zL L x).2.2.2 : Int) from (hRL.2 x (by omega)).2.1]
                        show jWp 194 103 [some (jO m), none, none, some (jI i), some (jI (x : Int))] [jI ((zL L x).2.2.2 : Int)] 0 0 (M1, w.2) _
                        refine jWp.blk mt 3 ?_
                        show jWp 194 106 [some (jO m), none, none, some (jI i), some (jI (x : Int))] [jI (i + 1), jI ((zL L x).2.2.2 : Int)] 0 0 (M1, w.2) _
                        refine jWp.icmp (pc' := 109) mt rfl rfl (b32_id (by omega) (by omega)) (b32_id (by omega) (by omega)) (fun h12 => ?_) (fun h12 => ?_)
                        · have h12 : ((zL L x).2.2.2 : Int) ≤ (i + 1) := h12
                          refine jWp.blk mt 1 ?_
                          show _ ∧ jWp 194 122 [some (jO m), none, none, some (jI i), some (jI (x : Int))] [jO m] 0 0 (M1, w.2) _
                          refine ⟨rfl, ?_⟩
                          refine jWp.getR (pc' := 125) (o := (m + 419)) mt rfl rfl (jtg hW.K0) hW.R19 ?_
                          show jWp 194 125 [some (jO m), none, none, some (jI i), some (jI (x : Int))] [jO (m + 419)] 0 0 (M1, w.2) _
                          refine jWp.blk mt 1 ?_
                          show jWp 194 127 [some (jO m), none, none, some (jI i), some (jI (x : Int))] [jI (x : Int), jO (m + 419)] 0 0 (M1, w.2) _
                          refine jWp.iald (pc' := 128) (j := x) mt rfl rfl (jird_of hW.K419) (b32_id (by omega) (by omega)) (jlt hW.K419 (by omega)) ?_
                          rw [show ((M1, w.2).1 (m + 419) x) = ((zL L x).2.2.1 : Int) from ((hRL.2 x (by omega)).2.2 (by omega)).2]
                          show jWp 194 128 [some (jO m), none, none, some (jI i), some (jI (x : Int))] [jI ((zL L x).2.2.1 : Int)] 0 0 (M1, w.2) _
                          refine jWp.ireti mt rfl ⟨rfl, rfl⟩ rfl ?_
                          refine ⟨fun c0 => ?_, fun c0 => ⟨?_, hmq⟩⟩
                          · exfalso; omega
                          · rw [hLe]
                            unfold zfw
                            first
                            | (exfalso; omega)
                            | (rw [if_pos (show zfp L n a b < 0 by unfold zfp; rw [← hfp, show L.length - p = 0 by omega]; show (-9 : Int) < 0; decide)]; done)
                            | (have hfe : zfp L n a b = (p : Int) := by
                                 unfold zfp
                                 rw [← hfp, show L.length - p = (L.length - (p + 1)) + 1 by omega, zff_t (by assumption)]
                               rw [hfe, if_neg (by omega), show ((p : Int)).toNat = p from rfl]
                               first
                               | (rw [if_pos (by omega)]; done)
                               | (rw [if_neg (by omega), if_pos (by omega)]; done)
                               | (rw [if_neg (by omega), if_neg (by omega), ← hza, zan_f (by omega)]; done))
                        · have h12 : (i + 1) < ((zL L x).2.2.2 : Int) := h12
                          refine jWp.blk mt 1 ?_
                          show _ ∧ jWp 194 110 [some (jO m), none, none, some (jI i), some (jI (x : Int))] [jO m] 0 0 (M1, w.2) _
                          refine ⟨rfl, ?_⟩
                          refine jWp.getR (pc' := 113) (o := (m + 418)) mt rfl rfl (jtg hW.K0) hW.R18 ?_
                          show jWp 194 113 [some (jO m), none, none, some (jI i), some (jI (x : Int))] [jO (m + 418)] 0 0 (M1, w.2) _
                          refine jWp.blk mt 1 ?_
                          show jWp 194 115 [some (jO m), none, none, some (jI i), some (jI (x : Int))] [jI (x : Int), jO (m + 418)] 0 0 (M1, w.2) _
                          refine jWp.iald (pc' := 116) (j := x) mt rfl rfl (jird_of hW.K418) (b32_id (by omega) (by omega)) (jlt hW.K418 (by omega)) ?_
                          rw [show ((M1, w.2).1 (m + 418) x) = ((zL L x).2.1 : Int) from ((hRL.2 x (by omega)).2.2 (by omega)).1]
                          show jWp 194 116 [some (jO m), none, none, some (jI i), some (jI (x : Int))] [jI ((zL L x).2.1 : Int)] 0 0 (M1, w.2) _
                          refine jWp.blk mt 2 ?_
                          show jWp 194 96 [some (jO m), none, none, some (jI i), some (jI ((zL L x).2.1 : Int))] [] 0 0 (M1, w.2) _
                          refine jWp.le (l := [some (jO m), none, none, some (jI i), some (jI ((zL L x).2.1 : Int))]) (by exact ⟨rfl, rfl, rfl, trivial⟩) ?_
                          exact ih11 (zL L x).2.1 (f - 1) ⟨by omega, by omega, by omega⟩ (by rw [← hza, show f = (f - 1) + 1 by omega, zan_t (by omega)]; rfl) (by omega)
                    refine jWp.le (l := [some (jO m), none, none, some (jI i), some (jI (p : Int))]) (by exact ⟨rfl, rfl, rfl, trivial⟩) ?_
                    exact lp10 _ p 5 ⟨by omega, by omega, by have := hw9 p (by omega); omega⟩ rfl (Nat.lt_succ_self _)
                  · have h9 : ((zL L p).2.2.2 : Int) ≤ i := h9
                    refine jWp.blk mt 1 ?_
                    show jWp 194 95 [some (jO m), some (jI a), some (jI b), some (jI i), some (jI (p : Int))] [jI (-9)] 0 0 (M1, w.2) _
                    refine jWp.ireti mt rfl ⟨rfl, rfl⟩ rfl ?_
                    refine ⟨fun c0 => ?_, fun c0 => ⟨?_, hmq⟩⟩
                    · exfalso; omega
                    · rw [hLe]
                      unfold zfw
                      first
                      | (exfalso; omega)
                      | (rw [if_pos (show zfp L n a b < 0 by unfold zfp; rw [← hfp, show L.length - p = 0 by omega]; show (-9 : Int) < 0; decide)]; done)
                      | (have hfe : zfp L n a b = (p : Int) := by
                           unfold zfp
                           rw [← hfp, show L.length - p = (L.length - (p + 1)) + 1 by omega, zff_t (by assumption)]
                         rw [hfe, if_neg (by omega), show ((p : Int)).toNat = p from rfl]
                         first
                         | (rw [if_pos (by omega)]; done)
                         | (rw [if_neg (by omega), if_pos (by omega)]; done)
                         | (rw [if_neg (by omega), if_neg (by omega), ← hza, zan_f (by omega)]; done))
                · have h8 : i = (-1) := h8
                  refine jWp.blk mt 1 ?_
                  show _ ∧ jWp 194 75 [some (jO m), some (jI a), some (jI b), some (jI i), some (jI (p : Int))] [jO m] 0 0 (M1, w.2) _
                  refine ⟨rfl, ?_⟩
                  refine jWp.getR (pc' := 78) (o := (m + 420)) mt rfl rfl (jtg hW.K0) hW.R20 ?_
                  show jWp 194 78 [some (jO m), some (jI a), some (jI b), some (jI i), some (jI (p : Int))] [jO (m + 420)] 0 0 (M1, w.2) _
                  refine jWp.blk mt 1 ?_
                  show jWp 194 80 [some (jO m), some (jI a), some (jI b), some (jI i), some (jI (p : Int))] [jI (p : Int), jO (m + 420)] 0 0 (M1, w.2) _
                  refine jWp.iald (pc' := 81) (j := p) mt rfl rfl (jird_of hW.K420) (b32_id (by omega) (by omega)) (jlt hW.K420 (by omega)) ?_
                  rw [show ((M1, w.2).1 (m + 420) p) = ((zL L p).2.2.2 : Int) from (hRL.2 p (by omega)).2.1]
                  show jWp 194 81 [some (jO m), some (jI a), some (jI b), some (jI i), some (jI (p : Int))] [jI ((zL L p).2.2.2 : Int)] 0 0 (M1, w.2) _
                  refine jWp.ireti mt rfl ⟨rfl, rfl⟩ rfl ?_
                  refine ⟨fun c0 => ?_, fun c0 => ⟨?_, hmq⟩⟩
                  · exfalso; omega
                  · rw [hLe]
                    unfold zfw
                    first
                    | (exfalso; omega)
                    | (rw [if_pos (show zfp L n a b < 0 by unfold zfp; rw [← hfp, show L.length - p = 0 by omega]; show (-9 : Int) < 0; decide)]; done)
                    | (have hfe : zfp L n a b = (p : Int) := by
                         unfold zfp
                         rw [← hfp, show L.length - p = (L.length - (p + 1)) + 1 by omega, zff_t (by assumption)]
                       rw [hfe, if_neg (by omega), show ((p : Int)).toNat = p from rfl]
                       first
                       | (rw [if_pos (by omega)]; done)
                       | (rw [if_neg (by omega), if_pos (by omega)]; done)
                       | (rw [if_neg (by omega), if_neg (by omega), ← hza, zan_f (by omega)]; done))
              · have h7 : (p : Int) = (L.length : Int) := h7
                refine jWp.blk mt 1 ?_
                show jWp 194 68 [some (jO m), some (jI a), some (jI b), some (jI i), some (jI (p : Int))] [jI (-9)] 0 0 (M1, w.2) _
                refine jWp.ireti mt rfl ⟨rfl, rfl⟩ rfl ?_
                refine ⟨fun c0 => ?_, fun c0 => ⟨?_, hmq⟩⟩
                · exfalso; omega
                · rw [hLe]
                  unfold zfw
                  first
                  | (exfalso; omega)
                  | (rw [if_pos (show zfp L n a b < 0 by unfold zfp; rw [← hfp, show L.length - p = 0 by omega]; show (-9 : Int) < 0; decide)]; done)
                  | (have hfe : zfp L n a b = (p : Int) := by
                       unfold zfp
                       rw [← hfp, show L.length - p = (L.length - (p + 1)) + 1 by omega, zff_t (by assumption)]
                     rw [hfe, if_neg (by omega), show ((p : Int)).toNat = p from rfl]
                     first
                     | (rw [if_pos (by omega)]; done)
                     | (rw [if_neg (by omega), if_pos (by omega)]; done)
                     | (rw [if_neg (by omega), if_neg (by omega), ← hza, zan_f (by omega)]; done))
            · have h6 : (p : Int) < (L.length : Int) := h6
              refine jWp.blk mt 3 ?_
              show _ ∧ jWp 194 42 [some (jO m), some (jI a), some (jI b), some (jI i), some (jI (p : Int))] [jI a, jI (p : Int), jO m] 0 0 (M1, w.2) _
              refine ⟨rfl, ?_⟩
              refine jWp.i2l (pc' := 43) mt rfl rfl (b32_id (by omega) (by omega)) ?_
              show jWp 194 43 [some (jO m), some (jI a), some (jI b), some (jI i), some (jI (p : Int))] [jJ a, jI (p : Int), jO m] 0 0 (M1, w.2) _
              refine jWp.blk mt 1 ?_
              show jWp 194 44 [some (jO m), some (jI a), some (jI b), some (jI i), some (jI (p : Int))] [jI b, jJ a, jI (p : Int), jO m] 0 0 (M1, w.2) _
              refine jWp.i2l (pc' := 45) mt rfl rfl (b32_id (by omega) (by omega)) ?_
              show jWp 194 45 [some (jO m), some (jI a), some (jI b), some (jI i), some (jI (p : Int))] [jJ b, jJ a, jI (p : Int), jO m] 0 0 (M1, w.2) _
              refine jWp.callv (as := [jO m, jI (p : Int), jJ a, jJ b]) (rest := []) mt rfl rfl rfl ⟨rfl, jtg hW.K0⟩ ?_
              refine jCall.mono (E_hasValue (w := (M1, w.2)) (o := p) (L := L) hW hn0 hn4 hRL hBL hl (by omega) (by omega) (by omega)) (fun v9 w9 h9 => ?_)
              rcases h9 with ⟨rfl, h9, h13⟩ | ⟨rfl, h9, h13⟩ <;> subst w9
              · have h13 : zhv (zL L p).1 n a b := h13
                show jWp 194 48 [some (jO m), some (jI a), some (jI b), some (jI i), some (jI (p : Int))] [jI 1] 0 0 (M1, w.2) _
                refine jWp.ifc (b := true) mt rfl (by decide) rfl ?_
                show jWp 194 57 [some (jO m), some (jI a), some (jI b), some (jI i), some (jI (p : Int))] [] 0 0 (M1, w.2) _
                refine jWp.blk mt 2 ?_
                show _ ∧ jWp 194 60 [some (jO m), some (jI a), some (jI b), some (jI i), some (jI (p : Int))] [jO m, jI (p : Int)] 0 0 (M1, w.2) _
                refine ⟨rfl, ?_⟩
                refine jWp.getI (pc' := 63) mt rfl rfl (jtg hW.K0) ?_
                rw [show ((M1, w.2).1 m 21) = (L.length : Int) from hRL.1]
                show jWp 194 63 [some (jO m), some (jI a), some (jI b), some (jI i), some (jI (p : Int))] [jI (L.length : Int), jI (p : Int)] 0 0 (M1, w.2) _
                refine jWp.icmp (pc' := 66) mt rfl rfl (b32_id (by omega) (by omega)) (b32_id (by omega) (by omega)) (fun h14 => ?_) (fun h14 => ?_)
                · have h14 : (p : Int) ≠ (L.length : Int) := h14
                  refine jWp.blk mt 2 ?_
                  show jWp 194 71 [some (jO m), some (jI a), some (jI b), some (jI i), some (jI (p : Int))] [jI (-1), jI i] 0 0 (M1, w.2) _
                  refine jWp.icmp (pc' := 74) mt rfl rfl (b32_id (by omega) (by omega)) (show b32 (-1) = (-1) by decide) (fun h15 => ?_) (fun h15 => ?_)
                  · have h15 : i ≠ (-1) := h15
                    refine jWp.blk mt 2 ?_
                    show _ ∧ jWp 194 84 [some (jO m), some (jI a), some (jI b), some (jI i), some (jI (p : Int))] [jO m, jI i] 0 0 (M1, w.2) _
                    refine ⟨rfl, ?_⟩
                    refine jWp.getR (pc' := 87) (o := (m + 420)) mt rfl rfl (jtg hW.K0) hW.R20 ?_
                    show jWp 194 87 [some (jO m), some (jI a), some (jI b), some (jI i), some (jI (p : Int))] [jO (m + 420), jI i] 0 0 (M1, w.2) _
                    refine jWp.blk mt 1 ?_
                    show jWp 194 89 [some (jO m), some (jI a), some (jI b), some (jI i), some (jI (p : Int))] [jI (p : Int), jO (m + 420), jI i] 0 0 (M1, w.2) _
                    refine jWp.iald (pc' := 90) (j := p) mt rfl rfl (jird_of hW.K420) (b32_id (by omega) (by omega)) (jlt hW.K420 (by omega)) ?_
                    rw [show ((M1, w.2).1 (m + 420) p) = ((zL L p).2.2.2 : Int) from (hRL.2 p (by omega)).2.1]
                    show jWp 194 90 [some (jO m), some (jI a), some (jI b), some (jI i), some (jI (p : Int))] [jI ((zL L p).2.2.2 : Int), jI i] 0 0 (M1, w.2) _
                    refine jWp.icmp (pc' := 93) mt rfl rfl (b32_id (by omega) (by omega)) (b32_id (by omega) (by omega)) (fun h16 => ?_) (fun h16 => ?_)
                    · have h16 : i < ((zL L p).2.2.2 : Int) := h16
                      have lp17 : ∀ (N : Nat) (x f : Nat) (hx : x < L.length ∧ i < ((zL L x).2.2.2 : Int) ∧ (zL L x).2.2.2 ≤ f) (hza : zan L f x i = zan L 5 p i), f < N → jWp 194 96 [some (jO m), none, none, some (jI i), some (jI (x : Int))] [] 0 0 (M1, w.2) (fun v w1 => ((a < 0 ∨ b < 1 ∨ i < -1) → jno w m 4 (jI (-4)) v w1) ∧ (¬ (a < 0 ∨ b < 1 ∨ i < -1) → v = some (jI (zfw (zBF n 4 (w.1 (m + 1))) n a b i)) ∧ mq w m w1)) := by
                        intro N
                        induction N with
                        | zero => intro x f hx hza hm; omega
                        | succ N ih18 =>
                          intro x f hx hza hm
                          have hwx : (zL L x).2.2.2 ≤ 4 := hw9 x hx.1
                          have hx1 : 1 ≤ x := by
                            rcases Nat.eq_zero_or_pos x with e | e
                            · have := hx.2.1
                              rw [e, hBL.2.2.1] at this
                              omega
                            · exact e
                          have hxg := (hBL.2.2.2 x hx.1).2 hx1
                          refine jWp.blk mt 1 ?_
                          show _ ∧ jWp 194 97 [some (jO m), none, none, some (jI i), some (jI (x : Int))] [jO m] 0 0 (M1, w.2) _
                          refine ⟨rfl, ?_⟩
                          refine jWp.getR (pc' := 100) (o := (m + 420)) mt rfl rfl (jtg hW.K0) hW.R20 ?_
                          show jWp 194 100 [some (jO m), none, none, some (jI i), some (jI (x : Int))] [jO (m + 420)] 0 0 (M1, w.2) _
                          refine jWp.blk mt 1 ?_
                          show jWp 194 102 [some (jO m), none, none, some (jI i), some (jI (x : Int))] [jI (x : Int), jO (m + 420)] 0 0 (M1, w.2) _
                          refine jWp.iald (pc' := 103) (j := x) mt rfl rfl (jird_of hW.K420) (b32_id (by omega) (by omega)) (jlt hW.K420 (by omega)) ?_
                          rw [show ((M1, w.2).1 (m + 420) x) = ((zL L x).2.2.2 : Int) from (hRL.2 x (by omega)).2.1]
                          show jWp 194 103 [some (jO m), none, none, some (jI i), some (jI (x : Int))] [jI ((zL L x).2.2.2 : Int)] 0 0 (M1, w.2) _
                          refine jWp.blk mt 3 ?_
                          show jWp 194 106 [some (jO m), none, none, some (jI i), some (jI (x : Int))] [jI (i + 1), jI ((zL L x).2.2.2 : Int)] 0 0 (M1, w.2) _
                          refine jWp.icmp (pc' := 109) mt rfl rfl (b32_id (by omega) (by omega)) (b32_id (by omega) (by omega)) (fun h19 => ?_) (fun h19 => ?_)
                          · have h19 : ((zL L x).2.2.2 : Int) ≤ (i + 1) := h19
                            refine jWp.blk mt 1 ?_
                            show _ ∧ jWp 194 122 [some (jO m), none, none, some (jI i), some (jI (x : Int))] [jO m] 0 0 (M1, w.2) _
                            refine ⟨rfl, ?_⟩
                            refine jWp.getR (pc' := 125) (o := (m + 419)) mt rfl rfl (jtg hW.K0) hW.R19 ?_
                            show jWp 194 125 [some (jO m), none, none, some (jI i), some (jI (x : Int))] [jO (m + 419)] 0 0 (M1, w.2) _
                            refine jWp.blk mt 1 ?_
                            show jWp 194 127 [some (jO m), none, none, some (jI i), some (jI (x : Int))] [jI (x : Int), jO (m + 419)] 0 0 (M1, w.2) _
                            refine jWp.iald (pc' := 128) (j := x) mt rfl rfl (jird_of hW.K419) (b32_id (by omega) (by omega)) (jlt hW.K419 (by omega)) ?_
                            rw [show ((M1, w.2).1 (m + 419) x) = ((zL L x).2.2.1 : Int) from ((hRL.2 x (by omega)).2.2 (by omega)).2]
                            show jWp 194 128 [some (jO m), none, none, some (jI i), some (jI (x : Int))] [jI ((zL L x).2.2.1 : Int)] 0 0 (M1, w.2) _
                            refine jWp.ireti mt rfl ⟨rfl, rfl⟩ rfl ?_
                            refine ⟨fun c0 => ?_, fun c0 => ⟨?_, hmq⟩⟩
                            · exfalso; omega
                            · rw [hLe]
                              unfold zfw
                              first
                              | (exfalso; omega)
                              | (rw [if_pos (show zfp L n a b < 0 by unfold zfp; rw [← hfp, show L.length - p = 0 by omega]; show (-9 : Int) < 0; decide)]; done)
                              | (have hfe : zfp L n a b = (p : Int) := by
                                   unfold zfp
                                   rw [← hfp, show L.length - p = (L.length - (p + 1)) + 1 by omega, zff_t (by assumption)]
                                 rw [hfe, if_neg (by omega), show ((p : Int)).toNat = p from rfl]
                                 first
                                 | (rw [if_pos (by omega)]; done)
                                 | (rw [if_neg (by omega), if_pos (by omega)]; done)
                                 | (rw [if_neg (by omega), if_neg (by omega), ← hza, zan_f (by omega)]; done))
                          · have h19 : (i + 1) < ((zL L x).2.2.2 : Int) := h19
                            refine jWp.blk mt 1 ?_
                            show _ ∧ jWp 194 110 [some (jO m), none, none, some (jI i), some (jI (x : Int))] [jO m] 0 0 (M1, w.2) _
                            refine ⟨rfl, ?_⟩
                            refine jWp.getR (pc' := 113) (o := (m + 418)) mt rfl rfl (jtg hW.K0) hW.R18 ?_
                            show jWp 194 113 [some (jO m), none, none, some (jI i), some (jI (x : Int))] [jO (m + 418)] 0 0 (M1, w.2) _
                            refine jWp.blk mt 1 ?_
                            show jWp 194 115 [some (jO m), none, none, some (jI i), some (jI (x : Int))] [jI (x : Int), jO (m + 418)] 0 0 (M1, w.2) _
                            refine jWp.iald (pc' := 116) (j := x) mt rfl rfl (jird_of hW.K418) (b32_id (by omega) (by omega)) (jlt hW.K418 (by omega)) ?_
                            rw [show ((M1, w.2).1 (m + 418) x) = ((zL L x).2.1 : Int) from ((hRL.2 x (by omega)).2.2 (by omega)).1]
                            show jWp 194 116 [some (jO m), none, none, some (jI i), some (jI (x : Int))] [jI ((zL L x).2.1 : Int)] 0 0 (M1, w.2) _
                            refine jWp.blk mt 2 ?_
                            show jWp 194 96 [some (jO m), none, none, some (jI i), some (jI ((zL L x).2.1 : Int))] [] 0 0 (M1, w.2) _
                            refine jWp.le (l := [some (jO m), none, none, some (jI i), some (jI ((zL L x).2.1 : Int))]) (by exact ⟨rfl, rfl, rfl, trivial⟩) ?_
                            exact ih18 (zL L x).2.1 (f - 1) ⟨by omega, by omega, by omega⟩ (by rw [← hza, show f = (f - 1) + 1 by omega, zan_t (by omega)]; rfl) (by omega)
                      refine jWp.le (l := [some (jO m), none, none, some (jI i), some (jI (p : Int))]) (by exact ⟨rfl, rfl, rfl, trivial⟩) ?_
                      exact lp17 _ p 5 ⟨by omega, by omega, by have := hw9 p (by omega); omega⟩ rfl (Nat.lt_succ_self _)
                    · have h16 : ((zL L p).2.2.2 : Int) ≤ i := h16
                      refine jWp.blk mt 1 ?_
                      show jWp 194 95 [some (jO m), some (jI a), some (jI b), some (jI i), some (jI (p : Int))] [jI (-9)] 0 0 (M1, w.2) _
                      refine jWp.ireti mt rfl ⟨rfl, rfl⟩ rfl ?_
                      refine ⟨fun c0 => ?_, fun c0 => ⟨?_, hmq⟩⟩
                      · exfalso; omega
                      · rw [hLe]
                        unfold zfw
                        first
                        | (exfalso; omega)
                        | (rw [if_pos (show zfp L n a b < 0 by unfold zfp; rw [← hfp, show L.length - p = 0 by omega]; show (-9 : Int) < 0; decide)]; done)
                        | (have hfe : zfp L n a b = (p : Int) := by
                             unfold zfp
                             rw [← hfp, show L.length - p = (L.length - (p + 1)) + 1 by omega, zff_t (by assumption)]
                           rw [hfe, if_neg (by omega), show ((p : Int)).toNat = p from rfl]
                           first
                           | (rw [if_pos (by omega)]; done)
                           | (rw [if_neg (by omega), if_pos (by omega)]; done)
                           | (rw [if_neg (by omega), if_neg (by omega), ← hza, zan_f (by omega)]; done))
                  · have h15 : i = (-1) := h15
                    refine jWp.blk mt 1 ?_
                    show _ ∧ jWp 194 75 [some (jO m), some (jI a), some (jI b), some (jI i), some (jI (p : Int))] [jO m] 0 0 (M1, w.2) _
                    refine ⟨rfl, ?_⟩
                    refine jWp.getR (pc' := 78) (o := (m + 420)) mt rfl rfl (jtg hW.K0) hW.R20 ?_
                    show jWp 194 78 [some (jO m), some (jI a), some (jI b), some (jI i), some (jI (p : Int))] [jO (m + 420)] 0 0 (M1, w.2) _
                    refine jWp.blk mt 1 ?_
                    show jWp 194 80 [some (jO m), some (jI a), some (jI b), some (jI i), some (jI (p : Int))] [jI (p : Int), jO (m + 420)] 0 0 (M1, w.2) _
                    refine jWp.iald (pc' := 81) (j := p) mt rfl rfl (jird_of hW.K420) (b32_id (by omega) (by omega)) (jlt hW.K420 (by omega)) ?_
                    rw [show ((M1, w.2).1 (m + 420) p) = ((zL L p).2.2.2 : Int) from (hRL.2 p (by omega)).2.1]
                    show jWp 194 81 [some (jO m), some (jI a), some (jI b), some (jI i), some (jI (p : Int))] [jI ((zL L p).2.2.2 : Int)] 0 0 (M1, w.2) _
                    refine jWp.ireti mt rfl ⟨rfl, rfl⟩ rfl ?_
                    refine ⟨fun c0 => ?_, fun c0 => ⟨?_, hmq⟩⟩
                    · exfalso; omega
                    · rw [hLe]
                      unfold zfw
                      first
                      | (exfalso; omega)
                      | (rw [if_pos (show zfp L n a b < 0 by unfold zfp; rw [← hfp, show L.length - p = 0 by omega]; show (-9 : Int) < 0; decide)]; done)
                      | (have hfe : zfp L n a b = (p : Int) := by
                           unfold zfp
                           rw [← hfp, show L.length - p = (L.length - (p + 1)) + 1 by omega, zff_t (by assumption)]
                         rw [hfe, if_neg (by omega), show ((p : Int)).toNat = p from rfl]
                         first
                         | (rw [if_pos (by omega)]; done)
                         | (rw [if_neg (by omega), if_pos (by omega)]; done)
                         | (rw [if_neg (by omega), if_neg (by omega), ← hza, zan_f (by omega)]; done))
                · have h14 : (p : Int) = (L.length : Int) := h14
                  refine jWp.blk mt 1 ?_
                  show jWp 194 68 [some (jO m), some (jI a), some (jI b), some (jI i), some (jI (p : Int))] [jI (-9)] 0 0 (M1, w.2) _
                  refine jWp.ireti mt rfl ⟨rfl, rfl⟩ rfl ?_
                  refine ⟨fun c0 => ?_, fun c0 => ⟨?_, hmq⟩⟩
                  · exfalso; omega
                  · rw [hLe]
                    unfold zfw
                    first
                    | (exfalso; omega)
                    | (rw [if_pos (show zfp L n a b < 0 by unfold zfp; rw [← hfp, show L.length - p = 0 by omega]; show (-9 : Int) < 0; decide)]; done)
                    | (have hfe : zfp L n a b = (p : Int) := by
                         unfold zfp
                         rw [← hfp, show L.length - p = (L.length - (p + 1)) + 1 by omega, zff_t (by assumption)]
                       rw [hfe, if_neg (by omega), show ((p : Int)).toNat = p from rfl]
                       first
                       | (rw [if_pos (by omega)]; done)
                       | (rw [if_neg (by omega), if_pos (by omega)]; done)
                       | (rw [if_neg (by omega), if_neg (by omega), ← hza, zan_f (by omega)]; done))
              · have h13 : ¬ (zhv (zL L p).1 n a b) := h13
                show jWp 194 48 [some (jO m), some (jI a), some (jI b), some (jI i), some (jI (p : Int))] [jI 0] 0 0 (M1, w.2) _
                refine jWp.ifc (b := false) mt rfl (by decide) rfl ?_
                show jWp 194 51 [some (jO m), some (jI a), some (jI b), some (jI i), some (jI (p : Int))] [] 0 0 (M1, w.2) _
                refine jWp.blk mt 2 ?_
                show jWp 194 29 [some (jO m), some (jI a), some (jI b), some (jI i), some (jI ((p : Int) + 1))] [] 0 0 (M1, w.2) _
                refine jWp.le (l := [some (jO m), some (jI a), some (jI b), some (jI i), some (jI ((p : Int) + 1))]) (by exact ⟨rfl, rfl, rfl, rfl, rfl, trivial⟩) ?_
                exact ih5 (p + 1) (by omega) (by rw [← hfp, show L.length - p = (L.length - (p + 1)) + 1 by omega, zff_f (by assumption)]) (by omega)
        refine jWp.le (l := [some (jO m), some (jI a), some (jI b), some (jI i), some (jI 0)]) (by exact ⟨rfl, rfl, rfl, rfl, rfl, trivial⟩) ?_
        exact lp4 _ 0 (by omega) rfl (Nat.lt_succ_self _)
      · have h3 : i < (-1) := h3
        refine jWp.blk mt 2 ?_
        show _ ∧ jWp 194 17 [some (jO m), some (jI a), some (jI b), some (jI i), none] [jI (-4), jO m] 0 0 w _
        refine ⟨rfl, ?_⟩
        refine jWp.callv (as := [jO m, jI (-4)]) (rest := []) mt rfl rfl rfl ⟨rfl, jtg hW.K0⟩ ?_
        refine jCall.mono (E_refuses (w := w) (j := 4) hW (by decide) (by decide)) (fun v9 w9 h9 => ?_)
        obtain ⟨rfl, h9⟩ := h9
        subst h9
        show jWp 194 20 [some (jO m), some (jI a), some (jI b), some (jI i), none] [jI (-4)] 0 0 (jW w (m + 3) 4 ((w.1 (m + 3) 4) + 1)) _
        refine jWp.ireti mt rfl ⟨rfl, rfl⟩ rfl ?_
        refine ⟨fun c0 => ?_, fun c0 => ?_⟩
        all_goals first
        | (exfalso; omega)
        | exact ⟨rfl, rfl⟩
end
section
/-- whether a letter's value stands in no seed ahead, and by no letter ahead in its own -/
def zni (L : List zE) (n o i j : Nat) : Prop := ¬ zsd L n o ((zL L o).1 (21 + i)) ((zL L o).1 (25 + i)) ∧ ∀ y, y < j → ¬ ((zL L o).1 (21 + y) = (zL L o).1 (21 + i) ∧ (zL L o).1 (25 + y) = (zL L o).1 (25 + i))
/-- how many unlike values -/
noncomputable def zvi (L : List zE) (n o : Nat) : Nat → Int
  | 0 => 0
  | i + 1 => zvi L n o i + @ite Int (zni L n o i i) (Classical.propDecidable _) 1 0
noncomputable def zvo (L : List zE) (n : Nat) : Nat → Int
  | 0 => 0
  | o + 1 => zvo L n o + zvi L n o n
theorem zvi_t {L : List zE} {n o i : Nat} (h : zni L n o i i) : zvi L n o (i + 1) = zvi L n o i + 1 := congrArg (fun x => zvi L n o i + x) (if_pos h)
theorem zvi_f {L : List zE} {n o i : Nat} (h : ¬ zni L n o i i) : zvi L n o (i + 1) = zvi L n o i + 0 := congrArg (fun x => zvi L n o i + x) (if_neg h)
/-- the greatest degree in all of them -/
def zgm (L : List zE) (n : Nat) : Nat → Int
  | 0 => -1
  | o + 1 => if b64 (zgm L n o) < b64 (zgo (zL L o).1 n n) then zgo (zL L o).1 n n else zgm L n o
theorem zgm_t {L : List zE} {n o : Nat} (h : b64 (zgm L n o) < b64 (zgo (zL L o).1 n n)) : zgm L n (o + 1) = zgo (zL L o).1 n n := if_pos h
theorem zgm_f {L : List zE} {n o : Nat} (h : ¬ b64 (zgm L n o) < b64 (zgo (zL L o).1 n n)) : zgm L n (o + 1) = zgm L n o := if_neg h
theorem zni_e {L : List zE} {n o i j k : Nat} (e : j = k) (h : zni L n o i j) : zni L n o i k := e ▸ h
set_option maxHeartbeats 4000000 in
set_option maxRecDepth 20000 in
theorem E_reached {w : jS} {m : Nat} (hW : MW w.2 m) {n : Nat} (hQ : zQ (w.1 (m + 1)) n) {d a : Int} (hrd : r32 d) (hra : r32 a) : jCall 192 [jO m, jI d, jI a] w (fun v w1 => ((d < 0) → jno w m 4 (jI (-4)) v w1) ∧ (¬ (d < 0) → (4 < d) → jno w m 6 (jI (-6)) v w1) ∧ (¬ (d < 0) → ¬ (4 < d) → (¬ (0 ≤ a ∧ a ≤ 3)) → jno w m 2 (jI (-2)) v w1) ∧ (¬ (d < 0) → ¬ (4 < d) → ¬ (¬ (0 ≤ a ∧ a ≤ 3)) → (mq w m w1 ∧ (a = 0 → v = some (jI ((zBF n d.toNat (w.1 (m + 1))).length : Int))) ∧ (a = 1 → v = some (jI (zvo (zBF n d.toNat (w.1 (m + 1))) n (zBF n d.toNat (w.1 (m + 1))).length))) ∧ (a = 2 → v = some (jI (zgm (zBF n d.toNat (w.1 (m + 1))) n (zBF n d.toNat (w.1 (m + 1))).length))) ∧ (a = 3 → ∃ y, v = some (jI y) ∧ ((∀ x i, x < (zBF n d.toNat (w.1 (m + 1))).length → i < n → (zL (zBF n d.toNat (w.1 (m + 1))) x).1 (25 + i) = 1) → y = 0))))) := by
  have mt : jtb 192 = jT192 := rfl
  have hrd1 : -2147483648 ≤ d ∧ d < 2147483648 := hrd
  have hra1 : -2147483648 ≤ a ∧ a < 2147483648 := hra
  show jWp 192 0 [some (jO m), some (jI d), some (jI a), none, none, none, none, none, none, none, none] [] 0 0 w _
  refine jWp.blk mt 1 ?_
  show jWp 192 1 [some (jO m), some (jI d), some (jI a), none, none, none, none, none, none, none, none] [jI d] 0 0 w _
  refine jWp.ifz (pc' := 4) mt rfl rfl (b32_id (by omega) (by omega)) (fun h1 => ?_) (fun h1 => ?_)
  · have h1 : 0 ≤ d := h1
    refine jWp.blk mt 2 ?_
    show jWp 192 13 [some (jO m), some (jI d), some (jI a), none, none, none, none, none, none, none, none] [jI 4, jI d] 0 0 w _
    refine jWp.icmp (pc' := 16) mt rfl rfl (b32_id (by omega) (by omega)) (show b32 4 = 4 by decide) (fun h2 => ?_) (fun h2 => ?_)
    · have h2 : d ≤ 4 := h2
      refine jWp.blk mt 1 ?_
      show jWp 192 24 [some (jO m), some (jI d), some (jI a), none, none, none, none, none, none, none, none] [jI a] 0 0 w _
      refine jWp.i2l (pc' := 25) mt rfl rfl (b32_id (by omega) (by omega)) ?_
      show jWp 192 25 [some (jO m), some (jI d), some (jI a), none, none, none, none, none, none, none, none] [jJ a] 0 0 w _
      refine jWp.blk mt 2 ?_
      show jWp 192 29 [some (jO m), some (jI d), some (jI a), none, none, none, none, none, none, none, none] [jJ 3, jJ 0, jJ a] 0 0 w _
      refine jWp.calls (as := [jJ a, jJ 0, jJ 3]) (rest := []) mt rfl rfl rfl rfl ?_
      refine jCall.mono (E_in (b64_id (by omega) (by omega)) (show b64 0 = 0 by decide) (show b64 3 = 3 by decide)) (fun v9 w9 h9 => ?_)
      rcases h9 with ⟨rfl, h9, h3⟩ | ⟨rfl, h9, h3⟩ <;> subst w9
      · have h3 : 0 ≤ a ∧ a ≤ 3 := h3
        show jWp 192 32 [some (jO m), some (jI d), some (jI a), none, none, none, none, none, none, none, none] [jI 1] 0 0 w _
        refine jWp.ifc (b := true) mt rfl (by decide) rfl ?_
        show jWp 192 42 [some (jO m), some (jI d), some (jI a), none, none, none, none, none, none, none, none] [] 0 0 w _
        obtain ⟨d1, rfl⟩ : ∃ d1 : Nat, d = (d1 : Int) := ⟨d.toNat, by omega⟩
        show jWp 192 42 [some (jO m), some (jI (d1 : Int)), some (jI a), none, none, none, none, none, none, none, none] [] 0 0 w _
        refine jWp.blk mt 2 ?_
        show _ ∧ jWp 192 44 [some (jO m), some (jI (d1 : Int)), some (jI a), none, none, none, none, none, none, none, none] [jI (d1 : Int), jO m] 0 0 w _
        refine ⟨rfl, ?_⟩
        refine jWp.callv (as := [jO m, jI (d1 : Int)]) (rest := []) mt rfl rfl rfl ⟨rfl, jtg hW.K0⟩ ?_
        refine jCall.mono (E_finds (w := w) (n := n) (d := d1) hW hQ (by omega)) (fun v9 w9 h9 => ?_)
        obtain ⟨rfl, hmq, hRL, hBL, hl⟩ := h9
        obtain ⟨M1, G9⟩ := w9
        have hg : G9 = w.2 := hmq.1
        subst hg
        have hRL : zRL M1 m (zBF n d1 (w.1 (m + 1))) := hRL
        have hw9 := zBF_w (n := n) (d := d1) (q := w.1 (m + 1))
        obtain ⟨L, hLe⟩ : ∃ L, zBF n d1 (w.1 (m + 1)) = L := ⟨_, rfl⟩
        rw [hLe] at hRL hBL hl hw9
        have hn0 : M1 (m + 1) 0 = (n : Int) := (congrFun (hmq.2.1 (m + 1) (by omega)) 0).trans hQ.S.n0
        have hn4 := hQ.S.n4
        have hl1 := hBL.1
        show jWp 192 47 [some (jO m), some (jI (d1 : Int)), some (jI a), none, none, none, none, none, none, none, none] [] 0 0 (M1, w.2) _
        refine jWp.blk mt 8 ?_
        show jWp 192 60 [some (jO m), some (jI (d1 : Int)), some (jI a), some (jI 0), some (jI 0), some (jJ (-1)), none, some (jI 0), none, none, none] [] 0 0 (M1, w.2) _
        have lp4 : ∀ (N : Nat) (o : Nat) (vals brk mo : Int) (ho : o ≤ L.length) (hv : vals = zvo L n o) (hmo : mo = zgm L n o) (hbb : 0 ≤ brk) (hbk : (∀ x i, x < o → i < n → (zL L x).1 (25 + i) = 1) → brk = 0), L.length - o < N → jWp 192 60 [some (jO m), some (jI (d1 : Int)), some (jI a), some (jI vals), some (jI brk), some (jJ mo), none, some (jI (o : Int)), none, none, none] [] 0 0 (M1, w.2) (fun v w1 => (((d1 : Int) < 0) → jno w m 4 (jI (-4)) v w1) ∧ (¬ ((d1 : Int) < 0) → (4 < (d1 : Int)) → jno w m 6 (jI (-6)) v w1) ∧ (¬ ((d1 : Int) < 0) → ¬ (4 < (d1 : Int)) → (¬ (0 ≤ a ∧ a ≤ 3)) → jno w m 2 (jI (-2)) v w1) ∧ (¬ ((d1 : Int) < 0) → ¬ (4 < (d1 : Int)) → ¬ (¬ (0 ≤ a ∧ a ≤ 3)) → (mq w m w1 ∧ (a = 0 → v = some (jI ((zBF n (d1 : Int).toNat (w.1 (m + 1))).length : Int))) ∧ (a = 1 → v = some (jI (zvo (zBF n (d1 : Int).toNat (w.1 (m + 1))) n (zBF n (d1 : Int).toNat (w.1 (m + 1))).length))) ∧ (a = 2 → v = some (jI (zgm (zBF n (d1 : Int).toNat (w.1 (m + 1))) n (zBF n (d1 : Int).toNat (w.1 (m + 1))).length))) ∧ (a = 3 → ∃ y, v = some (jI y) ∧ ((∀ x i, x < (zBF n (d1 : Int).toNat (w.1 (m + 1))).length → i < n → (zL (zBF n (d1 : Int).toNat (w.1 (m + 1))) x).1 (25 + i) = 1) → y = 0))))) := by
          intro N
          induction N with
          | zero => intro o vals brk mo ho hv hmo hbb hbk hm; omega
          | succ N ih5 =>
            intro o vals brk mo ho hv hmo hbb hbk hm
            refine jWp.blk mt 2 ?_
            show _ ∧ jWp 192 63 [some (jO m), some (jI (d1 : Int)), some (jI a), some (jI vals), some (jI brk), some (jJ mo), none, some (jI (o : Int)), none, none, none] [jO m, jI (o : Int)] 0 0 (M1, w.2) _
            refine ⟨rfl, ?_⟩
            refine jWp.getI (pc' := 66) mt rfl rfl (jtg hW.K0) ?_
            rw [show ((M1, w.2).1 m 21) = (L.length : Int) from hRL.1]
            show jWp 192 66 [some (jO m), some (jI (d1 : Int)), some (jI a), some (jI vals), some (jI brk), some (jJ mo), none, some (jI (o : Int)), none, none, none] [jI (L.length : Int), jI (o : Int)] 0 0 (M1, w.2) _
            refine jWp.icmp (pc' := 69) mt rfl rfl (b32_id (by omega) (by omega)) (b32_id (by omega) (by omega)) (fun h6 => ?_) (fun h6 => ?_)
            · have h6 : (L.length : Int) ≤ (o : Int) := h6
              refine jWp.blk mt 1 ?_
              show jWp 192 293 [some (jO m), some (jI (d1 : Int)), some (jI a), some (jI vals), some (jI brk), some (jJ mo), none, some (jI (o : Int)), none, none, none] [jI a] 0 0 (M1, w.2) _
              refine jWp.ifz (pc' := 296) mt rfl rfl (b32_id (by omega) (by omega)) (fun h7 => ?_) (fun h7 => ?_)
              · have h7 : a ≠ 0 := h7
                refine jWp.blk mt 2 ?_
                show jWp 192 305 [some (jO m), some (jI (d1 : Int)), some (jI a), some (jI vals), some (jI brk), some (jJ mo), none, some (jI (o : Int)), none, none, none] [jI 1, jI a] 0 0 (M1, w.2) _
                refine jWp.icmp (pc' := 308) mt rfl rfl (b32_id (by omega) (by omega)) (show b32 1 = 1 by decide) (fun h8 => ?_) (fun h8 => ?_)
                · have h8 : a ≠ 1 := h8
                  refine jWp.blk mt 2 ?_
                  show jWp 192 314 [some (jO m), some (jI (d1 : Int)), some (jI a), some (jI vals), some (jI brk), some (jJ mo), none, some (jI (o : Int)), none, none, none] [jI 2, jI a] 0 0 (M1, w.2) _
                  refine jWp.icmp (pc' := 317) mt rfl rfl (b32_id (by omega) (by omega)) (show b32 2 = 2 by decide) (fun h9 => ?_) (fun h9 => ?_)
                  · have h9 : a ≠ 2 := h9
                    refine jWp.blk mt 1 ?_
                    show jWp 192 325 [some (jO m), some (jI (d1 : Int)), some (jI a), some (jI vals), some (jI brk), some (jJ mo), none, some (jI (o : Int)), none, none, none] [jI brk] 0 0 (M1, w.2) _
                    refine jWp.ireti mt rfl ⟨rfl, rfl⟩ rfl ?_
                    try rw [show ((d1 : Nat) : Int).toNat = d1 from rfl]
                    refine ⟨fun c0 => ?_, fun c0 c1 => ?_, fun c0 c1 c2 => ?_, fun c0 c1 c2 => ⟨hmq, ?_⟩⟩
                    · exfalso; omega
                    · exfalso; omega
                    · exfalso; omega
                    · rw [hLe, show L.length = o by omega]
                      refine ⟨fun c => ?_, fun c => ?_, fun c => ?_, fun c => ?_⟩
                      · first
                        | (exfalso; omega)
                        | rfl
                        | rw [show (L.length : Int) = (o : Int) by omega]
                      · first
                        | (exfalso; omega)
                        | rw [hv]
                      · first
                        | (exfalso; omega)
                        | rw [hmo]
                      · first
                        | (exfalso; omega)
                        | exact ⟨_, rfl, hbk⟩
                  · have h9 : a = 2 := h9
                    refine jWp.blk mt 3 ?_
                    show jWp 192 325 [some (jO m), some (jI (d1 : Int)), some (jI a), some (jI vals), some (jI brk), some (jJ mo), none, some (jI (o : Int)), none, none, none] [jI mo] 0 0 (M1, w.2) _
                    refine jWp.ireti mt rfl ⟨rfl, rfl⟩ rfl ?_
                    try rw [show ((d1 : Nat) : Int).toNat = d1 from rfl]
                    refine ⟨fun c0 => ?_, fun c0 c1 => ?_, fun c0 c1 c2 => ?_, fun c0 c1 c2 => ⟨hmq, ?_⟩⟩
                    · exfalso; omega
                    · exfalso; omega
                    · exfalso; omega
                    · rw [hLe, show L.length = o by omega]
                      refine ⟨fun c => ?_, fun c => ?_, fun c => ?_, fun c => ?_⟩
                      · first
                        | (exfalso; omega)
                        | rfl
                        | rw [show (L.length : Int) = (o : Int) by omega]
                      · first
                        | (exfalso; omega)
                        | rw [hv]
                      · first
                        | (exfalso; omega)
                        | rw [hmo]
                      · first
                        | (exfalso; omega)
                        | exact ⟨_, rfl, hbk⟩
                · have h8 : a = 1 := h8
                  refine jWp.blk mt 2 ?_
                  show jWp 192 325 [some (jO m), some (jI (d1 : Int)), some (jI a), some (jI vals), some (jI brk), some (jJ mo), none, some (jI (o : Int)), none, none, none] [jI vals] 0 0 (M1, w.2) _
                  refine jWp.ireti mt rfl ⟨rfl, rfl⟩ rfl ?_
                  try rw [show ((d1 : Nat) : Int).toNat = d1 from rfl]
                  refine ⟨fun c0 => ?_, fun c0 c1 => ?_, fun c0 c1 c2 => ?_, fun c0 c1 c2 => ⟨hmq, ?_⟩⟩
                  · exfalso; omega
                  · exfalso; omega
                  · exfalso; omega
                  · rw [hLe, show L.length = o by omega]
                    refine ⟨fun c => ?_, fun c => ?_, fun c => ?_, fun c => ?_⟩
                    · first
                      | (exfalso; omega)
                      | rfl
                      | rw [show (L.length : Int) = (o : Int) by omega]
                    · first
                      | (exfalso; omega)
                      | rw [hv]
                    · first
                      | (exfalso; omega)
                      | rw [hmo]
                    · first
                      | (exfalso; omega)
                      | exact ⟨_, rfl, hbk⟩
              · have h7 : a = 0 := h7
                refine jWp.blk mt 1 ?_
                show _ ∧ jWp 192 297 [some (jO m), some (jI (d1 : Int)), some (jI a), some (jI vals), some (jI brk), some (jJ mo), none, some (jI (o : Int)), none, none, none] [jO m] 0 0 (M1, w.2) _
                refine ⟨rfl, ?_⟩
                refine jWp.getI (pc' := 300) mt rfl rfl (jtg hW.K0) ?_
                rw [show ((M1, w.2).1 m 21) = (L.length : Int) from hRL.1]
                show jWp 192 300 [some (jO m), some (jI (d1 : Int)), some (jI a), some (jI vals), some (jI brk), some (jJ mo), none, some (jI (o : Int)), none, none, none] [jI (L.length : Int)] 0 0 (M1, w.2) _
                refine jWp.blk mt 1 ?_
                show jWp 192 325 [some (jO m), some (jI (d1 : Int)), some (jI a), some (jI vals), some (jI brk), some (jJ mo), none, some (jI (o : Int)), none, none, none] [jI (L.length : Int)] 0 0 (M1, w.2) _
                refine jWp.ireti mt rfl ⟨rfl, rfl⟩ rfl ?_
                try rw [show ((d1 : Nat) : Int).toNat = d1 from rfl]
                refine ⟨fun c0 => ?_, fun c0 c1 => ?_, fun c0 c1 c2 => ?_, fun c0 c1 c2 => ⟨hmq, ?_⟩⟩
                · exfalso; omega
                · exfalso; omega
                · exfalso; omega
                · rw [hLe, show L.length = o by omega]
                  refine ⟨fun c => ?_, fun c => ?_, fun c => ?_, fun c => ?_⟩
                  · first
                    | (exfalso; omega)
                    | rfl
                    | rw [show (L.length : Int) = (o : Int) by omega]
                  · first
                    | (exfalso; omega)
                    | rw [hv]
                  · first
                    | (exfalso; omega)
                    | rw [hmo]
                  · first
                    | (exfalso; omega)
                    | exact ⟨_, rfl, hbk⟩
            · have h6 : (o : Int) < (L.length : Int) := h6
              refine jWp.blk mt 2 ?_
              show jWp 192 72 [some (jO m), some (jI (d1 : Int)), some (jI a), some (jI vals), some (jI brk), some (jJ mo), none, some (jI (o : Int)), some (jI 0), none, none] [] 0 0 (M1, w.2) _
              have lp10 : ∀ (N : Nat) (i : Nat) (vals brk : Int) (hi : i ≤ n) (hv : vals = zvo L n o + zvi L n o i) (hbb : 0 ≤ brk) (hbk : (∀ x y, x < o + 1 → y < n → (x < o ∨ y < i) → (zL L x).1 (25 + y) = 1) → brk = 0), n - i < N → jWp 192 72 [some (jO m), some (jI (d1 : Int)), some (jI a), some (jI vals), some (jI brk), some (jJ mo), none, some (jI (o : Int)), some (jI (i : Int)), none, none] [] 0 0 (M1, w.2) (fun v w1 => (((d1 : Int) < 0) → jno w m 4 (jI (-4)) v w1) ∧ (¬ ((d1 : Int) < 0) → (4 < (d1 : Int)) → jno w m 6 (jI (-6)) v w1) ∧ (¬ ((d1 : Int) < 0) → ¬ (4 < (d1 : Int)) → (¬ (0 ≤ a ∧ a ≤ 3)) → jno w m 2 (jI (-2)) v w1) ∧ (¬ ((d1 : Int) < 0) → ¬ (4 < (d1 : Int)) → ¬ (¬ (0 ≤ a ∧ a ≤ 3)) → (mq w m w1 ∧ (a = 0 → v = some (jI ((zBF n (d1 : Int).toNat (w.1 (m + 1))).length : Int))) ∧ (a = 1 → v = some (jI (zvo (zBF n (d1 : Int).toNat (w.1 (m + 1))) n (zBF n (d1 : Int).toNat (w.1 (m + 1))).length))) ∧ (a = 2 → v = some (jI (zgm (zBF n (d1 : Int).toNat (w.1 (m + 1))) n (zBF n (d1 : Int).toNat (w.1 (m + 1))).length))) ∧ (a = 3 → ∃ y, v = some (jI y) ∧ ((∀ x i, x < (zBF n (d1 : Int).toNat (w.1 (m + 1))).length → i < n → (zL (zBF n (d1 : Int).toNat (w.1 (m + 1))) x).1 (25 + i) = 1) → y = 0))))) := by
                intro N
                induction N with
                | zero => intro i vals brk hi hv hbb hbk hm; omega
                | succ N ih11 =>
                  intro i vals brk hi hv hbb hbk hm
                  have hvi : i < n → (1 ≤ (zL L o).1 (21 + i) ∧ (zL L o).1 (21 + i) ≤ 1000000000 ∧ 1 ≤ (zL L o).1 (25 + i) ∧ (zL L o).1 (25 + i) ≤ 1000000000) := fun h => (hBL.2.2.2 o (by omega)).1.S.v i (by omega)
                  refine jWp.blk mt 1 ?_
                  show jWp 192 74 [some (jO m), some (jI (d1 : Int)), some (jI a), some (jI vals), some (jI brk), some (jJ mo), none, some (jI (o : Int)), some (jI (i : Int)), none, none] [jI (i : Int)] 0 0 (M1, w.2) _
                  refine jWp.i2l (pc' := 75) mt rfl rfl (b32_id (by omega) (by omega)) ?_
                  show jWp 192 75 [some (jO m), some (jI (d1 : Int)), some (jI a), some (jI vals), some (jI brk), some (jJ mo), none, some (jI (o : Int)), some (jI (i : Int)), none, none] [jJ (i : Int)] 0 0 (M1, w.2) _
                  refine jWp.blk mt 1 ?_
                  show _ ∧ jWp 192 76 [some (jO m), some (jI (d1 : Int)), some (jI a), some (jI vals), some (jI brk), some (jJ mo), none, some (jI (o : Int)), some (jI (i : Int)), none, none] [jO m, jJ (i : Int)] 0 0 (M1, w.2) _
                  refine ⟨rfl, ?_⟩
                  refine jWp.getR (pc' := 79) (o := (m + 1)) mt rfl rfl (jtg hW.K0) hW.R0 ?_
                  show jWp 192 79 [some (jO m), some (jI (d1 : Int)), some (jI a), some (jI vals), some (jI brk), some (jJ mo), none, some (jI (o : Int)), some (jI (i : Int)), none, none] [jO (m + 1), jJ (i : Int)] 0 0 (M1, w.2) _
                  refine jWp.blk mt 1 ?_
                  show jWp 192 80 [some (jO m), some (jI (d1 : Int)), some (jI a), some (jI vals), some (jI brk), some (jJ mo), none, some (jI (o : Int)), some (jI (i : Int)), none, none] [jI 0, jO (m + 1), jJ (i : Int)] 0 0 (M1, w.2) _
                  refine jWp.lald (pc' := 81) (j := 0) mt rfl rfl (jtg hW.K1) (by decide) (jlt hW.K1 (by decide)) ?_
                  rw [show ((M1, w.2).1 (m + 1) 0) = (n : Int) from hn0]
                  show jWp 192 81 [some (jO m), some (jI (d1 : Int)), some (jI a), some (jI vals), some (jI brk), some (jJ mo), none, some (jI (o : Int)), some (jI (i : Int)), none, none] [jJ (n : Int), jJ (i : Int)] 0 0 (M1, w.2) _
                  refine jWp.lcmp (pc' := 85) mt rfl rfl rfl (b64_id (by omega) (by omega)) (b64_id (by omega) (by omega)) (fun h12 => ?_) (fun h12 => ?_)
                  · have h12 : (n : Int) ≤ (i : Int) := h12
                    refine jWp.blk mt 1 ?_
                    show _ ∧ jWp 192 258 [some (jO m), some (jI (d1 : Int)), some (jI a), some (jI vals), some (jI brk), some (jJ mo), none, some (jI (o : Int)), some (jI (i : Int)), none, none] [jO m] 0 0 (M1, w.2) _
                    refine ⟨rfl, ?_⟩
                    refine jWp.getR (pc' := 261) (o := (m + 17)) mt rfl rfl (jtg hW.K0) hW.R17 ?_
                    show jWp 192 261 [some (jO m), some (jI (d1 : Int)), some (jI a), some (jI vals), some (jI brk), some (jJ mo), none, some (jI (o : Int)), some (jI (i : Int)), none, none] [jO (m + 17)] 0 0 (M1, w.2) _
                    refine jWp.blk mt 1 ?_
                    show jWp 192 263 [some (jO m), some (jI (d1 : Int)), some (jI a), some (jI vals), some (jI brk), some (jJ mo), none, some (jI (o : Int)), some (jI (i : Int)), none, none] [jI (o : Int), jO (m + 17)] 0 0 (M1, w.2) _
                    refine jWp.aald (pc' := 264) (j := o) (o := (m + (18 + o))) mt rfl rfl (jrg hW.K17 (by decide) (by decide)) (b32_id (by omega) (by omega)) (jlt hW.K17 (by omega)) (hW.RFo o (by omega)) ?_
                    show jWp 192 264 [some (jO m), some (jI (d1 : Int)), some (jI a), some (jI vals), some (jI brk), some (jJ mo), none, some (jI (o : Int)), some (jI (i : Int)), none, none] [jO (m + (18 + o))] 0 0 (M1, w.2) _
                    refine jWp.calls (as := [jO (m + (18 + o))]) (rest := []) mt rfl rfl rfl rfl ?_
                    refine jCall.mono ((by have h := E_greatest (w := (M1, w.2)) (q := m + (18 + o)) (n := n) (hW.KF o (by omega)) (zeq_S (hRL.2 o (by omega)).1 (hBL.2.2.2 o (by omega)).1.S); rw [zgo_c (S := ((M1, w.2) : jS).1 (m + (18 + o))) (hRL.2 o (by omega)).1 hn4 n hn4] at h; exact h)) (fun v9 w9 h9 => ?_)
                    obtain ⟨rfl, h9⟩ := h9
                    subst w9
                    show jWp 192 267 [some (jO m), some (jI (d1 : Int)), some (jI a), some (jI vals), some (jI brk), some (jJ mo), none, some (jI (o : Int)), some (jI (i : Int)), none, none] [jJ (zgo (zL L o).1 n n)] 0 0 (M1, w.2) _
                    refine jWp.blk mt 3 ?_
                    show jWp 192 273 [some (jO m), some (jI (d1 : Int)), some (jI a), some (jI vals), some (jI brk), some (jJ mo), none, some (jI (o : Int)), some (jJ (zgo (zL L o).1 n n)), none, none] [jJ mo, jJ (zgo (zL L o).1 n n)] 0 0 (M1, w.2) _
                    refine jWp.lcmp (pc' := 277) mt rfl rfl rfl rfl rfl (fun h13 => ?_) (fun h13 => ?_)
                    · have h13 : (b64 (zgo (zL L o).1 n n)) ≤ (b64 mo) := h13
                      refine jWp.blk mt 4 ?_
                      show jWp 192 60 [some (jO m), some (jI (d1 : Int)), some (jI a), some (jI vals), some (jI brk), some (jJ mo), none, some (jI ((o : Int) + 1)), some (jJ (zgo (zL L o).1 n n)), none, none] [] 0 0 (M1, w.2) _
                      refine jWp.le (l := [some (jO m), some (jI (d1 : Int)), some (jI a), some (jI vals), some (jI brk), some (jJ mo), none, some (jI ((o : Int) + 1)), none, none, none]) (by exact ⟨rfl, rfl, rfl, rfl, rfl, rfl, rfl, trivial⟩) ?_
                      exact ih5 (o + 1) _ _ _ (by omega) (by rw [hv, show i = n by omega]; rfl) (by rw [zgm_f (by rw [← hmo]; omega)]; exact hmo) (by omega) (fun g => hbk (fun x y hx hy _ => g x y (by omega) hy)) (by omega)
                    · have h13 : (b64 mo) < (b64 (zgo (zL L o).1 n n)) := h13
                      refine jWp.blk mt 5 ?_
                      show jWp 192 60 [some (jO m), some (jI (d1 : Int)), some (jI a), some (jI vals), some (jI brk), some (jJ (zgo (zL L o).1 n n)), none, some (jI ((o : Int) + 1)), some (jJ (zgo (zL L o).1 n n)), none, none] [] 0 0 (M1, w.2) _
                      refine jWp.le (l := [some (jO m), some (jI (d1 : Int)), some (jI a), some (jI vals), some (jI brk), some (jJ (zgo (zL L o).1 n n)), none, some (jI ((o : Int) + 1)), none, none, none]) (by exact ⟨rfl, rfl, rfl, rfl, rfl, rfl, rfl, trivial⟩) ?_
                      exact ih5 (o + 1) _ _ _ (by omega) (by rw [hv, show i = n by omega]; rfl) (by rw [zgm_t (by rw [← hmo]; omega)]) (by omega) (fun g => hbk (fun x y hx hy _ => g x y (by omega) hy)) (by omega)
                  · have h12 : (i : Int) < (n : Int) := h12
                    refine jWp.blk mt 3 ?_
                    show _ ∧ _ ∧ jWp 192 89 [some (jO m), some (jI (d1 : Int)), some (jI a), some (jI vals), some (jI brk), some (jJ mo), none, some (jI (o : Int)), some (jI (i : Int)), none, none] [jO m, jI (o : Int), jO m] 0 0 (M1, w.2) _
                    refine ⟨rfl, rfl, ?_⟩
                    refine jWp.getR (pc' := 92) (o := (m + 17)) mt rfl rfl (jtg hW.K0) hW.R17 ?_
                    show jWp 192 92 [some (jO m), some (jI (d1 : Int)), some (jI a), some (jI vals), some (jI brk), some (jJ mo), none, some (jI (o : Int)), some (jI (i : Int)), none, none] [jO (m + 17), jI (o : Int), jO m] 0 0 (M1, w.2) _
                    refine jWp.blk mt 1 ?_
                    show jWp 192 94 [some (jO m), some (jI (d1 : Int)), some (jI a), some (jI vals), some (jI brk), some (jJ mo), none, some (jI (o : Int)), some (jI (i : Int)), none, none] [jI (o : Int), jO (m + 17), jI (o : Int), jO m] 0 0 (M1, w.2) _
                    refine jWp.aald (pc' := 95) (j := o) (o := (m + (18 + o))) mt rfl rfl (jrg hW.K17 (by decide) (by decide)) (b32_id (by omega) (by omega)) (jlt hW.K17 (by omega)) (hW.RFo o (by omega)) ?_
                    show jWp 192 95 [some (jO m), some (jI (d1 : Int)), some (jI a), some (jI vals), some (jI brk), some (jJ mo), none, some (jI (o : Int)), some (jI (i : Int)), none, none] [jO (m + (18 + o)), jI (o : Int), jO m] 0 0 (M1, w.2) _
                    refine jWp.blk mt 3 ?_
                    show jWp 192 100 [some (jO m), some (jI (d1 : Int)), some (jI a), some (jI vals), some (jI brk), some (jJ mo), none, some (jI (o : Int)), some (jI (i : Int)), none, none] [jI (21 + (i : Int)), jO (m + (18 + o)), jI (o : Int), jO m] 0 0 (M1, w.2) _
                    refine jWp.lald (pc' := 101) (j := (21 + i)) mt rfl rfl (jtg (hW.KF _ (by omega))) (by rw [b32_id (by omega) (by omega)]; omega) (jlt (hW.KF _ (by omega)) (by omega)) ?_
                    rw [show ((M1, w.2).1 (m + (18 + o)) (21 + i)) = ((zL L o).1 (21 + i)) from ((hRL.2 o (by omega)).1 (21 + i) (by omega))]
                    show jWp 192 101 [some (jO m), some (jI (d1 : Int)), some (jI a), some (jI vals), some (jI brk), some (jJ mo), none, some (jI (o : Int)), some (jI (i : Int)), none, none] [jJ ((zL L o).1 (21 + i)), jI (o : Int), jO m] 0 0 (M1, w.2) _
                    refine jWp.blk mt 1 ?_
                    show _ ∧ jWp 192 102 [some (jO m), some (jI (d1 : Int)), some (jI a), some (jI vals), some (jI brk), some (jJ mo), none, some (jI (o : Int)), some (jI (i : Int)), none, none] [jO m, jJ ((zL L o).1 (21 + i)), jI (o : Int), jO m] 0 0 (M1, w.2) _
                    refine ⟨rfl, ?_⟩
                    refine jWp.getR (pc' := 105) (o := (m + 17)) mt rfl rfl (jtg hW.K0) hW.R17 ?_
                    show jWp 192 105 [some (jO m), some (jI (d1 : Int)), some (jI a), some (jI vals), some (jI brk), some (jJ mo), none, some (jI (o : Int)), some (jI (i : Int)), none, none] [jO (m + 17), jJ ((zL L o).1 (21 + i)), jI (o : Int), jO m] 0 0 (M1, w.2) _
                    refine jWp.blk mt 1 ?_
                    show jWp 192 107 [some (jO m), some (jI (d1 : Int)), some (jI a), some (jI vals), some (jI brk), some (jJ mo), none, some (jI (o : Int)), some (jI (i : Int)), none, none] [jI (o : Int), jO (m + 17), jJ ((zL L o).1 (21 + i)), jI (o : Int), jO m] 0 0 (M1, w.2) _
                    refine jWp.aald (pc' := 108) (j := o) (o := (m + (18 + o))) mt rfl rfl (jrg hW.K17 (by decide) (by decide)) (b32_id (by omega) (by omega)) (jlt hW.K17 (by omega)) (hW.RFo o (by omega)) ?_
                    show jWp 192 108 [some (jO m), some (jI (d1 : Int)), some (jI a), some (jI vals), some (jI brk), some (jJ mo), none, some (jI (o : Int)), some (jI (i : Int)), none, none] [jO (m + (18 + o)), jJ ((zL L o).1 (21 + i)), jI (o : Int), jO m] 0 0 (M1, w.2) _
                    refine jWp.blk mt 3 ?_
                    show jWp 192 113 [some (jO m), some (jI (d1 : Int)), some (jI a), some (jI vals), some (jI brk), some (jJ mo), none, some (jI (o : Int)), some (jI (i : Int)), none, none] [jI (25 + (i : Int)), jO (m + (18 + o)), jJ ((zL L o).1 (21 + i)), jI (o : Int), jO m] 0 0 (M1, w.2) _
                    refine jWp.lald (pc' := 114) (j := (25 + i)) mt rfl rfl (jtg (hW.KF _ (by omega))) (by rw [b32_id (by omega) (by omega)]; omega) (jlt (hW.KF _ (by omega)) (by omega)) ?_
                    rw [show ((M1, w.2).1 (m + (18 + o)) (25 + i)) = ((zL L o).1 (25 + i)) from ((hRL.2 o (by omega)).1 (25 + i) (by omega))]
                    show jWp 192 114 [some (jO m), some (jI (d1 : Int)), some (jI a), some (jI vals), some (jI brk), some (jJ mo), none, some (jI (o : Int)), some (jI (i : Int)), none, none] [jJ ((zL L o).1 (25 + i)), jJ ((zL L o).1 (21 + i)), jI (o : Int), jO m] 0 0 (M1, w.2) _
                    refine jWp.callv (as := [jO m, jI (o : Int), jJ ((zL L o).1 (21 + i)), jJ ((zL L o).1 (25 + i))]) (rest := []) mt rfl rfl rfl ⟨rfl, jtg hW.K0⟩ ?_
                    refine jCall.mono (E_stands (w := (M1, w.2)) (s9 := o) (L := L) (n := n) hW hn0 hn4 hRL hBL hl (by omega) (by have := hvi (by omega); omega) (by have := hvi (by omega); omega)) (fun v9 w9 h9 => ?_)
                    rcases h9 with ⟨rfl, h9, h14⟩ | ⟨rfl, h9, h14⟩ <;> subst w9
                    · have h14 : zsd L n o ((zL L o).1 (21 + i)) ((zL L o).1 (25 + i)) := h14
                      show jWp 192 117 [some (jO m), some (jI (d1 : Int)), some (jI a), some (jI vals), some (jI brk), some (jJ mo), none, some (jI (o : Int)), some (jI (i : Int)), none, none] [jI 1] 0 0 (M1, w.2) _
                      refine jWp.ifc (b := true) mt rfl (by decide) rfl ?_
                      show jWp 192 124 [some (jO m), some (jI (d1 : Int)), some (jI a), some (jI vals), some (jI brk), some (jJ mo), none, some (jI (o : Int)), some (jI (i : Int)), none, none] [] 0 0 (M1, w.2) _
                      refine jWp.blk mt 4 ?_
                      show jWp 192 130 [some (jO m), some (jI (d1 : Int)), some (jI a), some (jI vals), some (jI brk), some (jJ mo), none, some (jI (o : Int)), some (jI (i : Int)), some (jI 0), some (jI 0)] [] 0 0 (M1, w.2) _
                      have lp15 : ∀ (N : Nat) (j : Nat) (s : Int) (hj : j ≤ i) (hs : (s = 1 ∧ zni L n o i j) ∨ (s = 0 ∧ ¬ zni L n o i j)), i - j < N → jWp 192 130 [some (jO m), some (jI (d1 : Int)), some (jI a), some (jI vals), some (jI brk), some (jJ mo), none, some (jI (o : Int)), some (jI (i : Int)), some (jI s), some (jI (j : Int))] [] 0 0 (M1, w.2) (fun v w1 => (((d1 : Int) < 0) → jno w m 4 (jI (-4)) v w1) ∧ (¬ ((d1 : Int) < 0) → (4 < (d1 : Int)) → jno w m 6 (jI (-6)) v w1) ∧ (¬ ((d1 : Int) < 0) → ¬ (4 < (d1 : Int)) → (¬ (0 ≤ a ∧ a ≤ 3)) → jno w m 2 (jI (-2)) v w1) ∧ (¬ ((d1 : Int) < 0) → ¬ (4 < (d1 : Int)) → ¬ (¬ (0 ≤ a ∧ a ≤ 3)) → (mq w m w1 ∧ (a = 0 → v = some (jI ((zBF n (d1 : Int).toNat (w.1 (m + 1))).length : Int))) ∧ (a = 1 → v = some (jI (zvo (zBF n (d1 : Int).toNat (w.1 (m + 1))) n (zBF n (d1 : Int).toNat (w.1 (m + 1))).length))) ∧ (a = 2 → v = some (jI (zgm (zBF n (d1 : Int).toNat (w.1 (m + 1))) n (zBF n (d1 : Int).toNat (w.1 (m + 1))).length))) ∧ (a = 3 → ∃ y, v = some (jI y) ∧ ((∀ x i, x < (zBF n (d1 : Int).toNat (w.1 (m + 1))).length → i < n → (zL (zBF n (d1 : Int).toNat (w.1 (m + 1))) x).1 (25 + i) = 1) → y = 0))))) := by
                        intro N
                        induction N with
                        | zero => intro j s hj hs hm; omega
                        | succ N ih16 =>
                          intro j s hj hs hm
                          have hvj : j < n → (1 ≤ (zL L o).1 (21 + j) ∧ (zL L o).1 (21 + j) ≤ 1000000000 ∧ 1 ≤ (zL L o).1 (25 + j) ∧ (zL L o).1 (25 + j) ≤ 1000000000) := fun h => (hBL.2.2.2 o (by omega)).1.S.v j (by omega)
                          have hvi2 := hvi (by omega)
                          refine jWp.blk mt 2 ?_
                          show jWp 192 134 [some (jO m), some (jI (d1 : Int)), some (jI a), some (jI vals), some (jI brk), some (jJ mo), none, some (jI (o : Int)), some (jI (i : Int)), some (jI s), some (jI (j : Int))] [jI (i : Int), jI (j : Int)] 0 0 (M1, w.2) _
                          refine jWp.icmp (pc' := 137) mt rfl rfl (b32_id (by omega) (by omega)) (b32_id (by omega) (by omega)) (fun h17 => ?_) (fun h17 => ?_)
                          · have h17 : (i : Int) ≤ (j : Int) := h17
                            refine jWp.blk mt 2 ?_
                            show jWp 192 216 [some (jO m), some (jI (d1 : Int)), some (jI a), some (jI vals), some (jI brk), some (jJ mo), none, some (jI (o : Int)), some (jI (i : Int)), some (jI s), some (jI (j : Int))] [jI s, jI vals] 0 0 (M1, w.2) _
                            refine jWp.ifz (pc' := 219) mt rfl rfl (b32_id (by rcases hs with ⟨e, _⟩ | ⟨e, _⟩ <;> omega) (by rcases hs with ⟨e, _⟩ | ⟨e, _⟩ <;> omega)) (fun h18 => ?_) (fun h18 => ?_)
                            · have h18 : s = 0 := h18
                              refine jWp.blk mt 5 ?_
                              show _ ∧ jWp 192 229 [some (jO m), some (jI (d1 : Int)), some (jI a), some (jI (vals + 0)), some (jI brk), some (jJ mo), none, some (jI (o : Int)), some (jI (i : Int)), some (jI s), some (jI (j : Int))] [jO m, jI brk] 0 0 (M1, w.2) _
                              refine ⟨rfl, ?_⟩
                              refine jWp.getR (pc' := 232) (o := (m + 17)) mt rfl rfl (jtg hW.K0) hW.R17 ?_
                              show jWp 192 232 [some (jO m), some (jI (d1 : Int)), some (jI a), some (jI (vals + 0)), some (jI brk), some (jJ mo), none, some (jI (o : Int)), some (jI (i : Int)), some (jI s), some (jI (j : Int))] [jO (m + 17), jI brk] 0 0 (M1, w.2) _
                              refine jWp.blk mt 1 ?_
                              show jWp 192 234 [some (jO m), some (jI (d1 : Int)), some (jI a), some (jI (vals + 0)), some (jI brk), some (jJ mo), none, some (jI (o : Int)), some (jI (i : Int)), some (jI s), some (jI (j : Int))] [jI (o : Int), jO (m + 17), jI brk] 0 0 (M1, w.2) _
                              refine jWp.aald (pc' := 235) (j := o) (o := (m + (18 + o))) mt rfl rfl (jrg hW.K17 (by decide) (by decide)) (b32_id (by omega) (by omega)) (jlt hW.K17 (by omega)) (hW.RFo o (by omega)) ?_
                              show jWp 192 235 [some (jO m), some (jI (d1 : Int)), some (jI a), some (jI (vals + 0)), some (jI brk), some (jJ mo), none, some (jI (o : Int)), some (jI (i : Int)), some (jI s), some (jI (j : Int))] [jO (m + (18 + o)), jI brk] 0 0 (M1, w.2) _
                              refine jWp.blk mt 1 ?_
                              show jWp 192 237 [some (jO m), some (jI (d1 : Int)), some (jI a), some (jI (vals + 0)), some (jI brk), some (jJ mo), none, some (jI (o : Int)), some (jI (i : Int)), some (jI s), some (jI (j : Int))] [jI (i : Int), jO (m + (18 + o)), jI brk] 0 0 (M1, w.2) _
                              refine jWp.calls (as := [jO (m + (18 + o)), jI (i : Int)]) (rest := [jI brk]) mt rfl rfl rfl rfl ?_
                              refine jCall.mono (E_isWhole (w := (M1, w.2)) (q := m + (18 + o)) (n := n) (i := i) (hW.KF o (by omega)) (zeq_S (hRL.2 o (by omega)).1 (hBL.2.2.2 o (by omega)).1.S) (fun c hc => by have e := (hRL.2 o (by omega)).1 (17 + c) (by omega); have g := (hBL.2.2.2 o (by omega)).1.s c hc; constructor <;> (show _ ≤ _) <;> (first | (rw [show ((M1, w.2) : jS).1 (m + (18 + o)) (17 + c) = (zL L o).1 (17 + c) from e]; omega))) (by omega)) (fun v9 w9 h9 => ?_)
                              obtain ⟨h9, yw, rfl, hyw, hy1⟩ := h9
                              subst w9
                              show jWp 192 240 [some (jO m), some (jI (d1 : Int)), some (jI a), some (jI (vals + 0)), some (jI brk), some (jJ mo), none, some (jI (o : Int)), some (jI (i : Int)), some (jI s), some (jI (j : Int))] [jI yw, jI brk] 0 0 (M1, w.2) _
                              refine jWp.ifz (pc' := 243) mt rfl rfl (b32_id (by omega) (by omega)) (fun h19 => ?_) (fun h19 => ?_)
                              · have h19 : yw = 0 := h19
                                refine jWp.blk mt 5 ?_
                                show jWp 192 72 [some (jO m), some (jI (d1 : Int)), some (jI a), some (jI (vals + 0)), some (jI (brk + 1)), some (jJ mo), none, some (jI (o : Int)), some (jI ((i : Int) + 1)), some (jI s), some (jI (j : Int))] [] 0 0 (M1, w.2) _
                                refine jWp.le (l := [some (jO m), some (jI (d1 : Int)), some (jI a), some (jI (vals + 0)), some (jI (brk + 1)), some (jJ mo), none, some (jI (o : Int)), some (jI ((i : Int) + 1)), none, none]) (by exact ⟨rfl, rfl, rfl, rfl, rfl, rfl, rfl, rfl, trivial⟩) ?_
                                exact ih11 (i + 1) _ _ (by omega) (by rcases hs with ⟨e, h⟩ | ⟨e, h⟩; exact absurd e (by omega); rw [zvi_f (fun g => h (zni_e (by omega) g)), hv]; omega) (by omega) (fun g => by have g1 := hbk (fun x y hx hy hz => g x y hx hy (by omega)); have g2 := g o i (by omega) (by omega) (by omega); have g3 := hy1 (((hRL.2 o (by omega)).1 (25 + i) (by omega)).trans g2); omega) (by omega)
                              · have h19 : yw ≠ 0 := h19
                                refine jWp.blk mt 6 ?_
                                show jWp 192 72 [some (jO m), some (jI (d1 : Int)), some (jI a), some (jI (vals + 0)), some (jI (brk + 0)), some (jJ mo), none, some (jI (o : Int)), some (jI ((i : Int) + 1)), some (jI s), some (jI (j : Int))] [] 0 0 (M1, w.2) _
                                refine jWp.le (l := [some (jO m), some (jI (d1 : Int)), some (jI a), some (jI (vals + 0)), some (jI (brk + 0)), some (jJ mo), none, some (jI (o : Int)), some (jI ((i : Int) + 1)), none, none]) (by exact ⟨rfl, rfl, rfl, rfl, rfl, rfl, rfl, rfl, trivial⟩) ?_
                                exact ih11 (i + 1) _ _ (by omega) (by rcases hs with ⟨e, h⟩ | ⟨e, h⟩; exact absurd e (by omega); rw [zvi_f (fun g => h (zni_e (by omega) g)), hv]; omega) (by omega) (fun g => by have g1 := hbk (fun x y hx hy hz => g x y hx hy (by omega)); have g2 := g o i (by omega) (by omega) (by omega); have g3 := hy1 (((hRL.2 o (by omega)).1 (25 + i) (by omega)).trans g2); omega) (by omega)
                            · have h18 : s ≠ 0 := h18
                              refine jWp.blk mt 6 ?_
                              show _ ∧ jWp 192 229 [some (jO m), some (jI (d1 : Int)), some (jI a), some (jI (vals + 1)), some (jI brk), some (jJ mo), none, some (jI (o : Int)), some (jI (i : Int)), some (jI s), some (jI (j : Int))] [jO m, jI brk] 0 0 (M1, w.2) _
                              refine ⟨rfl, ?_⟩
                              refine jWp.getR (pc' := 232) (o := (m + 17)) mt rfl rfl (jtg hW.K0) hW.R17 ?_
                              show jWp 192 232 [some (jO m), some (jI (d1 : Int)), some (jI a), some (jI (vals + 1)), some (jI brk), some (jJ mo), none, some (jI (o : Int)), some (jI (i : Int)), some (jI s), some (jI (j : Int))] [jO (m + 17), jI brk] 0 0 (M1, w.2) _
                              refine jWp.blk mt 1 ?_
                              show jWp 192 234 [some (jO m), some (jI (d1 : Int)), some (jI a), some (jI (vals + 1)), some (jI brk), some (jJ mo), none, some (jI (o : Int)), some (jI (i : Int)), some (jI s), some (jI (j : Int))] [jI (o : Int), jO (m + 17), jI brk] 0 0 (M1, w.2) _
                              refine jWp.aald (pc' := 235) (j := o) (o := (m + (18 + o))) mt rfl rfl (jrg hW.K17 (by decide) (by decide)) (b32_id (by omega) (by omega)) (jlt hW.K17 (by omega)) (hW.RFo o (by omega)) ?_
                              show jWp 192 235 [some (jO m), some (jI (d1 : Int)), some (jI a), some (jI (vals + 1)), some (jI brk), some (jJ mo), none, some (jI (o : Int)), some (jI (i : Int)), some (jI s), some (jI (j : Int))] [jO (m + (18 + o)), jI brk] 0 0 (M1, w.2) _
                              refine jWp.blk mt 1 ?_
                              show jWp 192 237 [some (jO m), some (jI (d1 : Int)), some (jI a), some (jI (vals + 1)), some (jI brk), some (jJ mo), none, some (jI (o : Int)), some (jI (i : Int)), some (jI s), some (jI (j : Int))] [jI (i : Int), jO (m + (18 + o)), jI brk] 0 0 (M1, w.2) _
                              refine jWp.calls (as := [jO (m + (18 + o)), jI (i : Int)]) (rest := [jI brk]) mt rfl rfl rfl rfl ?_
                              refine jCall.mono (E_isWhole (w := (M1, w.2)) (q := m + (18 + o)) (n := n) (i := i) (hW.KF o (by omega)) (zeq_S (hRL.2 o (by omega)).1 (hBL.2.2.2 o (by omega)).1.S) (fun c hc => by have e := (hRL.2 o (by omega)).1 (17 + c) (by omega); have g := (hBL.2.2.2 o (by omega)).1.s c hc; constructor <;> (show _ ≤ _) <;> (first | (rw [show ((M1, w.2) : jS).1 (m + (18 + o)) (17 + c) = (zL L o).1 (17 + c) from e]; omega))) (by omega)) (fun v9 w9 h9 => ?_)
                              obtain ⟨h9, yw, rfl, hyw, hy1⟩ := h9
                              subst w9
                              show jWp 192 240 [some (jO m), some (jI (d1 : Int)), some (jI a), some (jI (vals + 1)), some (jI brk), some (jJ mo), none, some (jI (o : Int)), some (jI (i : Int)), some (jI s), some (jI (j : Int))] [jI yw, jI brk] 0 0 (M1, w.2) _
                              refine jWp.ifz (pc' := 243) mt rfl rfl (b32_id (by omega) (by omega)) (fun h20 => ?_) (fun h20 => ?_)
                              · have h20 : yw = 0 := h20
                                refine jWp.blk mt 5 ?_
                                show jWp 192 72 [some (jO m), some (jI (d1 : Int)), some (jI a), some (jI (vals + 1)), some (jI (brk + 1)), some (jJ mo), none, some (jI (o : Int)), some (jI ((i : Int) + 1)), some (jI s), some (jI (j : Int))] [] 0 0 (M1, w.2) _
                                refine jWp.le (l := [some (jO m), some (jI (d1 : Int)), some (jI a), some (jI (vals + 1)), some (jI (brk + 1)), some (jJ mo), none, some (jI (o : Int)), some (jI ((i : Int) + 1)), none, none]) (by exact ⟨rfl, rfl, rfl, rfl, rfl, rfl, rfl, rfl, trivial⟩) ?_
                                exact ih11 (i + 1) _ _ (by omega) (by rcases hs with ⟨e, h⟩ | ⟨e, h⟩; rw [zvi_t (zni_e (by omega) h), hv]; omega; exact absurd e (by omega)) (by omega) (fun g => by have g1 := hbk (fun x y hx hy hz => g x y hx hy (by omega)); have g2 := g o i (by omega) (by omega) (by omega); have g3 := hy1 (((hRL.2 o (by omega)).1 (25 + i) (by omega)).trans g2); omega) (by omega)
                              · have h20 : yw ≠ 0 := h20
                                refine jWp.blk mt 6 ?_
                                show jWp 192 72 [some (jO m), some (jI (d1 : Int)), some (jI a), some (jI (vals + 1)), some (jI (brk + 0)), some (jJ mo), none, some (jI (o : Int)), some (jI ((i : Int) + 1)), some (jI s), some (jI (j : Int))] [] 0 0 (M1, w.2) _
                                refine jWp.le (l := [some (jO m), some (jI (d1 : Int)), some (jI a), some (jI (vals + 1)), some (jI (brk + 0)), some (jJ mo), none, some (jI (o : Int)), some (jI ((i : Int) + 1)), none, none]) (by exact ⟨rfl, rfl, rfl, rfl, rfl, rfl, rfl, rfl, trivial⟩) ?_
                                exact ih11 (i + 1) _ _ (by omega) (by rcases hs with ⟨e, h⟩ | ⟨e, h⟩; rw [zvi_t (zni_e (by omega) h), hv]; omega; exact absurd e (by omega)) (by omega) (fun g => by have g1 := hbk (fun x y hx hy hz => g x y hx hy (by omega)); have g2 := g o i (by omega) (by omega) (by omega); have g3 := hy1 (((hRL.2 o (by omega)).1 (25 + i) (by omega)).trans g2); omega) (by omega)
                          · have h17 : (j : Int) < (i : Int) := h17
                            refine jWp.blk mt 2 ?_
                            show _ ∧ jWp 192 140 [some (jO m), some (jI (d1 : Int)), some (jI a), some (jI vals), some (jI brk), some (jJ mo), none, some (jI (o : Int)), some (jI (i : Int)), some (jI s), some (jI (j : Int))] [jO m, jI s] 0 0 (M1, w.2) _
                            refine ⟨rfl, ?_⟩
                            refine jWp.getR (pc' := 143) (o := (m + 17)) mt rfl rfl (jtg hW.K0) hW.R17 ?_
                            show jWp 192 143 [some (jO m), some (jI (d1 : Int)), some (jI a), some (jI vals), some (jI brk), some (jJ mo), none, some (jI (o : Int)), some (jI (i : Int)), some (jI s), some (jI (j : Int))] [jO (m + 17), jI s] 0 0 (M1, w.2) _
                            refine jWp.blk mt 1 ?_
                            show jWp 192 145 [some (jO m), some (jI (d1 : Int)), some (jI a), some (jI vals), some (jI brk), some (jJ mo), none, some (jI (o : Int)), some (jI (i : Int)), some (jI s), some (jI (j : Int))] [jI (o : Int), jO (m + 17), jI s] 0 0 (M1, w.2) _
                            refine jWp.aald (pc' := 146) (j := o) (o := (m + (18 + o))) mt rfl rfl (jrg hW.K17 (by decide) (by decide)) (b32_id (by omega) (by omega)) (jlt hW.K17 (by omega)) (hW.RFo o (by omega)) ?_
                            show jWp 192 146 [some (jO m), some (jI (d1 : Int)), some (jI a), some (jI vals), some (jI brk), some (jJ mo), none, some (jI (o : Int)), some (jI (i : Int)), some (jI s), some (jI (j : Int))] [jO (m + (18 + o)), jI s] 0 0 (M1, w.2) _
                            refine jWp.blk mt 3 ?_
                            show jWp 192 151 [some (jO m), some (jI (d1 : Int)), some (jI a), some (jI vals), some (jI brk), some (jJ mo), none, some (jI (o : Int)), some (jI (i : Int)), some (jI s), some (jI (j : Int))] [jI (21 + (j : Int)), jO (m + (18 + o)), jI s] 0 0 (M1, w.2) _
                            refine jWp.lald (pc' := 152) (j := (21 + j)) mt rfl rfl (jtg (hW.KF _ (by omega))) (by rw [b32_id (by omega) (by omega)]; omega) (jlt (hW.KF _ (by omega)) (by omega)) ?_
                            rw [show ((M1, w.2).1 (m + (18 + o)) (21 + j)) = ((zL L o).1 (21 + j)) from ((hRL.2 o (by omega)).1 (21 + j) (by omega))]
                            show jWp 192 152 [some (jO m), some (jI (d1 : Int)), some (jI a), some (jI vals), some (jI brk), some (jJ mo), none, some (jI (o : Int)), some (jI (i : Int)), some (jI s), some (jI (j : Int))] [jJ ((zL L o).1 (21 + j)), jI s] 0 0 (M1, w.2) _
                            refine jWp.blk mt 1 ?_
                            show _ ∧ jWp 192 153 [some (jO m), some (jI (d1 : Int)), some (jI a), some (jI vals), some (jI brk), some (jJ mo), none, some (jI (o : Int)), some (jI (i : Int)), some (jI s), some (jI (j : Int))] [jO m, jJ ((zL L o).1 (21 + j)), jI s] 0 0 (M1, w.2) _
                            refine ⟨rfl, ?_⟩
                            refine jWp.getR (pc' := 156) (o := (m + 17)) mt rfl rfl (jtg hW.K0) hW.R17 ?_
                            show jWp 192 156 [some (jO m), some (jI (d1 : Int)), some (jI a), some (jI vals), some (jI brk), some (jJ mo), none, some (jI (o : Int)), some (jI (i : Int)), some (jI s), some (jI (j : Int))] [jO (m + 17), jJ ((zL L o).1 (21 + j)), jI s] 0 0 (M1, w.2) _
                            refine jWp.blk mt 1 ?_
                            show jWp 192 158 [some (jO m), some (jI (d1 : Int)), some (jI a), some (jI vals), some (jI brk), some (jJ mo), none, some (jI (o : Int)), some (jI (i : Int)), some (jI s), some (jI (j : Int))] [jI (o : Int), jO (m + 17), jJ ((zL L o).1 (21 + j)), jI s] 0 0 (M1, w.2) _
                            refine jWp.aald (pc' := 159) (j := o) (o := (m + (18 + o))) mt rfl rfl (jrg hW.K17 (by decide) (by decide)) (b32_id (by omega) (by omega)) (jlt hW.K17 (by omega)) (hW.RFo o (by omega)) ?_
                            show jWp 192 159 [some (jO m), some (jI (d1 : Int)), some (jI a), some (jI vals), some (jI brk), some (jJ mo), none, some (jI (o : Int)), some (jI (i : Int)), some (jI s), some (jI (j : Int))] [jO (m + (18 + o)), jJ ((zL L o).1 (21 + j)), jI s] 0 0 (M1, w.2) _
                            refine jWp.blk mt 3 ?_
                            show jWp 192 164 [some (jO m), some (jI (d1 : Int)), some (jI a), some (jI vals), some (jI brk), some (jJ mo), none, some (jI (o : Int)), some (jI (i : Int)), some (jI s), some (jI (j : Int))] [jI (21 + (i : Int)), jO (m + (18 + o)), jJ ((zL L o).1 (21 + j)), jI s] 0 0 (M1, w.2) _
                            refine jWp.lald (pc' := 165) (j := (21 + i)) mt rfl rfl (jtg (hW.KF _ (by omega))) (by rw [b32_id (by omega) (by omega)]; omega) (jlt (hW.KF _ (by omega)) (by omega)) ?_
                            rw [show ((M1, w.2).1 (m + (18 + o)) (21 + i)) = ((zL L o).1 (21 + i)) from ((hRL.2 o (by omega)).1 (21 + i) (by omega))]
                            show jWp 192 165 [some (jO m), some (jI (d1 : Int)), some (jI a), some (jI vals), some (jI brk), some (jJ mo), none, some (jI (o : Int)), some (jI (i : Int)), some (jI s), some (jI (j : Int))] [jJ ((zL L o).1 (21 + i)), jJ ((zL L o).1 (21 + j)), jI s] 0 0 (M1, w.2) _
                            refine jWp.lcmp (pc' := 169) mt rfl rfl rfl (b64_id (by omega) (by omega)) (b64_id (by omega) (by omega)) (fun h21 => ?_) (fun h21 => ?_)
                            · have h21 : ((zL L o).1 (21 + j)) ≠ ((zL L o).1 (21 + i)) := h21
                              refine jWp.blk mt 6 ?_
                              show jWp 192 130 [some (jO m), some (jI (d1 : Int)), some (jI a), some (jI vals), some (jI brk), some (jJ mo), none, some (jI (o : Int)), some (jI (i : Int)), some (jI (jand s 1)), some (jI ((j : Int) + 1))] [] 0 0 (M1, w.2) _
                              refine jWp.le (l := [some (jO m), some (jI (d1 : Int)), some (jI a), some (jI vals), some (jI brk), some (jJ mo), none, some (jI (o : Int)), some (jI (i : Int)), some (jI (jand s 1)), some (jI ((j : Int) + 1))]) (by exact ⟨rfl, rfl, rfl, rfl, rfl, rfl, rfl, rfl, rfl, rfl, trivial⟩) ?_
                              exact ih16 (j + 1) (jand s 1) (by omega) (by have hd : ¬ ((zL L o).1 (21 + j) = (zL L o).1 (21 + i) ∧ (zL L o).1 (25 + j) = (zL L o).1 (25 + i)) := (fun g => by first | exact absurd g.1 (by assumption) | exact absurd g.2 (by assumption)); rcases hs with ⟨rfl, h⟩ | ⟨rfl, h⟩; exact Or.inl ⟨by decide, h.1, fun y hy => by rcases Nat.lt_or_ge y j with e | e; exact h.2 y e; rw [show y = j by omega]; exact hd⟩; exact Or.inr ⟨by decide, fun g => h ⟨g.1, fun y hy => g.2 y (by omega)⟩⟩) (by omega)
                            · have h21 : ((zL L o).1 (21 + j)) = ((zL L o).1 (21 + i)) := h21
                              refine jWp.blk mt 1 ?_
                              show _ ∧ jWp 192 170 [some (jO m), some (jI (d1 : Int)), some (jI a), some (jI vals), some (jI brk), some (jJ mo), none, some (jI (o : Int)), some (jI (i : Int)), some (jI s), some (jI (j : Int))] [jO m, jI s] 0 0 (M1, w.2) _
                              refine ⟨rfl, ?_⟩
                              refine jWp.getR (pc' := 173) (o := (m + 17)) mt rfl rfl (jtg hW.K0) hW.R17 ?_
                              show jWp 192 173 [some (jO m), some (jI (d1 : Int)), some (jI a), some (jI vals), some (jI brk), some (jJ mo), none, some (jI (o : Int)), some (jI (i : Int)), some (jI s), some (jI (j : Int))] [jO (m + 17), jI s] 0 0 (M1, w.2) _
                              refine jWp.blk mt 1 ?_
                              show jWp 192 175 [some (jO m), some (jI (d1 : Int)), some (jI a), some (jI vals), some (jI brk), some (jJ mo), none, some (jI (o : Int)), some (jI (i : Int)), some (jI s), some (jI (j : Int))] [jI (o : Int), jO (m + 17), jI s] 0 0 (M1, w.2) _
                              refine jWp.aald (pc' := 176) (j := o) (o := (m + (18 + o))) mt rfl rfl (jrg hW.K17 (by decide) (by decide)) (b32_id (by omega) (by omega)) (jlt hW.K17 (by omega)) (hW.RFo o (by omega)) ?_
                              show jWp 192 176 [some (jO m), some (jI (d1 : Int)), some (jI a), some (jI vals), some (jI brk), some (jJ mo), none, some (jI (o : Int)), some (jI (i : Int)), some (jI s), some (jI (j : Int))] [jO (m + (18 + o)), jI s] 0 0 (M1, w.2) _
                              refine jWp.blk mt 3 ?_
                              show jWp 192 181 [some (jO m), some (jI (d1 : Int)), some (jI a), some (jI vals), some (jI brk), some (jJ mo), none, some (jI (o : Int)), some (jI (i : Int)), some (jI s), some (jI (j : Int))] [jI (25 + (j : Int)), jO (m + (18 + o)), jI s] 0 0 (M1, w.2) _
                              refine jWp.lald (pc' := 182) (j := (25 + j)) mt rfl rfl (jtg (hW.KF _ (by omega))) (by rw [b32_id (by omega) (by omega)]; omega) (jlt (hW.KF _ (by omega)) (by omega)) ?_
                              rw [show ((M1, w.2).1 (m + (18 + o)) (25 + j)) = ((zL L o).1 (25 + j)) from ((hRL.2 o (by omega)).1 (25 + j) (by omega))]
                              show jWp 192 182 [some (jO m), some (jI (d1 : Int)), some (jI a), some (jI vals), some (jI brk), some (jJ mo), none, some (jI (o : Int)), some (jI (i : Int)), some (jI s), some (jI (j : Int))] [jJ ((zL L o).1 (25 + j)), jI s] 0 0 (M1, w.2) _
                              refine jWp.blk mt 1 ?_
                              show _ ∧ jWp 192 183 [some (jO m), some (jI (d1 : Int)), some (jI a), some (jI vals), some (jI brk), some (jJ mo), none, some (jI (o : Int)), some (jI (i : Int)), some (jI s), some (jI (j : Int))] [jO m, jJ ((zL L o).1 (25 + j)), jI s] 0 0 (M1, w.2) _
                              refine ⟨rfl, ?_⟩
                              refine jWp.getR (pc' := 186) (o := (m + 17)) mt rfl rfl (jtg hW.K0) hW.R17 ?_
                              show jWp 192 186 [some (jO m), some (jI (d1 : Int)), some (jI a), some (jI vals), some (jI brk), some (jJ mo), none, some (jI (o : Int)), some (jI (i : Int)), some (jI s), some (jI (j : Int))] [jO (m + 17), jJ ((zL L o).1 (25 + j)), jI s] 0 0 (M1, w.2) _
                              refine jWp.blk mt 1 ?_
                              show jWp 192 188 [some (jO m), some (jI (d1 : Int)), some (jI a), some (jI vals), some (jI brk), some (jJ mo), none, some (jI (o : Int)), some (jI (i : Int)), some (jI s), some (jI (j : Int))] [jI (o : Int), jO (m + 17), jJ ((zL L o).1 (25 + j)), jI s] 0 0 (M1, w.2) _
                              refine jWp.aald (pc' := 189) (j := o) (o := (m + (18 + o))) mt rfl rfl (jrg hW.K17 (by decide) (by decide)) (b32_id (by omega) (by omega)) (jlt hW.K17 (by omega)) (hW.RFo o (by omega)) ?_
                              show jWp 192 189 [some (jO m), some (jI (d1 : Int)), some (jI a), some (jI vals), some (jI brk), some (jJ mo), none, some (jI (o : Int)), some (jI (i : Int)), some (jI s), some (jI (j : Int))] [jO (m + (18 + o)), jJ ((zL L o).1 (25 + j)), jI s] 0 0 (M1, w.2) _
                              refine jWp.blk mt 3 ?_
                              show jWp 192 194 [some (jO m), some (jI (d1 : Int)), some (jI a), some (jI vals), some (jI brk), some (jJ mo), none, some (jI (o : Int)), some (jI (i : Int)), some (jI s), some (jI (j : Int))] [jI (25 + (i : Int)), jO (m + (18 + o)), jJ ((zL L o).1 (25 + j)), jI s] 0 0 (M1, w.2) _
                              refine jWp.lald (pc' := 195) (j := (25 + i)) mt rfl rfl (jtg (hW.KF _ (by omega))) (by rw [b32_id (by omega) (by omega)]; omega) (jlt (hW.KF _ (by omega)) (by omega)) ?_
                              rw [show ((M1, w.2).1 (m + (18 + o)) (25 + i)) = ((zL L o).1 (25 + i)) from ((hRL.2 o (by omega)).1 (25 + i) (by omega))]
                              show jWp 192 195 [some (jO m), some (jI (d1 : Int)), some (jI a), some (jI vals), some (jI brk), some (jJ mo), none, some (jI (o : Int)), some (jI (i : Int)), some (jI s), some (jI (j : Int))] [jJ ((zL L o).1 (25 + i)), jJ ((zL L o).1 (25 + j)), jI s] 0 0 (M1, w.2) _
                              refine jWp.lcmp (pc' := 199) mt rfl rfl rfl (b64_id (by omega) (by omega)) (b64_id (by omega) (by omega)) (fun h22 => ?_) (fun h22 => ?_)
                              · have h22 : ((zL L o).1 (25 + j)) = ((zL L o).1 (25 + i)) := h22
                                refine jWp.blk mt 5 ?_
                                show jWp 192 130 [some (jO m), some (jI (d1 : Int)), some (jI a), some (jI vals), some (jI brk), some (jJ mo), none, some (jI (o : Int)), some (jI (i : Int)), some (jI (jand s 0)), some (jI ((j : Int) + 1))] [] 0 0 (M1, w.2) _
                                refine jWp.le (l := [some (jO m), some (jI (d1 : Int)), some (jI a), some (jI vals), some (jI brk), some (jJ mo), none, some (jI (o : Int)), some (jI (i : Int)), some (jI (jand s 0)), some (jI ((j : Int) + 1))]) (by exact ⟨rfl, rfl, rfl, rfl, rfl, rfl, rfl, rfl, rfl, rfl, trivial⟩) ?_
                                exact ih16 (j + 1) (jand s 0) (by omega) (Or.inr ⟨by rcases hs with ⟨rfl, h⟩ | ⟨rfl, h⟩ <;> decide, fun g => g.2 j (by omega) ⟨by assumption, by assumption⟩⟩) (by omega)
                              · have h22 : ((zL L o).1 (25 + j)) ≠ ((zL L o).1 (25 + i)) := h22
                                refine jWp.blk mt 6 ?_
                                show jWp 192 130 [some (jO m), some (jI (d1 : Int)), some (jI a), some (jI vals), some (jI brk), some (jJ mo), none, some (jI (o : Int)), some (jI (i : Int)), some (jI (jand s 1)), some (jI ((j : Int) + 1))] [] 0 0 (M1, w.2) _
                                refine jWp.le (l := [some (jO m), some (jI (d1 : Int)), some (jI a), some (jI vals), some (jI brk), some (jJ mo), none, some (jI (o : Int)), some (jI (i : Int)), some (jI (jand s 1)), some (jI ((j : Int) + 1))]) (by exact ⟨rfl, rfl, rfl, rfl, rfl, rfl, rfl, rfl, rfl, rfl, trivial⟩) ?_
                                exact ih16 (j + 1) (jand s 1) (by omega) (by have hd : ¬ ((zL L o).1 (21 + j) = (zL L o).1 (21 + i) ∧ (zL L o).1 (25 + j) = (zL L o).1 (25 + i)) := (fun g => by first | exact absurd g.1 (by assumption) | exact absurd g.2 (by assumption)); rcases hs with ⟨rfl, h⟩ | ⟨rfl, h⟩; exact Or.inl ⟨by decide, h.1, fun y hy => by rcases Nat.lt_or_ge y j with e | e; exact h.2 y e; rw [show y = j by omega]; exact hd⟩; exact Or.inr ⟨by decide, fun g => h ⟨g.1, fun y hy => g.2 y (by omega)⟩⟩) (by omega)
                      refine jWp.le (l := [some (jO m), some (jI (d1 : Int)), some (jI a), some (jI vals), some (jI brk), some (jJ mo), none, some (jI (o : Int)), some (jI (i : Int)), some (jI 0), some (jI 0)]) (by exact ⟨rfl, rfl, rfl, rfl, rfl, rfl, rfl, rfl, rfl, rfl, trivial⟩) ?_
                      exact lp15 _ 0 0 (by omega) (Or.inr ⟨rfl, fun g => absurd (by assumption) g.1⟩) (Nat.lt_succ_self _)
                    · have h14 : ¬ (zsd L n o ((zL L o).1 (21 + i)) ((zL L o).1 (25 + i))) := h14
                      show jWp 192 117 [some (jO m), some (jI (d1 : Int)), some (jI a), some (jI vals), some (jI brk), some (jJ mo), none, some (jI (o : Int)), some (jI (i : Int)), none, none] [jI 0] 0 0 (M1, w.2) _
                      refine jWp.ifc (b := false) mt rfl (by decide) rfl ?_
                      show jWp 192 120 [some (jO m), some (jI (d1 : Int)), some (jI a), some (jI vals), some (jI brk), some (jJ mo), none, some (jI (o : Int)), some (jI (i : Int)), none, none] [] 0 0 (M1, w.2) _
                      refine jWp.blk mt 5 ?_
                      show jWp 192 130 [some (jO m), some (jI (d1 : Int)), some (jI a), some (jI vals), some (jI brk), some (jJ mo), none, some (jI (o : Int)), some (jI (i : Int)), some (jI 1), some (jI 0)] [] 0 0 (M1, w.2) _
                      have lp23 : ∀ (N : Nat) (j : Nat) (s : Int) (hj : j ≤ i) (hs : (s = 1 ∧ zni L n o i j) ∨ (s = 0 ∧ ¬ zni L n o i j)), i - j < N → jWp 192 130 [some (jO m), some (jI (d1 : Int)), some (jI a), some (jI vals), some (jI brk), some (jJ mo), none, some (jI (o : Int)), some (jI (i : Int)), some (jI s), some (jI (j : Int))] [] 0 0 (M1, w.2) (fun v w1 => (((d1 : Int) < 0) → jno w m 4 (jI (-4)) v w1) ∧ (¬ ((d1 : Int) < 0) → (4 < (d1 : Int)) → jno w m 6 (jI (-6)) v w1) ∧ (¬ ((d1 : Int) < 0) → ¬ (4 < (d1 : Int)) → (¬ (0 ≤ a ∧ a ≤ 3)) → jno w m 2 (jI (-2)) v w1) ∧ (¬ ((d1 : Int) < 0) → ¬ (4 < (d1 : Int)) → ¬ (¬ (0 ≤ a ∧ a ≤ 3)) → (mq w m w1 ∧ (a = 0 → v = some (jI ((zBF n (d1 : Int).toNat (w.1 (m + 1))).length : Int))) ∧ (a = 1 → v = some (jI (zvo (zBF n (d1 : Int).toNat (w.1 (m + 1))) n (zBF n (d1 : Int).toNat (w.1 (m + 1))).length))) ∧ (a = 2 → v = some (jI (zgm (zBF n (d1 : Int).toNat (w.1 (m + 1))) n (zBF n (d1 : Int).toNat (w.1 (m + 1))).length))) ∧ (a = 3 → ∃ y, v = some (jI y) ∧ ((∀ x i, x < (zBF n (d1 : Int).toNat (w.1 (m + 1))).length → i < n → (zL (zBF n (d1 : Int).toNat (w.1 (m + 1))) x).1 (25 + i) = 1) → y = 0))))) := by
                        intro N
                        induction N with
                        | zero => intro j s hj hs hm; omega
                        | succ N ih24 =>
                          intro j s hj hs hm
                          have hvj : j < n → (1 ≤ (zL L o).1 (21 + j) ∧ (zL L o).1 (21 + j) ≤ 1000000000 ∧ 1 ≤ (zL L o).1 (25 + j) ∧ (zL L o).1 (25 + j) ≤ 1000000000) := fun h => (hBL.2.2.2 o (by omega)).1.S.v j (by omega)
                          have hvi2 := hvi (by omega)
                          refine jWp.blk mt 2 ?_
                          show jWp 192 134 [some (jO m), some (jI (d1 : Int)), some (jI a), some (jI vals), some (jI brk), some (jJ mo), none, some (jI (o : Int)), some (jI (i : Int)), some (jI s), some (jI (j : Int))] [jI (i : Int), jI (j : Int)] 0 0 (M1, w.2) _
                          refine jWp.icmp (pc' := 137) mt rfl rfl (b32_id (by omega) (by omega)) (b32_id (by omega) (by omega)) (fun h25 => ?_) (fun h25 => ?_)
                          · have h25 : (i : Int) ≤ (j : Int) := h25
                            refine jWp.blk mt 2 ?_
                            show jWp 192 216 [some (jO m), some (jI (d1 : Int)), some (jI a), some (jI vals), some (jI brk), some (jJ mo), none, some (jI (o : Int)), some (jI (i : Int)), some (jI s), some (jI (j : Int))] [jI s, jI vals] 0 0 (M1, w.2) _
                            refine jWp.ifz (pc' := 219) mt rfl rfl (b32_id (by rcases hs with ⟨e, _⟩ | ⟨e, _⟩ <;> omega) (by rcases hs with ⟨e, _⟩ | ⟨e, _⟩ <;> omega)) (fun h26 => ?_) (fun h26 => ?_)
                            · have h26 : s = 0 := h26
                              refine jWp.blk mt 5 ?_
                              show _ ∧ jWp 192 229 [some (jO m), some (jI (d1 : Int)), some (jI a), some (jI (vals + 0)), some (jI brk), some (jJ mo), none, some (jI (o : Int)), some (jI (i : Int)), some (jI s), some (jI (j : Int))] [jO m, jI brk] 0 0 (M1, w.2) _
                              refine ⟨rfl, ?_⟩
                              refine jWp.getR (pc' := 232) (o := (m + 17)) mt rfl rfl (jtg hW.K0) hW.R17 ?_
                              show jWp 192 232 [some (jO m), some (jI (d1 : Int)), some (jI a), some (jI (vals + 0)), some (jI brk), some (jJ mo), none, some (jI (o : Int)), some (jI (i : Int)), some (jI s), some (jI (j : Int))] [jO (m + 17), jI brk] 0 0 (M1, w.2) _
                              refine jWp.blk mt 1 ?_
                              show jWp 192 234 [some (jO m), some (jI (d1 : Int)), some (jI a), some (jI (vals + 0)), some (jI brk), some (jJ mo), none, some (jI (o : Int)), some (jI (i : Int)), some (jI s), some (jI (j : Int))] [jI (o : Int), jO (m + 17), jI brk] 0 0 (M1, w.2) _
                              refine jWp.aald (pc' := 235) (j := o) (o := (m + (18 + o))) mt rfl rfl (jrg hW.K17 (by decide) (by decide)) (b32_id (by omega) (by omega)) (jlt hW.K17 (by omega)) (hW.RFo o (by omega)) ?_
                              show jWp 192 235 [some (jO m), some (jI (d1 : Int)), some (jI a), some (jI (vals + 0)), some (jI brk), some (jJ mo), none, some (jI (o : Int)), some (jI (i : Int)), some (jI s), some (jI (j : Int))] [jO (m + (18 + o)), jI brk] 0 0 (M1, w.2) _
                              refine jWp.blk mt 1 ?_
                              show jWp 192 237 [some (jO m), some (jI (d1 : Int)), some (jI a), some (jI (vals + 0)), some (jI brk), some (jJ mo), none, some (jI (o : Int)), some (jI (i : Int)), some (jI s), some (jI (j : Int))] [jI (i : Int), jO (m + (18 + o)), jI brk] 0 0 (M1, w.2) _
                              refine jWp.calls (as := [jO (m + (18 + o)), jI (i : Int)]) (rest := [jI brk]) mt rfl rfl rfl rfl ?_
                              refine jCall.mono (E_isWhole (w := (M1, w.2)) (q := m + (18 + o)) (n := n) (i := i) (hW.KF o (by omega)) (zeq_S (hRL.2 o (by omega)).1 (hBL.2.2.2 o (by omega)).1.S) (fun c hc => by have e := (hRL.2 o (by omega)).1 (17 + c) (by omega); have g := (hBL.2.2.2 o (by omega)).1.s c hc; constructor <;> (show _ ≤ _) <;> (first | (rw [show ((M1, w.2) : jS).1 (m + (18 + o)) (17 + c) = (zL L o).1 (17 + c) from e]; omega))) (by omega)) (fun v9 w9 h9 => ?_)
                              obtain ⟨h9, yw, rfl, hyw, hy1⟩ := h9
                              subst w9
                              show jWp 192 240 [some (jO m), some (jI (d1 : Int)), some (jI a), some (jI (vals + 0)), some (jI brk), some (jJ mo), none, some (jI (o : Int)), some (jI (i : Int)), some (jI s), some (jI (j : Int))] [jI yw, jI brk] 0 0 (M1, w.2) _
                              refine jWp.ifz (pc' := 243) mt rfl rfl (b32_id (by omega) (by omega)) (fun h27 => ?_) (fun h27 => ?_)
                              · have h27 : yw = 0 := h27
                                refine jWp.blk mt 5 ?_
                                show jWp 192 72 [some (jO m), some (jI (d1 : Int)), some (jI a), some (jI (vals + 0)), some (jI (brk + 1)), some (jJ mo), none, some (jI (o : Int)), some (jI ((i : Int) + 1)), some (jI s), some (jI (j : Int))] [] 0 0 (M1, w.2) _
                                refine jWp.le (l := [some (jO m), some (jI (d1 : Int)), some (jI a), some (jI (vals + 0)), some (jI (brk + 1)), some (jJ mo), none, some (jI (o : Int)), some (jI ((i : Int) + 1)), none, none]) (by exact ⟨rfl, rfl, rfl, rfl, rfl, rfl, rfl, rfl, trivial⟩) ?_
                                exact ih11 (i + 1) _ _ (by omega) (by rcases hs with ⟨e, h⟩ | ⟨e, h⟩; exact absurd e (by omega); rw [zvi_f (fun g => h (zni_e (by omega) g)), hv]; omega) (by omega) (fun g => by have g1 := hbk (fun x y hx hy hz => g x y hx hy (by omega)); have g2 := g o i (by omega) (by omega) (by omega); have g3 := hy1 (((hRL.2 o (by omega)).1 (25 + i) (by omega)).trans g2); omega) (by omega)
                              · have h27 : yw ≠ 0 := h27
                                refine jWp.blk mt 6 ?_
                                show jWp 192 72 [some (jO m), some (jI (d1 : Int)), some (jI a), some (jI (vals + 0)), some (jI (brk + 0)), some (jJ mo), none, some (jI (o : Int)), some (jI ((i : Int) + 1)), some (jI s), some (jI (j : Int))] [] 0 0 (M1, w.2) _
                                refine jWp.le (l := [some (jO m), some (jI (d1 : Int)), some (jI a), some (jI (vals + 0)), some (jI (brk + 0)), some (jJ mo), none, some (jI (o : Int)), some (jI ((i : Int) + 1)), none, none]) (by exact ⟨rfl, rfl, rfl, rfl, rfl, rfl, rfl, rfl, trivial⟩) ?_
                                exact ih11 (i + 1) _ _ (by omega) (by rcases hs with ⟨e, h⟩ | ⟨e, h⟩; exact absurd e (by omega); rw [zvi_f (fun g => h (zni_e (by omega) g)), hv]; omega) (by omega) (fun g => by have g1 := hbk (fun x y hx hy hz => g x y hx hy (by omega)); have g2 := g o i (by omega) (by omega) (by omega); have g3 := hy1 (((hRL.2 o (by omega)).1 (25 + i) (by omega)).trans g2); omega) (by omega)
                            · have h26 : s ≠ 0 := h26
                              refine jWp.blk mt 6 ?_
                              show _ ∧ jWp 192 229 [some (jO m), some (jI (d1 : Int)), some (jI a), some (jI (vals + 1)), some (jI brk), some (jJ mo), none, some (jI (o : Int)), some (jI (i : Int)), some (jI s), some (jI (j : Int))] [jO m, jI brk] 0 0 (M1, w.2) _
                              refine ⟨rfl, ?_⟩
                              refine jWp.getR (pc' := 232) (o := (m + 17)) mt rfl rfl (jtg hW.K0) hW.R17 ?_
                              show jWp 192 232 [some (jO m), some (jI (d1 : Int)), some (jI a), some (jI (vals + 1)), some (jI brk), some (jJ mo), none, some (jI (o : Int)), some (jI (i : Int)), some (jI s), some (jI (j : Int))] [jO (m + 17), jI brk] 0 0 (M1, w.2) _
                              refine jWp.blk mt 1 ?_
                              show jWp 192 234 [some (jO m), some (jI (d1 : Int)), some (jI a), some (jI (vals + 1)), some (jI brk), some (jJ mo), none, some (jI (o : Int)), some (jI (i : Int)), some (jI s), some (jI (j : Int))] [jI (o : Int), jO (m + 17), jI brk] 0 0 (M1, w.2) _
                              refine jWp.aald (pc' := 235) (j := o) (o := (m + (18 + o))) mt rfl rfl (jrg hW.K17 (by decide) (by decide)) (b32_id (by omega) (by omega)) (jlt hW.K17 (by omega)) (hW.RFo o (by omega)) ?_
                              show jWp 192 235 [some (jO m), some (jI (d1 : Int)), some (jI a), some (jI (vals + 1)), some (jI brk), some (jJ mo), none, some (jI (o : Int)), some (jI (i : Int)), some (jI s), some (jI (j : Int))] [jO (m + (18 + o)), jI brk] 0 0 (M1, w.2) _
                              refine jWp.blk mt 1 ?_
                              show jWp 192 237 [some (jO m), some (jI (d1 : Int)), some (jI a), some (jI (vals + 1)), some (jI brk), some (jJ mo), none, some (jI (o : Int)), some (jI (i : Int)), some (jI s), some (jI (j : Int))] [jI (i : Int), jO (m + (18 + o)), jI brk] 0 0 (M1, w.2) _
                              refine jWp.calls (as := [jO (m + (18 + o)), jI (i : Int)]) (rest := [jI brk]) mt rfl rfl rfl rfl ?_
                              refine jCall.mono (E_isWhole (w := (M1, w.2)) (q := m + (18 + o)) (n := n) (i := i) (hW.KF o (by omega)) (zeq_S (hRL.2 o (by omega)).1 (hBL.2.2.2 o (by omega)).1.S) (fun c hc => by have e := (hRL.2 o (by omega)).1 (17 + c) (by omega); have g := (hBL.2.2.2 o (by omega)).1.s c hc; constructor <;> (show _ ≤ _) <;> (first | (rw [show ((M1, w.2) : jS).1 (m + (18 + o)) (17 + c) = (zL L o).1 (17 + c) from e]; omega))) (by omega)) (fun v9 w9 h9 => ?_)
                              obtain ⟨h9, yw, rfl, hyw, hy1⟩ := h9
                              subst w9
                              show jWp 192 240 [some (jO m), some (jI (d1 : Int)), some (jI a), some (jI (vals + 1)), some (jI brk), some (jJ mo), none, some (jI (o : Int)), some (jI (i : Int)), some (jI s), some (jI (j : Int))] [jI yw, jI brk] 0 0 (M1, w.2) _
                              refine jWp.ifz (pc' := 243) mt rfl rfl (b32_id (by omega) (by omega)) (fun h28 => ?_) (fun h28 => ?_)
                              · have h28 : yw = 0 := h28
                                refine jWp.blk mt 5 ?_
                                show jWp 192 72 [some (jO m), some (jI (d1 : Int)), some (jI a), some (jI (vals + 1)), some (jI (brk + 1)), some (jJ mo), none, some (jI (o : Int)), some (jI ((i : Int) + 1)), some (jI s), some (jI (j : Int))] [] 0 0 (M1, w.2) _
                                refine jWp.le (l := [some (jO m), some (jI (d1 : Int)), some (jI a), some (jI (vals + 1)), some (jI (brk + 1)), some (jJ mo), none, some (jI (o : Int)), some (jI ((i : Int) + 1)), none, none]) (by exact ⟨rfl, rfl, rfl, rfl, rfl, rfl, rfl, rfl, trivial⟩) ?_
                                exact ih11 (i + 1) _ _ (by omega) (by rcases hs with ⟨e, h⟩ | ⟨e, h⟩; rw [zvi_t (zni_e (by omega) h), hv]; omega; exact absurd e (by omega)) (by omega) (fun g => by have g1 := hbk (fun x y hx hy hz => g x y hx hy (by omega)); have g2 := g o i (by omega) (by omega) (by omega); have g3 := hy1 (((hRL.2 o (by omega)).1 (25 + i) (by omega)).trans g2); omega) (by omega)
                              · have h28 : yw ≠ 0 := h28
                                refine jWp.blk mt 6 ?_
                                show jWp 192 72 [some (jO m), some (jI (d1 : Int)), some (jI a), some (jI (vals + 1)), some (jI (brk + 0)), some (jJ mo), none, some (jI (o : Int)), some (jI ((i : Int) + 1)), some (jI s), some (jI (j : Int))] [] 0 0 (M1, w.2) _
                                refine jWp.le (l := [some (jO m), some (jI (d1 : Int)), some (jI a), some (jI (vals + 1)), some (jI (brk + 0)), some (jJ mo), none, some (jI (o : Int)), some (jI ((i : Int) + 1)), none, none]) (by exact ⟨rfl, rfl, rfl, rfl, rfl, rfl, rfl, rfl, trivial⟩) ?_
                                exact ih11 (i + 1) _ _ (by omega) (by rcases hs with ⟨e, h⟩ | ⟨e, h⟩; rw [zvi_t (zni_e (by omega) h), hv]; omega; exact absurd e (by omega)) (by omega) (fun g => by have g1 := hbk (fun x y hx hy hz => g x y hx hy (by omega)); have g2 := g o i (by omega) (by omega) (by omega); have g3 := hy1 (((hRL.2 o (by omega)).1 (25 + i) (by omega)).trans g2); omega) (by omega)
                          · have h25 : (j : Int) < (i : Int) := h25
                            refine jWp.blk mt 2 ?_
                            show _ ∧ jWp 192 140 [some (jO m), some (jI (d1 : Int)), some (jI a), some (jI vals), some (jI brk), some (jJ mo), none, some (jI (o : Int)), some (jI (i : Int)), some (jI s), some (jI (j : Int))] [jO m, jI s] 0 0 (M1, w.2) _
                            refine ⟨rfl, ?_⟩
                            refine jWp.getR (pc' := 143) (o := (m + 17)) mt rfl rfl (jtg hW.K0) hW.R17 ?_
                            show jWp 192 143 [some (jO m), some (jI (d1 : Int)), some (jI a), some (jI vals), some (jI brk), some (jJ mo), none, some (jI (o : Int)), some (jI (i : Int)), some (jI s), some (jI (j : Int))] [jO (m + 17), jI s] 0 0 (M1, w.2) _
                            refine jWp.blk mt 1 ?_
                            show jWp 192 145 [some (jO m), some (jI (d1 : Int)), some (jI a), some (jI vals), some (jI brk), some (jJ mo), none, some (jI (o : Int)), some (jI (i : Int)), some (jI s), some (jI (j : Int))] [jI (o : Int), jO (m + 17), jI s] 0 0 (M1, w.2) _
                            refine jWp.aald (pc' := 146) (j := o) (o := (m + (18 + o))) mt rfl rfl (jrg hW.K17 (by decide) (by decide)) (b32_id (by omega) (by omega)) (jlt hW.K17 (by omega)) (hW.RFo o (by omega)) ?_
                            show jWp 192 146 [some (jO m), some (jI (d1 : Int)), some (jI a), some (jI vals), some (jI brk), some (jJ mo), none, some (jI (o : Int)), some (jI (i : Int)), some (jI s), some (jI (j : Int))] [jO (m + (18 + o)), jI s] 0 0 (M1, w.2) _
                            refine jWp.blk mt 3 ?_
                            show jWp 192 151 [some (jO m), some (jI (d1 : Int)), some (jI a), some (jI vals), some (jI brk), some (jJ mo), none, some (jI (o : Int)), some (jI (i : Int)), some (jI s), some (jI (j : Int))] [jI (21 + (j : Int)), jO (m + (18 + o)), jI s] 0 0 (M1, w.2) _
                            refine jWp.lald (pc' := 152) (j := (21 + j)) mt rfl rfl (jtg (hW.KF _ (by omega))) (by rw [b32_id (by omega) (by omega)]; omega) (jlt (hW.KF _ (by omega)) (by omega)) ?_
                            rw [show ((M1, w.2).1 (m + (18 + o)) (21 + j)) = ((zL L o).1 (21 + j)) from ((hRL.2 o (by omega)).1 (21 + j) (by omega))]
                            show jWp 192 152 [some (jO m), some (jI (d1 : Int)), some (jI a), some (jI vals), some (jI brk), some (jJ mo), none, some (jI (o : Int)), some (jI (i : Int)), some (jI s), some (jI (j : Int))] [jJ ((zL L o).1 (21 + j)), jI s] 0 0 (M1, w.2) _
                            refine jWp.blk mt 1 ?_
                            show _ ∧ jWp 192 153 [some (jO m), some (jI (d1 : Int)), some (jI a), some (jI vals), some (jI brk), some (jJ mo), none, some (jI (o : Int)), some (jI (i : Int)), some (jI s), some (jI (j : Int))] [jO m, jJ ((zL L o).1 (21 + j)), jI s] 0 0 (M1, w.2) _
                            refine ⟨rfl, ?_⟩
                            refine jWp.getR (pc' := 156) (o := (m + 17)) mt rfl rfl (jtg hW.K0) hW.R17 ?_
                            show jWp 192 156 [some (jO m), some (jI (d1 : Int)), some (jI a), some (jI vals), some (jI brk), some (jJ mo), none, some (jI (o : Int)), some (jI (i : Int)), some (jI s), some (jI (j : Int))] [jO (m + 17), jJ ((zL L o).1 (21 + j)), jI s] 0 0 (M1, w.2) _
                            refine jWp.blk mt 1 ?_
                            show jWp 192 158 [some (jO m), some (jI (d1 : Int)), some (jI a), some (jI vals), some (jI brk), some (jJ mo), none, some (jI (o : Int)), some (jI (i : Int)), some (jI s), some (jI (j : Int))] [jI (o : Int), jO (m + 17), jJ ((zL L o).1 (21 + j)), jI s] 0 0 (M1, w.2) _
                            refine jWp.aald (pc' := 159) (j := o) (o := (m + (18 + o))) mt rfl rfl (jrg hW.K17 (by decide) (by decide)) (b32_id (by omega) (by omega)) (jlt hW.K17 (by omega)) (hW.RFo o (by omega)) ?_
                            show jWp 192 159 [some (jO m), some (jI (d1 : Int)), some (jI a), some (jI vals), some (jI brk), some (jJ mo), none, some (jI (o : Int)), some (jI (i : Int)), some (jI s), some (jI (j : Int))] [jO (m + (18 + o)), jJ ((zL L o).1 (21 + j)), jI s] 0 0 (M1, w.2) _
                            refine jWp.blk mt 3 ?_
                            show jWp 192 164 [some (jO m), some (jI (d1 : Int)), some (jI a), some (jI vals), some (jI brk), some (jJ mo), none, some (jI (o : Int)), some (jI (i : Int)), some (jI s), some (jI (j : Int))] [jI (21 + (i : Int)), jO (m + (18 + o)), jJ ((zL L o).1 (21 + j)), jI s] 0 0 (M1, w.2) _
                            refine jWp.lald (pc' := 165) (j := (21 + i)) mt rfl rfl (jtg (hW.KF _ (by omega))) (by rw [b32_id (by omega) (by omega)]; omega) (jlt (hW.KF _ (by omega)) (by omega)) ?_
                            rw [show ((M1, w.2).1 (m + (18 + o)) (21 + i)) = ((zL L o).1 (21 + i)) from ((hRL.2 o (by omega)).1 (21 + i) (by omega))]
                            show jWp 192 165 [some (jO m), some (jI (d1 : Int)), some (jI a), some (jI vals), some (jI brk), some (jJ mo), none, some (jI (o : Int)), some (jI (i : Int)), some (jI s), some (jI (j : Int))] [jJ ((zL L o).1 (21 + i)), jJ ((zL L o).1 (21 + j)), jI s] 0 0 (M1, w.2) _
                            refine jWp.lcmp (pc' := 169) mt rfl rfl rfl (b64_id (by omega) (by omega)) (b64_id (by omega) (by omega)) (fun h29 => ?_) (fun h29 => ?_)
                            · have h29 : ((zL L o).1 (21 + j)) ≠ ((zL L o).1 (21 + i)) := h29
                              refine jWp.blk mt 6 ?_
                              show jWp 192 130 [some (jO m), some (jI (d1 : Int)), some (jI a), some (jI vals), some (jI brk), some (jJ mo), none, some (jI (o : Int)), some (jI (i : Int)), some (jI (jand s 1)), some (jI ((j : Int) + 1))] [] 0 0 (M1, w.2) _
                              refine jWp.le (l := [some (jO m), some (jI (d1 : Int)), some (jI a), some (jI vals), some (jI brk), some (jJ mo), none, some (jI (o : Int)), some (jI (i : Int)), some (jI (jand s 1)), some (jI ((j : Int) + 1))]) (by exact ⟨rfl, rfl, rfl, rfl, rfl, rfl, rfl, rfl, rfl, rfl, trivial⟩) ?_
                              exact ih24 (j + 1) (jand s 1) (by omega) (by have hd : ¬ ((zL L o).1 (21 + j) = (zL L o).1 (21 + i) ∧ (zL L o).1 (25 + j) = (zL L o).1 (25 + i)) := (fun g => by first | exact absurd g.1 (by assumption) | exact absurd g.2 (by assumption)); rcases hs with ⟨rfl, h⟩ | ⟨rfl, h⟩; exact Or.inl ⟨by decide, h.1, fun y hy => by rcases Nat.lt_or_ge y j with e | e; exact h.2 y e; rw [show y = j by omega]; exact hd⟩; exact Or.inr ⟨by decide, fun g => h ⟨g.1, fun y hy => g.2 y (by omega)⟩⟩) (by omega)
                            · have h29 : ((zL L o).1 (21 + j)) = ((zL L o).1 (21 + i)) := h29
                              refine jWp.blk mt 1 ?_
                              show _ ∧ jWp 192 170 [some (jO m), some (jI (d1 : Int)), some (jI a), some (jI vals), some (jI brk), some (jJ mo), none, some (jI (o : Int)), some (jI (i : Int)), some (jI s), some (jI (j : Int))] [jO m, jI s] 0 0 (M1, w.2) _
                              refine ⟨rfl, ?_⟩
                              refine jWp.getR (pc' := 173) (o := (m + 17)) mt rfl rfl (jtg hW.K0) hW.R17 ?_
                              show jWp 192 173 [some (jO m), some (jI (d1 : Int)), some (jI a), some (jI vals), some (jI brk), some (jJ mo), none, some (jI (o : Int)), some (jI (i : Int)), some (jI s), some (jI (j : Int))] [jO (m + 17), jI s] 0 0 (M1, w.2) _
                              refine jWp.blk mt 1 ?_
                              show jWp 192 175 [some (jO m), some (jI (d1 : Int)), some (jI a), some (jI vals), some (jI brk), some (jJ mo), none, some (jI (o : Int)), some (jI (i : Int)), some (jI s), some (jI (j : Int))] [jI (o : Int), jO (m + 17), jI s] 0 0 (M1, w.2) _
                              refine jWp.aald (pc' := 176) (j := o) (o := (m + (18 + o))) mt rfl rfl (jrg hW.K17 (by decide) (by decide)) (b32_id (by omega) (by omega)) (jlt hW.K17 (by omega)) (hW.RFo o (by omega)) ?_
                              show jWp 192 176 [some (jO m), some (jI (d1 : Int)), some (jI a), some (jI vals), some (jI brk), some (jJ mo), none, some (jI (o : Int)), some (jI (i : Int)), some (jI s), some (jI (j : Int))] [jO (m + (18 + o)), jI s] 0 0 (M1, w.2) _
                              refine jWp.blk mt 3 ?_
                              show jWp 192 181 [some (jO m), some (jI (d1 : Int)), some (jI a), some (jI vals), some (jI brk), some (jJ mo), none, some (jI (o : Int)), some (jI (i : Int)), some (jI s), some (jI (j : Int))] [jI (25 + (j : Int)), jO (m + (18 + o)), jI s] 0 0 (M1, w.2) _
                              refine jWp.lald (pc' := 182) (j := (25 + j)) mt rfl rfl (jtg (hW.KF _ (by omega))) (by rw [b32_id (by omega) (by omega)]; omega) (jlt (hW.KF _ (by omega)) (by omega)) ?_
                              rw [show ((M1, w.2).1 (m + (18 + o)) (25 + j)) = ((zL L o).1 (25 + j)) from ((hRL.2 o (by omega)).1 (25 + j) (by omega))]
                              show jWp 192 182 [some (jO m), some (jI (d1 : Int)), some (jI a), some (jI vals), some (jI brk), some (jJ mo), none, some (jI (o : Int)), some (jI (i : Int)), some (jI s), some (jI (j : Int))] [jJ ((zL L o).1 (25 + j)), jI s] 0 0 (M1, w.2) _
                              refine jWp.blk mt 1 ?_
                              show _ ∧ jWp 192 183 [some (jO m), some (jI (d1 : Int)), some (jI a), some (jI vals), some (jI brk), some (jJ mo), none, some (jI (o : Int)), some (jI (i : Int)), some (jI s), some (jI (j : Int))] [jO m, jJ ((zL L o).1 (25 + j)), jI s] 0 0 (M1, w.2) _
                              refine ⟨rfl, ?_⟩
                              refine jWp.getR (pc' := 186) (o := (m + 17)) mt rfl rfl (jtg hW.K0) hW.R17 ?_
                              show jWp 192 186 [some (jO m), some (jI (d1 : Int)), some (jI a), some (jI vals), some (jI brk), some (jJ mo), none, some (jI (o : Int)), some (jI (i : Int)), some (jI s), some (jI (j : Int))] [jO (m + 17), jJ ((zL L o).1 (25 + j)), jI s] 0 0 (M1, w.2) _
                              refine jWp.blk mt 1 ?_
                              show jWp 192 188 [some (jO m), some (jI (d1 : Int)), some (jI a), some (jI vals), some (jI brk), some (jJ mo), none, some (jI (o : Int)), some (jI (i : Int)), some (jI s), some (jI (j : Int))] [jI (o : Int), jO (m + 17), jJ ((zL L o).1 (25 + j)), jI s] 0 0 (M1, w.2) _
                              refine jWp.aald (pc' := 189) (j := o) (o := (m + (18 + o))) mt rfl rfl (jrg hW.K17 (by decide) (by decide)) (b32_id (by omega) (by omega)) (jlt hW.K17 (by omega)) (hW.RFo o (by omega)) ?_
                              show jWp 192 189 [some (jO m), some (jI (d1 : Int)), some (jI a), some (jI vals), some (jI brk), some (jJ mo), none, some (jI (o : Int)), some (jI (i : Int)), some (jI s), some (jI (j : Int))] [jO (m + (18 + o)), jJ ((zL L o).1 (25 + j)), jI s] 0 0 (M1, w.2) _
                              refine jWp.blk mt 3 ?_
                              show jWp 192 194 [some (jO m), some (jI (d1 : Int)), some (jI a), some (jI vals), some (jI brk), some (jJ mo), none, some (jI (o : Int)), some (jI (i : Int)), some (jI s), some (jI (j : Int))] [jI (25 + (i : Int)), jO (m + (18 + o)), jJ ((zL L o).1 (25 + j)), jI s] 0 0 (M1, w.2) _
                              refine jWp.lald (pc' := 195) (j := (25 + i)) mt rfl rfl (jtg (hW.KF _ (by omega))) (by rw [b32_id (by omega) (by omega)]; omega) (jlt (hW.KF _ (by omega)) (by omega)) ?_
                              rw [show ((M1, w.2).1 (m + (18 + o)) (25 + i)) = ((zL L o).1 (25 + i)) from ((hRL.2 o (by omega)).1 (25 + i) (by omega))]
                              show jWp 192 195 [some (jO m), some (jI (d1 : Int)), some (jI a), some (jI vals), some (jI brk), some (jJ mo), none, some (jI (o : Int)), some (jI (i : Int)), some (jI s), some (jI (j : Int))] [jJ ((zL L o).1 (25 + i)), jJ ((zL L o).1 (25 + j)), jI s] 0 0 (M1, w.2) _
                              refine jWp.lcmp (pc' := 199) mt rfl rfl rfl (b64_id (by omega) (by omega)) (b64_id (by omega) (by omega)) (fun h30 => ?_) (fun h30 => ?_)
                              · have h30 : ((zL L o).1 (25 + j)) = ((zL L o).1 (25 + i)) := h30
                                refine jWp.blk mt 5 ?_
                                show jWp 192 130 [some (jO m), some (jI (d1 : Int)), some (jI a), some (jI vals), some (jI brk), some (jJ mo), none, some (jI (o : Int)), some (jI (i : Int)), some (jI (jand s 0)), some (jI ((j : Int) + 1))] [] 0 0 (M1, w.2) _
                                refine jWp.le (l := [some (jO m), some (jI (d1 : Int)), some (jI a), some (jI vals), some (jI brk), some (jJ mo), none, some (jI (o : Int)), some (jI (i : Int)), some (jI (jand s 0)), some (jI ((j : Int) + 1))]) (by exact ⟨rfl, rfl, rfl, rfl, rfl, rfl, rfl, rfl, rfl, rfl, trivial⟩) ?_
                                exact ih24 (j + 1) (jand s 0) (by omega) (Or.inr ⟨by rcases hs with ⟨rfl, h⟩ | ⟨rfl, h⟩ <;> decide, fun g => g.2 j (by omega) ⟨by assumption, by assumption⟩⟩) (by omega)
                              · have h30 : ((zL L o).1 (25 + j)) ≠ ((zL L o).1 (25 + i)) := h30
                                refine jWp.blk mt 6 ?_
                                show jWp 192 130 [some (jO m), some (jI (d1 : Int)), some (jI a), some (jI vals), some (jI brk), some (jJ mo), none, some (jI (o : Int)), some (jI (i : Int)), some (jI (jand s 1)), some (jI ((j : Int) + 1))] [] 0 0 (M1, w.2) _
                                refine jWp.le (l := [some (jO m), some (jI (d1 : Int)), some (jI a), some (jI vals), some (jI brk), some (jJ mo), none, some (jI (o : Int)), some (jI (i : Int)), some (jI (jand s 1)), some (jI ((j : Int) + 1))]) (by exact ⟨rfl, rfl, rfl, rfl, rfl, rfl, rfl, rfl, rfl, rfl, trivial⟩) ?_
                                exact ih24 (j + 1) (jand s 1) (by omega) (by have hd : ¬ ((zL L o).1 (21 + j) = (zL L o).1 (21 + i) ∧ (zL L o).1 (25 + j) = (zL L o).1 (25 + i)) := (fun g => by first | exact absurd g.1 (by assumption) | exact absurd g.2 (by assumption)); rcases hs with ⟨rfl, h⟩ | ⟨rfl, h⟩; exact Or.inl ⟨by decide, h.1, fun y hy => by rcases Nat.lt_or_ge y j with e | e; exact h.2 y e; rw [show y = j by omega]; exact hd⟩; exact Or.inr ⟨by decide, fun g => h ⟨g.1, fun y hy => g.2 y (by omega)⟩⟩) (by omega)
                      refine jWp.le (l := [some (jO m), some (jI (d1 : Int)), some (jI a), some (jI vals), some (jI brk), some (jJ mo), none, some (jI (o : Int)), some (jI (i : Int)), some (jI 1), some (jI 0)]) (by exact ⟨rfl, rfl, rfl, rfl, rfl, rfl, rfl, rfl, rfl, rfl, trivial⟩) ?_
                      exact lp23 _ 0 1 (by omega) (Or.inl ⟨rfl, by assumption, fun y hy => absurd hy (by omega)⟩) (Nat.lt_succ_self _)
              refine jWp.le (l := [some (jO m), some (jI (d1 : Int)), some (jI a), some (jI vals), some (jI brk), some (jJ mo), none, some (jI (o : Int)), some (jI 0), none, none]) (by exact ⟨rfl, rfl, rfl, rfl, rfl, rfl, rfl, rfl, trivial⟩) ?_
              exact lp10 _ 0 _ _ (by omega) (by rw [hv]; show _ = _ + (0 : Int); omega) hbb (fun g => hbk (fun x y hx hy => g x y (by omega) hy (Or.inl hx))) (Nat.lt_succ_self _)
        refine jWp.le (l := [some (jO m), some (jI (d1 : Int)), some (jI a), some (jI 0), some (jI 0), some (jJ (-1)), none, some (jI 0), none, none, none]) (by exact ⟨rfl, rfl, rfl, rfl, rfl, rfl, rfl, trivial⟩) ?_
        exact lp4 _ 0 0 0 (-1) (by omega) rfl rfl (by omega) (fun _ => rfl) (Nat.lt_succ_self _)
      · have h3 : ¬ (0 ≤ a ∧ a ≤ 3) := h3
        show jWp 192 32 [some (jO m), some (jI d), some (jI a), none, none, none, none, none, none, none, none] [jI 0] 0 0 w _
        refine jWp.ifc (b := false) mt rfl (by decide) rfl ?_
        show jWp 192 35 [some (jO m), some (jI d), some (jI a), none, none, none, none, none, none, none, none] [] 0 0 w _
        refine jWp.blk mt 2 ?_
        show _ ∧ jWp 192 38 [some (jO m), some (jI d), some (jI a), none, none, none, none, none, none, none, none] [jI (-2), jO m] 0 0 w _
        refine ⟨rfl, ?_⟩
        refine jWp.callv (as := [jO m, jI (-2)]) (rest := []) mt rfl rfl rfl ⟨rfl, jtg hW.K0⟩ ?_
        refine jCall.mono (E_refuses (w := w) (j := 2) hW (by decide) (by decide)) (fun v9 w9 h9 => ?_)
        obtain ⟨rfl, h9⟩ := h9
        subst h9
        show jWp 192 41 [some (jO m), some (jI d), some (jI a), none, none, none, none, none, none, none, none] [jI (-2)] 0 0 (jW w (m + 3) 2 ((w.1 (m + 3) 2) + 1)) _
        refine jWp.ireti mt rfl ⟨rfl, rfl⟩ rfl ?_
        refine ⟨fun c0 => ?_, fun c0 c1 => ?_, fun c0 c1 c2 => ?_, fun c0 c1 c2 => ?_⟩
        all_goals first
        | (exfalso; omega)
        | exact ⟨rfl, rfl⟩
    · have h2 : 4 < d := h2
      refine jWp.blk mt 2 ?_
      show _ ∧ jWp 192 19 [some (jO m), some (jI d), some (jI a), none, none, none, none, none, none, none, none] [jI (-6), jO m] 0 0 w _
      refine ⟨rfl, ?_⟩
      refine jWp.callv (as := [jO m, jI (-6)]) (rest := []) mt rfl rfl rfl ⟨rfl, jtg hW.K0⟩ ?_
      refine jCall.mono (E_refuses (w := w) (j := 6) hW (by decide) (by decide)) (fun v9 w9 h9 => ?_)
      obtain ⟨rfl, h9⟩ := h9
      subst h9
      show jWp 192 22 [some (jO m), some (jI d), some (jI a), none, none, none, none, none, none, none, none] [jI (-6)] 0 0 (jW w (m + 3) 6 ((w.1 (m + 3) 6) + 1)) _
      refine jWp.ireti mt rfl ⟨rfl, rfl⟩ rfl ?_
      refine ⟨fun c0 => ?_, fun c0 c1 => ?_, fun c0 c1 c2 => ?_, fun c0 c1 c2 => ?_⟩
      all_goals first
      | (exfalso; omega)
      | exact ⟨rfl, rfl⟩
  · have h1 : d < 0 := h1
    refine jWp.blk mt 2 ?_
    show _ ∧ jWp 192 7 [some (jO m), some (jI d), some (jI a), none, none, none, none, none, none, none, none] [jI (-4), jO m] 0 0 w _
    refine ⟨rfl, ?_⟩
    refine jWp.callv (as := [jO m, jI (-4)]) (rest := []) mt rfl rfl rfl ⟨rfl, jtg hW.K0⟩ ?_
    refine jCall.mono (E_refuses (w := w) (j := 4) hW (by decide) (by decide)) (fun v9 w9 h9 => ?_)
    obtain ⟨rfl, h9⟩ := h9
    subst h9
    show jWp 192 10 [some (jO m), some (jI d), some (jI a), none, none, none, none, none, none, none, none] [jI (-4)] 0 0 (jW w (m + 3) 4 ((w.1 (m + 3) 4) + 1)) _
    refine jWp.ireti mt rfl ⟨rfl, rfl⟩ rfl ?_
    refine ⟨fun c0 => ?_, fun c0 c1 => ?_, fun c0 c1 c2 => ?_, fun c0 c1 c2 => ?_⟩
    all_goals first
    | (exfalso; omega)
    | exact ⟨rfl, rfl⟩
end
