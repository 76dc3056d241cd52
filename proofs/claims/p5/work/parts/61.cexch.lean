theorem zxb_s {f g : Nat → Int} {k i j : Nat} (h1 : f (4 * i + j) = g (4 * i + j)) (h2 : f (4 * i + k) = g (4 * i + k)) (h3 : f (4 * k + j) = g (4 * k + j)) : zxb f k i j = zxb g k i j := by
  unfold zxb
  rw [h1, h2, h3]
theorem zxe_b {f : Nat → Int} {k e : Nat} (hk : k < 4) (hb : ∀ e, e < 16 → -9 ≤ f e ∧ f e ≤ 9) (he : e < 16) (hx : ∀ i j, i < 4 → j < 4 → -9 ≤ zxb f k i j ∧ zxb f k i j ≤ 9) : -9 ≤ zxe f k e ∧ zxe f k e ≤ 9 := hx _ _ (by omega) (by omega)
/-- a letter more in a table that is told by places -/
theorem zif_1 {C D : Prop} {dC : Decidable C} {dD : Decidable D} {a b x : Int} (h : x = @ite Int C dC a b) (hc : C ↔ D) : x = @ite Int D dD a b := by
  rw [h]
  by_cases c : C
  · rw [if_pos c, if_pos (hc.mp c)]
  · rw [if_neg c, if_neg (fun d => c (hc.mpr d))]
set_option maxHeartbeats 4000000 in
set_option maxRecDepth 20000 in
theorem C_table0 {w : jS} {s sc n : Nat} (hks : w.2.1 s = (6, 0)) (hkc : w.2.1 sc = (100, 44)) (hrc : w.2.2.1 s 1 = some sc) (hn0 : w.1 s 0 = (n : Int)) (hn4 : n ≤ 4) {k : Nat} (hk : k < n) (hk4 : k < 4) (hb : ∀ e, e < 16 → -9 ≤ w.1 sc (8 + e) ∧ w.1 sc (8 + e) ≤ 9) (hkk : w.1 sc (8 + (4 * k + k)) = 0) (hx9 : ∀ a b, a < 4 → b < 4 → -9 ≤ zxb (fun e => w.1 sc (8 + e)) k a b ∧ zxb (fun e => w.1 sc (8 + e)) k a b ≤ 9) : jCall 60 [jO s, jI (k : Int)] w (fun v w1 => v = none ∧ ∃ T, w1 = kA w sc T ∧ ∀ e, T e = if 8 ≤ e ∧ e < 24 ∧ (e - 8) / 4 < n ∧ (e - 8) % 4 < n then zxe (fun e => w.1 sc (8 + e)) k (e - 8) else w.1 sc e) := by
  have mt : jtb 60 = jT60 := rfl
  have hsc : s ≠ sc := kne hks hkc (by decide)
  show jWp 60 0 [some (jO s), some (jI (k : Int)), none, none] [] 0 0 w _
  refine jWp.blk mt 2 ?_
  show jWp 60 2 [some (jO s), some (jI (k : Int)), some (jI 0), none] [] 0 0 w _
  have lp1 : ∀ (N : Nat) (i : Nat) (T : Nat → Int) (hi : i ≤ n) (hT : ∀ e, T e = if 8 ≤ e ∧ e < 24 ∧ (e - 8) / 4 < n ∧ (e - 8) % 4 < n ∧ ((e - 8) / 4 < i ∨ ((e - 8) / 4 = i ∧ (e - 8) % 4 < 0)) ∧ (e - 8) / 4 ≠ k ∧ (e - 8) % 4 ≠ k then zxe (fun e => w.1 sc (8 + e)) k (e - 8) else w.1 sc e), n - i < N → jWp 60 2 [some (jO s), some (jI (k : Int)), some (jI (i : Int)), none] [] 0 0 (kA w sc T) (fun v w1 => v = none ∧ ∃ T, w1 = kA w sc T ∧ ∀ e, T e = if 8 ≤ e ∧ e < 24 ∧ (e - 8) / 4 < n ∧ (e - 8) % 4 < n then zxe (fun e => w.1 sc (8 + e)) k (e - 8) else w.1 sc e) := by
    intro N
    induction N with
    | zero => intro i T hi hT hm; omega
    | succ N ih2 =>
      intro i T hi hT hm
      refine jWp.blk mt 2 ?_
      show _ ∧ jWp 60 4 [some (jO s), some (jI (k : Int)), some (jI (i : Int)), none] [jO s, jI (i : Int)] 0 0 (kA w sc T) _
      refine ⟨rfl, ?_⟩
      refine jWp.getI (pc' := 7) mt rfl rfl (jtg hks) ?_
      rw [show ((kA w sc T).1 s 0) = (n : Int) from (((kA_a (by omega)).trans rfl).trans hn0)]
      show jWp 60 7 [some (jO s), some (jI (k : Int)), some (jI (i : Int)), none] [jI (n : Int), jI (i : Int)] 0 0 (kA w sc T) _
      refine jWp.icmp (pc' := 10) mt rfl rfl (b32_id (by omega) (by omega)) (b32_id (by omega) (by omega)) (fun h3 => ?_) (fun h3 => ?_)
      · have h3 : (n : Int) ≤ (i : Int) := h3
        refine jWp.blk mt 2 ?_
        show jWp 60 57 [some (jO s), some (jI (k : Int)), some (jI 0), none] [] 0 0 (kA w sc T) _
        have lp4 : ∀ (N : Nat) (i : Nat) (T : Nat → Int) (hi : i ≤ n) (hT : ∀ e, T e = if 8 ≤ e ∧ e < 24 ∧ (e - 8) / 4 < n ∧ (e - 8) % 4 < n ∧ (((e - 8) / 4 ≠ k ∧ (e - 8) % 4 ≠ k) ∨ ((e - 8) / 4 < i ∧ (e - 8) % 4 = k) ∨ ((e - 8) / 4 = k ∧ (e - 8) % 4 < i)) then zxe (fun e => w.1 sc (8 + e)) k (e - 8) else w.1 sc e), n - i < N → jWp 60 57 [some (jO s), some (jI (k : Int)), some (jI (i : Int)), none] [] 0 0 (kA w sc T) (fun v w1 => v = none ∧ ∃ T, w1 = kA w sc T ∧ ∀ e, T e = if 8 ≤ e ∧ e < 24 ∧ (e - 8) / 4 < n ∧ (e - 8) % 4 < n then zxe (fun e => w.1 sc (8 + e)) k (e - 8) else w.1 sc e) := by
          intro N
          induction N with
          | zero => intro i T hi hT hm; omega
          | succ N ih5 =>
            intro i T hi hT hm
            refine jWp.blk mt 2 ?_
            show _ ∧ jWp 60 59 [some (jO s), some (jI (k : Int)), some (jI (i : Int)), none] [jO s, jI (i : Int)] 0 0 (kA w sc T) _
            refine ⟨rfl, ?_⟩
            refine jWp.getI (pc' := 62) mt rfl rfl (jtg hks) ?_
            rw [show ((kA w sc T).1 s 0) = (n : Int) from (((kA_a (by omega)).trans rfl).trans hn0)]
            show jWp 60 62 [some (jO s), some (jI (k : Int)), some (jI (i : Int)), none] [jI (n : Int), jI (i : Int)] 0 0 (kA w sc T) _
            refine jWp.icmp (pc' := 65) mt rfl rfl (b32_id (by omega) (by omega)) (b32_id (by omega) (by omega)) (fun h6 => ?_) (fun h6 => ?_)
            · have h6 : (n : Int) ≤ (i : Int) := h6
              refine jWp.vret mt rfl ⟨rfl, rfl⟩ rfl ?_
              exact ⟨rfl, T, rfl, fun e => zif_1 (hT e) (by omega)⟩
            · have h6 : (i : Int) < (n : Int) := h6
              refine jWp.blk mt 6 ?_
              show _ ∧ _ ∧ jWp 60 71 [some (jO s), some (jI (k : Int)), some (jI (i : Int)), none] [jI (k : Int), jI (i : Int), jO s, jI (k : Int), jI (i : Int), jO s] 0 0 (kA w sc T) _
              refine ⟨rfl, rfl, ?_⟩
              refine jWp.callv (as := [jO s, jI (i : Int), jI (k : Int)]) (rest := [jI (k : Int), jI (i : Int), jO s]) mt rfl rfl rfl ⟨rfl, jtg hks⟩ ?_
              refine jCall.mono ((by have h := E_sb (w := (kA w sc T)) (sc := sc) (i := i) (j := k) hks hkc hrc (by omega) (by omega); rw [show (kA w sc T).1 sc (8 + (4 * i + k)) = T (8 + (4 * i + k)) from kA_s] at h; exact h)) (fun v9 w9 h9 => ?_)
              obtain ⟨rfl, h9⟩ := h9
              subst w9
              show jWp 60 74 [some (jO s), some (jI (k : Int)), some (jI (i : Int)), none] [jI (T (8 + (4 * i + k))), jI (k : Int), jI (i : Int), jO s] 0 0 (kA w sc T) _
              refine jWp.blk mt 1 ?_
              show jWp 60 75 [some (jO s), some (jI (k : Int)), some (jI (i : Int)), none] [jI (-(T (8 + (4 * i + k)))), jI (k : Int), jI (i : Int), jO s] 0 0 (kA w sc T) _
              refine jWp.callv (as := [jO s, jI (i : Int), jI (k : Int), jI (-(T (8 + (4 * i + k))))]) (rest := []) mt rfl rfl rfl ⟨rfl, jtg hks⟩ ?_
              refine jCall.mono (E_setB (w := (kA w sc T)) (n := n) (i := i) (j := k) (v := (-(T (8 + (4 * i + k))))) hks hkc hrc (((kA_a (by omega)).trans rfl).trans hn0) hn4 (by omega) (by omega)) (fun v9 w9 h9 => ?_)
              obtain ⟨rfl, h9⟩ := h9
              subst h9
              rw [show jW (kA w sc T) sc (8 + (4 * i + k)) (-(T (8 + (4 * i + k)))) = kA w sc (zset T (8 + (4 * i + k)) (-(T (8 + (4 * i + k))))) from kA_W]
              show jWp 60 78 [some (jO s), some (jI (k : Int)), some (jI (i : Int)), none] [] 0 0 (kA w sc (zset T (8 + (4 * i + k)) (-(T (8 + (4 * i + k)))))) _
              refine jWp.blk mt 6 ?_
              show _ ∧ _ ∧ jWp 60 84 [some (jO s), some (jI (k : Int)), some (jI (i : Int)), none] [jI (i : Int), jI (k : Int), jO s, jI (i : Int), jI (k : Int), jO s] 0 0 (kA w sc (zset T (8 + (4 * i + k)) (-(T (8 + (4 * i + k)))))) _
              refine ⟨rfl, rfl, ?_⟩
              refine jWp.callv (as := [jO s, jI (k : Int), jI (i : Int)]) (rest := [jI (i : Int), jI (k : Int), jO s]) mt rfl rfl rfl ⟨rfl, jtg hks⟩ ?_
              refine jCall.mono ((by have h := E_sb (w := (kA w sc (zset T (8 + (4 * i + k)) (-(T (8 + (4 * i + k))))))) (sc := sc) (i := k) (j := i) hks hkc hrc (by omega) (by omega); rw [show (kA w sc (zset T (8 + (4 * i + k)) (-(T (8 + (4 * i + k)))))).1 sc (8 + (4 * k + i)) = (zset T (8 + (4 * i + k)) (-(T (8 + (4 * i + k))))) (8 + (4 * k + i)) from kA_s] at h; exact h)) (fun v9 w9 h9 => ?_)
              obtain ⟨rfl, h9⟩ := h9
              subst w9
              show jWp 60 87 [some (jO s), some (jI (k : Int)), some (jI (i : Int)), none] [jI ((zset T (8 + (4 * i + k)) (-(T (8 + (4 * i + k))))) (8 + (4 * k + i))), jI (i : Int), jI (k : Int), jO s] 0 0 (kA w sc (zset T (8 + (4 * i + k)) (-(T (8 + (4 * i + k)))))) _
              refine jWp.blk mt 1 ?_
              show jWp 60 88 [some (jO s), some (jI (k : Int)), some (jI (i : Int)), none] [jI (-((zset T (8 + (4 * i + k)) (-(T (8 + (4 * i + k))))) (8 + (4 * k + i)))), jI (i : Int), jI (k : Int), jO s] 0 0 (kA w sc (zset T (8 + (4 * i + k)) (-(T (8 + (4 * i + k)))))) _
              refine jWp.callv (as := [jO s, jI (k : Int), jI (i : Int), jI (-((zset T (8 + (4 * i + k)) (-(T (8 + (4 * i + k))))) (8 + (4 * k + i))))]) (rest := []) mt rfl rfl rfl ⟨rfl, jtg hks⟩ ?_
              refine jCall.mono (E_setB (w := (kA w sc (zset T (8 + (4 * i + k)) (-(T (8 + (4 * i + k))))))) (n := n) (i := k) (j := i) (v := (-((zset T (8 + (4 * i + k)) (-(T (8 + (4 * i + k))))) (8 + (4 * k + i))))) hks hkc hrc (((kA_a (by omega)).trans rfl).trans hn0) hn4 (by omega) (by omega)) (fun v9 w9 h9 => ?_)
              obtain ⟨rfl, h9⟩ := h9
              subst h9
              rw [show jW (kA w sc (zset T (8 + (4 * i + k)) (-(T (8 + (4 * i + k)))))) sc (8 + (4 * k + i)) (-((zset T (8 + (4 * i + k)) (-(T (8 + (4 * i + k))))) (8 + (4 * k + i)))) = kA w sc (zset (zset T (8 + (4 * i + k)) (-(T (8 + (4 * i + k))))) (8 + (4 * k + i)) (-((zset T (8 + (4 * i + k)) (-(T (8 + (4 * i + k))))) (8 + (4 * k + i))))) from kA_W]
              show jWp 60 91 [some (jO s), some (jI (k : Int)), some (jI (i : Int)), none] [] 0 0 (kA w sc (zset (zset T (8 + (4 * i + k)) (-(T (8 + (4 * i + k))))) (8 + (4 * k + i)) (-((zset T (8 + (4 * i + k)) (-(T (8 + (4 * i + k))))) (8 + (4 * k + i)))))) _
              refine jWp.blk mt 2 ?_
              show jWp 60 57 [some (jO s), some (jI (k : Int)), some (jI ((i : Int) + 1)), none] [] 0 0 (kA w sc (zset (zset T (8 + (4 * i + k)) (-(T (8 + (4 * i + k))))) (8 + (4 * k + i)) (-((zset T (8 + (4 * i + k)) (-(T (8 + (4 * i + k))))) (8 + (4 * k + i)))))) _
              refine jWp.le (l := [some (jO s), some (jI (k : Int)), some (jI ((i : Int) + 1)), none]) (by exact ⟨rfl, rfl, rfl, trivial⟩) ?_
              exact ih5 (i + 1) _ (by omega) (fun e => by
                by_cases e1 : e = 8 + (4 * k + i)
                · subst e1
                  rw [zset_s, if_pos (by omega), show 8 + (4 * k + i) - 8 = 4 * k + i by omega, zxe_at _ _ _ _ (by omega)]
                  unfold zxb
                  rw [if_pos (Or.inl rfl)]
                  by_cases ei : i = k
                  · subst ei
                    rw [zset_s, hT, if_neg (by omega)]
                    show - -(w.1 sc (8 + (4 * i + i))) = -(w.1 sc (8 + (4 * i + i)))
                    rw [hkk]; rfl
                  · rw [zset_n (by omega), hT, if_neg (by omega)]
                · rw [zset_n e1]
                  by_cases e2 : e = 8 + (4 * i + k)
                  · subst e2
                    rw [zset_s, hT, if_neg (by omega), if_pos (by omega), show 8 + (4 * i + k) - 8 = 4 * i + k by omega, zxe_at _ _ _ _ (by omega)]
                    unfold zxb
                    rw [if_pos (Or.inr rfl)]
                  · rw [zset_n e2]; exact zif_1 (hT e) (by omega)) (by omega)
        refine jWp.le (l := [some (jO s), some (jI (k : Int)), some (jI 0), none]) (by exact ⟨rfl, rfl, rfl, trivial⟩) ?_
        exact lp4 _ 0 T (by omega) (fun e => zif_1 (hT e) (by omega)) (Nat.lt_succ_self _)
      · have h3 : (i : Int) < (n : Int) := h3
        refine jWp.blk mt 2 ?_
        show jWp 60 12 [some (jO s), some (jI (k : Int)), some (jI (i : Int)), some (jI 0)] [] 0 0 (kA w sc T) _
        have lp7 : ∀ (N : Nat) (j : Nat) (T : Nat → Int) (hj : j ≤ n) (hT : ∀ e, T e = if 8 ≤ e ∧ e < 24 ∧ (e - 8) / 4 < n ∧ (e - 8) % 4 < n ∧ ((e - 8) / 4 < i ∨ ((e - 8) / 4 = i ∧ (e - 8) % 4 < j)) ∧ (e - 8) / 4 ≠ k ∧ (e - 8) % 4 ≠ k then zxe (fun e => w.1 sc (8 + e)) k (e - 8) else w.1 sc e), n - j < N → jWp 60 12 [some (jO s), some (jI (k : Int)), some (jI (i : Int)), some (jI (j : Int))] [] 0 0 (kA w sc T) (fun v w1 => v = none ∧ ∃ T, w1 = kA w sc T ∧ ∀ e, T e = if 8 ≤ e ∧ e < 24 ∧ (e - 8) / 4 < n ∧ (e - 8) % 4 < n then zxe (fun e => w.1 sc (8 + e)) k (e - 8) else w.1 sc e) := by
          intro N
          induction N with
          | zero => intro j T hj hT hm; omega
          | succ N ih8 =>
            intro j T hj hT hm
            have hTb : ∀ e, e < 16 → T (8 + e) = if 8 ≤ 8 + e ∧ 8 + e < 24 ∧ (8 + e - 8) / 4 < n ∧ (8 + e - 8) % 4 < n ∧ ((8 + e - 8) / 4 < i ∨ ((8 + e - 8) / 4 = i ∧ (8 + e - 8) % 4 < j)) ∧ (8 + e - 8) / 4 ≠ k ∧ (8 + e - 8) % 4 ≠ k then zxe (fun e => w.1 sc (8 + e)) k e else w.1 sc (8 + e) := fun e he => by
              have := hT (8 + e)
              rw [show 8 + e - 8 = e by omega] at this ⊢
              exact this
            refine jWp.blk mt 2 ?_
            show _ ∧ jWp 60 14 [some (jO s), some (jI (k : Int)), some (jI (i : Int)), some (jI (j : Int))] [jO s, jI (j : Int)] 0 0 (kA w sc T) _
            refine ⟨rfl, ?_⟩
            refine jWp.getI (pc' := 17) mt rfl rfl (jtg hks) ?_
            rw [show ((kA w sc T).1 s 0) = (n : Int) from (((kA_a (by omega)).trans rfl).trans hn0)]
            show jWp 60 17 [some (jO s), some (jI (k : Int)), some (jI (i : Int)), some (jI (j : Int))] [jI (n : Int), jI (j : Int)] 0 0 (kA w sc T) _
            refine jWp.icmp (pc' := 20) mt rfl rfl (b32_id (by omega) (by omega)) (b32_id (by omega) (by omega)) (fun h9 => ?_) (fun h9 => ?_)
            · have h9 : (n : Int) ≤ (j : Int) := h9
              refine jWp.blk mt 2 ?_
              show jWp 60 2 [some (jO s), some (jI (k : Int)), some (jI ((i : Int) + 1)), some (jI (j : Int))] [] 0 0 (kA w sc T) _
              refine jWp.le (l := [some (jO s), some (jI (k : Int)), some (jI ((i : Int) + 1)), none]) (by exact ⟨rfl, rfl, rfl, trivial⟩) ?_
              exact ih2 (i + 1) T (by omega) (fun e => zif_1 (hT e) (by omega)) (by omega)
            · have h9 : (j : Int) < (n : Int) := h9
              refine jWp.blk mt 2 ?_
              show jWp 60 22 [some (jO s), some (jI (k : Int)), some (jI (i : Int)), some (jI (j : Int))] [jI (k : Int), jI (i : Int)] 0 0 (kA w sc T) _
              refine jWp.icmp (pc' := 25) mt rfl rfl (b32_id (by omega) (by omega)) (b32_id (by omega) (by omega)) (fun h10 => ?_) (fun h10 => ?_)
              · have h10 : (i : Int) = (k : Int) := h10
                refine jWp.blk mt 2 ?_
                show jWp 60 12 [some (jO s), some (jI (k : Int)), some (jI (i : Int)), some (jI ((j : Int) + 1))] [] 0 0 (kA w sc T) _
                refine jWp.le (l := [some (jO s), some (jI (k : Int)), some (jI (i : Int)), some (jI ((j : Int) + 1))]) (by exact ⟨rfl, rfl, rfl, rfl, trivial⟩) ?_
                exact ih8 (j + 1) T (by omega) (fun e => zif_1 (hT e) (by omega)) (by omega)
              · have h10 : (i : Int) ≠ (k : Int) := h10
                refine jWp.blk mt 2 ?_
                show jWp 60 27 [some (jO s), some (jI (k : Int)), some (jI (i : Int)), some (jI (j : Int))] [jI (k : Int), jI (j : Int)] 0 0 (kA w sc T) _
                refine jWp.icmp (pc' := 30) mt rfl rfl (b32_id (by omega) (by omega)) (b32_id (by omega) (by omega)) (fun h11 => ?_) (fun h11 => ?_)
                · have h11 : (j : Int) = (k : Int) := h11
                  refine jWp.blk mt 2 ?_
                  show jWp 60 12 [some (jO s), some (jI (k : Int)), some (jI (i : Int)), some (jI ((j : Int) + 1))] [] 0 0 (kA w sc T) _
                  refine jWp.le (l := [some (jO s), some (jI (k : Int)), some (jI (i : Int)), some (jI ((j : Int) + 1))]) (by exact ⟨rfl, rfl, rfl, rfl, trivial⟩) ?_
                  exact ih8 (j + 1) T (by omega) (fun e => zif_1 (hT e) (by omega)) (by omega)
                · have h11 : (j : Int) ≠ (k : Int) := h11
                  refine jWp.blk mt 7 ?_
                  show _ ∧ _ ∧ jWp 60 37 [some (jO s), some (jI (k : Int)), some (jI (i : Int)), some (jI (j : Int))] [jI (k : Int), jI (j : Int), jI (i : Int), jO s, jI (j : Int), jI (i : Int), jO s] 0 0 (kA w sc T) _
                  refine ⟨rfl, rfl, ?_⟩
                  refine jWp.callv (as := [jO s, jI (i : Int), jI (j : Int), jI (k : Int)]) (rest := [jI (j : Int), jI (i : Int), jO s]) mt rfl rfl rfl ⟨rfl, jtg hks⟩ ?_
                  refine jCall.mono ((by have h := E_exB (w := (kA w sc T)) (s := s) (sc := sc) (i := i) (j := j) (k := k) hks hkc hrc (by omega) (by omega) (by omega) (fun e he => by rw [kA_s, hTb e he]; split; exact zxe_b hk4 hb he hx9; exact hb e he); rw [zxb_s (f := fun e => (kA w sc T).1 sc (8 + e)) (g := (fun e => w.1 sc (8 + e))) (kA_s.trans ((hT _).trans (if_neg (by omega)))) (kA_s.trans ((hT _).trans (if_neg (by omega)))) (kA_s.trans ((hT _).trans (if_neg (by omega))))] at h; exact h)) (fun v9 w9 h9 => ?_)
                  obtain ⟨rfl, h9⟩ := h9
                  subst w9
                  show jWp 60 40 [some (jO s), some (jI (k : Int)), some (jI (i : Int)), some (jI (j : Int))] [jI (zxb (fun e => w.1 sc (8 + e)) k i j), jI (j : Int), jI (i : Int), jO s] 0 0 (kA w sc T) _
                  refine jWp.callv (as := [jO s, jI (i : Int), jI (j : Int), jI (zxb (fun e => w.1 sc (8 + e)) k i j)]) (rest := []) mt rfl rfl rfl ⟨rfl, jtg hks⟩ ?_
                  refine jCall.mono (E_setB (w := (kA w sc T)) (n := n) (i := i) (j := j) (v := (zxb (fun e => w.1 sc (8 + e)) k i j)) hks hkc hrc (((kA_a (by omega)).trans rfl).trans hn0) hn4 (by omega) (by omega)) (fun v9 w9 h9 => ?_)
                  obtain ⟨rfl, h9⟩ := h9
                  subst h9
                  rw [show jW (kA w sc T) sc (8 + (4 * i + j)) (zxb (fun e => w.1 sc (8 + e)) k i j) = kA w sc (zset T (8 + (4 * i + j)) (zxb (fun e => w.1 sc (8 + e)) k i j)) from kA_W]
                  show jWp 60 43 [some (jO s), some (jI (k : Int)), some (jI (i : Int)), some (jI (j : Int))] [] 0 0 (kA w sc (zset T (8 + (4 * i + j)) (zxb (fun e => w.1 sc (8 + e)) k i j))) _
                  refine jWp.blk mt 2 ?_
                  show jWp 60 12 [some (jO s), some (jI (k : Int)), some (jI (i : Int)), some (jI ((j : Int) + 1))] [] 0 0 (kA w sc (zset T (8 + (4 * i + j)) (zxb (fun e => w.1 sc (8 + e)) k i j))) _
                  refine jWp.le (l := [some (jO s), some (jI (k : Int)), some (jI (i : Int)), some (jI ((j : Int) + 1))]) (by exact ⟨rfl, rfl, rfl, rfl, trivial⟩) ?_
                  exact ih8 (j + 1) _ (by omega) (fun e => by
                    by_cases ee : e = 8 + (4 * i + j)
                    · subst ee
                      rw [zset_s, if_pos (by omega), show 8 + (4 * i + j) - 8 = 4 * i + j by omega, zxe_at _ _ _ _ (by omega)]
                    · rw [zset_n ee]; exact zif_1 (hT e) (by omega)) (by omega)
        refine jWp.le (l := [some (jO s), some (jI (k : Int)), some (jI (i : Int)), some (jI 0)]) (by exact ⟨rfl, rfl, rfl, rfl, trivial⟩) ?_
        exact lp7 _ 0 T (by omega) hT (Nat.lt_succ_self _)
  refine jWp.le (l := [some (jO s), some (jI (k : Int)), some (jI 0), none]) (by exact ⟨rfl, rfl, rfl, trivial⟩) ?_
  have key := lp1 _ 0 (w.1 sc) (by omega) (fun e => (if_neg (by omega)).symm) (Nat.lt_succ_self _)
  rw [kA_self] at key
  exact key
/-- the class's two sums of a degree's rule, and what a degree becomes -/
def zcu (C : Nat → Int) (k c : Nat) : Nat → Int
  | 0 => 0
  | i + 1 => zcu C k c i + jmx (C (8 + (4 * i + k))) 0 * C (28 + (4 * i + c))
def zcw (C : Nat → Int) (k c : Nat) : Nat → Int
  | 0 => 0
  | i + 1 => zcw C k c i + jmx (-(C (8 + (4 * i + k)))) 0 * C (28 + (4 * i + c))
def zcn (C : Nat → Int) (n k c : Nat) : Int := jmx (b32 (zcu C k c n)) (b32 (zcw C k c n)) - C (28 + (4 * k + c))
set_option maxHeartbeats 4000000 in
set_option maxRecDepth 20000 in
theorem C_degrees {w : jS} {s sc n : Nat} (hks : w.2.1 s = (6, 0)) (hkc : w.2.1 sc = (100, 44)) (hrc : w.2.2.1 s 1 = some sc) (hn0 : w.1 s 0 = (n : Int)) (hn4 : n ≤ 4) {k : Nat} (hk : k < n) (hk4 : k < 4) (hb : ∀ e, e < 16 → -9 ≤ w.1 sc (8 + e) ∧ w.1 sc (8 + e) ≤ 9) : jCall 61 [jO s, jI (k : Int)] w (fun v w1 => v = none ∧ ∃ T, w1 = kA w sc T ∧ ∀ e, T e = if 28 + 4 * k ≤ e ∧ e < 28 + 4 * k + n then zcn (w.1 sc) n k (e - (28 + 4 * k)) else w.1 sc e) := by
  have mt : jtb 61 = jT61 := rfl
  have hsc : s ≠ sc := kne hks hkc (by decide)
  show jWp 61 0 [some (jO s), some (jI (k : Int)), none, none, none, none] [] 0 0 w _
  refine jWp.blk mt 2 ?_
  show jWp 61 2 [some (jO s), some (jI (k : Int)), some (jI 0), none, none, none] [] 0 0 w _
  have lp1 : ∀ (N : Nat) (t : Nat) (T : Nat → Int) (ht : t ≤ n) (hT : ∀ e, T e = if 28 + 4 * k ≤ e ∧ e < 28 + 4 * k + t then zcn (w.1 sc) n k (e - (28 + 4 * k)) else w.1 sc e), n - t < N → jWp 61 2 [some (jO s), some (jI (k : Int)), some (jI (t : Int)), none, none, none] [] 0 0 (kA w sc T) (fun v w1 => v = none ∧ ∃ T, w1 = kA w sc T ∧ ∀ e, T e = if 28 + 4 * k ≤ e ∧ e < 28 + 4 * k + n then zcn (w.1 sc) n k (e - (28 + 4 * k)) else w.1 sc e) := by
    intro N
    induction N with
    | zero => intro t T ht hT hm; omega
    | succ N ih2 =>
      intro t T ht hT hm
      have hT2 : ∀ e, e < 28 → T e = w.1 sc e := fun e he => (hT e).trans (if_neg (by omega))
      refine jWp.blk mt 2 ?_
      show _ ∧ jWp 61 4 [some (jO s), some (jI (k : Int)), some (jI (t : Int)), none, none, none] [jO s, jI (t : Int)] 0 0 (kA w sc T) _
      refine ⟨rfl, ?_⟩
      refine jWp.getI (pc' := 7) mt rfl rfl (jtg hks) ?_
      rw [show ((kA w sc T).1 s 0) = (n : Int) from (((kA_a (by omega)).trans rfl).trans hn0)]
      show jWp 61 7 [some (jO s), some (jI (k : Int)), some (jI (t : Int)), none, none, none] [jI (n : Int), jI (t : Int)] 0 0 (kA w sc T) _
      refine jWp.icmp (pc' := 10) mt rfl rfl (b32_id (by omega) (by omega)) (b32_id (by omega) (by omega)) (fun h3 => ?_) (fun h3 => ?_)
      · have h3 : (n : Int) ≤ (t : Int) := h3
        refine jWp.vret mt rfl ⟨rfl, rfl⟩ rfl ?_
        exact ⟨rfl, T, rfl, fun e => zif_1 (hT e) (by omega)⟩
      · have h3 : (t : Int) < (n : Int) := h3
        refine jWp.blk mt 6 ?_
        show jWp 61 18 [some (jO s), some (jI (k : Int)), some (jI (t : Int)), some (jI 0), some (jI 0), some (jI 0)] [] 0 0 (kA w sc T) _
        have lp4 : ∀ (N : Nat) (i : Nat) (x y : Int) (hi : i ≤ n) (hx : x = zcu (w.1 sc) k t i) (hy : y = zcw (w.1 sc) k t i), n - i < N → jWp 61 18 [some (jO s), some (jI (k : Int)), some (jI (t : Int)), some (jI x), some (jI y), some (jI (i : Int))] [] 0 0 (kA w sc T) (fun v w1 => v = none ∧ ∃ T, w1 = kA w sc T ∧ ∀ e, T e = if 28 + 4 * k ≤ e ∧ e < 28 + 4 * k + n then zcn (w.1 sc) n k (e - (28 + 4 * k)) else w.1 sc e) := by
          intro N
          induction N with
          | zero => intro i x y hi hx hy hm; omega
          | succ N ih5 =>
            intro i x y hi hx hy hm
            have ht4 : t < n := by omega
            have hbi : i < n → _ := fun h => hb (4 * i + k) (by omega)
            refine jWp.blk mt 2 ?_
            show _ ∧ jWp 61 21 [some (jO s), some (jI (k : Int)), some (jI (t : Int)), some (jI x), some (jI y), some (jI (i : Int))] [jO s, jI (i : Int)] 0 0 (kA w sc T) _
            refine ⟨rfl, ?_⟩
            refine jWp.getI (pc' := 24) mt rfl rfl (jtg hks) ?_
            rw [show ((kA w sc T).1 s 0) = (n : Int) from (((kA_a (by omega)).trans rfl).trans hn0)]
            show jWp 61 24 [some (jO s), some (jI (k : Int)), some (jI (t : Int)), some (jI x), some (jI y), some (jI (i : Int))] [jI (n : Int), jI (i : Int)] 0 0 (kA w sc T) _
            refine jWp.icmp (pc' := 27) mt rfl rfl (b32_id (by omega) (by omega)) (b32_id (by omega) (by omega)) (fun h6 => ?_) (fun h6 => ?_)
            · have h6 : (n : Int) ≤ (i : Int) := h6
              refine jWp.blk mt 2 ?_
              show _ ∧ jWp 61 82 [some (jO s), some (jI (k : Int)), some (jI (t : Int)), some (jI x), some (jI y), some (jI (i : Int))] [jI (k : Int), jO s] 0 0 (kA w sc T) _
              refine ⟨rfl, ?_⟩
              refine jWp.callv (as := [jO s, jI (k : Int)]) (rest := []) mt rfl rfl rfl ⟨rfl, jtg hks⟩ ?_
              refine jCall.mono (E_has (w := (kA w sc T)) (n := n) hks (((kA_a (by omega)).trans rfl).trans hn0) hn4 (i := (k : Int)) (by constructor <;> omega)) (fun v9 w9 h9 => ?_)
              rcases h9 with ⟨rfl, h9, h7⟩ | ⟨rfl, h9, h7⟩ <;> subst w9
              · have h7 : 0 ≤ (k : Int) ∧ (k : Int) < (n : Int) := h7
                show jWp 61 85 [some (jO s), some (jI (k : Int)), some (jI (t : Int)), some (jI x), some (jI y), some (jI (i : Int))] [jI 1] 0 0 (kA w sc T) _
                refine jWp.ifc (b := false) mt rfl (by decide) rfl ?_
                show jWp 61 88 [some (jO s), some (jI (k : Int)), some (jI (t : Int)), some (jI x), some (jI y), some (jI (i : Int))] [] 0 0 (kA w sc T) _
                refine jWp.blk mt 1 ?_
                show _ ∧ jWp 61 89 [some (jO s), some (jI (k : Int)), some (jI (t : Int)), some (jI x), some (jI y), some (jI (i : Int))] [jO s] 0 0 (kA w sc T) _
                refine ⟨rfl, ?_⟩
                refine jWp.getR (pc' := 92) (o := sc) mt rfl rfl (jtg hks) hrc ?_
                show jWp 61 92 [some (jO s), some (jI (k : Int)), some (jI (t : Int)), some (jI x), some (jI y), some (jI (i : Int))] [jO sc] 0 0 (kA w sc T) _
                refine jWp.blk mt 9 ?_
                show jWp 61 103 [some (jO s), some (jI (k : Int)), some (jI (t : Int)), some (jI x), some (jI y), some (jI (i : Int))] [jI y, jI x, jI ((28 + (4 * (k : Int))) + (t : Int)), jO sc] 0 0 (kA w sc T) _
                refine jWp.maxI (pc' := 106) mt rfl rfl rfl rfl rfl ?_
                show jWp 61 106 [some (jO s), some (jI (k : Int)), some (jI (t : Int)), some (jI x), some (jI y), some (jI (i : Int))] [jI (jmx (b32 x) (b32 y)), jI ((28 + (4 * (k : Int))) + (t : Int)), jO sc] 0 0 (kA w sc T) _
                refine jWp.blk mt 3 ?_
                show _ ∧ jWp 61 109 [some (jO s), some (jI (k : Int)), some (jI (t : Int)), some (jI x), some (jI y), some (jI (i : Int))] [jI (t : Int), jI (k : Int), jO s, jI (jmx (b32 x) (b32 y)), jI ((28 + (4 * (k : Int))) + (t : Int)), jO sc] 0 0 (kA w sc T) _
                refine ⟨rfl, ?_⟩
                refine jWp.callv (as := [jO s, jI (k : Int), jI (t : Int)]) (rest := [jI (jmx (b32 x) (b32 y)), jI ((28 + (4 * (k : Int))) + (t : Int)), jO sc]) mt rfl rfl rfl ⟨rfl, jtg hks⟩ ?_
                refine jCall.mono ((by have h := E_sd (w := (kA w sc T)) (sc := sc) (n := n) (i := k) (j := t) hks hkc hrc (((kA_a (by omega)).trans rfl).trans hn0) hn4 (by omega) (by omega); rw [show (kA w sc T).1 sc (28 + (4 * k + t)) = w.1 sc (28 + (4 * k + t)) from kA_s.trans ((hT _).trans (if_neg (by omega)))] at h; exact h)) (fun v9 w9 h9 => ?_)
                obtain ⟨rfl, h9⟩ := h9
                subst w9
                show jWp 61 112 [some (jO s), some (jI (k : Int)), some (jI (t : Int)), some (jI x), some (jI y), some (jI (i : Int))] [jI (w.1 sc (28 + (4 * k + t))), jI (jmx (b32 x) (b32 y)), jI ((28 + (4 * (k : Int))) + (t : Int)), jO sc] 0 0 (kA w sc T) _
                refine jWp.blk mt 1 ?_
                show jWp 61 113 [some (jO s), some (jI (k : Int)), some (jI (t : Int)), some (jI x), some (jI y), some (jI (i : Int))] [jI ((jmx (b32 x) (b32 y)) - (w.1 sc (28 + (4 * k + t)))), jI ((28 + (4 * (k : Int))) + (t : Int)), jO sc] 0 0 (kA w sc T) _
                refine jWp.iast (pc' := 114) (j := (28 + (4 * k + t))) mt rfl rfl (jtg hkc) (by rw [b32_id (by omega) (by omega)]; omega) (jlt hkc (by omega)) ?_
                rw [show jW (kA w sc T) sc (28 + (4 * k + t)) ((jmx (b32 x) (b32 y)) - (w.1 sc (28 + (4 * k + t)))) = (kA w sc (zset T (28 + (4 * k + t)) ((jmx (b32 x) (b32 y)) - (w.1 sc (28 + (4 * k + t)))))) from kA_W]
                show jWp 61 114 [some (jO s), some (jI (k : Int)), some (jI (t : Int)), some (jI x), some (jI y), some (jI (i : Int))] [] 0 0 (kA w sc (zset T (28 + (4 * k + t)) ((jmx (b32 x) (b32 y)) - (w.1 sc (28 + (4 * k + t)))))) _
                refine jWp.blk mt 2 ?_
                show jWp 61 2 [some (jO s), some (jI (k : Int)), some (jI ((t : Int) + 1)), some (jI x), some (jI y), some (jI (i : Int))] [] 0 0 (kA w sc (zset T (28 + (4 * k + t)) ((jmx (b32 x) (b32 y)) - (w.1 sc (28 + (4 * k + t)))))) _
                refine jWp.le (l := [some (jO s), some (jI (k : Int)), some (jI ((t : Int) + 1)), none, none, none]) (by exact ⟨rfl, rfl, rfl, trivial⟩) ?_
                exact ih2 (t + 1) _ (by omega) (fun e => by
            by_cases ee : e = 28 + (4 * k + t)
            · subst ee
              rw [zset_s, if_pos (by omega), show 28 + (4 * k + t) - (28 + 4 * k) = t by omega]
              unfold zcn
              rw [hx, hy, show i = n by omega]
            · rw [zset_n ee]; exact zif_1 (hT e) (by omega)) (by omega)
              · have h7 : ¬ (0 ≤ (k : Int) ∧ (k : Int) < (n : Int)) := h7
                exfalso; omega
            · have h6 : (i : Int) < (n : Int) := h6
              refine jWp.blk mt 4 ?_
              show _ ∧ jWp 61 32 [some (jO s), some (jI (k : Int)), some (jI (t : Int)), some (jI x), some (jI y), some (jI (i : Int))] [jI (k : Int), jI (i : Int), jO s, jI x] 0 0 (kA w sc T) _
              refine ⟨rfl, ?_⟩
              refine jWp.callv (as := [jO s, jI (i : Int), jI (k : Int)]) (rest := [jI x]) mt rfl rfl rfl ⟨rfl, jtg hks⟩ ?_
              refine jCall.mono ((by have h := E_sb (w := (kA w sc T)) (sc := sc) (i := i) (j := k) hks hkc hrc (by omega) (by omega); rw [show (kA w sc T).1 sc (8 + (4 * i + k)) = w.1 sc (8 + (4 * i + k)) from kA_s.trans (hT2 _ (by omega))] at h; exact h)) (fun v9 w9 h9 => ?_)
              obtain ⟨rfl, h9⟩ := h9
              subst w9
              show jWp 61 35 [some (jO s), some (jI (k : Int)), some (jI (t : Int)), some (jI x), some (jI y), some (jI (i : Int))] [jI (w.1 sc (8 + (4 * i + k))), jI x] 0 0 (kA w sc T) _
              refine jWp.blk mt 1 ?_
              show jWp 61 36 [some (jO s), some (jI (k : Int)), some (jI (t : Int)), some (jI x), some (jI y), some (jI (i : Int))] [jI 0, jI (w.1 sc (8 + (4 * i + k))), jI x] 0 0 (kA w sc T) _
              refine jWp.maxI (pc' := 39) mt rfl rfl rfl (b32_id (by omega) (by omega)) (show b32 0 = 0 by decide) ?_
              show jWp 61 39 [some (jO s), some (jI (k : Int)), some (jI (t : Int)), some (jI x), some (jI y), some (jI (i : Int))] [jI (jmx (w.1 sc (8 + (4 * i + k))) 0), jI x] 0 0 (kA w sc T) _
              refine jWp.blk mt 3 ?_
              show _ ∧ jWp 61 43 [some (jO s), some (jI (k : Int)), some (jI (t : Int)), some (jI x), some (jI y), some (jI (i : Int))] [jI (t : Int), jI (i : Int), jO s, jI (jmx (w.1 sc (8 + (4 * i + k))) 0), jI x] 0 0 (kA w sc T) _
              refine ⟨rfl, ?_⟩
              refine jWp.callv (as := [jO s, jI (i : Int), jI (t : Int)]) (rest := [jI (jmx (w.1 sc (8 + (4 * i + k))) 0), jI x]) mt rfl rfl rfl ⟨rfl, jtg hks⟩ ?_
              refine jCall.mono ((by have h := E_sd (w := (kA w sc T)) (sc := sc) (n := n) (i := i) (j := t) hks hkc hrc (((kA_a (by omega)).trans rfl).trans hn0) hn4 (by omega) (by omega); rw [show (kA w sc T).1 sc (28 + (4 * i + t)) = w.1 sc (28 + (4 * i + t)) from kA_s.trans ((hT _).trans (if_neg (by omega)))] at h; exact h)) (fun v9 w9 h9 => ?_)
              obtain ⟨rfl, h9⟩ := h9
              subst w9
              show jWp 61 46 [some (jO s), some (jI (k : Int)), some (jI (t : Int)), some (jI x), some (jI y), some (jI (i : Int))] [jI (w.1 sc (28 + (4 * i + t))), jI (jmx (w.1 sc (8 + (4 * i + k))) 0), jI x] 0 0 (kA w sc T) _
              refine jWp.blk mt 7 ?_
              show _ ∧ jWp 61 55 [some (jO s), some (jI (k : Int)), some (jI (t : Int)), some (jI (x + ((jmx (w.1 sc (8 + (4 * i + k))) 0) * (w.1 sc (28 + (4 * i + t)))))), some (jI y), some (jI (i : Int))] [jI (k : Int), jI (i : Int), jO s, jI y] 0 0 (kA w sc T) _
              refine ⟨rfl, ?_⟩
              refine jWp.callv (as := [jO s, jI (i : Int), jI (k : Int)]) (rest := [jI y]) mt rfl rfl rfl ⟨rfl, jtg hks⟩ ?_
              refine jCall.mono ((by have h := E_sb (w := (kA w sc T)) (sc := sc) (i := i) (j := k) hks hkc hrc (by omega) (by omega); rw [show (kA w sc T).1 sc (8 + (4 * i + k)) = w.1 sc (8 + (4 * i + k)) from kA_s.trans (hT2 _ (by omega))] at h; exact h)) (fun v9 w9 h9 => ?_)
              obtain ⟨rfl, h9⟩ := h9
              subst w9
              show jWp 61 58 [some (jO s), some (jI (k : Int)), some (jI (t : Int)), some (jI (x + ((jmx (w.1 sc (8 + (4 * i + k))) 0) * (w.1 sc (28 + (4 * i + t)))))), some (jI y), some (jI (i : Int))] [jI (w.1 sc (8 + (4 * i + k))), jI y] 0 0 (kA w sc T) _
              refine jWp.blk mt 2 ?_
              show jWp 61 60 [some (jO s), some (jI (k : Int)), some (jI (t : Int)), some (jI (x + ((jmx (w.1 sc (8 + (4 * i + k))) 0) * (w.1 sc (28 + (4 * i + t)))))), some (jI y), some (jI (i : Int))] [jI 0, jI (-(w.1 sc (8 + (4 * i + k)))), jI y] 0 0 (kA w sc T) _
              refine jWp.maxI (pc' := 63) mt rfl rfl rfl (b32_id (by omega) (by omega)) (show b32 0 = 0 by decide) ?_
              show jWp 61 63 [some (jO s), some (jI (k : Int)), some (jI (t : Int)), some (jI (x + ((jmx (w.1 sc (8 + (4 * i + k))) 0) * (w.1 sc (28 + (4 * i + t)))))), some (jI y), some (jI (i : Int))] [jI (jmx (-(w.1 sc (8 + (4 * i + k)))) 0), jI y] 0 0 (kA w sc T) _
              refine jWp.blk mt 3 ?_
              show _ ∧ jWp 61 67 [some (jO s), some (jI (k : Int)), some (jI (t : Int)), some (jI (x + ((jmx (w.1 sc (8 + (4 * i + k))) 0) * (w.1 sc (28 + (4 * i + t)))))), some (jI y), some (jI (i : Int))] [jI (t : Int), jI (i : Int), jO s, jI (jmx (-(w.1 sc (8 + (4 * i + k)))) 0), jI y] 0 0 (kA w sc T) _
              refine ⟨rfl, ?_⟩
              refine jWp.callv (as := [jO s, jI (i : Int), jI (t : Int)]) (rest := [jI (jmx (-(w.1 sc (8 + (4 * i + k)))) 0), jI y]) mt rfl rfl rfl ⟨rfl, jtg hks⟩ ?_
              refine jCall.mono ((by have h := E_sd (w := (kA w sc T)) (sc := sc) (n := n) (i := i) (j := t) hks hkc hrc (((kA_a (by omega)).trans rfl).trans hn0) hn4 (by omega) (by omega); rw [show (kA w sc T).1 sc (28 + (4 * i + t)) = w.1 sc (28 + (4 * i + t)) from kA_s.trans ((hT _).trans (if_neg (by omega)))] at h; exact h)) (fun v9 w9 h9 => ?_)
              obtain ⟨rfl, h9⟩ := h9
              subst w9
              show jWp 61 70 [some (jO s), some (jI (k : Int)), some (jI (t : Int)), some (jI (x + ((jmx (w.1 sc (8 + (4 * i + k))) 0) * (w.1 sc (28 + (4 * i + t)))))), some (jI y), some (jI (i : Int))] [jI (w.1 sc (28 + (4 * i + t))), jI (jmx (-(w.1 sc (8 + (4 * i + k)))) 0), jI y] 0 0 (kA w sc T) _
              refine jWp.blk mt 5 ?_
              show jWp 61 18 [some (jO s), some (jI (k : Int)), some (jI (t : Int)), some (jI (x + ((jmx (w.1 sc (8 + (4 * i + k))) 0) * (w.1 sc (28 + (4 * i + t)))))), some (jI (y + ((jmx (-(w.1 sc (8 + (4 * i + k)))) 0) * (w.1 sc (28 + (4 * i + t)))))), some (jI ((i : Int) + 1))] [] 0 0 (kA w sc T) _
              refine jWp.le (l := [some (jO s), some (jI (k : Int)), some (jI (t : Int)), some (jI (x + ((jmx (w.1 sc (8 + (4 * i + k))) 0) * (w.1 sc (28 + (4 * i + t)))))), some (jI (y + ((jmx (-(w.1 sc (8 + (4 * i + k)))) 0) * (w.1 sc (28 + (4 * i + t)))))), some (jI ((i : Int) + 1))]) (by exact ⟨rfl, rfl, rfl, rfl, rfl, rfl, trivial⟩) ?_
              exact ih5 (i + 1) _ _ (by omega) (by rw [hx]; rfl) (by rw [hy]; rfl) (by omega)
        refine jWp.le (l := [some (jO s), some (jI (k : Int)), some (jI (t : Int)), some (jI 0), some (jI 0), some (jI 0)]) (by exact ⟨rfl, rfl, rfl, rfl, rfl, rfl, trivial⟩) ?_
        exact lp4 _ 0 0 0 (by omega) rfl rfl (Nat.lt_succ_self _)
  refine jWp.le (l := [some (jO s), some (jI (k : Int)), some (jI 0), none, none, none]) (by exact ⟨rfl, rfl, rfl, trivial⟩) ?_
  have key := lp1 _ 0 (w.1 sc) (by omega) (fun e => (if_neg (by omega)).symm) (Nat.lt_succ_self _)
  rw [kA_self] at key
  exact key
