theorem E_termsW {w W : jS} {m c x : Nat} (hW : MW w.2 m) (hR : zRw (w.1 (m + 2)) c) (hx : x < c) (hq : mq w m W) : jCall 146 [jO m, jI (x : Int)] W (fun v w1 => v = none ∧ ztr W m w1 ∧ mq w m w1 ∧ ∃ (len : Nat) (why left : Int), w1.1 m 4 = (len : Int) ∧ w1.1 m 5 = why ∧ w1.1 m 6 = left ∧ zTR (w.1 (m + 2)) x (w1.1 (m + 4)) len why left) := by
  have e2 : W.1 (m + 2) = w.1 (m + 2) := hq.2.1 _ (by omega)
  have g := hR.2.2 x hx
  have c4 := hR.2.1
  have hW2 : MW W.2 m := by rw [hq.1]; exact hW
  refine jCall.mono (E_terms (w := W) (x := x) (law := w.1 (m + 2) (1 + 10 * x)) (f := w.1 (m + 2) (2 + 10 * x)) hW2 (by omega) (congrFun e2 _) (congrFun e2 _) g.1.1 g.1.2 g.2.1 (by rw [e2]; exact g.2.2)) (fun v w1 h => ?_)
  obtain ⟨h1, h2, len, why, left, h4, h5, h6, h7, h8⟩ := h
  rw [e2] at h7
  exact ⟨h1, h2, mq_t hq (ztr_q h2), len, why, left, h4, h5, h6, h7, h8⟩
theorem jW4 {w : jS} {m : Nat} {a b c d : Int} : jW (jW (jW (jW w m 8 a) m 9 b) m 8 c) m 9 d = jW (jW w m 8 c) m 9 d := by
  unfold jW jup
  refine Prod.ext (funext fun x => funext fun j => ?_) rfl
  dsimp only
  by_cases h9 : x = m ∧ j = 9
  · simp only [if_pos h9]
  · by_cases h8 : x = m ∧ j = 8
    · simp only [if_neg h9, if_pos h8]
    · simp only [if_neg h9, if_neg h8]
/-- how many terms are looked at for what is kept -/
def zkm (law : Int) : Nat := if law = 0 then 2 else if law = 1 then 3 else if law = 3 then 4 else 0
def zku (law f : Int) (t : Nat → Int) (n : Nat) : Int := if law = 0 then t n * t n + t (n + 1) * t (n + 1) - f * t n * t (n + 1) else if law = 1 then t n + t (n + 2) else (t n * t (n + 3)) * (t n * t (n + 3)) + t (n + 1) * t (n + 1) * t (n + 1) * t (n + 3) + t (n + 2) * t (n + 2) * t n * t (n + 2) + f * (t (n + 1) * t (n + 2)) * (t (n + 1) * t (n + 2))
def zkd (law : Int) (t : Nat → Int) (n : Nat) : Int := if law = 0 then 1 else if law = 1 then t (n + 1) else (t n * t (n + 3)) * (t (n + 1) * t (n + 2))
def zkp (law : Int) (t : Nat → Int) (len n : Nat) : Prop := zkm law ≠ 0 ∧ ∀ k, n ≤ k → k < n + zkm law → k < len ∧ 1 ≤ t k ∧ t k ≤ 9999
theorem zkp_l {law : Int} {t : Nat → Int} {len n : Nat} (h : zkp law t len n) : n < len := (h.2 n (Nat.le_refl n) (by have := h.1; omega)).1
theorem zk2 {x y a b : Int} (hx : 1 ≤ x ∧ x ≤ a) (hy : 1 ≤ y ∧ y ≤ b) : 1 ≤ x * y ∧ x * y ≤ a * b := ⟨zmul1 hx.1 hy.1, Int.mul_le_mul hx.2 hy.2 (by omega) (by omega)⟩
theorem zkU0 {f a b : Int} (hf : 0 ≤ f ∧ f ≤ 9) (ha : 1 ≤ a ∧ a ≤ 9999) (hb : 1 ≤ b ∧ b ≤ 9999) : -10000000000 ≤ a * a + b * b - f * a * b ∧ a * a + b * b - f * a * b ≤ 10000000000 := by
  have h1 := zk2 ha ha
  have h2 := zk2 hb hb
  have h3 := zk2 ha hb
  have h4 := zmulA (x := f) (y := a * b) (a := 9) (b := 9999 * 9999) (by omega) (by omega) (by decide) (by decide)
  rw [Int.mul_assoc]
  omega
theorem zkU3 {f a b c d : Int} (hf : 0 ≤ f ∧ f ≤ 9) (ha : 1 ≤ a ∧ a ≤ 9999) (hb : 1 ≤ b ∧ b ≤ 9999) (hc : 1 ≤ c ∧ c ≤ 9999) (hd : 1 ≤ d ∧ d ≤ 9999) : (1 ≤ (a * d) * (a * d) + b * b * b * d + c * c * a * c + f * (b * c) * (b * c) ∧ (a * d) * (a * d) + b * b * b * d + c * c * a * c + f * (b * c) * (b * c) ≤ 200000000000000000) ∧ 1 ≤ (a * d) * (b * c) ∧ (a * d) * (b * c) ≤ 10000000000000000 := by
  have h1 := zk2 (zk2 ha hd) (zk2 ha hd)
  have h2 := zk2 (zk2 (zk2 hb hb) hb) hd
  have h3 := zk2 (zk2 (zk2 hc hc) ha) hc
  have h4 := zk2 (zk2 hb hc) (zk2 hb hc)
  have h5 := zk2 (zk2 ha hd) (zk2 hb hc)
  have h6 := zmulA (x := f) (y := (b * c) * (b * c)) (a := 9) (b := 9999 * 9999 * (9999 * 9999)) (by omega) (by omega) (by decide) (by decide)
  rw [← Int.mul_assoc f (b * c) (b * c)] at h6
  have h7 : 0 ≤ f * (b * c) * (b * c) := Int.mul_nonneg (Int.mul_nonneg hf.1 (by have := zk2 hb hc; omega)) (by have := zk2 hb hc; omega)
  omega
theorem zuA {a b : Int} (hb : 0 < b) : (zu a b).natAbs ≤ a.natAbs := by
  unfold zu
  rw [Int.natAbs_tdiv]
  exact Nat.div_le_self _ _
theorem zg_r {a b : Int} (ha : -100000000 ≤ a ∧ a ≤ 100000000) (hb : -100000000 ≤ b ∧ b ≤ 100000000) : 0 ≤ zg a b ∧ zg a b ≤ 100000000 := by
  unfold zg
  refine ⟨by omega, ?_⟩
  by_cases h : a = 0
  · subst h
    rw [Int.gcd_zero_left]
    omega
  · have := Int.gcd_le_natAbs_left b h
    omega
set_option maxHeartbeats 4000000 in
set_option maxRecDepth 20000 in
theorem E_keeps {w : jS} {m : Nat} (hW : MW w.2 m) {len x n : Nat} {law f : Int} (hl : w.1 m 4 = (len : Int)) (hl60 : len ≤ 60) (hb : ∀ j, j < len → -100000000 ≤ w.1 (m + 4) j ∧ w.1 (m + 4) j ≤ 100000000) (hx : x < 4) (hlaw : w.1 (m + 2) (1 + 10 * x) = law) (hfig : w.1 (m + 2) (2 + 10 * x) = f) (hl0 : 0 ≤ law) (hl6 : law ≤ 6) (hf : 0 ≤ f ∧ f ≤ 9) (hn : n < 2147483648) : jCall 153 [jO m, jI (x : Int), jI (n : Int)] w (fun v w1 => (v = some (jI 1) ∧ zkp law (w.1 (m + 4)) len n ∧ w1 = jW (jW w m 8 (zu (zku law f (w.1 (m + 4)) n) (zkd law (w.1 (m + 4)) n))) m 9 (zv (zku law f (w.1 (m + 4)) n) (zkd law (w.1 (m + 4)) n)) ∧ (-200000000000000000 ≤ (zu (zku law f (w.1 (m + 4)) n) (zkd law (w.1 (m + 4)) n)) ∧ (zu (zku law f (w.1 (m + 4)) n) (zkd law (w.1 (m + 4)) n)) ≤ 200000000000000000) ∧ 1 ≤ (zv (zku law f (w.1 (m + 4)) n) (zkd law (w.1 (m + 4)) n)) ∧ (zv (zku law f (w.1 (m + 4)) n) (zkd law (w.1 (m + 4)) n)) ≤ 200000000000000000) ∨ (v = some (jI 0) ∧ ¬ zkp law (w.1 (m + 4)) len n ∧ w1 = w)) := by
  have mt : jtb 153 = jT153 := rfl
  show jWp 153 0 [some (jO m), some (jI (x : Int)), some (jI (n : Int)), none, none, none, none, none, none, none, none] [] 0 0 w _
  refine jWp.blk mt 2 ?_
  show _ ∧ jWp 153 2 [some (jO m), some (jI (x : Int)), some (jI (n : Int)), none, none, none, none, none, none, none, none] [jI (x : Int), jO m] 0 0 w _
  refine ⟨rfl, ?_⟩
  refine jWp.callv (as := [jO m, jI (x : Int)]) (rest := []) mt rfl rfl rfl ⟨rfl, jtg hW.K0⟩ ?_
  refine jCall.mono ((by have h := E_law (w := w) (x := x) hW hx; rw [hlaw] at h; exact h)) (fun v9 w9 h9 => ?_)
  obtain ⟨rfl, h9⟩ := h9
  subst w9
  show jWp 153 5 [some (jO m), some (jI (x : Int)), some (jI (n : Int)), none, none, none, none, none, none, none, none] [jI law] 0 0 w _
  refine jWp.blk mt 2 ?_
  show jWp 153 7 [some (jO m), some (jI (x : Int)), some (jI (n : Int)), some (jI law), none, none, none, none, none, none, none] [jI law] 0 0 w _
  refine jWp.ifz (pc' := 10) mt rfl rfl (b32_id (by omega) (by omega)) (fun h1 => ?_) (fun h1 => ?_)
  · have h1 : law ≠ 0 := h1
    refine jWp.blk mt 2 ?_
    show jWp 153 16 [some (jO m), some (jI (x : Int)), some (jI (n : Int)), some (jI law), none, none, none, none, none, none, none] [jI 1, jI law] 0 0 w _
    refine jWp.icmp (pc' := 19) mt rfl rfl (b32_id (by omega) (by omega)) (show b32 1 = 1 by decide) (fun h2 => ?_) (fun h2 => ?_)
    · have h2 : law ≠ 1 := h2
      refine jWp.blk mt 2 ?_
      show jWp 153 25 [some (jO m), some (jI (x : Int)), some (jI (n : Int)), some (jI law), none, none, none, none, none, none, none] [jI 3, jI law] 0 0 w _
      refine jWp.icmp (pc' := 28) mt rfl rfl (b32_id (by omega) (by omega)) (show b32 3 = 3 by decide) (fun h3 => ?_) (fun h3 => ?_)
      · have h3 : law ≠ 3 := h3
        refine jWp.blk mt 3 ?_
        show jWp 153 37 [some (jO m), some (jI (x : Int)), some (jI (n : Int)), some (jI law), some (jI 0), none, none, none, none, none, none] [jI 0] 0 0 w _
        refine jWp.ifc (b := true) mt rfl (by decide) rfl ?_
        show jWp 153 56 [some (jO m), some (jI (x : Int)), some (jI (n : Int)), some (jI law), some (jI 0), none, none, none, none, none, none] [] 0 0 w _
        refine jWp.blk mt 1 ?_
        show jWp 153 57 [some (jO m), some (jI (x : Int)), some (jI (n : Int)), some (jI law), some (jI 0), none, none, none, none, none, none] [jI 0] 0 0 w _
        refine jWp.iretz mt rfl ⟨rfl, rfl⟩ rfl (Or.inl rfl) ?_
        refine Or.inr ⟨rfl, fun g => ?_, rfl⟩
        first
        | (exact g.1 (by unfold zkm; rw [if_neg (by omega), if_neg (by omega), if_neg (by omega)]))
        | (have := zkp_l g; omega)
        | (have ez : zkm law = 2 := by unfold zkm; rw [if_pos (by omega)]
           have g2 := g.2; rw [ez] at g2; exact absurd g2 (by assumption))
        | (have ez : zkm law = 3 := by unfold zkm; rw [if_neg (by omega), if_pos (by omega)]
           have g2 := g.2; rw [ez] at g2; exact absurd g2 (by assumption))
        | (have ez : zkm law = 4 := by unfold zkm; rw [if_neg (by omega), if_neg (by omega), if_pos (by omega)]
           have g2 := g.2; rw [ez] at g2; exact absurd g2 (by assumption))
      · have h3 : law = 3 := h3
        refine jWp.blk mt 4 ?_
        show jWp 153 37 [some (jO m), some (jI (x : Int)), some (jI (n : Int)), some (jI law), some (jI 4), none, none, none, none, none, none] [jI 4] 0 0 w _
        refine jWp.ifc (b := false) mt rfl (by decide) rfl ?_
        show jWp 153 40 [some (jO m), some (jI (x : Int)), some (jI (n : Int)), some (jI law), some (jI 4), none, none, none, none, none, none] [] 0 0 w _
        refine jWp.blk mt 2 ?_
        show jWp 153 43 [some (jO m), some (jI (x : Int)), some (jI (n : Int)), some (jI law), some (jI 4), none, none, none, none, none, none] [jI 60, jI (n : Int)] 0 0 w _
        refine jWp.icmp (pc' := 46) mt rfl rfl (b32_id (by omega) (by omega)) (show b32 60 = 60 by decide) (fun h4 => ?_) (fun h4 => ?_)
        · have h4 : 60 ≤ (n : Int) := h4
          refine jWp.blk mt 1 ?_
          show jWp 153 57 [some (jO m), some (jI (x : Int)), some (jI (n : Int)), some (jI law), some (jI 4), none, none, none, none, none, none] [jI 0] 0 0 w _
          refine jWp.iretz mt rfl ⟨rfl, rfl⟩ rfl (Or.inl rfl) ?_
          refine Or.inr ⟨rfl, fun g => ?_, rfl⟩
          first
          | (exact g.1 (by unfold zkm; rw [if_neg (by omega), if_neg (by omega), if_neg (by omega)]))
          | (have := zkp_l g; omega)
          | (have ez : zkm law = 2 := by unfold zkm; rw [if_pos (by omega)]
             have g2 := g.2; rw [ez] at g2; exact absurd g2 (by assumption))
          | (have ez : zkm law = 3 := by unfold zkm; rw [if_neg (by omega), if_pos (by omega)]
             have g2 := g.2; rw [ez] at g2; exact absurd g2 (by assumption))
          | (have ez : zkm law = 4 := by unfold zkm; rw [if_neg (by omega), if_neg (by omega), if_pos (by omega)]
             have g2 := g.2; rw [ez] at g2; exact absurd g2 (by assumption))
        · have h4 : (n : Int) < 60 := h4
          refine jWp.blk mt 3 ?_
          show _ ∧ jWp 153 50 [some (jO m), some (jI (x : Int)), some (jI (n : Int)), some (jI law), some (jI 4), none, none, none, none, none, none] [jI 4, jI (n : Int), jO m] 0 0 w _
          refine ⟨rfl, ?_⟩
          refine jWp.callv (as := [jO m, jI (n : Int), jI 4]) (rest := []) mt rfl rfl rfl ⟨rfl, jtg hW.K0⟩ ?_
          refine jCall.mono (E_areKept (w := w) (len := len) (n := n) (q := 4) hW hl hl60 hb (by omega) (by decide)) (fun v9 w9 h9 => ?_)
          rcases h9 with ⟨rfl, h9, h5⟩ | ⟨rfl, h9, h5⟩ <;> subst w9
          · have h5 : ∀ k, n ≤ k → k < n + 4 → k < len ∧ 1 ≤ w.1 (m + 4) k ∧ w.1 (m + 4) k ≤ 9999 := h5
            show jWp 153 53 [some (jO m), some (jI (x : Int)), some (jI (n : Int)), some (jI law), some (jI 4), none, none, none, none, none, none] [jI 1] 0 0 w _
            have b0 := h5 (n + 0) (by omega) (by omega)
            have b1 := h5 (n + 1) (by omega) (by omega)
            have b2 := h5 (n + 2) (by omega) (by omega)
            have b3 := h5 (n + 3) (by omega) (by omega)
            have hU := zkU3 hf b0.2 b1.2 b2.2 b3.2
            rw [show n + 0 = n from rfl] at b0 hU
            refine jWp.ifc (b := true) mt rfl (by decide) rfl ?_
            show jWp 153 58 [some (jO m), some (jI (x : Int)), some (jI (n : Int)), some (jI law), some (jI 4), none, none, none, none, none, none] [] 0 0 w _
            refine jWp.blk mt 2 ?_
            show _ ∧ jWp 153 60 [some (jO m), some (jI (x : Int)), some (jI (n : Int)), some (jI law), some (jI 4), none, none, none, none, none, none] [jI (x : Int), jO m] 0 0 w _
            refine ⟨rfl, ?_⟩
            refine jWp.callv (as := [jO m, jI (x : Int)]) (rest := []) mt rfl rfl rfl ⟨rfl, jtg hW.K0⟩ ?_
            refine jCall.mono ((by have h := E_figure (w := w) (x := x) hW hx; rw [hfig] at h; exact h)) (fun v9 w9 h9 => ?_)
            obtain ⟨rfl, h9⟩ := h9
            subst w9
            show jWp 153 63 [some (jO m), some (jI (x : Int)), some (jI (n : Int)), some (jI law), some (jI 4), none, none, none, none, none, none] [jI f] 0 0 w _
            refine jWp.i2l (pc' := 64) mt rfl rfl (b32_id (by omega) (by omega)) ?_
            show jWp 153 64 [some (jO m), some (jI (x : Int)), some (jI (n : Int)), some (jI law), some (jI 4), none, none, none, none, none, none] [jJ f] 0 0 w _
            refine jWp.blk mt 2 ?_
            show jWp 153 67 [some (jO m), some (jI (x : Int)), some (jI (n : Int)), some (jI law), some (jI 4), some (jJ f), none, none, none, none, none] [jI law] 0 0 w _
            refine jWp.ifz (pc' := 70) mt rfl rfl (b32_id (by omega) (by omega)) (fun h6 => ?_) (fun h6 => ?_)
            · have h6 : law ≠ 0 := h6
              refine jWp.blk mt 2 ?_
              show jWp 153 134 [some (jO m), some (jI (x : Int)), some (jI (n : Int)), some (jI law), some (jI 4), some (jJ f), none, none, none, none, none] [jI 1, jI law] 0 0 w _
              refine jWp.icmp (pc' := 137) mt rfl rfl (b32_id (by omega) (by omega)) (show b32 1 = 1 by decide) (fun h7 => ?_) (fun h7 => ?_)
              · have h7 : law ≠ 1 := h7
                refine jWp.blk mt 1 ?_
                show _ ∧ jWp 153 172 [some (jO m), some (jI (x : Int)), some (jI (n : Int)), some (jI law), some (jI 4), some (jJ f), none, none, none, none, none] [jO m] 0 0 w _
                refine ⟨rfl, ?_⟩
                refine jWp.getR (pc' := 175) (o := (m + 4)) mt rfl rfl (jtg hW.K0) hW.R3 ?_
                show jWp 153 175 [some (jO m), some (jI (x : Int)), some (jI (n : Int)), some (jI law), some (jI 4), some (jJ f), none, none, none, none, none] [jO (m + 4)] 0 0 w _
                refine jWp.blk mt 1 ?_
                show jWp 153 176 [some (jO m), some (jI (x : Int)), some (jI (n : Int)), some (jI law), some (jI 4), some (jJ f), none, none, none, none, none] [jI (n : Int), jO (m + 4)] 0 0 w _
                refine jWp.lald (pc' := 177) (j := n) mt rfl rfl (jtg hW.K4) (b32_id (by omega) (by omega)) (jlt hW.K4 (by omega)) ?_
                show jWp 153 177 [some (jO m), some (jI (x : Int)), some (jI (n : Int)), some (jI law), some (jI 4), some (jJ f), none, none, none, none, none] [jJ (w.1 (m + 4) n)] 0 0 w _
                refine jWp.blk mt 1 ?_
                show _ ∧ jWp 153 178 [some (jO m), some (jI (x : Int)), some (jI (n : Int)), some (jI law), some (jI 4), some (jJ f), none, none, none, none, none] [jO m, jJ (w.1 (m + 4) n)] 0 0 w _
                refine ⟨rfl, ?_⟩
                refine jWp.getR (pc' := 181) (o := (m + 4)) mt rfl rfl (jtg hW.K0) hW.R3 ?_
                show jWp 153 181 [some (jO m), some (jI (x : Int)), some (jI (n : Int)), some (jI law), some (jI 4), some (jJ f), none, none, none, none, none] [jO (m + 4), jJ (w.1 (m + 4) n)] 0 0 w _
                refine jWp.blk mt 3 ?_
                show jWp 153 184 [some (jO m), some (jI (x : Int)), some (jI (n : Int)), some (jI law), some (jI 4), some (jJ f), none, none, none, none, none] [jI ((n : Int) + 3), jO (m + 4), jJ (w.1 (m + 4) n)] 0 0 w _
                refine jWp.lald (pc' := 185) (j := (n + 3)) mt rfl rfl (jtg hW.K4) (by rw [b32_id (by omega) (by omega)]; omega) (jlt hW.K4 (by omega)) ?_
                show jWp 153 185 [some (jO m), some (jI (x : Int)), some (jI (n : Int)), some (jI law), some (jI 4), some (jJ f), none, none, none, none, none] [jJ (w.1 (m + 4) (n + 3)), jJ (w.1 (m + 4) n)] 0 0 w _
                refine jWp.blk mt 3 ?_
                show _ ∧ jWp 153 189 [some (jO m), some (jI (x : Int)), some (jI (n : Int)), some (jI law), some (jI 4), some (jJ f), none, some (jJ ((w.1 (m + 4) n) * (w.1 (m + 4) (n + 3)))), none, none, none] [jO m] 0 0 w _
                refine ⟨rfl, ?_⟩
                refine jWp.getR (pc' := 192) (o := (m + 4)) mt rfl rfl (jtg hW.K0) hW.R3 ?_
                show jWp 153 192 [some (jO m), some (jI (x : Int)), some (jI (n : Int)), some (jI law), some (jI 4), some (jJ f), none, some (jJ ((w.1 (m + 4) n) * (w.1 (m + 4) (n + 3)))), none, none, none] [jO (m + 4)] 0 0 w _
                refine jWp.blk mt 3 ?_
                show jWp 153 195 [some (jO m), some (jI (x : Int)), some (jI (n : Int)), some (jI law), some (jI 4), some (jJ f), none, some (jJ ((w.1 (m + 4) n) * (w.1 (m + 4) (n + 3)))), none, none, none] [jI ((n : Int) + 1), jO (m + 4)] 0 0 w _
                refine jWp.lald (pc' := 196) (j := (n + 1)) mt rfl rfl (jtg hW.K4) (by rw [b32_id (by omega) (by omega)]; omega) (jlt hW.K4 (by omega)) ?_
                show jWp 153 196 [some (jO m), some (jI (x : Int)), some (jI (n : Int)), some (jI law), some (jI 4), some (jJ f), none, some (jJ ((w.1 (m + 4) n) * (w.1 (m + 4) (n + 3)))), none, none, none] [jJ (w.1 (m + 4) (n + 1))] 0 0 w _
                refine jWp.blk mt 1 ?_
                show _ ∧ jWp 153 197 [some (jO m), some (jI (x : Int)), some (jI (n : Int)), some (jI law), some (jI 4), some (jJ f), none, some (jJ ((w.1 (m + 4) n) * (w.1 (m + 4) (n + 3)))), none, none, none] [jO m, jJ (w.1 (m + 4) (n + 1))] 0 0 w _
                refine ⟨rfl, ?_⟩
                refine jWp.getR (pc' := 200) (o := (m + 4)) mt rfl rfl (jtg hW.K0) hW.R3 ?_
                show jWp 153 200 [some (jO m), some (jI (x : Int)), some (jI (n : Int)), some (jI law), some (jI 4), some (jJ f), none, some (jJ ((w.1 (m + 4) n) * (w.1 (m + 4) (n + 3)))), none, none, none] [jO (m + 4), jJ (w.1 (m + 4) (n + 1))] 0 0 w _
                refine jWp.blk mt 3 ?_
                show jWp 153 203 [some (jO m), some (jI (x : Int)), some (jI (n : Int)), some (jI law), some (jI 4), some (jJ f), none, some (jJ ((w.1 (m + 4) n) * (w.1 (m + 4) (n + 3)))), none, none, none] [jI ((n : Int) + 2), jO (m + 4), jJ (w.1 (m + 4) (n + 1))] 0 0 w _
                refine jWp.lald (pc' := 204) (j := (n + 2)) mt rfl rfl (jtg hW.K4) (by rw [b32_id (by omega) (by omega)]; omega) (jlt hW.K4 (by omega)) ?_
                show jWp 153 204 [some (jO m), some (jI (x : Int)), some (jI (n : Int)), some (jI law), some (jI 4), some (jJ f), none, some (jJ ((w.1 (m + 4) n) * (w.1 (m + 4) (n + 3)))), none, none, none] [jJ (w.1 (m + 4) (n + 2)), jJ (w.1 (m + 4) (n + 1))] 0 0 w _
                refine jWp.blk mt 7 ?_
                show _ ∧ _ ∧ jWp 153 214 [some (jO m), some (jI (x : Int)), some (jI (n : Int)), some (jI law), some (jI 4), some (jJ f), none, some (jJ ((w.1 (m + 4) n) * (w.1 (m + 4) (n + 3)))), none, some (jJ ((w.1 (m + 4) (n + 1)) * (w.1 (m + 4) (n + 2)))), none] [jO m, jJ (((w.1 (m + 4) n) * (w.1 (m + 4) (n + 3))) * ((w.1 (m + 4) n) * (w.1 (m + 4) (n + 3)))), jO m] 0 0 w _
                refine ⟨rfl, rfl, ?_⟩
                refine jWp.getR (pc' := 217) (o := (m + 4)) mt rfl rfl (jtg hW.K0) hW.R3 ?_
                show jWp 153 217 [some (jO m), some (jI (x : Int)), some (jI (n : Int)), some (jI law), some (jI 4), some (jJ f), none, some (jJ ((w.1 (m + 4) n) * (w.1 (m + 4) (n + 3)))), none, some (jJ ((w.1 (m + 4) (n + 1)) * (w.1 (m + 4) (n + 2)))), none] [jO (m + 4), jJ (((w.1 (m + 4) n) * (w.1 (m + 4) (n + 3))) * ((w.1 (m + 4) n) * (w.1 (m + 4) (n + 3)))), jO m] 0 0 w _
                refine jWp.blk mt 3 ?_
                show jWp 153 220 [some (jO m), some (jI (x : Int)), some (jI (n : Int)), some (jI law), some (jI 4), some (jJ f), none, some (jJ ((w.1 (m + 4) n) * (w.1 (m + 4) (n + 3)))), none, some (jJ ((w.1 (m + 4) (n + 1)) * (w.1 (m + 4) (n + 2)))), none] [jI ((n : Int) + 1), jO (m + 4), jJ (((w.1 (m + 4) n) * (w.1 (m + 4) (n + 3))) * ((w.1 (m + 4) n) * (w.1 (m + 4) (n + 3)))), jO m] 0 0 w _
                refine jWp.lald (pc' := 221) (j := (n + 1)) mt rfl rfl (jtg hW.K4) (by rw [b32_id (by omega) (by omega)]; omega) (jlt hW.K4 (by omega)) ?_
                show jWp 153 221 [some (jO m), some (jI (x : Int)), some (jI (n : Int)), some (jI law), some (jI 4), some (jJ f), none, some (jJ ((w.1 (m + 4) n) * (w.1 (m + 4) (n + 3)))), none, some (jJ ((w.1 (m + 4) (n + 1)) * (w.1 (m + 4) (n + 2)))), none] [jJ (w.1 (m + 4) (n + 1)), jJ (((w.1 (m + 4) n) * (w.1 (m + 4) (n + 3))) * ((w.1 (m + 4) n) * (w.1 (m + 4) (n + 3)))), jO m] 0 0 w _
                refine jWp.blk mt 1 ?_
                show _ ∧ jWp 153 222 [some (jO m), some (jI (x : Int)), some (jI (n : Int)), some (jI law), some (jI 4), some (jJ f), none, some (jJ ((w.1 (m + 4) n) * (w.1 (m + 4) (n + 3)))), none, some (jJ ((w.1 (m + 4) (n + 1)) * (w.1 (m + 4) (n + 2)))), none] [jO m, jJ (w.1 (m + 4) (n + 1)), jJ (((w.1 (m + 4) n) * (w.1 (m + 4) (n + 3))) * ((w.1 (m + 4) n) * (w.1 (m + 4) (n + 3)))), jO m] 0 0 w _
                refine ⟨rfl, ?_⟩
                refine jWp.getR (pc' := 225) (o := (m + 4)) mt rfl rfl (jtg hW.K0) hW.R3 ?_
                show jWp 153 225 [some (jO m), some (jI (x : Int)), some (jI (n : Int)), some (jI law), some (jI 4), some (jJ f), none, some (jJ ((w.1 (m + 4) n) * (w.1 (m + 4) (n + 3)))), none, some (jJ ((w.1 (m + 4) (n + 1)) * (w.1 (m + 4) (n + 2)))), none] [jO (m + 4), jJ (w.1 (m + 4) (n + 1)), jJ (((w.1 (m + 4) n) * (w.1 (m + 4) (n + 3))) * ((w.1 (m + 4) n) * (w.1 (m + 4) (n + 3)))), jO m] 0 0 w _
                refine jWp.blk mt 3 ?_
                show jWp 153 228 [some (jO m), some (jI (x : Int)), some (jI (n : Int)), some (jI law), some (jI 4), some (jJ f), none, some (jJ ((w.1 (m + 4) n) * (w.1 (m + 4) (n + 3)))), none, some (jJ ((w.1 (m + 4) (n + 1)) * (w.1 (m + 4) (n + 2)))), none] [jI ((n : Int) + 1), jO (m + 4), jJ (w.1 (m + 4) (n + 1)), jJ (((w.1 (m + 4) n) * (w.1 (m + 4) (n + 3))) * ((w.1 (m + 4) n) * (w.1 (m + 4) (n + 3)))), jO m] 0 0 w _
                refine jWp.lald (pc' := 229) (j := (n + 1)) mt rfl rfl (jtg hW.K4) (by rw [b32_id (by omega) (by omega)]; omega) (jlt hW.K4 (by omega)) ?_
                show jWp 153 229 [some (jO m), some (jI (x : Int)), some (jI (n : Int)), some (jI law), some (jI 4), some (jJ f), none, some (jJ ((w.1 (m + 4) n) * (w.1 (m + 4) (n + 3)))), none, some (jJ ((w.1 (m + 4) (n + 1)) * (w.1 (m + 4) (n + 2)))), none] [jJ (w.1 (m + 4) (n + 1)), jJ (w.1 (m + 4) (n + 1)), jJ (((w.1 (m + 4) n) * (w.1 (m + 4) (n + 3))) * ((w.1 (m + 4) n) * (w.1 (m + 4) (n + 3)))), jO m] 0 0 w _
                refine jWp.blk mt 2 ?_
                show _ ∧ jWp 153 231 [some (jO m), some (jI (x : Int)), some (jI (n : Int)), some (jI law), some (jI 4), some (jJ f), none, some (jJ ((w.1 (m + 4) n) * (w.1 (m + 4) (n + 3)))), none, some (jJ ((w.1 (m + 4) (n + 1)) * (w.1 (m + 4) (n + 2)))), none] [jO m, jJ ((w.1 (m + 4) (n + 1)) * (w.1 (m + 4) (n + 1))), jJ (((w.1 (m + 4) n) * (w.1 (m + 4) (n + 3))) * ((w.1 (m + 4) n) * (w.1 (m + 4) (n + 3)))), jO m] 0 0 w _
                refine ⟨rfl, ?_⟩
                refine jWp.getR (pc' := 234) (o := (m + 4)) mt rfl rfl (jtg hW.K0) hW.R3 ?_
                show jWp 153 234 [some (jO m), some (jI (x : Int)), some (jI (n : Int)), some (jI law), some (jI 4), some (jJ f), none, some (jJ ((w.1 (m + 4) n) * (w.1 (m + 4) (n + 3)))), none, some (jJ ((w.1 (m + 4) (n + 1)) * (w.1 (m + 4) (n + 2)))), none] [jO (m + 4), jJ ((w.1 (m + 4) (n + 1)) * (w.1 (m + 4) (n + 1))), jJ (((w.1 (m + 4) n) * (w.1 (m + 4) (n + 3))) * ((w.1 (m + 4) n) * (w.1 (m + 4) (n + 3)))), jO m] 0 0 w _
                refine jWp.blk mt 3 ?_
                show jWp 153 237 [some (jO m), some (jI (x : Int)), some (jI (n : Int)), some (jI law), some (jI 4), some (jJ f), none, some (jJ ((w.1 (m + 4) n) * (w.1 (m + 4) (n + 3)))), none, some (jJ ((w.1 (m + 4) (n + 1)) * (w.1 (m + 4) (n + 2)))), none] [jI ((n : Int) + 1), jO (m + 4), jJ ((w.1 (m + 4) (n + 1)) * (w.1 (m + 4) (n + 1))), jJ (((w.1 (m + 4) n) * (w.1 (m + 4) (n + 3))) * ((w.1 (m + 4) n) * (w.1 (m + 4) (n + 3)))), jO m] 0 0 w _
                refine jWp.lald (pc' := 238) (j := (n + 1)) mt rfl rfl (jtg hW.K4) (by rw [b32_id (by omega) (by omega)]; omega) (jlt hW.K4 (by omega)) ?_
                show jWp 153 238 [some (jO m), some (jI (x : Int)), some (jI (n : Int)), some (jI law), some (jI 4), some (jJ f), none, some (jJ ((w.1 (m + 4) n) * (w.1 (m + 4) (n + 3)))), none, some (jJ ((w.1 (m + 4) (n + 1)) * (w.1 (m + 4) (n + 2)))), none] [jJ (w.1 (m + 4) (n + 1)), jJ ((w.1 (m + 4) (n + 1)) * (w.1 (m + 4) (n + 1))), jJ (((w.1 (m + 4) n) * (w.1 (m + 4) (n + 3))) * ((w.1 (m + 4) n) * (w.1 (m + 4) (n + 3)))), jO m] 0 0 w _
                refine jWp.blk mt 2 ?_
                show _ ∧ jWp 153 240 [some (jO m), some (jI (x : Int)), some (jI (n : Int)), some (jI law), some (jI 4), some (jJ f), none, some (jJ ((w.1 (m + 4) n) * (w.1 (m + 4) (n + 3)))), none, some (jJ ((w.1 (m + 4) (n + 1)) * (w.1 (m + 4) (n + 2)))), none] [jO m, jJ (((w.1 (m + 4) (n + 1)) * (w.1 (m + 4) (n + 1))) * (w.1 (m + 4) (n + 1))), jJ (((w.1 (m + 4) n) * (w.1 (m + 4) (n + 3))) * ((w.1 (m + 4) n) * (w.1 (m + 4) (n + 3)))), jO m] 0 0 w _
                refine ⟨rfl, ?_⟩
                refine jWp.getR (pc' := 243) (o := (m + 4)) mt rfl rfl (jtg hW.K0) hW.R3 ?_
                show jWp 153 243 [some (jO m), some (jI (x : Int)), some (jI (n : Int)), some (jI law), some (jI 4), some (jJ f), none, some (jJ ((w.1 (m + 4) n) * (w.1 (m + 4) (n + 3)))), none, some (jJ ((w.1 (m + 4) (n + 1)) * (w.1 (m + 4) (n + 2)))), none] [jO (m + 4), jJ (((w.1 (m + 4) (n + 1)) * (w.1 (m + 4) (n + 1))) * (w.1 (m + 4) (n + 1))), jJ (((w.1 (m + 4) n) * (w.1 (m + 4) (n + 3))) * ((w.1 (m + 4) n) * (w.1 (m + 4) (n + 3)))), jO m] 0 0 w _
                refine jWp.blk mt 3 ?_
                show jWp 153 246 [some (jO m), some (jI (x : Int)), some (jI (n : Int)), some (jI law), some (jI 4), some (jJ f), none, some (jJ ((w.1 (m + 4) n) * (w.1 (m + 4) (n + 3)))), none, some (jJ ((w.1 (m + 4) (n + 1)) * (w.1 (m + 4) (n + 2)))), none] [jI ((n : Int) + 3), jO (m + 4), jJ (((w.1 (m + 4) (n + 1)) * (w.1 (m + 4) (n + 1))) * (w.1 (m + 4) (n + 1))), jJ (((w.1 (m + 4) n) * (w.1 (m + 4) (n + 3))) * ((w.1 (m + 4) n) * (w.1 (m + 4) (n + 3)))), jO m] 0 0 w _
                refine jWp.lald (pc' := 247) (j := (n + 3)) mt rfl rfl (jtg hW.K4) (by rw [b32_id (by omega) (by omega)]; omega) (jlt hW.K4 (by omega)) ?_
                show jWp 153 247 [some (jO m), some (jI (x : Int)), some (jI (n : Int)), some (jI law), some (jI 4), some (jJ f), none, some (jJ ((w.1 (m + 4) n) * (w.1 (m + 4) (n + 3)))), none, some (jJ ((w.1 (m + 4) (n + 1)) * (w.1 (m + 4) (n + 2)))), none] [jJ (w.1 (m + 4) (n + 3)), jJ (((w.1 (m + 4) (n + 1)) * (w.1 (m + 4) (n + 1))) * (w.1 (m + 4) (n + 1))), jJ (((w.1 (m + 4) n) * (w.1 (m + 4) (n + 3))) * ((w.1 (m + 4) n) * (w.1 (m + 4) (n + 3)))), jO m] 0 0 w _
                refine jWp.blk mt 3 ?_
                show _ ∧ jWp 153 250 [some (jO m), some (jI (x : Int)), some (jI (n : Int)), some (jI law), some (jI 4), some (jJ f), none, some (jJ ((w.1 (m + 4) n) * (w.1 (m + 4) (n + 3)))), none, some (jJ ((w.1 (m + 4) (n + 1)) * (w.1 (m + 4) (n + 2)))), none] [jO m, jJ ((((w.1 (m + 4) n) * (w.1 (m + 4) (n + 3))) * ((w.1 (m + 4) n) * (w.1 (m + 4) (n + 3)))) + ((((w.1 (m + 4) (n + 1)) * (w.1 (m + 4) (n + 1))) * (w.1 (m + 4) (n + 1))) * (w.1 (m + 4) (n + 3)))), jO m] 0 0 w _
                refine ⟨rfl, ?_⟩
                refine jWp.getR (pc' := 253) (o := (m + 4)) mt rfl rfl (jtg hW.K0) hW.R3 ?_
                show jWp 153 253 [some (jO m), some (jI (x : Int)), some (jI (n : Int)), some (jI law), some (jI 4), some (jJ f), none, some (jJ ((w.1 (m + 4) n) * (w.1 (m + 4) (n + 3)))), none, some (jJ ((w.1 (m + 4) (n + 1)) * (w.1 (m + 4) (n + 2)))), none] [jO (m + 4), jJ ((((w.1 (m + 4) n) * (w.1 (m + 4) (n + 3))) * ((w.1 (m + 4) n) * (w.1 (m + 4) (n + 3)))) + ((((w.1 (m + 4) (n + 1)) * (w.1 (m + 4) (n + 1))) * (w.1 (m + 4) (n + 1))) * (w.1 (m + 4) (n + 3)))), jO m] 0 0 w _
                refine jWp.blk mt 3 ?_
                show jWp 153 256 [some (jO m), some (jI (x : Int)), some (jI (n : Int)), some (jI law), some (jI 4), some (jJ f), none, some (jJ ((w.1 (m + 4) n) * (w.1 (m + 4) (n + 3)))), none, some (jJ ((w.1 (m + 4) (n + 1)) * (w.1 (m + 4) (n + 2)))), none] [jI ((n : Int) + 2), jO (m + 4), jJ ((((w.1 (m + 4) n) * (w.1 (m + 4) (n + 3))) * ((w.1 (m + 4) n) * (w.1 (m + 4) (n + 3)))) + ((((w.1 (m + 4) (n + 1)) * (w.1 (m + 4) (n + 1))) * (w.1 (m + 4) (n + 1))) * (w.1 (m + 4) (n + 3)))), jO m] 0 0 w _
                refine jWp.lald (pc' := 257) (j := (n + 2)) mt rfl rfl (jtg hW.K4) (by rw [b32_id (by omega) (by omega)]; omega) (jlt hW.K4 (by omega)) ?_
                show jWp 153 257 [some (jO m), some (jI (x : Int)), some (jI (n : Int)), some (jI law), some (jI 4), some (jJ f), none, some (jJ ((w.1 (m + 4) n) * (w.1 (m + 4) (n + 3)))), none, some (jJ ((w.1 (m + 4) (n + 1)) * (w.1 (m + 4) (n + 2)))), none] [jJ (w.1 (m + 4) (n + 2)), jJ ((((w.1 (m + 4) n) * (w.1 (m + 4) (n + 3))) * ((w.1 (m + 4) n) * (w.1 (m + 4) (n + 3)))) + ((((w.1 (m + 4) (n + 1)) * (w.1 (m + 4) (n + 1))) * (w.1 (m + 4) (n + 1))) * (w.1 (m + 4) (n + 3)))), jO m] 0 0 w _
                refine jWp.blk mt 1 ?_
                show _ ∧ jWp 153 258 [some (jO m), some (jI (x : Int)), some (jI (n : Int)), some (jI law), some (jI 4), some (jJ f), none, some (jJ ((w.1 (m + 4) n) * (w.1 (m + 4) (n + 3)))), none, some (jJ ((w.1 (m + 4) (n + 1)) * (w.1 (m + 4) (n + 2)))), none] [jO m, jJ (w.1 (m + 4) (n + 2)), jJ ((((w.1 (m + 4) n) * (w.1 (m + 4) (n + 3))) * ((w.1 (m + 4) n) * (w.1 (m + 4) (n + 3)))) + ((((w.1 (m + 4) (n + 1)) * (w.1 (m + 4) (n + 1))) * (w.1 (m + 4) (n + 1))) * (w.1 (m + 4) (n + 3)))), jO m] 0 0 w _
                refine ⟨rfl, ?_⟩
                refine jWp.getR (pc' := 261) (o := (m + 4)) mt rfl rfl (jtg hW.K0) hW.R3 ?_
                show jWp 153 261 [some (jO m), some (jI (x : Int)), some (jI (n : Int)), some (jI law), some (jI 4), some (jJ f), none, some (jJ ((w.1 (m + 4) n) * (w.1 (m + 4) (n + 3)))), none, some (jJ ((w.1 (m + 4) (n + 1)) * (w.1 (m + 4) (n + 2)))), none] [jO (m + 4), jJ (w.1 (m + 4) (n + 2)), jJ ((((w.1 (m + 4) n) * (w.1 (m + 4) (n + 3))) * ((w.1 (m + 4) n) * (w.1 (m + 4) (n + 3)))) + ((((w.1 (m + 4) (n + 1)) * (w.1 (m + 4) (n + 1))) * (w.1 (m + 4) (n + 1))) * (w.1 (m + 4) (n + 3)))), jO m] 0 0 w _
                refine jWp.blk mt 3 ?_
                show jWp 153 264 [some (jO m), some (jI (x : Int)), some (jI (n : Int)), some (jI law), some (jI 4), some (jJ f), none, some (jJ ((w.1 (m + 4) n) * (w.1 (m + 4) (n + 3)))), none, some (jJ ((w.1 (m + 4) (n + 1)) * (w.1 (m + 4) (n + 2)))), none] [jI ((n : Int) + 2), jO (m + 4), jJ (w.1 (m + 4) (n + 2)), jJ ((((w.1 (m + 4) n) * (w.1 (m + 4) (n + 3))) * ((w.1 (m + 4) n) * (w.1 (m + 4) (n + 3)))) + ((((w.1 (m + 4) (n + 1)) * (w.1 (m + 4) (n + 1))) * (w.1 (m + 4) (n + 1))) * (w.1 (m + 4) (n + 3)))), jO m] 0 0 w _
                refine jWp.lald (pc' := 265) (j := (n + 2)) mt rfl rfl (jtg hW.K4) (by rw [b32_id (by omega) (by omega)]; omega) (jlt hW.K4 (by omega)) ?_
                show jWp 153 265 [some (jO m), some (jI (x : Int)), some (jI (n : Int)), some (jI law), some (jI 4), some (jJ f), none, some (jJ ((w.1 (m + 4) n) * (w.1 (m + 4) (n + 3)))), none, some (jJ ((w.1 (m + 4) (n + 1)) * (w.1 (m + 4) (n + 2)))), none] [jJ (w.1 (m + 4) (n + 2)), jJ (w.1 (m + 4) (n + 2)), jJ ((((w.1 (m + 4) n) * (w.1 (m + 4) (n + 3))) * ((w.1 (m + 4) n) * (w.1 (m + 4) (n + 3)))) + ((((w.1 (m + 4) (n + 1)) * (w.1 (m + 4) (n + 1))) * (w.1 (m + 4) (n + 1))) * (w.1 (m + 4) (n + 3)))), jO m] 0 0 w _
                refine jWp.blk mt 2 ?_
                show _ ∧ jWp 153 267 [some (jO m), some (jI (x : Int)), some (jI (n : Int)), some (jI law), some (jI 4), some (jJ f), none, some (jJ ((w.1 (m + 4) n) * (w.1 (m + 4) (n + 3)))), none, some (jJ ((w.1 (m + 4) (n + 1)) * (w.1 (m + 4) (n + 2)))), none] [jO m, jJ ((w.1 (m + 4) (n + 2)) * (w.1 (m + 4) (n + 2))), jJ ((((w.1 (m + 4) n) * (w.1 (m + 4) (n + 3))) * ((w.1 (m + 4) n) * (w.1 (m + 4) (n + 3)))) + ((((w.1 (m + 4) (n + 1)) * (w.1 (m + 4) (n + 1))) * (w.1 (m + 4) (n + 1))) * (w.1 (m + 4) (n + 3)))), jO m] 0 0 w _
                refine ⟨rfl, ?_⟩
                refine jWp.getR (pc' := 270) (o := (m + 4)) mt rfl rfl (jtg hW.K0) hW.R3 ?_
                show jWp 153 270 [some (jO m), some (jI (x : Int)), some (jI (n : Int)), some (jI law), some (jI 4), some (jJ f), none, some (jJ ((w.1 (m + 4) n) * (w.1 (m + 4) (n + 3)))), none, some (jJ ((w.1 (m + 4) (n + 1)) * (w.1 (m + 4) (n + 2)))), none] [jO (m + 4), jJ ((w.1 (m + 4) (n + 2)) * (w.1 (m + 4) (n + 2))), jJ ((((w.1 (m + 4) n) * (w.1 (m + 4) (n + 3))) * ((w.1 (m + 4) n) * (w.1 (m + 4) (n + 3)))) + ((((w.1 (m + 4) (n + 1)) * (w.1 (m + 4) (n + 1))) * (w.1 (m + 4) (n + 1))) * (w.1 (m + 4) (n + 3)))), jO m] 0 0 w _
                refine jWp.blk mt 1 ?_
                show jWp 153 271 [some (jO m), some (jI (x : Int)), some (jI (n : Int)), some (jI law), some (jI 4), some (jJ f), none, some (jJ ((w.1 (m + 4) n) * (w.1 (m + 4) (n + 3)))), none, some (jJ ((w.1 (m + 4) (n + 1)) * (w.1 (m + 4) (n + 2)))), none] [jI (n : Int), jO (m + 4), jJ ((w.1 (m + 4) (n + 2)) * (w.1 (m + 4) (n + 2))), jJ ((((w.1 (m + 4) n) * (w.1 (m + 4) (n + 3))) * ((w.1 (m + 4) n) * (w.1 (m + 4) (n + 3)))) + ((((w.1 (m + 4) (n + 1)) * (w.1 (m + 4) (n + 1))) * (w.1 (m + 4) (n + 1))) * (w.1 (m + 4) (n + 3)))), jO m] 0 0 w _
                refine jWp.lald (pc' := 272) (j := n) mt rfl rfl (jtg hW.K4) (b32_id (by omega) (by omega)) (jlt hW.K4 (by omega)) ?_
                show jWp 153 272 [some (jO m), some (jI (x : Int)), some (jI (n : Int)), some (jI law), some (jI 4), some (jJ f), none, some (jJ ((w.1 (m + 4) n) * (w.1 (m + 4) (n + 3)))), none, some (jJ ((w.1 (m + 4) (n + 1)) * (w.1 (m + 4) (n + 2)))), none] [jJ (w.1 (m + 4) n), jJ ((w.1 (m + 4) (n + 2)) * (w.1 (m + 4) (n + 2))), jJ ((((w.1 (m + 4) n) * (w.1 (m + 4) (n + 3))) * ((w.1 (m + 4) n) * (w.1 (m + 4) (n + 3)))) + ((((w.1 (m + 4) (n + 1)) * (w.1 (m + 4) (n + 1))) * (w.1 (m + 4) (n + 1))) * (w.1 (m + 4) (n + 3)))), jO m] 0 0 w _
                refine jWp.blk mt 2 ?_
                show _ ∧ jWp 153 274 [some (jO m), some (jI (x : Int)), some (jI (n : Int)), some (jI law), some (jI 4), some (jJ f), none, some (jJ ((w.1 (m + 4) n) * (w.1 (m + 4) (n + 3)))), none, some (jJ ((w.1 (m + 4) (n + 1)) * (w.1 (m + 4) (n + 2)))), none] [jO m, jJ (((w.1 (m + 4) (n + 2)) * (w.1 (m + 4) (n + 2))) * (w.1 (m + 4) n)), jJ ((((w.1 (m + 4) n) * (w.1 (m + 4) (n + 3))) * ((w.1 (m + 4) n) * (w.1 (m + 4) (n + 3)))) + ((((w.1 (m + 4) (n + 1)) * (w.1 (m + 4) (n + 1))) * (w.1 (m + 4) (n + 1))) * (w.1 (m + 4) (n + 3)))), jO m] 0 0 w _
                refine ⟨rfl, ?_⟩
                refine jWp.getR (pc' := 277) (o := (m + 4)) mt rfl rfl (jtg hW.K0) hW.R3 ?_
                show jWp 153 277 [some (jO m), some (jI (x : Int)), some (jI (n : Int)), some (jI law), some (jI 4), some (jJ f), none, some (jJ ((w.1 (m + 4) n) * (w.1 (m + 4) (n + 3)))), none, some (jJ ((w.1 (m + 4) (n + 1)) * (w.1 (m + 4) (n + 2)))), none] [jO (m + 4), jJ (((w.1 (m + 4) (n + 2)) * (w.1 (m + 4) (n + 2))) * (w.1 (m + 4) n)), jJ ((((w.1 (m + 4) n) * (w.1 (m + 4) (n + 3))) * ((w.1 (m + 4) n) * (w.1 (m + 4) (n + 3)))) + ((((w.1 (m + 4) (n + 1)) * (w.1 (m + 4) (n + 1))) * (w.1 (m + 4) (n + 1))) * (w.1 (m + 4) (n + 3)))), jO m] 0 0 w _
                refine jWp.blk mt 3 ?_
                show jWp 153 280 [some (jO m), some (jI (x : Int)), some (jI (n : Int)), some (jI law), some (jI 4), some (jJ f), none, some (jJ ((w.1 (m + 4) n) * (w.1 (m + 4) (n + 3)))), none, some (jJ ((w.1 (m + 4) (n + 1)) * (w.1 (m + 4) (n + 2)))), none] [jI ((n : Int) + 2), jO (m + 4), jJ (((w.1 (m + 4) (n + 2)) * (w.1 (m + 4) (n + 2))) * (w.1 (m + 4) n)), jJ ((((w.1 (m + 4) n) * (w.1 (m + 4) (n + 3))) * ((w.1 (m + 4) n) * (w.1 (m + 4) (n + 3)))) + ((((w.1 (m + 4) (n + 1)) * (w.1 (m + 4) (n + 1))) * (w.1 (m + 4) (n + 1))) * (w.1 (m + 4) (n + 3)))), jO m] 0 0 w _
                refine jWp.lald (pc' := 281) (j := (n + 2)) mt rfl rfl (jtg hW.K4) (by rw [b32_id (by omega) (by omega)]; omega) (jlt hW.K4 (by omega)) ?_
                show jWp 153 281 [some (jO m), some (jI (x : Int)), some (jI (n : Int)), some (jI law), some (jI 4), some (jJ f), none, some (jJ ((w.1 (m + 4) n) * (w.1 (m + 4) (n + 3)))), none, some (jJ ((w.1 (m + 4) (n + 1)) * (w.1 (m + 4) (n + 2)))), none] [jJ (w.1 (m + 4) (n + 2)), jJ (((w.1 (m + 4) (n + 2)) * (w.1 (m + 4) (n + 2))) * (w.1 (m + 4) n)), jJ ((((w.1 (m + 4) n) * (w.1 (m + 4) (n + 3))) * ((w.1 (m + 4) n) * (w.1 (m + 4) (n + 3)))) + ((((w.1 (m + 4) (n + 1)) * (w.1 (m + 4) (n + 1))) * (w.1 (m + 4) (n + 1))) * (w.1 (m + 4) (n + 3)))), jO m] 0 0 w _
                refine jWp.blk mt 8 ?_
                show jWp 153 292 [some (jO m), some (jI (x : Int)), some (jI (n : Int)), some (jI law), some (jI 4), some (jJ f), none, some (jJ ((w.1 (m + 4) n) * (w.1 (m + 4) (n + 3)))), none, some (jJ ((w.1 (m + 4) (n + 1)) * (w.1 (m + 4) (n + 2)))), none] [jJ ((((((w.1 (m + 4) n) * (w.1 (m + 4) (n + 3))) * ((w.1 (m + 4) n) * (w.1 (m + 4) (n + 3)))) + ((((w.1 (m + 4) (n + 1)) * (w.1 (m + 4) (n + 1))) * (w.1 (m + 4) (n + 1))) * (w.1 (m + 4) (n + 3)))) + ((((w.1 (m + 4) (n + 2)) * (w.1 (m + 4) (n + 2))) * (w.1 (m + 4) n)) * (w.1 (m + 4) (n + 2)))) + ((f * ((w.1 (m + 4) (n + 1)) * (w.1 (m + 4) (n + 2)))) * ((w.1 (m + 4) (n + 1)) * (w.1 (m + 4) (n + 2))))), jO m] 0 0 w _
                refine jWp.putJ (pc' := 295) mt rfl rfl (jtg hW.K0) ?_
                show jWp 153 295 [some (jO m), some (jI (x : Int)), some (jI (n : Int)), some (jI law), some (jI 4), some (jJ f), none, some (jJ ((w.1 (m + 4) n) * (w.1 (m + 4) (n + 3)))), none, some (jJ ((w.1 (m + 4) (n + 1)) * (w.1 (m + 4) (n + 2)))), none] [] 0 0 (jW w m 8 ((((((w.1 (m + 4) n) * (w.1 (m + 4) (n + 3))) * ((w.1 (m + 4) n) * (w.1 (m + 4) (n + 3)))) + ((((w.1 (m + 4) (n + 1)) * (w.1 (m + 4) (n + 1))) * (w.1 (m + 4) (n + 1))) * (w.1 (m + 4) (n + 3)))) + ((((w.1 (m + 4) (n + 2)) * (w.1 (m + 4) (n + 2))) * (w.1 (m + 4) n)) * (w.1 (m + 4) (n + 2)))) + ((f * ((w.1 (m + 4) (n + 1)) * (w.1 (m + 4) (n + 2)))) * ((w.1 (m + 4) (n + 1)) * (w.1 (m + 4) (n + 2)))))) _
                refine jWp.blk mt 4 ?_
                show _ ∧ jWp 153 301 [some (jO m), some (jI (x : Int)), some (jI (n : Int)), some (jI law), some (jI 4), some (jJ f), none, some (jJ ((w.1 (m + 4) n) * (w.1 (m + 4) (n + 3)))), none, some (jJ ((w.1 (m + 4) (n + 1)) * (w.1 (m + 4) (n + 2)))), none] [jJ (((w.1 (m + 4) n) * (w.1 (m + 4) (n + 3))) * ((w.1 (m + 4) (n + 1)) * (w.1 (m + 4) (n + 2)))), jO m] 0 0 (jW w m 8 ((((((w.1 (m + 4) n) * (w.1 (m + 4) (n + 3))) * ((w.1 (m + 4) n) * (w.1 (m + 4) (n + 3)))) + ((((w.1 (m + 4) (n + 1)) * (w.1 (m + 4) (n + 1))) * (w.1 (m + 4) (n + 1))) * (w.1 (m + 4) (n + 3)))) + ((((w.1 (m + 4) (n + 2)) * (w.1 (m + 4) (n + 2))) * (w.1 (m + 4) n)) * (w.1 (m + 4) (n + 2)))) + ((f * ((w.1 (m + 4) (n + 1)) * (w.1 (m + 4) (n + 2)))) * ((w.1 (m + 4) (n + 1)) * (w.1 (m + 4) (n + 2)))))) _
                refine ⟨rfl, ?_⟩
                refine jWp.putJ (pc' := 304) mt rfl rfl (jtg hW.K0) ?_
                show jWp 153 304 [some (jO m), some (jI (x : Int)), some (jI (n : Int)), some (jI law), some (jI 4), some (jJ f), none, some (jJ ((w.1 (m + 4) n) * (w.1 (m + 4) (n + 3)))), none, some (jJ ((w.1 (m + 4) (n + 1)) * (w.1 (m + 4) (n + 2)))), none] [] 0 0 (jW (jW w m 8 ((((((w.1 (m + 4) n) * (w.1 (m + 4) (n + 3))) * ((w.1 (m + 4) n) * (w.1 (m + 4) (n + 3)))) + ((((w.1 (m + 4) (n + 1)) * (w.1 (m + 4) (n + 1))) * (w.1 (m + 4) (n + 1))) * (w.1 (m + 4) (n + 3)))) + ((((w.1 (m + 4) (n + 2)) * (w.1 (m + 4) (n + 2))) * (w.1 (m + 4) n)) * (w.1 (m + 4) (n + 2)))) + ((f * ((w.1 (m + 4) (n + 1)) * (w.1 (m + 4) (n + 2)))) * ((w.1 (m + 4) (n + 1)) * (w.1 (m + 4) (n + 2)))))) m 9 (((w.1 (m + 4) n) * (w.1 (m + 4) (n + 3))) * ((w.1 (m + 4) (n + 1)) * (w.1 (m + 4) (n + 2))))) _
                refine jWp.blk mt 1 ?_
                show _ ∧ jWp 153 305 [some (jO m), some (jI (x : Int)), some (jI (n : Int)), some (jI law), some (jI 4), some (jJ f), none, some (jJ ((w.1 (m + 4) n) * (w.1 (m + 4) (n + 3)))), none, some (jJ ((w.1 (m + 4) (n + 1)) * (w.1 (m + 4) (n + 2)))), none] [jO m] 0 0 (jW (jW w m 8 ((((((w.1 (m + 4) n) * (w.1 (m + 4) (n + 3))) * ((w.1 (m + 4) n) * (w.1 (m + 4) (n + 3)))) + ((((w.1 (m + 4) (n + 1)) * (w.1 (m + 4) (n + 1))) * (w.1 (m + 4) (n + 1))) * (w.1 (m + 4) (n + 3)))) + ((((w.1 (m + 4) (n + 2)) * (w.1 (m + 4) (n + 2))) * (w.1 (m + 4) n)) * (w.1 (m + 4) (n + 2)))) + ((f * ((w.1 (m + 4) (n + 1)) * (w.1 (m + 4) (n + 2)))) * ((w.1 (m + 4) (n + 1)) * (w.1 (m + 4) (n + 2)))))) m 9 (((w.1 (m + 4) n) * (w.1 (m + 4) (n + 3))) * ((w.1 (m + 4) (n + 1)) * (w.1 (m + 4) (n + 2))))) _
                refine ⟨rfl, ?_⟩
                refine jWp.getJ (pc' := 308) mt rfl rfl (jtg hW.K0) ?_
                rw [show ((jW (jW w m 8 ((((((w.1 (m + 4) n) * (w.1 (m + 4) (n + 3))) * ((w.1 (m + 4) n) * (w.1 (m + 4) (n + 3)))) + ((((w.1 (m + 4) (n + 1)) * (w.1 (m + 4) (n + 1))) * (w.1 (m + 4) (n + 1))) * (w.1 (m + 4) (n + 3)))) + ((((w.1 (m + 4) (n + 2)) * (w.1 (m + 4) (n + 2))) * (w.1 (m + 4) n)) * (w.1 (m + 4) (n + 2)))) + ((f * ((w.1 (m + 4) (n + 1)) * (w.1 (m + 4) (n + 2)))) * ((w.1 (m + 4) (n + 1)) * (w.1 (m + 4) (n + 2)))))) m 9 (((w.1 (m + 4) n) * (w.1 (m + 4) (n + 3))) * ((w.1 (m + 4) (n + 1)) * (w.1 (m + 4) (n + 2))))).1 m 8) = ((((((w.1 (m + 4) n) * (w.1 (m + 4) (n + 3))) * ((w.1 (m + 4) n) * (w.1 (m + 4) (n + 3)))) + ((((w.1 (m + 4) (n + 1)) * (w.1 (m + 4) (n + 1))) * (w.1 (m + 4) (n + 1))) * (w.1 (m + 4) (n + 3)))) + ((((w.1 (m + 4) (n + 2)) * (w.1 (m + 4) (n + 2))) * (w.1 (m + 4) n)) * (w.1 (m + 4) (n + 2)))) + ((f * ((w.1 (m + 4) (n + 1)) * (w.1 (m + 4) (n + 2)))) * ((w.1 (m + 4) (n + 1)) * (w.1 (m + 4) (n + 2))))) from ((jW_k (by decide)).trans jW_s)]
                show jWp 153 308 [some (jO m), some (jI (x : Int)), some (jI (n : Int)), some (jI law), some (jI 4), some (jJ f), none, some (jJ ((w.1 (m + 4) n) * (w.1 (m + 4) (n + 3)))), none, some (jJ ((w.1 (m + 4) (n + 1)) * (w.1 (m + 4) (n + 2)))), none] [jJ ((((((w.1 (m + 4) n) * (w.1 (m + 4) (n + 3))) * ((w.1 (m + 4) n) * (w.1 (m + 4) (n + 3)))) + ((((w.1 (m + 4) (n + 1)) * (w.1 (m + 4) (n + 1))) * (w.1 (m + 4) (n + 1))) * (w.1 (m + 4) (n + 3)))) + ((((w.1 (m + 4) (n + 2)) * (w.1 (m + 4) (n + 2))) * (w.1 (m + 4) n)) * (w.1 (m + 4) (n + 2)))) + ((f * ((w.1 (m + 4) (n + 1)) * (w.1 (m + 4) (n + 2)))) * ((w.1 (m + 4) (n + 1)) * (w.1 (m + 4) (n + 2)))))] 0 0 (jW (jW w m 8 ((((((w.1 (m + 4) n) * (w.1 (m + 4) (n + 3))) * ((w.1 (m + 4) n) * (w.1 (m + 4) (n + 3)))) + ((((w.1 (m + 4) (n + 1)) * (w.1 (m + 4) (n + 1))) * (w.1 (m + 4) (n + 1))) * (w.1 (m + 4) (n + 3)))) + ((((w.1 (m + 4) (n + 2)) * (w.1 (m + 4) (n + 2))) * (w.1 (m + 4) n)) * (w.1 (m + 4) (n + 2)))) + ((f * ((w.1 (m + 4) (n + 1)) * (w.1 (m + 4) (n + 2)))) * ((w.1 (m + 4) (n + 1)) * (w.1 (m + 4) (n + 2)))))) m 9 (((w.1 (m + 4) n) * (w.1 (m + 4) (n + 3))) * ((w.1 (m + 4) (n + 1)) * (w.1 (m + 4) (n + 2))))) _
                refine jWp.blk mt 1 ?_
                show _ ∧ jWp 153 309 [some (jO m), some (jI (x : Int)), some (jI (n : Int)), some (jI law), some (jI 4), some (jJ f), none, some (jJ ((w.1 (m + 4) n) * (w.1 (m + 4) (n + 3)))), none, some (jJ ((w.1 (m + 4) (n + 1)) * (w.1 (m + 4) (n + 2)))), none] [jO m, jJ ((((((w.1 (m + 4) n) * (w.1 (m + 4) (n + 3))) * ((w.1 (m + 4) n) * (w.1 (m + 4) (n + 3)))) + ((((w.1 (m + 4) (n + 1)) * (w.1 (m + 4) (n + 1))) * (w.1 (m + 4) (n + 1))) * (w.1 (m + 4) (n + 3)))) + ((((w.1 (m + 4) (n + 2)) * (w.1 (m + 4) (n + 2))) * (w.1 (m + 4) n)) * (w.1 (m + 4) (n + 2)))) + ((f * ((w.1 (m + 4) (n + 1)) * (w.1 (m + 4) (n + 2)))) * ((w.1 (m + 4) (n + 1)) * (w.1 (m + 4) (n + 2)))))] 0 0 (jW (jW w m 8 ((((((w.1 (m + 4) n) * (w.1 (m + 4) (n + 3))) * ((w.1 (m + 4) n) * (w.1 (m + 4) (n + 3)))) + ((((w.1 (m + 4) (n + 1)) * (w.1 (m + 4) (n + 1))) * (w.1 (m + 4) (n + 1))) * (w.1 (m + 4) (n + 3)))) + ((((w.1 (m + 4) (n + 2)) * (w.1 (m + 4) (n + 2))) * (w.1 (m + 4) n)) * (w.1 (m + 4) (n + 2)))) + ((f * ((w.1 (m + 4) (n + 1)) * (w.1 (m + 4) (n + 2)))) * ((w.1 (m + 4) (n + 1)) * (w.1 (m + 4) (n + 2)))))) m 9 (((w.1 (m + 4) n) * (w.1 (m + 4) (n + 3))) * ((w.1 (m + 4) (n + 1)) * (w.1 (m + 4) (n + 2))))) _
                refine ⟨rfl, ?_⟩
                refine jWp.getJ (pc' := 312) mt rfl rfl (jtg hW.K0) ?_
                rw [show ((jW (jW w m 8 ((((((w.1 (m + 4) n) * (w.1 (m + 4) (n + 3))) * ((w.1 (m + 4) n) * (w.1 (m + 4) (n + 3)))) + ((((w.1 (m + 4) (n + 1)) * (w.1 (m + 4) (n + 1))) * (w.1 (m + 4) (n + 1))) * (w.1 (m + 4) (n + 3)))) + ((((w.1 (m + 4) (n + 2)) * (w.1 (m + 4) (n + 2))) * (w.1 (m + 4) n)) * (w.1 (m + 4) (n + 2)))) + ((f * ((w.1 (m + 4) (n + 1)) * (w.1 (m + 4) (n + 2)))) * ((w.1 (m + 4) (n + 1)) * (w.1 (m + 4) (n + 2)))))) m 9 (((w.1 (m + 4) n) * (w.1 (m + 4) (n + 3))) * ((w.1 (m + 4) (n + 1)) * (w.1 (m + 4) (n + 2))))).1 m 9) = (((w.1 (m + 4) n) * (w.1 (m + 4) (n + 3))) * ((w.1 (m + 4) (n + 1)) * (w.1 (m + 4) (n + 2)))) from jW_s]
                show jWp 153 312 [some (jO m), some (jI (x : Int)), some (jI (n : Int)), some (jI law), some (jI 4), some (jJ f), none, some (jJ ((w.1 (m + 4) n) * (w.1 (m + 4) (n + 3)))), none, some (jJ ((w.1 (m + 4) (n + 1)) * (w.1 (m + 4) (n + 2)))), none] [jJ (((w.1 (m + 4) n) * (w.1 (m + 4) (n + 3))) * ((w.1 (m + 4) (n + 1)) * (w.1 (m + 4) (n + 2)))), jJ ((((((w.1 (m + 4) n) * (w.1 (m + 4) (n + 3))) * ((w.1 (m + 4) n) * (w.1 (m + 4) (n + 3)))) + ((((w.1 (m + 4) (n + 1)) * (w.1 (m + 4) (n + 1))) * (w.1 (m + 4) (n + 1))) * (w.1 (m + 4) (n + 3)))) + ((((w.1 (m + 4) (n + 2)) * (w.1 (m + 4) (n + 2))) * (w.1 (m + 4) n)) * (w.1 (m + 4) (n + 2)))) + ((f * ((w.1 (m + 4) (n + 1)) * (w.1 (m + 4) (n + 2)))) * ((w.1 (m + 4) (n + 1)) * (w.1 (m + 4) (n + 2)))))] 0 0 (jW (jW w m 8 ((((((w.1 (m + 4) n) * (w.1 (m + 4) (n + 3))) * ((w.1 (m + 4) n) * (w.1 (m + 4) (n + 3)))) + ((((w.1 (m + 4) (n + 1)) * (w.1 (m + 4) (n + 1))) * (w.1 (m + 4) (n + 1))) * (w.1 (m + 4) (n + 3)))) + ((((w.1 (m + 4) (n + 2)) * (w.1 (m + 4) (n + 2))) * (w.1 (m + 4) n)) * (w.1 (m + 4) (n + 2)))) + ((f * ((w.1 (m + 4) (n + 1)) * (w.1 (m + 4) (n + 2)))) * ((w.1 (m + 4) (n + 1)) * (w.1 (m + 4) (n + 2)))))) m 9 (((w.1 (m + 4) n) * (w.1 (m + 4) (n + 3))) * ((w.1 (m + 4) (n + 1)) * (w.1 (m + 4) (n + 2))))) _
                refine jWp.calls (as := [jJ ((((((w.1 (m + 4) n) * (w.1 (m + 4) (n + 3))) * ((w.1 (m + 4) n) * (w.1 (m + 4) (n + 3)))) + ((((w.1 (m + 4) (n + 1)) * (w.1 (m + 4) (n + 1))) * (w.1 (m + 4) (n + 1))) * (w.1 (m + 4) (n + 3)))) + ((((w.1 (m + 4) (n + 2)) * (w.1 (m + 4) (n + 2))) * (w.1 (m + 4) n)) * (w.1 (m + 4) (n + 2)))) + ((f * ((w.1 (m + 4) (n + 1)) * (w.1 (m + 4) (n + 2)))) * ((w.1 (m + 4) (n + 1)) * (w.1 (m + 4) (n + 2))))), jJ (((w.1 (m + 4) n) * (w.1 (m + 4) (n + 3))) * ((w.1 (m + 4) (n + 1)) * (w.1 (m + 4) (n + 2))))]) (rest := []) mt rfl rfl rfl rfl ?_
                refine jCall.mono (E_div (by omega) (by omega)) (fun v9 w9 h9 => ?_)
                obtain ⟨rfl, h9⟩ := h9
                subst w9
                show jWp 153 315 [some (jO m), some (jI (x : Int)), some (jI (n : Int)), some (jI law), some (jI 4), some (jJ f), none, some (jJ ((w.1 (m + 4) n) * (w.1 (m + 4) (n + 3)))), none, some (jJ ((w.1 (m + 4) (n + 1)) * (w.1 (m + 4) (n + 2)))), none] [jJ (zg ((((((w.1 (m + 4) n) * (w.1 (m + 4) (n + 3))) * ((w.1 (m + 4) n) * (w.1 (m + 4) (n + 3)))) + ((((w.1 (m + 4) (n + 1)) * (w.1 (m + 4) (n + 1))) * (w.1 (m + 4) (n + 1))) * (w.1 (m + 4) (n + 3)))) + ((((w.1 (m + 4) (n + 2)) * (w.1 (m + 4) (n + 2))) * (w.1 (m + 4) n)) * (w.1 (m + 4) (n + 2)))) + ((f * ((w.1 (m + 4) (n + 1)) * (w.1 (m + 4) (n + 2)))) * ((w.1 (m + 4) (n + 1)) * (w.1 (m + 4) (n + 2))))) (((w.1 (m + 4) n) * (w.1 (m + 4) (n + 3))) * ((w.1 (m + 4) (n + 1)) * (w.1 (m + 4) (n + 2)))))] 0 0 (jW (jW w m 8 ((((((w.1 (m + 4) n) * (w.1 (m + 4) (n + 3))) * ((w.1 (m + 4) n) * (w.1 (m + 4) (n + 3)))) + ((((w.1 (m + 4) (n + 1)) * (w.1 (m + 4) (n + 1))) * (w.1 (m + 4) (n + 1))) * (w.1 (m + 4) (n + 3)))) + ((((w.1 (m + 4) (n + 2)) * (w.1 (m + 4) (n + 2))) * (w.1 (m + 4) n)) * (w.1 (m + 4) (n + 2)))) + ((f * ((w.1 (m + 4) (n + 1)) * (w.1 (m + 4) (n + 2)))) * ((w.1 (m + 4) (n + 1)) * (w.1 (m + 4) (n + 2)))))) m 9 (((w.1 (m + 4) n) * (w.1 (m + 4) (n + 3))) * ((w.1 (m + 4) (n + 1)) * (w.1 (m + 4) (n + 2))))) _
                have hgp := zg_pos (a := ((((((w.1 (m + 4) n) * (w.1 (m + 4) (n + 3))) * ((w.1 (m + 4) n) * (w.1 (m + 4) (n + 3)))) + ((((w.1 (m + 4) (n + 1)) * (w.1 (m + 4) (n + 1))) * (w.1 (m + 4) (n + 1))) * (w.1 (m + 4) (n + 3)))) + ((((w.1 (m + 4) (n + 2)) * (w.1 (m + 4) (n + 2))) * (w.1 (m + 4) n)) * (w.1 (m + 4) (n + 2)))) + ((f * ((w.1 (m + 4) (n + 1)) * (w.1 (m + 4) (n + 2)))) * ((w.1 (m + 4) (n + 1)) * (w.1 (m + 4) (n + 2)))))) (b := (((w.1 (m + 4) n) * (w.1 (m + 4) (n + 3))) * ((w.1 (m + 4) (n + 1)) * (w.1 (m + 4) (n + 2))))) (by omega)
                have hgl := zg_le (a := ((((((w.1 (m + 4) n) * (w.1 (m + 4) (n + 3))) * ((w.1 (m + 4) n) * (w.1 (m + 4) (n + 3)))) + ((((w.1 (m + 4) (n + 1)) * (w.1 (m + 4) (n + 1))) * (w.1 (m + 4) (n + 1))) * (w.1 (m + 4) (n + 3)))) + ((((w.1 (m + 4) (n + 2)) * (w.1 (m + 4) (n + 2))) * (w.1 (m + 4) n)) * (w.1 (m + 4) (n + 2)))) + ((f * ((w.1 (m + 4) (n + 1)) * (w.1 (m + 4) (n + 2)))) * ((w.1 (m + 4) (n + 1)) * (w.1 (m + 4) (n + 2)))))) (b := (((w.1 (m + 4) n) * (w.1 (m + 4) (n + 3))) * ((w.1 (m + 4) (n + 1)) * (w.1 (m + 4) (n + 2))))) (by omega)
                refine jWp.blk mt 3 ?_
                show _ ∧ _ ∧ jWp 153 319 [some (jO m), some (jI (x : Int)), some (jI (n : Int)), some (jI law), some (jI 4), some (jJ f), none, some (jJ (zg ((((((w.1 (m + 4) n) * (w.1 (m + 4) (n + 3))) * ((w.1 (m + 4) n) * (w.1 (m + 4) (n + 3)))) + ((((w.1 (m + 4) (n + 1)) * (w.1 (m + 4) (n + 1))) * (w.1 (m + 4) (n + 1))) * (w.1 (m + 4) (n + 3)))) + ((((w.1 (m + 4) (n + 2)) * (w.1 (m + 4) (n + 2))) * (w.1 (m + 4) n)) * (w.1 (m + 4) (n + 2)))) + ((f * ((w.1 (m + 4) (n + 1)) * (w.1 (m + 4) (n + 2)))) * ((w.1 (m + 4) (n + 1)) * (w.1 (m + 4) (n + 2))))) (((w.1 (m + 4) n) * (w.1 (m + 4) (n + 3))) * ((w.1 (m + 4) (n + 1)) * (w.1 (m + 4) (n + 2)))))), none, some (jJ ((w.1 (m + 4) (n + 1)) * (w.1 (m + 4) (n + 2)))), none] [jO m, jO m] 0 0 (jW (jW w m 8 ((((((w.1 (m + 4) n) * (w.1 (m + 4) (n + 3))) * ((w.1 (m + 4) n) * (w.1 (m + 4) (n + 3)))) + ((((w.1 (m + 4) (n + 1)) * (w.1 (m + 4) (n + 1))) * (w.1 (m + 4) (n + 1))) * (w.1 (m + 4) (n + 3)))) + ((((w.1 (m + 4) (n + 2)) * (w.1 (m + 4) (n + 2))) * (w.1 (m + 4) n)) * (w.1 (m + 4) (n + 2)))) + ((f * ((w.1 (m + 4) (n + 1)) * (w.1 (m + 4) (n + 2)))) * ((w.1 (m + 4) (n + 1)) * (w.1 (m + 4) (n + 2)))))) m 9 (((w.1 (m + 4) n) * (w.1 (m + 4) (n + 3))) * ((w.1 (m + 4) (n + 1)) * (w.1 (m + 4) (n + 2))))) _
                refine ⟨rfl, rfl, ?_⟩
                refine jWp.getJ (pc' := 322) mt rfl rfl (jtg hW.K0) ?_
                rw [show ((jW (jW w m 8 ((((((w.1 (m + 4) n) * (w.1 (m + 4) (n + 3))) * ((w.1 (m + 4) n) * (w.1 (m + 4) (n + 3)))) + ((((w.1 (m + 4) (n + 1)) * (w.1 (m + 4) (n + 1))) * (w.1 (m + 4) (n + 1))) * (w.1 (m + 4) (n + 3)))) + ((((w.1 (m + 4) (n + 2)) * (w.1 (m + 4) (n + 2))) * (w.1 (m + 4) n)) * (w.1 (m + 4) (n + 2)))) + ((f * ((w.1 (m + 4) (n + 1)) * (w.1 (m + 4) (n + 2)))) * ((w.1 (m + 4) (n + 1)) * (w.1 (m + 4) (n + 2)))))) m 9 (((w.1 (m + 4) n) * (w.1 (m + 4) (n + 3))) * ((w.1 (m + 4) (n + 1)) * (w.1 (m + 4) (n + 2))))).1 m 8) = ((((((w.1 (m + 4) n) * (w.1 (m + 4) (n + 3))) * ((w.1 (m + 4) n) * (w.1 (m + 4) (n + 3)))) + ((((w.1 (m + 4) (n + 1)) * (w.1 (m + 4) (n + 1))) * (w.1 (m + 4) (n + 1))) * (w.1 (m + 4) (n + 3)))) + ((((w.1 (m + 4) (n + 2)) * (w.1 (m + 4) (n + 2))) * (w.1 (m + 4) n)) * (w.1 (m + 4) (n + 2)))) + ((f * ((w.1 (m + 4) (n + 1)) * (w.1 (m + 4) (n + 2)))) * ((w.1 (m + 4) (n + 1)) * (w.1 (m + 4) (n + 2))))) from ((jW_k (by decide)).trans jW_s)]
                show jWp 153 322 [some (jO m), some (jI (x : Int)), some (jI (n : Int)), some (jI law), some (jI 4), some (jJ f), none, some (jJ (zg ((((((w.1 (m + 4) n) * (w.1 (m + 4) (n + 3))) * ((w.1 (m + 4) n) * (w.1 (m + 4) (n + 3)))) + ((((w.1 (m + 4) (n + 1)) * (w.1 (m + 4) (n + 1))) * (w.1 (m + 4) (n + 1))) * (w.1 (m + 4) (n + 3)))) + ((((w.1 (m + 4) (n + 2)) * (w.1 (m + 4) (n + 2))) * (w.1 (m + 4) n)) * (w.1 (m + 4) (n + 2)))) + ((f * ((w.1 (m + 4) (n + 1)) * (w.1 (m + 4) (n + 2)))) * ((w.1 (m + 4) (n + 1)) * (w.1 (m + 4) (n + 2))))) (((w.1 (m + 4) n) * (w.1 (m + 4) (n + 3))) * ((w.1 (m + 4) (n + 1)) * (w.1 (m + 4) (n + 2)))))), none, some (jJ ((w.1 (m + 4) (n + 1)) * (w.1 (m + 4) (n + 2)))), none] [jJ ((((((w.1 (m + 4) n) * (w.1 (m + 4) (n + 3))) * ((w.1 (m + 4) n) * (w.1 (m + 4) (n + 3)))) + ((((w.1 (m + 4) (n + 1)) * (w.1 (m + 4) (n + 1))) * (w.1 (m + 4) (n + 1))) * (w.1 (m + 4) (n + 3)))) + ((((w.1 (m + 4) (n + 2)) * (w.1 (m + 4) (n + 2))) * (w.1 (m + 4) n)) * (w.1 (m + 4) (n + 2)))) + ((f * ((w.1 (m + 4) (n + 1)) * (w.1 (m + 4) (n + 2)))) * ((w.1 (m + 4) (n + 1)) * (w.1 (m + 4) (n + 2))))), jO m] 0 0 (jW (jW w m 8 ((((((w.1 (m + 4) n) * (w.1 (m + 4) (n + 3))) * ((w.1 (m + 4) n) * (w.1 (m + 4) (n + 3)))) + ((((w.1 (m + 4) (n + 1)) * (w.1 (m + 4) (n + 1))) * (w.1 (m + 4) (n + 1))) * (w.1 (m + 4) (n + 3)))) + ((((w.1 (m + 4) (n + 2)) * (w.1 (m + 4) (n + 2))) * (w.1 (m + 4) n)) * (w.1 (m + 4) (n + 2)))) + ((f * ((w.1 (m + 4) (n + 1)) * (w.1 (m + 4) (n + 2)))) * ((w.1 (m + 4) (n + 1)) * (w.1 (m + 4) (n + 2)))))) m 9 (((w.1 (m + 4) n) * (w.1 (m + 4) (n + 3))) * ((w.1 (m + 4) (n + 1)) * (w.1 (m + 4) (n + 2))))) _
                refine jWp.blk mt 1 ?_
                show jWp 153 324 [some (jO m), some (jI (x : Int)), some (jI (n : Int)), some (jI law), some (jI 4), some (jJ f), none, some (jJ (zg ((((((w.1 (m + 4) n) * (w.1 (m + 4) (n + 3))) * ((w.1 (m + 4) n) * (w.1 (m + 4) (n + 3)))) + ((((w.1 (m + 4) (n + 1)) * (w.1 (m + 4) (n + 1))) * (w.1 (m + 4) (n + 1))) * (w.1 (m + 4) (n + 3)))) + ((((w.1 (m + 4) (n + 2)) * (w.1 (m + 4) (n + 2))) * (w.1 (m + 4) n)) * (w.1 (m + 4) (n + 2)))) + ((f * ((w.1 (m + 4) (n + 1)) * (w.1 (m + 4) (n + 2)))) * ((w.1 (m + 4) (n + 1)) * (w.1 (m + 4) (n + 2))))) (((w.1 (m + 4) n) * (w.1 (m + 4) (n + 3))) * ((w.1 (m + 4) (n + 1)) * (w.1 (m + 4) (n + 2)))))), none, some (jJ ((w.1 (m + 4) (n + 1)) * (w.1 (m + 4) (n + 2)))), none] [jJ (zg ((((((w.1 (m + 4) n) * (w.1 (m + 4) (n + 3))) * ((w.1 (m + 4) n) * (w.1 (m + 4) (n + 3)))) + ((((w.1 (m + 4) (n + 1)) * (w.1 (m + 4) (n + 1))) * (w.1 (m + 4) (n + 1))) * (w.1 (m + 4) (n + 3)))) + ((((w.1 (m + 4) (n + 2)) * (w.1 (m + 4) (n + 2))) * (w.1 (m + 4) n)) * (w.1 (m + 4) (n + 2)))) + ((f * ((w.1 (m + 4) (n + 1)) * (w.1 (m + 4) (n + 2)))) * ((w.1 (m + 4) (n + 1)) * (w.1 (m + 4) (n + 2))))) (((w.1 (m + 4) n) * (w.1 (m + 4) (n + 3))) * ((w.1 (m + 4) (n + 1)) * (w.1 (m + 4) (n + 2))))), jJ ((((((w.1 (m + 4) n) * (w.1 (m + 4) (n + 3))) * ((w.1 (m + 4) n) * (w.1 (m + 4) (n + 3)))) + ((((w.1 (m + 4) (n + 1)) * (w.1 (m + 4) (n + 1))) * (w.1 (m + 4) (n + 1))) * (w.1 (m + 4) (n + 3)))) + ((((w.1 (m + 4) (n + 2)) * (w.1 (m + 4) (n + 2))) * (w.1 (m + 4) n)) * (w.1 (m + 4) (n + 2)))) + ((f * ((w.1 (m + 4) (n + 1)) * (w.1 (m + 4) (n + 2)))) * ((w.1 (m + 4) (n + 1)) * (w.1 (m + 4) (n + 2))))), jO m] 0 0 (jW (jW w m 8 ((((((w.1 (m + 4) n) * (w.1 (m + 4) (n + 3))) * ((w.1 (m + 4) n) * (w.1 (m + 4) (n + 3)))) + ((((w.1 (m + 4) (n + 1)) * (w.1 (m + 4) (n + 1))) * (w.1 (m + 4) (n + 1))) * (w.1 (m + 4) (n + 3)))) + ((((w.1 (m + 4) (n + 2)) * (w.1 (m + 4) (n + 2))) * (w.1 (m + 4) n)) * (w.1 (m + 4) (n + 2)))) + ((f * ((w.1 (m + 4) (n + 1)) * (w.1 (m + 4) (n + 2)))) * ((w.1 (m + 4) (n + 1)) * (w.1 (m + 4) (n + 2)))))) m 9 (((w.1 (m + 4) n) * (w.1 (m + 4) (n + 3))) * ((w.1 (m + 4) (n + 1)) * (w.1 (m + 4) (n + 2))))) _
                refine jWp.ldiv (pc' := 325) mt rfl rfl (b64_id (by omega) (by omega)) (b64_id (by omega) (by omega)) (by omega) ?_
                show jWp 153 325 [some (jO m), some (jI (x : Int)), some (jI (n : Int)), some (jI law), some (jI 4), some (jJ f), none, some (jJ (zg ((((((w.1 (m + 4) n) * (w.1 (m + 4) (n + 3))) * ((w.1 (m + 4) n) * (w.1 (m + 4) (n + 3)))) + ((((w.1 (m + 4) (n + 1)) * (w.1 (m + 4) (n + 1))) * (w.1 (m + 4) (n + 1))) * (w.1 (m + 4) (n + 3)))) + ((((w.1 (m + 4) (n + 2)) * (w.1 (m + 4) (n + 2))) * (w.1 (m + 4) n)) * (w.1 (m + 4) (n + 2)))) + ((f * ((w.1 (m + 4) (n + 1)) * (w.1 (m + 4) (n + 2)))) * ((w.1 (m + 4) (n + 1)) * (w.1 (m + 4) (n + 2))))) (((w.1 (m + 4) n) * (w.1 (m + 4) (n + 3))) * ((w.1 (m + 4) (n + 1)) * (w.1 (m + 4) (n + 2)))))), none, some (jJ ((w.1 (m + 4) (n + 1)) * (w.1 (m + 4) (n + 2)))), none] [jJ (Int.tdiv ((((((w.1 (m + 4) n) * (w.1 (m + 4) (n + 3))) * ((w.1 (m + 4) n) * (w.1 (m + 4) (n + 3)))) + ((((w.1 (m + 4) (n + 1)) * (w.1 (m + 4) (n + 1))) * (w.1 (m + 4) (n + 1))) * (w.1 (m + 4) (n + 3)))) + ((((w.1 (m + 4) (n + 2)) * (w.1 (m + 4) (n + 2))) * (w.1 (m + 4) n)) * (w.1 (m + 4) (n + 2)))) + ((f * ((w.1 (m + 4) (n + 1)) * (w.1 (m + 4) (n + 2)))) * ((w.1 (m + 4) (n + 1)) * (w.1 (m + 4) (n + 2))))) (zg ((((((w.1 (m + 4) n) * (w.1 (m + 4) (n + 3))) * ((w.1 (m + 4) n) * (w.1 (m + 4) (n + 3)))) + ((((w.1 (m + 4) (n + 1)) * (w.1 (m + 4) (n + 1))) * (w.1 (m + 4) (n + 1))) * (w.1 (m + 4) (n + 3)))) + ((((w.1 (m + 4) (n + 2)) * (w.1 (m + 4) (n + 2))) * (w.1 (m + 4) n)) * (w.1 (m + 4) (n + 2)))) + ((f * ((w.1 (m + 4) (n + 1)) * (w.1 (m + 4) (n + 2)))) * ((w.1 (m + 4) (n + 1)) * (w.1 (m + 4) (n + 2))))) (((w.1 (m + 4) n) * (w.1 (m + 4) (n + 3))) * ((w.1 (m + 4) (n + 1)) * (w.1 (m + 4) (n + 2)))))), jO m] 0 0 (jW (jW w m 8 ((((((w.1 (m + 4) n) * (w.1 (m + 4) (n + 3))) * ((w.1 (m + 4) n) * (w.1 (m + 4) (n + 3)))) + ((((w.1 (m + 4) (n + 1)) * (w.1 (m + 4) (n + 1))) * (w.1 (m + 4) (n + 1))) * (w.1 (m + 4) (n + 3)))) + ((((w.1 (m + 4) (n + 2)) * (w.1 (m + 4) (n + 2))) * (w.1 (m + 4) n)) * (w.1 (m + 4) (n + 2)))) + ((f * ((w.1 (m + 4) (n + 1)) * (w.1 (m + 4) (n + 2)))) * ((w.1 (m + 4) (n + 1)) * (w.1 (m + 4) (n + 2)))))) m 9 (((w.1 (m + 4) n) * (w.1 (m + 4) (n + 3))) * ((w.1 (m + 4) (n + 1)) * (w.1 (m + 4) (n + 2))))) _
                refine jWp.putJ (pc' := 328) mt rfl rfl (jtg hW.K0) ?_
                show jWp 153 328 [some (jO m), some (jI (x : Int)), some (jI (n : Int)), some (jI law), some (jI 4), some (jJ f), none, some (jJ (zg ((((((w.1 (m + 4) n) * (w.1 (m + 4) (n + 3))) * ((w.1 (m + 4) n) * (w.1 (m + 4) (n + 3)))) + ((((w.1 (m + 4) (n + 1)) * (w.1 (m + 4) (n + 1))) * (w.1 (m + 4) (n + 1))) * (w.1 (m + 4) (n + 3)))) + ((((w.1 (m + 4) (n + 2)) * (w.1 (m + 4) (n + 2))) * (w.1 (m + 4) n)) * (w.1 (m + 4) (n + 2)))) + ((f * ((w.1 (m + 4) (n + 1)) * (w.1 (m + 4) (n + 2)))) * ((w.1 (m + 4) (n + 1)) * (w.1 (m + 4) (n + 2))))) (((w.1 (m + 4) n) * (w.1 (m + 4) (n + 3))) * ((w.1 (m + 4) (n + 1)) * (w.1 (m + 4) (n + 2)))))), none, some (jJ ((w.1 (m + 4) (n + 1)) * (w.1 (m + 4) (n + 2)))), none] [] 0 0 (jW (jW (jW w m 8 ((((((w.1 (m + 4) n) * (w.1 (m + 4) (n + 3))) * ((w.1 (m + 4) n) * (w.1 (m + 4) (n + 3)))) + ((((w.1 (m + 4) (n + 1)) * (w.1 (m + 4) (n + 1))) * (w.1 (m + 4) (n + 1))) * (w.1 (m + 4) (n + 3)))) + ((((w.1 (m + 4) (n + 2)) * (w.1 (m + 4) (n + 2))) * (w.1 (m + 4) n)) * (w.1 (m + 4) (n + 2)))) + ((f * ((w.1 (m + 4) (n + 1)) * (w.1 (m + 4) (n + 2)))) * ((w.1 (m + 4) (n + 1)) * (w.1 (m + 4) (n + 2)))))) m 9 (((w.1 (m + 4) n) * (w.1 (m + 4) (n + 3))) * ((w.1 (m + 4) (n + 1)) * (w.1 (m + 4) (n + 2))))) m 8 (Int.tdiv ((((((w.1 (m + 4) n) * (w.1 (m + 4) (n + 3))) * ((w.1 (m + 4) n) * (w.1 (m + 4) (n + 3)))) + ((((w.1 (m + 4) (n + 1)) * (w.1 (m + 4) (n + 1))) * (w.1 (m + 4) (n + 1))) * (w.1 (m + 4) (n + 3)))) + ((((w.1 (m + 4) (n + 2)) * (w.1 (m + 4) (n + 2))) * (w.1 (m + 4) n)) * (w.1 (m + 4) (n + 2)))) + ((f * ((w.1 (m + 4) (n + 1)) * (w.1 (m + 4) (n + 2)))) * ((w.1 (m + 4) (n + 1)) * (w.1 (m + 4) (n + 2))))) (zg ((((((w.1 (m + 4) n) * (w.1 (m + 4) (n + 3))) * ((w.1 (m + 4) n) * (w.1 (m + 4) (n + 3)))) + ((((w.1 (m + 4) (n + 1)) * (w.1 (m + 4) (n + 1))) * (w.1 (m + 4) (n + 1))) * (w.1 (m + 4) (n + 3)))) + ((((w.1 (m + 4) (n + 2)) * (w.1 (m + 4) (n + 2))) * (w.1 (m + 4) n)) * (w.1 (m + 4) (n + 2)))) + ((f * ((w.1 (m + 4) (n + 1)) * (w.1 (m + 4) (n + 2)))) * ((w.1 (m + 4) (n + 1)) * (w.1 (m + 4) (n + 2))))) (((w.1 (m + 4) n) * (w.1 (m + 4) (n + 3))) * ((w.1 (m + 4) (n + 1)) * (w.1 (m + 4) (n + 2))))))) _
                refine jWp.blk mt 2 ?_
                show _ ∧ _ ∧ jWp 153 330 [some (jO m), some (jI (x : Int)), some (jI (n : Int)), some (jI law), some (jI 4), some (jJ f), none, some (jJ (zg ((((((w.1 (m + 4) n) * (w.1 (m + 4) (n + 3))) * ((w.1 (m + 4) n) * (w.1 (m + 4) (n + 3)))) + ((((w.1 (m + 4) (n + 1)) * (w.1 (m + 4) (n + 1))) * (w.1 (m + 4) (n + 1))) * (w.1 (m + 4) (n + 3)))) + ((((w.1 (m + 4) (n + 2)) * (w.1 (m + 4) (n + 2))) * (w.1 (m + 4) n)) * (w.1 (m + 4) (n + 2)))) + ((f * ((w.1 (m + 4) (n + 1)) * (w.1 (m + 4) (n + 2)))) * ((w.1 (m + 4) (n + 1)) * (w.1 (m + 4) (n + 2))))) (((w.1 (m + 4) n) * (w.1 (m + 4) (n + 3))) * ((w.1 (m + 4) (n + 1)) * (w.1 (m + 4) (n + 2)))))), none, some (jJ ((w.1 (m + 4) (n + 1)) * (w.1 (m + 4) (n + 2)))), none] [jO m, jO m] 0 0 (jW (jW (jW w m 8 ((((((w.1 (m + 4) n) * (w.1 (m + 4) (n + 3))) * ((w.1 (m + 4) n) * (w.1 (m + 4) (n + 3)))) + ((((w.1 (m + 4) (n + 1)) * (w.1 (m + 4) (n + 1))) * (w.1 (m + 4) (n + 1))) * (w.1 (m + 4) (n + 3)))) + ((((w.1 (m + 4) (n + 2)) * (w.1 (m + 4) (n + 2))) * (w.1 (m + 4) n)) * (w.1 (m + 4) (n + 2)))) + ((f * ((w.1 (m + 4) (n + 1)) * (w.1 (m + 4) (n + 2)))) * ((w.1 (m + 4) (n + 1)) * (w.1 (m + 4) (n + 2)))))) m 9 (((w.1 (m + 4) n) * (w.1 (m + 4) (n + 3))) * ((w.1 (m + 4) (n + 1)) * (w.1 (m + 4) (n + 2))))) m 8 (Int.tdiv ((((((w.1 (m + 4) n) * (w.1 (m + 4) (n + 3))) * ((w.1 (m + 4) n) * (w.1 (m + 4) (n + 3)))) + ((((w.1 (m + 4) (n + 1)) * (w.1 (m + 4) (n + 1))) * (w.1 (m + 4) (n + 1))) * (w.1 (m + 4) (n + 3)))) + ((((w.1 (m + 4) (n + 2)) * (w.1 (m + 4) (n + 2))) * (w.1 (m + 4) n)) * (w.1 (m + 4) (n + 2)))) + ((f * ((w.1 (m + 4) (n + 1)) * (w.1 (m + 4) (n + 2)))) * ((w.1 (m + 4) (n + 1)) * (w.1 (m + 4) (n + 2))))) (zg ((((((w.1 (m + 4) n) * (w.1 (m + 4) (n + 3))) * ((w.1 (m + 4) n) * (w.1 (m + 4) (n + 3)))) + ((((w.1 (m + 4) (n + 1)) * (w.1 (m + 4) (n + 1))) * (w.1 (m + 4) (n + 1))) * (w.1 (m + 4) (n + 3)))) + ((((w.1 (m + 4) (n + 2)) * (w.1 (m + 4) (n + 2))) * (w.1 (m + 4) n)) * (w.1 (m + 4) (n + 2)))) + ((f * ((w.1 (m + 4) (n + 1)) * (w.1 (m + 4) (n + 2)))) * ((w.1 (m + 4) (n + 1)) * (w.1 (m + 4) (n + 2))))) (((w.1 (m + 4) n) * (w.1 (m + 4) (n + 3))) * ((w.1 (m + 4) (n + 1)) * (w.1 (m + 4) (n + 2))))))) _
                refine ⟨rfl, rfl, ?_⟩
                refine jWp.getJ (pc' := 333) mt rfl rfl (jtg hW.K0) ?_
                rw [show ((jW (jW (jW w m 8 ((((((w.1 (m + 4) n) * (w.1 (m + 4) (n + 3))) * ((w.1 (m + 4) n) * (w.1 (m + 4) (n + 3)))) + ((((w.1 (m + 4) (n + 1)) * (w.1 (m + 4) (n + 1))) * (w.1 (m + 4) (n + 1))) * (w.1 (m + 4) (n + 3)))) + ((((w.1 (m + 4) (n + 2)) * (w.1 (m + 4) (n + 2))) * (w.1 (m + 4) n)) * (w.1 (m + 4) (n + 2)))) + ((f * ((w.1 (m + 4) (n + 1)) * (w.1 (m + 4) (n + 2)))) * ((w.1 (m + 4) (n + 1)) * (w.1 (m + 4) (n + 2)))))) m 9 (((w.1 (m + 4) n) * (w.1 (m + 4) (n + 3))) * ((w.1 (m + 4) (n + 1)) * (w.1 (m + 4) (n + 2))))) m 8 (Int.tdiv ((((((w.1 (m + 4) n) * (w.1 (m + 4) (n + 3))) * ((w.1 (m + 4) n) * (w.1 (m + 4) (n + 3)))) + ((((w.1 (m + 4) (n + 1)) * (w.1 (m + 4) (n + 1))) * (w.1 (m + 4) (n + 1))) * (w.1 (m + 4) (n + 3)))) + ((((w.1 (m + 4) (n + 2)) * (w.1 (m + 4) (n + 2))) * (w.1 (m + 4) n)) * (w.1 (m + 4) (n + 2)))) + ((f * ((w.1 (m + 4) (n + 1)) * (w.1 (m + 4) (n + 2)))) * ((w.1 (m + 4) (n + 1)) * (w.1 (m + 4) (n + 2))))) (zg ((((((w.1 (m + 4) n) * (w.1 (m + 4) (n + 3))) * ((w.1 (m + 4) n) * (w.1 (m + 4) (n + 3)))) + ((((w.1 (m + 4) (n + 1)) * (w.1 (m + 4) (n + 1))) * (w.1 (m + 4) (n + 1))) * (w.1 (m + 4) (n + 3)))) + ((((w.1 (m + 4) (n + 2)) * (w.1 (m + 4) (n + 2))) * (w.1 (m + 4) n)) * (w.1 (m + 4) (n + 2)))) + ((f * ((w.1 (m + 4) (n + 1)) * (w.1 (m + 4) (n + 2)))) * ((w.1 (m + 4) (n + 1)) * (w.1 (m + 4) (n + 2))))) (((w.1 (m + 4) n) * (w.1 (m + 4) (n + 3))) * ((w.1 (m + 4) (n + 1)) * (w.1 (m + 4) (n + 2))))))).1 m 9) = (((w.1 (m + 4) n) * (w.1 (m + 4) (n + 3))) * ((w.1 (m + 4) (n + 1)) * (w.1 (m + 4) (n + 2)))) from ((jW_k (by decide)).trans jW_s)]
                show jWp 153 333 [some (jO m), some (jI (x : Int)), some (jI (n : Int)), some (jI law), some (jI 4), some (jJ f), none, some (jJ (zg ((((((w.1 (m + 4) n) * (w.1 (m + 4) (n + 3))) * ((w.1 (m + 4) n) * (w.1 (m + 4) (n + 3)))) + ((((w.1 (m + 4) (n + 1)) * (w.1 (m + 4) (n + 1))) * (w.1 (m + 4) (n + 1))) * (w.1 (m + 4) (n + 3)))) + ((((w.1 (m + 4) (n + 2)) * (w.1 (m + 4) (n + 2))) * (w.1 (m + 4) n)) * (w.1 (m + 4) (n + 2)))) + ((f * ((w.1 (m + 4) (n + 1)) * (w.1 (m + 4) (n + 2)))) * ((w.1 (m + 4) (n + 1)) * (w.1 (m + 4) (n + 2))))) (((w.1 (m + 4) n) * (w.1 (m + 4) (n + 3))) * ((w.1 (m + 4) (n + 1)) * (w.1 (m + 4) (n + 2)))))), none, some (jJ ((w.1 (m + 4) (n + 1)) * (w.1 (m + 4) (n + 2)))), none] [jJ (((w.1 (m + 4) n) * (w.1 (m + 4) (n + 3))) * ((w.1 (m + 4) (n + 1)) * (w.1 (m + 4) (n + 2)))), jO m] 0 0 (jW (jW (jW w m 8 ((((((w.1 (m + 4) n) * (w.1 (m + 4) (n + 3))) * ((w.1 (m + 4) n) * (w.1 (m + 4) (n + 3)))) + ((((w.1 (m + 4) (n + 1)) * (w.1 (m + 4) (n + 1))) * (w.1 (m + 4) (n + 1))) * (w.1 (m + 4) (n + 3)))) + ((((w.1 (m + 4) (n + 2)) * (w.1 (m + 4) (n + 2))) * (w.1 (m + 4) n)) * (w.1 (m + 4) (n + 2)))) + ((f * ((w.1 (m + 4) (n + 1)) * (w.1 (m + 4) (n + 2)))) * ((w.1 (m + 4) (n + 1)) * (w.1 (m + 4) (n + 2)))))) m 9 (((w.1 (m + 4) n) * (w.1 (m + 4) (n + 3))) * ((w.1 (m + 4) (n + 1)) * (w.1 (m + 4) (n + 2))))) m 8 (Int.tdiv ((((((w.1 (m + 4) n) * (w.1 (m + 4) (n + 3))) * ((w.1 (m + 4) n) * (w.1 (m + 4) (n + 3)))) + ((((w.1 (m + 4) (n + 1)) * (w.1 (m + 4) (n + 1))) * (w.1 (m + 4) (n + 1))) * (w.1 (m + 4) (n + 3)))) + ((((w.1 (m + 4) (n + 2)) * (w.1 (m + 4) (n + 2))) * (w.1 (m + 4) n)) * (w.1 (m + 4) (n + 2)))) + ((f * ((w.1 (m + 4) (n + 1)) * (w.1 (m + 4) (n + 2)))) * ((w.1 (m + 4) (n + 1)) * (w.1 (m + 4) (n + 2))))) (zg ((((((w.1 (m + 4) n) * (w.1 (m + 4) (n + 3))) * ((w.1 (m + 4) n) * (w.1 (m + 4) (n + 3)))) + ((((w.1 (m + 4) (n + 1)) * (w.1 (m + 4) (n + 1))) * (w.1 (m + 4) (n + 1))) * (w.1 (m + 4) (n + 3)))) + ((((w.1 (m + 4) (n + 2)) * (w.1 (m + 4) (n + 2))) * (w.1 (m + 4) n)) * (w.1 (m + 4) (n + 2)))) + ((f * ((w.1 (m + 4) (n + 1)) * (w.1 (m + 4) (n + 2)))) * ((w.1 (m + 4) (n + 1)) * (w.1 (m + 4) (n + 2))))) (((w.1 (m + 4) n) * (w.1 (m + 4) (n + 3))) * ((w.1 (m + 4) (n + 1)) * (w.1 (m + 4) (n + 2))))))) _
                refine jWp.blk mt 1 ?_
                show jWp 153 335 [some (jO m), some (jI (x : Int)), some (jI (n : Int)), some (jI law), some (jI 4), some (jJ f), none, some (jJ (zg ((((((w.1 (m + 4) n) * (w.1 (m + 4) (n + 3))) * ((w.1 (m + 4) n) * (w.1 (m + 4) (n + 3)))) + ((((w.1 (m + 4) (n + 1)) * (w.1 (m + 4) (n + 1))) * (w.1 (m + 4) (n + 1))) * (w.1 (m + 4) (n + 3)))) + ((((w.1 (m + 4) (n + 2)) * (w.1 (m + 4) (n + 2))) * (w.1 (m + 4) n)) * (w.1 (m + 4) (n + 2)))) + ((f * ((w.1 (m + 4) (n + 1)) * (w.1 (m + 4) (n + 2)))) * ((w.1 (m + 4) (n + 1)) * (w.1 (m + 4) (n + 2))))) (((w.1 (m + 4) n) * (w.1 (m + 4) (n + 3))) * ((w.1 (m + 4) (n + 1)) * (w.1 (m + 4) (n + 2)))))), none, some (jJ ((w.1 (m + 4) (n + 1)) * (w.1 (m + 4) (n + 2)))), none] [jJ (zg ((((((w.1 (m + 4) n) * (w.1 (m + 4) (n + 3))) * ((w.1 (m + 4) n) * (w.1 (m + 4) (n + 3)))) + ((((w.1 (m + 4) (n + 1)) * (w.1 (m + 4) (n + 1))) * (w.1 (m + 4) (n + 1))) * (w.1 (m + 4) (n + 3)))) + ((((w.1 (m + 4) (n + 2)) * (w.1 (m + 4) (n + 2))) * (w.1 (m + 4) n)) * (w.1 (m + 4) (n + 2)))) + ((f * ((w.1 (m + 4) (n + 1)) * (w.1 (m + 4) (n + 2)))) * ((w.1 (m + 4) (n + 1)) * (w.1 (m + 4) (n + 2))))) (((w.1 (m + 4) n) * (w.1 (m + 4) (n + 3))) * ((w.1 (m + 4) (n + 1)) * (w.1 (m + 4) (n + 2))))), jJ (((w.1 (m + 4) n) * (w.1 (m + 4) (n + 3))) * ((w.1 (m + 4) (n + 1)) * (w.1 (m + 4) (n + 2)))), jO m] 0 0 (jW (jW (jW w m 8 ((((((w.1 (m + 4) n) * (w.1 (m + 4) (n + 3))) * ((w.1 (m + 4) n) * (w.1 (m + 4) (n + 3)))) + ((((w.1 (m + 4) (n + 1)) * (w.1 (m + 4) (n + 1))) * (w.1 (m + 4) (n + 1))) * (w.1 (m + 4) (n + 3)))) + ((((w.1 (m + 4) (n + 2)) * (w.1 (m + 4) (n + 2))) * (w.1 (m + 4) n)) * (w.1 (m + 4) (n + 2)))) + ((f * ((w.1 (m + 4) (n + 1)) * (w.1 (m + 4) (n + 2)))) * ((w.1 (m + 4) (n + 1)) * (w.1 (m + 4) (n + 2)))))) m 9 (((w.1 (m + 4) n) * (w.1 (m + 4) (n + 3))) * ((w.1 (m + 4) (n + 1)) * (w.1 (m + 4) (n + 2))))) m 8 (Int.tdiv ((((((w.1 (m + 4) n) * (w.1 (m + 4) (n + 3))) * ((w.1 (m + 4) n) * (w.1 (m + 4) (n + 3)))) + ((((w.1 (m + 4) (n + 1)) * (w.1 (m + 4) (n + 1))) * (w.1 (m + 4) (n + 1))) * (w.1 (m + 4) (n + 3)))) + ((((w.1 (m + 4) (n + 2)) * (w.1 (m + 4) (n + 2))) * (w.1 (m + 4) n)) * (w.1 (m + 4) (n + 2)))) + ((f * ((w.1 (m + 4) (n + 1)) * (w.1 (m + 4) (n + 2)))) * ((w.1 (m + 4) (n + 1)) * (w.1 (m + 4) (n + 2))))) (zg ((((((w.1 (m + 4) n) * (w.1 (m + 4) (n + 3))) * ((w.1 (m + 4) n) * (w.1 (m + 4) (n + 3)))) + ((((w.1 (m + 4) (n + 1)) * (w.1 (m + 4) (n + 1))) * (w.1 (m + 4) (n + 1))) * (w.1 (m + 4) (n + 3)))) + ((((w.1 (m + 4) (n + 2)) * (w.1 (m + 4) (n + 2))) * (w.1 (m + 4) n)) * (w.1 (m + 4) (n + 2)))) + ((f * ((w.1 (m + 4) (n + 1)) * (w.1 (m + 4) (n + 2)))) * ((w.1 (m + 4) (n + 1)) * (w.1 (m + 4) (n + 2))))) (((w.1 (m + 4) n) * (w.1 (m + 4) (n + 3))) * ((w.1 (m + 4) (n + 1)) * (w.1 (m + 4) (n + 2))))))) _
                refine jWp.ldiv (pc' := 336) mt rfl rfl (b64_id (by omega) (by omega)) (b64_id (by omega) (by omega)) (by omega) ?_
                show jWp 153 336 [some (jO m), some (jI (x : Int)), some (jI (n : Int)), some (jI law), some (jI 4), some (jJ f), none, some (jJ (zg ((((((w.1 (m + 4) n) * (w.1 (m + 4) (n + 3))) * ((w.1 (m + 4) n) * (w.1 (m + 4) (n + 3)))) + ((((w.1 (m + 4) (n + 1)) * (w.1 (m + 4) (n + 1))) * (w.1 (m + 4) (n + 1))) * (w.1 (m + 4) (n + 3)))) + ((((w.1 (m + 4) (n + 2)) * (w.1 (m + 4) (n + 2))) * (w.1 (m + 4) n)) * (w.1 (m + 4) (n + 2)))) + ((f * ((w.1 (m + 4) (n + 1)) * (w.1 (m + 4) (n + 2)))) * ((w.1 (m + 4) (n + 1)) * (w.1 (m + 4) (n + 2))))) (((w.1 (m + 4) n) * (w.1 (m + 4) (n + 3))) * ((w.1 (m + 4) (n + 1)) * (w.1 (m + 4) (n + 2)))))), none, some (jJ ((w.1 (m + 4) (n + 1)) * (w.1 (m + 4) (n + 2)))), none] [jJ (Int.tdiv (((w.1 (m + 4) n) * (w.1 (m + 4) (n + 3))) * ((w.1 (m + 4) (n + 1)) * (w.1 (m + 4) (n + 2)))) (zg ((((((w.1 (m + 4) n) * (w.1 (m + 4) (n + 3))) * ((w.1 (m + 4) n) * (w.1 (m + 4) (n + 3)))) + ((((w.1 (m + 4) (n + 1)) * (w.1 (m + 4) (n + 1))) * (w.1 (m + 4) (n + 1))) * (w.1 (m + 4) (n + 3)))) + ((((w.1 (m + 4) (n + 2)) * (w.1 (m + 4) (n + 2))) * (w.1 (m + 4) n)) * (w.1 (m + 4) (n + 2)))) + ((f * ((w.1 (m + 4) (n + 1)) * (w.1 (m + 4) (n + 2)))) * ((w.1 (m + 4) (n + 1)) * (w.1 (m + 4) (n + 2))))) (((w.1 (m + 4) n) * (w.1 (m + 4) (n + 3))) * ((w.1 (m + 4) (n + 1)) * (w.1 (m + 4) (n + 2)))))), jO m] 0 0 (jW (jW (jW w m 8 ((((((w.1 (m + 4) n) * (w.1 (m + 4) (n + 3))) * ((w.1 (m + 4) n) * (w.1 (m + 4) (n + 3)))) + ((((w.1 (m + 4) (n + 1)) * (w.1 (m + 4) (n + 1))) * (w.1 (m + 4) (n + 1))) * (w.1 (m + 4) (n + 3)))) + ((((w.1 (m + 4) (n + 2)) * (w.1 (m + 4) (n + 2))) * (w.1 (m + 4) n)) * (w.1 (m + 4) (n + 2)))) + ((f * ((w.1 (m + 4) (n + 1)) * (w.1 (m + 4) (n + 2)))) * ((w.1 (m + 4) (n + 1)) * (w.1 (m + 4) (n + 2)))))) m 9 (((w.1 (m + 4) n) * (w.1 (m + 4) (n + 3))) * ((w.1 (m + 4) (n + 1)) * (w.1 (m + 4) (n + 2))))) m 8 (Int.tdiv ((((((w.1 (m + 4) n) * (w.1 (m + 4) (n + 3))) * ((w.1 (m + 4) n) * (w.1 (m + 4) (n + 3)))) + ((((w.1 (m + 4) (n + 1)) * (w.1 (m + 4) (n + 1))) * (w.1 (m + 4) (n + 1))) * (w.1 (m + 4) (n + 3)))) + ((((w.1 (m + 4) (n + 2)) * (w.1 (m + 4) (n + 2))) * (w.1 (m + 4) n)) * (w.1 (m + 4) (n + 2)))) + ((f * ((w.1 (m + 4) (n + 1)) * (w.1 (m + 4) (n + 2)))) * ((w.1 (m + 4) (n + 1)) * (w.1 (m + 4) (n + 2))))) (zg ((((((w.1 (m + 4) n) * (w.1 (m + 4) (n + 3))) * ((w.1 (m + 4) n) * (w.1 (m + 4) (n + 3)))) + ((((w.1 (m + 4) (n + 1)) * (w.1 (m + 4) (n + 1))) * (w.1 (m + 4) (n + 1))) * (w.1 (m + 4) (n + 3)))) + ((((w.1 (m + 4) (n + 2)) * (w.1 (m + 4) (n + 2))) * (w.1 (m + 4) n)) * (w.1 (m + 4) (n + 2)))) + ((f * ((w.1 (m + 4) (n + 1)) * (w.1 (m + 4) (n + 2)))) * ((w.1 (m + 4) (n + 1)) * (w.1 (m + 4) (n + 2))))) (((w.1 (m + 4) n) * (w.1 (m + 4) (n + 3))) * ((w.1 (m + 4) (n + 1)) * (w.1 (m + 4) (n + 2))))))) _
                refine jWp.putJ (pc' := 339) mt rfl rfl (jtg hW.K0) ?_
                show jWp 153 339 [some (jO m), some (jI (x : Int)), some (jI (n : Int)), some (jI law), some (jI 4), some (jJ f), none, some (jJ (zg ((((((w.1 (m + 4) n) * (w.1 (m + 4) (n + 3))) * ((w.1 (m + 4) n) * (w.1 (m + 4) (n + 3)))) + ((((w.1 (m + 4) (n + 1)) * (w.1 (m + 4) (n + 1))) * (w.1 (m + 4) (n + 1))) * (w.1 (m + 4) (n + 3)))) + ((((w.1 (m + 4) (n + 2)) * (w.1 (m + 4) (n + 2))) * (w.1 (m + 4) n)) * (w.1 (m + 4) (n + 2)))) + ((f * ((w.1 (m + 4) (n + 1)) * (w.1 (m + 4) (n + 2)))) * ((w.1 (m + 4) (n + 1)) * (w.1 (m + 4) (n + 2))))) (((w.1 (m + 4) n) * (w.1 (m + 4) (n + 3))) * ((w.1 (m + 4) (n + 1)) * (w.1 (m + 4) (n + 2)))))), none, some (jJ ((w.1 (m + 4) (n + 1)) * (w.1 (m + 4) (n + 2)))), none] [] 0 0 (jW (jW (jW (jW w m 8 ((((((w.1 (m + 4) n) * (w.1 (m + 4) (n + 3))) * ((w.1 (m + 4) n) * (w.1 (m + 4) (n + 3)))) + ((((w.1 (m + 4) (n + 1)) * (w.1 (m + 4) (n + 1))) * (w.1 (m + 4) (n + 1))) * (w.1 (m + 4) (n + 3)))) + ((((w.1 (m + 4) (n + 2)) * (w.1 (m + 4) (n + 2))) * (w.1 (m + 4) n)) * (w.1 (m + 4) (n + 2)))) + ((f * ((w.1 (m + 4) (n + 1)) * (w.1 (m + 4) (n + 2)))) * ((w.1 (m + 4) (n + 1)) * (w.1 (m + 4) (n + 2)))))) m 9 (((w.1 (m + 4) n) * (w.1 (m + 4) (n + 3))) * ((w.1 (m + 4) (n + 1)) * (w.1 (m + 4) (n + 2))))) m 8 (Int.tdiv ((((((w.1 (m + 4) n) * (w.1 (m + 4) (n + 3))) * ((w.1 (m + 4) n) * (w.1 (m + 4) (n + 3)))) + ((((w.1 (m + 4) (n + 1)) * (w.1 (m + 4) (n + 1))) * (w.1 (m + 4) (n + 1))) * (w.1 (m + 4) (n + 3)))) + ((((w.1 (m + 4) (n + 2)) * (w.1 (m + 4) (n + 2))) * (w.1 (m + 4) n)) * (w.1 (m + 4) (n + 2)))) + ((f * ((w.1 (m + 4) (n + 1)) * (w.1 (m + 4) (n + 2)))) * ((w.1 (m + 4) (n + 1)) * (w.1 (m + 4) (n + 2))))) (zg ((((((w.1 (m + 4) n) * (w.1 (m + 4) (n + 3))) * ((w.1 (m + 4) n) * (w.1 (m + 4) (n + 3)))) + ((((w.1 (m + 4) (n + 1)) * (w.1 (m + 4) (n + 1))) * (w.1 (m + 4) (n + 1))) * (w.1 (m + 4) (n + 3)))) + ((((w.1 (m + 4) (n + 2)) * (w.1 (m + 4) (n + 2))) * (w.1 (m + 4) n)) * (w.1 (m + 4) (n + 2)))) + ((f * ((w.1 (m + 4) (n + 1)) * (w.1 (m + 4) (n + 2)))) * ((w.1 (m + 4) (n + 1)) * (w.1 (m + 4) (n + 2))))) (((w.1 (m + 4) n) * (w.1 (m + 4) (n + 3))) * ((w.1 (m + 4) (n + 1)) * (w.1 (m + 4) (n + 2))))))) m 9 (Int.tdiv (((w.1 (m + 4) n) * (w.1 (m + 4) (n + 3))) * ((w.1 (m + 4) (n + 1)) * (w.1 (m + 4) (n + 2)))) (zg ((((((w.1 (m + 4) n) * (w.1 (m + 4) (n + 3))) * ((w.1 (m + 4) n) * (w.1 (m + 4) (n + 3)))) + ((((w.1 (m + 4) (n + 1)) * (w.1 (m + 4) (n + 1))) * (w.1 (m + 4) (n + 1))) * (w.1 (m + 4) (n + 3)))) + ((((w.1 (m + 4) (n + 2)) * (w.1 (m + 4) (n + 2))) * (w.1 (m + 4) n)) * (w.1 (m + 4) (n + 2)))) + ((f * ((w.1 (m + 4) (n + 1)) * (w.1 (m + 4) (n + 2)))) * ((w.1 (m + 4) (n + 1)) * (w.1 (m + 4) (n + 2))))) (((w.1 (m + 4) n) * (w.1 (m + 4) (n + 3))) * ((w.1 (m + 4) (n + 1)) * (w.1 (m + 4) (n + 2))))))) _
                refine jWp.blk mt 1 ?_
                show jWp 153 340 [some (jO m), some (jI (x : Int)), some (jI (n : Int)), some (jI law), some (jI 4), some (jJ f), none, some (jJ (zg ((((((w.1 (m + 4) n) * (w.1 (m + 4) (n + 3))) * ((w.1 (m + 4) n) * (w.1 (m + 4) (n + 3)))) + ((((w.1 (m + 4) (n + 1)) * (w.1 (m + 4) (n + 1))) * (w.1 (m + 4) (n + 1))) * (w.1 (m + 4) (n + 3)))) + ((((w.1 (m + 4) (n + 2)) * (w.1 (m + 4) (n + 2))) * (w.1 (m + 4) n)) * (w.1 (m + 4) (n + 2)))) + ((f * ((w.1 (m + 4) (n + 1)) * (w.1 (m + 4) (n + 2)))) * ((w.1 (m + 4) (n + 1)) * (w.1 (m + 4) (n + 2))))) (((w.1 (m + 4) n) * (w.1 (m + 4) (n + 3))) * ((w.1 (m + 4) (n + 1)) * (w.1 (m + 4) (n + 2)))))), none, some (jJ ((w.1 (m + 4) (n + 1)) * (w.1 (m + 4) (n + 2)))), none] [jI 1] 0 0 (jW (jW (jW (jW w m 8 ((((((w.1 (m + 4) n) * (w.1 (m + 4) (n + 3))) * ((w.1 (m + 4) n) * (w.1 (m + 4) (n + 3)))) + ((((w.1 (m + 4) (n + 1)) * (w.1 (m + 4) (n + 1))) * (w.1 (m + 4) (n + 1))) * (w.1 (m + 4) (n + 3)))) + ((((w.1 (m + 4) (n + 2)) * (w.1 (m + 4) (n + 2))) * (w.1 (m + 4) n)) * (w.1 (m + 4) (n + 2)))) + ((f * ((w.1 (m + 4) (n + 1)) * (w.1 (m + 4) (n + 2)))) * ((w.1 (m + 4) (n + 1)) * (w.1 (m + 4) (n + 2)))))) m 9 (((w.1 (m + 4) n) * (w.1 (m + 4) (n + 3))) * ((w.1 (m + 4) (n + 1)) * (w.1 (m + 4) (n + 2))))) m 8 (Int.tdiv ((((((w.1 (m + 4) n) * (w.1 (m + 4) (n + 3))) * ((w.1 (m + 4) n) * (w.1 (m + 4) (n + 3)))) + ((((w.1 (m + 4) (n + 1)) * (w.1 (m + 4) (n + 1))) * (w.1 (m + 4) (n + 1))) * (w.1 (m + 4) (n + 3)))) + ((((w.1 (m + 4) (n + 2)) * (w.1 (m + 4) (n + 2))) * (w.1 (m + 4) n)) * (w.1 (m + 4) (n + 2)))) + ((f * ((w.1 (m + 4) (n + 1)) * (w.1 (m + 4) (n + 2)))) * ((w.1 (m + 4) (n + 1)) * (w.1 (m + 4) (n + 2))))) (zg ((((((w.1 (m + 4) n) * (w.1 (m + 4) (n + 3))) * ((w.1 (m + 4) n) * (w.1 (m + 4) (n + 3)))) + ((((w.1 (m + 4) (n + 1)) * (w.1 (m + 4) (n + 1))) * (w.1 (m + 4) (n + 1))) * (w.1 (m + 4) (n + 3)))) + ((((w.1 (m + 4) (n + 2)) * (w.1 (m + 4) (n + 2))) * (w.1 (m + 4) n)) * (w.1 (m + 4) (n + 2)))) + ((f * ((w.1 (m + 4) (n + 1)) * (w.1 (m + 4) (n + 2)))) * ((w.1 (m + 4) (n + 1)) * (w.1 (m + 4) (n + 2))))) (((w.1 (m + 4) n) * (w.1 (m + 4) (n + 3))) * ((w.1 (m + 4) (n + 1)) * (w.1 (m + 4) (n + 2))))))) m 9 (Int.tdiv (((w.1 (m + 4) n) * (w.1 (m + 4) (n + 3))) * ((w.1 (m + 4) (n + 1)) * (w.1 (m + 4) (n + 2)))) (zg ((((((w.1 (m + 4) n) * (w.1 (m + 4) (n + 3))) * ((w.1 (m + 4) n) * (w.1 (m + 4) (n + 3)))) + ((((w.1 (m + 4) (n + 1)) * (w.1 (m + 4) (n + 1))) * (w.1 (m + 4) (n + 1))) * (w.1 (m + 4) (n + 3)))) + ((((w.1 (m + 4) (n + 2)) * (w.1 (m + 4) (n + 2))) * (w.1 (m + 4) n)) * (w.1 (m + 4) (n + 2)))) + ((f * ((w.1 (m + 4) (n + 1)) * (w.1 (m + 4) (n + 2)))) * ((w.1 (m + 4) (n + 1)) * (w.1 (m + 4) (n + 2))))) (((w.1 (m + 4) n) * (w.1 (m + 4) (n + 3))) * ((w.1 (m + 4) (n + 1)) * (w.1 (m + 4) (n + 2))))))) _
                refine jWp.iretz mt rfl ⟨rfl, rfl⟩ rfl (Or.inr rfl) ?_
                have ez : zkm law = 4 := by unfold zkm; rw [if_neg (by omega), if_neg (by omega), if_pos (by omega)]
                have eu : zku law f (w.1 (m + 4)) n = ((((((w.1 (m + 4) n) * (w.1 (m + 4) (n + 3))) * ((w.1 (m + 4) n) * (w.1 (m + 4) (n + 3)))) + ((((w.1 (m + 4) (n + 1)) * (w.1 (m + 4) (n + 1))) * (w.1 (m + 4) (n + 1))) * (w.1 (m + 4) (n + 3)))) + ((((w.1 (m + 4) (n + 2)) * (w.1 (m + 4) (n + 2))) * (w.1 (m + 4) n)) * (w.1 (m + 4) (n + 2)))) + ((f * ((w.1 (m + 4) (n + 1)) * (w.1 (m + 4) (n + 2)))) * ((w.1 (m + 4) (n + 1)) * (w.1 (m + 4) (n + 2))))) := by unfold zku; rw [if_neg (by omega), if_neg (by omega)]
                have ed : zkd law (w.1 (m + 4)) n = (((w.1 (m + 4) n) * (w.1 (m + 4) (n + 3))) * ((w.1 (m + 4) (n + 1)) * (w.1 (m + 4) (n + 2)))) := by unfold zkd; rw [if_neg (by omega), if_neg (by omega)]
                have hua := zuA (a := ((((((w.1 (m + 4) n) * (w.1 (m + 4) (n + 3))) * ((w.1 (m + 4) n) * (w.1 (m + 4) (n + 3)))) + ((((w.1 (m + 4) (n + 1)) * (w.1 (m + 4) (n + 1))) * (w.1 (m + 4) (n + 1))) * (w.1 (m + 4) (n + 3)))) + ((((w.1 (m + 4) (n + 2)) * (w.1 (m + 4) (n + 2))) * (w.1 (m + 4) n)) * (w.1 (m + 4) (n + 2)))) + ((f * ((w.1 (m + 4) (n + 1)) * (w.1 (m + 4) (n + 2)))) * ((w.1 (m + 4) (n + 1)) * (w.1 (m + 4) (n + 2)))))) (b := (((w.1 (m + 4) n) * (w.1 (m + 4) (n + 3))) * ((w.1 (m + 4) (n + 1)) * (w.1 (m + 4) (n + 2))))) (by omega)
                have hvb := zv_b (a := ((((((w.1 (m + 4) n) * (w.1 (m + 4) (n + 3))) * ((w.1 (m + 4) n) * (w.1 (m + 4) (n + 3)))) + ((((w.1 (m + 4) (n + 1)) * (w.1 (m + 4) (n + 1))) * (w.1 (m + 4) (n + 1))) * (w.1 (m + 4) (n + 3)))) + ((((w.1 (m + 4) (n + 2)) * (w.1 (m + 4) (n + 2))) * (w.1 (m + 4) n)) * (w.1 (m + 4) (n + 2)))) + ((f * ((w.1 (m + 4) (n + 1)) * (w.1 (m + 4) (n + 2)))) * ((w.1 (m + 4) (n + 1)) * (w.1 (m + 4) (n + 2)))))) (b := (((w.1 (m + 4) n) * (w.1 (m + 4) (n + 3))) * ((w.1 (m + 4) (n + 1)) * (w.1 (m + 4) (n + 2))))) (by omega)
                refine Or.inl ⟨rfl, ⟨by rw [ez]; decide, by rw [ez]; exact h5⟩, ?_, ?_⟩
                · rw [eu, ed]
                  exact jW4
                · rw [eu, ed]
                  omega
              · have h7 : law = 1 := h7
                exfalso; omega
            · have h6 : law = 0 := h6
              exfalso; omega
          · have h5 : ¬ (∀ k, n ≤ k → k < n + 4 → k < len ∧ 1 ≤ w.1 (m + 4) k ∧ w.1 (m + 4) k ≤ 9999) := h5
            show jWp 153 53 [some (jO m), some (jI (x : Int)), some (jI (n : Int)), some (jI law), some (jI 4), none, none, none, none, none, none] [jI 0] 0 0 w _
            refine jWp.ifc (b := false) mt rfl (by decide) rfl ?_
            show jWp 153 56 [some (jO m), some (jI (x : Int)), some (jI (n : Int)), some (jI law), some (jI 4), none, none, none, none, none, none] [] 0 0 w _
            refine jWp.blk mt 1 ?_
            show jWp 153 57 [some (jO m), some (jI (x : Int)), some (jI (n : Int)), some (jI law), some (jI 4), none, none, none, none, none, none] [jI 0] 0 0 w _
            refine jWp.iretz mt rfl ⟨rfl, rfl⟩ rfl (Or.inl rfl) ?_
            refine Or.inr ⟨rfl, fun g => ?_, rfl⟩
            first
            | (exact g.1 (by unfold zkm; rw [if_neg (by omega), if_neg (by omega), if_neg (by omega)]))
            | (have := zkp_l g; omega)
            | (have ez : zkm law = 2 := by unfold zkm; rw [if_pos (by omega)]
               have g2 := g.2; rw [ez] at g2; exact absurd g2 (by assumption))
            | (have ez : zkm law = 3 := by unfold zkm; rw [if_neg (by omega), if_pos (by omega)]
               have g2 := g.2; rw [ez] at g2; exact absurd g2 (by assumption))
            | (have ez : zkm law = 4 := by unfold zkm; rw [if_neg (by omega), if_neg (by omega), if_pos (by omega)]
               have g2 := g.2; rw [ez] at g2; exact absurd g2 (by assumption))
    · have h2 : law = 1 := h2
      refine jWp.blk mt 4 ?_
      show jWp 153 37 [some (jO m), some (jI (x : Int)), some (jI (n : Int)), some (jI law), some (jI 3), none, none, none, none, none, none] [jI 3] 0 0 w _
      refine jWp.ifc (b := false) mt rfl (by decide) rfl ?_
      show jWp 153 40 [some (jO m), some (jI (x : Int)), some (jI (n : Int)), some (jI law), some (jI 3), none, none, none, none, none, none] [] 0 0 w _
      refine jWp.blk mt 2 ?_
      show jWp 153 43 [some (jO m), some (jI (x : Int)), some (jI (n : Int)), some (jI law), some (jI 3), none, none, none, none, none, none] [jI 60, jI (n : Int)] 0 0 w _
      refine jWp.icmp (pc' := 46) mt rfl rfl (b32_id (by omega) (by omega)) (show b32 60 = 60 by decide) (fun h8 => ?_) (fun h8 => ?_)
      · have h8 : 60 ≤ (n : Int) := h8
        refine jWp.blk mt 1 ?_
        show jWp 153 57 [some (jO m), some (jI (x : Int)), some (jI (n : Int)), some (jI law), some (jI 3), none, none, none, none, none, none] [jI 0] 0 0 w _
        refine jWp.iretz mt rfl ⟨rfl, rfl⟩ rfl (Or.inl rfl) ?_
        refine Or.inr ⟨rfl, fun g => ?_, rfl⟩
        first
        | (exact g.1 (by unfold zkm; rw [if_neg (by omega), if_neg (by omega), if_neg (by omega)]))
        | (have := zkp_l g; omega)
        | (have ez : zkm law = 2 := by unfold zkm; rw [if_pos (by omega)]
           have g2 := g.2; rw [ez] at g2; exact absurd g2 (by assumption))
        | (have ez : zkm law = 3 := by unfold zkm; rw [if_neg (by omega), if_pos (by omega)]
           have g2 := g.2; rw [ez] at g2; exact absurd g2 (by assumption))
        | (have ez : zkm law = 4 := by unfold zkm; rw [if_neg (by omega), if_neg (by omega), if_pos (by omega)]
           have g2 := g.2; rw [ez] at g2; exact absurd g2 (by assumption))
      · have h8 : (n : Int) < 60 := h8
        refine jWp.blk mt 3 ?_
        show _ ∧ jWp 153 50 [some (jO m), some (jI (x : Int)), some (jI (n : Int)), some (jI law), some (jI 3), none, none, none, none, none, none] [jI 3, jI (n : Int), jO m] 0 0 w _
        refine ⟨rfl, ?_⟩
        refine jWp.callv (as := [jO m, jI (n : Int), jI 3]) (rest := []) mt rfl rfl rfl ⟨rfl, jtg hW.K0⟩ ?_
        refine jCall.mono (E_areKept (w := w) (len := len) (n := n) (q := 3) hW hl hl60 hb (by omega) (by decide)) (fun v9 w9 h9 => ?_)
        rcases h9 with ⟨rfl, h9, h9⟩ | ⟨rfl, h9, h9⟩ <;> subst w9
        · have h9 : ∀ k, n ≤ k → k < n + 3 → k < len ∧ 1 ≤ w.1 (m + 4) k ∧ w.1 (m + 4) k ≤ 9999 := h9
          show jWp 153 53 [some (jO m), some (jI (x : Int)), some (jI (n : Int)), some (jI law), some (jI 3), none, none, none, none, none, none] [jI 1] 0 0 w _
          have b0 := h9 (n + 0) (by omega) (by omega)
          have b1 := h9 (n + 1) (by omega) (by omega)
          have b2 := h9 (n + 2) (by omega) (by omega)
          rw [show n + 0 = n from rfl] at b0
          refine jWp.ifc (b := true) mt rfl (by decide) rfl ?_
          show jWp 153 58 [some (jO m), some (jI (x : Int)), some (jI (n : Int)), some (jI law), some (jI 3), none, none, none, none, none, none] [] 0 0 w _
          refine jWp.blk mt 2 ?_
          show _ ∧ jWp 153 60 [some (jO m), some (jI (x : Int)), some (jI (n : Int)), some (jI law), some (jI 3), none, none, none, none, none, none] [jI (x : Int), jO m] 0 0 w _
          refine ⟨rfl, ?_⟩
          refine jWp.callv (as := [jO m, jI (x : Int)]) (rest := []) mt rfl rfl rfl ⟨rfl, jtg hW.K0⟩ ?_
          refine jCall.mono ((by have h := E_figure (w := w) (x := x) hW hx; rw [hfig] at h; exact h)) (fun v9 w9 h9 => ?_)
          obtain ⟨rfl, h9⟩ := h9
          subst w9
          show jWp 153 63 [some (jO m), some (jI (x : Int)), some (jI (n : Int)), some (jI law), some (jI 3), none, none, none, none, none, none] [jI f] 0 0 w _
          refine jWp.i2l (pc' := 64) mt rfl rfl (b32_id (by omega) (by omega)) ?_
          show jWp 153 64 [some (jO m), some (jI (x : Int)), some (jI (n : Int)), some (jI law), some (jI 3), none, none, none, none, none, none] [jJ f] 0 0 w _
          refine jWp.blk mt 2 ?_
          show jWp 153 67 [some (jO m), some (jI (x : Int)), some (jI (n : Int)), some (jI law), some (jI 3), some (jJ f), none, none, none, none, none] [jI law] 0 0 w _
          refine jWp.ifz (pc' := 70) mt rfl rfl (b32_id (by omega) (by omega)) (fun h10 => ?_) (fun h10 => ?_)
          · have h10 : law ≠ 0 := h10
            refine jWp.blk mt 2 ?_
            show jWp 153 134 [some (jO m), some (jI (x : Int)), some (jI (n : Int)), some (jI law), some (jI 3), some (jJ f), none, none, none, none, none] [jI 1, jI law] 0 0 w _
            refine jWp.icmp (pc' := 137) mt rfl rfl (b32_id (by omega) (by omega)) (show b32 1 = 1 by decide) (fun h11 => ?_) (fun h11 => ?_)
            · have h11 : law ≠ 1 := h11
              exfalso; omega
            · have h11 : law = 1 := h11
              refine jWp.blk mt 2 ?_
              show _ ∧ _ ∧ jWp 153 139 [some (jO m), some (jI (x : Int)), some (jI (n : Int)), some (jI law), some (jI 3), some (jJ f), none, none, none, none, none] [jO m, jO m] 0 0 w _
              refine ⟨rfl, rfl, ?_⟩
              refine jWp.getR (pc' := 142) (o := (m + 4)) mt rfl rfl (jtg hW.K0) hW.R3 ?_
              show jWp 153 142 [some (jO m), some (jI (x : Int)), some (jI (n : Int)), some (jI law), some (jI 3), some (jJ f), none, none, none, none, none] [jO (m + 4), jO m] 0 0 w _
              refine jWp.blk mt 1 ?_
              show jWp 153 143 [some (jO m), some (jI (x : Int)), some (jI (n : Int)), some (jI law), some (jI 3), some (jJ f), none, none, none, none, none] [jI (n : Int), jO (m + 4), jO m] 0 0 w _
              refine jWp.lald (pc' := 144) (j := n) mt rfl rfl (jtg hW.K4) (b32_id (by omega) (by omega)) (jlt hW.K4 (by omega)) ?_
              show jWp 153 144 [some (jO m), some (jI (x : Int)), some (jI (n : Int)), some (jI law), some (jI 3), some (jJ f), none, none, none, none, none] [jJ (w.1 (m + 4) n), jO m] 0 0 w _
              refine jWp.blk mt 1 ?_
              show _ ∧ jWp 153 145 [some (jO m), some (jI (x : Int)), some (jI (n : Int)), some (jI law), some (jI 3), some (jJ f), none, none, none, none, none] [jO m, jJ (w.1 (m + 4) n), jO m] 0 0 w _
              refine ⟨rfl, ?_⟩
              refine jWp.getR (pc' := 148) (o := (m + 4)) mt rfl rfl (jtg hW.K0) hW.R3 ?_
              show jWp 153 148 [some (jO m), some (jI (x : Int)), some (jI (n : Int)), some (jI law), some (jI 3), some (jJ f), none, none, none, none, none] [jO (m + 4), jJ (w.1 (m + 4) n), jO m] 0 0 w _
              refine jWp.blk mt 3 ?_
              show jWp 153 151 [some (jO m), some (jI (x : Int)), some (jI (n : Int)), some (jI law), some (jI 3), some (jJ f), none, none, none, none, none] [jI ((n : Int) + 2), jO (m + 4), jJ (w.1 (m + 4) n), jO m] 0 0 w _
              refine jWp.lald (pc' := 152) (j := (n + 2)) mt rfl rfl (jtg hW.K4) (by rw [b32_id (by omega) (by omega)]; omega) (jlt hW.K4 (by omega)) ?_
              show jWp 153 152 [some (jO m), some (jI (x : Int)), some (jI (n : Int)), some (jI law), some (jI 3), some (jJ f), none, none, none, none, none] [jJ (w.1 (m + 4) (n + 2)), jJ (w.1 (m + 4) n), jO m] 0 0 w _
              refine jWp.blk mt 1 ?_
              show jWp 153 153 [some (jO m), some (jI (x : Int)), some (jI (n : Int)), some (jI law), some (jI 3), some (jJ f), none, none, none, none, none] [jJ ((w.1 (m + 4) n) + (w.1 (m + 4) (n + 2))), jO m] 0 0 w _
              refine jWp.putJ (pc' := 156) mt rfl rfl (jtg hW.K0) ?_
              show jWp 153 156 [some (jO m), some (jI (x : Int)), some (jI (n : Int)), some (jI law), some (jI 3), some (jJ f), none, none, none, none, none] [] 0 0 (jW w m 8 ((w.1 (m + 4) n) + (w.1 (m + 4) (n + 2)))) _
              refine jWp.blk mt 2 ?_
              show _ ∧ _ ∧ jWp 153 158 [some (jO m), some (jI (x : Int)), some (jI (n : Int)), some (jI law), some (jI 3), some (jJ f), none, none, none, none, none] [jO m, jO m] 0 0 (jW w m 8 ((w.1 (m + 4) n) + (w.1 (m + 4) (n + 2)))) _
              refine ⟨rfl, rfl, ?_⟩
              refine jWp.getR (pc' := 161) (o := (m + 4)) mt rfl rfl (jtg hW.K0) hW.R3 ?_
              show jWp 153 161 [some (jO m), some (jI (x : Int)), some (jI (n : Int)), some (jI law), some (jI 3), some (jJ f), none, none, none, none, none] [jO (m + 4), jO m] 0 0 (jW w m 8 ((w.1 (m + 4) n) + (w.1 (m + 4) (n + 2)))) _
              refine jWp.blk mt 3 ?_
              show jWp 153 164 [some (jO m), some (jI (x : Int)), some (jI (n : Int)), some (jI law), some (jI 3), some (jJ f), none, none, none, none, none] [jI ((n : Int) + 1), jO (m + 4), jO m] 0 0 (jW w m 8 ((w.1 (m + 4) n) + (w.1 (m + 4) (n + 2)))) _
              refine jWp.lald (pc' := 165) (j := (n + 1)) mt rfl rfl (jtg hW.K4) (by rw [b32_id (by omega) (by omega)]; omega) (jlt hW.K4 (by omega)) ?_
              rw [show ((jW w m 8 ((w.1 (m + 4) n) + (w.1 (m + 4) (n + 2)))).1 (m + 4) (n + 1)) = (w.1 (m + 4) (n + 1)) from ((jW_a (by omega)).trans rfl)]
              show jWp 153 165 [some (jO m), some (jI (x : Int)), some (jI (n : Int)), some (jI law), some (jI 3), some (jJ f), none, none, none, none, none] [jJ (w.1 (m + 4) (n + 1)), jO m] 0 0 (jW w m 8 ((w.1 (m + 4) n) + (w.1 (m + 4) (n + 2)))) _
              refine jWp.putJ (pc' := 168) mt rfl rfl (jtg hW.K0) ?_
              show jWp 153 168 [some (jO m), some (jI (x : Int)), some (jI (n : Int)), some (jI law), some (jI 3), some (jJ f), none, none, none, none, none] [] 0 0 (jW (jW w m 8 ((w.1 (m + 4) n) + (w.1 (m + 4) (n + 2)))) m 9 (w.1 (m + 4) (n + 1))) _
              refine jWp.blk mt 2 ?_
              show _ ∧ jWp 153 305 [some (jO m), some (jI (x : Int)), some (jI (n : Int)), some (jI law), some (jI 3), some (jJ f), none, none, none, none, none] [jO m] 0 0 (jW (jW w m 8 ((w.1 (m + 4) n) + (w.1 (m + 4) (n + 2)))) m 9 (w.1 (m + 4) (n + 1))) _
              refine ⟨rfl, ?_⟩
              refine jWp.getJ (pc' := 308) mt rfl rfl (jtg hW.K0) ?_
              rw [show ((jW (jW w m 8 ((w.1 (m + 4) n) + (w.1 (m + 4) (n + 2)))) m 9 (w.1 (m + 4) (n + 1))).1 m 8) = ((w.1 (m + 4) n) + (w.1 (m + 4) (n + 2))) from ((jW_k (by decide)).trans jW_s)]
              show jWp 153 308 [some (jO m), some (jI (x : Int)), some (jI (n : Int)), some (jI law), some (jI 3), some (jJ f), none, none, none, none, none] [jJ ((w.1 (m + 4) n) + (w.1 (m + 4) (n + 2)))] 0 0 (jW (jW w m 8 ((w.1 (m + 4) n) + (w.1 (m + 4) (n + 2)))) m 9 (w.1 (m + 4) (n + 1))) _
              refine jWp.blk mt 1 ?_
              show _ ∧ jWp 153 309 [some (jO m), some (jI (x : Int)), some (jI (n : Int)), some (jI law), some (jI 3), some (jJ f), none, none, none, none, none] [jO m, jJ ((w.1 (m + 4) n) + (w.1 (m + 4) (n + 2)))] 0 0 (jW (jW w m 8 ((w.1 (m + 4) n) + (w.1 (m + 4) (n + 2)))) m 9 (w.1 (m + 4) (n + 1))) _
              refine ⟨rfl, ?_⟩
              refine jWp.getJ (pc' := 312) mt rfl rfl (jtg hW.K0) ?_
              rw [show ((jW (jW w m 8 ((w.1 (m + 4) n) + (w.1 (m + 4) (n + 2)))) m 9 (w.1 (m + 4) (n + 1))).1 m 9) = (w.1 (m + 4) (n + 1)) from jW_s]
              show jWp 153 312 [some (jO m), some (jI (x : Int)), some (jI (n : Int)), some (jI law), some (jI 3), some (jJ f), none, none, none, none, none] [jJ (w.1 (m + 4) (n + 1)), jJ ((w.1 (m + 4) n) + (w.1 (m + 4) (n + 2)))] 0 0 (jW (jW w m 8 ((w.1 (m + 4) n) + (w.1 (m + 4) (n + 2)))) m 9 (w.1 (m + 4) (n + 1))) _
              refine jWp.calls (as := [jJ ((w.1 (m + 4) n) + (w.1 (m + 4) (n + 2))), jJ (w.1 (m + 4) (n + 1))]) (rest := []) mt rfl rfl rfl rfl ?_
              refine jCall.mono (E_div (by omega) (by omega)) (fun v9 w9 h9 => ?_)
              obtain ⟨rfl, h9⟩ := h9
              subst w9
              show jWp 153 315 [some (jO m), some (jI (x : Int)), some (jI (n : Int)), some (jI law), some (jI 3), some (jJ f), none, none, none, none, none] [jJ (zg ((w.1 (m + 4) n) + (w.1 (m + 4) (n + 2))) (w.1 (m + 4) (n + 1)))] 0 0 (jW (jW w m 8 ((w.1 (m + 4) n) + (w.1 (m + 4) (n + 2)))) m 9 (w.1 (m + 4) (n + 1))) _
              have hgp := zg_pos (a := ((w.1 (m + 4) n) + (w.1 (m + 4) (n + 2)))) (b := (w.1 (m + 4) (n + 1))) (by omega)
              have hgl := zg_le (a := ((w.1 (m + 4) n) + (w.1 (m + 4) (n + 2)))) (b := (w.1 (m + 4) (n + 1))) (by omega)
              refine jWp.blk mt 3 ?_
              show _ ∧ _ ∧ jWp 153 319 [some (jO m), some (jI (x : Int)), some (jI (n : Int)), some (jI law), some (jI 3), some (jJ f), none, some (jJ (zg ((w.1 (m + 4) n) + (w.1 (m + 4) (n + 2))) (w.1 (m + 4) (n + 1)))), none, none, none] [jO m, jO m] 0 0 (jW (jW w m 8 ((w.1 (m + 4) n) + (w.1 (m + 4) (n + 2)))) m 9 (w.1 (m + 4) (n + 1))) _
              refine ⟨rfl, rfl, ?_⟩
              refine jWp.getJ (pc' := 322) mt rfl rfl (jtg hW.K0) ?_
              rw [show ((jW (jW w m 8 ((w.1 (m + 4) n) + (w.1 (m + 4) (n + 2)))) m 9 (w.1 (m + 4) (n + 1))).1 m 8) = ((w.1 (m + 4) n) + (w.1 (m + 4) (n + 2))) from ((jW_k (by decide)).trans jW_s)]
              show jWp 153 322 [some (jO m), some (jI (x : Int)), some (jI (n : Int)), some (jI law), some (jI 3), some (jJ f), none, some (jJ (zg ((w.1 (m + 4) n) + (w.1 (m + 4) (n + 2))) (w.1 (m + 4) (n + 1)))), none, none, none] [jJ ((w.1 (m + 4) n) + (w.1 (m + 4) (n + 2))), jO m] 0 0 (jW (jW w m 8 ((w.1 (m + 4) n) + (w.1 (m + 4) (n + 2)))) m 9 (w.1 (m + 4) (n + 1))) _
              refine jWp.blk mt 1 ?_
              show jWp 153 324 [some (jO m), some (jI (x : Int)), some (jI (n : Int)), some (jI law), some (jI 3), some (jJ f), none, some (jJ (zg ((w.1 (m + 4) n) + (w.1 (m + 4) (n + 2))) (w.1 (m + 4) (n + 1)))), none, none, none] [jJ (zg ((w.1 (m + 4) n) + (w.1 (m + 4) (n + 2))) (w.1 (m + 4) (n + 1))), jJ ((w.1 (m + 4) n) + (w.1 (m + 4) (n + 2))), jO m] 0 0 (jW (jW w m 8 ((w.1 (m + 4) n) + (w.1 (m + 4) (n + 2)))) m 9 (w.1 (m + 4) (n + 1))) _
              refine jWp.ldiv (pc' := 325) mt rfl rfl (b64_id (by omega) (by omega)) (b64_id (by omega) (by omega)) (by omega) ?_
              show jWp 153 325 [some (jO m), some (jI (x : Int)), some (jI (n : Int)), some (jI law), some (jI 3), some (jJ f), none, some (jJ (zg ((w.1 (m + 4) n) + (w.1 (m + 4) (n + 2))) (w.1 (m + 4) (n + 1)))), none, none, none] [jJ (Int.tdiv ((w.1 (m + 4) n) + (w.1 (m + 4) (n + 2))) (zg ((w.1 (m + 4) n) + (w.1 (m + 4) (n + 2))) (w.1 (m + 4) (n + 1)))), jO m] 0 0 (jW (jW w m 8 ((w.1 (m + 4) n) + (w.1 (m + 4) (n + 2)))) m 9 (w.1 (m + 4) (n + 1))) _
              refine jWp.putJ (pc' := 328) mt rfl rfl (jtg hW.K0) ?_
              show jWp 153 328 [some (jO m), some (jI (x : Int)), some (jI (n : Int)), some (jI law), some (jI 3), some (jJ f), none, some (jJ (zg ((w.1 (m + 4) n) + (w.1 (m + 4) (n + 2))) (w.1 (m + 4) (n + 1)))), none, none, none] [] 0 0 (jW (jW (jW w m 8 ((w.1 (m + 4) n) + (w.1 (m + 4) (n + 2)))) m 9 (w.1 (m + 4) (n + 1))) m 8 (Int.tdiv ((w.1 (m + 4) n) + (w.1 (m + 4) (n + 2))) (zg ((w.1 (m + 4) n) + (w.1 (m + 4) (n + 2))) (w.1 (m + 4) (n + 1))))) _
              refine jWp.blk mt 2 ?_
              show _ ∧ _ ∧ jWp 153 330 [some (jO m), some (jI (x : Int)), some (jI (n : Int)), some (jI law), some (jI 3), some (jJ f), none, some (jJ (zg ((w.1 (m + 4) n) + (w.1 (m + 4) (n + 2))) (w.1 (m + 4) (n + 1)))), none, none, none] [jO m, jO m] 0 0 (jW (jW (jW w m 8 ((w.1 (m + 4) n) + (w.1 (m + 4) (n + 2)))) m 9 (w.1 (m + 4) (n + 1))) m 8 (Int.tdiv ((w.1 (m + 4) n) + (w.1 (m + 4) (n + 2))) (zg ((w.1 (m + 4) n) + (w.1 (m + 4) (n + 2))) (w.1 (m + 4) (n + 1))))) _
              refine ⟨rfl, rfl, ?_⟩
              refine jWp.getJ (pc' := 333) mt rfl rfl (jtg hW.K0) ?_
              rw [show ((jW (jW (jW w m 8 ((w.1 (m + 4) n) + (w.1 (m + 4) (n + 2)))) m 9 (w.1 (m + 4) (n + 1))) m 8 (Int.tdiv ((w.1 (m + 4) n) + (w.1 (m + 4) (n + 2))) (zg ((w.1 (m + 4) n) + (w.1 (m + 4) (n + 2))) (w.1 (m + 4) (n + 1))))).1 m 9) = (w.1 (m + 4) (n + 1)) from ((jW_k (by decide)).trans jW_s)]
              show jWp 153 333 [some (jO m), some (jI (x : Int)), some (jI (n : Int)), some (jI law), some (jI 3), some (jJ f), none, some (jJ (zg ((w.1 (m + 4) n) + (w.1 (m + 4) (n + 2))) (w.1 (m + 4) (n + 1)))), none, none, none] [jJ (w.1 (m + 4) (n + 1)), jO m] 0 0 (jW (jW (jW w m 8 ((w.1 (m + 4) n) + (w.1 (m + 4) (n + 2)))) m 9 (w.1 (m + 4) (n + 1))) m 8 (Int.tdiv ((w.1 (m + 4) n) + (w.1 (m + 4) (n + 2))) (zg ((w.1 (m + 4) n) + (w.1 (m + 4) (n + 2))) (w.1 (m + 4) (n + 1))))) _
              refine jWp.blk mt 1 ?_
              show jWp 153 335 [some (jO m), some (jI (x : Int)), some (jI (n : Int)), some (jI law), some (jI 3), some (jJ f), none, some (jJ (zg ((w.1 (m + 4) n) + (w.1 (m + 4) (n + 2))) (w.1 (m + 4) (n + 1)))), none, none, none] [jJ (zg ((w.1 (m + 4) n) + (w.1 (m + 4) (n + 2))) (w.1 (m + 4) (n + 1))), jJ (w.1 (m + 4) (n + 1)), jO m] 0 0 (jW (jW (jW w m 8 ((w.1 (m + 4) n) + (w.1 (m + 4) (n + 2)))) m 9 (w.1 (m + 4) (n + 1))) m 8 (Int.tdiv ((w.1 (m + 4) n) + (w.1 (m + 4) (n + 2))) (zg ((w.1 (m + 4) n) + (w.1 (m + 4) (n + 2))) (w.1 (m + 4) (n + 1))))) _
              refine jWp.ldiv (pc' := 336) mt rfl rfl (b64_id (by omega) (by omega)) (b64_id (by omega) (by omega)) (by omega) ?_
              show jWp 153 336 [some (jO m), some (jI (x : Int)), some (jI (n : Int)), some (jI law), some (jI 3), some (jJ f), none, some (jJ (zg ((w.1 (m + 4) n) + (w.1 (m + 4) (n + 2))) (w.1 (m + 4) (n + 1)))), none, none, none] [jJ (Int.tdiv (w.1 (m + 4) (n + 1)) (zg ((w.1 (m + 4) n) + (w.1 (m + 4) (n + 2))) (w.1 (m + 4) (n + 1)))), jO m] 0 0 (jW (jW (jW w m 8 ((w.1 (m + 4) n) + (w.1 (m + 4) (n + 2)))) m 9 (w.1 (m + 4) (n + 1))) m 8 (Int.tdiv ((w.1 (m + 4) n) + (w.1 (m + 4) (n + 2))) (zg ((w.1 (m + 4) n) + (w.1 (m + 4) (n + 2))) (w.1 (m + 4) (n + 1))))) _
              refine jWp.putJ (pc' := 339) mt rfl rfl (jtg hW.K0) ?_
              show jWp 153 339 [some (jO m), some (jI (x : Int)), some (jI (n : Int)), some (jI law), some (jI 3), some (jJ f), none, some (jJ (zg ((w.1 (m + 4) n) + (w.1 (m + 4) (n + 2))) (w.1 (m + 4) (n + 1)))), none, none, none] [] 0 0 (jW (jW (jW (jW w m 8 ((w.1 (m + 4) n) + (w.1 (m + 4) (n + 2)))) m 9 (w.1 (m + 4) (n + 1))) m 8 (Int.tdiv ((w.1 (m + 4) n) + (w.1 (m + 4) (n + 2))) (zg ((w.1 (m + 4) n) + (w.1 (m + 4) (n + 2))) (w.1 (m + 4) (n + 1))))) m 9 (Int.tdiv (w.1 (m + 4) (n + 1)) (zg ((w.1 (m + 4) n) + (w.1 (m + 4) (n + 2))) (w.1 (m + 4) (n + 1))))) _
              refine jWp.blk mt 1 ?_
              show jWp 153 340 [some (jO m), some (jI (x : Int)), some (jI (n : Int)), some (jI law), some (jI 3), some (jJ f), none, some (jJ (zg ((w.1 (m + 4) n) + (w.1 (m + 4) (n + 2))) (w.1 (m + 4) (n + 1)))), none, none, none] [jI 1] 0 0 (jW (jW (jW (jW w m 8 ((w.1 (m + 4) n) + (w.1 (m + 4) (n + 2)))) m 9 (w.1 (m + 4) (n + 1))) m 8 (Int.tdiv ((w.1 (m + 4) n) + (w.1 (m + 4) (n + 2))) (zg ((w.1 (m + 4) n) + (w.1 (m + 4) (n + 2))) (w.1 (m + 4) (n + 1))))) m 9 (Int.tdiv (w.1 (m + 4) (n + 1)) (zg ((w.1 (m + 4) n) + (w.1 (m + 4) (n + 2))) (w.1 (m + 4) (n + 1))))) _
              refine jWp.iretz mt rfl ⟨rfl, rfl⟩ rfl (Or.inr rfl) ?_
              have ez : zkm law = 3 := by unfold zkm; rw [if_neg (by omega), if_pos (by omega)]
              have eu : zku law f (w.1 (m + 4)) n = ((w.1 (m + 4) n) + (w.1 (m + 4) (n + 2))) := by unfold zku; rw [if_neg (by omega), if_pos (by omega)]
              have ed : zkd law (w.1 (m + 4)) n = (w.1 (m + 4) (n + 1)) := by unfold zkd; rw [if_neg (by omega), if_pos (by omega)]
              have hua := zuA (a := ((w.1 (m + 4) n) + (w.1 (m + 4) (n + 2)))) (b := (w.1 (m + 4) (n + 1))) (by omega)
              have hvb := zv_b (a := ((w.1 (m + 4) n) + (w.1 (m + 4) (n + 2)))) (b := (w.1 (m + 4) (n + 1))) (by omega)
              refine Or.inl ⟨rfl, ⟨by rw [ez]; decide, by rw [ez]; exact h9⟩, ?_, ?_⟩
              · rw [eu, ed]
                exact jW4
              · rw [eu, ed]
                omega
          · have h10 : law = 0 := h10
            exfalso; omega
        · have h9 : ¬ (∀ k, n ≤ k → k < n + 3 → k < len ∧ 1 ≤ w.1 (m + 4) k ∧ w.1 (m + 4) k ≤ 9999) := h9
          show jWp 153 53 [some (jO m), some (jI (x : Int)), some (jI (n : Int)), some (jI law), some (jI 3), none, none, none, none, none, none] [jI 0] 0 0 w _
          refine jWp.ifc (b := false) mt rfl (by decide) rfl ?_
          show jWp 153 56 [some (jO m), some (jI (x : Int)), some (jI (n : Int)), some (jI law), some (jI 3), none, none, none, none, none, none] [] 0 0 w _
          refine jWp.blk mt 1 ?_
          show jWp 153 57 [some (jO m), some (jI (x : Int)), some (jI (n : Int)), some (jI law), some (jI 3), none, none, none, none, none, none] [jI 0] 0 0 w _
          refine jWp.iretz mt rfl ⟨rfl, rfl⟩ rfl (Or.inl rfl) ?_
          refine Or.inr ⟨rfl, fun g => ?_, rfl⟩
          first
          | (exact g.1 (by unfold zkm; rw [if_neg (by omega), if_neg (by omega), if_neg (by omega)]))
          | (have := zkp_l g; omega)
          | (have ez : zkm law = 2 := by unfold zkm; rw [if_pos (by omega)]
             have g2 := g.2; rw [ez] at g2; exact absurd g2 (by assumption))
          | (have ez : zkm law = 3 := by unfold zkm; rw [if_neg (by omega), if_pos (by omega)]
             have g2 := g.2; rw [ez] at g2; exact absurd g2 (by assumption))
          | (have ez : zkm law = 4 := by unfold zkm; rw [if_neg (by omega), if_neg (by omega), if_pos (by omega)]
             have g2 := g.2; rw [ez] at g2; exact absurd g2 (by assumption))
  · have h1 : law = 0 := h1
    refine jWp.blk mt 4 ?_
    show jWp 153 37 [some (jO m), some (jI (x : Int)), some (jI (n : Int)), some (jI law), some (jI 2), none, none, none, none, none, none] [jI 2] 0 0 w _
    refine jWp.ifc (b := false) mt rfl (by decide) rfl ?_
    show jWp 153 40 [some (jO m), some (jI (x : Int)), some (jI (n : Int)), some (jI law), some (jI 2), none, none, none, none, none, none] [] 0 0 w _
    refine jWp.blk mt 2 ?_
    show jWp 153 43 [some (jO m), some (jI (x : Int)), some (jI (n : Int)), some (jI law), some (jI 2), none, none, none, none, none, none] [jI 60, jI (n : Int)] 0 0 w _
    refine jWp.icmp (pc' := 46) mt rfl rfl (b32_id (by omega) (by omega)) (show b32 60 = 60 by decide) (fun h12 => ?_) (fun h12 => ?_)
    · have h12 : 60 ≤ (n : Int) := h12
      refine jWp.blk mt 1 ?_
      show jWp 153 57 [some (jO m), some (jI (x : Int)), some (jI (n : Int)), some (jI law), some (jI 2), none, none, none, none, none, none] [jI 0] 0 0 w _
      refine jWp.iretz mt rfl ⟨rfl, rfl⟩ rfl (Or.inl rfl) ?_
      refine Or.inr ⟨rfl, fun g => ?_, rfl⟩
      first
      | (exact g.1 (by unfold zkm; rw [if_neg (by omega), if_neg (by omega), if_neg (by omega)]))
      | (have := zkp_l g; omega)
      | (have ez : zkm law = 2 := by unfold zkm; rw [if_pos (by omega)]
         have g2 := g.2; rw [ez] at g2; exact absurd g2 (by assumption))
      | (have ez : zkm law = 3 := by unfold zkm; rw [if_neg (by omega), if_pos (by omega)]
         have g2 := g.2; rw [ez] at g2; exact absurd g2 (by assumption))
      | (have ez : zkm law = 4 := by unfold zkm; rw [if_neg (by omega), if_neg (by omega), if_pos (by omega)]
         have g2 := g.2; rw [ez] at g2; exact absurd g2 (by assumption))
    · have h12 : (n : Int) < 60 := h12
      refine jWp.blk mt 3 ?_
      show _ ∧ jWp 153 50 [some (jO m), some (jI (x : Int)), some (jI (n : Int)), some (jI law), some (jI 2), none, none, none, none, none, none] [jI 2, jI (n : Int), jO m] 0 0 w _
      refine ⟨rfl, ?_⟩
      refine jWp.callv (as := [jO m, jI (n : Int), jI 2]) (rest := []) mt rfl rfl rfl ⟨rfl, jtg hW.K0⟩ ?_
      refine jCall.mono (E_areKept (w := w) (len := len) (n := n) (q := 2) hW hl hl60 hb (by omega) (by decide)) (fun v9 w9 h9 => ?_)
      rcases h9 with ⟨rfl, h9, h13⟩ | ⟨rfl, h9, h13⟩ <;> subst w9
      · have h13 : ∀ k, n ≤ k → k < n + 2 → k < len ∧ 1 ≤ w.1 (m + 4) k ∧ w.1 (m + 4) k ≤ 9999 := h13
        show jWp 153 53 [some (jO m), some (jI (x : Int)), some (jI (n : Int)), some (jI law), some (jI 2), none, none, none, none, none, none] [jI 1] 0 0 w _
        have b0 := h13 (n + 0) (by omega) (by omega)
        have b1 := h13 (n + 1) (by omega) (by omega)
        have hU := zkU0 hf b0.2 b1.2
        rw [show n + 0 = n from rfl] at b0 hU
        refine jWp.ifc (b := true) mt rfl (by decide) rfl ?_
        show jWp 153 58 [some (jO m), some (jI (x : Int)), some (jI (n : Int)), some (jI law), some (jI 2), none, none, none, none, none, none] [] 0 0 w _
        refine jWp.blk mt 2 ?_
        show _ ∧ jWp 153 60 [some (jO m), some (jI (x : Int)), some (jI (n : Int)), some (jI law), some (jI 2), none, none, none, none, none, none] [jI (x : Int), jO m] 0 0 w _
        refine ⟨rfl, ?_⟩
        refine jWp.callv (as := [jO m, jI (x : Int)]) (rest := []) mt rfl rfl rfl ⟨rfl, jtg hW.K0⟩ ?_
        refine jCall.mono ((by have h := E_figure (w := w) (x := x) hW hx; rw [hfig] at h; exact h)) (fun v9 w9 h9 => ?_)
        obtain ⟨rfl, h9⟩ := h9
        subst w9
        show jWp 153 63 [some (jO m), some (jI (x : Int)), some (jI (n : Int)), some (jI law), some (jI 2), none, none, none, none, none, none] [jI f] 0 0 w _
        refine jWp.i2l (pc' := 64) mt rfl rfl (b32_id (by omega) (by omega)) ?_
        show jWp 153 64 [some (jO m), some (jI (x : Int)), some (jI (n : Int)), some (jI law), some (jI 2), none, none, none, none, none, none] [jJ f] 0 0 w _
        refine jWp.blk mt 2 ?_
        show jWp 153 67 [some (jO m), some (jI (x : Int)), some (jI (n : Int)), some (jI law), some (jI 2), some (jJ f), none, none, none, none, none] [jI law] 0 0 w _
        refine jWp.ifz (pc' := 70) mt rfl rfl (b32_id (by omega) (by omega)) (fun h14 => ?_) (fun h14 => ?_)
        · have h14 : law ≠ 0 := h14
          exfalso; omega
        · have h14 : law = 0 := h14
          refine jWp.blk mt 2 ?_
          show _ ∧ _ ∧ jWp 153 72 [some (jO m), some (jI (x : Int)), some (jI (n : Int)), some (jI law), some (jI 2), some (jJ f), none, none, none, none, none] [jO m, jO m] 0 0 w _
          refine ⟨rfl, rfl, ?_⟩
          refine jWp.getR (pc' := 75) (o := (m + 4)) mt rfl rfl (jtg hW.K0) hW.R3 ?_
          show jWp 153 75 [some (jO m), some (jI (x : Int)), some (jI (n : Int)), some (jI law), some (jI 2), some (jJ f), none, none, none, none, none] [jO (m + 4), jO m] 0 0 w _
          refine jWp.blk mt 1 ?_
          show jWp 153 76 [some (jO m), some (jI (x : Int)), some (jI (n : Int)), some (jI law), some (jI 2), some (jJ f), none, none, none, none, none] [jI (n : Int), jO (m + 4), jO m] 0 0 w _
          refine jWp.lald (pc' := 77) (j := n) mt rfl rfl (jtg hW.K4) (b32_id (by omega) (by omega)) (jlt hW.K4 (by omega)) ?_
          show jWp 153 77 [some (jO m), some (jI (x : Int)), some (jI (n : Int)), some (jI law), some (jI 2), some (jJ f), none, none, none, none, none] [jJ (w.1 (m + 4) n), jO m] 0 0 w _
          refine jWp.blk mt 1 ?_
          show _ ∧ jWp 153 78 [some (jO m), some (jI (x : Int)), some (jI (n : Int)), some (jI law), some (jI 2), some (jJ f), none, none, none, none, none] [jO m, jJ (w.1 (m + 4) n), jO m] 0 0 w _
          refine ⟨rfl, ?_⟩
          refine jWp.getR (pc' := 81) (o := (m + 4)) mt rfl rfl (jtg hW.K0) hW.R3 ?_
          show jWp 153 81 [some (jO m), some (jI (x : Int)), some (jI (n : Int)), some (jI law), some (jI 2), some (jJ f), none, none, none, none, none] [jO (m + 4), jJ (w.1 (m + 4) n), jO m] 0 0 w _
          refine jWp.blk mt 1 ?_
          show jWp 153 82 [some (jO m), some (jI (x : Int)), some (jI (n : Int)), some (jI law), some (jI 2), some (jJ f), none, none, none, none, none] [jI (n : Int), jO (m + 4), jJ (w.1 (m + 4) n), jO m] 0 0 w _
          refine jWp.lald (pc' := 83) (j := n) mt rfl rfl (jtg hW.K4) (b32_id (by omega) (by omega)) (jlt hW.K4 (by omega)) ?_
          show jWp 153 83 [some (jO m), some (jI (x : Int)), some (jI (n : Int)), some (jI law), some (jI 2), some (jJ f), none, none, none, none, none] [jJ (w.1 (m + 4) n), jJ (w.1 (m + 4) n), jO m] 0 0 w _
          refine jWp.blk mt 2 ?_
          show _ ∧ jWp 153 85 [some (jO m), some (jI (x : Int)), some (jI (n : Int)), some (jI law), some (jI 2), some (jJ f), none, none, none, none, none] [jO m, jJ ((w.1 (m + 4) n) * (w.1 (m + 4) n)), jO m] 0 0 w _
          refine ⟨rfl, ?_⟩
          refine jWp.getR (pc' := 88) (o := (m + 4)) mt rfl rfl (jtg hW.K0) hW.R3 ?_
          show jWp 153 88 [some (jO m), some (jI (x : Int)), some (jI (n : Int)), some (jI law), some (jI 2), some (jJ f), none, none, none, none, none] [jO (m + 4), jJ ((w.1 (m + 4) n) * (w.1 (m + 4) n)), jO m] 0 0 w _
          refine jWp.blk mt 3 ?_
          show jWp 153 91 [some (jO m), some (jI (x : Int)), some (jI (n : Int)), some (jI law), some (jI 2), some (jJ f), none, none, none, none, none] [jI ((n : Int) + 1), jO (m + 4), jJ ((w.1 (m + 4) n) * (w.1 (m + 4) n)), jO m] 0 0 w _
          refine jWp.lald (pc' := 92) (j := (n + 1)) mt rfl rfl (jtg hW.K4) (by rw [b32_id (by omega) (by omega)]; omega) (jlt hW.K4 (by omega)) ?_
          show jWp 153 92 [some (jO m), some (jI (x : Int)), some (jI (n : Int)), some (jI law), some (jI 2), some (jJ f), none, none, none, none, none] [jJ (w.1 (m + 4) (n + 1)), jJ ((w.1 (m + 4) n) * (w.1 (m + 4) n)), jO m] 0 0 w _
          refine jWp.blk mt 1 ?_
          show _ ∧ jWp 153 93 [some (jO m), some (jI (x : Int)), some (jI (n : Int)), some (jI law), some (jI 2), some (jJ f), none, none, none, none, none] [jO m, jJ (w.1 (m + 4) (n + 1)), jJ ((w.1 (m + 4) n) * (w.1 (m + 4) n)), jO m] 0 0 w _
          refine ⟨rfl, ?_⟩
          refine jWp.getR (pc' := 96) (o := (m + 4)) mt rfl rfl (jtg hW.K0) hW.R3 ?_
          show jWp 153 96 [some (jO m), some (jI (x : Int)), some (jI (n : Int)), some (jI law), some (jI 2), some (jJ f), none, none, none, none, none] [jO (m + 4), jJ (w.1 (m + 4) (n + 1)), jJ ((w.1 (m + 4) n) * (w.1 (m + 4) n)), jO m] 0 0 w _
          refine jWp.blk mt 3 ?_
          show jWp 153 99 [some (jO m), some (jI (x : Int)), some (jI (n : Int)), some (jI law), some (jI 2), some (jJ f), none, none, none, none, none] [jI ((n : Int) + 1), jO (m + 4), jJ (w.1 (m + 4) (n + 1)), jJ ((w.1 (m + 4) n) * (w.1 (m + 4) n)), jO m] 0 0 w _
          refine jWp.lald (pc' := 100) (j := (n + 1)) mt rfl rfl (jtg hW.K4) (by rw [b32_id (by omega) (by omega)]; omega) (jlt hW.K4 (by omega)) ?_
          show jWp 153 100 [some (jO m), some (jI (x : Int)), some (jI (n : Int)), some (jI law), some (jI 2), some (jJ f), none, none, none, none, none] [jJ (w.1 (m + 4) (n + 1)), jJ (w.1 (m + 4) (n + 1)), jJ ((w.1 (m + 4) n) * (w.1 (m + 4) n)), jO m] 0 0 w _
          refine jWp.blk mt 4 ?_
          show _ ∧ jWp 153 105 [some (jO m), some (jI (x : Int)), some (jI (n : Int)), some (jI law), some (jI 2), some (jJ f), none, none, none, none, none] [jO m, jJ f, jJ (((w.1 (m + 4) n) * (w.1 (m + 4) n)) + ((w.1 (m + 4) (n + 1)) * (w.1 (m + 4) (n + 1)))), jO m] 0 0 w _
          refine ⟨rfl, ?_⟩
          refine jWp.getR (pc' := 108) (o := (m + 4)) mt rfl rfl (jtg hW.K0) hW.R3 ?_
          show jWp 153 108 [some (jO m), some (jI (x : Int)), some (jI (n : Int)), some (jI law), some (jI 2), some (jJ f), none, none, none, none, none] [jO (m + 4), jJ f, jJ (((w.1 (m + 4) n) * (w.1 (m + 4) n)) + ((w.1 (m + 4) (n + 1)) * (w.1 (m + 4) (n + 1)))), jO m] 0 0 w _
          refine jWp.blk mt 1 ?_
          show jWp 153 109 [some (jO m), some (jI (x : Int)), some (jI (n : Int)), some (jI law), some (jI 2), some (jJ f), none, none, none, none, none] [jI (n : Int), jO (m + 4), jJ f, jJ (((w.1 (m + 4) n) * (w.1 (m + 4) n)) + ((w.1 (m + 4) (n + 1)) * (w.1 (m + 4) (n + 1)))), jO m] 0 0 w _
          refine jWp.lald (pc' := 110) (j := n) mt rfl rfl (jtg hW.K4) (b32_id (by omega) (by omega)) (jlt hW.K4 (by omega)) ?_
          show jWp 153 110 [some (jO m), some (jI (x : Int)), some (jI (n : Int)), some (jI law), some (jI 2), some (jJ f), none, none, none, none, none] [jJ (w.1 (m + 4) n), jJ f, jJ (((w.1 (m + 4) n) * (w.1 (m + 4) n)) + ((w.1 (m + 4) (n + 1)) * (w.1 (m + 4) (n + 1)))), jO m] 0 0 w _
          refine jWp.blk mt 2 ?_
          show _ ∧ jWp 153 112 [some (jO m), some (jI (x : Int)), some (jI (n : Int)), some (jI law), some (jI 2), some (jJ f), none, none, none, none, none] [jO m, jJ (f * (w.1 (m + 4) n)), jJ (((w.1 (m + 4) n) * (w.1 (m + 4) n)) + ((w.1 (m + 4) (n + 1)) * (w.1 (m + 4) (n + 1)))), jO m] 0 0 w _
          refine ⟨rfl, ?_⟩
          refine jWp.getR (pc' := 115) (o := (m + 4)) mt rfl rfl (jtg hW.K0) hW.R3 ?_
          show jWp 153 115 [some (jO m), some (jI (x : Int)), some (jI (n : Int)), some (jI law), some (jI 2), some (jJ f), none, none, none, none, none] [jO (m + 4), jJ (f * (w.1 (m + 4) n)), jJ (((w.1 (m + 4) n) * (w.1 (m + 4) n)) + ((w.1 (m + 4) (n + 1)) * (w.1 (m + 4) (n + 1)))), jO m] 0 0 w _
          refine jWp.blk mt 3 ?_
          show jWp 153 118 [some (jO m), some (jI (x : Int)), some (jI (n : Int)), some (jI law), some (jI 2), some (jJ f), none, none, none, none, none] [jI ((n : Int) + 1), jO (m + 4), jJ (f * (w.1 (m + 4) n)), jJ (((w.1 (m + 4) n) * (w.1 (m + 4) n)) + ((w.1 (m + 4) (n + 1)) * (w.1 (m + 4) (n + 1)))), jO m] 0 0 w _
          refine jWp.lald (pc' := 119) (j := (n + 1)) mt rfl rfl (jtg hW.K4) (by rw [b32_id (by omega) (by omega)]; omega) (jlt hW.K4 (by omega)) ?_
          show jWp 153 119 [some (jO m), some (jI (x : Int)), some (jI (n : Int)), some (jI law), some (jI 2), some (jJ f), none, none, none, none, none] [jJ (w.1 (m + 4) (n + 1)), jJ (f * (w.1 (m + 4) n)), jJ (((w.1 (m + 4) n) * (w.1 (m + 4) n)) + ((w.1 (m + 4) (n + 1)) * (w.1 (m + 4) (n + 1)))), jO m] 0 0 w _
          refine jWp.blk mt 2 ?_
          show jWp 153 121 [some (jO m), some (jI (x : Int)), some (jI (n : Int)), some (jI law), some (jI 2), some (jJ f), none, none, none, none, none] [jJ ((((w.1 (m + 4) n) * (w.1 (m + 4) n)) + ((w.1 (m + 4) (n + 1)) * (w.1 (m + 4) (n + 1)))) - ((f * (w.1 (m + 4) n)) * (w.1 (m + 4) (n + 1)))), jO m] 0 0 w _
          refine jWp.putJ (pc' := 124) mt rfl rfl (jtg hW.K0) ?_
          show jWp 153 124 [some (jO m), some (jI (x : Int)), some (jI (n : Int)), some (jI law), some (jI 2), some (jJ f), none, none, none, none, none] [] 0 0 (jW w m 8 ((((w.1 (m + 4) n) * (w.1 (m + 4) n)) + ((w.1 (m + 4) (n + 1)) * (w.1 (m + 4) (n + 1)))) - ((f * (w.1 (m + 4) n)) * (w.1 (m + 4) (n + 1))))) _
          refine jWp.blk mt 2 ?_
          show _ ∧ jWp 153 126 [some (jO m), some (jI (x : Int)), some (jI (n : Int)), some (jI law), some (jI 2), some (jJ f), none, none, none, none, none] [jJ 1, jO m] 0 0 (jW w m 8 ((((w.1 (m + 4) n) * (w.1 (m + 4) n)) + ((w.1 (m + 4) (n + 1)) * (w.1 (m + 4) (n + 1)))) - ((f * (w.1 (m + 4) n)) * (w.1 (m + 4) (n + 1))))) _
          refine ⟨rfl, ?_⟩
          refine jWp.putJ (pc' := 129) mt rfl rfl (jtg hW.K0) ?_
          show jWp 153 129 [some (jO m), some (jI (x : Int)), some (jI (n : Int)), some (jI law), some (jI 2), some (jJ f), none, none, none, none, none] [] 0 0 (jW (jW w m 8 ((((w.1 (m + 4) n) * (w.1 (m + 4) n)) + ((w.1 (m + 4) (n + 1)) * (w.1 (m + 4) (n + 1)))) - ((f * (w.1 (m + 4) n)) * (w.1 (m + 4) (n + 1))))) m 9 1) _
          refine jWp.blk mt 2 ?_
          show _ ∧ jWp 153 305 [some (jO m), some (jI (x : Int)), some (jI (n : Int)), some (jI law), some (jI 2), some (jJ f), none, none, none, none, none] [jO m] 0 0 (jW (jW w m 8 ((((w.1 (m + 4) n) * (w.1 (m + 4) n)) + ((w.1 (m + 4) (n + 1)) * (w.1 (m + 4) (n + 1)))) - ((f * (w.1 (m + 4) n)) * (w.1 (m + 4) (n + 1))))) m 9 1) _
          refine ⟨rfl, ?_⟩
          refine jWp.getJ (pc' := 308) mt rfl rfl (jtg hW.K0) ?_
          rw [show ((jW (jW w m 8 ((((w.1 (m + 4) n) * (w.1 (m + 4) n)) + ((w.1 (m + 4) (n + 1)) * (w.1 (m + 4) (n + 1)))) - ((f * (w.1 (m + 4) n)) * (w.1 (m + 4) (n + 1))))) m 9 1).1 m 8) = ((((w.1 (m + 4) n) * (w.1 (m + 4) n)) + ((w.1 (m + 4) (n + 1)) * (w.1 (m + 4) (n + 1)))) - ((f * (w.1 (m + 4) n)) * (w.1 (m + 4) (n + 1)))) from ((jW_k (by decide)).trans jW_s)]
          show jWp 153 308 [some (jO m), some (jI (x : Int)), some (jI (n : Int)), some (jI law), some (jI 2), some (jJ f), none, none, none, none, none] [jJ ((((w.1 (m + 4) n) * (w.1 (m + 4) n)) + ((w.1 (m + 4) (n + 1)) * (w.1 (m + 4) (n + 1)))) - ((f * (w.1 (m + 4) n)) * (w.1 (m + 4) (n + 1))))] 0 0 (jW (jW w m 8 ((((w.1 (m + 4) n) * (w.1 (m + 4) n)) + ((w.1 (m + 4) (n + 1)) * (w.1 (m + 4) (n + 1)))) - ((f * (w.1 (m + 4) n)) * (w.1 (m + 4) (n + 1))))) m 9 1) _
          refine jWp.blk mt 1 ?_
          show _ ∧ jWp 153 309 [some (jO m), some (jI (x : Int)), some (jI (n : Int)), some (jI law), some (jI 2), some (jJ f), none, none, none, none, none] [jO m, jJ ((((w.1 (m + 4) n) * (w.1 (m + 4) n)) + ((w.1 (m + 4) (n + 1)) * (w.1 (m + 4) (n + 1)))) - ((f * (w.1 (m + 4) n)) * (w.1 (m + 4) (n + 1))))] 0 0 (jW (jW w m 8 ((((w.1 (m + 4) n) * (w.1 (m + 4) n)) + ((w.1 (m + 4) (n + 1)) * (w.1 (m + 4) (n + 1)))) - ((f * (w.1 (m + 4) n)) * (w.1 (m + 4) (n + 1))))) m 9 1) _
          refine ⟨rfl, ?_⟩
          refine jWp.getJ (pc' := 312) mt rfl rfl (jtg hW.K0) ?_
          rw [show ((jW (jW w m 8 ((((w.1 (m + 4) n) * (w.1 (m + 4) n)) + ((w.1 (m + 4) (n + 1)) * (w.1 (m + 4) (n + 1)))) - ((f * (w.1 (m + 4) n)) * (w.1 (m + 4) (n + 1))))) m 9 1).1 m 9) = 1 from jW_s]
          show jWp 153 312 [some (jO m), some (jI (x : Int)), some (jI (n : Int)), some (jI law), some (jI 2), some (jJ f), none, none, none, none, none] [jJ 1, jJ ((((w.1 (m + 4) n) * (w.1 (m + 4) n)) + ((w.1 (m + 4) (n + 1)) * (w.1 (m + 4) (n + 1)))) - ((f * (w.1 (m + 4) n)) * (w.1 (m + 4) (n + 1))))] 0 0 (jW (jW w m 8 ((((w.1 (m + 4) n) * (w.1 (m + 4) n)) + ((w.1 (m + 4) (n + 1)) * (w.1 (m + 4) (n + 1)))) - ((f * (w.1 (m + 4) n)) * (w.1 (m + 4) (n + 1))))) m 9 1) _
          refine jWp.calls (as := [jJ ((((w.1 (m + 4) n) * (w.1 (m + 4) n)) + ((w.1 (m + 4) (n + 1)) * (w.1 (m + 4) (n + 1)))) - ((f * (w.1 (m + 4) n)) * (w.1 (m + 4) (n + 1)))), jJ 1]) (rest := []) mt rfl rfl rfl rfl ?_
          refine jCall.mono (E_div (by omega) (by omega)) (fun v9 w9 h9 => ?_)
          obtain ⟨rfl, h9⟩ := h9
          subst w9
          show jWp 153 315 [some (jO m), some (jI (x : Int)), some (jI (n : Int)), some (jI law), some (jI 2), some (jJ f), none, none, none, none, none] [jJ (zg ((((w.1 (m + 4) n) * (w.1 (m + 4) n)) + ((w.1 (m + 4) (n + 1)) * (w.1 (m + 4) (n + 1)))) - ((f * (w.1 (m + 4) n)) * (w.1 (m + 4) (n + 1)))) 1)] 0 0 (jW (jW w m 8 ((((w.1 (m + 4) n) * (w.1 (m + 4) n)) + ((w.1 (m + 4) (n + 1)) * (w.1 (m + 4) (n + 1)))) - ((f * (w.1 (m + 4) n)) * (w.1 (m + 4) (n + 1))))) m 9 1) _
          have hgp := zg_pos (a := ((((w.1 (m + 4) n) * (w.1 (m + 4) n)) + ((w.1 (m + 4) (n + 1)) * (w.1 (m + 4) (n + 1)))) - ((f * (w.1 (m + 4) n)) * (w.1 (m + 4) (n + 1))))) (b := 1) (by omega)
          have hgl := zg_le (a := ((((w.1 (m + 4) n) * (w.1 (m + 4) n)) + ((w.1 (m + 4) (n + 1)) * (w.1 (m + 4) (n + 1)))) - ((f * (w.1 (m + 4) n)) * (w.1 (m + 4) (n + 1))))) (b := 1) (by omega)
          refine jWp.blk mt 3 ?_
          show _ ∧ _ ∧ jWp 153 319 [some (jO m), some (jI (x : Int)), some (jI (n : Int)), some (jI law), some (jI 2), some (jJ f), none, some (jJ (zg ((((w.1 (m + 4) n) * (w.1 (m + 4) n)) + ((w.1 (m + 4) (n + 1)) * (w.1 (m + 4) (n + 1)))) - ((f * (w.1 (m + 4) n)) * (w.1 (m + 4) (n + 1)))) 1)), none, none, none] [jO m, jO m] 0 0 (jW (jW w m 8 ((((w.1 (m + 4) n) * (w.1 (m + 4) n)) + ((w.1 (m + 4) (n + 1)) * (w.1 (m + 4) (n + 1)))) - ((f * (w.1 (m + 4) n)) * (w.1 (m + 4) (n + 1))))) m 9 1) _
          refine ⟨rfl, rfl, ?_⟩
          refine jWp.getJ (pc' := 322) mt rfl rfl (jtg hW.K0) ?_
          rw [show ((jW (jW w m 8 ((((w.1 (m + 4) n) * (w.1 (m + 4) n)) + ((w.1 (m + 4) (n + 1)) * (w.1 (m + 4) (n + 1)))) - ((f * (w.1 (m + 4) n)) * (w.1 (m + 4) (n + 1))))) m 9 1).1 m 8) = ((((w.1 (m + 4) n) * (w.1 (m + 4) n)) + ((w.1 (m + 4) (n + 1)) * (w.1 (m + 4) (n + 1)))) - ((f * (w.1 (m + 4) n)) * (w.1 (m + 4) (n + 1)))) from ((jW_k (by decide)).trans jW_s)]
          show jWp 153 322 [some (jO m), some (jI (x : Int)), some (jI (n : Int)), some (jI law), some (jI 2), some (jJ f), none, some (jJ (zg ((((w.1 (m + 4) n) * (w.1 (m + 4) n)) + ((w.1 (m + 4) (n + 1)) * (w.1 (m + 4) (n + 1)))) - ((f * (w.1 (m + 4) n)) * (w.1 (m + 4) (n + 1)))) 1)), none, none, none] [jJ ((((w.1 (m + 4) n) * (w.1 (m + 4) n)) + ((w.1 (m + 4) (n + 1)) * (w.1 (m + 4) (n + 1)))) - ((f * (w.1 (m + 4) n)) * (w.1 (m + 4) (n + 1)))), jO m] 0 0 (jW (jW w m 8 ((((w.1 (m + 4) n) * (w.1 (m + 4) n)) + ((w.1 (m + 4) (n + 1)) * (w.1 (m + 4) (n + 1)))) - ((f * (w.1 (m + 4) n)) * (w.1 (m + 4) (n + 1))))) m 9 1) _
          refine jWp.blk mt 1 ?_
          show jWp 153 324 [some (jO m), some (jI (x : Int)), some (jI (n : Int)), some (jI law), some (jI 2), some (jJ f), none, some (jJ (zg ((((w.1 (m + 4) n) * (w.1 (m + 4) n)) + ((w.1 (m + 4) (n + 1)) * (w.1 (m + 4) (n + 1)))) - ((f * (w.1 (m + 4) n)) * (w.1 (m + 4) (n + 1)))) 1)), none, none, none] [jJ (zg ((((w.1 (m + 4) n) * (w.1 (m + 4) n)) + ((w.1 (m + 4) (n + 1)) * (w.1 (m + 4) (n + 1)))) - ((f * (w.1 (m + 4) n)) * (w.1 (m + 4) (n + 1)))) 1), jJ ((((w.1 (m + 4) n) * (w.1 (m + 4) n)) + ((w.1 (m + 4) (n + 1)) * (w.1 (m + 4) (n + 1)))) - ((f * (w.1 (m + 4) n)) * (w.1 (m + 4) (n + 1)))), jO m] 0 0 (jW (jW w m 8 ((((w.1 (m + 4) n) * (w.1 (m + 4) n)) + ((w.1 (m + 4) (n + 1)) * (w.1 (m + 4) (n + 1)))) - ((f * (w.1 (m + 4) n)) * (w.1 (m + 4) (n + 1))))) m 9 1) _
          refine jWp.ldiv (pc' := 325) mt rfl rfl (b64_id (by omega) (by omega)) (b64_id (by omega) (by omega)) (by omega) ?_
          show jWp 153 325 [some (jO m), some (jI (x : Int)), some (jI (n : Int)), some (jI law), some (jI 2), some (jJ f), none, some (jJ (zg ((((w.1 (m + 4) n) * (w.1 (m + 4) n)) + ((w.1 (m + 4) (n + 1)) * (w.1 (m + 4) (n + 1)))) - ((f * (w.1 (m + 4) n)) * (w.1 (m + 4) (n + 1)))) 1)), none, none, none] [jJ (Int.tdiv ((((w.1 (m + 4) n) * (w.1 (m + 4) n)) + ((w.1 (m + 4) (n + 1)) * (w.1 (m + 4) (n + 1)))) - ((f * (w.1 (m + 4) n)) * (w.1 (m + 4) (n + 1)))) (zg ((((w.1 (m + 4) n) * (w.1 (m + 4) n)) + ((w.1 (m + 4) (n + 1)) * (w.1 (m + 4) (n + 1)))) - ((f * (w.1 (m + 4) n)) * (w.1 (m + 4) (n + 1)))) 1)), jO m] 0 0 (jW (jW w m 8 ((((w.1 (m + 4) n) * (w.1 (m + 4) n)) + ((w.1 (m + 4) (n + 1)) * (w.1 (m + 4) (n + 1)))) - ((f * (w.1 (m + 4) n)) * (w.1 (m + 4) (n + 1))))) m 9 1) _
          refine jWp.putJ (pc' := 328) mt rfl rfl (jtg hW.K0) ?_
          show jWp 153 328 [some (jO m), some (jI (x : Int)), some (jI (n : Int)), some (jI law), some (jI 2), some (jJ f), none, some (jJ (zg ((((w.1 (m + 4) n) * (w.1 (m + 4) n)) + ((w.1 (m + 4) (n + 1)) * (w.1 (m + 4) (n + 1)))) - ((f * (w.1 (m + 4) n)) * (w.1 (m + 4) (n + 1)))) 1)), none, none, none] [] 0 0 (jW (jW (jW w m 8 ((((w.1 (m + 4) n) * (w.1 (m + 4) n)) + ((w.1 (m + 4) (n + 1)) * (w.1 (m + 4) (n + 1)))) - ((f * (w.1 (m + 4) n)) * (w.1 (m + 4) (n + 1))))) m 9 1) m 8 (Int.tdiv ((((w.1 (m + 4) n) * (w.1 (m + 4) n)) + ((w.1 (m + 4) (n + 1)) * (w.1 (m + 4) (n + 1)))) - ((f * (w.1 (m + 4) n)) * (w.1 (m + 4) (n + 1)))) (zg ((((w.1 (m + 4) n) * (w.1 (m + 4) n)) + ((w.1 (m + 4) (n + 1)) * (w.1 (m + 4) (n + 1)))) - ((f * (w.1 (m + 4) n)) * (w.1 (m + 4) (n + 1)))) 1))) _
          refine jWp.blk mt 2 ?_
          show _ ∧ _ ∧ jWp 153 330 [some (jO m), some (jI (x : Int)), some (jI (n : Int)), some (jI law), some (jI 2), some (jJ f), none, some (jJ (zg ((((w.1 (m + 4) n) * (w.1 (m + 4) n)) + ((w.1 (m + 4) (n + 1)) * (w.1 (m + 4) (n + 1)))) - ((f * (w.1 (m + 4) n)) * (w.1 (m + 4) (n + 1)))) 1)), none, none, none] [jO m, jO m] 0 0 (jW (jW (jW w m 8 ((((w.1 (m + 4) n) * (w.1 (m + 4) n)) + ((w.1 (m + 4) (n + 1)) * (w.1 (m + 4) (n + 1)))) - ((f * (w.1 (m + 4) n)) * (w.1 (m + 4) (n + 1))))) m 9 1) m 8 (Int.tdiv ((((w.1 (m + 4) n) * (w.1 (m + 4) n)) + ((w.1 (m + 4) (n + 1)) * (w.1 (m + 4) (n + 1)))) - ((f * (w.1 (m + 4) n)) * (w.1 (m + 4) (n + 1)))) (zg ((((w.1 (m + 4) n) * (w.1 (m + 4) n)) + ((w.1 (m + 4) (n + 1)) * (w.1 (m + 4) (n + 1)))) - ((f * (w.1 (m + 4) n)) * (w.1 (m + 4) (n + 1)))) 1))) _
          refine ⟨rfl, rfl, ?_⟩
          refine jWp.getJ (pc' := 333) mt rfl rfl (jtg hW.K0) ?_
          rw [show ((jW (jW (jW w m 8 ((((w.1 (m + 4) n) * (w.1 (m + 4) n)) + ((w.1 (m + 4) (n + 1)) * (w.1 (m + 4) (n + 1)))) - ((f * (w.1 (m + 4) n)) * (w.1 (m + 4) (n + 1))))) m 9 1) m 8 (Int.tdiv ((((w.1 (m + 4) n) * (w.1 (m + 4) n)) + ((w.1 (m + 4) (n + 1)) * (w.1 (m + 4) (n + 1)))) - ((f * (w.1 (m + 4) n)) * (w.1 (m + 4) (n + 1)))) (zg ((((w.1 (m + 4) n) * (w.1 (m + 4) n)) + ((w.1 (m + 4) (n + 1)) * (w.1 (m + 4) (n + 1)))) - ((f * (w.1 (m + 4) n)) * (w.1 (m + 4) (n + 1)))) 1))).1 m 9) = 1 from ((jW_k (by decide)).trans jW_s)]
          show jWp 153 333 [some (jO m), some (jI (x : Int)), some (jI (n : Int)), some (jI law), some (jI 2), some (jJ f), none, some (jJ (zg ((((w.1 (m + 4) n) * (w.1 (m + 4) n)) + ((w.1 (m + 4) (n + 1)) * (w.1 (m + 4) (n + 1)))) - ((f * (w.1 (m + 4) n)) * (w.1 (m + 4) (n + 1)))) 1)), none, none, none] [jJ 1, jO m] 0 0 (jW (jW (jW w m 8 ((((w.1 (m + 4) n) * (w.1 (m + 4) n)) + ((w.1 (m + 4) (n + 1)) * (w.1 (m + 4) (n + 1)))) - ((f * (w.1 (m + 4) n)) * (w.1 (m + 4) (n + 1))))) m 9 1) m 8 (Int.tdiv ((((w.1 (m + 4) n) * (w.1 (m + 4) n)) + ((w.1 (m + 4) (n + 1)) * (w.1 (m + 4) (n + 1)))) - ((f * (w.1 (m + 4) n)) * (w.1 (m + 4) (n + 1)))) (zg ((((w.1 (m + 4) n) * (w.1 (m + 4) n)) + ((w.1 (m + 4) (n + 1)) * (w.1 (m + 4) (n + 1)))) - ((f * (w.1 (m + 4) n)) * (w.1 (m + 4) (n + 1)))) 1))) _
          refine jWp.blk mt 1 ?_
          show jWp 153 335 [some (jO m), some (jI (x : Int)), some (jI (n : Int)), some (jI law), some (jI 2), some (jJ f), none, some (jJ (zg ((((w.1 (m + 4) n) * (w.1 (m + 4) n)) + ((w.1 (m + 4) (n + 1)) * (w.1 (m + 4) (n + 1)))) - ((f * (w.1 (m + 4) n)) * (w.1 (m + 4) (n + 1)))) 1)), none, none, none] [jJ (zg ((((w.1 (m + 4) n) * (w.1 (m + 4) n)) + ((w.1 (m + 4) (n + 1)) * (w.1 (m + 4) (n + 1)))) - ((f * (w.1 (m + 4) n)) * (w.1 (m + 4) (n + 1)))) 1), jJ 1, jO m] 0 0 (jW (jW (jW w m 8 ((((w.1 (m + 4) n) * (w.1 (m + 4) n)) + ((w.1 (m + 4) (n + 1)) * (w.1 (m + 4) (n + 1)))) - ((f * (w.1 (m + 4) n)) * (w.1 (m + 4) (n + 1))))) m 9 1) m 8 (Int.tdiv ((((w.1 (m + 4) n) * (w.1 (m + 4) n)) + ((w.1 (m + 4) (n + 1)) * (w.1 (m + 4) (n + 1)))) - ((f * (w.1 (m + 4) n)) * (w.1 (m + 4) (n + 1)))) (zg ((((w.1 (m + 4) n) * (w.1 (m + 4) n)) + ((w.1 (m + 4) (n + 1)) * (w.1 (m + 4) (n + 1)))) - ((f * (w.1 (m + 4) n)) * (w.1 (m + 4) (n + 1)))) 1))) _
          refine jWp.ldiv (pc' := 336) mt rfl rfl (b64_id (by omega) (by omega)) (b64_id (by omega) (by omega)) (by omega) ?_
          show jWp 153 336 [some (jO m), some (jI (x : Int)), some (jI (n : Int)), some (jI law), some (jI 2), some (jJ f), none, some (jJ (zg ((((w.1 (m + 4) n) * (w.1 (m + 4) n)) + ((w.1 (m + 4) (n + 1)) * (w.1 (m + 4) (n + 1)))) - ((f * (w.1 (m + 4) n)) * (w.1 (m + 4) (n + 1)))) 1)), none, none, none] [jJ (Int.tdiv 1 (zg ((((w.1 (m + 4) n) * (w.1 (m + 4) n)) + ((w.1 (m + 4) (n + 1)) * (w.1 (m + 4) (n + 1)))) - ((f * (w.1 (m + 4) n)) * (w.1 (m + 4) (n + 1)))) 1)), jO m] 0 0 (jW (jW (jW w m 8 ((((w.1 (m + 4) n) * (w.1 (m + 4) n)) + ((w.1 (m + 4) (n + 1)) * (w.1 (m + 4) (n + 1)))) - ((f * (w.1 (m + 4) n)) * (w.1 (m + 4) (n + 1))))) m 9 1) m 8 (Int.tdiv ((((w.1 (m + 4) n) * (w.1 (m + 4) n)) + ((w.1 (m + 4) (n + 1)) * (w.1 (m + 4) (n + 1)))) - ((f * (w.1 (m + 4) n)) * (w.1 (m + 4) (n + 1)))) (zg ((((w.1 (m + 4) n) * (w.1 (m + 4) n)) + ((w.1 (m + 4) (n + 1)) * (w.1 (m + 4) (n + 1)))) - ((f * (w.1 (m + 4) n)) * (w.1 (m + 4) (n + 1)))) 1))) _
          refine jWp.putJ (pc' := 339) mt rfl rfl (jtg hW.K0) ?_
          show jWp 153 339 [some (jO m), some (jI (x : Int)), some (jI (n : Int)), some (jI law), some (jI 2), some (jJ f), none, some (jJ (zg ((((w.1 (m + 4) n) * (w.1 (m + 4) n)) + ((w.1 (m + 4) (n + 1)) * (w.1 (m + 4) (n + 1)))) - ((f * (w.1 (m + 4) n)) * (w.1 (m + 4) (n + 1)))) 1)), none, none, none] [] 0 0 (jW (jW (jW (jW w m 8 ((((w.1 (m + 4) n) * (w.1 (m + 4) n)) + ((w.1 (m + 4) (n + 1)) * (w.1 (m + 4) (n + 1)))) - ((f * (w.1 (m + 4) n)) * (w.1 (m + 4) (n + 1))))) m 9 1) m 8 (Int.tdiv ((((w.1 (m + 4) n) * (w.1 (m + 4) n)) + ((w.1 (m + 4) (n + 1)) * (w.1 (m + 4) (n + 1)))) - ((f * (w.1 (m + 4) n)) * (w.1 (m + 4) (n + 1)))) (zg ((((w.1 (m + 4) n) * (w.1 (m + 4) n)) + ((w.1 (m + 4) (n + 1)) * (w.1 (m + 4) (n + 1)))) - ((f * (w.1 (m + 4) n)) * (w.1 (m + 4) (n + 1)))) 1))) m 9 (Int.tdiv 1 (zg ((((w.1 (m + 4) n) * (w.1 (m + 4) n)) + ((w.1 (m + 4) (n + 1)) * (w.1 (m + 4) (n + 1)))) - ((f * (w.1 (m + 4) n)) * (w.1 (m + 4) (n + 1)))) 1))) _
          refine jWp.blk mt 1 ?_
          show jWp 153 340 [some (jO m), some (jI (x : Int)), some (jI (n : Int)), some (jI law), some (jI 2), some (jJ f), none, some (jJ (zg ((((w.1 (m + 4) n) * (w.1 (m + 4) n)) + ((w.1 (m + 4) (n + 1)) * (w.1 (m + 4) (n + 1)))) - ((f * (w.1 (m + 4) n)) * (w.1 (m + 4) (n + 1)))) 1)), none, none, none] [jI 1] 0 0 (jW (jW (jW (jW w m 8 ((((w.1 (m + 4) n) * (w.1 (m + 4) n)) + ((w.1 (m + 4) (n + 1)) * (w.1 (m + 4) (n + 1)))) - ((f * (w.1 (m + 4) n)) * (w.1 (m + 4) (n + 1))))) m 9 1) m 8 (Int.tdiv ((((w.1 (m + 4) n) * (w.1 (m + 4) n)) + ((w.1 (m + 4) (n + 1)) * (w.1 (m + 4) (n + 1)))) - ((f * (w.1 (m + 4) n)) * (w.1 (m + 4) (n + 1)))) (zg ((((w.1 (m + 4) n) * (w.1 (m + 4) n)) + ((w.1 (m + 4) (n + 1)) * (w.1 (m + 4) (n + 1)))) - ((f * (w.1 (m + 4) n)) * (w.1 (m + 4) (n + 1)))) 1))) m 9 (Int.tdiv 1 (zg ((((w.1 (m + 4) n) * (w.1 (m + 4) n)) + ((w.1 (m + 4) (n + 1)) * (w.1 (m + 4) (n + 1)))) - ((f * (w.1 (m + 4) n)) * (w.1 (m + 4) (n + 1)))) 1))) _
          refine jWp.iretz mt rfl ⟨rfl, rfl⟩ rfl (Or.inr rfl) ?_
          have ez : zkm law = 2 := by unfold zkm; rw [if_pos (by omega)]
          have eu : zku law f (w.1 (m + 4)) n = ((((w.1 (m + 4) n) * (w.1 (m + 4) n)) + ((w.1 (m + 4) (n + 1)) * (w.1 (m + 4) (n + 1)))) - ((f * (w.1 (m + 4) n)) * (w.1 (m + 4) (n + 1)))) := by unfold zku; rw [if_pos (by omega)]
          have ed : zkd law (w.1 (m + 4)) n = 1 := by unfold zkd; rw [if_pos (by omega)]
          have hua := zuA (a := ((((w.1 (m + 4) n) * (w.1 (m + 4) n)) + ((w.1 (m + 4) (n + 1)) * (w.1 (m + 4) (n + 1)))) - ((f * (w.1 (m + 4) n)) * (w.1 (m + 4) (n + 1))))) (b := 1) (by omega)
          have hvb := zv_b (a := ((((w.1 (m + 4) n) * (w.1 (m + 4) n)) + ((w.1 (m + 4) (n + 1)) * (w.1 (m + 4) (n + 1)))) - ((f * (w.1 (m + 4) n)) * (w.1 (m + 4) (n + 1))))) (b := 1) (by omega)
          refine Or.inl ⟨rfl, ⟨by rw [ez]; decide, by rw [ez]; exact h13⟩, ?_, ?_⟩
          · rw [eu, ed]
            exact jW4
          · rw [eu, ed]
            omega
      · have h13 : ¬ (∀ k, n ≤ k → k < n + 2 → k < len ∧ 1 ≤ w.1 (m + 4) k ∧ w.1 (m + 4) k ≤ 9999) := h13
        show jWp 153 53 [some (jO m), some (jI (x : Int)), some (jI (n : Int)), some (jI law), some (jI 2), none, none, none, none, none, none] [jI 0] 0 0 w _
        refine jWp.ifc (b := false) mt rfl (by decide) rfl ?_
        show jWp 153 56 [some (jO m), some (jI (x : Int)), some (jI (n : Int)), some (jI law), some (jI 2), none, none, none, none, none, none] [] 0 0 w _
        refine jWp.blk mt 1 ?_
        show jWp 153 57 [some (jO m), some (jI (x : Int)), some (jI (n : Int)), some (jI law), some (jI 2), none, none, none, none, none, none] [jI 0] 0 0 w _
        refine jWp.iretz mt rfl ⟨rfl, rfl⟩ rfl (Or.inl rfl) ?_
        refine Or.inr ⟨rfl, fun g => ?_, rfl⟩
        first
        | (exact g.1 (by unfold zkm; rw [if_neg (by omega), if_neg (by omega), if_neg (by omega)]))
        | (have := zkp_l g; omega)
        | (have ez : zkm law = 2 := by unfold zkm; rw [if_pos (by omega)]
           have g2 := g.2; rw [ez] at g2; exact absurd g2 (by assumption))
        | (have ez : zkm law = 3 := by unfold zkm; rw [if_neg (by omega), if_pos (by omega)]
           have g2 := g.2; rw [ez] at g2; exact absurd g2 (by assumption))
        | (have ez : zkm law = 4 := by unfold zkm; rw [if_neg (by omega), if_neg (by omega), if_pos (by omega)]
           have g2 := g.2; rw [ez] at g2; exact absurd g2 (by assumption))
