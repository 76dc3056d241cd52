/-- the reference's fraction at hand -/
def jF2 (w : jS) (m : Nat) (u v : Int) : jS := jW (jW w m 11 u) m 12 v
theorem jF2_u {w : jS} {m : Nat} {u v x : Int} : jW (jF2 w m u v) m 11 x = jF2 w m x v := by
  unfold jF2 jW jup
  congr 1
  funext b j
  by_cases hb : b = m <;> by_cases h1 : j = 11 <;> by_cases h2 : j = 12 <;> simp [hb, h1, h2]
theorem jF2_v {w : jS} {m : Nat} {u v x : Int} : jW (jF2 w m u v) m 12 x = jF2 w m u x := by
  unfold jF2 jW jup
  congr 1
  funext b j
  by_cases hb : b = m <;> by_cases h1 : j = 11 <;> by_cases h2 : j = 12 <;> simp [hb, h1, h2]
theorem jF2_2 {w : jS} {m : Nat} {u v x y : Int} : jW (jW (jF2 w m u v) m 11 x) m 12 y = jF2 w m x y := by rw [jF2_u, jF2_v]
theorem jF2_F {w : jS} {m : Nat} {u v x y : Int} : jF2 (jF2 w m u v) m x y = jF2 w m x y := jF2_2
theorem jF2_11 {w : jS} {m : Nat} {u v : Int} : (jF2 w m u v).1 m 11 = u := (jW_k (by decide)).trans jW_s
theorem jF2_12 {w : jS} {m : Nat} {u v : Int} : (jF2 w m u v).1 m 12 = v := jW_s
theorem jF2_a {w : jS} {m a j : Nat} {u v : Int} (h : a ≠ m) : (jF2 w m u v).1 a j = w.1 a j := (jW_a h).trans (jW_a h)
theorem jF2_k {w : jS} {m j : Nat} {u v : Int} (h1 : j ≠ 11) (h2 : j ≠ 12) : (jF2 w m u v).1 m j = w.1 m j := (jW_k h2).trans (jW_k h1)
/-- a fraction that is small, and its products -/
abbrev zsm (p : Int × Int) : Prop := 1 ≤ p.1 ∧ p.1 ≤ 1000000000 ∧ 1 ≤ p.2 ∧ p.2 ≤ 1000000000
abbrev zok (a b : Int) : Prop := zu a b ≤ 1000000000 ∧ zv a b ≤ 1000000000
theorem zmul_b {x y : Int} (hx : 1 ≤ x) (hx' : x ≤ 1000000000) (hy : 1 ≤ y) (hy' : y ≤ 1000000000) : 1 ≤ x * y ∧ x * y ≤ 1000000000000000000 := by
  have h1 : 1 * 1 ≤ x * y := Int.mul_le_mul hx hy (by decide) (by omega)
  have h2 : x * y ≤ 1000000000 * 1000000000 := Int.mul_le_mul hx' hy' (by omega) (by decide)
  omega
theorem zok_sm {a b : Int} (ha : 1 ≤ a) (hb : 1 ≤ b) (h : zok a b) : zsm (zu a b, zv a b) := ⟨zu_p (by omega) (by omega), h.1, (zv_b (by omega)).1, h.2⟩
/-- so many times -/
def zmt (x y : Int) : Nat → Int × Int → Option (Int × Int)
  | 0, p => some p
  | t + 1, p => if zok (p.1 * x) (p.2 * y) then zmt x y t (zu (p.1 * x) (p.2 * y), zv (p.1 * x) (p.2 * y)) else none
/-- all values, each so many times: so many letters, from this one on -/
def zml (up dn tm : Nat → Int) : Nat → Nat → Int × Int → Option (Int × Int)
  | 0, _, p => some p
  | r + 1, i, p => (zmt (up i) (dn i) (tm i).toNat p).bind (zml up dn tm r (i + 1))
theorem zml_s (up dn tm : Nat → Int) {n i : Nat} (h : i < n) (p : Int × Int) : zml up dn tm (n - i) i p = (zmt (up i) (dn i) (tm i).toNat p).bind (zml up dn tm (n - (i + 1)) (i + 1)) := by
  rw [show n - i = (n - (i + 1)) + 1 by omega]
  rfl
theorem zmt_s {x y : Int} {t : Int} (h : 0 < t) (p : Int × Int) : zmt x y t.toNat p = if zok (p.1 * x) (p.2 * y) then zmt x y (t - 1).toNat (zu (p.1 * x) (p.2 * y), zv (p.1 * x) (p.2 * y)) else none := by
  rw [show t.toNat = (t - 1).toNat + 1 by omega]
  rfl
theorem zmt_0 {x y : Int} {t : Int} (h : t ≤ 0) (p : Int × Int) : zmt x y t.toNat p = some p := by
  rw [show t.toNat = 0 by omega]
  rfl
set_option maxHeartbeats 4000000 in
set_option maxRecDepth 20000 in
theorem E_b {w : jS} {q i k L : Nat} (hq : w.2.1 q = (101, L)) (hL : 17 ≤ L) (hi : i < 4) (hk : k < 4) : jCall 163 [jO q, jI (i : Int), jI (k : Int)] w (jvj (w.1 q (1 + (4 * i + k))) w) := by
  have mt : jtb 163 = jT163 := rfl
  show jWp 163 0 [some (jO q), some (jI (i : Int)), some (jI (k : Int))] [] 0 0 w _
  refine jWp.blk mt 8 ?_
  show _ ∧ jWp 163 8 [some (jO q), some (jI (i : Int)), some (jI (k : Int))] [jI ((1 + (4 * (i : Int))) + (k : Int)), jO q] 0 0 w _
  refine ⟨rfl, ?_⟩
  refine jWp.lald (pc' := 9) (j := (1 + (4 * i + k))) mt rfl rfl (jtg hq) (by rw [b32_id (by omega) (by omega)]; omega) (jlt hq (by omega)) ?_
  show jWp 163 9 [some (jO q), some (jI (i : Int)), some (jI (k : Int))] [jJ (w.1 q (1 + (4 * i + k)))] 0 0 w _
  refine jWp.lret mt rfl ⟨rfl, rfl⟩ rfl ?_
  exact ⟨rfl, rfl⟩
set_option maxHeartbeats 4000000 in
set_option maxRecDepth 20000 in
theorem E_multiplies {w : jS} {m q L k n : Nat} (hM : w.2.1 m = (10, L)) (hq : w.2.1 q = (101, 45)) (hqm : q ≠ m) (hR : w.1 q 0 = (n : Int)) (hn : n ≤ 4) (hk : k < 4) (hv : ∀ i, i < 4 → zsm (w.1 q (21 + i), w.1 q (25 + i))) (hb : ∀ j, j < 16 → -9 ≤ w.1 q (1 + j) ∧ w.1 q (1 + j) ≤ 9) {sg : Int} (hs : sg = 1 ∨ sg = -1) : jCall 174 [jO m, jO q, jI (k : Int), jJ sg] w (fun v w1 => ∃ x y, w1 = jF2 w m x y ∧ ((v = some (jI 1) ∧ zml (fun i => w.1 q (21 + i)) (fun i => w.1 q (25 + i)) (fun i => sg * w.1 q (1 + (4 * i + k))) n 0 (1, 1) = some (x, y) ∧ zsm (x, y)) ∨ (v = some (jI 0) ∧ zml (fun i => w.1 q (21 + i)) (fun i => w.1 q (25 + i)) (fun i => sg * w.1 q (1 + (4 * i + k))) n 0 (1, 1) = none))) := by
  have mt : jtb 174 = jT174 := rfl
  show jWp 174 0 [some (jO m), some (jO q), some (jI (k : Int)), some (jJ sg), none, none, none, none] [] 0 0 w _
  refine jWp.blk mt 2 ?_
  show _ ∧ jWp 174 2 [some (jO m), some (jO q), some (jI (k : Int)), some (jJ sg), none, none, none, none] [jJ 1, jO m] 0 0 w _
  refine ⟨rfl, ?_⟩
  refine jWp.putJ (pc' := 5) mt rfl rfl (jtg hM) ?_
  show jWp 174 5 [some (jO m), some (jO q), some (jI (k : Int)), some (jJ sg), none, none, none, none] [] 0 0 (jW w m 11 1) _
  refine jWp.blk mt 2 ?_
  show _ ∧ jWp 174 7 [some (jO m), some (jO q), some (jI (k : Int)), some (jJ sg), none, none, none, none] [jJ 1, jO m] 0 0 (jW w m 11 1) _
  refine ⟨rfl, ?_⟩
  refine jWp.putJ (pc' := 10) mt rfl rfl (jtg hM) ?_
  rw [show jW (jW w m 11 1) m 12 1 = (jF2 w m 1 1) from rfl]
  show jWp 174 10 [some (jO m), some (jO q), some (jI (k : Int)), some (jJ sg), none, none, none, none] [] 0 0 (jF2 w m 1 1) _
  refine jWp.blk mt 2 ?_
  show jWp 174 13 [some (jO m), some (jO q), some (jI (k : Int)), some (jJ sg), none, some (jI 0), none, none] [] 0 0 (jF2 w m 1 1) _
  have lp1 : ∀ (N : Nat) (i : Nat) (u v : Int) (hi : i ≤ n) (hu : zsm (u, v)) (hT : zml (fun i => w.1 q (21 + i)) (fun i => w.1 q (25 + i)) (fun i => sg * w.1 q (1 + (4 * i + k))) (n - i) i (u, v) = zml (fun i => w.1 q (21 + i)) (fun i => w.1 q (25 + i)) (fun i => sg * w.1 q (1 + (4 * i + k))) n 0 (1, 1)), n - i < N → jWp 174 13 [some (jO m), some (jO q), some (jI (k : Int)), some (jJ sg), none, some (jI (i : Int)), none, none] [] 0 0 (jF2 w m u v) (fun v w1 => ∃ x y, w1 = jF2 w m x y ∧ ((v = some (jI 1) ∧ zml (fun i => w.1 q (21 + i)) (fun i => w.1 q (25 + i)) (fun i => sg * w.1 q (1 + (4 * i + k))) n 0 (1, 1) = some (x, y) ∧ zsm (x, y)) ∨ (v = some (jI 0) ∧ zml (fun i => w.1 q (21 + i)) (fun i => w.1 q (25 + i)) (fun i => sg * w.1 q (1 + (4 * i + k))) n 0 (1, 1) = none))) := by
    intro N
    induction N with
    | zero => intro i u v hi hu hT hm; omega
    | succ N ih2 =>
      intro i u v hi hu hT hm
      have hu1 : 1 ≤ u ∧ u ≤ 1000000000 ∧ 1 ≤ v ∧ v ≤ 1000000000 := hu
      refine jWp.blk mt 1 ?_
      show jWp 174 15 [some (jO m), some (jO q), some (jI (k : Int)), some (jJ sg), none, some (jI (i : Int)), none, none] [jI (i : Int)] 0 0 (jF2 w m u v) _
      refine jWp.i2l (pc' := 16) mt rfl rfl (b32_id (by omega) (by omega)) ?_
      show jWp 174 16 [some (jO m), some (jO q), some (jI (k : Int)), some (jJ sg), none, some (jI (i : Int)), none, none] [jJ (i : Int)] 0 0 (jF2 w m u v) _
      refine jWp.blk mt 2 ?_
      show _ ∧ jWp 174 18 [some (jO m), some (jO q), some (jI (k : Int)), some (jJ sg), none, some (jI (i : Int)), none, none] [jI 0, jO q, jJ (i : Int)] 0 0 (jF2 w m u v) _
      refine ⟨rfl, ?_⟩
      refine jWp.lald (pc' := 19) (j := 0) mt rfl rfl (jtg hq) (by decide) (jlt hq (by decide)) ?_
      rw [show ((jF2 w m u v).1 q 0) = (n : Int) from ((jF2_a hqm).trans hR)]
      show jWp 174 19 [some (jO m), some (jO q), some (jI (k : Int)), some (jJ sg), none, some (jI (i : Int)), none, none] [jJ (n : Int), jJ (i : Int)] 0 0 (jF2 w m u v) _
      refine jWp.lcmp (pc' := 23) mt rfl rfl rfl (b64_id (by omega) (by omega)) (b64_id (by omega) (by omega)) (fun h3 => ?_) (fun h3 => ?_)
      · have h3 : (n : Int) ≤ (i : Int) := h3
        refine jWp.blk mt 1 ?_
        show jWp 174 90 [some (jO m), some (jO q), some (jI (k : Int)), some (jJ sg), none, some (jI (i : Int)), none, none] [jI 1] 0 0 (jF2 w m u v) _
        refine jWp.iretz mt rfl ⟨rfl, rfl⟩ rfl (Or.inr rfl) ?_
        refine ⟨u, v, rfl, Or.inl ⟨rfl, ?_, hu⟩⟩
        rw [← hT, show n - i = 0 by omega]
        rfl
      · have h3 : (i : Int) < (n : Int) := h3
        refine jWp.blk mt 4 ?_
        show _ ∧ jWp 174 28 [some (jO m), some (jO q), some (jI (k : Int)), some (jJ sg), none, some (jI (i : Int)), none, none] [jI (k : Int), jI (i : Int), jO q, jJ sg] 0 0 (jF2 w m u v) _
        refine ⟨rfl, ?_⟩
        refine jWp.calls (as := [jO q, jI (i : Int), jI (k : Int)]) (rest := [jJ sg]) mt rfl rfl rfl rfl ?_
        refine jCall.mono ((show jCall 163 [jO q, jI (i : Int), jI (k : Int)] (jF2 w m u v) (jvj (w.1 q (1 + (4 * i + k))) (jF2 w m u v)) from by have h := E_b (w := (jF2 w m u v)) (i := i) (k := k) hq (by omega) (by omega) (by omega); rw [jF2_a hqm] at h; exact h)) (fun v9 w9 h9 => ?_)
        obtain ⟨rfl, h9⟩ := h9
        subst w9
        show jWp 174 31 [some (jO m), some (jO q), some (jI (k : Int)), some (jJ sg), none, some (jI (i : Int)), none, none] [jJ (w.1 q (1 + (4 * i + k))), jJ sg] 0 0 (jF2 w m u v) _
        refine jWp.blk mt 2 ?_
        show jWp 174 34 [some (jO m), some (jO q), some (jI (k : Int)), some (jJ sg), none, some (jI (i : Int)), some (jJ (sg * (w.1 q (1 + (4 * i + k))))), none] [] 0 0 (jF2 w m u v) _
        have lp4 : ∀ (N : Nat) (u v t : Int) (ht : -9 ≤ t ∧ t ≤ 9) (hu : zsm (u, v)) (hT : (zmt (w.1 q (21 + i)) (w.1 q (25 + i)) t.toNat (u, v)).bind (zml (fun i => w.1 q (21 + i)) (fun i => w.1 q (25 + i)) (fun i => sg * w.1 q (1 + (4 * i + k))) (n - (i + 1)) (i + 1)) = zml (fun i => w.1 q (21 + i)) (fun i => w.1 q (25 + i)) (fun i => sg * w.1 q (1 + (4 * i + k))) n 0 (1, 1)), t.toNat < N → jWp 174 34 [some (jO m), some (jO q), some (jI (k : Int)), some (jJ sg), none, some (jI (i : Int)), some (jJ t), none] [] 0 0 (jF2 w m u v) (fun v w1 => ∃ x y, w1 = jF2 w m x y ∧ ((v = some (jI 1) ∧ zml (fun i => w.1 q (21 + i)) (fun i => w.1 q (25 + i)) (fun i => sg * w.1 q (1 + (4 * i + k))) n 0 (1, 1) = some (x, y) ∧ zsm (x, y)) ∨ (v = some (jI 0) ∧ zml (fun i => w.1 q (21 + i)) (fun i => w.1 q (25 + i)) (fun i => sg * w.1 q (1 + (4 * i + k))) n 0 (1, 1) = none))) := by
          intro N
          induction N with
          | zero => intro u v t ht hu hT hm; omega
          | succ N ih5 =>
            intro u v t ht hu hT hm
            have hu1 : 1 ≤ u ∧ u ≤ 1000000000 ∧ 1 ≤ v ∧ v ≤ 1000000000 := hu
            have hi4 : i < n := by omega
            have hvi : 1 ≤ w.1 q (21 + i) ∧ w.1 q (21 + i) ≤ 1000000000 ∧ 1 ≤ w.1 q (25 + i) ∧ w.1 q (25 + i) ≤ 1000000000 := hv i (by omega)
            have hm1 := zmul_b hu1.1 hu1.2.1 hvi.1 hvi.2.1
            have hm2 := zmul_b hu1.2.2.1 hu1.2.2.2 hvi.2.2.1 hvi.2.2.2
            refine jWp.blk mt 2 ?_
            show jWp 174 37 [some (jO m), some (jO q), some (jI (k : Int)), some (jJ sg), none, some (jI (i : Int)), some (jJ t), none] [jJ 0, jJ t] 0 0 (jF2 w m u v) _
            refine jWp.lcmp (pc' := 41) mt rfl rfl rfl (b64_id (by omega) (by omega)) (show b64 0 = 0 by decide) (fun h6 => ?_) (fun h6 => ?_)
            · have h6 : t ≤ 0 := h6
              refine jWp.blk mt 2 ?_
              show jWp 174 13 [some (jO m), some (jO q), some (jI (k : Int)), some (jJ sg), none, some (jI ((i : Int) + 1)), some (jJ t), none] [] 0 0 (jF2 w m u v) _
              refine jWp.le (l := [some (jO m), some (jO q), some (jI (k : Int)), some (jJ sg), none, some (jI ((i : Int) + 1)), none, none]) (by exact ⟨rfl, rfl, rfl, rfl, rfl, trivial⟩) ?_
              exact ih2 (i + 1) u v (by omega) hu (by rw [zmt_0 (by omega)] at hT; exact hT) (by omega)
            · have h6 : 0 < t := h6
              refine jWp.blk mt 2 ?_
              show _ ∧ _ ∧ jWp 174 43 [some (jO m), some (jO q), some (jI (k : Int)), some (jJ sg), none, some (jI (i : Int)), some (jJ t), none] [jO m, jO m] 0 0 (jF2 w m u v) _
              refine ⟨rfl, rfl, ?_⟩
              refine jWp.getJ (pc' := 46) mt rfl rfl (jtg hM) ?_
              rw [show ((jF2 w m u v).1 m 11) = u from jF2_11]
              show jWp 174 46 [some (jO m), some (jO q), some (jI (k : Int)), some (jJ sg), none, some (jI (i : Int)), some (jJ t), none] [jJ u, jO m] 0 0 (jF2 w m u v) _
              refine jWp.blk mt 4 ?_
              show _ ∧ jWp 174 52 [some (jO m), some (jO q), some (jI (k : Int)), some (jJ sg), none, some (jI (i : Int)), some (jJ t), none] [jI (21 + (i : Int)), jO q, jJ u, jO m] 0 0 (jF2 w m u v) _
              refine ⟨rfl, ?_⟩
              refine jWp.lald (pc' := 53) (j := (21 + i)) mt rfl rfl (jtg hq) (by rw [b32_id (by omega) (by omega)]; omega) (jlt hq (by omega)) ?_
              rw [show ((jF2 w m u v).1 q (21 + i)) = (w.1 q (21 + i)) from (jF2_a hqm)]
              show jWp 174 53 [some (jO m), some (jO q), some (jI (k : Int)), some (jJ sg), none, some (jI (i : Int)), some (jJ t), none] [jJ (w.1 q (21 + i)), jJ u, jO m] 0 0 (jF2 w m u v) _
              refine jWp.blk mt 2 ?_
              show _ ∧ jWp 174 55 [some (jO m), some (jO q), some (jI (k : Int)), some (jJ sg), none, some (jI (i : Int)), some (jJ t), none] [jO m, jJ (u * (w.1 q (21 + i))), jO m] 0 0 (jF2 w m u v) _
              refine ⟨rfl, ?_⟩
              refine jWp.getJ (pc' := 58) mt rfl rfl (jtg hM) ?_
              rw [show ((jF2 w m u v).1 m 12) = v from jF2_12]
              show jWp 174 58 [some (jO m), some (jO q), some (jI (k : Int)), some (jJ sg), none, some (jI (i : Int)), some (jJ t), none] [jJ v, jJ (u * (w.1 q (21 + i))), jO m] 0 0 (jF2 w m u v) _
              refine jWp.blk mt 4 ?_
              show _ ∧ jWp 174 64 [some (jO m), some (jO q), some (jI (k : Int)), some (jJ sg), none, some (jI (i : Int)), some (jJ t), none] [jI (25 + (i : Int)), jO q, jJ v, jJ (u * (w.1 q (21 + i))), jO m] 0 0 (jF2 w m u v) _
              refine ⟨rfl, ?_⟩
              refine jWp.lald (pc' := 65) (j := (25 + i)) mt rfl rfl (jtg hq) (by rw [b32_id (by omega) (by omega)]; omega) (jlt hq (by omega)) ?_
              rw [show ((jF2 w m u v).1 q (25 + i)) = (w.1 q (25 + i)) from (jF2_a hqm)]
              show jWp 174 65 [some (jO m), some (jO q), some (jI (k : Int)), some (jJ sg), none, some (jI (i : Int)), some (jJ t), none] [jJ (w.1 q (25 + i)), jJ v, jJ (u * (w.1 q (21 + i))), jO m] 0 0 (jF2 w m u v) _
              refine jWp.blk mt 1 ?_
              show jWp 174 66 [some (jO m), some (jO q), some (jI (k : Int)), some (jJ sg), none, some (jI (i : Int)), some (jJ t), none] [jJ (v * (w.1 q (25 + i))), jJ (u * (w.1 q (21 + i))), jO m] 0 0 (jF2 w m u v) _
              refine jWp.callv (as := [jO m, jJ (u * (w.1 q (21 + i))), jJ (v * (w.1 q (25 + i)))]) (rest := []) mt rfl rfl rfl ⟨rfl, jtg hM⟩ ?_
              refine jCall.mono (E_small hM (show 0 ≤ (u * (w.1 q (21 + i))) ∧ (u * (w.1 q (21 + i))) < 9223372036854775808 by skip; omega) (show 0 < (v * (w.1 q (25 + i))) ∧ (v * (w.1 q (25 + i))) < 9223372036854775808 by skip; omega)) (fun v9 w9 h9 => ?_)
              rcases h9 with ⟨rfl, h9, h7⟩ | ⟨rfl, h9, h7⟩ <;> subst w9
              · have h7 : zok (u * (w.1 q (21 + i))) (v * (w.1 q (25 + i))) := h7
                show jWp 174 69 [some (jO m), some (jO q), some (jI (k : Int)), some (jJ sg), none, some (jI (i : Int)), some (jJ t), none] [jI 1] 0 0 (jW (jW (jF2 w m u v) m 11 (zu (u * (w.1 q (21 + i))) (v * (w.1 q (25 + i))))) m 12 (zv (u * (w.1 q (21 + i))) (v * (w.1 q (25 + i))))) _
                rw [show jW (jW (jF2 w m u v) m 11 (zu (u * (w.1 q (21 + i))) (v * (w.1 q (25 + i))))) m 12 (zv (u * (w.1 q (21 + i))) (v * (w.1 q (25 + i)))) = (jF2 w m (zu (u * (w.1 q (21 + i))) (v * (w.1 q (25 + i)))) (zv (u * (w.1 q (21 + i))) (v * (w.1 q (25 + i))))) from jF2_2]
                show jWp 174 69 [some (jO m), some (jO q), some (jI (k : Int)), some (jJ sg), none, some (jI (i : Int)), some (jJ t), none] [jI 1] 0 0 (jF2 w m (zu (u * (w.1 q (21 + i))) (v * (w.1 q (25 + i)))) (zv (u * (w.1 q (21 + i))) (v * (w.1 q (25 + i))))) _
                refine jWp.ifc (b := true) mt rfl (by decide) rfl ?_
                show jWp 174 74 [some (jO m), some (jO q), some (jI (k : Int)), some (jJ sg), none, some (jI (i : Int)), some (jJ t), none] [] 0 0 (jF2 w m (zu (u * (w.1 q (21 + i))) (v * (w.1 q (25 + i)))) (zv (u * (w.1 q (21 + i))) (v * (w.1 q (25 + i))))) _
                refine jWp.blk mt 5 ?_
                show jWp 174 34 [some (jO m), some (jO q), some (jI (k : Int)), some (jJ sg), none, some (jI (i : Int)), some (jJ (t - 1)), none] [] 0 0 (jF2 w m (zu (u * (w.1 q (21 + i))) (v * (w.1 q (25 + i)))) (zv (u * (w.1 q (21 + i))) (v * (w.1 q (25 + i))))) _
                refine jWp.le (l := [some (jO m), some (jO q), some (jI (k : Int)), some (jJ sg), none, some (jI (i : Int)), some (jJ (t - 1)), none]) (by exact ⟨rfl, rfl, rfl, rfl, rfl, rfl, trivial⟩) ?_
                exact ih5 (zu (u * (w.1 q (21 + i))) (v * (w.1 q (25 + i)))) (zv (u * (w.1 q (21 + i))) (v * (w.1 q (25 + i)))) (t - 1) (by omega) (zok_sm (by omega) (by omega) h7) (by rw [zmt_s (by omega), if_pos h7] at hT; exact hT) (by omega)
              · have h7 : ¬ (zok (u * (w.1 q (21 + i))) (v * (w.1 q (25 + i)))) := h7
                show jWp 174 69 [some (jO m), some (jO q), some (jI (k : Int)), some (jJ sg), none, some (jI (i : Int)), some (jJ t), none] [jI 0] 0 0 (jW (jW (jF2 w m u v) m 11 (zu (u * (w.1 q (21 + i))) (v * (w.1 q (25 + i))))) m 12 (zv (u * (w.1 q (21 + i))) (v * (w.1 q (25 + i))))) _
                rw [show jW (jW (jF2 w m u v) m 11 (zu (u * (w.1 q (21 + i))) (v * (w.1 q (25 + i))))) m 12 (zv (u * (w.1 q (21 + i))) (v * (w.1 q (25 + i)))) = (jF2 w m (zu (u * (w.1 q (21 + i))) (v * (w.1 q (25 + i)))) (zv (u * (w.1 q (21 + i))) (v * (w.1 q (25 + i))))) from jF2_2]
                show jWp 174 69 [some (jO m), some (jO q), some (jI (k : Int)), some (jJ sg), none, some (jI (i : Int)), some (jJ t), none] [jI 0] 0 0 (jF2 w m (zu (u * (w.1 q (21 + i))) (v * (w.1 q (25 + i)))) (zv (u * (w.1 q (21 + i))) (v * (w.1 q (25 + i))))) _
                refine jWp.ifc (b := false) mt rfl (by decide) rfl ?_
                show jWp 174 72 [some (jO m), some (jO q), some (jI (k : Int)), some (jJ sg), none, some (jI (i : Int)), some (jJ t), none] [] 0 0 (jF2 w m (zu (u * (w.1 q (21 + i))) (v * (w.1 q (25 + i)))) (zv (u * (w.1 q (21 + i))) (v * (w.1 q (25 + i))))) _
                refine jWp.blk mt 1 ?_
                show jWp 174 73 [some (jO m), some (jO q), some (jI (k : Int)), some (jJ sg), none, some (jI (i : Int)), some (jJ t), none] [jI 0] 0 0 (jF2 w m (zu (u * (w.1 q (21 + i))) (v * (w.1 q (25 + i)))) (zv (u * (w.1 q (21 + i))) (v * (w.1 q (25 + i))))) _
                refine jWp.iretz mt rfl ⟨rfl, rfl⟩ rfl (Or.inl rfl) ?_
                refine ⟨_, _, rfl, Or.inr ⟨rfl, ?_⟩⟩
                rw [← hT, zmt_s (by omega), if_neg h7]
                rfl
        refine jWp.le (l := [some (jO m), some (jO q), some (jI (k : Int)), some (jJ sg), none, some (jI (i : Int)), some (jJ (sg * (w.1 q (1 + (4 * i + k))))), none]) (by exact ⟨rfl, rfl, rfl, rfl, rfl, rfl, trivial⟩) ?_
        have hbb := hb (4 * i + k) (by omega)
        exact lp4 _ u v _ (by rcases hs with rfl | rfl <;> omega) hu (by rw [zml_s _ _ _ (by omega)] at hT; exact hT) (Nat.lt_succ_self _)
  refine jWp.le (l := [some (jO m), some (jO q), some (jI (k : Int)), some (jJ sg), none, some (jI 0), none, none]) (by exact ⟨rfl, rfl, rfl, rfl, rfl, trivial⟩) ?_
  exact lp1 _ 0 1 1 (by omega) (by decide) rfl (Nat.lt_succ_self _)
