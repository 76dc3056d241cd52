theorem C_smallQ {w : jS} {s sc n k : Nat} {q : Nat → Int} (hks : w.2.1 s = (6, 0)) (hkc : w.2.1 sc = (100, 44)) (hrc : w.2.2.1 s 1 = some sc) (hn0 : w.1 s 0 = (n : Int)) (hn4 : n ≤ 4) (hQ : zQ q n) (hR : ∀ j, j < 28 → w.1 sc j = cz q n j) (hk : k < n) : jCall 59 [jO s, jI (k : Int)] w (jvb (zxt (fun e => q (1 + e)) k) w) := by
  have e : ∀ x, x < 16 → w.1 sc (8 + x) = q (1 + x) := fun x hx => (hR _ (by omega)).trans (cz_b hx)
  refine jCall.mono (C_small (k := k) hks hkc hrc hn0 hn4 (by omega) (fun x hx => by rw [e x hx]; exact hQ.S.b x hx)) (fun v w1 h => ?_)
  have t : (∀ i j, i < j → j < n → jabs (zxb (fun e => w.1 sc (8 + e)) k i j) ≤ 9) ↔ zxt (fun e => q (1 + e)) k := by
    rw [← zxt_s hQ (by omega : k < 4)]
    have z : ∀ i j, i < j → j < n → zxb (fun e => w.1 sc (8 + e)) k i j = zxb (fun e => q (1 + e)) k i j := fun i j hi hj => zxb_s (e _ (by omega)) (e _ (by omega)) (e _ (by omega))
    constructor
    · intro g i j hi hj
      rw [← z i j hi hj]
      exact g i j hi hj
    · intro g i j hi hj
      rw [z i j hi hj]
      exact g i j hi hj
  rcases h with ⟨h1, h2, h3⟩ | ⟨h1, h2, h3⟩
  · exact Or.inl ⟨h1, h2, t.mp h3⟩
  · exact Or.inr ⟨h1, h2, fun g => h3 (t.mpr g)⟩
theorem cz_h {q : Nat → Int} {n j : Nat} (h : 28 ≤ j) : cz q n j = if (j - 28) / 4 < n ∧ (j - 28) % 4 < n then q (29 + (j - 28)) else 0 := by
  unfold cz
  rw [if_neg (by omega), if_neg (by omega), if_neg (by omega), if_neg (by omega)]
/-- degrees, then the table, of the class -/
theorem C_degT {w : jS} {s sc n k : Nat} {q : Nat → Int} (hks : w.2.1 s = (6, 0)) (hkc : w.2.1 sc = (100, 44)) (hrc : w.2.2.1 s 1 = some sc) (hn0 : w.1 s 0 = (n : Int)) (hn4 : n ≤ 4) (hQ : zQ q n) (hR : ∀ j, j < 28 → w.1 sc j = cz q n j) (hk : k < n) : jCall 61 [jO s, jI (k : Int)] w (fun v w1 => v = none ∧ ∃ T, w1 = kA w sc T ∧ ∀ e, T e = if 28 + 4 * k ≤ e ∧ e < 28 + 4 * k + n then zcn (w.1 sc) n k (e - (28 + 4 * k)) else w.1 sc e) := by
  have e : ∀ x, x < 16 → w.1 sc (8 + x) = q (1 + x) := fun x hx => (hR _ (by omega)).trans (cz_b hx)
  exact C_degrees hks hkc hrc hn0 hn4 hk (by omega) (fun x hx => by rw [e x hx]; exact hQ.S.b x hx)
theorem C_tabT {w : jS} {s sc n k : Nat} {q : Nat → Int} (hks : w.2.1 s = (6, 0)) (hkc : w.2.1 sc = (100, 44)) (hrc : w.2.2.1 s 1 = some sc) (hn0 : w.1 s 0 = (n : Int)) (hn4 : n ≤ 4) (hQ : zQ q n) (hR : ∀ j, 8 ≤ j → j < 24 → w.1 sc j = cz q n j) (hk : k < n) (hx : zxt (fun e => q (1 + e)) k) : jCall 60 [jO s, jI (k : Int)] w (fun v w1 => v = none ∧ ∃ T, w1 = kA w sc T ∧ ∀ e, T e = if 8 ≤ e ∧ e < 24 ∧ (e - 8) / 4 < n ∧ (e - 8) % 4 < n then zxe (fun e => q (1 + e)) k (e - 8) else w.1 sc e) := by
  have e : ∀ x, x < 16 → w.1 sc (8 + x) = q (1 + x) := fun x hx => (hR _ (by omega) (by omega)).trans (cz_b hx)
  have z : ∀ i j, i < 4 → j < 4 → zxb (fun e => w.1 sc (8 + e)) k i j = zxb (fun e => q (1 + e)) k i j := fun i j hi hj => zxb_s (e _ (by omega)) (e _ (by omega)) (e _ (by omega))
  have hkk : q (1 + (4 * k + k)) = 0 := by have := hQ.a k k (by omega) (by omega); omega
  refine jCall.mono (C_table0 hks hkc hrc hn0 hn4 hk (by omega) (fun x hx => by rw [e x hx]; exact hQ.S.b x hx) ((e (4 * k + k) (by omega)).trans hkk) (fun a b ha hb => ?_)) (fun v w1 h => ?_)
  · rw [z a b ha hb]
    have := hx (4 * a + b) (by omega)
    rw [zxe_at _ _ _ _ hb] at this
    exact this
  · obtain ⟨h1, T, h2, h3⟩ := h
    refine ⟨h1, T, h2, fun x => ?_⟩
    rw [h3 x]
    by_cases c : 8 ≤ x ∧ x < 24 ∧ (x - 8) / 4 < n ∧ (x - 8) % 4 < n
    · rw [if_pos c, if_pos c]
      exact z _ _ (by omega) (by omega)
    · rw [if_neg c, if_neg c]
/-- all that an exchange leaves in the class -/
theorem cR_x {G : (Nat → Int) → Prop} {g : Prop} {C T1 T2 q : Nat → Int} {n k : Nat} {u v : Int} (hG : zG G) (hgq : g → G q) (hQ : zQ q n) (hk : k < n) (hR : cR g C q n) (hv : zxv q n k = some (u, v))
    (h1 : ∀ e, T1 e = if 28 + 4 * k ≤ e ∧ e < 28 + 4 * k + n then zcn C n k (e - (28 + 4 * k)) else C e)
    (h2 : ∀ e, T2 e = if 8 ≤ e ∧ e < 24 ∧ (e - 8) / 4 < n ∧ (e - 8) % 4 < n then zxe (fun e => q (1 + e)) k (e - 8) else T1 e) : cR g (zset (zset T2 k u) (4 + k) v) (zxF q n k) n := by
  have h4 := hQ.S.n4
  refine (fun (a : _ ∧ _) => ⟨a.1, a.2, fun j hj1 hj2 c => by rw [zset_n (by omega), zset_n (by omega), h2, if_neg (by omega), h1, if_neg (by omega)]; exact hR.2.2 j hj1 hj2 c⟩) ?_
  have fo : ∀ {j}, ¬ (1 ≤ j ∧ j < 17) → j ≠ 21 + k → j ≠ 25 + k → ¬ (29 + 4 * k ≤ j ∧ j < 29 + 4 * k + 4) → zxF q n k j = q j := fun a b c d => zxF_o a b c d
  constructor
  · intro j hj
    by_cases j1 : j < 4
    · have e : zset (zset T2 k u) (4 + k) v j = if j = k then u else C j := by
        rw [zset_n (by omega)]
        by_cases jk : j = k
        · rw [if_pos jk, jk, zset_s]
        · rw [if_neg jk, zset_n jk, h2, if_neg (by omega), h1, if_neg (by omega)]
      rw [e]
      by_cases jn : j < n
      · rw [cz_u h4 jn]
        by_cases jk : j = k
        · rw [if_pos jk, jk, zxF_u, hv]
          rfl
        · rw [if_neg jk, fo (by omega) (by omega) (by omega) (by omega), hR.1 j (by omega), cz_u h4 jn]
      · rw [if_neg (by omega), hR.1 j (by omega)]
        unfold cz
        rw [if_pos j1, if_neg jn, if_pos j1, if_neg jn]
    · by_cases j2 : j < 8
      · have e : zset (zset T2 k u) (4 + k) v j = if j = 4 + k then v else C j := by
          by_cases jk : j = 4 + k
          · rw [if_pos jk, jk, zset_s]
          · rw [if_neg jk, zset_n jk, zset_n (by omega), h2, if_neg (by omega), h1, if_neg (by omega)]
        rw [e]
        by_cases jn : j - 4 < n
        · have ej : j = 4 + (j - 4) := by omega
          rw [ej, cz_d h4 jn]
          by_cases jk : j - 4 = k
          · rw [if_pos (by omega), jk, zxF_v (by omega), hv]
            rfl
          · rw [if_neg (by omega), fo (by omega) (by omega) (by omega) (by omega), hR.1 _ (by omega), cz_d h4 jn]
        · rw [if_neg (by omega), hR.1 j (by omega)]
          unfold cz
          rw [if_neg j1, if_pos j2, if_neg jn, if_neg j1, if_pos j2, if_neg jn]
      · by_cases j3 : j < 24
        · have ej : j = 8 + (j - 8) := by omega
          rw [zset_n (by omega), zset_n (by omega), h2]
          by_cases c : 8 ≤ j ∧ j < 24 ∧ (j - 8) / 4 < n ∧ (j - 8) % 4 < n
          · rw [if_pos c]
            have e8 : cz (zxF q n k) n j = zxF q n k (1 + (j - 8)) := by rw [ej, cz_b (by omega), show 8 + (j - 8) - 8 = j - 8 by omega]
            rw [e8, zxF_b (by omega)]
          · have e8 : cz (zxF q n k) n j = zxF q n k (1 + (j - 8)) := by rw [ej, cz_b (by omega), show 8 + (j - 8) - 8 = j - 8 by omega]
            have e9 : cz q n j = q (1 + (j - 8)) := by rw [ej, cz_b (by omega), show 8 + (j - 8) - 8 = j - 8 by omega]
            have z1 := zxb_z (n := n) hQ (k := k) (i := (j - 8) / 4) (j := (j - 8) % 4) (by omega) (by omega) (by omega) (by omega)
            have z2 := hQ.z ((j - 8) / 4) ((j - 8) % 4) (by omega) (by omega) (by omega)
            rw [if_neg c, h1, if_neg (by omega), hR.1 j (by omega), e8, e9, zxF_b (by omega)]
            rw [show 1 + (4 * ((j - 8) / 4) + (j - 8) % 4) = 1 + (j - 8) by omega] at z2
            rw [z2]
            exact z1.symm
        · have ej : j = 24 + (j - 24) := by omega
          rw [zset_n (by omega), zset_n (by omega), h2, if_neg (by omega), h1, if_neg (by omega), hR.1 j (by omega)]
          by_cases jn : j - 24 < n
          · rw [ej, cz_s h4 jn, cz_s h4 jn, fo (by omega) (by omega) (by omega) (by omega)]
          · unfold cz
            rw [if_neg j1, if_neg j2, if_neg j3, if_pos hj, if_neg jn, if_neg j1, if_neg j2, if_neg j3, if_pos hj, if_neg jn]
  · intro gg j hj1 hj2
    have hb : ∀ i, i < n → C (8 + (4 * i + k)) = q (1 + (4 * i + k)) := fun i hi => (hR.1 _ (by omega)).trans (cz_b (by omega))
    rw [zset_n (by omega), zset_n (by omega), h2, if_neg (by omega), h1]
    by_cases c : 28 + 4 * k ≤ j ∧ j < 28 + 4 * k + n
    · have hd : ∀ i, i < n → C (28 + (4 * i + (j - (28 + 4 * k)))) = q (29 + 4 * i + (j - (28 + 4 * k))) := fun i hi => (hR.2.1 gg _ (by omega) (by omega)).trans (cz_g h4 hi (by omega))
      rw [if_pos c, zcn_e h4 hk (by omega) hQ.S.b (hG.2.2.1 q n hQ (hgq gg)) hb hd]
      have ej : j = 28 + (4 * k + (j - (28 + 4 * k))) := by omega
      have := cz_g (q := zxF q n k) h4 hk (show j - (28 + 4 * k) < n by omega)
      rw [← ej] at this
      rw [this, zxF_d (by omega) (by omega)]
    · rw [if_neg c, hR.2.1 gg j hj1 hj2]
      rw [cz_h hj1, cz_h hj1]
      by_cases d : (j - 28) / 4 < n ∧ (j - 28) % 4 < n
      · rw [if_pos d, if_pos d, fo (by omega) (by omega) (by omega) (by omega)]
      · rw [if_neg d, if_neg d]
set_option maxHeartbeats 4000000 in
set_option maxRecDepth 20000 in
theorem C_make_no {w : jS} {s sc e f1 f2 n : Nat} (hks : w.2.1 s = (6, 0)) (hkc : w.2.1 sc = (100, 44)) (hrc : w.2.2.1 s 1 = some sc) (hn0 : w.1 s 0 = (n : Int)) (hn4 : n ≤ 4) (hke : w.2.1 e = (1, 0)) (hr1 : w.2.2.1 e 0 = some f1) (hr2 : w.2.2.1 e 1 = some f2) (hk1 : w.2.1 f1 = (2, 0)) (hk2 : w.2.1 f2 = (2, 0)) (hff : f1 ≠ f2) {k : Int} (hrk : r32 k) (hno : ¬ (0 ≤ k ∧ k < (n : Int))) : jCall 1 [jO e, jO s, jI k] w (fun v w1 => v = some (jI 0) ∧ w1 = w) := by
  have mt : jtb 1 = jT1 := rfl
  have hrk1 : -2147483648 ≤ k ∧ k < 2147483648 := hrk
  show jWp 1 0 [some (jO e), some (jO s), some (jI k), none] [] 0 0 w _
  refine jWp.blk mt 2 ?_
  show _ ∧ jWp 1 2 [some (jO e), some (jO s), some (jI k), none] [jI k, jO s] 0 0 w _
  refine ⟨rfl, ?_⟩
  refine jWp.callv (as := [jO s, jI k]) (rest := []) mt rfl rfl rfl ⟨rfl, jtg hks⟩ ?_
  refine jCall.mono (E_has (w := w) (n := n) hks hn0 hn4 (i := k) (by constructor <;> omega)) (fun v9 w9 h9 => ?_)
  rcases h9 with ⟨rfl, h9, h1⟩ | ⟨rfl, h9, h1⟩ <;> subst w9
  · have h1 : 0 ≤ k ∧ k < (n : Int) := h1
    exact absurd h1 hno
  · have h1 : ¬ (0 ≤ k ∧ k < (n : Int)) := h1
    show jWp 1 5 [some (jO e), some (jO s), some (jI k), none] [jI 0] 0 0 w _
    refine jWp.ifc (b := true) mt rfl (by decide) rfl ?_
    show jWp 1 36 [some (jO e), some (jO s), some (jI k), none] [] 0 0 w _
    refine jWp.blk mt 1 ?_
    show jWp 1 37 [some (jO e), some (jO s), some (jI k), none] [jI 0] 0 0 w _
    refine jWp.iretz mt rfl ⟨rfl, rfl⟩ rfl (Or.inl rfl) ?_
    exact ⟨rfl, rfl⟩
theorem zxvE {q : Nat → Int} {n k : Nat} {x1 y1 x2 y2 : Int} (e1 : zmk q n k 1 = some (x1, y1)) (e2 : zmk q n k (-1) = some (x2, y2)) (z2 : zok (x1 * y2 + x2 * y1) (y1 * y2)) (z3 : zok (zu (x1 * y2 + x2 * y1) (y1 * y2) * q (25 + k)) (zv (x1 * y2 + x2 * y1) (y1 * y2) * q (21 + k))) : zxv q n k = some (zu (zu (x1 * y2 + x2 * y1) (y1 * y2) * q (25 + k)) (zv (x1 * y2 + x2 * y1) (y1 * y2) * q (21 + k)), zv (zu (x1 * y2 + x2 * y1) (y1 * y2) * q (25 + k)) (zv (x1 * y2 + x2 * y1) (y1 * y2) * q (21 + k))) := by
  unfold zxv
  rw [e1, e2]
  dsimp only
  rw [if_pos z2, if_pos z3]
set_option maxHeartbeats 4000000 in
set_option maxRecDepth 20000 in
theorem C_make {w : jS} {s sc e f1 f2 n : Nat} (hks : w.2.1 s = (6, 0)) (hkc : w.2.1 sc = (100, 44)) (hrc : w.2.2.1 s 1 = some sc) (hn0 : w.1 s 0 = (n : Int)) (hn4 : n ≤ 4) (hke : w.2.1 e = (1, 0)) (hr1 : w.2.2.1 e 0 = some f1) (hr2 : w.2.2.1 e 1 = some f2) (hk1 : w.2.1 f1 = (2, 0)) (hk2 : w.2.1 f2 = (2, 0)) (hff : f1 ≠ f2) {k : Nat} {q : Nat → Int} {g : Prop} {G : (Nat → Int) → Prop} (hG : zG G) (hgq : g → G q) (hQ : zQ q n) (hRR : cR g (w.1 sc) q n) (hk : k < n) : jCall 1 [jO e, jO s, jI (k : Int)] w (fun v w1 => (w1.2 = w.2 ∧ ∀ a, a ≠ f1 → a ≠ f2 → a ≠ sc → w1.1 a = w.1 a) ∧ ((v = some (jI 1) ∧ zcan q n k ∧ cR g (w1.1 sc) (zxF q n k) n) ∨ (v = some (jI 0) ∧ ¬ zcan q n k ∧ w1.1 sc = w.1 sc))) := by
  have mt : jtb 1 = jT1 := rfl
  have hsc : s ≠ sc := kne hks hkc (by decide)
  have h1s : f1 ≠ s := kne hk1 hks (by decide)
  have h1c : f1 ≠ sc := kne hk1 hkc (by decide)
  have h2s : f2 ≠ s := kne hk2 hks (by decide)
  have h2c : f2 ≠ sc := kne hk2 hkc (by decide)
  have hvk : 1 ≤ q (21 + k) ∧ q (21 + k) ≤ 1000000000 ∧ 1 ≤ q (25 + k) ∧ q (25 + k) ≤ 1000000000 := hQ.S.v k (by omega)
  show jWp 1 0 [some (jO e), some (jO s), some (jI (k : Int)), none] [] 0 0 w _
  refine jWp.blk mt 2 ?_
  show _ ∧ jWp 1 2 [some (jO e), some (jO s), some (jI (k : Int)), none] [jI (k : Int), jO s] 0 0 w _
  refine ⟨rfl, ?_⟩
  refine jWp.callv (as := [jO s, jI (k : Int)]) (rest := []) mt rfl rfl rfl ⟨rfl, jtg hks⟩ ?_
  refine jCall.mono (E_has (w := w) (n := n) hks hn0 hn4 (i := (k : Int)) (by constructor <;> omega)) (fun v9 w9 h9 => ?_)
  rcases h9 with ⟨rfl, h9, h1⟩ | ⟨rfl, h9, h1⟩ <;> subst w9
  · have h1 : 0 ≤ (k : Int) ∧ (k : Int) < (n : Int) := h1
    show jWp 1 5 [some (jO e), some (jO s), some (jI (k : Int)), none] [jI 1] 0 0 w _
    refine jWp.ifc (b := false) mt rfl (by decide) rfl ?_
    show jWp 1 8 [some (jO e), some (jO s), some (jI (k : Int)), none] [] 0 0 w _
    refine jWp.blk mt 5 ?_
    show _ ∧ _ ∧ _ ∧ jWp 1 13 [some (jO e), some (jO s), some (jI (k : Int)), none] [jO e, jI 1, jI (k : Int), jO s, jO e] 0 0 w _
    refine ⟨rfl, rfl, rfl, ?_⟩
    refine jWp.getR (pc' := 16) (o := f1) mt rfl rfl (jtg hke) hr1 ?_
    show jWp 1 16 [some (jO e), some (jO s), some (jI (k : Int)), none] [jO f1, jI 1, jI (k : Int), jO s, jO e] 0 0 w _
    refine jWp.callv (as := [jO e, jO s, jI (k : Int), jI 1, jO f1]) (rest := []) mt rfl rfl rfl ⟨rfl, jtg hke⟩ ?_
    refine jCall.mono (C_multiply (w := w) (s := s) (sc := sc) (f := f1) (n := n) (k := k) (q := q) (e := e) (sg := 1) hks hkc hrc hn0 hn4 hk1 hQ hRR.1 hk (by decide)) (fun v9 w9 h9 => ?_)
    obtain ⟨x1, y1, h9, hh⟩ := h9
    subst h9
    rcases hh with ⟨rfl, e1, s1'⟩ | ⟨rfl, e1⟩
    · have s1 : 1 ≤ x1 ∧ x1 ≤ 1000000000 ∧ 1 ≤ y1 ∧ y1 ≤ 1000000000 := s1'
      show jWp 1 19 [some (jO e), some (jO s), some (jI (k : Int)), none] [jI 1] 0 0 (jF1 w f1 x1 y1) _
      refine jWp.ifc (b := false) mt rfl (by decide) rfl ?_
      show jWp 1 22 [some (jO e), some (jO s), some (jI (k : Int)), none] [] 0 0 (jF1 w f1 x1 y1) _
      refine jWp.blk mt 5 ?_
      show _ ∧ _ ∧ _ ∧ jWp 1 27 [some (jO e), some (jO s), some (jI (k : Int)), none] [jO e, jI (-1), jI (k : Int), jO s, jO e] 0 0 (jF1 w f1 x1 y1) _
      refine ⟨rfl, rfl, rfl, ?_⟩
      refine jWp.getR (pc' := 30) (o := f2) mt rfl rfl (jtg hke) hr2 ?_
      show jWp 1 30 [some (jO e), some (jO s), some (jI (k : Int)), none] [jO f2, jI (-1), jI (k : Int), jO s, jO e] 0 0 (jF1 w f1 x1 y1) _
      refine jWp.callv (as := [jO e, jO s, jI (k : Int), jI (-1), jO f2]) (rest := []) mt rfl rfl rfl ⟨rfl, jtg hke⟩ ?_
      refine jCall.mono (C_multiply (w := (jF1 w f1 x1 y1)) (s := s) (sc := sc) (f := f2) (n := n) (k := k) (q := q) (e := e) (sg := (-1)) hks hkc hrc ((congrFun (jF1_f h1s.symm) 0).trans hn0) hn4 hk2 hQ (fun j hj => (congrFun ((jF1_f h1c.symm).trans rfl) j).trans (hRR.1 j hj)) hk (by decide)) (fun v9 w9 h9 => ?_)
      obtain ⟨x2, y2, h9, hh⟩ := h9
      subst h9
      rcases hh with ⟨rfl, e2, s2'⟩ | ⟨rfl, e2⟩
      · have s2 : 1 ≤ x2 ∧ x2 ≤ 1000000000 ∧ 1 ≤ y2 ∧ y2 ≤ 1000000000 := s2'
        show jWp 1 33 [some (jO e), some (jO s), some (jI (k : Int)), none] [jI 1] 0 0 (jF1 (jF1 w f1 x1 y1) f2 x2 y2) _
        refine jWp.ifc (b := true) mt rfl (by decide) rfl ?_
        show jWp 1 38 [some (jO e), some (jO s), some (jI (k : Int)), none] [] 0 0 (jF1 (jF1 w f1 x1 y1) f2 x2 y2) _
        refine jWp.blk mt 1 ?_
        show _ ∧ jWp 1 39 [some (jO e), some (jO s), some (jI (k : Int)), none] [jO e] 0 0 (jF1 (jF1 w f1 x1 y1) f2 x2 y2) _
        refine ⟨rfl, ?_⟩
        refine jWp.getR (pc' := 42) (o := f1) mt rfl rfl (jtg hke) hr1 ?_
        show jWp 1 42 [some (jO e), some (jO s), some (jI (k : Int)), none] [jO f1] 0 0 (jF1 (jF1 w f1 x1 y1) f2 x2 y2) _
        refine jWp.blk mt 1 ?_
        show _ ∧ jWp 1 43 [some (jO e), some (jO s), some (jI (k : Int)), none] [jO e, jO f1] 0 0 (jF1 (jF1 w f1 x1 y1) f2 x2 y2) _
        refine ⟨rfl, ?_⟩
        refine jWp.getR (pc' := 46) (o := f1) mt rfl rfl (jtg hke) hr1 ?_
        show jWp 1 46 [some (jO e), some (jO s), some (jI (k : Int)), none] [jO f1, jO f1] 0 0 (jF1 (jF1 w f1 x1 y1) f2 x2 y2) _
        refine jWp.getJ (pc' := 49) mt rfl rfl (jtg hk1) ?_
        rw [show ((jF1 (jF1 w f1 x1 y1) f2 x2 y2).1 f1 0) = x1 from ((congrFun (jF1_f hff) _).trans jF1_0)]
        show jWp 1 49 [some (jO e), some (jO s), some (jI (k : Int)), none] [jJ x1, jO f1] 0 0 (jF1 (jF1 w f1 x1 y1) f2 x2 y2) _
        refine jWp.blk mt 1 ?_
        show _ ∧ jWp 1 50 [some (jO e), some (jO s), some (jI (k : Int)), none] [jO e, jJ x1, jO f1] 0 0 (jF1 (jF1 w f1 x1 y1) f2 x2 y2) _
        refine ⟨rfl, ?_⟩
        refine jWp.getR (pc' := 53) (o := f2) mt rfl rfl (jtg hke) hr2 ?_
        show jWp 1 53 [some (jO e), some (jO s), some (jI (k : Int)), none] [jO f2, jJ x1, jO f1] 0 0 (jF1 (jF1 w f1 x1 y1) f2 x2 y2) _
        refine jWp.getJ (pc' := 56) mt rfl rfl (jtg hk2) ?_
        rw [show ((jF1 (jF1 w f1 x1 y1) f2 x2 y2).1 f2 1) = y2 from jF1_1]
        show jWp 1 56 [some (jO e), some (jO s), some (jI (k : Int)), none] [jJ y2, jJ x1, jO f1] 0 0 (jF1 (jF1 w f1 x1 y1) f2 x2 y2) _
        refine jWp.blk mt 2 ?_
        show _ ∧ jWp 1 58 [some (jO e), some (jO s), some (jI (k : Int)), none] [jO e, jJ (x1 * y2), jO f1] 0 0 (jF1 (jF1 w f1 x1 y1) f2 x2 y2) _
        refine ⟨rfl, ?_⟩
        refine jWp.getR (pc' := 61) (o := f2) mt rfl rfl (jtg hke) hr2 ?_
        show jWp 1 61 [some (jO e), some (jO s), some (jI (k : Int)), none] [jO f2, jJ (x1 * y2), jO f1] 0 0 (jF1 (jF1 w f1 x1 y1) f2 x2 y2) _
        refine jWp.getJ (pc' := 64) mt rfl rfl (jtg hk2) ?_
        rw [show ((jF1 (jF1 w f1 x1 y1) f2 x2 y2).1 f2 0) = x2 from jF1_0]
        show jWp 1 64 [some (jO e), some (jO s), some (jI (k : Int)), none] [jJ x2, jJ (x1 * y2), jO f1] 0 0 (jF1 (jF1 w f1 x1 y1) f2 x2 y2) _
        refine jWp.blk mt 1 ?_
        show _ ∧ jWp 1 65 [some (jO e), some (jO s), some (jI (k : Int)), none] [jO e, jJ x2, jJ (x1 * y2), jO f1] 0 0 (jF1 (jF1 w f1 x1 y1) f2 x2 y2) _
        refine ⟨rfl, ?_⟩
        refine jWp.getR (pc' := 68) (o := f1) mt rfl rfl (jtg hke) hr1 ?_
        show jWp 1 68 [some (jO e), some (jO s), some (jI (k : Int)), none] [jO f1, jJ x2, jJ (x1 * y2), jO f1] 0 0 (jF1 (jF1 w f1 x1 y1) f2 x2 y2) _
        refine jWp.getJ (pc' := 71) mt rfl rfl (jtg hk1) ?_
        rw [show ((jF1 (jF1 w f1 x1 y1) f2 x2 y2).1 f1 1) = y1 from ((congrFun (jF1_f hff) _).trans jF1_1)]
        show jWp 1 71 [some (jO e), some (jO s), some (jI (k : Int)), none] [jJ y1, jJ x2, jJ (x1 * y2), jO f1] 0 0 (jF1 (jF1 w f1 x1 y1) f2 x2 y2) _
        refine jWp.blk mt 3 ?_
        show _ ∧ jWp 1 74 [some (jO e), some (jO s), some (jI (k : Int)), none] [jO e, jJ ((x1 * y2) + (x2 * y1)), jO f1] 0 0 (jF1 (jF1 w f1 x1 y1) f2 x2 y2) _
        refine ⟨rfl, ?_⟩
        refine jWp.getR (pc' := 77) (o := f1) mt rfl rfl (jtg hke) hr1 ?_
        show jWp 1 77 [some (jO e), some (jO s), some (jI (k : Int)), none] [jO f1, jJ ((x1 * y2) + (x2 * y1)), jO f1] 0 0 (jF1 (jF1 w f1 x1 y1) f2 x2 y2) _
        refine jWp.getJ (pc' := 80) mt rfl rfl (jtg hk1) ?_
        rw [show ((jF1 (jF1 w f1 x1 y1) f2 x2 y2).1 f1 1) = y1 from ((congrFun (jF1_f hff) _).trans jF1_1)]
        show jWp 1 80 [some (jO e), some (jO s), some (jI (k : Int)), none] [jJ y1, jJ ((x1 * y2) + (x2 * y1)), jO f1] 0 0 (jF1 (jF1 w f1 x1 y1) f2 x2 y2) _
        refine jWp.blk mt 1 ?_
        show _ ∧ jWp 1 81 [some (jO e), some (jO s), some (jI (k : Int)), none] [jO e, jJ y1, jJ ((x1 * y2) + (x2 * y1)), jO f1] 0 0 (jF1 (jF1 w f1 x1 y1) f2 x2 y2) _
        refine ⟨rfl, ?_⟩
        refine jWp.getR (pc' := 84) (o := f2) mt rfl rfl (jtg hke) hr2 ?_
        show jWp 1 84 [some (jO e), some (jO s), some (jI (k : Int)), none] [jO f2, jJ y1, jJ ((x1 * y2) + (x2 * y1)), jO f1] 0 0 (jF1 (jF1 w f1 x1 y1) f2 x2 y2) _
        refine jWp.getJ (pc' := 87) mt rfl rfl (jtg hk2) ?_
        rw [show ((jF1 (jF1 w f1 x1 y1) f2 x2 y2).1 f2 1) = y2 from jF1_1]
        show jWp 1 87 [some (jO e), some (jO s), some (jI (k : Int)), none] [jJ y2, jJ y1, jJ ((x1 * y2) + (x2 * y1)), jO f1] 0 0 (jF1 (jF1 w f1 x1 y1) f2 x2 y2) _
        refine jWp.blk mt 1 ?_
        show jWp 1 88 [some (jO e), some (jO s), some (jI (k : Int)), none] [jJ (y1 * y2), jJ ((x1 * y2) + (x2 * y1)), jO f1] 0 0 (jF1 (jF1 w f1 x1 y1) f2 x2 y2) _
        refine jWp.callv (as := [jO f1, jJ ((x1 * y2) + (x2 * y1)), jJ (y1 * y2)]) (rest := []) mt rfl rfl rfl ⟨rfl, jtg hk1⟩ ?_
        refine jCall.mono (E_set (w := (jF1 (jF1 w f1 x1 y1) f2 x2 y2)) hk1 (show 0 ≤ ((x1 * y2) + (x2 * y1)) ∧ ((x1 * y2) + (x2 * y1)) < 9223372036854775808 by have q1 := zmul_b s1.1 s1.2.1 s2.2.2.1 s2.2.2.2; have q2 := zmul_b s2.1 s2.2.1 s1.2.2.1 s1.2.2.2; have q3 := zmul_b s1.2.2.1 s1.2.2.2 s2.2.2.1 s2.2.2.2; omega) (show 0 < (y1 * y2) ∧ (y1 * y2) < 9223372036854775808 by have q1 := zmul_b s1.1 s1.2.1 s2.2.2.1 s2.2.2.2; have q2 := zmul_b s2.1 s2.2.1 s1.2.2.1 s1.2.2.2; have q3 := zmul_b s1.2.2.1 s1.2.2.2 s2.2.2.1 s2.2.2.2; omega)) (fun v9 w9 h9 => ?_)
        rcases h9 with ⟨rfl, h9, h2⟩ | ⟨rfl, h9, h2⟩ <;> subst h9
        · have z2 : zok ((x1 * y2) + (x2 * y1)) (y1 * y2) := h2
          rw [show jW (jW (jF1 (jF1 w f1 x1 y1) f2 x2 y2) f1 0 (zu ((x1 * y2) + (x2 * y1)) (y1 * y2))) f1 1 (zv ((x1 * y2) + (x2 * y1)) (y1 * y2)) = jF1 (jF1 (jF1 w f1 x1 y1) f2 x2 y2) f1 (zu ((x1 * y2) + (x2 * y1)) (y1 * y2)) (zv ((x1 * y2) + (x2 * y1)) (y1 * y2)) from rfl]
          have q1 := zmul_b s1.1 s1.2.1 s2.2.2.1 s2.2.2.2; have q2 := zmul_b s2.1 s2.2.1 s1.2.2.1 s1.2.2.2; have q3 := zmul_b s1.2.2.1 s1.2.2.2 s2.2.2.1 s2.2.2.2
          have g1 := zok_sm (by omega) (by omega) z2
          have g2 : 1 ≤ zu ((x1 * y2) + (x2 * y1)) (y1 * y2) * (q (25 + k)) ∧ zu ((x1 * y2) + (x2 * y1)) (y1 * y2) * (q (25 + k)) ≤ 1000000000000000000 := zmul_b g1.1 g1.2.1 hvk.2.2.1 hvk.2.2.2
          have g3 : 1 ≤ zv ((x1 * y2) + (x2 * y1)) (y1 * y2) * (q (21 + k)) ∧ zv ((x1 * y2) + (x2 * y1)) (y1 * y2) * (q (21 + k)) ≤ 1000000000000000000 := zmul_b g1.2.2.1 g1.2.2.2 hvk.1 hvk.2.1
          show jWp 1 91 [some (jO e), some (jO s), some (jI (k : Int)), none] [jI 1] 0 0 (jF1 (jF1 (jF1 w f1 x1 y1) f2 x2 y2) f1 (zu ((x1 * y2) + (x2 * y1)) (y1 * y2)) (zv ((x1 * y2) + (x2 * y1)) (y1 * y2))) _
          refine jWp.ifc (b := false) mt rfl (by decide) rfl ?_
          show jWp 1 94 [some (jO e), some (jO s), some (jI (k : Int)), none] [] 0 0 (jF1 (jF1 (jF1 w f1 x1 y1) f2 x2 y2) f1 (zu ((x1 * y2) + (x2 * y1)) (y1 * y2)) (zv ((x1 * y2) + (x2 * y1)) (y1 * y2))) _
          refine jWp.blk mt 1 ?_
          show _ ∧ jWp 1 95 [some (jO e), some (jO s), some (jI (k : Int)), none] [jO e] 0 0 (jF1 (jF1 (jF1 w f1 x1 y1) f2 x2 y2) f1 (zu ((x1 * y2) + (x2 * y1)) (y1 * y2)) (zv ((x1 * y2) + (x2 * y1)) (y1 * y2))) _
          refine ⟨rfl, ?_⟩
          refine jWp.getR (pc' := 98) (o := f1) mt rfl rfl (jtg hke) hr1 ?_
          show jWp 1 98 [some (jO e), some (jO s), some (jI (k : Int)), none] [jO f1] 0 0 (jF1 (jF1 (jF1 w f1 x1 y1) f2 x2 y2) f1 (zu ((x1 * y2) + (x2 * y1)) (y1 * y2)) (zv ((x1 * y2) + (x2 * y1)) (y1 * y2))) _
          refine jWp.blk mt 1 ?_
          show _ ∧ jWp 1 99 [some (jO e), some (jO s), some (jI (k : Int)), none] [jO e, jO f1] 0 0 (jF1 (jF1 (jF1 w f1 x1 y1) f2 x2 y2) f1 (zu ((x1 * y2) + (x2 * y1)) (y1 * y2)) (zv ((x1 * y2) + (x2 * y1)) (y1 * y2))) _
          refine ⟨rfl, ?_⟩
          refine jWp.getR (pc' := 102) (o := f1) mt rfl rfl (jtg hke) hr1 ?_
          show jWp 1 102 [some (jO e), some (jO s), some (jI (k : Int)), none] [jO f1, jO f1] 0 0 (jF1 (jF1 (jF1 w f1 x1 y1) f2 x2 y2) f1 (zu ((x1 * y2) + (x2 * y1)) (y1 * y2)) (zv ((x1 * y2) + (x2 * y1)) (y1 * y2))) _
          refine jWp.getJ (pc' := 105) mt rfl rfl (jtg hk1) ?_
          rw [show ((jF1 (jF1 (jF1 w f1 x1 y1) f2 x2 y2) f1 (zu ((x1 * y2) + (x2 * y1)) (y1 * y2)) (zv ((x1 * y2) + (x2 * y1)) (y1 * y2))).1 f1 0) = (zu ((x1 * y2) + (x2 * y1)) (y1 * y2)) from jF1_0]
          show jWp 1 105 [some (jO e), some (jO s), some (jI (k : Int)), none] [jJ (zu ((x1 * y2) + (x2 * y1)) (y1 * y2)), jO f1] 0 0 (jF1 (jF1 (jF1 w f1 x1 y1) f2 x2 y2) f1 (zu ((x1 * y2) + (x2 * y1)) (y1 * y2)) (zv ((x1 * y2) + (x2 * y1)) (y1 * y2))) _
          refine jWp.blk mt 2 ?_
          show _ ∧ jWp 1 107 [some (jO e), some (jO s), some (jI (k : Int)), none] [jI (k : Int), jO s, jJ (zu ((x1 * y2) + (x2 * y1)) (y1 * y2)), jO f1] 0 0 (jF1 (jF1 (jF1 w f1 x1 y1) f2 x2 y2) f1 (zu ((x1 * y2) + (x2 * y1)) (y1 * y2)) (zv ((x1 * y2) + (x2 * y1)) (y1 * y2))) _
          refine ⟨rfl, ?_⟩
          refine jWp.callv (as := [jO s, jI (k : Int)]) (rest := [jJ (zu ((x1 * y2) + (x2 * y1)) (y1 * y2)), jO f1]) mt rfl rfl rfl ⟨rfl, jtg hks⟩ ?_
          refine jCall.mono ((by have h := E_su (w := (jF1 (jF1 (jF1 w f1 x1 y1) f2 x2 y2) f1 (zu ((x1 * y2) + (x2 * y1)) (y1 * y2)) (zv ((x1 * y2) + (x2 * y1)) (y1 * y2)))) (sc := sc) (n := n) (i := k) hks hkc hrc ((congrFun (jF1_f h1s.symm) 0).trans ((congrFun (jF1_f h2s.symm) 0).trans ((congrFun (jF1_f h1s.symm) 0).trans hn0))) hn4 (by omega); rw [show (jF1 (jF1 (jF1 w f1 x1 y1) f2 x2 y2) f1 (zu ((x1 * y2) + (x2 * y1)) (y1 * y2)) (zv ((x1 * y2) + (x2 * y1)) (y1 * y2))).1 sc (4 + k) = q (25 + k) from (congrFun ((jF1_f h1c.symm).trans ((jF1_f h2c.symm).trans ((jF1_f h1c.symm).trans rfl))) _).trans ((hRR.1 _ (by omega)).trans (cz_d hn4 (by omega)))] at h; exact h)) (fun v9 w9 h9 => ?_)
          obtain ⟨rfl, h9⟩ := h9
          subst w9
          show jWp 1 110 [some (jO e), some (jO s), some (jI (k : Int)), none] [jI (q (25 + k)), jJ (zu ((x1 * y2) + (x2 * y1)) (y1 * y2)), jO f1] 0 0 (jF1 (jF1 (jF1 w f1 x1 y1) f2 x2 y2) f1 (zu ((x1 * y2) + (x2 * y1)) (y1 * y2)) (zv ((x1 * y2) + (x2 * y1)) (y1 * y2))) _
          refine jWp.i2l (pc' := 111) mt rfl rfl (b32_id (by omega) (by omega)) ?_
          show jWp 1 111 [some (jO e), some (jO s), some (jI (k : Int)), none] [jJ (q (25 + k)), jJ (zu ((x1 * y2) + (x2 * y1)) (y1 * y2)), jO f1] 0 0 (jF1 (jF1 (jF1 w f1 x1 y1) f2 x2 y2) f1 (zu ((x1 * y2) + (x2 * y1)) (y1 * y2)) (zv ((x1 * y2) + (x2 * y1)) (y1 * y2))) _
          refine jWp.blk mt 2 ?_
          show _ ∧ jWp 1 113 [some (jO e), some (jO s), some (jI (k : Int)), none] [jO e, jJ ((zu ((x1 * y2) + (x2 * y1)) (y1 * y2)) * (q (25 + k))), jO f1] 0 0 (jF1 (jF1 (jF1 w f1 x1 y1) f2 x2 y2) f1 (zu ((x1 * y2) + (x2 * y1)) (y1 * y2)) (zv ((x1 * y2) + (x2 * y1)) (y1 * y2))) _
          refine ⟨rfl, ?_⟩
          refine jWp.getR (pc' := 116) (o := f1) mt rfl rfl (jtg hke) hr1 ?_
          show jWp 1 116 [some (jO e), some (jO s), some (jI (k : Int)), none] [jO f1, jJ ((zu ((x1 * y2) + (x2 * y1)) (y1 * y2)) * (q (25 + k))), jO f1] 0 0 (jF1 (jF1 (jF1 w f1 x1 y1) f2 x2 y2) f1 (zu ((x1 * y2) + (x2 * y1)) (y1 * y2)) (zv ((x1 * y2) + (x2 * y1)) (y1 * y2))) _
          refine jWp.getJ (pc' := 119) mt rfl rfl (jtg hk1) ?_
          rw [show ((jF1 (jF1 (jF1 w f1 x1 y1) f2 x2 y2) f1 (zu ((x1 * y2) + (x2 * y1)) (y1 * y2)) (zv ((x1 * y2) + (x2 * y1)) (y1 * y2))).1 f1 1) = (zv ((x1 * y2) + (x2 * y1)) (y1 * y2)) from jF1_1]
          show jWp 1 119 [some (jO e), some (jO s), some (jI (k : Int)), none] [jJ (zv ((x1 * y2) + (x2 * y1)) (y1 * y2)), jJ ((zu ((x1 * y2) + (x2 * y1)) (y1 * y2)) * (q (25 + k))), jO f1] 0 0 (jF1 (jF1 (jF1 w f1 x1 y1) f2 x2 y2) f1 (zu ((x1 * y2) + (x2 * y1)) (y1 * y2)) (zv ((x1 * y2) + (x2 * y1)) (y1 * y2))) _
          refine jWp.blk mt 2 ?_
          show _ ∧ jWp 1 121 [some (jO e), some (jO s), some (jI (k : Int)), none] [jI (k : Int), jO s, jJ (zv ((x1 * y2) + (x2 * y1)) (y1 * y2)), jJ ((zu ((x1 * y2) + (x2 * y1)) (y1 * y2)) * (q (25 + k))), jO f1] 0 0 (jF1 (jF1 (jF1 w f1 x1 y1) f2 x2 y2) f1 (zu ((x1 * y2) + (x2 * y1)) (y1 * y2)) (zv ((x1 * y2) + (x2 * y1)) (y1 * y2))) _
          refine ⟨rfl, ?_⟩
          refine jWp.callv (as := [jO s, jI (k : Int)]) (rest := [jJ (zv ((x1 * y2) + (x2 * y1)) (y1 * y2)), jJ ((zu ((x1 * y2) + (x2 * y1)) (y1 * y2)) * (q (25 + k))), jO f1]) mt rfl rfl rfl ⟨rfl, jtg hks⟩ ?_
          refine jCall.mono ((by have h := E_sa (w := (jF1 (jF1 (jF1 w f1 x1 y1) f2 x2 y2) f1 (zu ((x1 * y2) + (x2 * y1)) (y1 * y2)) (zv ((x1 * y2) + (x2 * y1)) (y1 * y2)))) (sc := sc) (n := n) (i := k) hks hkc hrc ((congrFun (jF1_f h1s.symm) 0).trans ((congrFun (jF1_f h2s.symm) 0).trans ((congrFun (jF1_f h1s.symm) 0).trans hn0))) hn4 (by omega); rw [show (jF1 (jF1 (jF1 w f1 x1 y1) f2 x2 y2) f1 (zu ((x1 * y2) + (x2 * y1)) (y1 * y2)) (zv ((x1 * y2) + (x2 * y1)) (y1 * y2))).1 sc k = q (21 + k) from (congrFun ((jF1_f h1c.symm).trans ((jF1_f h2c.symm).trans ((jF1_f h1c.symm).trans rfl))) _).trans ((hRR.1 _ (by omega)).trans (cz_u hn4 (by omega)))] at h; exact h)) (fun v9 w9 h9 => ?_)
          obtain ⟨rfl, h9⟩ := h9
          subst w9
          show jWp 1 124 [some (jO e), some (jO s), some (jI (k : Int)), none] [jI (q (21 + k)), jJ (zv ((x1 * y2) + (x2 * y1)) (y1 * y2)), jJ ((zu ((x1 * y2) + (x2 * y1)) (y1 * y2)) * (q (25 + k))), jO f1] 0 0 (jF1 (jF1 (jF1 w f1 x1 y1) f2 x2 y2) f1 (zu ((x1 * y2) + (x2 * y1)) (y1 * y2)) (zv ((x1 * y2) + (x2 * y1)) (y1 * y2))) _
          refine jWp.i2l (pc' := 125) mt rfl rfl (b32_id (by omega) (by omega)) ?_
          show jWp 1 125 [some (jO e), some (jO s), some (jI (k : Int)), none] [jJ (q (21 + k)), jJ (zv ((x1 * y2) + (x2 * y1)) (y1 * y2)), jJ ((zu ((x1 * y2) + (x2 * y1)) (y1 * y2)) * (q (25 + k))), jO f1] 0 0 (jF1 (jF1 (jF1 w f1 x1 y1) f2 x2 y2) f1 (zu ((x1 * y2) + (x2 * y1)) (y1 * y2)) (zv ((x1 * y2) + (x2 * y1)) (y1 * y2))) _
          refine jWp.blk mt 1 ?_
          show jWp 1 126 [some (jO e), some (jO s), some (jI (k : Int)), none] [jJ ((zv ((x1 * y2) + (x2 * y1)) (y1 * y2)) * (q (21 + k))), jJ ((zu ((x1 * y2) + (x2 * y1)) (y1 * y2)) * (q (25 + k))), jO f1] 0 0 (jF1 (jF1 (jF1 w f1 x1 y1) f2 x2 y2) f1 (zu ((x1 * y2) + (x2 * y1)) (y1 * y2)) (zv ((x1 * y2) + (x2 * y1)) (y1 * y2))) _
          refine jWp.callv (as := [jO f1, jJ ((zu ((x1 * y2) + (x2 * y1)) (y1 * y2)) * (q (25 + k))), jJ ((zv ((x1 * y2) + (x2 * y1)) (y1 * y2)) * (q (21 + k)))]) (rest := []) mt rfl rfl rfl ⟨rfl, jtg hk1⟩ ?_
          refine jCall.mono (E_set (w := (jF1 (jF1 (jF1 w f1 x1 y1) f2 x2 y2) f1 (zu ((x1 * y2) + (x2 * y1)) (y1 * y2)) (zv ((x1 * y2) + (x2 * y1)) (y1 * y2)))) hk1 (show 0 ≤ ((zu ((x1 * y2) + (x2 * y1)) (y1 * y2)) * (q (25 + k))) ∧ ((zu ((x1 * y2) + (x2 * y1)) (y1 * y2)) * (q (25 + k))) < 9223372036854775808 by omega) (show 0 < ((zv ((x1 * y2) + (x2 * y1)) (y1 * y2)) * (q (21 + k))) ∧ ((zv ((x1 * y2) + (x2 * y1)) (y1 * y2)) * (q (21 + k))) < 9223372036854775808 by omega)) (fun v9 w9 h9 => ?_)
          rcases h9 with ⟨rfl, h9, h3⟩ | ⟨rfl, h9, h3⟩ <;> subst h9
          · have z3 : zok ((zu ((x1 * y2) + (x2 * y1)) (y1 * y2)) * (q (25 + k))) ((zv ((x1 * y2) + (x2 * y1)) (y1 * y2)) * (q (21 + k))) := h3
            rw [show jW (jW (jF1 (jF1 (jF1 w f1 x1 y1) f2 x2 y2) f1 (zu ((x1 * y2) + (x2 * y1)) (y1 * y2)) (zv ((x1 * y2) + (x2 * y1)) (y1 * y2))) f1 0 (zu ((zu ((x1 * y2) + (x2 * y1)) (y1 * y2)) * (q (25 + k))) ((zv ((x1 * y2) + (x2 * y1)) (y1 * y2)) * (q (21 + k))))) f1 1 (zv ((zu ((x1 * y2) + (x2 * y1)) (y1 * y2)) * (q (25 + k))) ((zv ((x1 * y2) + (x2 * y1)) (y1 * y2)) * (q (21 + k)))) = jF1 (jF1 (jF1 w f1 x1 y1) f2 x2 y2) f1 (zu ((zu ((x1 * y2) + (x2 * y1)) (y1 * y2)) * (q (25 + k))) ((zv ((x1 * y2) + (x2 * y1)) (y1 * y2)) * (q (21 + k)))) (zv ((zu ((x1 * y2) + (x2 * y1)) (y1 * y2)) * (q (25 + k))) ((zv ((x1 * y2) + (x2 * y1)) (y1 * y2)) * (q (21 + k)))) from jF1_F]
            show jWp 1 129 [some (jO e), some (jO s), some (jI (k : Int)), none] [jI 1] 0 0 (jF1 (jF1 (jF1 w f1 x1 y1) f2 x2 y2) f1 (zu ((zu ((x1 * y2) + (x2 * y1)) (y1 * y2)) * (q (25 + k))) ((zv ((x1 * y2) + (x2 * y1)) (y1 * y2)) * (q (21 + k)))) (zv ((zu ((x1 * y2) + (x2 * y1)) (y1 * y2)) * (q (25 + k))) ((zv ((x1 * y2) + (x2 * y1)) (y1 * y2)) * (q (21 + k))))) _
            refine jWp.ifc (b := false) mt rfl (by decide) rfl ?_
            show jWp 1 132 [some (jO e), some (jO s), some (jI (k : Int)), none] [] 0 0 (jF1 (jF1 (jF1 w f1 x1 y1) f2 x2 y2) f1 (zu ((zu ((x1 * y2) + (x2 * y1)) (y1 * y2)) * (q (25 + k))) ((zv ((x1 * y2) + (x2 * y1)) (y1 * y2)) * (q (21 + k)))) (zv ((zu ((x1 * y2) + (x2 * y1)) (y1 * y2)) * (q (25 + k))) ((zv ((x1 * y2) + (x2 * y1)) (y1 * y2)) * (q (21 + k))))) _
            refine jWp.blk mt 2 ?_
            show _ ∧ jWp 1 134 [some (jO e), some (jO s), some (jI (k : Int)), none] [jI (k : Int), jO s] 0 0 (jF1 (jF1 (jF1 w f1 x1 y1) f2 x2 y2) f1 (zu ((zu ((x1 * y2) + (x2 * y1)) (y1 * y2)) * (q (25 + k))) ((zv ((x1 * y2) + (x2 * y1)) (y1 * y2)) * (q (21 + k)))) (zv ((zu ((x1 * y2) + (x2 * y1)) (y1 * y2)) * (q (25 + k))) ((zv ((x1 * y2) + (x2 * y1)) (y1 * y2)) * (q (21 + k))))) _
            refine ⟨rfl, ?_⟩
            refine jWp.callv (as := [jO s, jI (k : Int)]) (rest := []) mt rfl rfl rfl ⟨rfl, jtg hks⟩ ?_
            refine jCall.mono (C_smallQ (w := (jF1 (jF1 (jF1 w f1 x1 y1) f2 x2 y2) f1 (zu ((zu ((x1 * y2) + (x2 * y1)) (y1 * y2)) * (q (25 + k))) ((zv ((x1 * y2) + (x2 * y1)) (y1 * y2)) * (q (21 + k)))) (zv ((zu ((x1 * y2) + (x2 * y1)) (y1 * y2)) * (q (25 + k))) ((zv ((x1 * y2) + (x2 * y1)) (y1 * y2)) * (q (21 + k)))))) hks hkc hrc ((congrFun (jF1_f h1s.symm) 0).trans ((congrFun (jF1_f h2s.symm) 0).trans ((congrFun (jF1_f h1s.symm) 0).trans hn0))) hn4 hQ (fun j hj => (congrFun ((jF1_f h1c.symm).trans ((jF1_f h2c.symm).trans ((jF1_f h1c.symm).trans rfl))) j).trans (hRR.1 j hj)) hk) (fun v9 w9 h9 => ?_)
            rcases h9 with ⟨rfl, h9, h4⟩ | ⟨rfl, h9, h4⟩ <;> subst w9
            · have h4 : zxt (fun e => q (1 + e)) k := h4
              show jWp 1 137 [some (jO e), some (jO s), some (jI (k : Int)), none] [jI 1] 0 0 (jF1 (jF1 (jF1 w f1 x1 y1) f2 x2 y2) f1 (zu ((zu ((x1 * y2) + (x2 * y1)) (y1 * y2)) * (q (25 + k))) ((zv ((x1 * y2) + (x2 * y1)) (y1 * y2)) * (q (21 + k)))) (zv ((zu ((x1 * y2) + (x2 * y1)) (y1 * y2)) * (q (25 + k))) ((zv ((x1 * y2) + (x2 * y1)) (y1 * y2)) * (q (21 + k))))) _
              have hxt := h4
              refine jWp.ifc (b := false) mt rfl (by decide) rfl ?_
              show jWp 1 140 [some (jO e), some (jO s), some (jI (k : Int)), none] [] 0 0 (jF1 (jF1 (jF1 w f1 x1 y1) f2 x2 y2) f1 (zu ((zu ((x1 * y2) + (x2 * y1)) (y1 * y2)) * (q (25 + k))) ((zv ((x1 * y2) + (x2 * y1)) (y1 * y2)) * (q (21 + k)))) (zv ((zu ((x1 * y2) + (x2 * y1)) (y1 * y2)) * (q (25 + k))) ((zv ((x1 * y2) + (x2 * y1)) (y1 * y2)) * (q (21 + k))))) _
              refine jWp.blk mt 4 ?_
              show jWp 1 147 [some (jO e), some (jO s), some (jI (k : Int)), some (jI 1)] [jI 1] 0 0 (jF1 (jF1 (jF1 w f1 x1 y1) f2 x2 y2) f1 (zu ((zu ((x1 * y2) + (x2 * y1)) (y1 * y2)) * (q (25 + k))) ((zv ((x1 * y2) + (x2 * y1)) (y1 * y2)) * (q (21 + k)))) (zv ((zu ((x1 * y2) + (x2 * y1)) (y1 * y2)) * (q (25 + k))) ((zv ((x1 * y2) + (x2 * y1)) (y1 * y2)) * (q (21 + k))))) _
              refine jWp.ifc (b := true) mt rfl (by decide) rfl ?_
              show jWp 1 152 [some (jO e), some (jO s), some (jI (k : Int)), some (jI 1)] [] 0 0 (jF1 (jF1 (jF1 w f1 x1 y1) f2 x2 y2) f1 (zu ((zu ((x1 * y2) + (x2 * y1)) (y1 * y2)) * (q (25 + k))) ((zv ((x1 * y2) + (x2 * y1)) (y1 * y2)) * (q (21 + k)))) (zv ((zu ((x1 * y2) + (x2 * y1)) (y1 * y2)) * (q (25 + k))) ((zv ((x1 * y2) + (x2 * y1)) (y1 * y2)) * (q (21 + k))))) _
              refine jWp.blk mt 2 ?_
              show _ ∧ jWp 1 154 [some (jO e), some (jO s), some (jI (k : Int)), some (jI 1)] [jI (k : Int), jO s] 0 0 (jF1 (jF1 (jF1 w f1 x1 y1) f2 x2 y2) f1 (zu ((zu ((x1 * y2) + (x2 * y1)) (y1 * y2)) * (q (25 + k))) ((zv ((x1 * y2) + (x2 * y1)) (y1 * y2)) * (q (21 + k)))) (zv ((zu ((x1 * y2) + (x2 * y1)) (y1 * y2)) * (q (25 + k))) ((zv ((x1 * y2) + (x2 * y1)) (y1 * y2)) * (q (21 + k))))) _
              refine ⟨rfl, ?_⟩
              refine jWp.callv (as := [jO s, jI (k : Int)]) (rest := []) mt rfl rfl rfl ⟨rfl, jtg hks⟩ ?_
              refine jCall.mono (C_degT (w := (jF1 (jF1 (jF1 w f1 x1 y1) f2 x2 y2) f1 (zu ((zu ((x1 * y2) + (x2 * y1)) (y1 * y2)) * (q (25 + k))) ((zv ((x1 * y2) + (x2 * y1)) (y1 * y2)) * (q (21 + k)))) (zv ((zu ((x1 * y2) + (x2 * y1)) (y1 * y2)) * (q (25 + k))) ((zv ((x1 * y2) + (x2 * y1)) (y1 * y2)) * (q (21 + k)))))) hks hkc hrc ((congrFun (jF1_f h1s.symm) 0).trans ((congrFun (jF1_f h2s.symm) 0).trans ((congrFun (jF1_f h1s.symm) 0).trans hn0))) hn4 hQ (fun j hj => (congrFun ((jF1_f h1c.symm).trans ((jF1_f h2c.symm).trans ((jF1_f h1c.symm).trans rfl))) j).trans (hRR.1 j hj)) hk) (fun v9 w9 h9 => ?_)
              obtain ⟨rfl, T1, h9, hT1⟩ := h9
              subst h9
              have hT1 : ∀ e, T1 e = if 28 + 4 * k ≤ e ∧ e < 28 + 4 * k + n then zcn (w.1 sc) n k (e - (28 + 4 * k)) else w.1 sc e := by rw [show (jF1 (jF1 (jF1 w f1 x1 y1) f2 x2 y2) f1 (zu ((zu ((x1 * y2) + (x2 * y1)) (y1 * y2)) * (q (25 + k))) ((zv ((x1 * y2) + (x2 * y1)) (y1 * y2)) * (q (21 + k)))) (zv ((zu ((x1 * y2) + (x2 * y1)) (y1 * y2)) * (q (25 + k))) ((zv ((x1 * y2) + (x2 * y1)) (y1 * y2)) * (q (21 + k))))).1 sc = w.1 sc from ((jF1_f h1c.symm).trans ((jF1_f h2c.symm).trans ((jF1_f h1c.symm).trans rfl)))] at hT1; exact hT1
              show jWp 1 157 [some (jO e), some (jO s), some (jI (k : Int)), some (jI 1)] [] 0 0 (kA (jF1 (jF1 (jF1 w f1 x1 y1) f2 x2 y2) f1 (zu ((zu ((x1 * y2) + (x2 * y1)) (y1 * y2)) * (q (25 + k))) ((zv ((x1 * y2) + (x2 * y1)) (y1 * y2)) * (q (21 + k)))) (zv ((zu ((x1 * y2) + (x2 * y1)) (y1 * y2)) * (q (25 + k))) ((zv ((x1 * y2) + (x2 * y1)) (y1 * y2)) * (q (21 + k))))) sc T1) _
              refine jWp.blk mt 2 ?_
              show _ ∧ jWp 1 159 [some (jO e), some (jO s), some (jI (k : Int)), some (jI 1)] [jI (k : Int), jO s] 0 0 (kA (jF1 (jF1 (jF1 w f1 x1 y1) f2 x2 y2) f1 (zu ((zu ((x1 * y2) + (x2 * y1)) (y1 * y2)) * (q (25 + k))) ((zv ((x1 * y2) + (x2 * y1)) (y1 * y2)) * (q (21 + k)))) (zv ((zu ((x1 * y2) + (x2 * y1)) (y1 * y2)) * (q (25 + k))) ((zv ((x1 * y2) + (x2 * y1)) (y1 * y2)) * (q (21 + k))))) sc T1) _
              refine ⟨rfl, ?_⟩
              refine jWp.callv (as := [jO s, jI (k : Int)]) (rest := []) mt rfl rfl rfl ⟨rfl, jtg hks⟩ ?_
              refine jCall.mono (C_tabT (w := (kA (jF1 (jF1 (jF1 w f1 x1 y1) f2 x2 y2) f1 (zu ((zu ((x1 * y2) + (x2 * y1)) (y1 * y2)) * (q (25 + k))) ((zv ((x1 * y2) + (x2 * y1)) (y1 * y2)) * (q (21 + k)))) (zv ((zu ((x1 * y2) + (x2 * y1)) (y1 * y2)) * (q (25 + k))) ((zv ((x1 * y2) + (x2 * y1)) (y1 * y2)) * (q (21 + k))))) sc T1)) (q := q) hks hkc hrc ((kA_a hsc).trans ((congrFun (jF1_f h1s.symm) 0).trans ((congrFun (jF1_f h2s.symm) 0).trans ((congrFun (jF1_f h1s.symm) 0).trans hn0)))) hn4 hQ (fun j h1 h2 => kA_s.trans ((hT1 j).trans ((if_neg (by omega)).trans (hRR.1 j (by omega))))) hk hxt) (fun v9 w9 h9 => ?_)
              obtain ⟨rfl, T2, h9, hT2⟩ := h9
              subst h9
              have hT2 : ∀ e, T2 e = if 8 ≤ e ∧ e < 24 ∧ (e - 8) / 4 < n ∧ (e - 8) % 4 < n then zxe (fun e => q (1 + e)) k (e - 8) else T1 e := by rw [show (kA (jF1 (jF1 (jF1 w f1 x1 y1) f2 x2 y2) f1 (zu ((zu ((x1 * y2) + (x2 * y1)) (y1 * y2)) * (q (25 + k))) ((zv ((x1 * y2) + (x2 * y1)) (y1 * y2)) * (q (21 + k)))) (zv ((zu ((x1 * y2) + (x2 * y1)) (y1 * y2)) * (q (25 + k))) ((zv ((x1 * y2) + (x2 * y1)) (y1 * y2)) * (q (21 + k))))) sc T1).1 sc = T1 from kA_fs] at hT2; exact hT2
              rw [show kA (kA (jF1 (jF1 (jF1 w f1 x1 y1) f2 x2 y2) f1 (zu ((zu ((x1 * y2) + (x2 * y1)) (y1 * y2)) * (q (25 + k))) ((zv ((x1 * y2) + (x2 * y1)) (y1 * y2)) * (q (21 + k)))) (zv ((zu ((x1 * y2) + (x2 * y1)) (y1 * y2)) * (q (25 + k))) ((zv ((x1 * y2) + (x2 * y1)) (y1 * y2)) * (q (21 + k))))) sc T1) sc T2 = kA (jF1 (jF1 (jF1 w f1 x1 y1) f2 x2 y2) f1 (zu ((zu ((x1 * y2) + (x2 * y1)) (y1 * y2)) * (q (25 + k))) ((zv ((x1 * y2) + (x2 * y1)) (y1 * y2)) * (q (21 + k)))) (zv ((zu ((x1 * y2) + (x2 * y1)) (y1 * y2)) * (q (25 + k))) ((zv ((x1 * y2) + (x2 * y1)) (y1 * y2)) * (q (21 + k))))) sc T2 from kA_A]
              show jWp 1 162 [some (jO e), some (jO s), some (jI (k : Int)), some (jI 1)] [] 0 0 (kA (jF1 (jF1 (jF1 w f1 x1 y1) f2 x2 y2) f1 (zu ((zu ((x1 * y2) + (x2 * y1)) (y1 * y2)) * (q (25 + k))) ((zv ((x1 * y2) + (x2 * y1)) (y1 * y2)) * (q (21 + k)))) (zv ((zu ((x1 * y2) + (x2 * y1)) (y1 * y2)) * (q (25 + k))) ((zv ((x1 * y2) + (x2 * y1)) (y1 * y2)) * (q (21 + k))))) sc T2) _
              refine jWp.blk mt 3 ?_
              show _ ∧ _ ∧ jWp 1 165 [some (jO e), some (jO s), some (jI (k : Int)), some (jI 1)] [jO e, jI (k : Int), jO s] 0 0 (kA (jF1 (jF1 (jF1 w f1 x1 y1) f2 x2 y2) f1 (zu ((zu ((x1 * y2) + (x2 * y1)) (y1 * y2)) * (q (25 + k))) ((zv ((x1 * y2) + (x2 * y1)) (y1 * y2)) * (q (21 + k)))) (zv ((zu ((x1 * y2) + (x2 * y1)) (y1 * y2)) * (q (25 + k))) ((zv ((x1 * y2) + (x2 * y1)) (y1 * y2)) * (q (21 + k))))) sc T2) _
              refine ⟨rfl, rfl, ?_⟩
              refine jWp.getR (pc' := 168) (o := f1) mt rfl rfl (jtg hke) hr1 ?_
              show jWp 1 168 [some (jO e), some (jO s), some (jI (k : Int)), some (jI 1)] [jO f1, jI (k : Int), jO s] 0 0 (kA (jF1 (jF1 (jF1 w f1 x1 y1) f2 x2 y2) f1 (zu ((zu ((x1 * y2) + (x2 * y1)) (y1 * y2)) * (q (25 + k))) ((zv ((x1 * y2) + (x2 * y1)) (y1 * y2)) * (q (21 + k)))) (zv ((zu ((x1 * y2) + (x2 * y1)) (y1 * y2)) * (q (25 + k))) ((zv ((x1 * y2) + (x2 * y1)) (y1 * y2)) * (q (21 + k))))) sc T2) _
              refine jWp.callv (as := [jO s, jI (k : Int), jO f1]) (rest := []) mt rfl rfl rfl ⟨rfl, jtg hks⟩ ?_
              refine jCall.mono (E_setValue (w := (kA (jF1 (jF1 (jF1 w f1 x1 y1) f2 x2 y2) f1 (zu ((zu ((x1 * y2) + (x2 * y1)) (y1 * y2)) * (q (25 + k))) ((zv ((x1 * y2) + (x2 * y1)) (y1 * y2)) * (q (21 + k)))) (zv ((zu ((x1 * y2) + (x2 * y1)) (y1 * y2)) * (q (25 + k))) ((zv ((x1 * y2) + (x2 * y1)) (y1 * y2)) * (q (21 + k))))) sc T2)) (sc := sc) (n := n) (f := f1) (i := k) (u := (zu ((zu ((x1 * y2) + (x2 * y1)) (y1 * y2)) * (q (25 + k))) ((zv ((x1 * y2) + (x2 * y1)) (y1 * y2)) * (q (21 + k))))) (v := (zv ((zu ((x1 * y2) + (x2 * y1)) (y1 * y2)) * (q (25 + k))) ((zv ((x1 * y2) + (x2 * y1)) (y1 * y2)) * (q (21 + k))))) hks hkc hrc ((kA_a hsc).trans ((congrFun (jF1_f h1s.symm) 0).trans ((congrFun (jF1_f h2s.symm) 0).trans ((congrFun (jF1_f h1s.symm) 0).trans hn0)))) hn4 hk1 ((kA_a h1c).trans jF1_0) ((kA_a h1c).trans jF1_1) hk) (fun v9 w9 h9 => ?_)
              obtain ⟨rfl, h9⟩ := h9
              subst h9
              rw [show jW (jW (kA (jF1 (jF1 (jF1 w f1 x1 y1) f2 x2 y2) f1 (zu ((zu ((x1 * y2) + (x2 * y1)) (y1 * y2)) * (q (25 + k))) ((zv ((x1 * y2) + (x2 * y1)) (y1 * y2)) * (q (21 + k)))) (zv ((zu ((x1 * y2) + (x2 * y1)) (y1 * y2)) * (q (25 + k))) ((zv ((x1 * y2) + (x2 * y1)) (y1 * y2)) * (q (21 + k))))) sc T2) sc k (zu ((zu ((x1 * y2) + (x2 * y1)) (y1 * y2)) * (q (25 + k))) ((zv ((x1 * y2) + (x2 * y1)) (y1 * y2)) * (q (21 + k))))) sc (4 + k) (zv ((zu ((x1 * y2) + (x2 * y1)) (y1 * y2)) * (q (25 + k))) ((zv ((x1 * y2) + (x2 * y1)) (y1 * y2)) * (q (21 + k)))) = kA (jF1 (jF1 (jF1 w f1 x1 y1) f2 x2 y2) f1 (zu ((zu ((x1 * y2) + (x2 * y1)) (y1 * y2)) * (q (25 + k))) ((zv ((x1 * y2) + (x2 * y1)) (y1 * y2)) * (q (21 + k)))) (zv ((zu ((x1 * y2) + (x2 * y1)) (y1 * y2)) * (q (25 + k))) ((zv ((x1 * y2) + (x2 * y1)) (y1 * y2)) * (q (21 + k))))) sc (zset (zset T2 k (zu ((zu ((x1 * y2) + (x2 * y1)) (y1 * y2)) * (q (25 + k))) ((zv ((x1 * y2) + (x2 * y1)) (y1 * y2)) * (q (21 + k))))) (4 + k) (zv ((zu ((x1 * y2) + (x2 * y1)) (y1 * y2)) * (q (25 + k))) ((zv ((x1 * y2) + (x2 * y1)) (y1 * y2)) * (q (21 + k))))) from by rw [kA_W, kA_W]]
              show jWp 1 171 [some (jO e), some (jO s), some (jI (k : Int)), some (jI 1)] [] 0 0 (kA (jF1 (jF1 (jF1 w f1 x1 y1) f2 x2 y2) f1 (zu ((zu ((x1 * y2) + (x2 * y1)) (y1 * y2)) * (q (25 + k))) ((zv ((x1 * y2) + (x2 * y1)) (y1 * y2)) * (q (21 + k)))) (zv ((zu ((x1 * y2) + (x2 * y1)) (y1 * y2)) * (q (25 + k))) ((zv ((x1 * y2) + (x2 * y1)) (y1 * y2)) * (q (21 + k))))) sc (zset (zset T2 k (zu ((zu ((x1 * y2) + (x2 * y1)) (y1 * y2)) * (q (25 + k))) ((zv ((x1 * y2) + (x2 * y1)) (y1 * y2)) * (q (21 + k))))) (4 + k) (zv ((zu ((x1 * y2) + (x2 * y1)) (y1 * y2)) * (q (25 + k))) ((zv ((x1 * y2) + (x2 * y1)) (y1 * y2)) * (q (21 + k)))))) _
              refine jWp.blk mt 1 ?_
              show jWp 1 172 [some (jO e), some (jO s), some (jI (k : Int)), some (jI 1)] [jI 1] 0 0 (kA (jF1 (jF1 (jF1 w f1 x1 y1) f2 x2 y2) f1 (zu ((zu ((x1 * y2) + (x2 * y1)) (y1 * y2)) * (q (25 + k))) ((zv ((x1 * y2) + (x2 * y1)) (y1 * y2)) * (q (21 + k)))) (zv ((zu ((x1 * y2) + (x2 * y1)) (y1 * y2)) * (q (25 + k))) ((zv ((x1 * y2) + (x2 * y1)) (y1 * y2)) * (q (21 + k))))) sc (zset (zset T2 k (zu ((zu ((x1 * y2) + (x2 * y1)) (y1 * y2)) * (q (25 + k))) ((zv ((x1 * y2) + (x2 * y1)) (y1 * y2)) * (q (21 + k))))) (4 + k) (zv ((zu ((x1 * y2) + (x2 * y1)) (y1 * y2)) * (q (25 + k))) ((zv ((x1 * y2) + (x2 * y1)) (y1 * y2)) * (q (21 + k)))))) _
              refine jWp.iretz mt rfl ⟨rfl, rfl⟩ rfl (Or.inr rfl) ?_
              refine ⟨⟨rfl, fun a g1 g2 gc => (kA_f gc).trans ((jF1_f g1).trans ((jF1_f g2).trans ((jF1_f g1).trans rfl)))⟩, Or.inl ⟨rfl, ⟨hxt, ?_⟩, ?_⟩⟩
              · rw [zxvE e1 e2 z2 z3]; rfl
              · rw [show (kA (jF1 (jF1 (jF1 w f1 x1 y1) f2 x2 y2) f1 (zu ((zu ((x1 * y2) + (x2 * y1)) (y1 * y2)) * (q (25 + k))) ((zv ((x1 * y2) + (x2 * y1)) (y1 * y2)) * (q (21 + k)))) (zv ((zu ((x1 * y2) + (x2 * y1)) (y1 * y2)) * (q (25 + k))) ((zv ((x1 * y2) + (x2 * y1)) (y1 * y2)) * (q (21 + k))))) sc (zset (zset T2 k (zu ((zu ((x1 * y2) + (x2 * y1)) (y1 * y2)) * (q (25 + k))) ((zv ((x1 * y2) + (x2 * y1)) (y1 * y2)) * (q (21 + k))))) (4 + k) (zv ((zu ((x1 * y2) + (x2 * y1)) (y1 * y2)) * (q (25 + k))) ((zv ((x1 * y2) + (x2 * y1)) (y1 * y2)) * (q (21 + k)))))).1 sc = zset (zset T2 k (zu ((zu ((x1 * y2) + (x2 * y1)) (y1 * y2)) * (q (25 + k))) ((zv ((x1 * y2) + (x2 * y1)) (y1 * y2)) * (q (21 + k))))) (4 + k) (zv ((zu ((x1 * y2) + (x2 * y1)) (y1 * y2)) * (q (25 + k))) ((zv ((x1 * y2) + (x2 * y1)) (y1 * y2)) * (q (21 + k)))) from kA_fs]
                exact cR_x hG hgq hQ hk hRR (zxvE e1 e2 z2 z3) hT1 hT2
            · have h4 : ¬ (zxt (fun e => q (1 + e)) k) := h4
              show jWp 1 137 [some (jO e), some (jO s), some (jI (k : Int)), none] [jI 0] 0 0 (jF1 (jF1 (jF1 w f1 x1 y1) f2 x2 y2) f1 (zu ((zu ((x1 * y2) + (x2 * y1)) (y1 * y2)) * (q (25 + k))) ((zv ((x1 * y2) + (x2 * y1)) (y1 * y2)) * (q (21 + k)))) (zv ((zu ((x1 * y2) + (x2 * y1)) (y1 * y2)) * (q (25 + k))) ((zv ((x1 * y2) + (x2 * y1)) (y1 * y2)) * (q (21 + k))))) _
              have hxt := h4
              refine jWp.ifc (b := true) mt rfl (by decide) rfl ?_
              show jWp 1 144 [some (jO e), some (jO s), some (jI (k : Int)), none] [] 0 0 (jF1 (jF1 (jF1 w f1 x1 y1) f2 x2 y2) f1 (zu ((zu ((x1 * y2) + (x2 * y1)) (y1 * y2)) * (q (25 + k))) ((zv ((x1 * y2) + (x2 * y1)) (y1 * y2)) * (q (21 + k)))) (zv ((zu ((x1 * y2) + (x2 * y1)) (y1 * y2)) * (q (25 + k))) ((zv ((x1 * y2) + (x2 * y1)) (y1 * y2)) * (q (21 + k))))) _
              refine jWp.blk mt 3 ?_
              show jWp 1 147 [some (jO e), some (jO s), some (jI (k : Int)), some (jI 0)] [jI 0] 0 0 (jF1 (jF1 (jF1 w f1 x1 y1) f2 x2 y2) f1 (zu ((zu ((x1 * y2) + (x2 * y1)) (y1 * y2)) * (q (25 + k))) ((zv ((x1 * y2) + (x2 * y1)) (y1 * y2)) * (q (21 + k)))) (zv ((zu ((x1 * y2) + (x2 * y1)) (y1 * y2)) * (q (25 + k))) ((zv ((x1 * y2) + (x2 * y1)) (y1 * y2)) * (q (21 + k))))) _
              refine jWp.ifc (b := false) mt rfl (by decide) rfl ?_
              show jWp 1 150 [some (jO e), some (jO s), some (jI (k : Int)), some (jI 0)] [] 0 0 (jF1 (jF1 (jF1 w f1 x1 y1) f2 x2 y2) f1 (zu ((zu ((x1 * y2) + (x2 * y1)) (y1 * y2)) * (q (25 + k))) ((zv ((x1 * y2) + (x2 * y1)) (y1 * y2)) * (q (21 + k)))) (zv ((zu ((x1 * y2) + (x2 * y1)) (y1 * y2)) * (q (25 + k))) ((zv ((x1 * y2) + (x2 * y1)) (y1 * y2)) * (q (21 + k))))) _
              refine jWp.blk mt 1 ?_
              show jWp 1 151 [some (jO e), some (jO s), some (jI (k : Int)), some (jI 0)] [jI 0] 0 0 (jF1 (jF1 (jF1 w f1 x1 y1) f2 x2 y2) f1 (zu ((zu ((x1 * y2) + (x2 * y1)) (y1 * y2)) * (q (25 + k))) ((zv ((x1 * y2) + (x2 * y1)) (y1 * y2)) * (q (21 + k)))) (zv ((zu ((x1 * y2) + (x2 * y1)) (y1 * y2)) * (q (25 + k))) ((zv ((x1 * y2) + (x2 * y1)) (y1 * y2)) * (q (21 + k))))) _
              refine jWp.iretz mt rfl ⟨rfl, rfl⟩ rfl (Or.inl rfl) ?_
              refine ⟨⟨rfl, fun a g1 g2 gc => ((jF1_f g1).trans ((jF1_f g2).trans ((jF1_f g1).trans rfl)))⟩, Or.inr ⟨rfl, fun h => ?_, ((jF1_f h1c.symm).trans ((jF1_f h2c.symm).trans ((jF1_f h1c.symm).trans rfl)))⟩⟩
              have h := h.2
              first
              | exact absurd ‹zcan q n k›.1 (by assumption)
              | (unfold zxv at h; rw [e1] at h; cases h; done)
              | (unfold zxv at h; rw [e1, e2] at h; cases h; done)
              | (unfold zxv at h; rw [e1, e2] at h; dsimp only at h; rw [if_neg z2] at h; cases h; done)
              | (unfold zxv at h; rw [e1, e2] at h; dsimp only at h; rw [if_pos z2, if_neg z3] at h; cases h; done)
          · have z3 : ¬ zok ((zu ((x1 * y2) + (x2 * y1)) (y1 * y2)) * (q (25 + k))) ((zv ((x1 * y2) + (x2 * y1)) (y1 * y2)) * (q (21 + k))) := h3
            rw [show jW (jW (jF1 (jF1 (jF1 w f1 x1 y1) f2 x2 y2) f1 (zu ((x1 * y2) + (x2 * y1)) (y1 * y2)) (zv ((x1 * y2) + (x2 * y1)) (y1 * y2))) f1 0 (zu ((zu ((x1 * y2) + (x2 * y1)) (y1 * y2)) * (q (25 + k))) ((zv ((x1 * y2) + (x2 * y1)) (y1 * y2)) * (q (21 + k))))) f1 1 (zv ((zu ((x1 * y2) + (x2 * y1)) (y1 * y2)) * (q (25 + k))) ((zv ((x1 * y2) + (x2 * y1)) (y1 * y2)) * (q (21 + k)))) = jF1 (jF1 (jF1 w f1 x1 y1) f2 x2 y2) f1 (zu ((zu ((x1 * y2) + (x2 * y1)) (y1 * y2)) * (q (25 + k))) ((zv ((x1 * y2) + (x2 * y1)) (y1 * y2)) * (q (21 + k)))) (zv ((zu ((x1 * y2) + (x2 * y1)) (y1 * y2)) * (q (25 + k))) ((zv ((x1 * y2) + (x2 * y1)) (y1 * y2)) * (q (21 + k)))) from jF1_F]
            show jWp 1 129 [some (jO e), some (jO s), some (jI (k : Int)), none] [jI 0] 0 0 (jF1 (jF1 (jF1 w f1 x1 y1) f2 x2 y2) f1 (zu ((zu ((x1 * y2) + (x2 * y1)) (y1 * y2)) * (q (25 + k))) ((zv ((x1 * y2) + (x2 * y1)) (y1 * y2)) * (q (21 + k)))) (zv ((zu ((x1 * y2) + (x2 * y1)) (y1 * y2)) * (q (25 + k))) ((zv ((x1 * y2) + (x2 * y1)) (y1 * y2)) * (q (21 + k))))) _
            refine jWp.ifc (b := true) mt rfl (by decide) rfl ?_
            show jWp 1 144 [some (jO e), some (jO s), some (jI (k : Int)), none] [] 0 0 (jF1 (jF1 (jF1 w f1 x1 y1) f2 x2 y2) f1 (zu ((zu ((x1 * y2) + (x2 * y1)) (y1 * y2)) * (q (25 + k))) ((zv ((x1 * y2) + (x2 * y1)) (y1 * y2)) * (q (21 + k)))) (zv ((zu ((x1 * y2) + (x2 * y1)) (y1 * y2)) * (q (25 + k))) ((zv ((x1 * y2) + (x2 * y1)) (y1 * y2)) * (q (21 + k))))) _
            refine jWp.blk mt 3 ?_
            show jWp 1 147 [some (jO e), some (jO s), some (jI (k : Int)), some (jI 0)] [jI 0] 0 0 (jF1 (jF1 (jF1 w f1 x1 y1) f2 x2 y2) f1 (zu ((zu ((x1 * y2) + (x2 * y1)) (y1 * y2)) * (q (25 + k))) ((zv ((x1 * y2) + (x2 * y1)) (y1 * y2)) * (q (21 + k)))) (zv ((zu ((x1 * y2) + (x2 * y1)) (y1 * y2)) * (q (25 + k))) ((zv ((x1 * y2) + (x2 * y1)) (y1 * y2)) * (q (21 + k))))) _
            refine jWp.ifc (b := false) mt rfl (by decide) rfl ?_
            show jWp 1 150 [some (jO e), some (jO s), some (jI (k : Int)), some (jI 0)] [] 0 0 (jF1 (jF1 (jF1 w f1 x1 y1) f2 x2 y2) f1 (zu ((zu ((x1 * y2) + (x2 * y1)) (y1 * y2)) * (q (25 + k))) ((zv ((x1 * y2) + (x2 * y1)) (y1 * y2)) * (q (21 + k)))) (zv ((zu ((x1 * y2) + (x2 * y1)) (y1 * y2)) * (q (25 + k))) ((zv ((x1 * y2) + (x2 * y1)) (y1 * y2)) * (q (21 + k))))) _
            refine jWp.blk mt 1 ?_
            show jWp 1 151 [some (jO e), some (jO s), some (jI (k : Int)), some (jI 0)] [jI 0] 0 0 (jF1 (jF1 (jF1 w f1 x1 y1) f2 x2 y2) f1 (zu ((zu ((x1 * y2) + (x2 * y1)) (y1 * y2)) * (q (25 + k))) ((zv ((x1 * y2) + (x2 * y1)) (y1 * y2)) * (q (21 + k)))) (zv ((zu ((x1 * y2) + (x2 * y1)) (y1 * y2)) * (q (25 + k))) ((zv ((x1 * y2) + (x2 * y1)) (y1 * y2)) * (q (21 + k))))) _
            refine jWp.iretz mt rfl ⟨rfl, rfl⟩ rfl (Or.inl rfl) ?_
            refine ⟨⟨rfl, fun a g1 g2 gc => ((jF1_f g1).trans ((jF1_f g2).trans ((jF1_f g1).trans rfl)))⟩, Or.inr ⟨rfl, fun h => ?_, ((jF1_f h1c.symm).trans ((jF1_f h2c.symm).trans ((jF1_f h1c.symm).trans rfl)))⟩⟩
            have h := h.2
            first
            | exact absurd ‹zcan q n k›.1 (by assumption)
            | (unfold zxv at h; rw [e1] at h; cases h; done)
            | (unfold zxv at h; rw [e1, e2] at h; cases h; done)
            | (unfold zxv at h; rw [e1, e2] at h; dsimp only at h; rw [if_neg z2] at h; cases h; done)
            | (unfold zxv at h; rw [e1, e2] at h; dsimp only at h; rw [if_pos z2, if_neg z3] at h; cases h; done)
        · have z2 : ¬ zok ((x1 * y2) + (x2 * y1)) (y1 * y2) := h2
          rw [show jW (jW (jF1 (jF1 w f1 x1 y1) f2 x2 y2) f1 0 (zu ((x1 * y2) + (x2 * y1)) (y1 * y2))) f1 1 (zv ((x1 * y2) + (x2 * y1)) (y1 * y2)) = jF1 (jF1 (jF1 w f1 x1 y1) f2 x2 y2) f1 (zu ((x1 * y2) + (x2 * y1)) (y1 * y2)) (zv ((x1 * y2) + (x2 * y1)) (y1 * y2)) from rfl]
          show jWp 1 91 [some (jO e), some (jO s), some (jI (k : Int)), none] [jI 0] 0 0 (jF1 (jF1 (jF1 w f1 x1 y1) f2 x2 y2) f1 (zu ((x1 * y2) + (x2 * y1)) (y1 * y2)) (zv ((x1 * y2) + (x2 * y1)) (y1 * y2))) _
          refine jWp.ifc (b := true) mt rfl (by decide) rfl ?_
          show jWp 1 144 [some (jO e), some (jO s), some (jI (k : Int)), none] [] 0 0 (jF1 (jF1 (jF1 w f1 x1 y1) f2 x2 y2) f1 (zu ((x1 * y2) + (x2 * y1)) (y1 * y2)) (zv ((x1 * y2) + (x2 * y1)) (y1 * y2))) _
          refine jWp.blk mt 3 ?_
          show jWp 1 147 [some (jO e), some (jO s), some (jI (k : Int)), some (jI 0)] [jI 0] 0 0 (jF1 (jF1 (jF1 w f1 x1 y1) f2 x2 y2) f1 (zu ((x1 * y2) + (x2 * y1)) (y1 * y2)) (zv ((x1 * y2) + (x2 * y1)) (y1 * y2))) _
          refine jWp.ifc (b := false) mt rfl (by decide) rfl ?_
          show jWp 1 150 [some (jO e), some (jO s), some (jI (k : Int)), some (jI 0)] [] 0 0 (jF1 (jF1 (jF1 w f1 x1 y1) f2 x2 y2) f1 (zu ((x1 * y2) + (x2 * y1)) (y1 * y2)) (zv ((x1 * y2) + (x2 * y1)) (y1 * y2))) _
          refine jWp.blk mt 1 ?_
          show jWp 1 151 [some (jO e), some (jO s), some (jI (k : Int)), some (jI 0)] [jI 0] 0 0 (jF1 (jF1 (jF1 w f1 x1 y1) f2 x2 y2) f1 (zu ((x1 * y2) + (x2 * y1)) (y1 * y2)) (zv ((x1 * y2) + (x2 * y1)) (y1 * y2))) _
          refine jWp.iretz mt rfl ⟨rfl, rfl⟩ rfl (Or.inl rfl) ?_
          refine ⟨⟨rfl, fun a g1 g2 gc => ((jF1_f g1).trans ((jF1_f g2).trans ((jF1_f g1).trans rfl)))⟩, Or.inr ⟨rfl, fun h => ?_, ((jF1_f h1c.symm).trans ((jF1_f h2c.symm).trans ((jF1_f h1c.symm).trans rfl)))⟩⟩
          have h := h.2
          first
          | exact absurd ‹zcan q n k›.1 (by assumption)
          | (unfold zxv at h; rw [e1] at h; cases h; done)
          | (unfold zxv at h; rw [e1, e2] at h; cases h; done)
          | (unfold zxv at h; rw [e1, e2] at h; dsimp only at h; rw [if_neg z2] at h; cases h; done)
          | (unfold zxv at h; rw [e1, e2] at h; dsimp only at h; rw [if_pos z2, if_neg z3] at h; cases h; done)
      · have e2' := e2
        show jWp 1 33 [some (jO e), some (jO s), some (jI (k : Int)), none] [jI 0] 0 0 (jF1 (jF1 w f1 x1 y1) f2 x2 y2) _
        refine jWp.ifc (b := false) mt rfl (by decide) rfl ?_
        show jWp 1 36 [some (jO e), some (jO s), some (jI (k : Int)), none] [] 0 0 (jF1 (jF1 w f1 x1 y1) f2 x2 y2) _
        refine jWp.blk mt 1 ?_
        show jWp 1 37 [some (jO e), some (jO s), some (jI (k : Int)), none] [jI 0] 0 0 (jF1 (jF1 w f1 x1 y1) f2 x2 y2) _
        refine jWp.iretz mt rfl ⟨rfl, rfl⟩ rfl (Or.inl rfl) ?_
        refine ⟨⟨rfl, fun a g1 g2 gc => ((jF1_f g2).trans ((jF1_f g1).trans rfl))⟩, Or.inr ⟨rfl, fun h => ?_, ((jF1_f h2c.symm).trans ((jF1_f h1c.symm).trans rfl))⟩⟩
        have h := h.2
        first
        | exact absurd ‹zcan q n k›.1 (by assumption)
        | (unfold zxv at h; rw [e1] at h; cases h; done)
        | (unfold zxv at h; rw [e1, e2] at h; cases h; done)
        | (unfold zxv at h; rw [e1, e2] at h; dsimp only at h; rw [if_neg z2] at h; cases h; done)
        | (unfold zxv at h; rw [e1, e2] at h; dsimp only at h; rw [if_pos z2, if_neg z3] at h; cases h; done)
    · have e1' := e1
      show jWp 1 19 [some (jO e), some (jO s), some (jI (k : Int)), none] [jI 0] 0 0 (jF1 w f1 x1 y1) _
      refine jWp.ifc (b := true) mt rfl (by decide) rfl ?_
      show jWp 1 36 [some (jO e), some (jO s), some (jI (k : Int)), none] [] 0 0 (jF1 w f1 x1 y1) _
      refine jWp.blk mt 1 ?_
      show jWp 1 37 [some (jO e), some (jO s), some (jI (k : Int)), none] [jI 0] 0 0 (jF1 w f1 x1 y1) _
      refine jWp.iretz mt rfl ⟨rfl, rfl⟩ rfl (Or.inl rfl) ?_
      refine ⟨⟨rfl, fun a g1 g2 gc => ((jF1_f g1).trans rfl)⟩, Or.inr ⟨rfl, fun h => ?_, ((jF1_f h1c.symm).trans rfl)⟩⟩
      have h := h.2
      first
      | exact absurd ‹zcan q n k›.1 (by assumption)
      | (unfold zxv at h; rw [e1] at h; cases h; done)
      | (unfold zxv at h; rw [e1, e2] at h; cases h; done)
      | (unfold zxv at h; rw [e1, e2] at h; dsimp only at h; rw [if_neg z2] at h; cases h; done)
      | (unfold zxv at h; rw [e1, e2] at h; dsimp only at h; rw [if_pos z2, if_neg z3] at h; cases h; done)
  · have h1 : ¬ (0 ≤ (k : Int) ∧ (k : Int) < (n : Int)) := h1
    exfalso; omega
