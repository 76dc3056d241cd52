/-- a seed as the class holds it -/
def cz (q : Nat → Int) (n : Nat) : Nat → Int := fun j => if j < 4 then (if j < n then q (21 + j) else 0) else if j < 8 then (if j - 4 < n then q (25 + (j - 4)) else 0) else if j < 24 then q (1 + (j - 8)) else if j < 28 then (if j - 24 < n then q (17 + (j - 24)) else 0) else (if (j - 28) / 4 < n ∧ (j - 28) % 4 < n then q (29 + (j - 28)) else 0)
def cR (g : Prop) (C q : Nat → Int) (n : Nat) : Prop := (∀ j, j < 28 → C j = cz q n j) ∧ (g → ∀ j, 28 ≤ j → j < 44 → C j = cz q n j) ∧ ∀ j, 28 ≤ j → j < 44 → ¬ ((j - 28) / 4 < n ∧ (j - 28) % 4 < n) → C j = 0
theorem cz_u {q : Nat → Int} {n i : Nat} (h4 : n ≤ 4) (hi : i < n) : cz q n i = q (21 + i) := by
  unfold cz
  rw [if_pos (by omega), if_pos hi]
theorem cz_d {q : Nat → Int} {n i : Nat} (h4 : n ≤ 4) (hi : i < n) : cz q n (4 + i) = q (25 + i) := by
  unfold cz
  rw [if_neg (by omega), if_pos (by omega), if_pos (by omega), show 4 + i - 4 = i by omega]
theorem cz_b {q : Nat → Int} {n e : Nat} (he : e < 16) : cz q n (8 + e) = q (1 + e) := by
  unfold cz
  rw [if_neg (by omega), if_neg (by omega), if_pos (by omega), show 8 + e - 8 = e by omega]
theorem cz_s {q : Nat → Int} {n i : Nat} (h4 : n ≤ 4) (hi : i < n) : cz q n (24 + i) = q (17 + i) := by
  unfold cz
  rw [if_neg (by omega), if_neg (by omega), if_neg (by omega), if_pos (by omega), if_pos (by omega), show 24 + i - 24 = i by omega]
theorem cz_g {q : Nat → Int} {n i c : Nat} (h4 : n ≤ 4) (hi : i < n) (hc : c < n) : cz q n (28 + (4 * i + c)) = q (29 + 4 * i + c) := by
  unfold cz
  rw [if_neg (by omega), if_neg (by omega), if_neg (by omega), if_neg (by omega), if_pos (by omega), show 29 + (28 + (4 * i + c) - 28) = 29 + 4 * i + c by omega]
theorem cz_c {S q : Nat → Int} {n : Nat} (h : zeq S q) : ∀ j, j < 44 → cz S n j = cz q n j := by
  intro j hj
  unfold cz
  by_cases h1 : j < 4
  · rw [if_pos h1, if_pos h1, h (21 + j) (by omega)]
  · rw [if_neg h1, if_neg h1]
    by_cases h2 : j < 8
    · rw [if_pos h2, if_pos h2, h (25 + (j - 4)) (by omega)]
    · rw [if_neg h2, if_neg h2]
      by_cases h3 : j < 24
      · rw [if_pos h3, if_pos h3, h (1 + (j - 8)) (by omega)]
      · rw [if_neg h3, if_neg h3]
        by_cases h4 : j < 28
        · rw [if_pos h4, if_pos h4, h (17 + (j - 24)) (by omega)]
        · rw [if_neg h4, if_neg h4, h (29 + (j - 28)) (by omega)]
/-- the seeds of which more is known: what an exchange leaves so -/
def zG (G : (Nat → Int) → Prop) : Prop := (∀ S q, zeq S q → G q → G S) ∧ (∀ q n k, zQ q n → k < n → zcan q n k → G q → G (zxF q n k)) ∧ (∀ q n, zQ q n → G q → ∀ j, 29 ≤ j → j < 45 → -50000000 ≤ q j ∧ q j ≤ 50000000) ∧ (∀ q n, zQ q n → G q → ∃ i c, i < n ∧ c < n ∧ -1 ≤ q (29 + 4 * i + c)) ∧ ∀ q n, zQ q n → G q → ∀ i, i < n → q (25 + i) = 1
theorem cR_c {g : Prop} {C S q : Nat → Int} {n : Nat} (h : zeq S q) (hr : cR g C q n) : cR g C S n :=
  ⟨fun j hj => (hr.1 j hj).trans (cz_c h j (by omega)).symm, fun g j h1 h2 => (hr.2.1 g j h1 h2).trans (cz_c h j (by omega)).symm, hr.2.2⟩
theorem cR_C {g : Prop} {C D q : Nat → Int} {n : Nat} (h : ∀ j, j < 44 → D j = C j) (hr : cR g C q n) : cR g D q n :=
  ⟨fun j hj => (h j (by omega)).trans (hr.1 j hj), fun g j h1 h2 => (h j h2).trans (hr.2.1 g j h1 h2), fun j h1 h2 c => (h j h2).trans (hr.2.2 j h1 h2 c)⟩
theorem zcu_e {C q : Nat → Int} {n k c : Nat} (hb : ∀ i, i < n → C (8 + (4 * i + k)) = q (1 + (4 * i + k))) (hd : ∀ i, i < n → C (28 + (4 * i + c)) = q (29 + 4 * i + c)) : ∀ i, i ≤ n → zcu C k c i = zdu q k c i ∧ zcw C k c i = zdw q k c i
  | 0, _ => ⟨rfl, rfl⟩
  | i + 1, hi => by
    have ih := zcu_e hb hd i (by omega)
    unfold zcu zcw zdu zdw
    rw [ih.1, ih.2, hb i (by omega), hd i (by omega)]
    unfold jmx
    constructor
    · by_cases h : 0 < q (1 + (4 * i + k))
      · rw [if_neg (by omega), if_pos h]
      · rw [if_neg h]
        by_cases h2 : q (1 + (4 * i + k)) < 0
        · rw [if_pos h2, Int.zero_mul]
        · rw [if_neg h2, show q (1 + (4 * i + k)) = 0 by omega, Int.zero_mul]
    · by_cases h : q (1 + (4 * i + k)) < 0
      · rw [if_neg (by omega), if_pos h]
      · rw [if_neg h]
        by_cases h2 : -(q (1 + (4 * i + k))) < 0
        · rw [if_pos h2, Int.zero_mul]
        · rw [if_neg h2, show q (1 + (4 * i + k)) = 0 by omega]
          show _ + (-(0 : Int)) * _ = _
          rw [Int.neg_zero, Int.zero_mul]
theorem zdu_b {q : Nat → Int} {k c : Nat} (hk : k < 4) (hc : c < 4) (hb : ∀ j, j < 16 → -9 ≤ q (1 + j) ∧ q (1 + j) ≤ 9) (hd : ∀ j, 29 ≤ j → j < 45 → -50000000 ≤ q j ∧ q j ≤ 50000000) : ∀ i : Nat, i ≤ 4 → (-(450000000 * (i : Int)) ≤ zdu q k c i ∧ zdu q k c i ≤ 450000000 * (i : Int)) ∧ -(450000000 * (i : Int)) ≤ zdw q k c i ∧ zdw q k c i ≤ 450000000 * (i : Int)
  | 0, _ => by
    unfold zdu zdw
    omega
  | i + 1, hi => by
    have ih := zdu_b hk hc hb hd i (by omega)
    have b := hb (4 * i + k) (by omega)
    have d := hd (29 + 4 * i + c) (by omega) (by omega)
    have p := zmulA (a := 9) (b := 50000000) b d (by decide) (by decide)
    have p2 := zmulA (x := -(q (1 + (4 * i + k)))) (a := 9) (b := 50000000) (by omega) d (by decide) (by decide)
    unfold zdu zdw
    constructor
    · split <;> omega
    · split <;> omega
/-- what a degree becomes is the same in both -/
theorem zcn_e {C q : Nat → Int} {n k c : Nat} (h4 : n ≤ 4) (hk : k < n) (hc : c < n) (hbb : ∀ j, j < 16 → -9 ≤ q (1 + j) ∧ q (1 + j) ≤ 9) (hdd : ∀ j, 29 ≤ j → j < 45 → -50000000 ≤ q j ∧ q j ≤ 50000000) (hb : ∀ i, i < n → C (8 + (4 * i + k)) = q (1 + (4 * i + k))) (hd : ∀ i, i < n → C (28 + (4 * i + c)) = q (29 + 4 * i + c)) : zcn C n k c = zdn q n k c := by
  have e := zcu_e hb hd n (Nat.le_refl n)
  have g := zdu_b (k := k) (c := c) (by omega) (by omega) hbb hdd n h4
  unfold zcn zdn
  rw [e.1, e.2, hd k hk, b32_id (by omega) (by omega), b32_id (by omega) (by omega), b64_id (by omega) (by omega), b64_id (by omega) (by omega)]
  unfold jmx
  by_cases h : zdw q k c n < zdu q k c n
  · rw [if_pos h, if_neg (by omega)]
  · rw [if_neg h]
    by_cases h2 : zdu q k c n < zdw q k c n
    · rw [if_pos h2]
    · rw [if_neg h2, show zdu q k c n = zdw q k c n by omega]
theorem zxt_s {q : Nat → Int} {n k : Nat} (hq : zQ q n) (hk : k < 4) : (∀ i j, i < j → j < n → jabs (zxb (fun e => q (1 + e)) k i j) ≤ 9) ↔ zxt (fun e => q (1 + e)) k := by
  have h4 := hq.S.n4
  have ja : ∀ x : Int, jabs x ≤ 9 ↔ -9 ≤ x ∧ x ≤ 9 := fun x => by unfold jabs; split <;> omega
  constructor
  · intro h e he
    show -9 ≤ zxb (fun e => q (1 + e)) k (e / 4) (e % 4) ∧ zxb (fun e => q (1 + e)) k (e / 4) (e % 4) ≤ 9
    by_cases z : n ≤ e / 4 ∨ n ≤ e % 4
    · rw [zxb_z hq hk (by omega) (by omega) z]
      decide
    · have a := zxb_a (n := n) hq hk (i := e / 4) (j := e % 4) (by omega) (by omega)
      rcases (show e / 4 < e % 4 ∨ e % 4 < e / 4 ∨ e / 4 = e % 4 by omega) with g | g | g
      · exact (ja _).mp (h _ _ g (by omega))
      · have := (ja _).mp (h _ _ g (by omega))
        omega
      · rw [g] at a ⊢
        omega
  · intro h i j hij hj
    have := h (4 * i + j) (by omega)
    rw [zxe_at _ _ _ _ (by omega)] at this
    exact (ja _).mpr this
def jF1 (w : jS) (f : Nat) (u v : Int) : jS := jW (jW w f 0 u) f 1 v
theorem jF1_0 {w : jS} {f : Nat} {u v : Int} : (jF1 w f u v).1 f 0 = u := (jW_k (by decide)).trans jW_s
theorem jF1_1 {w : jS} {f : Nat} {u v : Int} : (jF1 w f u v).1 f 1 = v := jW_s
theorem jF1_f {w : jS} {f a : Nat} {u v : Int} (h : a ≠ f) : (jF1 w f u v).1 a = w.1 a := (jW_f h).trans (jW_f h)
theorem jF1_F {w : jS} {f : Nat} {u v x y : Int} : jF1 (jF1 w f u v) f x y = jF1 w f x y := by
  unfold jF1 jW jup
  refine Prod.ext (funext fun a => funext fun j => ?_) rfl
  dsimp only
  by_cases h1 : a = f ∧ j = 1
  · simp only [if_pos h1]
  · by_cases h0 : a = f ∧ j = 0
    · simp only [if_neg h1, if_pos h0]
    · simp only [if_neg h1, if_neg h0]
set_option maxHeartbeats 4000000 in
set_option maxRecDepth 20000 in
theorem C_multiply {w : jS} {s sc f n k : Nat} {q : Nat → Int} (hks : w.2.1 s = (6, 0)) (hkc : w.2.1 sc = (100, 44)) (hrc : w.2.2.1 s 1 = some sc) (hn0 : w.1 s 0 = (n : Int)) (hn4 : n ≤ 4) (hkf : w.2.1 f = (2, 0)) (hQ : zQ q n) (hR : ∀ j, j < 28 → w.1 sc j = cz q n j) (hk : k < n) {e : Nat} {sg : Int} (hsg : sg = 1 ∨ sg = -1) : jCall 2 [jO e, jO s, jI (k : Int), jI sg, jO f] w (fun v w1 => ∃ x y, w1 = jF1 w f x y ∧ ((v = some (jI 1) ∧ zmk q n k sg = some (x, y) ∧ zsm (x, y)) ∨ (v = some (jI 0) ∧ zmk q n k sg = none))) := by
  have mt : jtb 2 = jT2 := rfl
  have hsc : s ≠ sc := kne hks hkc (by decide)
  have hfs : f ≠ s := kne hkf hks (by decide)
  have hfc : f ≠ sc := kne hkf hkc (by decide)
  show jWp 2 0 [some (jO e), some (jO s), some (jI (k : Int)), some (jI sg), some (jO f), none, none, none] [] 0 0 w _
  refine jWp.blk mt 3 ?_
  show _ ∧ jWp 2 4 [some (jO e), some (jO s), some (jI (k : Int)), some (jI sg), some (jO f), none, none, none] [jJ 1, jJ 1, jO f] 0 0 w _
  refine ⟨rfl, ?_⟩
  refine jWp.callv (as := [jO f, jJ 1, jJ 1]) (rest := []) mt rfl rfl rfl ⟨rfl, jtg hkf⟩ ?_
  refine jCall.mono (E_set hkf (by decide) (by decide)) (fun v9 w9 h9 => ?_)
  rcases h9 with ⟨rfl, h9, h1⟩ | ⟨rfl, h9, h1⟩ <;> subst h9
  · have h1 : zok 1 1 := h1
    rw [show jW (jW w f 0 (zu 1 1)) f 1 (zv 1 1) = jF1 w f (zu 1 1) (zv 1 1) from rfl]
    show jWp 2 7 [some (jO e), some (jO s), some (jI (k : Int)), some (jI sg), some (jO f), none, none, none] [jI 1] 0 0 (jF1 w f (zu 1 1) (zv 1 1)) _
    refine jWp.blk mt 3 ?_
    show jWp 2 11 [some (jO e), some (jO s), some (jI (k : Int)), some (jI sg), some (jO f), some (jI 0), none, none] [] 0 0 (jF1 w f (zu 1 1) (zv 1 1)) _
    have lp2 : ∀ (N : Nat) (i : Nat) (u v : Int) (hi : i ≤ n) (hu : zsm (u, v)) (hT : zml (fun i => q (21 + i)) (fun i => q (25 + i)) (fun i => sg * q (1 + (4 * i + k))) (n - i) i (u, v) = zmk q n k sg), n - i < N → jWp 2 11 [none, some (jO s), some (jI (k : Int)), some (jI sg), some (jO f), some (jI (i : Int)), none, none] [] 0 0 (jF1 w f u v) (fun v w1 => ∃ x y, w1 = jF1 w f x y ∧ ((v = some (jI 1) ∧ zmk q n k sg = some (x, y) ∧ zsm (x, y)) ∨ (v = some (jI 0) ∧ zmk q n k sg = none))) := by
      intro N
      induction N with
      | zero => intro i u v hi hu hT hm; omega
      | succ N ih3 =>
        intro i u v hi hu hT hm
        have hu1 : 1 ≤ u ∧ u ≤ 1000000000 ∧ 1 ≤ v ∧ v ≤ 1000000000 := hu
        have hbb := fun h : i < n => hQ.S.b (4 * i + k) (by omega)
        refine jWp.blk mt 2 ?_
        show _ ∧ jWp 2 14 [none, some (jO s), some (jI (k : Int)), some (jI sg), some (jO f), some (jI (i : Int)), none, none] [jO s, jI (i : Int)] 0 0 (jF1 w f u v) _
        refine ⟨rfl, ?_⟩
        refine jWp.getI (pc' := 17) mt rfl rfl (jtg hks) ?_
        rw [show ((jF1 w f u v).1 s 0) = (n : Int) from ((congrFun (jF1_f (by omega)) _).trans hn0)]
        show jWp 2 17 [none, some (jO s), some (jI (k : Int)), some (jI sg), some (jO f), some (jI (i : Int)), none, none] [jI (n : Int), jI (i : Int)] 0 0 (jF1 w f u v) _
        refine jWp.icmp (pc' := 20) mt rfl rfl (b32_id (by omega) (by omega)) (b32_id (by omega) (by omega)) (fun h4 => ?_) (fun h4 => ?_)
        · have h4 : (n : Int) ≤ (i : Int) := h4
          refine jWp.blk mt 1 ?_
          show jWp 2 90 [none, some (jO s), some (jI (k : Int)), some (jI sg), some (jO f), some (jI (i : Int)), none, none] [jI 1] 0 0 (jF1 w f u v) _
          refine jWp.iretz mt rfl ⟨rfl, rfl⟩ rfl (Or.inr rfl) ?_
          refine ⟨u, v, rfl, Or.inl ⟨rfl, ?_, hu⟩⟩
          rw [← hT, show n - i = 0 by omega]
          rfl
        · have h4 : (i : Int) < (n : Int) := h4
          refine jWp.blk mt 4 ?_
          show _ ∧ jWp 2 25 [none, some (jO s), some (jI (k : Int)), some (jI sg), some (jO f), some (jI (i : Int)), none, none] [jI (k : Int), jI (i : Int), jO s, jI sg] 0 0 (jF1 w f u v) _
          refine ⟨rfl, ?_⟩
          refine jWp.callv (as := [jO s, jI (i : Int), jI (k : Int)]) (rest := [jI sg]) mt rfl rfl rfl ⟨rfl, jtg hks⟩ ?_
          refine jCall.mono ((by have h := E_sb (w := (jF1 w f u v)) (sc := sc) (i := i) (j := k) hks hkc hrc (by omega) (by omega); rw [show (jF1 w f u v).1 sc (8 + (4 * i + k)) = q (1 + (4 * i + k)) from (congrFun (jF1_f hfc.symm) _).trans ((hR _ (by omega)).trans (cz_b (by omega)))] at h; exact h)) (fun v9 w9 h9 => ?_)
          obtain ⟨rfl, h9⟩ := h9
          subst w9
          show jWp 2 28 [none, some (jO s), some (jI (k : Int)), some (jI sg), some (jO f), some (jI (i : Int)), none, none] [jI (q (1 + (4 * i + k))), jI sg] 0 0 (jF1 w f u v) _
          refine jWp.blk mt 4 ?_
          show jWp 2 34 [none, some (jO s), some (jI (k : Int)), some (jI sg), some (jO f), some (jI (i : Int)), some (jI (sg * (q (1 + (4 * i + k))))), some (jI 0)] [] 0 0 (jF1 w f u v) _
          have lp5 : ∀ (N : Nat) (t : Nat) (u v : Int) (ht : t ≤ 9) (hu : zsm (u, v)) (hT : (zmt (q (21 + i)) (q (25 + i)) (sg * q (1 + (4 * i + k)) - (t : Int)).toNat (u, v)).bind (zml (fun i => q (21 + i)) (fun i => q (25 + i)) (fun i => sg * q (1 + (4 * i + k))) (n - (i + 1)) (i + 1)) = zmk q n k sg), 10 - t < N → jWp 2 34 [none, some (jO s), some (jI (k : Int)), some (jI sg), some (jO f), some (jI (i : Int)), some (jI (sg * (q (1 + (4 * i + k))))), some (jI (t : Int))] [] 0 0 (jF1 w f u v) (fun v w1 => ∃ x y, w1 = jF1 w f x y ∧ ((v = some (jI 1) ∧ zmk q n k sg = some (x, y) ∧ zsm (x, y)) ∨ (v = some (jI 0) ∧ zmk q n k sg = none))) := by
            intro N
            induction N with
            | zero => intro t u v ht hu hT hm; omega
            | succ N ih6 =>
              intro t u v ht hu hT hm
              have hi4 : i < n := by omega
              have hbs : -9 ≤ sg * q (1 + (4 * i + k)) ∧ sg * q (1 + (4 * i + k)) ≤ 9 := by have := hbb hi4; rcases hsg with rfl | rfl <;> omega
              have hu1 : 1 ≤ u ∧ u ≤ 1000000000 ∧ 1 ≤ v ∧ v ≤ 1000000000 := hu
              have hvi : 1 ≤ q (21 + i) ∧ q (21 + i) ≤ 1000000000 ∧ 1 ≤ q (25 + i) ∧ q (25 + i) ≤ 1000000000 := hQ.S.v i (by omega)
              have hm1 := zmul_b hu1.1 hu1.2.1 hvi.1 hvi.2.1
              have hm2 := zmul_b hu1.2.2.1 hu1.2.2.2 hvi.2.2.1 hvi.2.2.2
              refine jWp.blk mt 2 ?_
              show jWp 2 38 [none, some (jO s), some (jI (k : Int)), some (jI sg), some (jO f), some (jI (i : Int)), some (jI (sg * (q (1 + (4 * i + k))))), some (jI (t : Int))] [jI (sg * (q (1 + (4 * i + k)))), jI (t : Int)] 0 0 (jF1 w f u v) _
              refine jWp.icmp (pc' := 41) mt rfl rfl (b32_id (by omega) (by omega)) (b32_id (by omega) (by omega)) (fun h7 => ?_) (fun h7 => ?_)
              · have h7 : (sg * (q (1 + (4 * i + k)))) ≤ (t : Int) := h7
                refine jWp.blk mt 2 ?_
                show jWp 2 11 [none, some (jO s), some (jI (k : Int)), some (jI sg), some (jO f), some (jI ((i : Int) + 1)), some (jI (sg * (q (1 + (4 * i + k))))), some (jI (t : Int))] [] 0 0 (jF1 w f u v) _
                refine jWp.le (l := [none, some (jO s), some (jI (k : Int)), some (jI sg), some (jO f), some (jI ((i : Int) + 1)), none, none]) (by exact ⟨rfl, rfl, rfl, rfl, rfl, trivial⟩) ?_
                exact ih3 (i + 1) u v (by omega) hu (by rw [zmt_0 (by omega)] at hT; exact hT) (by omega)
              · have h7 : (t : Int) < (sg * (q (1 + (4 * i + k)))) := h7
                refine jWp.blk mt 2 ?_
                show _ ∧ _ ∧ jWp 2 45 [none, some (jO s), some (jI (k : Int)), some (jI sg), some (jO f), some (jI (i : Int)), some (jI (sg * (q (1 + (4 * i + k))))), some (jI (t : Int))] [jO f, jO f] 0 0 (jF1 w f u v) _
                refine ⟨rfl, rfl, ?_⟩
                refine jWp.getJ (pc' := 48) mt rfl rfl (jtg hkf) ?_
                rw [show ((jF1 w f u v).1 f 0) = u from jF1_0]
                show jWp 2 48 [none, some (jO s), some (jI (k : Int)), some (jI sg), some (jO f), some (jI (i : Int)), some (jI (sg * (q (1 + (4 * i + k))))), some (jI (t : Int))] [jJ u, jO f] 0 0 (jF1 w f u v) _
                refine jWp.blk mt 2 ?_
                show _ ∧ jWp 2 51 [none, some (jO s), some (jI (k : Int)), some (jI sg), some (jO f), some (jI (i : Int)), some (jI (sg * (q (1 + (4 * i + k))))), some (jI (t : Int))] [jI (i : Int), jO s, jJ u, jO f] 0 0 (jF1 w f u v) _
                refine ⟨rfl, ?_⟩
                refine jWp.callv (as := [jO s, jI (i : Int)]) (rest := [jJ u, jO f]) mt rfl rfl rfl ⟨rfl, jtg hks⟩ ?_
                refine jCall.mono ((by have h := E_sa (w := (jF1 w f u v)) (sc := sc) (n := n) (i := i) hks hkc hrc ((congrFun (jF1_f hfs.symm) 0).trans hn0) hn4 (by omega); rw [show (jF1 w f u v).1 sc i = q (21 + i) from (congrFun (jF1_f hfc.symm) _).trans ((hR _ (by omega)).trans (cz_u hn4 (by omega)))] at h; exact h)) (fun v9 w9 h9 => ?_)
                obtain ⟨rfl, h9⟩ := h9
                subst w9
                show jWp 2 54 [none, some (jO s), some (jI (k : Int)), some (jI sg), some (jO f), some (jI (i : Int)), some (jI (sg * (q (1 + (4 * i + k))))), some (jI (t : Int))] [jI (q (21 + i)), jJ u, jO f] 0 0 (jF1 w f u v) _
                refine jWp.i2l (pc' := 55) mt rfl rfl (b32_id (by omega) (by omega)) ?_
                show jWp 2 55 [none, some (jO s), some (jI (k : Int)), some (jI sg), some (jO f), some (jI (i : Int)), some (jI (sg * (q (1 + (4 * i + k))))), some (jI (t : Int))] [jJ (q (21 + i)), jJ u, jO f] 0 0 (jF1 w f u v) _
                refine jWp.blk mt 2 ?_
                show _ ∧ jWp 2 58 [none, some (jO s), some (jI (k : Int)), some (jI sg), some (jO f), some (jI (i : Int)), some (jI (sg * (q (1 + (4 * i + k))))), some (jI (t : Int))] [jO f, jJ (u * (q (21 + i))), jO f] 0 0 (jF1 w f u v) _
                refine ⟨rfl, ?_⟩
                refine jWp.getJ (pc' := 61) mt rfl rfl (jtg hkf) ?_
                rw [show ((jF1 w f u v).1 f 1) = v from jF1_1]
                show jWp 2 61 [none, some (jO s), some (jI (k : Int)), some (jI sg), some (jO f), some (jI (i : Int)), some (jI (sg * (q (1 + (4 * i + k))))), some (jI (t : Int))] [jJ v, jJ (u * (q (21 + i))), jO f] 0 0 (jF1 w f u v) _
                refine jWp.blk mt 2 ?_
                show _ ∧ jWp 2 64 [none, some (jO s), some (jI (k : Int)), some (jI sg), some (jO f), some (jI (i : Int)), some (jI (sg * (q (1 + (4 * i + k))))), some (jI (t : Int))] [jI (i : Int), jO s, jJ v, jJ (u * (q (21 + i))), jO f] 0 0 (jF1 w f u v) _
                refine ⟨rfl, ?_⟩
                refine jWp.callv (as := [jO s, jI (i : Int)]) (rest := [jJ v, jJ (u * (q (21 + i))), jO f]) mt rfl rfl rfl ⟨rfl, jtg hks⟩ ?_
                refine jCall.mono ((by have h := E_su (w := (jF1 w f u v)) (sc := sc) (n := n) (i := i) hks hkc hrc ((congrFun (jF1_f hfs.symm) 0).trans hn0) hn4 (by omega); rw [show (jF1 w f u v).1 sc (4 + i) = q (25 + i) from (congrFun (jF1_f hfc.symm) _).trans ((hR _ (by omega)).trans (cz_d hn4 (by omega)))] at h; exact h)) (fun v9 w9 h9 => ?_)
                obtain ⟨rfl, h9⟩ := h9
                subst w9
                show jWp 2 67 [none, some (jO s), some (jI (k : Int)), some (jI sg), some (jO f), some (jI (i : Int)), some (jI (sg * (q (1 + (4 * i + k))))), some (jI (t : Int))] [jI (q (25 + i)), jJ v, jJ (u * (q (21 + i))), jO f] 0 0 (jF1 w f u v) _
                refine jWp.i2l (pc' := 68) mt rfl rfl (b32_id (by omega) (by omega)) ?_
                show jWp 2 68 [none, some (jO s), some (jI (k : Int)), some (jI sg), some (jO f), some (jI (i : Int)), some (jI (sg * (q (1 + (4 * i + k))))), some (jI (t : Int))] [jJ (q (25 + i)), jJ v, jJ (u * (q (21 + i))), jO f] 0 0 (jF1 w f u v) _
                refine jWp.blk mt 1 ?_
                show jWp 2 69 [none, some (jO s), some (jI (k : Int)), some (jI sg), some (jO f), some (jI (i : Int)), some (jI (sg * (q (1 + (4 * i + k))))), some (jI (t : Int))] [jJ (v * (q (25 + i))), jJ (u * (q (21 + i))), jO f] 0 0 (jF1 w f u v) _
                refine jWp.callv (as := [jO f, jJ (u * (q (21 + i))), jJ (v * (q (25 + i)))]) (rest := []) mt rfl rfl rfl ⟨rfl, jtg hkf⟩ ?_
                refine jCall.mono (E_set hkf (show 0 ≤ (u * (q (21 + i))) ∧ (u * (q (21 + i))) < 9223372036854775808 by omega) (show 0 < (v * (q (25 + i))) ∧ (v * (q (25 + i))) < 9223372036854775808 by omega)) (fun v9 w9 h9 => ?_)
                rcases h9 with ⟨rfl, h9, h8⟩ | ⟨rfl, h9, h8⟩ <;> subst h9
                · have h8 : zok (u * (q (21 + i))) (v * (q (25 + i))) := h8
                  rw [show jW (jW (jF1 w f u v) f 0 (zu (u * (q (21 + i))) (v * (q (25 + i))))) f 1 (zv (u * (q (21 + i))) (v * (q (25 + i)))) = jF1 w f (zu (u * (q (21 + i))) (v * (q (25 + i)))) (zv (u * (q (21 + i))) (v * (q (25 + i)))) from jF1_F]
                  show jWp 2 72 [none, some (jO s), some (jI (k : Int)), some (jI sg), some (jO f), some (jI (i : Int)), some (jI (sg * (q (1 + (4 * i + k))))), some (jI (t : Int))] [jI 1] 0 0 (jF1 w f (zu (u * (q (21 + i))) (v * (q (25 + i)))) (zv (u * (q (21 + i))) (v * (q (25 + i))))) _
                  refine jWp.ifc (b := true) mt rfl (by decide) rfl ?_
                  show jWp 2 77 [none, some (jO s), some (jI (k : Int)), some (jI sg), some (jO f), some (jI (i : Int)), some (jI (sg * (q (1 + (4 * i + k))))), some (jI (t : Int))] [] 0 0 (jF1 w f (zu (u * (q (21 + i))) (v * (q (25 + i)))) (zv (u * (q (21 + i))) (v * (q (25 + i))))) _
                  refine jWp.blk mt 2 ?_
                  show jWp 2 34 [none, some (jO s), some (jI (k : Int)), some (jI sg), some (jO f), some (jI (i : Int)), some (jI (sg * (q (1 + (4 * i + k))))), some (jI ((t : Int) + 1))] [] 0 0 (jF1 w f (zu (u * (q (21 + i))) (v * (q (25 + i)))) (zv (u * (q (21 + i))) (v * (q (25 + i))))) _
                  refine jWp.le (l := [none, some (jO s), some (jI (k : Int)), some (jI sg), some (jO f), some (jI (i : Int)), some (jI (sg * (q (1 + (4 * i + k))))), some (jI ((t : Int) + 1))]) (by exact ⟨rfl, rfl, rfl, rfl, rfl, rfl, rfl, trivial⟩) ?_
                  exact ih6 (t + 1) _ _ (by omega) (zok_sm (by omega) (by omega) h8) (by rw [zmt_s (by omega), if_pos h8, show sg * q (1 + (4 * i + k)) - (t : Int) - 1 = sg * q (1 + (4 * i + k)) - ((t + 1 : Nat) : Int) by omega] at hT; exact hT) (by omega)
                · have h8 : ¬ zok (u * (q (21 + i))) (v * (q (25 + i))) := h8
                  rw [show jW (jW (jF1 w f u v) f 0 (zu (u * (q (21 + i))) (v * (q (25 + i))))) f 1 (zv (u * (q (21 + i))) (v * (q (25 + i)))) = jF1 w f (zu (u * (q (21 + i))) (v * (q (25 + i)))) (zv (u * (q (21 + i))) (v * (q (25 + i)))) from jF1_F]
                  show jWp 2 72 [none, some (jO s), some (jI (k : Int)), some (jI sg), some (jO f), some (jI (i : Int)), some (jI (sg * (q (1 + (4 * i + k))))), some (jI (t : Int))] [jI 0] 0 0 (jF1 w f (zu (u * (q (21 + i))) (v * (q (25 + i)))) (zv (u * (q (21 + i))) (v * (q (25 + i))))) _
                  refine jWp.ifc (b := false) mt rfl (by decide) rfl ?_
                  show jWp 2 75 [none, some (jO s), some (jI (k : Int)), some (jI sg), some (jO f), some (jI (i : Int)), some (jI (sg * (q (1 + (4 * i + k))))), some (jI (t : Int))] [] 0 0 (jF1 w f (zu (u * (q (21 + i))) (v * (q (25 + i)))) (zv (u * (q (21 + i))) (v * (q (25 + i))))) _
                  refine jWp.blk mt 1 ?_
                  show jWp 2 76 [none, some (jO s), some (jI (k : Int)), some (jI sg), some (jO f), some (jI (i : Int)), some (jI (sg * (q (1 + (4 * i + k))))), some (jI (t : Int))] [jI 0] 0 0 (jF1 w f (zu (u * (q (21 + i))) (v * (q (25 + i)))) (zv (u * (q (21 + i))) (v * (q (25 + i))))) _
                  refine jWp.iretz mt rfl ⟨rfl, rfl⟩ rfl (Or.inl rfl) ?_
                  refine ⟨_, _, rfl, Or.inr ⟨rfl, ?_⟩⟩
                  rw [← hT, show (sg * q (1 + (4 * i + k)) - (t : Int)).toNat = (sg * q (1 + (4 * i + k)) - (t : Int)).toNat from rfl, zmt_s (by omega), if_neg h8]
                  rfl
          refine jWp.le (l := [none, some (jO s), some (jI (k : Int)), some (jI sg), some (jO f), some (jI (i : Int)), some (jI (sg * (q (1 + (4 * i + k))))), some (jI 0)]) (by exact ⟨rfl, rfl, rfl, rfl, rfl, rfl, rfl, trivial⟩) ?_
          exact lp5 _ 0 u v (by omega) hu (by rw [zml_s _ _ _ (by omega)] at hT; show (zmt (q (21 + i)) (q (25 + i)) (sg * q (1 + (4 * i + k)) - 0).toNat (u, v)).bind _ = _; rw [Int.sub_zero]; exact hT) (Nat.lt_succ_self _)
    refine jWp.le (l := [none, some (jO s), some (jI (k : Int)), some (jI sg), some (jO f), some (jI 0), none, none]) (by exact ⟨rfl, rfl, rfl, rfl, rfl, trivial⟩) ?_
    exact lp2 _ 0 1 1 (by omega) (by decide) rfl (Nat.lt_succ_self _)
  · have h1 : ¬ zok 1 1 := h1
    rw [show jW (jW w f 0 (zu 1 1)) f 1 (zv 1 1) = jF1 w f (zu 1 1) (zv 1 1) from rfl]
    show jWp 2 7 [some (jO e), some (jO s), some (jI (k : Int)), some (jI sg), some (jO f), none, none, none] [jI 0] 0 0 (jF1 w f (zu 1 1) (zv 1 1)) _
    refine jWp.blk mt 3 ?_
    show jWp 2 11 [some (jO e), some (jO s), some (jI (k : Int)), some (jI sg), some (jO f), some (jI 0), none, none] [] 0 0 (jF1 w f (zu 1 1) (zv 1 1)) _
    have lp9 : ∀ (N : Nat) (i : Nat) (u v : Int) (hi : i ≤ n) (hu : zsm (u, v)) (hT : zml (fun i => q (21 + i)) (fun i => q (25 + i)) (fun i => sg * q (1 + (4 * i + k))) (n - i) i (u, v) = zmk q n k sg), n - i < N → jWp 2 11 [none, some (jO s), some (jI (k : Int)), some (jI sg), some (jO f), some (jI (i : Int)), none, none] [] 0 0 (jF1 w f u v) (fun v w1 => ∃ x y, w1 = jF1 w f x y ∧ ((v = some (jI 1) ∧ zmk q n k sg = some (x, y) ∧ zsm (x, y)) ∨ (v = some (jI 0) ∧ zmk q n k sg = none))) := by
      intro N
      induction N with
      | zero => intro i u v hi hu hT hm; omega
      | succ N ih10 =>
        intro i u v hi hu hT hm
        have hu1 : 1 ≤ u ∧ u ≤ 1000000000 ∧ 1 ≤ v ∧ v ≤ 1000000000 := hu
        have hbb := fun h : i < n => hQ.S.b (4 * i + k) (by omega)
        refine jWp.blk mt 2 ?_
        show _ ∧ jWp 2 14 [none, some (jO s), some (jI (k : Int)), some (jI sg), some (jO f), some (jI (i : Int)), none, none] [jO s, jI (i : Int)] 0 0 (jF1 w f u v) _
        refine ⟨rfl, ?_⟩
        refine jWp.getI (pc' := 17) mt rfl rfl (jtg hks) ?_
        rw [show ((jF1 w f u v).1 s 0) = (n : Int) from ((congrFun (jF1_f (by omega)) _).trans hn0)]
        show jWp 2 17 [none, some (jO s), some (jI (k : Int)), some (jI sg), some (jO f), some (jI (i : Int)), none, none] [jI (n : Int), jI (i : Int)] 0 0 (jF1 w f u v) _
        refine jWp.icmp (pc' := 20) mt rfl rfl (b32_id (by omega) (by omega)) (b32_id (by omega) (by omega)) (fun h11 => ?_) (fun h11 => ?_)
        · have h11 : (n : Int) ≤ (i : Int) := h11
          refine jWp.blk mt 1 ?_
          show jWp 2 90 [none, some (jO s), some (jI (k : Int)), some (jI sg), some (jO f), some (jI (i : Int)), none, none] [jI 1] 0 0 (jF1 w f u v) _
          refine jWp.iretz mt rfl ⟨rfl, rfl⟩ rfl (Or.inr rfl) ?_
          refine ⟨u, v, rfl, Or.inl ⟨rfl, ?_, hu⟩⟩
          rw [← hT, show n - i = 0 by omega]
          rfl
        · have h11 : (i : Int) < (n : Int) := h11
          refine jWp.blk mt 4 ?_
          show _ ∧ jWp 2 25 [none, some (jO s), some (jI (k : Int)), some (jI sg), some (jO f), some (jI (i : Int)), none, none] [jI (k : Int), jI (i : Int), jO s, jI sg] 0 0 (jF1 w f u v) _
          refine ⟨rfl, ?_⟩
          refine jWp.callv (as := [jO s, jI (i : Int), jI (k : Int)]) (rest := [jI sg]) mt rfl rfl rfl ⟨rfl, jtg hks⟩ ?_
          refine jCall.mono ((by have h := E_sb (w := (jF1 w f u v)) (sc := sc) (i := i) (j := k) hks hkc hrc (by omega) (by omega); rw [show (jF1 w f u v).1 sc (8 + (4 * i + k)) = q (1 + (4 * i + k)) from (congrFun (jF1_f hfc.symm) _).trans ((hR _ (by omega)).trans (cz_b (by omega)))] at h; exact h)) (fun v9 w9 h9 => ?_)
          obtain ⟨rfl, h9⟩ := h9
          subst w9
          show jWp 2 28 [none, some (jO s), some (jI (k : Int)), some (jI sg), some (jO f), some (jI (i : Int)), none, none] [jI (q (1 + (4 * i + k))), jI sg] 0 0 (jF1 w f u v) _
          refine jWp.blk mt 4 ?_
          show jWp 2 34 [none, some (jO s), some (jI (k : Int)), some (jI sg), some (jO f), some (jI (i : Int)), some (jI (sg * (q (1 + (4 * i + k))))), some (jI 0)] [] 0 0 (jF1 w f u v) _
          have lp12 : ∀ (N : Nat) (t : Nat) (u v : Int) (ht : t ≤ 9) (hu : zsm (u, v)) (hT : (zmt (q (21 + i)) (q (25 + i)) (sg * q (1 + (4 * i + k)) - (t : Int)).toNat (u, v)).bind (zml (fun i => q (21 + i)) (fun i => q (25 + i)) (fun i => sg * q (1 + (4 * i + k))) (n - (i + 1)) (i + 1)) = zmk q n k sg), 10 - t < N → jWp 2 34 [none, some (jO s), some (jI (k : Int)), some (jI sg), some (jO f), some (jI (i : Int)), some (jI (sg * (q (1 + (4 * i + k))))), some (jI (t : Int))] [] 0 0 (jF1 w f u v) (fun v w1 => ∃ x y, w1 = jF1 w f x y ∧ ((v = some (jI 1) ∧ zmk q n k sg = some (x, y) ∧ zsm (x, y)) ∨ (v = some (jI 0) ∧ zmk q n k sg = none))) := by
            intro N
            induction N with
            | zero => intro t u v ht hu hT hm; omega
            | succ N ih13 =>
              intro t u v ht hu hT hm
              have hi4 : i < n := by omega
              have hbs : -9 ≤ sg * q (1 + (4 * i + k)) ∧ sg * q (1 + (4 * i + k)) ≤ 9 := by have := hbb hi4; rcases hsg with rfl | rfl <;> omega
              have hu1 : 1 ≤ u ∧ u ≤ 1000000000 ∧ 1 ≤ v ∧ v ≤ 1000000000 := hu
              have hvi : 1 ≤ q (21 + i) ∧ q (21 + i) ≤ 1000000000 ∧ 1 ≤ q (25 + i) ∧ q (25 + i) ≤ 1000000000 := hQ.S.v i (by omega)
              have hm1 := zmul_b hu1.1 hu1.2.1 hvi.1 hvi.2.1
              have hm2 := zmul_b hu1.2.2.1 hu1.2.2.2 hvi.2.2.1 hvi.2.2.2
              refine jWp.blk mt 2 ?_
              show jWp 2 38 [none, some (jO s), some (jI (k : Int)), some (jI sg), some (jO f), some (jI (i : Int)), some (jI (sg * (q (1 + (4 * i + k))))), some (jI (t : Int))] [jI (sg * (q (1 + (4 * i + k)))), jI (t : Int)] 0 0 (jF1 w f u v) _
              refine jWp.icmp (pc' := 41) mt rfl rfl (b32_id (by omega) (by omega)) (b32_id (by omega) (by omega)) (fun h14 => ?_) (fun h14 => ?_)
              · have h14 : (sg * (q (1 + (4 * i + k)))) ≤ (t : Int) := h14
                refine jWp.blk mt 2 ?_
                show jWp 2 11 [none, some (jO s), some (jI (k : Int)), some (jI sg), some (jO f), some (jI ((i : Int) + 1)), some (jI (sg * (q (1 + (4 * i + k))))), some (jI (t : Int))] [] 0 0 (jF1 w f u v) _
                refine jWp.le (l := [none, some (jO s), some (jI (k : Int)), some (jI sg), some (jO f), some (jI ((i : Int) + 1)), none, none]) (by exact ⟨rfl, rfl, rfl, rfl, rfl, trivial⟩) ?_
                exact ih10 (i + 1) u v (by omega) hu (by rw [zmt_0 (by omega)] at hT; exact hT) (by omega)
              · have h14 : (t : Int) < (sg * (q (1 + (4 * i + k)))) := h14
                refine jWp.blk mt 2 ?_
                show _ ∧ _ ∧ jWp 2 45 [none, some (jO s), some (jI (k : Int)), some (jI sg), some (jO f), some (jI (i : Int)), some (jI (sg * (q (1 + (4 * i + k))))), some (jI (t : Int))] [jO f, jO f] 0 0 (jF1 w f u v) _
                refine ⟨rfl, rfl, ?_⟩
                refine jWp.getJ (pc' := 48) mt rfl rfl (jtg hkf) ?_
                rw [show ((jF1 w f u v).1 f 0) = u from jF1_0]
                show jWp 2 48 [none, some (jO s), some (jI (k : Int)), some (jI sg), some (jO f), some (jI (i : Int)), some (jI (sg * (q (1 + (4 * i + k))))), some (jI (t : Int))] [jJ u, jO f] 0 0 (jF1 w f u v) _
                refine jWp.blk mt 2 ?_
                show _ ∧ jWp 2 51 [none, some (jO s), some (jI (k : Int)), some (jI sg), some (jO f), some (jI (i : Int)), some (jI (sg * (q (1 + (4 * i + k))))), some (jI (t : Int))] [jI (i : Int), jO s, jJ u, jO f] 0 0 (jF1 w f u v) _
                refine ⟨rfl, ?_⟩
                refine jWp.callv (as := [jO s, jI (i : Int)]) (rest := [jJ u, jO f]) mt rfl rfl rfl ⟨rfl, jtg hks⟩ ?_
                refine jCall.mono ((by have h := E_sa (w := (jF1 w f u v)) (sc := sc) (n := n) (i := i) hks hkc hrc ((congrFun (jF1_f hfs.symm) 0).trans hn0) hn4 (by omega); rw [show (jF1 w f u v).1 sc i = q (21 + i) from (congrFun (jF1_f hfc.symm) _).trans ((hR _ (by omega)).trans (cz_u hn4 (by omega)))] at h; exact h)) (fun v9 w9 h9 => ?_)
                obtain ⟨rfl, h9⟩ := h9
                subst w9
                show jWp 2 54 [none, some (jO s), some (jI (k : Int)), some (jI sg), some (jO f), some (jI (i : Int)), some (jI (sg * (q (1 + (4 * i + k))))), some (jI (t : Int))] [jI (q (21 + i)), jJ u, jO f] 0 0 (jF1 w f u v) _
                refine jWp.i2l (pc' := 55) mt rfl rfl (b32_id (by omega) (by omega)) ?_
                show jWp 2 55 [none, some (jO s), some (jI (k : Int)), some (jI sg), some (jO f), some (jI (i : Int)), some (jI (sg * (q (1 + (4 * i + k))))), some (jI (t : Int))] [jJ (q (21 + i)), jJ u, jO f] 0 0 (jF1 w f u v) _
                refine jWp.blk mt 2 ?_
                show _ ∧ jWp 2 58 [none, some (jO s), some (jI (k : Int)), some (jI sg), some (jO f), some (jI (i : Int)), some (jI (sg * (q (1 + (4 * i + k))))), some (jI (t : Int))] [jO f, jJ (u * (q (21 + i))), jO f] 0 0 (jF1 w f u v) _
                refine ⟨rfl, ?_⟩
                refine jWp.getJ (pc' := 61) mt rfl rfl (jtg hkf) ?_
                rw [show ((jF1 w f u v).1 f 1) = v from jF1_1]
                show jWp 2 61 [none, some (jO s), some (jI (k : Int)), some (jI sg), some (jO f), some (jI (i : Int)), some (jI (sg * (q (1 + (4 * i + k))))), some (jI (t : Int))] [jJ v, jJ (u * (q (21 + i))), jO f] 0 0 (jF1 w f u v) _
                refine jWp.blk mt 2 ?_
                show _ ∧ jWp 2 64 [none, some (jO s), some (jI (k : Int)), some (jI sg), some (jO f), some (jI (i : Int)), some (jI (sg * (q (1 + (4 * i + k))))), some (jI (t : Int))] [jI (i : Int), jO s, jJ v, jJ (u * (q (21 + i))), jO f] 0 0 (jF1 w f u v) _
                refine ⟨rfl, ?_⟩
                refine jWp.callv (as := [jO s, jI (i : Int)]) (rest := [jJ v, jJ (u * (q (21 + i))), jO f]) mt rfl rfl rfl ⟨rfl, jtg hks⟩ ?_
                refine jCall.mono ((by have h := E_su (w := (jF1 w f u v)) (sc := sc) (n := n) (i := i) hks hkc hrc ((congrFun (jF1_f hfs.symm) 0).trans hn0) hn4 (by omega); rw [show (jF1 w f u v).1 sc (4 + i) = q (25 + i) from (congrFun (jF1_f hfc.symm) _).trans ((hR _ (by omega)).trans (cz_d hn4 (by omega)))] at h; exact h)) (fun v9 w9 h9 => ?_)
                obtain ⟨rfl, h9⟩ := h9
                subst w9
                show jWp 2 67 [none, some (jO s), some (jI (k : Int)), some (jI sg), some (jO f), some (jI (i : Int)), some (jI (sg * (q (1 + (4 * i + k))))), some (jI (t : Int))] [jI (q (25 + i)), jJ v, jJ (u * (q (21 + i))), jO f] 0 0 (jF1 w f u v) _
                refine jWp.i2l (pc' := 68) mt rfl rfl (b32_id (by omega) (by omega)) ?_
                show jWp 2 68 [none, some (jO s), some (jI (k : Int)), some (jI sg), some (jO f), some (jI (i : Int)), some (jI (sg * (q (1 + (4 * i + k))))), some (jI (t : Int))] [jJ (q (25 + i)), jJ v, jJ (u * (q (21 + i))), jO f] 0 0 (jF1 w f u v) _
                refine jWp.blk mt 1 ?_
                show jWp 2 69 [none, some (jO s), some (jI (k : Int)), some (jI sg), some (jO f), some (jI (i : Int)), some (jI (sg * (q (1 + (4 * i + k))))), some (jI (t : Int))] [jJ (v * (q (25 + i))), jJ (u * (q (21 + i))), jO f] 0 0 (jF1 w f u v) _
                refine jWp.callv (as := [jO f, jJ (u * (q (21 + i))), jJ (v * (q (25 + i)))]) (rest := []) mt rfl rfl rfl ⟨rfl, jtg hkf⟩ ?_
                refine jCall.mono (E_set hkf (show 0 ≤ (u * (q (21 + i))) ∧ (u * (q (21 + i))) < 9223372036854775808 by omega) (show 0 < (v * (q (25 + i))) ∧ (v * (q (25 + i))) < 9223372036854775808 by omega)) (fun v9 w9 h9 => ?_)
                rcases h9 with ⟨rfl, h9, h15⟩ | ⟨rfl, h9, h15⟩ <;> subst h9
                · have h15 : zok (u * (q (21 + i))) (v * (q (25 + i))) := h15
                  rw [show jW (jW (jF1 w f u v) f 0 (zu (u * (q (21 + i))) (v * (q (25 + i))))) f 1 (zv (u * (q (21 + i))) (v * (q (25 + i)))) = jF1 w f (zu (u * (q (21 + i))) (v * (q (25 + i)))) (zv (u * (q (21 + i))) (v * (q (25 + i)))) from jF1_F]
                  show jWp 2 72 [none, some (jO s), some (jI (k : Int)), some (jI sg), some (jO f), some (jI (i : Int)), some (jI (sg * (q (1 + (4 * i + k))))), some (jI (t : Int))] [jI 1] 0 0 (jF1 w f (zu (u * (q (21 + i))) (v * (q (25 + i)))) (zv (u * (q (21 + i))) (v * (q (25 + i))))) _
                  refine jWp.ifc (b := true) mt rfl (by decide) rfl ?_
                  show jWp 2 77 [none, some (jO s), some (jI (k : Int)), some (jI sg), some (jO f), some (jI (i : Int)), some (jI (sg * (q (1 + (4 * i + k))))), some (jI (t : Int))] [] 0 0 (jF1 w f (zu (u * (q (21 + i))) (v * (q (25 + i)))) (zv (u * (q (21 + i))) (v * (q (25 + i))))) _
                  refine jWp.blk mt 2 ?_
                  show jWp 2 34 [none, some (jO s), some (jI (k : Int)), some (jI sg), some (jO f), some (jI (i : Int)), some (jI (sg * (q (1 + (4 * i + k))))), some (jI ((t : Int) + 1))] [] 0 0 (jF1 w f (zu (u * (q (21 + i))) (v * (q (25 + i)))) (zv (u * (q (21 + i))) (v * (q (25 + i))))) _
                  refine jWp.le (l := [none, some (jO s), some (jI (k : Int)), some (jI sg), some (jO f), some (jI (i : Int)), some (jI (sg * (q (1 + (4 * i + k))))), some (jI ((t : Int) + 1))]) (by exact ⟨rfl, rfl, rfl, rfl, rfl, rfl, rfl, trivial⟩) ?_
                  exact ih13 (t + 1) _ _ (by omega) (zok_sm (by omega) (by omega) h15) (by rw [zmt_s (by omega), if_pos h15, show sg * q (1 + (4 * i + k)) - (t : Int) - 1 = sg * q (1 + (4 * i + k)) - ((t + 1 : Nat) : Int) by omega] at hT; exact hT) (by omega)
                · have h15 : ¬ zok (u * (q (21 + i))) (v * (q (25 + i))) := h15
                  rw [show jW (jW (jF1 w f u v) f 0 (zu (u * (q (21 + i))) (v * (q (25 + i))))) f 1 (zv (u * (q (21 + i))) (v * (q (25 + i)))) = jF1 w f (zu (u * (q (21 + i))) (v * (q (25 + i)))) (zv (u * (q (21 + i))) (v * (q (25 + i)))) from jF1_F]
                  show jWp 2 72 [none, some (jO s), some (jI (k : Int)), some (jI sg), some (jO f), some (jI (i : Int)), some (jI (sg * (q (1 + (4 * i + k))))), some (jI (t : Int))] [jI 0] 0 0 (jF1 w f (zu (u * (q (21 + i))) (v * (q (25 + i)))) (zv (u * (q (21 + i))) (v * (q (25 + i))))) _
                  refine jWp.ifc (b := false) mt rfl (by decide) rfl ?_
                  show jWp 2 75 [none, some (jO s), some (jI (k : Int)), some (jI sg), some (jO f), some (jI (i : Int)), some (jI (sg * (q (1 + (4 * i + k))))), some (jI (t : Int))] [] 0 0 (jF1 w f (zu (u * (q (21 + i))) (v * (q (25 + i)))) (zv (u * (q (21 + i))) (v * (q (25 + i))))) _
                  refine jWp.blk mt 1 ?_
                  show jWp 2 76 [none, some (jO s), some (jI (k : Int)), some (jI sg), some (jO f), some (jI (i : Int)), some (jI (sg * (q (1 + (4 * i + k))))), some (jI (t : Int))] [jI 0] 0 0 (jF1 w f (zu (u * (q (21 + i))) (v * (q (25 + i)))) (zv (u * (q (21 + i))) (v * (q (25 + i))))) _
                  refine jWp.iretz mt rfl ⟨rfl, rfl⟩ rfl (Or.inl rfl) ?_
                  refine ⟨_, _, rfl, Or.inr ⟨rfl, ?_⟩⟩
                  rw [← hT, show (sg * q (1 + (4 * i + k)) - (t : Int)).toNat = (sg * q (1 + (4 * i + k)) - (t : Int)).toNat from rfl, zmt_s (by omega), if_neg h15]
                  rfl
          refine jWp.le (l := [none, some (jO s), some (jI (k : Int)), some (jI sg), some (jO f), some (jI (i : Int)), some (jI (sg * (q (1 + (4 * i + k))))), some (jI 0)]) (by exact ⟨rfl, rfl, rfl, rfl, rfl, rfl, rfl, trivial⟩) ?_
          exact lp12 _ 0 u v (by omega) hu (by rw [zml_s _ _ _ (by omega)] at hT; show (zmt (q (21 + i)) (q (25 + i)) (sg * q (1 + (4 * i + k)) - 0).toNat (u, v)).bind _ = _; rw [Int.sub_zero]; exact hT) (Nat.lt_succ_self _)
    refine jWp.le (l := [none, some (jO s), some (jI (k : Int)), some (jI sg), some (jO f), some (jI 0), none, none]) (by exact ⟨rfl, rfl, rfl, rfl, rfl, trivial⟩) ?_
    exact lp9 _ 0 1 1 (by omega) (by decide) rfl (Nat.lt_succ_self _)
