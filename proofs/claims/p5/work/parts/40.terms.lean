/-- a row's numbers, so many of them: its starts, then each by its law -/
def zGr (law f : Int) (s t : Nat → Int) (len : Nat) : Prop := (zO law).toNat ≤ len ∧ len ≤ 60 ∧ (∀ y, y < (zO law).toNat → t y = s y) ∧ ∀ n, (zO law).toNat ≤ n → n < len → t n = Int.tdiv (zP law f t n) (zD law t n) ∧ Int.tmod (zP law f t n) (zD law t n) = 0 ∧ -100000000 ≤ t n ∧ t n ≤ 100000000
/-- why it ends there -/
def zEn (law f : Int) (t : Nat → Int) (len : Nat) (why left : Int) : Prop :=
  (why = 0 ∧ len = 60 ∧ left = 0) ∨ (why = 1 ∧ len < 60 ∧ Int.tmod (zP law f t len) (zD law t len) ≠ 0 ∧ left = Int.tmod (zP law f t len) (zD law t len)) ∨
  (why = 2 ∧ len < 60 ∧ Int.tmod (zP law f t len) (zD law t len) = 0 ∧ ¬ (-100000000 ≤ Int.tdiv (zP law f t len) (zD law t len) ∧ Int.tdiv (zP law f t len) (zD law t len) ≤ 100000000) ∧ left = 0)
theorem zPD_c {law f : Int} {t t' : Nat → Int} {n : Nat} (h0 : 0 ≤ law) (h6 : law ≤ 6) (hn : (zO law).toNat ≤ n) (h : ∀ j, j < n → t j = t' j) : zP law f t n = zP law f t' n ∧ zD law t n = zD law t' n := by
  have hb := zO_b h0 h6
  have hq := zO_q hn
  constructor
  · unfold zP
    rcases (show law = 0 ∨ law = 1 ∨ law = 2 ∨ law = 3 ∨ law = 4 ∨ law = 5 ∨ law = 6 by omega) with rfl | rfl | rfl | rfl | rfl | rfl | rfl
    · rw [if_pos rfl, if_pos rfl, h (n - 1) (by omega), h (n - 2) (by omega)]
    · simp only [Int.reduceEq, if_false, if_true, reduceIte]
      rw [h (n - 1) (by omega)]
    · simp only [Int.reduceEq, if_false, if_true, reduceIte]
      rw [h (n - 1) (by omega), h (n - 2) (by omega)]
    · simp only [Int.reduceEq, if_false, if_true, reduceIte]
      rw [h (n - 1) (by omega), h (n - 2) (by omega), h (n - 3) (by omega)]
    · simp only [Int.reduceEq, if_false, if_true, reduceIte]
      rw [h (n - 1) (by omega), h (n - 2) (by omega), h (n - 3) (by omega), h (n - 4) (by omega)]
    · simp only [Int.reduceEq, if_false, if_true, reduceIte]
      rw [h (n - 1) (by omega), h (n - 2) (by omega), h (n - 3) (by omega), h (n - 4) (by omega), h (n - 5) (by omega)]
    · simp only [Int.reduceEq, if_false, if_true, reduceIte]
      rw [h (n - 1) (by omega), h (n - 2) (by omega), h (n - 3) (by omega), h (n - 4) (by omega), h (n - 5) (by omega), h (n - 6) (by omega), h (n - 7) (by omega)]
  · unfold zD
    rw [h (n - (zO law).toNat) (by omega)]
theorem zmul1 {x y : Int} (hx : 1 ≤ x) (hy : 1 ≤ y) : 1 ≤ x * y := by
  have := Int.mul_le_mul hx hy (by decide) (by omega)
  omega
theorem zmulA {x y a b : Int} (hx : -a ≤ x ∧ x ≤ a) (hy : -b ≤ y ∧ y ≤ b) (ha : 0 ≤ a) (hb : 0 ≤ b) : -(a * b) ≤ x * y ∧ x * y ≤ a * b := by
  have h : (x * y).natAbs ≤ (a * b).natAbs := by rw [Int.natAbs_mul, Int.natAbs_mul]; exact Nat.mul_le_mul (by omega) (by omega)
  have h2 := Int.mul_nonneg ha hb
  omega
theorem zm8 {x y : Int} (hx : -100000000 ≤ x ∧ x ≤ 100000000) (hy : -100000000 ≤ y ∧ y ≤ 100000000) : -10000000000000000 ≤ x * y ∧ x * y ≤ 10000000000000000 := zmulA hx hy (by decide) (by decide)
theorem zm9 {f x : Int} (hf : 0 ≤ f ∧ f ≤ 9) (hx : -10000000000000000 ≤ x ∧ x ≤ 10000000000000000) : -90000000000000000 ≤ f * x ∧ f * x ≤ 90000000000000000 := zmulA (a := 9) (b := 10000000000000000) (by omega) hx (by decide) (by decide)
theorem zm98 {f x : Int} (hf : 0 ≤ f ∧ f ≤ 9) (hx : -100000000 ≤ x ∧ x ≤ 100000000) : -900000000 ≤ f * x ∧ f * x ≤ 900000000 := zmulA (a := 9) (b := 100000000) (by omega) hx (by decide) (by decide)
theorem zP_b {law f : Int} {t : Nat → Int} {n : Nat} (h0 : 0 ≤ law) (h6 : law ≤ 6) (hf : 0 ≤ f ∧ f ≤ 9) (hn : (zO law).toNat ≤ n) (h : ∀ j, j < n → -100000000 ≤ t j ∧ t j ≤ 100000000) : -200000000000000000 ≤ zP law f t n ∧ zP law f t n ≤ 200000000000000000 := by
  have hq := zO_q hn
  have hb := zO_b h0 h6
  unfold zP
  rcases (show law = 0 ∨ law = 1 ∨ law = 2 ∨ law = 3 ∨ law = 4 ∨ law = 5 ∨ law = 6 by omega) with rfl | rfl | rfl | rfl | rfl | rfl | rfl
  · rw [if_pos rfl]
    have a1 := zm98 hf (h (n - 1) (by omega))
    have a2 := h (n - 2) (by omega)
    omega
  · simp only [Int.reduceEq, if_false, if_true, reduceIte]
    have a1 := zm8 (h (n - 1) (by omega)) (h (n - 1) (by omega))
    omega
  · simp only [Int.reduceEq, if_false, if_true, reduceIte]
    have a1 := zm8 (h (n - 1) (by omega)) (h (n - 2) (by omega))
    omega
  · simp only [Int.reduceEq, if_false, if_true, reduceIte]
    have a1 := zm8 (h (n - 1) (by omega)) (h (n - 3) (by omega))
    have a2 := zm9 hf (zm8 (h (n - 2) (by omega)) (h (n - 2) (by omega)))
    rw [Int.mul_assoc]
    omega
  · simp only [Int.reduceEq, if_false, if_true, reduceIte]
    have a1 := zm8 (h (n - 1) (by omega)) (h (n - 4) (by omega))
    have a2 := zm9 hf (zm8 (h (n - 2) (by omega)) (h (n - 3) (by omega)))
    rw [Int.mul_assoc]
    omega
  · simp only [Int.reduceEq, if_false, if_true, reduceIte]
    have a1 := zm8 (h (n - 1) (by omega)) (h (n - 5) (by omega))
    have a2 := zm9 hf (zm8 (h (n - 2) (by omega)) (h (n - 4) (by omega)))
    have a3 := zm8 (h (n - 3) (by omega)) (h (n - 3) (by omega))
    rw [Int.mul_assoc f]
    omega
  · simp only [Int.reduceEq, if_false, if_true, reduceIte]
    have a1 := zm8 (h (n - 1) (by omega)) (h (n - 7) (by omega))
    have a2 := zm8 (h (n - 2) (by omega)) (h (n - 6) (by omega))
    have a3 := zm9 hf (zm8 (h (n - 3) (by omega)) (h (n - 5) (by omega)))
    have a4 := zm8 (h (n - 4) (by omega)) (h (n - 4) (by omega))
    rw [Int.mul_assoc f]
    omega
theorem zP_p {law f : Int} {t : Nat → Int} {n : Nat} (h1 : 1 ≤ law) (h6 : law ≤ 6) (hf : 0 ≤ f) (hn : (zO law).toNat ≤ n) (h : ∀ j, j < n → 1 ≤ t j) : 1 ≤ zP law f t n ∧ 1 ≤ zD law t n := by
  have hq := zO_q hn
  have hb := zO_b (law := law) (by omega) h6
  constructor
  · unfold zP
    have m : ∀ a b, a < n → b < n → 1 ≤ t a * t b := fun a b ha hb => zmul1 (h a ha) (h b hb)
    have mf : ∀ a b, a < n → b < n → 0 ≤ f * (t a * t b) := fun a b ha hb => Int.mul_nonneg hf (by have := m a b ha hb; omega)
    rcases (show law = 1 ∨ law = 2 ∨ law = 3 ∨ law = 4 ∨ law = 5 ∨ law = 6 by omega) with rfl | rfl | rfl | rfl | rfl | rfl
    · simp only [Int.reduceEq, if_false, if_true, reduceIte]
      have a1 := m (n - 1) (n - 1) (by omega) (by omega)
      omega
    · simp only [Int.reduceEq, if_false, if_true, reduceIte]
      have a1 := m (n - 1) (n - 2) (by omega) (by omega)
      omega
    · simp only [Int.reduceEq, if_false, if_true, reduceIte]
      have a1 := m (n - 1) (n - 3) (by omega) (by omega)
      have a2 := mf (n - 2) (n - 2) (by omega) (by omega)
      rw [Int.mul_assoc]
      omega
    · simp only [Int.reduceEq, if_false, if_true, reduceIte]
      have a1 := m (n - 1) (n - 4) (by omega) (by omega)
      have a2 := mf (n - 2) (n - 3) (by omega) (by omega)
      rw [Int.mul_assoc]
      omega
    · simp only [Int.reduceEq, if_false, if_true, reduceIte]
      have a1 := m (n - 1) (n - 5) (by omega) (by omega)
      have a2 := mf (n - 2) (n - 4) (by omega) (by omega)
      have a3 := m (n - 3) (n - 3) (by omega) (by omega)
      rw [Int.mul_assoc f]
      omega
    · simp only [Int.reduceEq, if_false, if_true, reduceIte]
      have a1 := m (n - 1) (n - 7) (by omega) (by omega)
      have a2 := m (n - 2) (n - 6) (by omega) (by omega)
      have a3 := mf (n - 3) (n - 5) (by omega) (by omega)
      have a4 := m (n - 4) (n - 4) (by omega) (by omega)
      rw [Int.mul_assoc f]
      omega
  · unfold zD
    rw [if_neg (by omega)]
    exact h _ (by omega)
/-- all numbers of a row are small; and none below 1, if its law isn't the first -/
theorem zGr_b {law f : Int} {s t : Nat → Int} {len : Nat} (h0 : 0 ≤ law) (h6 : law ≤ 6) (hs : ∀ y, y < 8 → 1 ≤ s y ∧ s y ≤ 9) (h : zGr law f s t len) : ∀ j, j < len → -100000000 ≤ t j ∧ t j ≤ 100000000 := by
  intro j hj
  have hb := zO_b h0 h6
  rcases Nat.lt_or_ge j (zO law).toNat with e | e
  · rw [h.2.2.1 j e]
    have := hs j (by omega)
    omega
  · exact (h.2.2.2 j e hj).2.2
theorem zGr_p {law f : Int} {s t : Nat → Int} {len : Nat} (h1 : 1 ≤ law) (h6 : law ≤ 6) (hf : 0 ≤ f) (hs : ∀ y, y < 8 → 1 ≤ s y ∧ s y ≤ 9) (h : zGr law f s t len) : ∀ N j, j < N → j < len → 1 ≤ t j := by
  have hb := zO_b (law := law) (by omega) h6
  intro N
  induction N with
  | zero => intro j hj; omega
  | succ N ih =>
    intro j hj hl
    rcases Nat.lt_or_ge j (zO law).toNat with e | e
    · rw [h.2.2.1 j e]
      exact (hs j (by omega)).1
    · have g := h.2.2.2 j e hl
      have p := zP_p (f := f) (n := j) (t := t) h1 h6 hf e (fun x hx => ih x (by omega) (by omega))
      have d := Int.mul_tdiv_add_tmod (zP law f t j) (zD law t j)
      rw [g.2.1, ← g.1, Int.add_zero] at d
      rcases (show t j < 1 ∨ 1 ≤ t j by omega) with c | c
      · exfalso
        have : zD law t j * t j ≤ 0 := Int.mul_nonpos_of_nonneg_of_nonpos (by omega) (by omega)
        omega
      · exact c
theorem zGr_s {law f : Int} {s t : Nat → Int} {len : Nat} (h0 : 0 ≤ law) (h6 : law ≤ 6) (hf : 0 ≤ f ∧ f ≤ 9) (hs : ∀ y, y < 8 → 1 ≤ s y ∧ s y ≤ 9) (h : zGr law f s t len) : (-200000000000000000 ≤ zP law f t len ∧ zP law f t len ≤ 200000000000000000) ∧ 1 ≤ zD law t len ∧ zD law t len ≤ 100000000 := by
  have hb := zGr_b h0 h6 hs h
  have ho := zO_b h0 h6
  refine ⟨zP_b h0 h6 hf h.1 hb, ?_⟩
  by_cases e : law = 0
  · unfold zD
    rw [if_pos e]
    decide
  · have p := zP_p (t := t) (n := len) (by omega : 1 ≤ law) h6 hf.1 h.1 (fun j hj => zGr_p (by omega) h6 hf.1 hs h (j + 1) j (by omega) hj)
    refine ⟨p.2, ?_⟩
    unfold zD
    rw [if_neg e]
    exact (hb _ (by have := h.1; omega)).2
/-- one more -/
theorem zGr_n {law f : Int} {s t t' : Nat → Int} {len : Nat} (h0 : 0 ≤ law) (h6 : law ≤ 6) (h : zGr law f s t len) (hl : len < 60) (hm : Int.tmod (zP law f t len) (zD law t len) = 0) (hq : -100000000 ≤ Int.tdiv (zP law f t len) (zD law t len) ∧ Int.tdiv (zP law f t len) (zD law t len) ≤ 100000000) (ht : t' len = Int.tdiv (zP law f t len) (zD law t len)) (ho : ∀ j, j < len → t' j = t j) : zGr law f s t' (len + 1) := by
  refine ⟨by have := h.1; omega, by omega, fun y hy => by rw [ho y (by have := h.1; omega)]; exact h.2.2.1 y hy, fun n hn hl2 => ?_⟩
  have c := zPD_c (f := f) (t := t') (t' := t) (n := n) h0 h6 hn (fun j hj => ho j (by omega))
  rw [c.1, c.2]
  rcases Nat.lt_or_ge n len with e | e
  · rw [ho n e]
    exact h.2.2.2 n hn e
  · rw [show n = len by omega, ht]
    exact ⟨rfl, hm, hq⟩
/-- a row has one face -/
theorem zGr_u {law f : Int} {s t t' : Nat → Int} {len len' : Nat} {why why' left left' : Int} (h0 : 0 ≤ law) (h6 : law ≤ 6) (h : zGr law f s t len) (e : zEn law f t len why left) (h' : zGr law f s t' len') (e' : zEn law f t' len' why' left') : len = len' ∧ why = why' ∧ left = left' ∧ ∀ j, j < len → t j = t' j := by
  have ag : ∀ N j, j < N → j < len → j < len' → t j = t' j := by
    intro N
    induction N with
    | zero => intro j hj; omega
    | succ N ih =>
      intro j hj hl hl'
      rcases Nat.lt_or_ge j (zO law).toNat with c | c
      · rw [h.2.2.1 j c, h'.2.2.1 j c]
      · have p := zPD_c (f := f) (t := t) (t' := t') (n := j) h0 h6 c (fun x hx => ih x (by omega) (by omega) (by omega))
        rw [(h.2.2.2 j c hl).1, (h'.2.2.2 j c hl').1, p.1, p.2]
  have stop : ∀ {t t' : Nat → Int} {len len' : Nat} {why left : Int}, zGr law f s t len → zEn law f t len why left → zGr law f s t' len' → (∀ j, j < len → j < len' → t j = t' j) → ¬ len < len' := by
    intro t t' len len' why left h e h' ag hlt
    have p := zPD_c (f := f) (t := t) (t' := t') (n := len) h0 h6 h.1 (fun x hx => ag x hx (by omega))
    have g := h'.2.2.2 len h.1 hlt
    rw [← p.1, ← p.2] at g
    rcases e with ⟨-, e, -⟩ | ⟨-, -, e, -⟩ | ⟨-, -, -, e, -⟩
    · have := h'.2.1
      omega
    · exact e g.2.1
    · rw [← g.1] at e
      exact e g.2.2
  have l1 := stop h e h' (fun j a b => ag (j + 1) j (by omega) a b)
  have l2 := stop h' e' h (fun j a b => (ag (j + 1) j (by omega) b a).symm)
  have l : len = len' := by omega
  subst l
  have p := zPD_c (f := f) (t := t) (t' := t') (n := len) h0 h6 h.1 (fun x hx => ag (x + 1) x (by omega) hx hx)
  refine ⟨rfl, ?_, ?_, fun j hj => ag (j + 1) j (by omega) hj hj⟩
  · unfold zEn at e e'
    rw [← p.1, ← p.2] at e'
    rcases e with ⟨e1, e2, e3⟩ | ⟨e1, e2, e3, e4⟩ | ⟨e1, e2, e3, e4, e5⟩ <;> rcases e' with ⟨g1, g2, g3⟩ | ⟨g1, g2, g3, g4⟩ | ⟨g1, g2, g3, g4, g5⟩ <;> first | omega | exact absurd e3 g3 | exact absurd g3 e3
  · unfold zEn at e e'
    rw [← p.1, ← p.2] at e'
    rcases e with ⟨e1, e2, e3⟩ | ⟨e1, e2, e3, e4⟩ | ⟨e1, e2, e3, e4, e5⟩ <;> rcases e' with ⟨g1, g2, g3⟩ | ⟨g1, g2, g3, g4⟩ | ⟨g1, g2, g3, g4, g5⟩ <;> first | omega | exact absurd e3 g3 | exact absurd g3 e3
/-- what is worked with to make a row's numbers -/
def ztr (w : jS) (m : Nat) (w1 : jS) : Prop := w1.2 = w.2 ∧ (∀ a, a ≠ m → a ≠ m + 4 → w1.1 a = w.1 a) ∧ ∀ j, j < 4 ∨ 7 < j → w1.1 m j = w.1 m j
theorem ztr_q {w w1 : jS} {m : Nat} (h : ztr w m w1) : mq w m w1 := ⟨h.1, fun a ha => h.2.1 a (by omega) (by omega), h.2.2 15 (by omega), h.2.2 24 (by omega), h.2.2 31 (by omega)⟩
/-- a number divided by one above 0: what stands in the longs -/
theorem zdm {p d : Int} (hp : -200000000000000000 ≤ p ∧ p ≤ 200000000000000000) (hd : 1 ≤ d ∧ d ≤ 100000000) : (-100000000 ≤ Int.tmod p d ∧ Int.tmod p d ≤ 100000000) ∧ -200000000000000000 ≤ Int.tdiv p d ∧ Int.tdiv p d ≤ 200000000000000000 := by
  have h1 : (Int.tmod p d).natAbs = p.natAbs % d.natAbs := Int.natAbs_tmod _ _
  have h2 : (Int.tdiv p d).natAbs = p.natAbs / d.natAbs := Int.natAbs_tdiv _ _
  have h3 : p.natAbs % d.natAbs < d.natAbs := Nat.mod_lt _ (by omega)
  have h4 : p.natAbs / d.natAbs ≤ p.natAbs := Nat.div_le_self _ _
  omega
set_option maxHeartbeats 4000000 in
set_option maxRecDepth 20000 in
theorem E_terms {w : jS} {m : Nat} (hW : MW w.2 m) {x : Nat} {law f : Int} (hx : x < 4) (hlaw : w.1 (m + 2) (1 + 10 * x) = law) (hfig : w.1 (m + 2) (2 + 10 * x) = f) (hl0 : 0 ≤ law) (hl6 : law ≤ 6) (hf : 0 ≤ f ∧ f ≤ 9) (hs : ∀ y, y < 8 → 1 ≤ w.1 (m + 2) (3 + 10 * x + y) ∧ w.1 (m + 2) (3 + 10 * x + y) ≤ 9) : jCall 146 [jO m, jI (x : Int)] w (fun v w1 => v = none ∧ ztr w m w1 ∧ ∃ (len : Nat) (why left : Int), w1.1 m 4 = (len : Int) ∧ w1.1 m 5 = why ∧ w1.1 m 6 = left ∧ zGr law f (fun y => w.1 (m + 2) (3 + 10 * x + y)) (w1.1 (m + 4)) len ∧ zEn law f (w1.1 (m + 4)) len why left) := by
  have mt : jtb 146 = jT146 := rfl
  have hob := zO_b hl0 hl6
  show jWp 146 0 [some (jO m), some (jI (x : Int)), none, none, none] [] 0 0 w _
  refine jWp.blk mt 2 ?_
  show _ ∧ jWp 146 2 [some (jO m), some (jI (x : Int)), none, none, none] [jI (x : Int), jO m] 0 0 w _
  refine ⟨rfl, ?_⟩
  refine jWp.callv (as := [jO m, jI (x : Int)]) (rest := []) mt rfl rfl rfl ⟨rfl, jtg hW.K0⟩ ?_
  refine jCall.mono ((by have h := E_law (w := w) (x := x) hW hx; rw [hlaw] at h; exact h)) (fun v9 w9 h9 => ?_)
  obtain ⟨rfl, h9⟩ := h9
  subst w9
  show jWp 146 5 [some (jO m), some (jI (x : Int)), none, none, none] [jI law] 0 0 w _
  refine jWp.blk mt 3 ?_
  show _ ∧ jWp 146 8 [some (jO m), some (jI (x : Int)), some (jI law), none, none] [jI law, jO m] 0 0 w _
  refine ⟨rfl, ?_⟩
  refine jWp.calls (as := [jI law]) (rest := [jO m]) mt rfl rfl rfl rfl ?_
  refine jCall.mono (E_order (by omega) (by omega)) (fun v9 w9 h9 => ?_)
  obtain ⟨rfl, h9⟩ := h9
  subst w9
  show jWp 146 11 [some (jO m), some (jI (x : Int)), some (jI law), none, none] [jI (zO law), jO m] 0 0 w _
  refine jWp.putI (pc' := 14) mt rfl rfl (jtg hW.K0) ?_
  show jWp 146 14 [some (jO m), some (jI (x : Int)), some (jI law), none, none] [] 0 0 (jW w m 4 (zO law)) _
  refine jWp.blk mt 2 ?_
  show _ ∧ jWp 146 16 [some (jO m), some (jI (x : Int)), some (jI law), none, none] [jI 0, jO m] 0 0 (jW w m 4 (zO law)) _
  refine ⟨rfl, ?_⟩
  refine jWp.putI (pc' := 19) mt rfl rfl (jtg hW.K0) ?_
  show jWp 146 19 [some (jO m), some (jI (x : Int)), some (jI law), none, none] [] 0 0 (jW (jW w m 4 (zO law)) m 5 0) _
  refine jWp.blk mt 2 ?_
  show _ ∧ jWp 146 21 [some (jO m), some (jI (x : Int)), some (jI law), none, none] [jJ 0, jO m] 0 0 (jW (jW w m 4 (zO law)) m 5 0) _
  refine ⟨rfl, ?_⟩
  refine jWp.putJ (pc' := 24) mt rfl rfl (jtg hW.K0) ?_
  show jWp 146 24 [some (jO m), some (jI (x : Int)), some (jI law), none, none] [] 0 0 (jW (jW (jW w m 4 (zO law)) m 5 0) m 6 0) _
  refine jWp.blk mt 2 ?_
  show jWp 146 26 [some (jO m), some (jI (x : Int)), some (jI law), some (jI 0), none] [] 0 0 (jW (jW (jW w m 4 (zO law)) m 5 0) m 6 0) _
  have lp1 : ∀ (N : Nat) (k : Nat) (M1 : Nat → Nat → Int) (hk : (k : Int) ≤ zO law) (hF : ztr w m (M1, w.2)) (k4 : M1 m 4 = zO law) (k5 : M1 m 5 = 0) (h6l : M1 m 6 = 0) (hA : ∀ y, y < k → M1 (m + 4) y = w.1 (m + 2) (3 + 10 * x + y)), 9 - k < N → jWp 146 26 [some (jO m), some (jI (x : Int)), some (jI law), some (jI (k : Int)), none] [] 0 0 (M1, w.2) (fun v w1 => v = none ∧ ztr w m w1 ∧ ∃ (len : Nat) (why left : Int), w1.1 m 4 = (len : Int) ∧ w1.1 m 5 = why ∧ w1.1 m 6 = left ∧ zGr law f (fun y => w.1 (m + 2) (3 + 10 * x + y)) (w1.1 (m + 4)) len ∧ zEn law f (w1.1 (m + 4)) len why left) := by
    intro N
    induction N with
    | zero => intro k M1 hk hF k4 k5 h6l hA hm; omega
    | succ N ih2 =>
      intro k M1 hk hF k4 k5 h6l hA hm
      have hsk : k < 8 → _ := fun h => hs k h
      have hFk : M1 (m + 2) (3 + 10 * x + k) = w.1 (m + 2) (3 + 10 * x + k) := congrFun (hF.2.1 (m + 2) (by omega) (by omega)) _
      refine jWp.blk mt 2 ?_
      show _ ∧ jWp 146 28 [some (jO m), some (jI (x : Int)), some (jI law), some (jI (k : Int)), none] [jO m, jI (k : Int)] 0 0 (M1, w.2) _
      refine ⟨rfl, ?_⟩
      refine jWp.getI (pc' := 31) mt rfl rfl (jtg hW.K0) ?_
      rw [show ((M1, w.2).1 m 4) = (zO law) from k4]
      show jWp 146 31 [some (jO m), some (jI (x : Int)), some (jI law), some (jI (k : Int)), none] [jI (zO law), jI (k : Int)] 0 0 (M1, w.2) _
      refine jWp.icmp (pc' := 34) mt rfl rfl (b32_id (by omega) (by omega)) (b32_id (by omega) (by omega)) (fun h3 => ?_) (fun h3 => ?_)
      · have h3 : (zO law) ≤ (k : Int) := h3
        have lp4 : ∀ (N : Nat) (len z : Nat) (M1 : Nat → Nat → Int) (hF : ztr w m (M1, w.2)) (k4 : M1 m 4 = (len : Int)) (hG : zGr law f (fun y => w.1 (m + 2) (3 + 10 * x + y)) (M1 (m + 4)) len) (hw : (z = 1 ∧ M1 m 5 = 0 ∧ M1 m 6 = 0) ∨ (z = 0 ∧ M1 m 5 = 1 ∧ len < 60 ∧ Int.tmod (zP law f (M1 (m + 4)) len) (zD law (M1 (m + 4)) len) ≠ 0 ∧ M1 m 6 = Int.tmod (zP law f (M1 (m + 4)) len) (zD law (M1 (m + 4)) len)) ∨ (z = 0 ∧ M1 m 5 = 2 ∧ len < 60 ∧ Int.tmod (zP law f (M1 (m + 4)) len) (zD law (M1 (m + 4)) len) = 0 ∧ ¬ (-100000000 ≤ Int.tdiv (zP law f (M1 (m + 4)) len) (zD law (M1 (m + 4)) len) ∧ Int.tdiv (zP law f (M1 (m + 4)) len) (zD law (M1 (m + 4)) len) ≤ 100000000) ∧ M1 m 6 = 0)), 2 * (60 - len) + z < N → jWp 146 60 [some (jO m), some (jI (x : Int)), some (jI law), none, none] [] 0 0 (M1, w.2) (fun v w1 => v = none ∧ ztr w m w1 ∧ ∃ (len : Nat) (why left : Int), w1.1 m 4 = (len : Int) ∧ w1.1 m 5 = why ∧ w1.1 m 6 = left ∧ zGr law f (fun y => w.1 (m + 2) (3 + 10 * x + y)) (w1.1 (m + 4)) len ∧ zEn law f (w1.1 (m + 4)) len why left) := by
          intro N
          induction N with
          | zero => intro len z M1 hF k4 hG hw hm; omega
          | succ N ih5 =>
            intro len z M1 hF k4 hG hw hm
            have hst := zGr_s hl0 hl6 hf hs hG
            have hl60 := hG.2.1
            have hlo := hG.1
            have hdm := zdm hst.1 hst.2
            refine jWp.blk mt 1 ?_
            show _ ∧ jWp 146 61 [some (jO m), some (jI (x : Int)), some (jI law), none, none] [jO m] 0 0 (M1, w.2) _
            refine ⟨rfl, ?_⟩
            refine jWp.getI (pc' := 64) mt rfl rfl (jtg hW.K0) ?_
            rw [show ((M1, w.2).1 m 4) = (len : Int) from k4]
            show jWp 146 64 [some (jO m), some (jI (x : Int)), some (jI law), none, none] [jI (len : Int)] 0 0 (M1, w.2) _
            refine jWp.blk mt 1 ?_
            show jWp 146 66 [some (jO m), some (jI (x : Int)), some (jI law), none, none] [jI 60, jI (len : Int)] 0 0 (M1, w.2) _
            refine jWp.icmp (pc' := 69) mt rfl rfl (b32_id (by omega) (by omega)) (show b32 60 = 60 by decide) (fun h6 => ?_) (fun h6 => ?_)
            · have h6 : 60 ≤ (len : Int) := h6
              refine jWp.blk mt 2 ?_
              show _ ∧ _ ∧ jWp 146 198 [some (jO m), some (jI (x : Int)), some (jI law), none, none] [jO m, jO m] 0 0 (M1, w.2) _
              refine ⟨rfl, rfl, ?_⟩
              refine jWp.getI (pc' := 201) mt rfl rfl (jtg hW.K0) ?_
              rw [show ((M1, w.2).1 m 5) = (M1 m 5) from rfl]
              show jWp 146 201 [some (jO m), some (jI (x : Int)), some (jI law), none, none] [jI (M1 m 5), jO m] 0 0 (M1, w.2) _
              refine jWp.blk mt 1 ?_
              show jWp 146 202 [some (jO m), some (jI (x : Int)), some (jI law), none, none] [jI 1, jI (M1 m 5), jO m] 0 0 (M1, w.2) _
              refine jWp.icmp (pc' := 205) mt rfl rfl (b32_id (by omega) (by omega)) (show b32 1 = 1 by decide) (fun h7 => ?_) (fun h7 => ?_)
              · have h7 : (M1 m 5) ≠ 1 := h7
                refine jWp.blk mt 1 ?_
                show jWp 146 213 [some (jO m), some (jI (x : Int)), some (jI law), none, none] [jJ 0, jO m] 0 0 (M1, w.2) _
                refine jWp.putJ (pc' := 216) mt rfl rfl (jtg hW.K0) ?_
                show jWp 146 216 [some (jO m), some (jI (x : Int)), some (jI law), none, none] [] 0 0 (jW (M1, w.2) m 6 0) _
                refine jWp.vret mt rfl ⟨rfl, rfl⟩ rfl ?_
                refine ⟨rfl, (⟨rfl, fun a ga gb => ((jW_f (by omega)).trans rfl).trans (hF.2.1 a ga gb), fun j gj => ((jW_k (by omega)).trans rfl).trans (hF.2.2 j gj)⟩ : ztr w m (jW (M1, w.2) m 6 0)), len, M1 m 5, 0, (((jW_k (by decide)).trans rfl)).trans k4, (((jW_k (by decide)).trans rfl)), (jW_s), ?_, ?_⟩
                · rw [show (jW (M1, w.2) m 6 0).1 (m + 4) = M1 (m + 4) from ((jW_f (by omega)).trans rfl)]
                  exact hG
                · rw [show (jW (M1, w.2) m 6 0).1 (m + 4) = M1 (m + 4) from ((jW_f (by omega)).trans rfl)]
                  rcases hw with ⟨g1, g2, g3⟩ | ⟨g1, g2, g3, g4, g5⟩ | ⟨g1, g2, g3, g4, g5, g6⟩
                  · exact Or.inl ⟨g2, by have := hG.2.1; omega, by omega⟩
                  · first
                    | exact Or.inr (Or.inl ⟨g2, g3, g4, g5⟩)
                    | (exfalso; omega)
                  · first
                    | exact Or.inr (Or.inr ⟨g2, g3, g4, g5, g6⟩)
                    | exact Or.inr (Or.inr ⟨g2, g3, g4, g5, rfl⟩)
                    | (exfalso; omega)
              · have h7 : (M1 m 5) = 1 := h7
                refine jWp.blk mt 1 ?_
                show _ ∧ jWp 146 206 [some (jO m), some (jI (x : Int)), some (jI law), none, none] [jO m, jO m] 0 0 (M1, w.2) _
                refine ⟨rfl, ?_⟩
                refine jWp.getJ (pc' := 209) mt rfl rfl (jtg hW.K0) ?_
                rw [show ((M1, w.2).1 m 6) = (M1 m 6) from rfl]
                show jWp 146 209 [some (jO m), some (jI (x : Int)), some (jI law), none, none] [jJ (M1 m 6), jO m] 0 0 (M1, w.2) _
                refine jWp.blk mt 1 ?_
                show jWp 146 213 [some (jO m), some (jI (x : Int)), some (jI law), none, none] [jJ (M1 m 6), jO m] 0 0 (M1, w.2) _
                refine jWp.putJ (pc' := 216) mt rfl rfl (jtg hW.K0) ?_
                show jWp 146 216 [some (jO m), some (jI (x : Int)), some (jI law), none, none] [] 0 0 (jW (M1, w.2) m 6 (M1 m 6)) _
                refine jWp.vret mt rfl ⟨rfl, rfl⟩ rfl ?_
                refine ⟨rfl, (⟨rfl, fun a ga gb => ((jW_f (by omega)).trans rfl).trans (hF.2.1 a ga gb), fun j gj => ((jW_k (by omega)).trans rfl).trans (hF.2.2 j gj)⟩ : ztr w m (jW (M1, w.2) m 6 (M1 m 6))), len, M1 m 5, M1 m 6, (((jW_k (by decide)).trans rfl)).trans k4, (((jW_k (by decide)).trans rfl)), (jW_s), ?_, ?_⟩
                · rw [show (jW (M1, w.2) m 6 (M1 m 6)).1 (m + 4) = M1 (m + 4) from ((jW_f (by omega)).trans rfl)]
                  exact hG
                · rw [show (jW (M1, w.2) m 6 (M1 m 6)).1 (m + 4) = M1 (m + 4) from ((jW_f (by omega)).trans rfl)]
                  rcases hw with ⟨g1, g2, g3⟩ | ⟨g1, g2, g3, g4, g5⟩ | ⟨g1, g2, g3, g4, g5, g6⟩
                  · exact Or.inl ⟨g2, by have := hG.2.1; omega, by omega⟩
                  · first
                    | exact Or.inr (Or.inl ⟨g2, g3, g4, g5⟩)
                    | (exfalso; omega)
                  · first
                    | exact Or.inr (Or.inr ⟨g2, g3, g4, g5, g6⟩)
                    | exact Or.inr (Or.inr ⟨g2, g3, g4, g5, rfl⟩)
                    | (exfalso; omega)
            · have h6 : (len : Int) < 60 := h6
              refine jWp.blk mt 1 ?_
              show _ ∧ jWp 146 70 [some (jO m), some (jI (x : Int)), some (jI law), none, none] [jO m] 0 0 (M1, w.2) _
              refine ⟨rfl, ?_⟩
              refine jWp.getI (pc' := 73) mt rfl rfl (jtg hW.K0) ?_
              rw [show ((M1, w.2).1 m 5) = (M1 m 5) from rfl]
              show jWp 146 73 [some (jO m), some (jI (x : Int)), some (jI law), none, none] [jI (M1 m 5)] 0 0 (M1, w.2) _
              refine jWp.ifz (pc' := 76) mt rfl rfl (b32_id (by omega) (by omega)) (fun h8 => ?_) (fun h8 => ?_)
              · have h8 : (M1 m 5) ≠ 0 := h8
                refine jWp.blk mt 2 ?_
                show _ ∧ _ ∧ jWp 146 198 [some (jO m), some (jI (x : Int)), some (jI law), none, none] [jO m, jO m] 0 0 (M1, w.2) _
                refine ⟨rfl, rfl, ?_⟩
                refine jWp.getI (pc' := 201) mt rfl rfl (jtg hW.K0) ?_
                rw [show ((M1, w.2).1 m 5) = (M1 m 5) from rfl]
                show jWp 146 201 [some (jO m), some (jI (x : Int)), some (jI law), none, none] [jI (M1 m 5), jO m] 0 0 (M1, w.2) _
                refine jWp.blk mt 1 ?_
                show jWp 146 202 [some (jO m), some (jI (x : Int)), some (jI law), none, none] [jI 1, jI (M1 m 5), jO m] 0 0 (M1, w.2) _
                refine jWp.icmp (pc' := 205) mt rfl rfl (b32_id (by omega) (by omega)) (show b32 1 = 1 by decide) (fun h9 => ?_) (fun h9 => ?_)
                · have h9 : (M1 m 5) ≠ 1 := h9
                  refine jWp.blk mt 1 ?_
                  show jWp 146 213 [some (jO m), some (jI (x : Int)), some (jI law), none, none] [jJ 0, jO m] 0 0 (M1, w.2) _
                  refine jWp.putJ (pc' := 216) mt rfl rfl (jtg hW.K0) ?_
                  show jWp 146 216 [some (jO m), some (jI (x : Int)), some (jI law), none, none] [] 0 0 (jW (M1, w.2) m 6 0) _
                  refine jWp.vret mt rfl ⟨rfl, rfl⟩ rfl ?_
                  refine ⟨rfl, (⟨rfl, fun a ga gb => ((jW_f (by omega)).trans rfl).trans (hF.2.1 a ga gb), fun j gj => ((jW_k (by omega)).trans rfl).trans (hF.2.2 j gj)⟩ : ztr w m (jW (M1, w.2) m 6 0)), len, M1 m 5, 0, (((jW_k (by decide)).trans rfl)).trans k4, (((jW_k (by decide)).trans rfl)), (jW_s), ?_, ?_⟩
                  · rw [show (jW (M1, w.2) m 6 0).1 (m + 4) = M1 (m + 4) from ((jW_f (by omega)).trans rfl)]
                    exact hG
                  · rw [show (jW (M1, w.2) m 6 0).1 (m + 4) = M1 (m + 4) from ((jW_f (by omega)).trans rfl)]
                    rcases hw with ⟨g1, g2, g3⟩ | ⟨g1, g2, g3, g4, g5⟩ | ⟨g1, g2, g3, g4, g5, g6⟩
                    · exact Or.inl ⟨g2, by have := hG.2.1; omega, by omega⟩
                    · first
                      | exact Or.inr (Or.inl ⟨g2, g3, g4, g5⟩)
                      | (exfalso; omega)
                    · first
                      | exact Or.inr (Or.inr ⟨g2, g3, g4, g5, g6⟩)
                      | exact Or.inr (Or.inr ⟨g2, g3, g4, g5, rfl⟩)
                      | (exfalso; omega)
                · have h9 : (M1 m 5) = 1 := h9
                  refine jWp.blk mt 1 ?_
                  show _ ∧ jWp 146 206 [some (jO m), some (jI (x : Int)), some (jI law), none, none] [jO m, jO m] 0 0 (M1, w.2) _
                  refine ⟨rfl, ?_⟩
                  refine jWp.getJ (pc' := 209) mt rfl rfl (jtg hW.K0) ?_
                  rw [show ((M1, w.2).1 m 6) = (M1 m 6) from rfl]
                  show jWp 146 209 [some (jO m), some (jI (x : Int)), some (jI law), none, none] [jJ (M1 m 6), jO m] 0 0 (M1, w.2) _
                  refine jWp.blk mt 1 ?_
                  show jWp 146 213 [some (jO m), some (jI (x : Int)), some (jI law), none, none] [jJ (M1 m 6), jO m] 0 0 (M1, w.2) _
                  refine jWp.putJ (pc' := 216) mt rfl rfl (jtg hW.K0) ?_
                  show jWp 146 216 [some (jO m), some (jI (x : Int)), some (jI law), none, none] [] 0 0 (jW (M1, w.2) m 6 (M1 m 6)) _
                  refine jWp.vret mt rfl ⟨rfl, rfl⟩ rfl ?_
                  refine ⟨rfl, (⟨rfl, fun a ga gb => ((jW_f (by omega)).trans rfl).trans (hF.2.1 a ga gb), fun j gj => ((jW_k (by omega)).trans rfl).trans (hF.2.2 j gj)⟩ : ztr w m (jW (M1, w.2) m 6 (M1 m 6))), len, M1 m 5, M1 m 6, (((jW_k (by decide)).trans rfl)).trans k4, (((jW_k (by decide)).trans rfl)), (jW_s), ?_, ?_⟩
                  · rw [show (jW (M1, w.2) m 6 (M1 m 6)).1 (m + 4) = M1 (m + 4) from ((jW_f (by omega)).trans rfl)]
                    exact hG
                  · rw [show (jW (M1, w.2) m 6 (M1 m 6)).1 (m + 4) = M1 (m + 4) from ((jW_f (by omega)).trans rfl)]
                    rcases hw with ⟨g1, g2, g3⟩ | ⟨g1, g2, g3, g4, g5⟩ | ⟨g1, g2, g3, g4, g5, g6⟩
                    · exact Or.inl ⟨g2, by have := hG.2.1; omega, by omega⟩
                    · first
                      | exact Or.inr (Or.inl ⟨g2, g3, g4, g5⟩)
                      | (exfalso; omega)
                    · first
                      | exact Or.inr (Or.inr ⟨g2, g3, g4, g5, g6⟩)
                      | exact Or.inr (Or.inr ⟨g2, g3, g4, g5, rfl⟩)
                      | (exfalso; omega)
              · have h8 : (M1 m 5) = 0 := h8
                refine jWp.blk mt 1 ?_
                show _ ∧ jWp 146 77 [some (jO m), some (jI (x : Int)), some (jI law), none, none] [jO m] 0 0 (M1, w.2) _
                refine ⟨rfl, ?_⟩
                refine jWp.getR (pc' := 80) (o := (m + 4)) mt rfl rfl (jtg hW.K0) hW.R3 ?_
                show jWp 146 80 [some (jO m), some (jI (x : Int)), some (jI law), none, none] [jO (m + 4)] 0 0 (M1, w.2) _
                refine jWp.blk mt 3 ?_
                show _ ∧ jWp 146 83 [some (jO m), some (jI (x : Int)), some (jI law), none, none] [jI (x : Int), jO m, jI law, jO (m + 4)] 0 0 (M1, w.2) _
                refine ⟨rfl, ?_⟩
                refine jWp.callv (as := [jO m, jI (x : Int)]) (rest := [jI law, jO (m + 4)]) mt rfl rfl rfl ⟨rfl, jtg hW.K0⟩ ?_
                refine jCall.mono ((by have h := E_figure (w := (M1, w.2)) (x := x) hW hx; rw [show ((M1, w.2) : jS).1 (m + 2) (2 + 10 * x) = f from (congrFun (hF.2.1 (m + 2) (by omega) (by omega)) _).trans hfig] at h; exact h)) (fun v9 w9 h9 => ?_)
                obtain ⟨rfl, h9⟩ := h9
                subst w9
                show jWp 146 86 [some (jO m), some (jI (x : Int)), some (jI law), none, none] [jI f, jI law, jO (m + 4)] 0 0 (M1, w.2) _
                refine jWp.i2l (pc' := 87) mt rfl rfl (b32_id (by omega) (by omega)) ?_
                show jWp 146 87 [some (jO m), some (jI (x : Int)), some (jI law), none, none] [jJ f, jI law, jO (m + 4)] 0 0 (M1, w.2) _
                refine jWp.blk mt 1 ?_
                show _ ∧ jWp 146 88 [some (jO m), some (jI (x : Int)), some (jI law), none, none] [jO m, jJ f, jI law, jO (m + 4)] 0 0 (M1, w.2) _
                refine ⟨rfl, ?_⟩
                refine jWp.getI (pc' := 91) mt rfl rfl (jtg hW.K0) ?_
                rw [show ((M1, w.2).1 m 4) = (len : Int) from k4]
                show jWp 146 91 [some (jO m), some (jI (x : Int)), some (jI law), none, none] [jI (len : Int), jJ f, jI law, jO (m + 4)] 0 0 (M1, w.2) _
                refine jWp.calls (as := [jO (m + 4), jI law, jJ f, jI (len : Int)]) (rest := []) mt rfl rfl rfl rfl ?_
                refine jCall.mono (E_above (w := (M1, w.2)) (a := m + 4) (n := len) (len := 60) hW.K4 hl0 hl6 hG.1 (by omega) (by omega)) (fun v9 w9 h9 => ?_)
                obtain ⟨rfl, h9⟩ := h9
                subst w9
                show jWp 146 94 [some (jO m), some (jI (x : Int)), some (jI law), none, none] [jJ (zP law f (M1 (m + 4)) len)] 0 0 (M1, w.2) _
                refine jWp.blk mt 3 ?_
                show _ ∧ _ ∧ jWp 146 97 [some (jO m), some (jI (x : Int)), some (jI law), some (jJ (zP law f (M1 (m + 4)) len)), none] [jO m, jO m] 0 0 (M1, w.2) _
                refine ⟨rfl, rfl, ?_⟩
                refine jWp.getR (pc' := 100) (o := (m + 4)) mt rfl rfl (jtg hW.K0) hW.R3 ?_
                show jWp 146 100 [some (jO m), some (jI (x : Int)), some (jI law), some (jJ (zP law f (M1 (m + 4)) len)), none] [jO (m + 4), jO m] 0 0 (M1, w.2) _
                refine jWp.blk mt 2 ?_
                show _ ∧ jWp 146 102 [some (jO m), some (jI (x : Int)), some (jI law), some (jJ (zP law f (M1 (m + 4)) len)), none] [jO m, jI law, jO (m + 4), jO m] 0 0 (M1, w.2) _
                refine ⟨rfl, ?_⟩
                refine jWp.getI (pc' := 105) mt rfl rfl (jtg hW.K0) ?_
                rw [show ((M1, w.2).1 m 4) = (len : Int) from k4]
                show jWp 146 105 [some (jO m), some (jI (x : Int)), some (jI law), some (jJ (zP law f (M1 (m + 4)) len)), none] [jI (len : Int), jI law, jO (m + 4), jO m] 0 0 (M1, w.2) _
                refine jWp.calls (as := [jO (m + 4), jI law, jI (len : Int)]) (rest := [jO m]) mt rfl rfl rfl rfl ?_
                refine jCall.mono (E_below (w := (M1, w.2)) (a := m + 4) (n := len) (len := 60) hW.K4 hl0 hl6 hG.1 (by omega) (by omega)) (fun v9 w9 h9 => ?_)
                obtain ⟨rfl, h9⟩ := h9
                subst w9
                show jWp 146 108 [some (jO m), some (jI (x : Int)), some (jI law), some (jJ (zP law f (M1 (m + 4)) len)), none] [jJ (zD law (M1 (m + 4)) len), jO m] 0 0 (M1, w.2) _
                refine jWp.putJ (pc' := 111) mt rfl rfl (jtg hW.K0) ?_
                show jWp 146 111 [some (jO m), some (jI (x : Int)), some (jI law), some (jJ (zP law f (M1 (m + 4)) len)), none] [] 0 0 (jW (M1, w.2) m 7 (zD law (M1 (m + 4)) len)) _
                refine jWp.blk mt 3 ?_
                show _ ∧ _ ∧ jWp 146 114 [some (jO m), some (jI (x : Int)), some (jI law), some (jJ (zP law f (M1 (m + 4)) len)), none] [jO m, jJ (zP law f (M1 (m + 4)) len), jO m] 0 0 (jW (M1, w.2) m 7 (zD law (M1 (m + 4)) len)) _
                refine ⟨rfl, rfl, ?_⟩
                refine jWp.getJ (pc' := 117) mt rfl rfl (jtg hW.K0) ?_
                rw [show ((jW (M1, w.2) m 7 (zD law (M1 (m + 4)) len)).1 m 7) = (zD law (M1 (m + 4)) len) from jW_s]
                show jWp 146 117 [some (jO m), some (jI (x : Int)), some (jI law), some (jJ (zP law f (M1 (m + 4)) len)), none] [jJ (zD law (M1 (m + 4)) len), jJ (zP law f (M1 (m + 4)) len), jO m] 0 0 (jW (M1, w.2) m 7 (zD law (M1 (m + 4)) len)) _
                refine jWp.lrem (pc' := 118) mt rfl rfl (b64_id (by omega) (by omega)) (b64_id (by omega) (by omega)) (by omega) ?_
                show jWp 146 118 [some (jO m), some (jI (x : Int)), some (jI law), some (jJ (zP law f (M1 (m + 4)) len)), none] [jJ (Int.tmod (zP law f (M1 (m + 4)) len) (zD law (M1 (m + 4)) len)), jO m] 0 0 (jW (M1, w.2) m 7 (zD law (M1 (m + 4)) len)) _
                refine jWp.putJ (pc' := 121) mt rfl rfl (jtg hW.K0) ?_
                show jWp 146 121 [some (jO m), some (jI (x : Int)), some (jI law), some (jJ (zP law f (M1 (m + 4)) len)), none] [] 0 0 (jW (jW (M1, w.2) m 7 (zD law (M1 (m + 4)) len)) m 6 (Int.tmod (zP law f (M1 (m + 4)) len) (zD law (M1 (m + 4)) len))) _
                refine jWp.blk mt 2 ?_
                show _ ∧ _ ∧ jWp 146 123 [some (jO m), some (jI (x : Int)), some (jI law), some (jJ (zP law f (M1 (m + 4)) len)), none] [jO m, jO m] 0 0 (jW (jW (M1, w.2) m 7 (zD law (M1 (m + 4)) len)) m 6 (Int.tmod (zP law f (M1 (m + 4)) len) (zD law (M1 (m + 4)) len))) _
                refine ⟨rfl, rfl, ?_⟩
                refine jWp.getJ (pc' := 126) mt rfl rfl (jtg hW.K0) ?_
                rw [show ((jW (jW (M1, w.2) m 7 (zD law (M1 (m + 4)) len)) m 6 (Int.tmod (zP law f (M1 (m + 4)) len) (zD law (M1 (m + 4)) len))).1 m 6) = (Int.tmod (zP law f (M1 (m + 4)) len) (zD law (M1 (m + 4)) len)) from jW_s]
                show jWp 146 126 [some (jO m), some (jI (x : Int)), some (jI law), some (jJ (zP law f (M1 (m + 4)) len)), none] [jJ (Int.tmod (zP law f (M1 (m + 4)) len) (zD law (M1 (m + 4)) len)), jO m] 0 0 (jW (jW (M1, w.2) m 7 (zD law (M1 (m + 4)) len)) m 6 (Int.tmod (zP law f (M1 (m + 4)) len) (zD law (M1 (m + 4)) len))) _
                refine jWp.blk mt 1 ?_
                show jWp 146 127 [some (jO m), some (jI (x : Int)), some (jI law), some (jJ (zP law f (M1 (m + 4)) len)), none] [jJ 0, jJ (Int.tmod (zP law f (M1 (m + 4)) len) (zD law (M1 (m + 4)) len)), jO m] 0 0 (jW (jW (M1, w.2) m 7 (zD law (M1 (m + 4)) len)) m 6 (Int.tmod (zP law f (M1 (m + 4)) len) (zD law (M1 (m + 4)) len))) _
                refine jWp.lcmp (pc' := 131) mt rfl rfl rfl (b64_id (by omega) (by omega)) (show b64 0 = 0 by decide) (fun h10 => ?_) (fun h10 => ?_)
                · have h10 : (Int.tmod (zP law f (M1 (m + 4)) len) (zD law (M1 (m + 4)) len)) = 0 := h10
                  refine jWp.blk mt 2 ?_
                  show _ ∧ jWp 146 137 [some (jO m), some (jI (x : Int)), some (jI law), some (jJ (zP law f (M1 (m + 4)) len)), none] [jO m, jJ (zP law f (M1 (m + 4)) len), jO m] 0 0 (jW (jW (M1, w.2) m 7 (zD law (M1 (m + 4)) len)) m 6 (Int.tmod (zP law f (M1 (m + 4)) len) (zD law (M1 (m + 4)) len))) _
                  refine ⟨rfl, ?_⟩
                  refine jWp.getJ (pc' := 140) mt rfl rfl (jtg hW.K0) ?_
                  rw [show ((jW (jW (M1, w.2) m 7 (zD law (M1 (m + 4)) len)) m 6 (Int.tmod (zP law f (M1 (m + 4)) len) (zD law (M1 (m + 4)) len))).1 m 7) = (zD law (M1 (m + 4)) len) from ((jW_k (by decide)).trans jW_s)]
                  show jWp 146 140 [some (jO m), some (jI (x : Int)), some (jI law), some (jJ (zP law f (M1 (m + 4)) len)), none] [jJ (zD law (M1 (m + 4)) len), jJ (zP law f (M1 (m + 4)) len), jO m] 0 0 (jW (jW (M1, w.2) m 7 (zD law (M1 (m + 4)) len)) m 6 (Int.tmod (zP law f (M1 (m + 4)) len) (zD law (M1 (m + 4)) len))) _
                  refine jWp.ldiv (pc' := 141) mt rfl rfl (b64_id (by omega) (by omega)) (b64_id (by omega) (by omega)) (by omega) ?_
                  show jWp 146 141 [some (jO m), some (jI (x : Int)), some (jI law), some (jJ (zP law f (M1 (m + 4)) len)), none] [jJ (Int.tdiv (zP law f (M1 (m + 4)) len) (zD law (M1 (m + 4)) len)), jO m] 0 0 (jW (jW (M1, w.2) m 7 (zD law (M1 (m + 4)) len)) m 6 (Int.tmod (zP law f (M1 (m + 4)) len) (zD law (M1 (m + 4)) len))) _
                  refine jWp.blk mt 2 ?_
                  show jWp 146 147 [some (jO m), some (jI (x : Int)), some (jI law), some (jJ (zP law f (M1 (m + 4)) len)), none] [jJ 100000000, jJ (-100000000), jJ (Int.tdiv (zP law f (M1 (m + 4)) len) (zD law (M1 (m + 4)) len)), jO m] 0 0 (jW (jW (M1, w.2) m 7 (zD law (M1 (m + 4)) len)) m 6 (Int.tmod (zP law f (M1 (m + 4)) len) (zD law (M1 (m + 4)) len))) _
                  refine jWp.calls (as := [jJ (Int.tdiv (zP law f (M1 (m + 4)) len) (zD law (M1 (m + 4)) len)), jJ (-100000000), jJ 100000000]) (rest := [jO m]) mt rfl rfl rfl rfl ?_
                  refine jCall.mono (E_in (b64_id (by omega) (by omega)) (show b64 (-100000000) = (-100000000) by decide) (show b64 100000000 = 100000000 by decide)) (fun v9 w9 h9 => ?_)
                  rcases h9 with ⟨rfl, h9, h11⟩ | ⟨rfl, h9, h11⟩ <;> subst w9
                  · have h11 : (-100000000) ≤ (Int.tdiv (zP law f (M1 (m + 4)) len) (zD law (M1 (m + 4)) len)) ∧ (Int.tdiv (zP law f (M1 (m + 4)) len) (zD law (M1 (m + 4)) len)) ≤ 100000000 := h11
                    show jWp 146 150 [some (jO m), some (jI (x : Int)), some (jI law), some (jJ (zP law f (M1 (m + 4)) len)), none] [jI 1, jO m] 0 0 (jW (jW (M1, w.2) m 7 (zD law (M1 (m + 4)) len)) m 6 (Int.tmod (zP law f (M1 (m + 4)) len) (zD law (M1 (m + 4)) len))) _
                    refine jWp.ifc (b := false) mt rfl (by decide) rfl ?_
                    show jWp 146 153 [some (jO m), some (jI (x : Int)), some (jI law), some (jJ (zP law f (M1 (m + 4)) len)), none] [jO m] 0 0 (jW (jW (M1, w.2) m 7 (zD law (M1 (m + 4)) len)) m 6 (Int.tmod (zP law f (M1 (m + 4)) len) (zD law (M1 (m + 4)) len))) _
                    refine jWp.blk mt 2 ?_
                    show jWp 146 158 [some (jO m), some (jI (x : Int)), some (jI law), some (jJ (zP law f (M1 (m + 4)) len)), none] [jI 0, jO m] 0 0 (jW (jW (M1, w.2) m 7 (zD law (M1 (m + 4)) len)) m 6 (Int.tmod (zP law f (M1 (m + 4)) len) (zD law (M1 (m + 4)) len))) _
                    refine jWp.putI (pc' := 161) mt rfl rfl (jtg hW.K0) ?_
                    show jWp 146 161 [some (jO m), some (jI (x : Int)), some (jI law), some (jJ (zP law f (M1 (m + 4)) len)), none] [] 0 0 (jW (jW (jW (M1, w.2) m 7 (zD law (M1 (m + 4)) len)) m 6 (Int.tmod (zP law f (M1 (m + 4)) len) (zD law (M1 (m + 4)) len))) m 5 0) _
                    refine jWp.blk mt 1 ?_
                    show _ ∧ jWp 146 162 [some (jO m), some (jI (x : Int)), some (jI law), some (jJ (zP law f (M1 (m + 4)) len)), none] [jO m] 0 0 (jW (jW (jW (M1, w.2) m 7 (zD law (M1 (m + 4)) len)) m 6 (Int.tmod (zP law f (M1 (m + 4)) len) (zD law (M1 (m + 4)) len))) m 5 0) _
                    refine ⟨rfl, ?_⟩
                    refine jWp.getI (pc' := 165) mt rfl rfl (jtg hW.K0) ?_
                    rw [show ((jW (jW (jW (M1, w.2) m 7 (zD law (M1 (m + 4)) len)) m 6 (Int.tmod (zP law f (M1 (m + 4)) len) (zD law (M1 (m + 4)) len))) m 5 0).1 m 5) = 0 from jW_s]
                    show jWp 146 165 [some (jO m), some (jI (x : Int)), some (jI law), some (jJ (zP law f (M1 (m + 4)) len)), none] [jI 0] 0 0 (jW (jW (jW (M1, w.2) m 7 (zD law (M1 (m + 4)) len)) m 6 (Int.tmod (zP law f (M1 (m + 4)) len) (zD law (M1 (m + 4)) len))) m 5 0) _
                    refine jWp.ifc (b := false) mt rfl (by decide) rfl ?_
                    show jWp 146 168 [some (jO m), some (jI (x : Int)), some (jI law), some (jJ (zP law f (M1 (m + 4)) len)), none] [] 0 0 (jW (jW (jW (M1, w.2) m 7 (zD law (M1 (m + 4)) len)) m 6 (Int.tmod (zP law f (M1 (m + 4)) len) (zD law (M1 (m + 4)) len))) m 5 0) _
                    refine jWp.blk mt 1 ?_
                    show _ ∧ jWp 146 169 [some (jO m), some (jI (x : Int)), some (jI law), some (jJ (zP law f (M1 (m + 4)) len)), none] [jO m] 0 0 (jW (jW (jW (M1, w.2) m 7 (zD law (M1 (m + 4)) len)) m 6 (Int.tmod (zP law f (M1 (m + 4)) len) (zD law (M1 (m + 4)) len))) m 5 0) _
                    refine ⟨rfl, ?_⟩
                    refine jWp.getR (pc' := 172) (o := (m + 4)) mt rfl rfl (jtg hW.K0) hW.R3 ?_
                    show jWp 146 172 [some (jO m), some (jI (x : Int)), some (jI law), some (jJ (zP law f (M1 (m + 4)) len)), none] [jO (m + 4)] 0 0 (jW (jW (jW (M1, w.2) m 7 (zD law (M1 (m + 4)) len)) m 6 (Int.tmod (zP law f (M1 (m + 4)) len) (zD law (M1 (m + 4)) len))) m 5 0) _
                    refine jWp.blk mt 1 ?_
                    show _ ∧ jWp 146 173 [some (jO m), some (jI (x : Int)), some (jI law), some (jJ (zP law f (M1 (m + 4)) len)), none] [jO m, jO (m + 4)] 0 0 (jW (jW (jW (M1, w.2) m 7 (zD law (M1 (m + 4)) len)) m 6 (Int.tmod (zP law f (M1 (m + 4)) len) (zD law (M1 (m + 4)) len))) m 5 0) _
                    refine ⟨rfl, ?_⟩
                    refine jWp.getI (pc' := 176) mt rfl rfl (jtg hW.K0) ?_
                    rw [show ((jW (jW (jW (M1, w.2) m 7 (zD law (M1 (m + 4)) len)) m 6 (Int.tmod (zP law f (M1 (m + 4)) len) (zD law (M1 (m + 4)) len))) m 5 0).1 m 4) = (len : Int) from (((jW_k (by decide)).trans ((jW_k (by decide)).trans ((jW_k (by decide)).trans rfl))).trans k4)]
                    show jWp 146 176 [some (jO m), some (jI (x : Int)), some (jI law), some (jJ (zP law f (M1 (m + 4)) len)), none] [jI (len : Int), jO (m + 4)] 0 0 (jW (jW (jW (M1, w.2) m 7 (zD law (M1 (m + 4)) len)) m 6 (Int.tmod (zP law f (M1 (m + 4)) len) (zD law (M1 (m + 4)) len))) m 5 0) _
                    refine jWp.blk mt 2 ?_
                    show _ ∧ jWp 146 178 [some (jO m), some (jI (x : Int)), some (jI law), some (jJ (zP law f (M1 (m + 4)) len)), none] [jO m, jJ (zP law f (M1 (m + 4)) len), jI (len : Int), jO (m + 4)] 0 0 (jW (jW (jW (M1, w.2) m 7 (zD law (M1 (m + 4)) len)) m 6 (Int.tmod (zP law f (M1 (m + 4)) len) (zD law (M1 (m + 4)) len))) m 5 0) _
                    refine ⟨rfl, ?_⟩
                    refine jWp.getJ (pc' := 181) mt rfl rfl (jtg hW.K0) ?_
                    rw [show ((jW (jW (jW (M1, w.2) m 7 (zD law (M1 (m + 4)) len)) m 6 (Int.tmod (zP law f (M1 (m + 4)) len) (zD law (M1 (m + 4)) len))) m 5 0).1 m 7) = (zD law (M1 (m + 4)) len) from ((jW_k (by decide)).trans ((jW_k (by decide)).trans jW_s))]
                    show jWp 146 181 [some (jO m), some (jI (x : Int)), some (jI law), some (jJ (zP law f (M1 (m + 4)) len)), none] [jJ (zD law (M1 (m + 4)) len), jJ (zP law f (M1 (m + 4)) len), jI (len : Int), jO (m + 4)] 0 0 (jW (jW (jW (M1, w.2) m 7 (zD law (M1 (m + 4)) len)) m 6 (Int.tmod (zP law f (M1 (m + 4)) len) (zD law (M1 (m + 4)) len))) m 5 0) _
                    refine jWp.ldiv (pc' := 182) mt rfl rfl (b64_id (by omega) (by omega)) (b64_id (by omega) (by omega)) (by omega) ?_
                    show jWp 146 182 [some (jO m), some (jI (x : Int)), some (jI law), some (jJ (zP law f (M1 (m + 4)) len)), none] [jJ (Int.tdiv (zP law f (M1 (m + 4)) len) (zD law (M1 (m + 4)) len)), jI (len : Int), jO (m + 4)] 0 0 (jW (jW (jW (M1, w.2) m 7 (zD law (M1 (m + 4)) len)) m 6 (Int.tmod (zP law f (M1 (m + 4)) len) (zD law (M1 (m + 4)) len))) m 5 0) _
                    refine jWp.last (pc' := 183) (j := len) mt rfl rfl (jtg hW.K4) (b32_id (by omega) (by omega)) (jlt hW.K4 (by omega)) ?_
                    show jWp 146 183 [some (jO m), some (jI (x : Int)), some (jI law), some (jJ (zP law f (M1 (m + 4)) len)), none] [] 0 0 (jW (jW (jW (jW (M1, w.2) m 7 (zD law (M1 (m + 4)) len)) m 6 (Int.tmod (zP law f (M1 (m + 4)) len) (zD law (M1 (m + 4)) len))) m 5 0) (m + 4) len (Int.tdiv (zP law f (M1 (m + 4)) len) (zD law (M1 (m + 4)) len))) _
                    refine jWp.blk mt 2 ?_
                    show _ ∧ _ ∧ jWp 146 185 [some (jO m), some (jI (x : Int)), some (jI law), some (jJ (zP law f (M1 (m + 4)) len)), none] [jO m, jO m] 0 0 (jW (jW (jW (jW (M1, w.2) m 7 (zD law (M1 (m + 4)) len)) m 6 (Int.tmod (zP law f (M1 (m + 4)) len) (zD law (M1 (m + 4)) len))) m 5 0) (m + 4) len (Int.tdiv (zP law f (M1 (m + 4)) len) (zD law (M1 (m + 4)) len))) _
                    refine ⟨rfl, rfl, ?_⟩
                    refine jWp.getI (pc' := 188) mt rfl rfl (jtg hW.K0) ?_
                    rw [show ((jW (jW (jW (jW (M1, w.2) m 7 (zD law (M1 (m + 4)) len)) m 6 (Int.tmod (zP law f (M1 (m + 4)) len) (zD law (M1 (m + 4)) len))) m 5 0) (m + 4) len (Int.tdiv (zP law f (M1 (m + 4)) len) (zD law (M1 (m + 4)) len))).1 m 4) = (len : Int) from (((jW_a (by omega)).trans ((jW_k (by decide)).trans ((jW_k (by decide)).trans ((jW_k (by decide)).trans rfl)))).trans k4)]
                    show jWp 146 188 [some (jO m), some (jI (x : Int)), some (jI law), some (jJ (zP law f (M1 (m + 4)) len)), none] [jI (len : Int), jO m] 0 0 (jW (jW (jW (jW (M1, w.2) m 7 (zD law (M1 (m + 4)) len)) m 6 (Int.tmod (zP law f (M1 (m + 4)) len) (zD law (M1 (m + 4)) len))) m 5 0) (m + 4) len (Int.tdiv (zP law f (M1 (m + 4)) len) (zD law (M1 (m + 4)) len))) _
                    refine jWp.blk mt 2 ?_
                    show jWp 146 190 [some (jO m), some (jI (x : Int)), some (jI law), some (jJ (zP law f (M1 (m + 4)) len)), none] [jI ((len : Int) + 1), jO m] 0 0 (jW (jW (jW (jW (M1, w.2) m 7 (zD law (M1 (m + 4)) len)) m 6 (Int.tmod (zP law f (M1 (m + 4)) len) (zD law (M1 (m + 4)) len))) m 5 0) (m + 4) len (Int.tdiv (zP law f (M1 (m + 4)) len) (zD law (M1 (m + 4)) len))) _
                    refine jWp.putI (pc' := 193) mt rfl rfl (jtg hW.K0) ?_
                    show jWp 146 193 [some (jO m), some (jI (x : Int)), some (jI law), some (jJ (zP law f (M1 (m + 4)) len)), none] [] 0 0 (jW (jW (jW (jW (jW (M1, w.2) m 7 (zD law (M1 (m + 4)) len)) m 6 (Int.tmod (zP law f (M1 (m + 4)) len) (zD law (M1 (m + 4)) len))) m 5 0) (m + 4) len (Int.tdiv (zP law f (M1 (m + 4)) len) (zD law (M1 (m + 4)) len))) m 4 ((len : Int) + 1)) _
                    refine jWp.blk mt 1 ?_
                    show jWp 146 60 [some (jO m), some (jI (x : Int)), some (jI law), some (jJ (zP law f (M1 (m + 4)) len)), none] [] 0 0 (jW (jW (jW (jW (jW (M1, w.2) m 7 (zD law (M1 (m + 4)) len)) m 6 (Int.tmod (zP law f (M1 (m + 4)) len) (zD law (M1 (m + 4)) len))) m 5 0) (m + 4) len (Int.tdiv (zP law f (M1 (m + 4)) len) (zD law (M1 (m + 4)) len))) m 4 ((len : Int) + 1)) _
                    refine jWp.le (l := [some (jO m), some (jI (x : Int)), some (jI law), none, none]) (by exact ⟨rfl, rfl, rfl, trivial⟩) ?_
                    exact ih5 (len + 1) 1 (jW (jW (jW (jW (jW (M1, w.2) m 7 (zD law (M1 (m + 4)) len)) m 6 (Int.tmod (zP law f (M1 (m + 4)) len) (zD law (M1 (m + 4)) len))) m 5 0) (m + 4) len (Int.tdiv (zP law f (M1 (m + 4)) len) (zD law (M1 (m + 4)) len))) m 4 ((len : Int) + 1)).1 (⟨rfl, fun a ga gb => ((jW_f (by omega)).trans ((jW_f (by omega)).trans ((jW_f (by omega)).trans ((jW_f (by omega)).trans ((jW_f (by omega)).trans rfl))))).trans (hF.2.1 a ga gb), fun j gj => ((jW_k (by omega)).trans ((jW_a (by omega)).trans ((jW_k (by omega)).trans ((jW_k (by omega)).trans ((jW_k (by omega)).trans rfl))))).trans (hF.2.2 j gj)⟩ : ztr w m (jW (jW (jW (jW (jW (M1, w.2) m 7 (zD law (M1 (m + 4)) len)) m 6 (Int.tmod (zP law f (M1 (m + 4)) len) (zD law (M1 (m + 4)) len))) m 5 0) (m + 4) len (Int.tdiv (zP law f (M1 (m + 4)) len) (zD law (M1 (m + 4)) len))) m 4 ((len : Int) + 1))) ((jW_s).trans (by omega)) (zGr_n hl0 hl6 hG (by omega) (by omega) (by assumption) (((jW_a (by omega)).trans jW_s)) (fun j hj => ((jW_a (by omega)).trans ((jW_k (by omega)).trans ((jW_a (by omega)).trans ((jW_a (by omega)).trans ((jW_a (by omega)).trans rfl))))))) (Or.inl ⟨rfl, (((jW_k (by decide)).trans ((jW_a (by omega)).trans jW_s))), (((jW_k (by decide)).trans ((jW_a (by omega)).trans ((jW_k (by decide)).trans jW_s)))).trans (by omega)⟩) (by omega)
                  · have h11 : ¬ ((-100000000) ≤ (Int.tdiv (zP law f (M1 (m + 4)) len) (zD law (M1 (m + 4)) len)) ∧ (Int.tdiv (zP law f (M1 (m + 4)) len) (zD law (M1 (m + 4)) len)) ≤ 100000000) := h11
                    show jWp 146 150 [some (jO m), some (jI (x : Int)), some (jI law), some (jJ (zP law f (M1 (m + 4)) len)), none] [jI 0, jO m] 0 0 (jW (jW (M1, w.2) m 7 (zD law (M1 (m + 4)) len)) m 6 (Int.tmod (zP law f (M1 (m + 4)) len) (zD law (M1 (m + 4)) len))) _
                    refine jWp.ifc (b := true) mt rfl (by decide) rfl ?_
                    show jWp 146 157 [some (jO m), some (jI (x : Int)), some (jI law), some (jJ (zP law f (M1 (m + 4)) len)), none] [jO m] 0 0 (jW (jW (M1, w.2) m 7 (zD law (M1 (m + 4)) len)) m 6 (Int.tmod (zP law f (M1 (m + 4)) len) (zD law (M1 (m + 4)) len))) _
                    refine jWp.blk mt 1 ?_
                    show jWp 146 158 [some (jO m), some (jI (x : Int)), some (jI law), some (jJ (zP law f (M1 (m + 4)) len)), none] [jI 2, jO m] 0 0 (jW (jW (M1, w.2) m 7 (zD law (M1 (m + 4)) len)) m 6 (Int.tmod (zP law f (M1 (m + 4)) len) (zD law (M1 (m + 4)) len))) _
                    refine jWp.putI (pc' := 161) mt rfl rfl (jtg hW.K0) ?_
                    show jWp 146 161 [some (jO m), some (jI (x : Int)), some (jI law), some (jJ (zP law f (M1 (m + 4)) len)), none] [] 0 0 (jW (jW (jW (M1, w.2) m 7 (zD law (M1 (m + 4)) len)) m 6 (Int.tmod (zP law f (M1 (m + 4)) len) (zD law (M1 (m + 4)) len))) m 5 2) _
                    refine jWp.blk mt 1 ?_
                    show _ ∧ jWp 146 162 [some (jO m), some (jI (x : Int)), some (jI law), some (jJ (zP law f (M1 (m + 4)) len)), none] [jO m] 0 0 (jW (jW (jW (M1, w.2) m 7 (zD law (M1 (m + 4)) len)) m 6 (Int.tmod (zP law f (M1 (m + 4)) len) (zD law (M1 (m + 4)) len))) m 5 2) _
                    refine ⟨rfl, ?_⟩
                    refine jWp.getI (pc' := 165) mt rfl rfl (jtg hW.K0) ?_
                    rw [show ((jW (jW (jW (M1, w.2) m 7 (zD law (M1 (m + 4)) len)) m 6 (Int.tmod (zP law f (M1 (m + 4)) len) (zD law (M1 (m + 4)) len))) m 5 2).1 m 5) = 2 from jW_s]
                    show jWp 146 165 [some (jO m), some (jI (x : Int)), some (jI law), some (jJ (zP law f (M1 (m + 4)) len)), none] [jI 2] 0 0 (jW (jW (jW (M1, w.2) m 7 (zD law (M1 (m + 4)) len)) m 6 (Int.tmod (zP law f (M1 (m + 4)) len) (zD law (M1 (m + 4)) len))) m 5 2) _
                    refine jWp.ifc (b := true) mt rfl (by decide) rfl ?_
                    show jWp 146 193 [some (jO m), some (jI (x : Int)), some (jI law), some (jJ (zP law f (M1 (m + 4)) len)), none] [] 0 0 (jW (jW (jW (M1, w.2) m 7 (zD law (M1 (m + 4)) len)) m 6 (Int.tmod (zP law f (M1 (m + 4)) len) (zD law (M1 (m + 4)) len))) m 5 2) _
                    refine jWp.blk mt 1 ?_
                    show jWp 146 60 [some (jO m), some (jI (x : Int)), some (jI law), some (jJ (zP law f (M1 (m + 4)) len)), none] [] 0 0 (jW (jW (jW (M1, w.2) m 7 (zD law (M1 (m + 4)) len)) m 6 (Int.tmod (zP law f (M1 (m + 4)) len) (zD law (M1 (m + 4)) len))) m 5 2) _
                    refine jWp.le (l := [some (jO m), some (jI (x : Int)), some (jI law), none, none]) (by exact ⟨rfl, rfl, rfl, trivial⟩) ?_
                    exact ih5 len 0 (jW (jW (jW (M1, w.2) m 7 (zD law (M1 (m + 4)) len)) m 6 (Int.tmod (zP law f (M1 (m + 4)) len) (zD law (M1 (m + 4)) len))) m 5 2).1 (⟨rfl, fun a ga gb => ((jW_f (by omega)).trans ((jW_f (by omega)).trans ((jW_f (by omega)).trans rfl))).trans (hF.2.1 a ga gb), fun j gj => ((jW_k (by omega)).trans ((jW_k (by omega)).trans ((jW_k (by omega)).trans rfl))).trans (hF.2.2 j gj)⟩ : ztr w m (jW (jW (jW (M1, w.2) m 7 (zD law (M1 (m + 4)) len)) m 6 (Int.tmod (zP law f (M1 (m + 4)) len) (zD law (M1 (m + 4)) len))) m 5 2)) ((((jW_k (by decide)).trans ((jW_k (by decide)).trans ((jW_k (by decide)).trans rfl)))).trans k4) (by rw [show (jW (jW (jW (M1, w.2) m 7 (zD law (M1 (m + 4)) len)) m 6 (Int.tmod (zP law f (M1 (m + 4)) len) (zD law (M1 (m + 4)) len))) m 5 2).1 (m + 4) = M1 (m + 4) from ((jW_f (by omega)).trans ((jW_f (by omega)).trans ((jW_f (by omega)).trans rfl)))]; exact hG) (Or.inr (Or.inr ⟨rfl, (jW_s), by omega, by rw [show (jW (jW (jW (M1, w.2) m 7 (zD law (M1 (m + 4)) len)) m 6 (Int.tmod (zP law f (M1 (m + 4)) len) (zD law (M1 (m + 4)) len))) m 5 2).1 (m + 4) = M1 (m + 4) from ((jW_f (by omega)).trans ((jW_f (by omega)).trans ((jW_f (by omega)).trans rfl)))]; omega, by rw [show (jW (jW (jW (M1, w.2) m 7 (zD law (M1 (m + 4)) len)) m 6 (Int.tmod (zP law f (M1 (m + 4)) len) (zD law (M1 (m + 4)) len))) m 5 2).1 (m + 4) = M1 (m + 4) from ((jW_f (by omega)).trans ((jW_f (by omega)).trans ((jW_f (by omega)).trans rfl)))]; assumption, (((jW_k (by decide)).trans jW_s)).trans (by omega)⟩)) (by omega)
                · have h10 : (Int.tmod (zP law f (M1 (m + 4)) len) (zD law (M1 (m + 4)) len)) ≠ 0 := h10
                  refine jWp.blk mt 2 ?_
                  show jWp 146 158 [some (jO m), some (jI (x : Int)), some (jI law), some (jJ (zP law f (M1 (m + 4)) len)), none] [jI 1, jO m] 0 0 (jW (jW (M1, w.2) m 7 (zD law (M1 (m + 4)) len)) m 6 (Int.tmod (zP law f (M1 (m + 4)) len) (zD law (M1 (m + 4)) len))) _
                  refine jWp.putI (pc' := 161) mt rfl rfl (jtg hW.K0) ?_
                  show jWp 146 161 [some (jO m), some (jI (x : Int)), some (jI law), some (jJ (zP law f (M1 (m + 4)) len)), none] [] 0 0 (jW (jW (jW (M1, w.2) m 7 (zD law (M1 (m + 4)) len)) m 6 (Int.tmod (zP law f (M1 (m + 4)) len) (zD law (M1 (m + 4)) len))) m 5 1) _
                  refine jWp.blk mt 1 ?_
                  show _ ∧ jWp 146 162 [some (jO m), some (jI (x : Int)), some (jI law), some (jJ (zP law f (M1 (m + 4)) len)), none] [jO m] 0 0 (jW (jW (jW (M1, w.2) m 7 (zD law (M1 (m + 4)) len)) m 6 (Int.tmod (zP law f (M1 (m + 4)) len) (zD law (M1 (m + 4)) len))) m 5 1) _
                  refine ⟨rfl, ?_⟩
                  refine jWp.getI (pc' := 165) mt rfl rfl (jtg hW.K0) ?_
                  rw [show ((jW (jW (jW (M1, w.2) m 7 (zD law (M1 (m + 4)) len)) m 6 (Int.tmod (zP law f (M1 (m + 4)) len) (zD law (M1 (m + 4)) len))) m 5 1).1 m 5) = 1 from jW_s]
                  show jWp 146 165 [some (jO m), some (jI (x : Int)), some (jI law), some (jJ (zP law f (M1 (m + 4)) len)), none] [jI 1] 0 0 (jW (jW (jW (M1, w.2) m 7 (zD law (M1 (m + 4)) len)) m 6 (Int.tmod (zP law f (M1 (m + 4)) len) (zD law (M1 (m + 4)) len))) m 5 1) _
                  refine jWp.ifc (b := true) mt rfl (by decide) rfl ?_
                  show jWp 146 193 [some (jO m), some (jI (x : Int)), some (jI law), some (jJ (zP law f (M1 (m + 4)) len)), none] [] 0 0 (jW (jW (jW (M1, w.2) m 7 (zD law (M1 (m + 4)) len)) m 6 (Int.tmod (zP law f (M1 (m + 4)) len) (zD law (M1 (m + 4)) len))) m 5 1) _
                  refine jWp.blk mt 1 ?_
                  show jWp 146 60 [some (jO m), some (jI (x : Int)), some (jI law), some (jJ (zP law f (M1 (m + 4)) len)), none] [] 0 0 (jW (jW (jW (M1, w.2) m 7 (zD law (M1 (m + 4)) len)) m 6 (Int.tmod (zP law f (M1 (m + 4)) len) (zD law (M1 (m + 4)) len))) m 5 1) _
                  refine jWp.le (l := [some (jO m), some (jI (x : Int)), some (jI law), none, none]) (by exact ⟨rfl, rfl, rfl, trivial⟩) ?_
                  exact ih5 len 0 (jW (jW (jW (M1, w.2) m 7 (zD law (M1 (m + 4)) len)) m 6 (Int.tmod (zP law f (M1 (m + 4)) len) (zD law (M1 (m + 4)) len))) m 5 1).1 (⟨rfl, fun a ga gb => ((jW_f (by omega)).trans ((jW_f (by omega)).trans ((jW_f (by omega)).trans rfl))).trans (hF.2.1 a ga gb), fun j gj => ((jW_k (by omega)).trans ((jW_k (by omega)).trans ((jW_k (by omega)).trans rfl))).trans (hF.2.2 j gj)⟩ : ztr w m (jW (jW (jW (M1, w.2) m 7 (zD law (M1 (m + 4)) len)) m 6 (Int.tmod (zP law f (M1 (m + 4)) len) (zD law (M1 (m + 4)) len))) m 5 1)) ((((jW_k (by decide)).trans ((jW_k (by decide)).trans ((jW_k (by decide)).trans rfl)))).trans k4) (by rw [show (jW (jW (jW (M1, w.2) m 7 (zD law (M1 (m + 4)) len)) m 6 (Int.tmod (zP law f (M1 (m + 4)) len) (zD law (M1 (m + 4)) len))) m 5 1).1 (m + 4) = M1 (m + 4) from ((jW_f (by omega)).trans ((jW_f (by omega)).trans ((jW_f (by omega)).trans rfl)))]; exact hG) (Or.inr (Or.inl ⟨rfl, (jW_s), by omega, by rw [show (jW (jW (jW (M1, w.2) m 7 (zD law (M1 (m + 4)) len)) m 6 (Int.tmod (zP law f (M1 (m + 4)) len) (zD law (M1 (m + 4)) len))) m 5 1).1 (m + 4) = M1 (m + 4) from ((jW_f (by omega)).trans ((jW_f (by omega)).trans ((jW_f (by omega)).trans rfl)))]; assumption, by rw [show (jW (jW (jW (M1, w.2) m 7 (zD law (M1 (m + 4)) len)) m 6 (Int.tmod (zP law f (M1 (m + 4)) len) (zD law (M1 (m + 4)) len))) m 5 1).1 (m + 4) = M1 (m + 4) from ((jW_f (by omega)).trans ((jW_f (by omega)).trans ((jW_f (by omega)).trans rfl)))]; exact (((jW_k (by decide)).trans jW_s))⟩)) (by omega)
        refine jWp.le (l := [some (jO m), some (jI (x : Int)), some (jI law), none, none]) (by exact ⟨rfl, rfl, rfl, trivial⟩) ?_
        exact lp4 _ (zO law).toNat 1 M1 hF (by omega) ⟨Nat.le_refl _, by omega, fun y hy => hA y (by omega), fun n g1 g2 => absurd g1 (by omega)⟩ (Or.inl ⟨rfl, k5, h6l⟩) (Nat.lt_succ_self _)
      · have h3 : (k : Int) < (zO law) := h3
        refine jWp.blk mt 1 ?_
        show _ ∧ jWp 146 35 [some (jO m), some (jI (x : Int)), some (jI law), some (jI (k : Int)), none] [jO m] 0 0 (M1, w.2) _
        refine ⟨rfl, ?_⟩
        refine jWp.getR (pc' := 38) (o := (m + 4)) mt rfl rfl (jtg hW.K0) hW.R3 ?_
        show jWp 146 38 [some (jO m), some (jI (x : Int)), some (jI law), some (jI (k : Int)), none] [jO (m + 4)] 0 0 (M1, w.2) _
        refine jWp.blk mt 2 ?_
        show _ ∧ jWp 146 40 [some (jO m), some (jI (x : Int)), some (jI law), some (jI (k : Int)), none] [jO m, jI (k : Int), jO (m + 4)] 0 0 (M1, w.2) _
        refine ⟨rfl, ?_⟩
        refine jWp.getR (pc' := 43) (o := (m + 2)) mt rfl rfl (jtg hW.K0) hW.R1 ?_
        show jWp 146 43 [some (jO m), some (jI (x : Int)), some (jI law), some (jI (k : Int)), none] [jO (m + 2), jI (k : Int), jO (m + 4)] 0 0 (M1, w.2) _
        refine jWp.blk mt 7 ?_
        show jWp 146 51 [some (jO m), some (jI (x : Int)), some (jI law), some (jI (k : Int)), none] [jI ((3 + (10 * (x : Int))) + (k : Int)), jO (m + 2), jI (k : Int), jO (m + 4)] 0 0 (M1, w.2) _
        refine jWp.iald (pc' := 52) (j := (3 + 10 * x + k)) mt rfl rfl (jird_of hW.K2) (by rw [b32_id (by omega) (by omega)]; omega) (jlt hW.K2 (by omega)) ?_
        rw [show ((M1, w.2).1 (m + 2) (3 + 10 * x + k)) = (M1 (m + 2) (3 + 10 * x + k)) from rfl]
        show jWp 146 52 [some (jO m), some (jI (x : Int)), some (jI law), some (jI (k : Int)), none] [jI (M1 (m + 2) (3 + 10 * x + k)), jI (k : Int), jO (m + 4)] 0 0 (M1, w.2) _
        refine jWp.i2l (pc' := 53) mt rfl rfl (b32_id (by omega) (by omega)) ?_
        show jWp 146 53 [some (jO m), some (jI (x : Int)), some (jI law), some (jI (k : Int)), none] [jJ (M1 (m + 2) (3 + 10 * x + k)), jI (k : Int), jO (m + 4)] 0 0 (M1, w.2) _
        refine jWp.last (pc' := 54) (j := k) mt rfl rfl (jtg hW.K4) (b32_id (by omega) (by omega)) (jlt hW.K4 (by omega)) ?_
        show jWp 146 54 [some (jO m), some (jI (x : Int)), some (jI law), some (jI (k : Int)), none] [] 0 0 (jW (M1, w.2) (m + 4) k (M1 (m + 2) (3 + 10 * x + k))) _
        refine jWp.blk mt 2 ?_
        show jWp 146 26 [some (jO m), some (jI (x : Int)), some (jI law), some (jI ((k : Int) + 1)), none] [] 0 0 (jW (M1, w.2) (m + 4) k (M1 (m + 2) (3 + 10 * x + k))) _
        refine jWp.le (l := [some (jO m), some (jI (x : Int)), some (jI law), some (jI ((k : Int) + 1)), none]) (by exact ⟨rfl, rfl, rfl, rfl, trivial⟩) ?_
        exact ih2 (k + 1) (jW (M1, w.2) (m + 4) k (M1 (m + 2) (3 + 10 * x + k))).1 (by omega) (⟨rfl, fun a ga gb => ((jW_f (by omega)).trans rfl).trans (hF.2.1 a ga gb), fun j gj => ((jW_a (by omega)).trans rfl).trans (hF.2.2 j gj)⟩ : ztr w m (jW (M1, w.2) (m + 4) k (M1 (m + 2) (3 + 10 * x + k)))) (((jW_a (by omega)).trans rfl).trans k4) (((jW_a (by omega)).trans rfl).trans k5) (((jW_a (by omega)).trans rfl).trans h6l) (fun y hy => by rcases Nat.lt_or_ge y k with e | e; exact (jW_k (by omega)).trans (hA y e); rw [show y = k by omega]; exact jW_s.trans (congrFun (hF.2.1 (m + 2) (by omega) (by omega)) _)) (by omega)
  refine jWp.le (l := [some (jO m), some (jI (x : Int)), some (jI law), some (jI 0), none]) (by exact ⟨rfl, rfl, rfl, rfl, trivial⟩) ?_
  exact lp1 _ 0 (jW (jW (jW w m 4 (zO law)) m 5 0) m 6 0).1 (by omega) (⟨rfl, fun a ga gb => ((jW_f (by omega)).trans ((jW_f (by omega)).trans ((jW_f (by omega)).trans rfl))), fun j gj => ((jW_k (by omega)).trans ((jW_k (by omega)).trans ((jW_k (by omega)).trans rfl)))⟩ : ztr w m (jW (jW (jW w m 4 (zO law)) m 5 0) m 6 0)) (((jW_k (by decide)).trans ((jW_k (by decide)).trans jW_s))) (((jW_k (by decide)).trans jW_s)) (jW_s) (fun y hy => absurd hy (by omega)) (Nat.lt_succ_self _)

