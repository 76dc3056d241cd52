section
/-! the two worlds side by side: the class's object at x, the reference's at m -/
/-- the class asks nothing of what lies behind it -/
def cnb (w : jS) (x : Nat) (w1 : jS) : Prop := w1.2 = w.2 ∧ ∀ b, x + 393 ≤ b → w1.1 b = w.1 b
theorem cnb_q {w w1 : jS} {x : Nat} (h : cq w x w1) : cnb w x w1 := ⟨h.1, fun b hb => h.2 b (by omega) (by omega) (by omega)⟩
theorem cnb_W {w w1 : jS} {x a k : Nat} {y : Int} (h : cnb w x w1) (ha : a < x + 393) : cnb w x (jW w1 a k y) :=
  ⟨h.1, fun b hb => (show jup w1.1 a k y b = w1.1 b from funext fun j => if_neg (by omega)).trans (h.2 b hb)⟩
theorem jup_f {M : Nat → Nat → Int} {a k b : Nat} {y : Int} (h : b ≠ a) : jup M a k y b = M b := funext fun j => if_neg (by omega)
/-- a seed of the class (how many letters: h 0, its cells: C), told by the reference's array q -/
def zRS (g : Prop) (h C q : Nat → Int) : Prop := ∃ n, zQ q n ∧ h 0 = (n : Int) ∧ cR g C q n
theorem zRS_F {g : Prop} {h C q : Nat → Int} (r : zRS g h C q) : zRS False h C q := by
  obtain ⟨n, h1, h2, h3⟩ := r
  exact ⟨n, h1, h2, cR_F h3⟩
theorem zRS_c {g : Prop} {h C q h' C' q' : Nat → Int} (r : zRS g h C q) (e0 : h' 0 = h 0) (eC : ∀ j, j < 44 → C' j = C j) (eq : zeq q' q) : zRS g h' C' q' := by
  obtain ⟨n, h1, h2, h3⟩ := r
  exact ⟨n, zQ_c eq h1, e0.trans h2, cR_c eq (cR_C eC h3)⟩
/-- rows, told by the reference's array R -/
def zRR (w : jS) (x : Nat) (R : Nat → Int) : Prop := ∃ c, zRw R c ∧ cRW w x R c
def zIR (w : jS) (x : Nat) (R : Nat → Int) : Prop := ∃ c : Nat, zRw R c ∧ w.1 x 3 = (c : Int) ∧ ∀ i, i < c → cRo w (x + (366 + 6 * i)) (x + (367 + 6 * i)) (x + (368 + 6 * i)) (R (1 + 10 * i)) (R (2 + 10 * i)) (fun z => R (3 + 10 * i + z))
theorem zRw_c {R R' : Nat → Int} {c : Nat} (e : ∀ j, j < 41 → R' j = R j) (h : zRw R c) : zRw R' c := by
  obtain ⟨h1, h2, h3⟩ := h
  refine ⟨(e 0 (by omega)).trans h1, h2, fun i hi => ?_⟩
  obtain ⟨a, b, d⟩ := h3 i hi
  rw [e (1 + 10 * i) (by omega), e (2 + 10 * i) (by omega)]
  refine ⟨a, b, fun y hy => ?_⟩
  rw [e (3 + 10 * i + y) (by omega)]
  exact d y hy
theorem cRo_s {w : jS} {r rs rt : Nat} {law f : Int} {s s' : Nat → Int} (e : ∀ y, y < 8 → s' y = s y) (h : cRo w r rs rt law f s) : cRo w r rs rt law f s' := by
  obtain ⟨h1, h2, h3, len, why, left, h4, h5, h6, ⟨g1, g2, g3, g4⟩, h8⟩ := h
  refine ⟨h1, h2, fun y hy => (h3 y hy).trans (e y hy).symm, len, why, left, h4, h5, h6, ⟨g1, g2, fun y hy => (g3 y hy).trans (e y ?_).symm, g4⟩, h8⟩
  have : (zO law).toNat ≤ 8 := by
    unfold zO
    split
    · decide
    · split
      · omega
      · decide
  omega
theorem cRo_R {w : jS} {r rs rt i c : Nat} {R R' : Nat → Int} (e : ∀ j, j < 41 → R' j = R j) (hi : i < c) (hc : c ≤ 4) (h : cRo w r rs rt (R (1 + 10 * i)) (R (2 + 10 * i)) (fun z => R (3 + 10 * i + z))) : cRo w r rs rt (R' (1 + 10 * i)) (R' (2 + 10 * i)) (fun z => R' (3 + 10 * i + z)) := by
  rw [e (1 + 10 * i) (by omega), e (2 + 10 * i) (by omega)]
  exact cRo_s (fun y hy => e (3 + 10 * i + y) (by omega)) h
theorem zRR_f {w w2 : jS} {x : Nat} {R R' : Nat → Int} (h : zRR w x R) (h1 : w2.1 x 1 = w.1 x 1) (hb : ∀ b, x + 363 ≤ b → b < x + 387 → (∀ y, y < 4 → b ≠ x + (366 + 6 * y) ∧ b ≠ x + (367 + 6 * y) ∧ b ≠ x + (368 + 6 * y)) → w2.1 b = w.1 b) (e : ∀ j, j < 41 → R' j = R j) : zRR w2 x R' := by
  obtain ⟨c, hR, h3, h4⟩ := h
  have h4c : c ≤ 4 := hR.2.1
  refine ⟨c, zRw_c e hR, h1.trans h3, fun i hi => cRo_R e hi h4c (cRo_k (hb _ (by omega) (by omega) (fun y hy => by omega)) (hb _ (by omega) (by omega) (fun y hy => by omega)) (hb _ (by omega) (by omega) (fun y hy => by omega)) (h4 i hi))⟩
theorem zIR_f {w w2 : jS} {x : Nat} {R R' : Nat → Int} (h : zIR w x R) (h1 : w2.1 x 3 = w.1 x 3) (hb : ∀ b, x + 363 ≤ b → b < x + 387 → (∀ y, y < 4 → b ≠ x + (363 + 6 * y) ∧ b ≠ x + (364 + 6 * y) ∧ b ≠ x + (365 + 6 * y)) → w2.1 b = w.1 b) (e : ∀ j, j < 41 → R' j = R j) : zIR w2 x R' := by
  obtain ⟨c, hR, h3, h4⟩ := h
  have h4c : c ≤ 4 := hR.2.1
  refine ⟨c, zRw_c e hR, h1.trans h3, fun i hi => cRo_R e hi h4c (cRo_k (hb _ (by omega) (by omega) (fun y hy => by omega)) (hb _ (by omega) (by omega) (fun y hy => by omega)) (hb _ (by omega) (by omega) (fun y hy => by omega)) (h4 i hi))⟩
/-- what can be undone -/
def zPP (w : jS) (x m : Nat) : Prop := ∃ u : Nat, u ≤ 8 ∧ w.1 m 15 = (u : Int) ∧ w.1 (x + 341) 0 = (u : Int) ∧ ∀ y, y < u → zRS False (w.1 (x + 341 + (2 + 2 * y))) (w.1 (x + 341 + (3 + 2 * y))) (w.1 (m + (8 + y)))
theorem zPP_f {w w2 : jS} {x m : Nat} (h : zPP w x m) (h1 : w2.1 m 15 = w.1 m 15) (hb : ∀ b, x + 341 ≤ b → b < x + 359 → w2.1 b = w.1 b) (hm : ∀ b, m + 8 ≤ b → b < m + 16 → w2.1 b = w.1 b) : zPP w2 x m := by
  obtain ⟨u, h8, a, b, c⟩ := h
  refine ⟨u, h8, h1.trans a, (congrFun (hb _ (by omega) (by omega)) 0).trans b, fun y hy => ?_⟩
  rw [hb (x + 341 + (2 + 2 * y)) (by omega) (by omega), hb (x + 341 + (3 + 2 * y)) (by omega) (by omega), hm (m + (8 + y)) (by omega) (by omega)]
  exact c y hy
/-- the image -/
def zII (w : jS) (x m : Nat) : Prop := (w.1 m 31 = 0 ∧ w.1 x 3 = -1) ∨ (w.1 m 31 = 1 ∧ zIR w x (w.1 (m + 429)) ∧ zRS False (w.1 (x + 5)) (w.1 (x + 6)) (w.1 (m + 428)))
theorem zII_f {w w2 : jS} {x m : Nat} (h : zII w x m) (h1 : w2.1 m 31 = w.1 m 31) (h3 : w2.1 x 3 = w.1 x 3) (hb : ∀ b, x + 363 ≤ b → b < x + 387 → (∀ y, y < 4 → b ≠ x + (363 + 6 * y) ∧ b ≠ x + (364 + 6 * y) ∧ b ≠ x + (365 + 6 * y)) → w2.1 b = w.1 b) (hs : ∀ b, x + 5 ≤ b → b < x + 7 → w2.1 b = w.1 b) (hm : ∀ b, m + 428 ≤ b → b < m + 430 → w2.1 b = w.1 b) : zII w2 x m := by
  rcases h with ⟨a, b⟩ | ⟨a, b, c⟩
  · exact Or.inl ⟨h1.trans a, h3.trans b⟩
  · refine Or.inr ⟨h1.trans a, ?_, ?_⟩
    · rw [hm (m + 429) (by omega) (by omega)]
      exact zIR_f b h3 hb (fun _ _ => rfl)
    · rw [hm (m + 428) (by omega) (by omega), hs (x + 5) (by omega) (by omega), hs (x + 6) (by omega) (by omega)]
      exact c
/-- the lists -/
def zLL (w : jS) (x m : Nat) : Prop := ∀ y, y < 3 → w.1 (x + (387 + 2 * y)) 0 = w.1 (m + 423) y ∧ (-1 ≤ w.1 (m + 423) y ∧ w.1 (m + 423) y ≤ 40) ∧ ∀ j, j < 40 → w.1 (x + (388 + 2 * y)) j = w.1 (m + (425 + y)) j ∧ r32 (w.1 (m + (425 + y)) j)
theorem zLL_f {w w2 : jS} {x m : Nat} (h : zLL w x m) (hb : ∀ b, x + 387 ≤ b → b < x + 393 → w2.1 b = w.1 b) (h1 : w2.1 (m + 423) = w.1 (m + 423)) (hm : ∀ b, m + 425 ≤ b → b < m + 428 → w2.1 b = w.1 b) : zLL w2 x m := by
  intro y hy
  rw [hb (x + (387 + 2 * y)) (by omega) (by omega), hb (x + (388 + 2 * y)) (by omega) (by omega), h1, hm (m + (425 + y)) (by omega) (by omega)]
  exact h y hy
/-- the text -/
def zTT (w : jS) (x m : Nat) : Prop := ∃ F : Nat, F ≤ 72 ∧ w.1 m 24 = (F : Int) ∧ w.1 (x + 339) 0 = (F : Int) ∧ ∀ j, j < F → w.1 (x + 340) j = w.1 (m + 421) j ∧ 0 ≤ w.1 (m + 421) j ∧ w.1 (m + 421) j ≤ 255
theorem zTT_f {w w2 : jS} {x m : Nat} (h : zTT w x m) (h1 : w2.1 m 24 = w.1 m 24) (hb : ∀ b, x + 339 ≤ b → b < x + 341 → w2.1 b = w.1 b) (hm : w2.1 (m + 421) = w.1 (m + 421)) : zTT w2 x m := by
  obtain ⟨F, h2, h3, h4, h5⟩ := h
  rw [zTT, h1, hb (x + 339) (by omega) (by omega), hb (x + 340) (by omega) (by omega), hm]
  exact ⟨F, h2, h3, h4, h5⟩
/-- the refusals -/
def zNN (w : jS) (x m : Nat) : Prop := ∀ j, j < 6 → w.1 (x + 362) j = w.1 (m + 3) (j + 1)
theorem zNN_f {w w2 : jS} {x m : Nat} (h : zNN w x m) (h1 : w2.1 (x + 362) = w.1 (x + 362)) (h2 : w2.1 (m + 3) = w.1 (m + 3)) : zNN w2 x m := by
  rw [zNN, h1, h2]
  exact h
def zWW (w : jS) (x m : Nat) : Prop := CW w.2 x ∧ MW w.2 m ∧ jOK w ∧ x + 393 ≤ m ∧ w.2.2.2.2 < x
theorem zWW_f {w w2 : jS} {x m : Nat} (h : zWW w x m) (e : w2.2 = w.2) (ho : ∀ b, b < x → w2.1 b = w.1 b) : zWW w2 x m := by
  obtain ⟨h1, h2, h3, h4, h5⟩ := h
  refine ⟨by rw [e]; exact h1, by rw [e]; exact h2, ⟨?_, fun j => ?_⟩, h4, by rw [e]; exact h5⟩
  · rw [e]; exact h3.1
  · rw [e, ho _ h5]; exact h3.2 j
def zRel (g : Prop) (x m : Nat) (w : jS) : Prop := zWW w x m ∧ zRR w x (w.1 (m + 2)) ∧ zRS g (w.1 (x + 3)) (w.1 (x + 4)) (w.1 (m + 1)) ∧ zPP w x m ∧ zII w x m ∧ zLL w x m ∧ zTT w x m ∧ zNN w x m
section REL
variable {g : Prop} {x m : Nat} {w : jS} (h : zRel g x m w)
theorem zRel.ww (h : zRel g x m w) : zWW w x m := h.1
theorem zRel.cw (h : zRel g x m w) : CW w.2 x := h.1.1
theorem zRel.mw (h : zRel g x m w) : MW w.2 m := h.1.2.1
theorem zRel.ok (h : zRel g x m w) : jOK w := h.1.2.2.1
theorem zRel.xm (h : zRel g x m w) : x + 393 ≤ m := h.1.2.2.2.1
theorem zRel.ao (h : zRel g x m w) : w.2.2.2.2 < x := h.1.2.2.2.2
theorem zRel.rows (h : zRel g x m w) : zRR w x (w.1 (m + 2)) := h.2.1
theorem zRel.seed (h : zRel g x m w) : zRS g (w.1 (x + 3)) (w.1 (x + 4)) (w.1 (m + 1)) := h.2.2.1
theorem zRel.past (h : zRel g x m w) : zPP w x m := h.2.2.2.1
theorem zRel.img (h : zRel g x m w) : zII w x m := h.2.2.2.2.1
theorem zRel.lists (h : zRel g x m w) : zLL w x m := h.2.2.2.2.2.1
theorem zRel.text (h : zRel g x m w) : zTT w x m := h.2.2.2.2.2.2.1
theorem zRel.refs (h : zRel g x m w) : zNN w x m := h.2.2.2.2.2.2.2
end REL
theorem zRel_F {g : Prop} {x m : Nat} {w : jS} (h : zRel g x m w) : zRel False x m w := ⟨h.1, h.2.1, zRS_F h.2.2.1, h.2.2.2⟩
/-- both have done quietly what they did -/
theorem zRel_q {g : Prop} {x m : Nat} {w w1 w2 : jS} (h : zRel g x m w) (hc : cq w x w1) (hm : mq w1 m w2) : zRel g x m w2 := by
  have xm := h.xm
  have K : ∀ b, b < m → (b < x + 7 ∨ x + 339 ≤ b) → b ≠ x + 360 → b ≠ x + 361 → w2.1 b = w.1 b := fun b h0 h1 h2 h3 => (hm.2.1 b (by omega)).trans (hc.2 b h1 h2 h3)
  have L : ∀ b, m + 1 ≤ b → (b = m + 1 ∨ b = m + 2 ∨ b = m + 3 ∨ (m + 8 ≤ b ∧ b ≤ m + 15) ∨ b = m + 421 ∨ b = m + 423 ∨ (m + 425 ≤ b ∧ b ≤ m + 429)) → w2.1 b = w.1 b := fun b h0 h1 => (hm.2.1 b (by omega)).trans (hc.2 b (by omega) (by omega) (by omega))
  have e1 : w1.1 m = w.1 m := hc.2 m (by omega) (by omega) (by omega)
  have e15 : w2.1 m 15 = w.1 m 15 := hm.2.2.1.trans (congrFun e1 15)
  have e24 : w2.1 m 24 = w.1 m 24 := hm.2.2.2.1.trans (congrFun e1 24)
  have e31 : w2.1 m 31 = w.1 m 31 := hm.2.2.2.2.trans (congrFun e1 31)
  refine ⟨zWW_f h.ww (hm.1.trans hc.1) (fun b hb => K b (by omega) (by omega) (by omega) (by omega)), zRR_f h.rows (congrFun (K x (by omega) (by omega) (by omega) (by omega)) 1) (fun b _ _ _ => K b (by omega) (by omega) (by omega) (by omega)) (fun j _ => congrFun (L (m + 2) (by omega) (by omega)) j), ?_, zPP_f h.past e15 (fun b _ _ => K b (by omega) (by omega) (by omega) (by omega)) (fun b _ _ => L b (by omega) (by omega)), zII_f h.img e31 (congrFun (K x (by omega) (by omega) (by omega) (by omega)) 3) (fun b _ _ _ => K b (by omega) (by omega) (by omega) (by omega)) (fun b _ _ => K b (by omega) (by omega) (by omega) (by omega)) (fun b _ _ => L b (by omega) (by omega)), zLL_f h.lists (fun b _ _ => K b (by omega) (by omega) (by omega) (by omega)) (L _ (by omega) (by omega)) (fun b _ _ => L b (by omega) (by omega)), zTT_f h.text e24 (fun b _ _ => K b (by omega) (by omega) (by omega) (by omega)) (L _ (by omega) (by omega)), zNN_f h.refs (K _ (by omega) (by omega) (by omega) (by omega)) (L _ (by omega) (by omega))⟩
  rw [K (x + 3) (by omega) (by omega) (by omega) (by omega), K (x + 4) (by omega) (by omega) (by omega) (by omega), L (m + 1) (by omega) (by omega)]
  exact h.seed
/-- a refusal counted by both -/
theorem zRel_n {g : Prop} {x m j : Nat} {w w3 : jS} {y : Int} (h : zRel g x m w) (hj : j < 6) (e : w3.2 = w.2) (hf : ∀ b, b ≠ x + 362 → b ≠ m + 3 → w3.1 b = w.1 b) (h1 : ∀ i, w3.1 (x + 362) i = if i = j then y else w.1 (x + 362) i) (h2 : ∀ i, w3.1 (m + 3) i = if i = j + 1 then y else w.1 (m + 3) i) : zRel g x m w3 := by
  have xm := h.xm
  refine ⟨zWW_f h.ww e (fun b hb => hf b (by omega) (by omega)), zRR_f h.rows (congrFun (hf x (by omega) (by omega)) 1) (fun b _ _ _ => hf b (by omega) (by omega)) (fun j _ => congrFun (hf (m + 2) (by omega) (by omega)) j), ?_, zPP_f h.past (congrFun (hf m (by omega) (by omega)) 15) (fun b _ _ => hf b (by omega) (by omega)) (fun b _ _ => hf b (by omega) (by omega)), zII_f h.img (congrFun (hf m (by omega) (by omega)) 31) (congrFun (hf x (by omega) (by omega)) 3) (fun b _ _ _ => hf b (by omega) (by omega)) (fun b _ _ => hf b (by omega) (by omega)) (fun b _ _ => hf b (by omega) (by omega)), zLL_f h.lists (fun b _ _ => hf b (by omega) (by omega)) (hf _ (by omega) (by omega)) (fun b _ _ => hf b (by omega) (by omega)), zTT_f h.text (congrFun (hf m (by omega) (by omega)) 24) (fun b _ _ => hf b (by omega) (by omega)) (hf _ (by omega) (by omega)), fun i hi => ?_⟩
  · rw [hf (x + 3) (by omega) (by omega), hf (x + 4) (by omega) (by omega), hf (m + 1) (by omega) (by omega)]
    exact h.seed
  · rw [h1, h2]
    by_cases e9 : i = j
    · rw [if_pos e9, if_pos (by omega)]
    · rw [if_neg e9, if_neg (by omega)]
      exact h.refs i hi
/-- two answers of ints, of longs -/
def zAI (c : Prop) (x m : Nat) (v v' : Option jV) (w2 : jS) : Prop := (∃ a b, v = some (jI a) ∧ v' = some (jI b) ∧ (c → a = b)) ∧ zRel False x m w2
def zAJ (c : Prop) (x m : Nat) (v v' : Option jV) (w2 : jS) : Prop := (∃ a b, v = some (jJ a) ∧ v' = some (jJ b) ∧ (c → a = b)) ∧ zRel False x m w2
theorem cno_q {w : jS} {x j : Nat} {y : jV} {v : Option jV} {w1 : jS} (h : cno w x j y v w1) : cnq w x j y v w1 := ⟨h.1, w, cq_0, h.2⟩
theorem jno_q {w : jS} {m j : Nat} {y : jV} {v : Option jV} {w1 : jS} (h : jno w m j y v w1) : jnq w m j y v w1 := ⟨h.1, w, mq_0, h.2⟩
theorem cnq_b {w : jS} {x j : Nat} {y : jV} {v : Option jV} {w1 : jS} (h : cnq w x j y v w1) : cnb w x w1 := by
  obtain ⟨-, w2, h1, rfl⟩ := h
  exact cnb_W (cnb_q h1) (by omega)
theorem zRel_no {g : Prop} {x m j : Nat} {w w1 w2 : jS} {y y' : jV} {v v' : Option jV} (h : zRel g x m w) (hj : j < 6) (hc : cnq w x j y v w1) (he : jnq w1 m (j + 1) y' v' w2) : zRel False x m w2 := by
  have xm := h.xm
  obtain ⟨-, wa, ha, rfl⟩ := hc
  obtain ⟨-, wb, hb, rfl⟩ := he
  have e0 : (jW wa (x + 362) j (w.1 (x + 362) j + 1)).1 (m + 3) = w.1 (m + 3) := (jup_f (by omega)).trans (ha.2 _ (by omega) (by omega) (by omega))
  have hq : mq wa m (fun b => if b = x + 362 then wa.1 b else wb.1 b, wb.2) := by
    refine ⟨hb.1, fun a hd => ?_, ?_, ?_, ?_⟩
    · dsimp only
      by_cases e : a = x + 362
      · rw [if_pos e]
      · rw [if_neg e]
        exact (hb.2.1 a hd).trans (jup_f e)
    · dsimp only
      rw [if_neg (by omega)]
      exact hb.2.2.1.trans (congrFun (jup_f (by omega)) 15)
    · dsimp only
      rw [if_neg (by omega)]
      exact hb.2.2.2.1.trans (congrFun (jup_f (by omega)) 24)
    · dsimp only
      rw [if_neg (by omega)]
      exact hb.2.2.2.2.trans (congrFun (jup_f (by omega)) 31)
  have hR := zRel_F (zRel_q h ha hq)
  have ew : w.1 (x + 362) j = w.1 (m + 3) (j + 1) := h.refs j hj
  have ea : wa.1 (x + 362) = w.1 (x + 362) := ha.2 _ (by omega) (by omega) (by omega)
  have eb : wb.1 (x + 362) = (jW wa (x + 362) j (w.1 (x + 362) j + 1)).1 (x + 362) := hb.2.1 _ (by omega)
  refine zRel_n (y := w.1 (x + 362) j + 1) hR hj rfl (fun b h1 h2 => ?_) (fun i => ?_) (fun i => ?_)
  · show jup wb.1 (m + 3) (j + 1) _ b = if b = x + 362 then wa.1 b else wb.1 b
    rw [if_neg h1, jup_f h2]
  · show jup wb.1 (m + 3) (j + 1) _ (x + 362) i = if i = j then _ else (if x + 362 = x + 362 then wa.1 (x + 362) else wb.1 (x + 362)) i
    rw [jup_f (by omega), eb, if_pos rfl]
    show (if x + 362 = x + 362 ∧ i = j then _ else wa.1 (x + 362) i) = _
    by_cases e : i = j
    · rw [if_pos ⟨rfl, e⟩, if_pos e]
    · rw [if_neg (fun q => e q.2), if_neg e]
  · show (if m + 3 = m + 3 ∧ i = j + 1 then _ else wb.1 (m + 3) i) = if i = j + 1 then _ else (if m + 3 = x + 362 then wa.1 (m + 3) else wb.1 (m + 3)) i
    rw [if_neg (show ¬ m + 3 = x + 362 by omega)]
    by_cases e : i = j + 1
    · rw [if_pos ⟨rfl, e⟩, if_pos e, e0, ew]
    · rw [if_neg (fun q => e q.2), if_neg e]
/-! leaves -/
section LEAF
variable {g c : Prop} {x m kC kE j : Nat} {asC asE : List jV} {w : jS}
theorem L_no {y : Int} (h : zRel g x m w) (hj : j < 6) (hC : jCall kC asC w (fun v w1 => cnq w x j (jI y) v w1)) (hE : ∀ w1, cnb w x w1 → jCall kE asE w1 (fun v' w2 => jnq w1 m (j + 1) (jI y) v' w2)) : jCall kC asC w (fun v w1 => w1.2 = w.2 ∧ jCall kE asE w1 (fun v' w2 => zAI c x m v v' w2)) :=
  hC.mono (fun v w1 hc => ⟨(cnq_b hc).1, (hE w1 (cnq_b hc)).mono (fun v' w2 he => ⟨⟨y, y, hc.1, he.1, fun _ => rfl⟩, zRel_no h hj hc he⟩)⟩)
theorem L_noJ {y : Int} (h : zRel g x m w) (hj : j < 6) (hC : jCall kC asC w (fun v w1 => cnq w x j (jJ y) v w1)) (hE : ∀ w1, cnb w x w1 → jCall kE asE w1 (fun v' w2 => jnq w1 m (j + 1) (jJ y) v' w2)) : jCall kC asC w (fun v w1 => w1.2 = w.2 ∧ jCall kE asE w1 (fun v' w2 => zAJ c x m v v' w2)) :=
  hC.mono (fun v w1 hc => ⟨(cnq_b hc).1, (hE w1 (cnq_b hc)).mono (fun v' w2 he => ⟨⟨y, y, hc.1, he.1, fun _ => rfl⟩, zRel_no h hj hc he⟩)⟩)
theorem L_ok (h : zRel g x m w) (hC : jCall kC asC w (fun v w1 => ∃ y, (v = some (jI y) ∧ cq w x w1) ∧ jCall kE asE w1 (fun v' w2 => ∃ y', (v' = some (jI y') ∧ mq w1 m w2) ∧ (c → y = y')))) : jCall kC asC w (fun v w1 => w1.2 = w.2 ∧ jCall kE asE w1 (fun v' w2 => zAI c x m v v' w2)) :=
  hC.mono (fun v w1 hc => by
    obtain ⟨y, ⟨h1, h2⟩, h3⟩ := hc
    exact ⟨h2.1, h3.mono (fun v' w2 he => by
      obtain ⟨y', ⟨g1, g2⟩, g3⟩ := he
      exact ⟨⟨y, y', h1, g1, g3⟩, zRel_F (zRel_q h h2 g2)⟩)⟩)
theorem L_okJ (h : zRel g x m w) (hC : jCall kC asC w (fun v w1 => ∃ y, (v = some (jJ y) ∧ cq w x w1) ∧ jCall kE asE w1 (fun v' w2 => ∃ y', (v' = some (jJ y') ∧ mq w1 m w2) ∧ (c → y = y')))) : jCall kC asC w (fun v w1 => w1.2 = w.2 ∧ jCall kE asE w1 (fun v' w2 => zAJ c x m v v' w2)) :=
  hC.mono (fun v w1 hc => by
    obtain ⟨y, ⟨h1, h2⟩, h3⟩ := hc
    exact ⟨h2.1, h3.mono (fun v' w2 he => by
      obtain ⟨y', ⟨g1, g2⟩, g3⟩ := he
      exact ⟨⟨y, y', h1, g1, g3⟩, zRel_F (zRel_q h h2 g2)⟩)⟩)
end LEAF
end
section
/-! the asks: quiet calls, class and reference side by side -/
section ASK
variable {g : Prop} {x m : Nat} {w w1 : jS}
theorem zmb (h : zRel g x m w) (q : cnb w x w1) : MW w1.2 m := by rw [q.1]; exact h.mw
theorem zcb (h : zRel g x m w) (q : cnb w x w1) {b : Nat} (hb : m ≤ b) : w1.1 b = w.1 b := q.2 b (by have := h.xm; omega)
theorem cnb_0 : cnb w x w := ⟨rfl, fun _ _ => rfl⟩
end ASK
theorem zkp_c {law : Int} {t t' : Nat → Int} {len : Nat} (e : ∀ j, j < len → t j = t' j) (n : Nat) : zkp law t len n ↔ zkp law t' len n := by
  unfold zkp
  refine and_congr_right fun _ => forall_congr' fun k => forall_congr' fun _ => forall_congr' fun _ => ?_
  constructor
  · intro ⟨a, b⟩; rw [e k a] at b; exact ⟨a, b⟩
  · intro ⟨a, b⟩; rw [← e k a] at b; exact ⟨a, b⟩
theorem zk_c {law f : Int} {t t' : Nat → Int} {len n : Nat} (e : ∀ j, j < len → t j = t' j) (h : zkp law t len n) : zku law f t n = zku law f t' n ∧ zkd law t n = zkd law t' n := by
  obtain ⟨h1, h2⟩ := h
  have E : ∀ k, k < zkm law → t (n + k) = t' (n + k) := fun k hk => e _ (h2 (n + k) (by omega) (by omega)).1
  unfold zku zkd
  by_cases c0 : law = 0
  · have k2 : zkm law = 2 := by rw [c0]; decide
    rw [if_pos c0, if_pos c0, if_pos c0, if_pos c0]
    have a0 := E 0 (by omega); have a1 := E 1 (by omega)
    rw [Nat.add_zero] at a0
    rw [a0, a1]
    exact ⟨rfl, rfl⟩
  · rw [if_neg c0, if_neg c0, if_neg c0, if_neg c0]
    by_cases c1 : law = 1
    · have k2 : zkm law = 3 := by rw [c1]; decide
      rw [if_pos c1, if_pos c1, if_pos c1, if_pos c1]
      have a0 := E 0 (by omega); have a1 := E 1 (by omega); have a2 := E 2 (by omega)
      rw [Nat.add_zero] at a0
      rw [a0, a1, a2]
      exact ⟨rfl, rfl⟩
    · rw [if_neg c1, if_neg c1, if_neg c1, if_neg c1]
      have k4 : zkm law = 4 := by
        unfold zkm at h1 ⊢
        rw [if_neg c0, if_neg c1] at h1 ⊢
        split at h1
        · rename_i c3; rw [if_pos c3]
        · exact absurd rfl h1
      have a0 := E 0 (by omega); have a1 := E 1 (by omega); have a2 := E 2 (by omega); have a3 := E 3 (by omega)
      rw [Nat.add_zero] at a0
      rw [a0, a1, a2, a3]
      exact ⟨rfl, rfl⟩
theorem zba_P {P : (Nat → Int) → Prop} {n a k : Nat} {L : List zE} (hP : ∀ q k, P q → k < n → zcan q n k → P (zxF q n k)) (hk : k < n) (ha : a < L.length) (h : ∀ o, o < L.length → P (zL L o).1) : L.length ≤ (zba n a k L).length ∧ ∀ o, o < (zba n a k L).length → P (zL (zba n a k L) o).1 := by
  by_cases c : zcan (zL L a).1 n k ∧ znw2 L n (zxF (zL L a).1 n k)
  · rw [zba_t c]
    refine ⟨by rw [List.length_append]; omega, fun o ho => ?_⟩
    rw [List.length_append] at ho
    simp only [List.length_cons, List.length_nil] at ho
    rcases Nat.lt_or_ge o L.length with q | q
    · rw [zL_l q]
      exact h o q
    · have e : o = L.length := by omega
      subst e
      rw [zL_r]
      exact hP _ _ (h a ha) hk c.1
  · rw [zba_f c]
    exact ⟨Nat.le_refl _, h⟩
theorem zbi_P {P : (Nat → Int) → Prop} {n a : Nat} (hP : ∀ q k, P q → k < n → zcan q n k → P (zxF q n k)) : ∀ f k (L : List zE), k + f ≤ n → a < L.length → (∀ o, o < L.length → P (zL L o).1) → L.length ≤ (zbi n a f k L).length ∧ ∀ o, o < (zbi n a f k L).length → P (zL (zbi n a f k L) o).1
  | 0, _, _, _, _, h => ⟨Nat.le_refl _, h⟩
  | f + 1, k, L, hk, ha, h => by
    obtain ⟨h1, h2⟩ := zba_P (k := k) hP (by omega) ha h
    obtain ⟨h3, h4⟩ := zbi_P hP f (k + 1) _ (by omega) (Nat.lt_of_lt_of_le ha h1) h2
    exact ⟨Nat.le_trans h1 h3, h4⟩
theorem zbo_P {P : (Nat → Int) → Prop} {n d : Nat} (hP : ∀ q k, P q → k < n → zcan q n k → P (zxF q n k)) : ∀ f a (L : List zE), (∀ o, o < L.length → P (zL L o).1) → ∀ o, o < (zbo n d f a L).length → P (zL (zbo n d f a L) o).1
  | 0, _, _, h => h
  | f + 1, a, L, h => by
    by_cases c : a < L.length ∧ (zL L a).2.2.2 < d
    · rw [zbo_t c]
      exact zbo_P hP f (a + 1) _ (zbi_P hP n 0 L (by omega) c.1 h).2
    · rw [zbo_f c]
      exact h
theorem zBF_P {P : (Nat → Int) → Prop} {n d : Nat} {q : Nat → Int} (hP : ∀ q k, P q → k < n → zcan q n k → P (zxF q n k)) (hq : P q) : ∀ o, o < (zBF n d q).length → P (zL (zBF n d q) o).1 := by
  refine zbo_P hP 400 0 _ (fun o ho => ?_)
  have e : o = 0 := by simp only [List.length_cons, List.length_nil] at ho; omega
  subst e
  exact hq
set_option maxHeartbeats 2000000 in
theorem T_entry {g : Prop} {x m : Nat} {w : jS} (h : zRel g x m w) {i j : Int} (hri : r32 i) (hrj : r32 j) : jCall 104 [jO x, jI i, jI j] w (fun v w1 => w1.2 = w.2 ∧ jCall 170 [jO m, jI i, jI j] w1 (fun v' w2 => zAI (True) x m v v' w2)) := by
  have xm := h.xm
  obtain ⟨n, hQ, hn0, hRR⟩ := h.seed
  have hC := C_entry (w := w) (x := x) h.cw hQ hn0 hRR hri hrj
  have hE := fun (w1 : jS) (hq : cnb w x w1) => E_entry (w := w1) (m := m) (n := n) (zmb h hq) (by rw [zcb h hq (show m ≤ m + 1 by omega)]; exact hQ.1) hri hrj
  by_cases g0 : ¬ (0 ≤ i ∧ i < (n : Int)) ∨ ¬ (0 ≤ j ∧ j < (n : Int))
  · exact L_no h (show 0 < 6 by decide) (hC.mono fun v w1 hc => cno_q (hc.1 g0)) (fun w1 hq => (hE w1 hq).mono fun v' w2 he => jno_q (he.1 g0))
  refine L_ok h (hC.mono fun v w1 hc => ?_)
  obtain ⟨h1, rfl⟩ := hc.2 g0
  exact ⟨_, ⟨h1, cq_0⟩, (hE _ cnb_0).mono fun v' w2 he => ⟨_, ⟨(he.2 g0).1, by rw [(he.2 g0).2]; exact mq_0⟩, fun _ => rfl⟩⟩
set_option maxHeartbeats 2000000 in
theorem T_value {g : Prop} {x m : Nat} {w : jS} (h : zRel g x m w) {i p : Int} (hri : r32 i) (hrp : r32 p) : jCall 105 [jO x, jI i, jI p] w (fun v w1 => w1.2 = w.2 ∧ jCall 171 [jO m, jI i, jI p] w1 (fun v' w2 => zAI (True) x m v v' w2)) := by
  have xm := h.xm
  obtain ⟨n, hQ, hn0, hRR⟩ := h.seed
  have hC := C_value (w := w) (x := x) h.cw hQ hn0 hRR hri hrp
  have hE := fun (w1 : jS) (hq : cnb w x w1) => E_value (w := w1) (m := m) (n := n) (zmb h hq) (by rw [zcb h hq (show m ≤ m + 1 by omega)]; exact hQ.1) hri hrp
  by_cases g0 : ¬ (0 ≤ i ∧ i < (n : Int))
  · exact L_no h (show 0 < 6 by decide) (hC.mono fun v w1 hc => cno_q (hc.1 g0)) (fun w1 hq => (hE w1 hq).mono fun v' w2 he => jno_q (he.1 g0))
  by_cases g1 : ¬ (0 ≤ p ∧ p ≤ 1)
  · exact L_no h (show 1 < 6 by decide) (hC.mono fun v w1 hc => cno_q (hc.2.1 g0 g1)) (fun w1 hq => (hE w1 hq).mono fun v' w2 he => jno_q (he.2.1 g0 g1))
  refine L_ok h (hC.mono fun v w1 hc => ?_)
  obtain ⟨h1, rfl⟩ := hc.2.2 g0 g1
  exact ⟨_, ⟨h1, cq_0⟩, (hE _ cnb_0).mono fun v' w2 he => ⟨_, ⟨(he.2.2 g0 g1).1, by rw [(he.2.2 g0 g1).2]; exact mq_0⟩, fun _ => rfl⟩⟩
set_option maxHeartbeats 2000000 in
theorem T_sinks {g : Prop} {x m : Nat} {w : jS} (h : zRel g x m w) {a : Int} (hra : r32 a) : jCall 111 [jO x, jI a] w (fun v w1 => w1.2 = w.2 ∧ jCall 185 [jO m, jI a] w1 (fun v' w2 => zAI (True) x m v v' w2)) := by
  have xm := h.xm
  obtain ⟨n, hQ, hn0, hRR⟩ := h.seed
  have hC := C_sinks (w := w) (x := x) h.cw hQ hn0 hRR hra
  have hE := fun (w1 : jS) (hq : cnb w x w1) => E_sinks (w := w1) (m := m) (n := n) (zmb h hq) (by rw [zcb h hq (show m ≤ m + 1 by omega)]; exact hQ.1) hra
  by_cases g0 : ¬ (0 ≤ a ∧ a ≤ 1)
  · exact L_no h (show 1 < 6 by decide) (hC.mono fun v w1 hc => cno_q (hc.1 g0)) (fun w1 hq => (hE w1 hq).mono fun v' w2 he => jno_q (he.1 g0))
  refine L_ok h (hC.mono fun v w1 hc => ?_)
  obtain ⟨h1, rfl⟩ := hc.2 g0
  exact ⟨_, ⟨h1, cq_0⟩, (hE _ cnb_0).mono fun v' w2 he => ⟨_, ⟨(he.2 g0).1, by rw [(he.2 g0).2]; exact mq_0⟩, fun _ => rfl⟩⟩
set_option maxHeartbeats 2000000 in
theorem T_power {g : Prop} {x m : Nat} {w : jS} (h : zRel g x m w) {i j : Int} (hri : r32 i) (hrj : r32 j) : jCall 106 [jO x, jI i, jI j] w (fun v w1 => w1.2 = w.2 ∧ jCall 172 [jO m, jI i, jI j] w1 (fun v' w2 => zAI (g) x m v v' w2)) := by
  have xm := h.xm
  obtain ⟨n, hQ, hn0, hRR⟩ := h.seed
  have hC := C_power (w := w) (x := x) h.cw hQ hn0 hRR hri hrj
  have hE := fun (w1 : jS) (hq : cnb w x w1) => E_power (w := w1) (m := m) (n := n) (zmb h hq) (by rw [zcb h hq (show m ≤ m + 1 by omega)]; exact hQ.1) hri hrj
  by_cases g0 : ¬ (0 ≤ i ∧ i < (n : Int)) ∨ ¬ (0 ≤ j ∧ j < (n : Int))
  · exact L_no h (show 0 < 6 by decide) (hC.mono fun v w1 hc => cno_q (hc.1 g0)) (fun w1 hq => (hE w1 hq).mono fun v' w2 he => jno_q (he.1 g0))
  refine L_ok h (hC.mono fun v w1 hc => ?_)
  obtain ⟨rfl, y, h1, h2⟩ := hc.2 g0
  exact ⟨y, ⟨h1, cq_0⟩, (hE _ cnb_0).mono fun v' w2 he => ⟨_, ⟨(he.2 g0).1, by rw [(he.2 g0).2]; exact mq_0⟩, h2⟩⟩
set_option maxHeartbeats 2000000 in
theorem T_whole {g : Prop} {x m : Nat} {w : jS} (h : zRel g x m w) {G : (Nat → Int) → Prop} (hG : zG G) (hgq : g → G (w.1 (m + 1))) {i : Int} (hri : r32 i) : jCall 110 [jO x, jI i] w (fun v w1 => w1.2 = w.2 ∧ jCall 184 [jO m, jI i] w1 (fun v' w2 => zAI (g) x m v v' w2)) := by
  have xm := h.xm
  obtain ⟨n, hQ, hn0, hRR⟩ := h.seed
  have hC := C_whole (w := w) (x := x) h.cw hQ hn0 hRR hri
  have hE := fun (w1 : jS) (hq : cnb w x w1) => E_whole (w := w1) (m := m) (n := n) (zmb h hq) (by rw [zcb h hq (show m ≤ m + 1 by omega)]; exact hQ.1) (by rw [zcb h hq (show m ≤ m + 1 by omega)]; exact fun c hc => ⟨by have := (hQ.2.1 c hc).1; omega, (hQ.2.1 c hc).2⟩) hri
  by_cases g0 : ¬ (0 ≤ i ∧ i < (n : Int))
  · exact L_no h (show 0 < 6 by decide) (hC.mono fun v w1 hc => cno_q (hc.1 g0)) (fun w1 hq => (hE w1 hq).mono fun v' w2 he => jno_q (he.1 g0))
  refine L_ok h (hC.mono fun v w1 hc => ?_)
  obtain ⟨rfl, y, h1, h2, h3⟩ := hc.2 g0
  refine ⟨y, ⟨h1, cq_0⟩, (hE _ cnb_0).mono fun v' w2 he => ?_⟩
  obtain ⟨y2, e1, rfl, e2, e3⟩ := he.2 g0
  refine ⟨y2, ⟨e1, mq_0⟩, fun gg => ?_⟩
  have d := hG.2.2.2.2 _ _ hQ (hgq gg) i.toNat (by omega)
  rw [h3 d, e3 d]
set_option maxHeartbeats 2000000 in
theorem T_ring {g : Prop} {x m : Nat} {w : jS} (h : zRel g x m w) {i j : Int} (hri : r32 i) (hrj : r32 j) : jCall 112 [jO x, jI i, jI j] w (fun v w1 => w1.2 = w.2 ∧ jCall 187 [jO m, jI i, jI j] w1 (fun v' w2 => zAI (True) x m v v' w2)) := by
  have xm := h.xm
  obtain ⟨n, hQ, hn0, hRR⟩ := h.seed
  have hC := C_ring (w := w) (x := x) h.cw hQ hn0 hRR hri hrj
  have hE := fun (w1 : jS) (hq : cnb w x w1) => E_ring (w := w1) (m := m) (n := n) (zmb h hq) (by rw [zcb h hq (show m ≤ m + 1 by omega)]; exact hQ.1) hri hrj
  have ce : ∀ {w1 : jS}, cnb w x w1 → w1.1 (m + 1) = w.1 (m + 1) := fun hq => zcb h hq (by omega)
  by_cases g0 : ¬ (0 ≤ i ∧ i < (n : Int)) ∨ ¬ (0 ≤ j ∧ j < (n : Int)) ∨ i = j
  · exact L_no h (show 0 < 6 by decide) (hC.mono fun v w1 hc => cno_q (hc.1 g0)) (fun w1 hq => (hE w1 hq).mono fun v' w2 he => jno_q (he.1 g0))
  refine L_ok h (hC.mono fun v w1 hc => ?_)
  obtain ⟨h1, h2⟩ := hc.2 g0
  exact ⟨_, ⟨h1, h2⟩, (hE _ (cnb_q h2)).mono fun v' w2 he => ⟨_, he.2 g0, fun _ => by rw [ce (cnb_q h2)]⟩⟩
set_option maxHeartbeats 2000000 in
theorem T_fewest {g : Prop} {x m : Nat} {w : jS} (h : zRel g x m w) {G : (Nat → Int) → Prop} (hG : zG G) (hgq : g → G (w.1 (m + 1))) {a b i : Int} (hra : r32 a) (hrb : r32 b) (hri : r32 i) : jCall 114 [jO x, jI a, jI b, jI i] w (fun v w1 => w1.2 = w.2 ∧ jCall 194 [jO m, jI a, jI b, jI i] w1 (fun v' w2 => zAI (True) x m v v' w2)) := by
  have xm := h.xm
  obtain ⟨n, hQ, hn0, hRR⟩ := h.seed
  have hC := C_fewest (w := w) (x := x) h.cw hQ hn0 hRR hG hgq hra hrb hri
  have hE := fun (w1 : jS) (hq : cnb w x w1) => E_fewest (w := w1) (m := m) (n := n) (zmb h hq) (by rw [zcb h hq (show m ≤ m + 1 by omega)]; exact hQ) hra hrb hri
  have ce : ∀ {w1 : jS}, cnb w x w1 → w1.1 (m + 1) = w.1 (m + 1) := fun hq => zcb h hq (by omega)
  by_cases g0 : a < 0 ∨ b < 1 ∨ i < -1
  · exact L_no h (show 3 < 6 by decide) (hC.mono fun v w1 hc => cno_q (hc.1 g0)) (fun w1 hq => (hE w1 hq).mono fun v' w2 he => jno_q (he.1 g0))
  refine L_ok h (hC.mono fun v w1 hc => ?_)
  obtain ⟨h1, h2⟩ := hc.2 g0
  exact ⟨_, ⟨h1, h2⟩, (hE _ (cnb_q h2)).mono fun v' w2 he => ⟨_, he.2 g0, fun _ => by rw [ce (cnb_q h2)]⟩⟩
set_option maxHeartbeats 2000000 in
theorem T_reached {g : Prop} {x m : Nat} {w : jS} (h : zRel g x m w) {G : (Nat → Int) → Prop} (hG : zG G) (hgq : g → G (w.1 (m + 1))) {d a : Int} (hrd : r32 d) (hra : r32 a) : jCall 113 [jO x, jI d, jI a] w (fun v w1 => w1.2 = w.2 ∧ jCall 192 [jO m, jI d, jI a] w1 (fun v' w2 => zAI (a ≤ 1 ∨ g) x m v v' w2)) := by
  have xm := h.xm
  obtain ⟨n, hQ, hn0, hRR⟩ := h.seed
  have hC := C_reached (w := w) (x := x) h.cw hQ hn0 hRR hG hgq hrd hra
  have hE := fun (w1 : jS) (hq : cnb w x w1) => E_reached (w := w1) (m := m) (n := n) (zmb h hq) (by rw [zcb h hq (show m ≤ m + 1 by omega)]; exact hQ) hrd hra
  have ce : ∀ {w1 : jS}, cnb w x w1 → w1.1 (m + 1) = w.1 (m + 1) := fun hq => zcb h hq (by omega)
  by_cases g0 : d < 0
  · exact L_no h (show 3 < 6 by decide) (hC.mono fun v w1 hc => cno_q (hc.1 g0)) (fun w1 hq => (hE w1 hq).mono fun v' w2 he => jno_q (he.1 g0))
  by_cases g1 : 4 < d
  · exact L_no h (show 5 < 6 by decide) (hC.mono fun v w1 hc => cno_q (hc.2.1 g0 g1)) (fun w1 hq => (hE w1 hq).mono fun v' w2 he => jno_q (he.2.1 g0 g1))
  by_cases g2 : ¬ (0 ≤ a ∧ a ≤ 3)
  · exact L_no h (show 1 < 6 by decide) (hC.mono fun v w1 hc => cno_q (hc.2.2.1 g0 g1 g2)) (fun w1 hq => (hE w1 hq).mono fun v' w2 he => jno_q (he.2.2.1 g0 g1 g2))
  refine L_ok h (hC.mono fun v w1 hc => ?_)
  obtain ⟨h2, c0, c1, c2, c3⟩ := hc.2.2.2 g0 g1 g2
  have key : ∀ o i, o < (zBF n d.toNat (w.1 (m + 1))).length → i < n → g → (zL (zBF n d.toNat (w.1 (m + 1))) o).1 (25 + i) = 1 := fun o i ho hi gg => by
    have hp := zBF_P (P := fun q => zQ q n ∧ G q) (n := n) (d := d.toNat) (fun q k hq hk hc => ⟨zQ_x hq.1 (by have := hQ.1.2.2.1; omega) hc, hG.2.1 _ _ _ hq.1 hk hc hq.2⟩) ⟨hQ, hgq gg⟩ o ho
    exact hG.2.2.2.2 _ _ hp.1 hp.2 i hi
  have hE2 := hE _ (cnb_q h2)
  rw [ce (cnb_q h2)] at hE2
  rcases (show a = 0 ∨ a = 1 ∨ a = 2 ∨ a = 3 by omega) with e | e | e | e
  · exact ⟨_, ⟨c0 e, h2⟩, hE2.mono fun v' w2 he => ⟨_, ⟨(he.2.2.2 g0 g1 g2).2.1 e, (he.2.2.2 g0 g1 g2).1⟩, fun _ => rfl⟩⟩
  · exact ⟨_, ⟨c1 e, h2⟩, hE2.mono fun v' w2 he => ⟨_, ⟨(he.2.2.2 g0 g1 g2).2.2.1 e, (he.2.2.2 g0 g1 g2).1⟩, fun _ => rfl⟩⟩
  · obtain ⟨y, d1, d2⟩ := c2 e
    exact ⟨y, ⟨d1, h2⟩, hE2.mono fun v' w2 he => ⟨_, ⟨(he.2.2.2 g0 g1 g2).2.2.2.1 e, (he.2.2.2 g0 g1 g2).1⟩, fun q => d2 (q.resolve_left (by omega))⟩⟩
  · obtain ⟨y, d1, d2⟩ := c3 e
    refine ⟨y, ⟨d1, h2⟩, hE2.mono fun v' w2 he => ?_⟩
    obtain ⟨y2, d3, d4⟩ := (he.2.2.2 g0 g1 g2).2.2.2.2 e
    refine ⟨y2, ⟨d3, (he.2.2.2 g0 g1 g2).1⟩, fun q => ?_⟩
    have gg := q.resolve_left (by omega)
    rw [d2 (fun o i ho hi => key o i ho hi gg), d4 (fun o i ho hi => key o i ho hi gg)]
set_option maxHeartbeats 2000000 in
theorem T_lots {g : Prop} {x m : Nat} {w : jS} (h : zRel g x m w) {G : (Nat → Int) → Prop} (hG : zG G) (hgq : g → G (w.1 (m + 1))) {N z a : Int} (hrN : r32 N) (hra : r32 a) : jCall 115 [jO x, jI N, jI z, jI a] w (fun v w1 => w1.2 = w.2 ∧ jCall 196 [jO m, jI N, jI z, jI a] w1 (fun v' w2 => zAI (a = 0 ∨ g) x m v v' w2)) := by
  have xm := h.xm
  obtain ⟨n, hQ, hn0, hRR⟩ := h.seed
  have hC := C_lots (w := w) (x := x) h.cw hQ hn0 hRR hG hgq (z := z) hrN hra
  have hE := fun (w1 : jS) (hq : cnb w x w1) => E_lots (w := w1) (m := m) (n := n) (zmb h hq) (by rw [zcb h hq (show m ≤ m + 1 by omega)]; exact hQ.1) (z := z) hrN hra
  have ce : ∀ {w1 : jS}, cnb w x w1 → w1.1 (m + 1) = w.1 (m + 1) := fun hq => zcb h hq (by omega)
  by_cases g0 : N < 1
  · exact L_no h (show 3 < 6 by decide) (hC.mono fun v w1 hc => cno_q (hc.1 g0)) (fun w1 hq => (hE w1 hq).mono fun v' w2 he => jno_q (he.1 g0))
  by_cases g1 : 30 < N
  · exact L_no h (show 5 < 6 by decide) (hC.mono fun v w1 hc => cno_q (hc.2.1 g0 g1)) (fun w1 hq => (hE w1 hq).mono fun v' w2 he => jno_q (he.2.1 g0 g1))
  by_cases g2 : ¬ (0 ≤ a ∧ a ≤ 1)
  · exact L_no h (show 1 < 6 by decide) (hC.mono fun v w1 hc => cno_q (hc.2.2.1 g0 g1 g2)) (fun w1 hq => (hE w1 hq).mono fun v' w2 he => jno_q (he.2.2.1 g0 g1 g2))
  refine L_ok h (hC.mono fun v w1 hc => ?_)
  obtain ⟨h2, c0, c1⟩ := hc.2.2.2 g0 g1 g2
  have hE2 := hE _ (cnb_q h2)
  rw [ce (cnb_q h2)] at hE2
  rcases (show a = 0 ∨ a = 1 by omega) with e | e
  · exact ⟨_, ⟨c0 e, h2⟩, hE2.mono fun v' w2 he => ⟨_, (he.2.2.2 g0 g1 g2).1 e, fun _ => rfl⟩⟩
  · obtain ⟨y, d1, d2⟩ := c1 e
    exact ⟨y, ⟨d1, h2⟩, hE2.mono fun v' w2 he => ⟨_, (he.2.2.2 g0 g1 g2).2 e, fun q => d2 (q.resolve_left (by omega))⟩⟩
set_option maxHeartbeats 2000000 in
theorem T_count {g : Prop} {x m : Nat} {w : jS} (h : zRel g x m w) {G : (Nat → Int) → Prop} (hG : zG G) (hgq : g → G (w.1 (m + 1))) {b : Int} (hrb : r32 b) : jCall 127 [jO x, jI b] w (fun v w1 => w1.2 = w.2 ∧ jCall 219 [jO m, jI b] w1 (fun v' w2 => zAI (b ≠ 5 ∨ g) x m v v' w2)) := by
  have xm := h.xm
  obtain ⟨n, hQ, hn0, hRR⟩ := h.seed
  obtain ⟨c, hR, hRW⟩ := h.rows
  obtain ⟨F, hF72, hFm, hFx, -⟩ := h.text
  obtain ⟨u, hu8, hum, hux, -⟩ := h.past
  have hC := C_count (w := w) (x := x) h.cw hQ hn0 hRR hG hgq hRW.1 hFx hux hrb
  have hE := fun (w1 : jS) (hq : cnb w x w1) => E_count (w := w1) (m := m) (n := n) (zmb h hq) (by rw [zcb h hq (show m ≤ m + 1 by omega)]; exact hQ.1) hrb
  refine L_ok h (hC.mono fun v w1 hc => ?_)
  obtain ⟨rfl, c0, c1, c2, c3, c4, c5, c6, c7⟩ := hc
  have hE2 := hE _ cnb_0
  rcases (show b = 0 ∨ b = 1 ∨ b = 2 ∨ b = 3 ∨ b = 4 ∨ b = 5 ∨ (11 ≤ b ∧ b ≤ 16) ∨ (b < 0 ∨ (5 < b ∧ b < 11) ∨ 16 < b) by omega) with e | e | e | e | e | e | e | e
  · exact ⟨_, ⟨c0 e, cq_0⟩, hE2.mono fun v' w2 he => ⟨_, ⟨(he.1 e).1, by rw [(he.1 e).2]; exact mq_0⟩, fun _ => hR.1.symm⟩⟩
  · exact ⟨_, ⟨c1 e, cq_0⟩, hE2.mono fun v' w2 he => ⟨_, ⟨(he.2.1 e).1, by rw [(he.2.1 e).2]; exact mq_0⟩, fun _ => rfl⟩⟩
  · exact ⟨_, ⟨c2 e, cq_0⟩, hE2.mono fun v' w2 he => ⟨_, ⟨(he.2.2.1 e).1, by rw [(he.2.2.1 e).2]; exact mq_0⟩, fun _ => hFm.symm⟩⟩
  · exact ⟨_, ⟨c3 e, cq_0⟩, hE2.mono fun v' w2 he => ⟨_, ⟨(he.2.2.2.1 e).1, by rw [(he.2.2.2.1 e).2]; exact mq_0⟩, fun _ => hum.symm⟩⟩
  · exact ⟨_, ⟨c4 e, cq_0⟩, hE2.mono fun v' w2 he => ⟨_, ⟨(he.2.2.2.2.1 e).1, by rw [(he.2.2.2.2.1 e).2]; exact mq_0⟩, fun _ => rfl⟩⟩
  · obtain ⟨y, d1, d2⟩ := c5 e
    exact ⟨y, ⟨d1, cq_0⟩, hE2.mono fun v' w2 he => ⟨_, ⟨(he.2.2.2.2.2.1 e).1, by rw [(he.2.2.2.2.2.1 e).2]; exact mq_0⟩, fun q => d2 (q.resolve_left (fun z => z e))⟩⟩
  · exact ⟨_, ⟨c6 e, cq_0⟩, hE2.mono fun v' w2 he => ⟨_, ⟨(he.2.2.2.2.2.2.1 e).1, by rw [(he.2.2.2.2.2.2.1 e).2]; exact mq_0⟩, fun _ => by rw [show (b - 10).toNat = (b - 11).toNat + 1 by omega]; exact h.refs _ (by omega)⟩⟩
  · exact ⟨_, ⟨c7 e, cq_0⟩, hE2.mono fun v' w2 he => ⟨_, ⟨(he.2.2.2.2.2.2.2 e).1, by rw [(he.2.2.2.2.2.2.2 e).2]; exact mq_0⟩, fun _ => rfl⟩⟩
set_option maxHeartbeats 2000000 in
theorem T_of {g : Prop} {x m : Nat} {w : jS} (h : zRel g x m w) {a b : Int} (hra : r32 a) (hrb : r32 b) : jCall 94 [jO x, jI a, jI b] w (fun v w1 => w1.2 = w.2 ∧ jCall 150 [jO m, jI a, jI b] w1 (fun v' w2 => zAI (True) x m v v' w2)) := by
  have xm := h.xm
  obtain ⟨c, hR, hRW⟩ := h.rows
  have hC := C_of (w := w) (x := x) h.cw hR hRW h.ok hra hrb
  have hE := fun (w1 : jS) (hq : cnb w x w1) => E_of (w := w1) (m := m) (c := c) (zmb h hq) (by rw [zcb h hq (show m ≤ m + 2 by omega)]; exact hR) hra hrb
  by_cases g0 : ¬ (0 ≤ a ∧ a < (c : Int))
  · exact L_no h (show 0 < 6 by decide) (hC.mono fun v w1 hc => cno_q (hc.1 g0)) (fun w1 hq => (hE w1 hq).mono fun v' w2 he => jno_q (he.1 g0))
  by_cases g1 : ¬ (0 ≤ b ∧ b ≤ 6)
  · exact L_no h (show 1 < 6 by decide) (hC.mono fun v w1 hc => cno_q (hc.2.1 g0 g1)) (fun w1 hq => (hE w1 hq).mono fun v' w2 he => jno_q (he.2.1 g0 g1))
  refine L_ok h (hC.mono fun v w1 hc => ?_)
  obtain ⟨t, len, why, left, hT, rfl, c0, c1, c2, c3, c4, c5, c6⟩ := hc.2.2 g0 g1
  have key : ∀ y, v = some (jI y) → (∀ (t' : Nat → Int) (len' : Nat) (why' left' : Int) (v' : Option jV), zTR (w1.1 (m + 2)) a.toNat t' len' why' left' → len = len' ∧ why = why' ∧ left = left' ∧ (∀ j, j < len → t j = t' j) → (b = 0 → v' = some (jI (w1.1 (m + 2) (1 + 10 * a.toNat)))) ∧ (b = 1 → v' = some (jI (w1.1 (m + 2) (2 + 10 * a.toNat)))) ∧ (b = 2 → v' = some (jI (zO (w1.1 (m + 2) (1 + 10 * a.toNat))))) ∧ (b = 3 → v' = some (jI ((len' : Int)))) ∧ (b = 4 → v' = some (jI why')) ∧ (b = 5 → v' = some (jI left')) ∧ (b = 6 → v' = some (jI (zff (fun k => t' k < 1) len' 0))) → v' = some (jI y)) → ∃ y, (v = some (jI y) ∧ cq w1 x w1) ∧ jCall 150 [jO m, jI a, jI b] w1 (fun v' w2 => ∃ y', (v' = some (jI y') ∧ mq w1 m w2) ∧ (True → y = y')) := fun y hv hk => by
    refine ⟨y, ⟨hv, cq_0⟩, (hE _ cnb_0).mono fun v' w2 he => ?_⟩
    obtain ⟨t2, len2, why2, left2, hT2, d0, d1, d2, d3, d4, d5, d6, hm⟩ := he.2.2 g0 g1
    exact ⟨y, ⟨hk t2 len2 why2 left2 v' hT2 (zTR_u hR (by omega) hT hT2) ⟨d0, d1, d2, d3, d4, d5, d6⟩, hm⟩, fun _ => rfl⟩
  rcases (show b = 0 ∨ b = 1 ∨ b = 2 ∨ b = 3 ∨ b = 4 ∨ b = 5 ∨ b = 6 by omega) with e | e | e | e | e | e | e
  · exact key _ (c0 e) (fun t2 len2 why2 left2 v' hT2 hu d => d.1 e)
  · exact key _ (c1 e) (fun t2 len2 why2 left2 v' hT2 hu d => d.2.1 e)
  · exact key _ (c2 e) (fun t2 len2 why2 left2 v' hT2 hu d => d.2.2.1 e)
  · exact key _ (c3 e) (fun t2 len2 why2 left2 v' hT2 hu d => by rw [d.2.2.2.1 e, hu.1])
  · exact key _ (c4 e) (fun t2 len2 why2 left2 v' hT2 hu d => by rw [d.2.2.2.2.1 e, hu.2.1])
  · exact key _ (c5 e) (fun t2 len2 why2 left2 v' hT2 hu d => by rw [d.2.2.2.2.2.1 e, hu.2.2.1])
  · refine key _ (c6 e) (fun t2 len2 why2 left2 v' hT2 hu d => ?_)
    obtain ⟨rfl, -, -, ht⟩ := hu
    rw [d.2.2.2.2.2.2 e]
    exact congrArg (fun z => some (jI z)) (zff_c len 0 (fun i h1 h2 => by rw [ht i (by omega)]))
set_option maxHeartbeats 2000000 in
theorem T_term {g : Prop} {x m : Nat} {w : jS} (h : zRel g x m w) {a n : Int} (hra : r32 a) (hrn : r32 n) : jCall 95 [jO x, jI a, jI n] w (fun v w1 => w1.2 = w.2 ∧ jCall 151 [jO m, jI a, jI n] w1 (fun v' w2 => zAI (True) x m v v' w2)) := by
  have xm := h.xm
  obtain ⟨c, hR, hRW⟩ := h.rows
  have hC := C_term (w := w) (x := x) h.cw hR hRW hra hrn
  have hE := fun (w1 : jS) (hq : cnb w x w1) => E_term (w := w1) (m := m) (c := c) (zmb h hq) (by rw [zcb h hq (show m ≤ m + 2 by omega)]; exact hR) hra hrn
  have ce : ∀ {w1 : jS}, cnb w x w1 → w1.1 (m + 2) = w.1 (m + 2) := fun hq => zcb h hq (by omega)
  by_cases g0 : ¬ (0 ≤ a ∧ a < (c : Int))
  · exact L_no h (show 0 < 6 by decide) (hC.mono fun v w1 hc => cno_q (hc.1 g0)) (fun w1 hq => (hE w1 hq).mono fun v' w2 he => jno_q (he.1 g0))
  by_cases g1 : n < 0
  · exact L_no h (show 3 < 6 by decide) (hC.mono fun v w1 hc => cno_q (hc.2.1 g0 g1)) (fun w1 hq => (hE w1 hq).mono fun v' w2 he => jno_q (he.2.1 g0 g1))
  refine hC.mono fun v w1 hc => ?_
  obtain ⟨t, len, why, left, hT, hv⟩ := hc.2.2 g0 g1
  rcases hv with ⟨hl, hv, rfl⟩ | ⟨hl, hv⟩
  · refine ⟨rfl, (hE _ cnb_0).mono fun v' w2 he => ?_⟩
    obtain ⟨t2, len2, why2, left2, hT2, he⟩ := he.2.2 g0 g1
    obtain ⟨rfl, -, -, ht⟩ := zTR_u hR (by omega) hT hT2
    rcases he with ⟨_, e1, e2⟩ | ⟨e0, -⟩
    · exact ⟨⟨_, _, hv, e1, fun _ => ht _ hl⟩, zRel_F (zRel_q h cq_0 e2)⟩
    · exact absurd hl e0
  · have hb := cnq_b (cno_q hv)
    refine ⟨hb.1, (hE _ hb).mono fun v' w2 he => ?_⟩
    rw [ce hb] at he
    obtain ⟨t2, len2, why2, left2, hT2, he⟩ := he.2.2 g0 g1
    obtain ⟨rfl, -, -, ht⟩ := zTR_u hR (by omega) hT hT2
    rcases he with ⟨e0, e1, e2⟩ | ⟨_, e2⟩
    · exact absurd e0 hl
    · exact ⟨⟨_, _, hv.1, e2.1, fun _ => rfl⟩, zRel_no h (by decide) (cno_q hv) e2⟩
set_option maxHeartbeats 2000000 in
theorem T_kept {g : Prop} {x m : Nat} {w : jS} (h : zRel g x m w) {a n b : Int} (hra : r32 a) (hrn : r32 n) (hrb : r32 b) : jCall 96 [jO x, jI a, jI n, jI b] w (fun v w1 => w1.2 = w.2 ∧ jCall 154 [jO m, jI a, jI n, jI b] w1 (fun v' w2 => zAJ (True) x m v v' w2)) := by
  have xm := h.xm
  obtain ⟨c, hR, hRW⟩ := h.rows
  have hC := C_kept (w := w) (x := x) h.cw hR hRW hra hrn hrb
  have hE := fun (w1 : jS) (hq : cnb w x w1) => E_kept (w := w1) (m := m) (c := c) (zmb h hq) (by rw [zcb h hq (show m ≤ m + 2 by omega)]; exact hR) hra hrn hrb
  have ce : ∀ {w1 : jS}, cnb w x w1 → w1.1 (m + 2) = w.1 (m + 2) := fun hq => zcb h hq (by omega)
  by_cases g0 : ¬ (0 ≤ a ∧ a < (c : Int))
  · exact L_noJ h (show 0 < 6 by decide) (hC.mono fun v w1 hc => cno_q (hc.1 g0)) (fun w1 hq => (hE w1 hq).mono fun v' w2 he => jno_q (he.1 g0))
  by_cases g1 : ¬ (0 ≤ b ∧ b ≤ 1)
  · exact L_noJ h (show 1 < 6 by decide) (hC.mono fun v w1 hc => cno_q (hc.2.1 g0 g1)) (fun w1 hq => (hE w1 hq).mono fun v' w2 he => jno_q (he.2.1 g0 g1))
  by_cases g2 : n < 0
  · exact L_noJ h (show 3 < 6 by decide) (hC.mono fun v w1 hc => cno_q (hc.2.2.1 g0 g1 g2)) (fun w1 hq => (hE w1 hq).mono fun v' w2 he => jno_q (he.2.2.1 g0 g1 g2))
  refine hC.mono fun v w1 hc => ?_
  obtain ⟨t, len, why, left, hT, hv⟩ := hc.2.2.2 g0 g1 g2
  rcases hv with ⟨hl, hv, hq⟩ | ⟨hl, hv⟩
  · refine ⟨hq.1, (hE _ (cnb_q hq)).mono fun v' w2 he => ?_⟩
    rw [ce (cnb_q hq)] at he
    obtain ⟨t2, len2, why2, left2, hT2, he⟩ := he.2.2.2 g0 g1 g2
    obtain ⟨rfl, -, -, ht⟩ := zTR_u hR (by omega) hT hT2
    rcases he with ⟨_, e1, e2⟩ | ⟨e0, -⟩
    · refine ⟨⟨_, _, hv, e1, fun _ => ?_⟩, zRel_F (zRel_q h hq e2)⟩
      rw [(zk_c ht hl).1, (zk_c (f := 0) ht hl).2]
    · exact absurd ((zkp_c ht _).mp hl) e0
  · have hb := cnq_b (cno_q hv)
    refine ⟨hb.1, (hE _ hb).mono fun v' w2 he => ?_⟩
    rw [ce hb] at he
    obtain ⟨t2, len2, why2, left2, hT2, he⟩ := he.2.2.2 g0 g1 g2
    obtain ⟨rfl, -, -, ht⟩ := zTR_u hR (by omega) hT hT2
    rcases he with ⟨e0, e1, e2⟩ | ⟨_, e2⟩
    · exact absurd ((zkp_c ht _).mpr e0) hl
    · exact ⟨⟨_, _, hv.1, e2.1, fun _ => rfl⟩, zRel_no h (by decide) (cno_q hv) e2⟩
set_option maxHeartbeats 2000000 in
theorem T_stays {g : Prop} {x m : Nat} {w : jS} (h : zRel g x m w) {a : Int} (hra : r32 a) : jCall 97 [jO x, jI a] w (fun v w1 => w1.2 = w.2 ∧ jCall 155 [jO m, jI a] w1 (fun v' w2 => zAI (True) x m v v' w2)) := by
  have xm := h.xm
  obtain ⟨c, hR, hRW⟩ := h.rows
  have hC := C_stays (w := w) (x := x) h.cw hR hRW hra
  have hE := fun (w1 : jS) (hq : cnb w x w1) => E_stays (w := w1) (m := m) (c := c) (zmb h hq) (by rw [zcb h hq (show m ≤ m + 2 by omega)]; exact hR) hra
  have ce : ∀ {w1 : jS}, cnb w x w1 → w1.1 (m + 2) = w.1 (m + 2) := fun hq => zcb h hq (by omega)
  by_cases g0 : ¬ (0 ≤ a ∧ a < (c : Int))
  · exact L_no h (show 0 < 6 by decide) (hC.mono fun v w1 hc => cno_q (hc.1 g0)) (fun w1 hq => (hE w1 hq).mono fun v' w2 he => jno_q (he.1 g0))
  refine hC.mono fun v w1 hc => ?_
  obtain ⟨t, len, why, left, hT, hv⟩ := hc.2 g0
  rcases hv with ⟨hl, hv, hq⟩ | ⟨hl, hv⟩
  · refine ⟨hq.1, (hE _ (cnb_q hq)).mono fun v' w2 he => ?_⟩
    rw [ce (cnb_q hq)] at he
    obtain ⟨t2, len2, why2, left2, hT2, he⟩ := he.2 g0
    obtain ⟨rfl, -, -, ht⟩ := zTR_u hR (by omega) hT hT2
    rcases he with ⟨_, e1, e2⟩ | ⟨e0, -⟩
    · refine ⟨⟨_, _, hv, e1, fun _ => ?_⟩, zRel_F (zRel_q h hq e2)⟩
      refine zfs_c 59 1 (fun i _ => ⟨zkp_c ht i, fun hk => ?_⟩)
      rw [(zk_c ht hk).1, (zk_c (f := 0) ht hk).2, (zk_c ht hl).1, (zk_c (f := 0) ht hl).2]
    · exact absurd ((zkp_c ht _).mp hl) e0
  · have hb := cnq_b (cno_q hv)
    refine ⟨hb.1, (hE _ hb).mono fun v' w2 he => ?_⟩
    rw [ce hb] at he
    obtain ⟨t2, len2, why2, left2, hT2, he⟩ := he.2 g0
    obtain ⟨rfl, -, -, ht⟩ := zTR_u hR (by omega) hT hT2
    rcases he with ⟨e0, e1, e2⟩ | ⟨_, e2⟩
    · exact absurd ((zkp_c ht _).mpr e0) hl
    · exact ⟨⟨_, _, hv.1, e2.1, fun _ => rfl⟩, zRel_no h (by decide) (cno_q hv) e2⟩
set_option maxHeartbeats 2000000 in
theorem T_common {g : Prop} {x m : Nat} {w : jS} (h : zRel g x m w) {a : Int} (hra : r32 a) : jCall 98 [jO x, jI a] w (fun v w1 => w1.2 = w.2 ∧ jCall 156 [jO m, jI a] w1 (fun v' w2 => zAI (True) x m v v' w2)) := by
  have xm := h.xm
  obtain ⟨c, hR, hRW⟩ := h.rows
  have hC := C_common (w := w) (x := x) h.cw hR hRW hra
  have hE := fun (w1 : jS) (hq : cnb w x w1) => E_common (w := w1) (m := m) (c := c) (zmb h hq) (by rw [zcb h hq (show m ≤ m + 2 by omega)]; exact hR) hra
  by_cases g0 : ¬ (0 ≤ a ∧ a < (c : Int))
  · exact L_no h (show 0 < 6 by decide) (hC.mono fun v w1 hc => cno_q (hc.1 g0)) (fun w1 hq => (hE w1 hq).mono fun v' w2 he => jno_q (he.1 g0))
  refine L_ok h (hC.mono fun v w1 hc => ?_)
  obtain ⟨t, len, why, left, hT, hv, rfl⟩ := hc.2 g0
  refine ⟨_, ⟨hv, cq_0⟩, (hE _ cnb_0).mono fun v' w2 he => ?_⟩
  obtain ⟨t2, len2, why2, left2, hT2, e1, e2⟩ := he.2 g0
  obtain ⟨rfl, -, -, ht⟩ := zTR_u hR (by omega) hT hT2
  exact ⟨_, ⟨e1, e2⟩, fun _ => zff_c (len - 1) 0 (fun i h1 h2 => by rw [ht i (by omega), ht (i + 1) (by omega)])⟩
set_option maxHeartbeats 2000000 in
theorem T_divided {g : Prop} {x m : Nat} {w : jS} (h : zRel g x m w) {a d : Int} (hra : r32 a) (hrd : r32 d) : jCall 99 [jO x, jI a, jI d] w (fun v w1 => w1.2 = w.2 ∧ jCall 157 [jO m, jI a, jI d] w1 (fun v' w2 => zAI (True) x m v v' w2)) := by
  have xm := h.xm
  obtain ⟨c, hR, hRW⟩ := h.rows
  have hC := C_divided (w := w) (x := x) h.cw hR hRW hra hrd
  have hE := fun (w1 : jS) (hq : cnb w x w1) => E_divided (w := w1) (m := m) (c := c) (zmb h hq) (by rw [zcb h hq (show m ≤ m + 2 by omega)]; exact hR) hra hrd
  by_cases g0 : ¬ (0 ≤ a ∧ a < (c : Int))
  · exact L_no h (show 0 < 6 by decide) (hC.mono fun v w1 hc => cno_q (hc.1 g0)) (fun w1 hq => (hE w1 hq).mono fun v' w2 he => jno_q (he.1 g0))
  by_cases g1 : d < 2
  · exact L_no h (show 3 < 6 by decide) (hC.mono fun v w1 hc => cno_q (hc.2.1 g0 g1)) (fun w1 hq => (hE w1 hq).mono fun v' w2 he => jno_q (he.2.1 g0 g1))
  by_cases g2 : 9999 < d
  · exact L_no h (show 5 < 6 by decide) (hC.mono fun v w1 hc => cno_q (hc.2.2.1 g0 g1 g2)) (fun w1 hq => (hE w1 hq).mono fun v' w2 he => jno_q (he.2.2.1 g0 g1 g2))
  refine L_ok h (hC.mono fun v w1 hc => ?_)
  obtain ⟨t, len, why, left, hT, hv, rfl⟩ := hc.2.2.2 g0 g1 g2
  refine ⟨_, ⟨hv, cq_0⟩, (hE _ cnb_0).mono fun v' w2 he => ?_⟩
  obtain ⟨t2, len2, why2, left2, hT2, e1, e2⟩ := he.2.2.2 g0 g1 g2
  obtain ⟨rfl, -, -, ht⟩ := zTR_u hR (by omega) hT hT2
  exact ⟨_, ⟨e1, e2⟩, fun _ => zff_c len 0 (fun i h1 h2 => by rw [ht i (by omega)])⟩
set_option maxHeartbeats 2000000 in
theorem T_unlike {g : Prop} {x m : Nat} {w : jS} (h : zRel g x m w) {a b : Int} (hra : r32 a) (hrb : r32 b) : jCall 100 [jO x, jI a, jI b] w (fun v w1 => w1.2 = w.2 ∧ jCall 158 [jO m, jI a, jI b] w1 (fun v' w2 => zAI (True) x m v v' w2)) := by
  have xm := h.xm
  obtain ⟨c, hR, hRW⟩ := h.rows
  have hC := C_unlike (w := w) (x := x) h.cw hR hRW hra hrb
  have hE := fun (w1 : jS) (hq : cnb w x w1) => E_unlike (w := w1) (m := m) (c := c) (zmb h hq) (by rw [zcb h hq (show m ≤ m + 2 by omega)]; exact hR) hra hrb
  by_cases g0 : ¬ (0 ≤ a ∧ a < (c : Int)) ∨ ¬ (0 ≤ b ∧ b < (c : Int))
  · exact L_no h (show 0 < 6 by decide) (hC.mono fun v w1 hc => cno_q (hc.1 g0)) (fun w1 hq => (hE w1 hq).mono fun v' w2 he => jno_q (he.1 g0))
  refine L_ok h (hC.mono fun v w1 hc => ?_)
  obtain ⟨t, len, why, left, t', len', why', left', hT, hT', hv, rfl⟩ := hc.2 g0
  refine ⟨_, ⟨hv, cq_0⟩, (hE _ cnb_0).mono fun v' w2 he => ?_⟩
  obtain ⟨t2, len2, why2, left2, t2', len2', why2', left2', hT2, hT2', e1, e2⟩ := he.2 g0
  obtain ⟨rfl, -, -, ht⟩ := zTR_u hR (by omega) hT hT2
  obtain ⟨rfl, -, -, ht'⟩ := zTR_u hR (by omega) hT' hT2'
  refine ⟨_, ⟨e1, e2⟩, fun _ => zff_c 60 0 (fun i _ _ => ?_)⟩
  by_cases c1 : i < len
  · by_cases c2 : i < len'
    · rw [ht i c1, ht' i c2]
    · exact ⟨fun _ => Or.inl (fun z => c2 (z.mp c1)), fun _ => Or.inl (fun z => c2 (z.mp c1))⟩
  · by_cases c2 : i < len'
    · exact ⟨fun _ => Or.inl (fun z => c1 (z.mpr c2)), fun _ => Or.inl (fun z => c1 (z.mpr c2))⟩
    · exact ⟨fun z => z.imp id (fun y => absurd y.1 c1), fun z => z.imp id (fun y => absurd y.1 c1)⟩
end
section
/-! the lists: class and reference side by side -/
theorem zLL_u {w w3 : jS} {x m l : Nat} (h : zLL w x m) (hl : l < 3) (hb : ∀ b, x + 387 ≤ b → b < x + 393 → b ≠ x + (387 + 2 * l) → b ≠ x + (388 + 2 * l) → w3.1 b = w.1 b) (hs : ∀ y, y ≠ l → w3.1 (m + 423) y = w.1 (m + 423) y) (hm : ∀ b, m + 425 ≤ b → b < m + 428 → b ≠ m + (425 + l) → w3.1 b = w.1 b) (h1 : w3.1 (x + (387 + 2 * l)) 0 = w3.1 (m + 423) l) (h2 : -1 ≤ w3.1 (m + 423) l ∧ w3.1 (m + 423) l ≤ 40) (h3 : ∀ j, j < 40 → w3.1 (x + (388 + 2 * l)) j = w3.1 (m + (425 + l)) j ∧ r32 (w3.1 (m + (425 + l)) j)) : zLL w3 x m := by
  intro y hy
  by_cases e : y = l
  · subst e
    exact ⟨h1, h2, h3⟩
  · rw [hb (x + (387 + 2 * y)) (by omega) (by omega) (by omega) (by omega), hb (x + (388 + 2 * y)) (by omega) (by omega) (by omega) (by omega), hs y e, hm (m + (425 + y)) (by omega) (by omega) (by omega)]
    exact h y hy
theorem zRel_L {g : Prop} {x m : Nat} {w w3 : jS} (h : zRel g x m w) (e : w3.2 = w.2) (K : ∀ b, b < x + 387 → (b < x + 7 ∨ x + 339 ≤ b) → b ≠ x + 360 → b ≠ x + 361 → w3.1 b = w.1 b) (L : ∀ b, (b = m + 1 ∨ b = m + 2 ∨ b = m + 3 ∨ (m + 8 ≤ b ∧ b ≤ m + 15) ∨ b = m + 421 ∨ b = m + 428 ∨ b = m + 429) → w3.1 b = w.1 b) (e15 : w3.1 m 15 = w.1 m 15) (e24 : w3.1 m 24 = w.1 m 24) (e31 : w3.1 m 31 = w.1 m 31) (hl : zLL w3 x m) : zRel g x m w3 := by
  refine ⟨zWW_f h.ww e (fun b hb => K b (by omega) (by omega) (by omega) (by omega)), zRR_f h.rows (congrFun (K x (by omega) (by omega) (by omega) (by omega)) 1) (fun b _ _ _ => K b (by omega) (by omega) (by omega) (by omega)) (fun j _ => congrFun (L (m + 2) (by omega)) j), ?_, zPP_f h.past e15 (fun b _ _ => K b (by omega) (by omega) (by omega) (by omega)) (fun b _ _ => L b (by omega)), zII_f h.img e31 (congrFun (K x (by omega) (by omega) (by omega) (by omega)) 3) (fun b _ _ _ => K b (by omega) (by omega) (by omega) (by omega)) (fun b _ _ => K b (by omega) (by omega) (by omega) (by omega)) (fun b _ _ => L b (by omega)), hl, zTT_f h.text e24 (fun b _ _ => K b (by omega) (by omega) (by omega) (by omega)) (L _ (by omega)), zNN_f h.refs (K _ (by omega) (by omega) (by omega) (by omega)) (L _ (by omega))⟩
  rw [K (x + 3) (by omega) (by omega) (by omega) (by omega), K (x + 4) (by omega) (by omega) (by omega) (by omega), L (m + 1) (by omega)]
  exact h.seed
theorem zn_u {n n2 len : Nat} {i sz : Int} (a1 : n ≤ len) (a2 : i + (n : Int) ≤ sz) (a3 : n < len → i + (n : Int) = sz) (b1 : n2 ≤ len) (b2 : i + (n2 : Int) ≤ sz) (b3 : n2 < len → i + (n2 : Int) = sz) : n = n2 := by omega
theorem zsl_c {t t' : Nat → Int} {s : Nat} (e : ∀ j, j < s → t j = t' j) : zsl t s ↔ zsl t' s := by
  unfold zsl
  refine forall_congr' fun k => forall_congr' fun hk => ?_
  rw [e k hk]
theorem zPDt {law f : Int} {t t' : Nat → Int} {n : Nat} (e : ∀ j, j < n → t j = t' j) (h0 : 0 ≤ law) (h6 : law ≤ 6) (hn : (zO law).toNat ≤ n) : zP law f t n = zP law f t' n ∧ zD law t n = zD law t' n := by
  have e8 : law = 0 ∨ law = 1 ∨ law = 2 ∨ law = 3 ∨ law = 4 ∨ law = 5 ∨ law = 6 := by omega
  unfold zP zD
  rcases e8 with rfl | rfl | rfl | rfl | rfl | rfl | rfl
  · have q : 2 ≤ n := hn
    exact ⟨by simp only [if_pos]; rw [e (n - 1) (by omega), e (n - 2) (by omega)], by simp⟩
  · have q : 2 ≤ n := hn
    refine ⟨by simp; rw [e (n - 1) (by omega)], ?_⟩
    rw [if_neg (by decide), if_neg (by decide)]; exact e _ (by have : (zO 1).toNat = 2 := rfl; omega)
  · have q : 3 ≤ n := hn
    refine ⟨by simp; rw [e (n - 1) (by omega), e (n - 2) (by omega)], ?_⟩
    rw [if_neg (by decide), if_neg (by decide)]; exact e _ (by have : (zO 2).toNat = 3 := rfl; omega)
  · have q : 4 ≤ n := hn
    refine ⟨by simp; rw [e (n - 1) (by omega), e (n - 2) (by omega), e (n - 3) (by omega)], ?_⟩
    rw [if_neg (by decide), if_neg (by decide)]; exact e _ (by have : (zO 3).toNat = 4 := rfl; omega)
  · have q : 5 ≤ n := hn
    refine ⟨by simp; rw [e (n - 1) (by omega), e (n - 2) (by omega), e (n - 3) (by omega), e (n - 4) (by omega)], ?_⟩
    rw [if_neg (by decide), if_neg (by decide)]; exact e _ (by have : (zO 4).toNat = 5 := rfl; omega)
  · have q : 6 ≤ n := hn
    refine ⟨by simp; rw [e (n - 1) (by omega), e (n - 2) (by omega), e (n - 3) (by omega), e (n - 4) (by omega), e (n - 5) (by omega)], ?_⟩
    rw [if_neg (by decide), if_neg (by decide)]; exact e _ (by have : (zO 5).toNat = 6 := rfl; omega)
  · have q : 8 ≤ n := hn
    refine ⟨by simp; rw [e (n - 1) (by omega), e (n - 2) (by omega), e (n - 3) (by omega), e (n - 4) (by omega), e (n - 5) (by omega), e (n - 6) (by omega), e (n - 7) (by omega)], ?_⟩
    rw [if_neg (by decide), if_neg (by decide)]; exact e _ (by have : (zO 6).toNat = 8 := rfl; omega)
theorem zmd_c {law f : Int} {t t' : Nat → Int} {s : Nat} (e : ∀ j, j < s → t j = t' j) (h0 : 0 ≤ law) (h6 : law ≤ 6) : zmd law f t s ↔ zmd law f t' s := by
  unfold zmd
  refine forall_congr' fun n => forall_congr' fun hn => forall_congr' fun hs => ?_
  have h := zPDt (f := f) (fun j hj => e j (by omega)) h0 h6 hn
  rw [h.1, h.2, e n hs]
set_option maxHeartbeats 2000000 in
theorem T_laws {g : Prop} {x m : Nat} {w : jS} (h : zRel g x m w) {l f : Int} (hrl : r32 l) (hrf : r32 f) : jCall 117 [jO x, jI l, jI f] w (fun v w1 => w1.2 = w.2 ∧ jCall 210 [jO m, jI l, jI f] w1 (fun v' w2 => zAI (True) x m v v' w2)) := by
  have xm := h.xm
  have hz : ∀ y, y < 3 → -1 ≤ w.1 (x + (387 + 2 * y)) 0 ∧ w.1 (x + (387 + 2 * y)) 0 ≤ 40 := fun y hy => by rw [(h.lists y hy).1]; exact (h.lists y hy).2.1
  have hI : ∀ y, y < 3 → ∀ j, j < 40 → r32 (w.1 (x + (388 + 2 * y)) j) := fun y hy j hj => by rw [((h.lists y hy).2.2 j hj).1]; exact ((h.lists y hy).2.2 j hj).2
  have hz2 : ∀ {w1 : jS}, cnb w x w1 → ∀ y, y < 3 → -1 ≤ w1.1 (m + 423) y ∧ w1.1 (m + 423) y ≤ 40 := fun hq y hy => by rw [zcb h hq (by omega)]; exact (h.lists y hy).2.1
  have hI2 : ∀ {w1 : jS}, cnb w x w1 → ∀ y, y < 3 → ∀ j, j < 40 → r32 (w1.1 (m + (425 + y)) j) := fun hq y hy j hj => by rw [zcb h hq (by omega)]; exact ((h.lists y hy).2.2 j hj).2
  have ce : ∀ {w1 : jS}, cnb w x w1 → w1.1 (m + 423) = w.1 (m + 423) := fun hq => zcb h hq (by omega)
  have ci : ∀ {w1 : jS}, cnb w x w1 → ∀ y, w1.1 (m + (425 + y)) = w.1 (m + (425 + y)) := fun hq y => zcb h hq (by omega)
  have hC := C_laws (w := w) (x := x) h.cw hz hI h.ok hrl hrf
  have hE := fun (w1 : jS) (hq : cnb w x w1) => E_laws (w := w1) (m := m) (zmb h hq) (hz2 hq) (hI2 hq) hrl hrf
  by_cases g0 : ¬ (0 ≤ l ∧ l ≤ 2)
  · exact L_no h (show 0 < 6 by decide) (hC.mono fun v w1 hc => cno_q (hc.1 g0)) (fun w1 hq => (hE w1 hq).mono fun v' w2 he => by exact jno_q (he.1 g0))
  by_cases g1 : f < 0
  · exact L_no h (show 3 < 6 by decide) (hC.mono fun v w1 hc => cno_q (hc.2.1 g0 g1)) (fun w1 hq => (hE w1 hq).mono fun v' w2 he => by exact jno_q (he.2.1 g0 g1))
  by_cases g2 : 9 < f
  · exact L_no h (show 5 < 6 by decide) (hC.mono fun v w1 hc => cno_q (hc.2.2.1 g0 g1 g2)) (fun w1 hq => (hE w1 hq).mono fun v' w2 he => by exact jno_q (he.2.2.1 g0 g1 g2))
  have hs := (h.lists l.toNat (by omega)).1
  have ht := (h.lists l.toNat (by omega)).2.2
  have hz9 := hz l.toNat (by omega)
  by_cases g3 : (w.1 (x + (387 + 2 * l.toNat)) 0) < 0
  · refine L_ok h (hC.mono fun v w1 hc => ?_)
    obtain ⟨h1, rfl⟩ := hc.2.2.2.1 g0 g1 g2 g3
    exact ⟨_, ⟨h1, cq_0⟩, (hE _ cnb_0).mono fun v' w2 he => by rw [← hs] at he; exact ⟨_, ⟨(he.2.2.2.1 g0 g1 g2 g3).1, by rw [(he.2.2.2.1 g0 g1 g2 g3).2]; exact mq_0⟩, fun _ => rfl⟩⟩
  have hzs : zsl (w.1 (x + (388 + 2 * l.toNat))) (w.1 (x + (387 + 2 * l.toNat)) 0).toNat ↔ zsl (w.1 (m + (425 + l.toNat))) (w.1 (x + (387 + 2 * l.toNat)) 0).toNat := zsl_c (fun j hj => (ht j (by omega)).1)
  by_cases g4 : ¬ zsl (w.1 (x + (388 + 2 * l.toNat))) (w.1 (x + (387 + 2 * l.toNat)) 0).toNat
  · exact L_no h (show 2 < 6 by decide) (hC.mono fun v w1 hc => cno_q (hc.2.2.2.2.1 g0 g1 g2 g3 g4)) (fun w1 hq => (hE w1 hq).mono fun v' w2 he => by rw [ce hq, ci hq, ← hs] at he; rw [← hzs] at he; exact jno_q (he.2.2.2.2.1 g0 g1 g2 g3 g4))
  refine L_ok h (hC.mono fun v w1 hc => ?_)
  obtain ⟨h1, rfl⟩ := hc.2.2.2.2.2 g0 g1 g2 g3 g4
  refine ⟨_, ⟨h1, cq_0⟩, (hE _ cnb_0).mono fun v' w2 he => ?_⟩
  rw [← hs, ← hzs] at he
  exact ⟨_, ⟨(he.2.2.2.2.2 g0 g1 g2 g3 g4).1, by rw [(he.2.2.2.2.2 g0 g1 g2 g3 g4).2]; exact mq_0⟩, fun _ => zbt_c 7 (fun i hi => zmd_c (fun j hj => (ht j (by omega)).1) (by omega) (by omega))⟩
set_option maxHeartbeats 2000000 in
theorem T_figures {g : Prop} {x m : Nat} {w : jS} (h : zRel g x m w) {l a : Int} (hrl : r32 l) (hra : r32 a) : jCall 118 [jO x, jI l, jI a] w (fun v w1 => w1.2 = w.2 ∧ jCall 211 [jO m, jI l, jI a] w1 (fun v' w2 => zAI (True) x m v v' w2)) := by
  have xm := h.xm
  have hz : ∀ y, y < 3 → -1 ≤ w.1 (x + (387 + 2 * y)) 0 ∧ w.1 (x + (387 + 2 * y)) 0 ≤ 40 := fun y hy => by rw [(h.lists y hy).1]; exact (h.lists y hy).2.1
  have hI : ∀ y, y < 3 → ∀ j, j < 40 → r32 (w.1 (x + (388 + 2 * y)) j) := fun y hy j hj => by rw [((h.lists y hy).2.2 j hj).1]; exact ((h.lists y hy).2.2 j hj).2
  have hz2 : ∀ {w1 : jS}, cnb w x w1 → ∀ y, y < 3 → -1 ≤ w1.1 (m + 423) y ∧ w1.1 (m + 423) y ≤ 40 := fun hq y hy => by rw [zcb h hq (by omega)]; exact (h.lists y hy).2.1
  have hI2 : ∀ {w1 : jS}, cnb w x w1 → ∀ y, y < 3 → ∀ j, j < 40 → r32 (w1.1 (m + (425 + y)) j) := fun hq y hy j hj => by rw [zcb h hq (by omega)]; exact ((h.lists y hy).2.2 j hj).2
  have ce : ∀ {w1 : jS}, cnb w x w1 → w1.1 (m + 423) = w.1 (m + 423) := fun hq => zcb h hq (by omega)
  have ci : ∀ {w1 : jS}, cnb w x w1 → ∀ y, w1.1 (m + (425 + y)) = w.1 (m + (425 + y)) := fun hq y => zcb h hq (by omega)
  have hC := C_figures (w := w) (x := x) h.cw hz hI h.ok hrl hra
  have hE := fun (w1 : jS) (hq : cnb w x w1) => E_figures (w := w1) (m := m) (zmb h hq) (hz2 hq) (hI2 hq) hrl hra
  by_cases g0 : ¬ (0 ≤ l ∧ l ≤ 2)
  · exact L_no h (show 0 < 6 by decide) (hC.mono fun v w1 hc => cno_q (hc.1 g0)) (fun w1 hq => (hE w1 hq).mono fun v' w2 he => by exact jno_q (he.1 g0))
  by_cases g1 : ¬ (0 ≤ a ∧ a ≤ 6)
  · exact L_no h (show 1 < 6 by decide) (hC.mono fun v w1 hc => cno_q (hc.2.1 g0 g1)) (fun w1 hq => (hE w1 hq).mono fun v' w2 he => by exact jno_q (he.2.1 g0 g1))
  have hs := (h.lists l.toNat (by omega)).1
  have ht := (h.lists l.toNat (by omega)).2.2
  have hz9 := hz l.toNat (by omega)
  by_cases g2 : (w.1 (x + (387 + 2 * l.toNat)) 0) < 0
  · refine L_ok h (hC.mono fun v w1 hc => ?_)
    obtain ⟨h1, rfl⟩ := hc.2.2.1 g0 g1 g2
    exact ⟨_, ⟨h1, cq_0⟩, (hE _ cnb_0).mono fun v' w2 he => by rw [← hs] at he; exact ⟨_, ⟨(he.2.2.1 g0 g1 g2).1, by rw [(he.2.2.1 g0 g1 g2).2]; exact mq_0⟩, fun _ => rfl⟩⟩
  have hzs : zsl (w.1 (x + (388 + 2 * l.toNat))) (w.1 (x + (387 + 2 * l.toNat)) 0).toNat ↔ zsl (w.1 (m + (425 + l.toNat))) (w.1 (x + (387 + 2 * l.toNat)) 0).toNat := zsl_c (fun j hj => (ht j (by omega)).1)
  by_cases g3 : ¬ zsl (w.1 (x + (388 + 2 * l.toNat))) (w.1 (x + (387 + 2 * l.toNat)) 0).toNat
  · exact L_no h (show 2 < 6 by decide) (hC.mono fun v w1 hc => cno_q (hc.2.2.2.1 g0 g1 g2 g3)) (fun w1 hq => (hE w1 hq).mono fun v' w2 he => by rw [ce hq, ci hq, ← hs] at he; rw [← hzs] at he; exact jno_q (he.2.2.2.1 g0 g1 g2 g3))
  refine L_ok h (hC.mono fun v w1 hc => ?_)
  obtain ⟨h1, rfl⟩ := hc.2.2.2.2 g0 g1 g2 g3
  refine ⟨_, ⟨h1, cq_0⟩, (hE _ cnb_0).mono fun v' w2 he => ?_⟩
  rw [← hs, ← hzs] at he
  exact ⟨_, ⟨(he.2.2.2.2 g0 g1 g2 g3).1, by rw [(he.2.2.2.2 g0 g1 g2 g3).2]; exact mq_0⟩, fun _ => zbt_c 10 (fun i hi => zmd_c (fun j hj => (ht j (by omega)).1) (by omega) (by omega))⟩
set_option maxHeartbeats 2000000 in
theorem T_judge {g : Prop} {x m : Nat} {w : jS} (h : zRel g x m w) {l a : Int} (hrl : r32 l) (hra : r32 a) : jCall 119 [jO x, jI l, jI a] w (fun v w1 => w1.2 = w.2 ∧ jCall 212 [jO m, jI l, jI a] w1 (fun v' w2 => zAI (True) x m v v' w2)) := by
  have xm := h.xm
  have hz : ∀ y, y < 3 → -1 ≤ w.1 (x + (387 + 2 * y)) 0 ∧ w.1 (x + (387 + 2 * y)) 0 ≤ 40 := fun y hy => by rw [(h.lists y hy).1]; exact (h.lists y hy).2.1
  have hI : ∀ y, y < 3 → ∀ j, j < 40 → r32 (w.1 (x + (388 + 2 * y)) j) := fun y hy j hj => by rw [((h.lists y hy).2.2 j hj).1]; exact ((h.lists y hy).2.2 j hj).2
  have hz2 : ∀ {w1 : jS}, cnb w x w1 → ∀ y, y < 3 → -1 ≤ w1.1 (m + 423) y ∧ w1.1 (m + 423) y ≤ 40 := fun hq y hy => by rw [zcb h hq (by omega)]; exact (h.lists y hy).2.1
  have hI2 : ∀ {w1 : jS}, cnb w x w1 → ∀ y, y < 3 → ∀ j, j < 40 → r32 (w1.1 (m + (425 + y)) j) := fun hq y hy j hj => by rw [zcb h hq (by omega)]; exact ((h.lists y hy).2.2 j hj).2
  have ce : ∀ {w1 : jS}, cnb w x w1 → w1.1 (m + 423) = w.1 (m + 423) := fun hq => zcb h hq (by omega)
  have ci : ∀ {w1 : jS}, cnb w x w1 → ∀ y, w1.1 (m + (425 + y)) = w.1 (m + (425 + y)) := fun hq y => zcb h hq (by omega)
  obtain ⟨c, hR, hRW⟩ := h.rows
  have hC := C_judge (w := w) (x := x) h.cw hz hI hR hRW hrl hra
  have hE := fun (w1 : jS) (hq : cnb w x w1) => E_judge (w := w1) (m := m) (c := c) (zmb h hq) (hz2 hq) (hI2 hq) (by rw [zcb h hq (show m ≤ m + 2 by omega)]; exact hR) hrl hra
  by_cases g0 : ¬ (0 ≤ l ∧ l ≤ 2) ∨ ¬ (0 ≤ a ∧ a < (c : Int))
  · exact L_no h (show 0 < 6 by decide) (hC.mono fun v w1 hc => cno_q (hc.1 g0)) (fun w1 hq => (hE w1 hq).mono fun v' w2 he => by exact jno_q (he.1 g0))
  have hs := (h.lists l.toNat (by omega)).1
  have ht := (h.lists l.toNat (by omega)).2.2
  have hz9 := hz l.toNat (by omega)
  by_cases g1 : (w.1 (x + (387 + 2 * l.toNat)) 0) < 0
  · refine L_ok h (hC.mono fun v w1 hc => ?_)
    obtain ⟨h1, rfl⟩ := hc.2.1 g0 g1
    exact ⟨_, ⟨h1, cq_0⟩, (hE _ cnb_0).mono fun v' w2 he => by rw [← hs] at he; exact ⟨_, ⟨(he.2.1 g0 g1).1, by rw [(he.2.1 g0 g1).2]; exact mq_0⟩, fun _ => rfl⟩⟩
  refine L_ok h (hC.mono fun v w1 hc => ?_)
  obtain ⟨t, len, why, left, hT, hv, rfl⟩ := hc.2.2 g0 g1
  refine ⟨_, ⟨hv, cq_0⟩, (hE _ cnb_0).mono fun v' w2 he => ?_⟩
  rw [← hs] at he
  obtain ⟨t2, len2, why2, left2, hT2, e1, e2⟩ := he.2.2 g0 g1
  obtain ⟨rfl, -, -, ht2⟩ := zTR_u hR (by omega) hT hT2
  refine ⟨_, ⟨e1, e2⟩, fun _ => zff_c _ 0 (fun i _ hi => ?_)⟩
  rw [(ht i (by omega)).1]
  by_cases c1 : i < len
  · rw [ht2 i c1]
  · exact ⟨fun _ => Or.inl c1, fun _ => Or.inl c1⟩
set_option maxHeartbeats 2000000 in
theorem T_look {g : Prop} {x m : Nat} {w : jS} (h : zRel g x m w) {l i : Int} (hrl : r32 l) (hri : r32 i) : jCall 122 [jO x, jI l, jI i] w (fun v w1 => w1.2 = w.2 ∧ jCall 215 [jO m, jI l, jI i] w1 (fun v' w2 => zAJ (True) x m v v' w2)) := by
  have xm := h.xm
  have hz : ∀ y, y < 3 → -1 ≤ w.1 (x + (387 + 2 * y)) 0 ∧ w.1 (x + (387 + 2 * y)) 0 ≤ 40 := fun y hy => by rw [(h.lists y hy).1]; exact (h.lists y hy).2.1
  have hI : ∀ y, y < 3 → ∀ j, j < 40 → r32 (w.1 (x + (388 + 2 * y)) j) := fun y hy j hj => by rw [((h.lists y hy).2.2 j hj).1]; exact ((h.lists y hy).2.2 j hj).2
  have hz2 : ∀ {w1 : jS}, cnb w x w1 → ∀ y, y < 3 → -1 ≤ w1.1 (m + 423) y ∧ w1.1 (m + 423) y ≤ 40 := fun hq y hy => by rw [zcb h hq (by omega)]; exact (h.lists y hy).2.1
  have hI2 : ∀ {w1 : jS}, cnb w x w1 → ∀ y, y < 3 → ∀ j, j < 40 → r32 (w1.1 (m + (425 + y)) j) := fun hq y hy j hj => by rw [zcb h hq (by omega)]; exact ((h.lists y hy).2.2 j hj).2
  have ce : ∀ {w1 : jS}, cnb w x w1 → w1.1 (m + 423) = w.1 (m + 423) := fun hq => zcb h hq (by omega)
  have ci : ∀ {w1 : jS}, cnb w x w1 → ∀ y, w1.1 (m + (425 + y)) = w.1 (m + (425 + y)) := fun hq y => zcb h hq (by omega)
  have hC := C_look (w := w) (x := x) h.cw hz hI hrl hri
  have hE := fun (w1 : jS) (hq : cnb w x w1) => E_look (w := w1) (m := m) (zmb h hq) (hz2 hq) hrl hri
  by_cases g0 : ¬ (0 ≤ l ∧ l ≤ 2)
  · exact L_noJ h (show 0 < 6 by decide) (hC.mono fun v w1 hc => cno_q (hc.1 g0)) (fun w1 hq => (hE w1 hq).mono fun v' w2 he => by exact jno_q (he.1 g0))
  have hs := (h.lists l.toNat (by omega)).1
  have ht := (h.lists l.toNat (by omega)).2.2
  have hz9 := hz l.toNat (by omega)
  by_cases g1 : (w.1 (x + (387 + 2 * l.toNat)) 0) < 0
  · refine L_okJ h (hC.mono fun v w1 hc => ?_)
    obtain ⟨h1, rfl⟩ := hc.2.1 g0 g1
    exact ⟨_, ⟨h1, cq_0⟩, (hE _ cnb_0).mono fun v' w2 he => by rw [← hs] at he; exact ⟨_, ⟨(he.2.1 g0 g1).1, by rw [(he.2.1 g0 g1).2]; exact mq_0⟩, fun _ => rfl⟩⟩
  by_cases g2 : ¬ (0 ≤ i ∧ i < w.1 (x + (387 + 2 * l.toNat)) 0)
  · refine L_okJ h (hC.mono fun v w1 hc => ?_)
    obtain ⟨h1, rfl⟩ := hc.2.2.1 g0 g1 g2
    exact ⟨_, ⟨h1, cq_0⟩, (hE _ cnb_0).mono fun v' w2 he => by rw [← hs] at he; exact ⟨_, ⟨(he.2.2.1 g0 g1 g2).1, by rw [(he.2.2.1 g0 g1 g2).2]; exact mq_0⟩, fun _ => rfl⟩⟩
  refine L_okJ h (hC.mono fun v w1 hc => ?_)
  obtain ⟨h1, rfl⟩ := hc.2.2.2 g0 g1 g2
  refine ⟨_, ⟨h1, cq_0⟩, (hE _ cnb_0).mono fun v' w2 he => ?_⟩
  rw [← hs] at he
  obtain ⟨e1, rfl⟩ := he.2.2.2 g0 g1 g2
  exact ⟨_, ⟨e1, mq_0⟩, fun _ => (ht _ (by omega)).1⟩
set_option maxHeartbeats 2000000 in
theorem T_list {g : Prop} {x m : Nat} {w : jS} (h : zRel g x m w) {l n : Int} (hrl : r32 l) (hrn : r32 n) : jCall 120 [jO x, jI l, jI n] w (fun v w1 => w1.2 = w.2 ∧ jCall 213 [jO m, jI l, jI n] w1 (fun v' w2 => zAI (True) x m v v' w2)) := by
  have xm := h.xm
  have hC := C_list (w := w) (x := x) h.cw hrl hrn
  have hE := fun (w1 : jS) (hm : MW w1.2 m) => E_list (w := w1) (m := m) hm hrl hrn
  by_cases g0 : ¬ (0 ≤ l ∧ l ≤ 2)
  · exact L_no h (show 0 < 6 by decide) (hC.mono fun v w1 hc => cno_q (hc.1 g0)) (fun w1 hq => (hE w1 (zmb h hq)).mono fun v' w2 he => jno_q (he.1 g0))
  by_cases g1 : 40 < n
  · exact L_no h (show 5 < 6 by decide) (hC.mono fun v w1 hc => cno_q (hc.2.1 g0 g1)) (fun w1 hq => (hE w1 (zmb h hq)).mono fun v' w2 he => jno_q (he.2.1 g0 g1))
  by_cases g2 : n < 0
  · refine L_ok h (hC.mono fun v w1 hc => ?_)
    obtain ⟨h1, rfl⟩ := hc.2.2.1 g0 g1 g2
    exact ⟨_, ⟨h1, cq_0⟩, (hE _ h.mw).mono fun v' w2 he => ⟨_, ⟨(he.2.2.1 g0 g1 g2).1, by rw [(he.2.2.1 g0 g1 g2).2]; exact mq_0⟩, fun _ => rfl⟩⟩
  refine hC.mono fun v w1 hc => ?_
  obtain ⟨h1, h2, h3, h4, h5⟩ := hc.2.2.2 g0 g1 g2
  refine ⟨h2, (hE w1 (by rw [h2]; exact h.mw)).mono fun v' w2 he => ?_⟩
  obtain ⟨e1, T, rfl, hT⟩ := he.2.2.2 g0 g1 g2
  have F : ∀ b, b ≠ x + (387 + 2 * l.toNat) → b ≠ x + (388 + 2 * l.toNat) → b ≠ m + 423 → b ≠ m + (425 + l.toNat) → (kA (jW w1 (m + 423) l.toNat n) (m + (425 + l.toNat)) T).1 b = w.1 b := fun b a1 a2 a3 a4 => (kA_f a4).trans ((jup_f a3).trans (h3 b a1 a2))
  have s1 : (kA (jW w1 (m + 423) l.toNat n) (m + (425 + l.toNat)) T).1 (m + 423) = fun y => if y = l.toNat then n else w.1 (m + 423) y := by
    rw [kA_f (show m + 423 ≠ m + (425 + l.toNat) by omega)]
    funext y
    show (if m + 423 = m + 423 ∧ y = l.toNat then n else w1.1 (m + 423) y) = _
    rw [h3 (m + 423) (by omega) (by omega)]
    by_cases e : y = l.toNat
    · rw [if_pos ⟨rfl, e⟩, if_pos e]
    · rw [if_neg (fun q => e q.2), if_neg e]
  have s2 : (kA (jW w1 (m + 423) l.toNat n) (m + (425 + l.toNat)) T).1 (x + (387 + 2 * l.toNat)) = w1.1 (x + (387 + 2 * l.toNat)) := (kA_f (by omega)).trans (jup_f (by omega))
  have s3 : (kA (jW w1 (m + 423) l.toNat n) (m + (425 + l.toNat)) T).1 (x + (388 + 2 * l.toNat)) = w1.1 (x + (388 + 2 * l.toNat)) := (kA_f (by omega)).trans (jup_f (by omega))
  have s4 : (kA (jW w1 (m + 423) l.toNat n) (m + (425 + l.toNat)) T).1 (m + (425 + l.toNat)) = T := kA_fs
  refine ⟨⟨_, _, h1, e1, fun _ => rfl⟩, zRel_F (zRel_L h h2 (fun b _ _ _ _ => F b (by omega) (by omega) (by omega) (by omega)) (fun b _ => F b (by omega) (by omega) (by omega) (by omega)) (congrFun (F m (by omega) (by omega) (by omega) (by omega)) 15) (congrFun (F m (by omega) (by omega) (by omega) (by omega)) 24) (congrFun (F m (by omega) (by omega) (by omega) (by omega)) 31) (zLL_u h.lists (l := l.toNat) (by omega) (fun b _ _ a1 a2 => F b a1 a2 (by omega) (by omega)) (fun y hy => by rw [s1]; exact if_neg hy) (fun b _ _ a1 => F b (by omega) (by omega) (by omega) a1) ?_ ?_ ?_))⟩
  · rw [s1, s2, h4]
    exact (if_pos rfl).symm
  · rw [s1]
    dsimp only
    rw [if_pos rfl]
    omega
  · intro j hj
    rw [s3, s4, h5 j hj, hT j hj]
    exact ⟨rfl, by decide, by decide⟩
set_option maxHeartbeats 2000000 in
theorem T_put {g : Prop} {x m : Nat} {w : jS} (h : zRel g x m w) {l i y : Int} (hrl : r32 l) (hri : r32 i) (hry : r32 y) : jCall 121 [jO x, jI l, jI i, jI y] w (fun v w1 => w1.2 = w.2 ∧ jCall 214 [jO m, jI l, jI i, jI y] w1 (fun v' w2 => zAI (True) x m v v' w2)) := by
  have xm := h.xm
  have hz : ∀ y, y < 3 → -1 ≤ w.1 (x + (387 + 2 * y)) 0 ∧ w.1 (x + (387 + 2 * y)) 0 ≤ 40 := fun y hy => by rw [(h.lists y hy).1]; exact (h.lists y hy).2.1
  have hI : ∀ y, y < 3 → ∀ j, j < 40 → r32 (w.1 (x + (388 + 2 * y)) j) := fun y hy j hj => by rw [((h.lists y hy).2.2 j hj).1]; exact ((h.lists y hy).2.2 j hj).2
  have hz2 : ∀ {w1 : jS}, cnb w x w1 → ∀ y, y < 3 → -1 ≤ w1.1 (m + 423) y ∧ w1.1 (m + 423) y ≤ 40 := fun hq y hy => by rw [zcb h hq (by omega)]; exact (h.lists y hy).2.1
  have hI2 : ∀ {w1 : jS}, cnb w x w1 → ∀ y, y < 3 → ∀ j, j < 40 → r32 (w1.1 (m + (425 + y)) j) := fun hq y hy j hj => by rw [zcb h hq (by omega)]; exact ((h.lists y hy).2.2 j hj).2
  have ce : ∀ {w1 : jS}, cnb w x w1 → w1.1 (m + 423) = w.1 (m + 423) := fun hq => zcb h hq (by omega)
  have ci : ∀ {w1 : jS}, cnb w x w1 → ∀ y, w1.1 (m + (425 + y)) = w.1 (m + (425 + y)) := fun hq y => zcb h hq (by omega)
  have hC := C_put (w := w) (x := x) h.cw hz hrl hri hry
  have hE := fun (w1 : jS) (hm : MW w1.2 m) (q : ∀ x, x < 3 → -1 ≤ w1.1 (m + 423) x ∧ w1.1 (m + 423) x ≤ 40) => E_put (w := w1) (m := m) hm q hrl hri hry
  by_cases g0 : ¬ (0 ≤ l ∧ l ≤ 2)
  · exact L_no h (show 0 < 6 by decide) (hC.mono fun v w1 hc => cno_q (hc.1 g0)) (fun w1 hq => (hE w1 (zmb h hq) (hz2 hq)).mono fun v' w2 he => jno_q (he.1 g0))
  have hs := (h.lists l.toNat (by omega)).1
  have ht := (h.lists l.toNat (by omega)).2.2
  have hz9 := hz l.toNat (by omega)
  by_cases g1 : (w.1 (x + (387 + 2 * l.toNat)) 0) < 0
  · refine L_ok h (hC.mono fun v w1 hc => ?_)
    obtain ⟨h1, rfl⟩ := hc.2.1 g0 g1
    refine ⟨_, ⟨h1, cq_0⟩, (hE _ h.mw (hz2 cnb_0)).mono fun v' w2 he => ?_⟩
    rw [← hs] at he
    exact ⟨_, ⟨(he.2.1 g0 g1).1, by rw [(he.2.1 g0 g1).2]; exact mq_0⟩, fun _ => rfl⟩
  by_cases g2 : ¬ (0 ≤ i ∧ i < w.1 (x + (387 + 2 * l.toNat)) 0)
  · refine L_ok h (hC.mono fun v w1 hc => ?_)
    obtain ⟨h1, rfl⟩ := hc.2.2.1 g0 g1 g2
    refine ⟨_, ⟨h1, cq_0⟩, (hE _ h.mw (hz2 cnb_0)).mono fun v' w2 he => ?_⟩
    rw [← hs] at he
    exact ⟨_, ⟨(he.2.2.1 g0 g1 g2).1, by rw [(he.2.2.1 g0 g1 g2).2]; exact mq_0⟩, fun _ => rfl⟩
  refine hC.mono fun v w1 hc => ?_
  obtain ⟨h1, rfl⟩ := hc.2.2.2 g0 g1 g2
  have F0 : ∀ b, b ≠ x + (388 + 2 * l.toNat) → (jW w (x + (388 + 2 * l.toNat)) i.toNat y).1 b = w.1 b := fun b a => jup_f a
  refine ⟨rfl, (hE (jW w (x + (388 + 2 * l.toNat)) i.toNat y) h.mw (fun z hz0 => by rw [F0 _ (by omega)]; exact (h.lists z hz0).2.1)).mono fun v' w2 he => ?_⟩
  rw [F0 (m + 423) (by omega), ← hs] at he
  obtain ⟨e1, rfl⟩ := he.2.2.2 g0 g1 g2
  have F : ∀ b, b ≠ x + (388 + 2 * l.toNat) → b ≠ m + (425 + l.toNat) → (jW (jW w (x + (388 + 2 * l.toNat)) i.toNat y) (m + (425 + l.toNat)) i.toNat y).1 b = w.1 b := fun b a1 a2 => (jup_f a2).trans (jup_f a1)
  refine ⟨⟨_, _, h1, e1, fun _ => rfl⟩, zRel_F (zRel_L h rfl (fun b _ _ _ _ => F b (by omega) (by omega)) (fun b _ => F b (by omega) (by omega)) (congrFun (F m (by omega) (by omega)) 15) (congrFun (F m (by omega) (by omega)) 24) (congrFun (F m (by omega) (by omega)) 31) (zLL_u h.lists (l := l.toNat) (by omega) (fun b _ _ a1 a2 => F b a2 (by omega)) (fun y hy => congrFun (F _ (by omega) (by omega)) y) (fun b _ _ a1 => F b (by omega) a1) ?_ ?_ ?_))⟩
  · rw [F _ (by omega) (by omega), F (m + 423) (by omega) (by omega)]
    exact hs
  · rw [F (m + 423) (by omega) (by omega)]
    exact (h.lists l.toNat (by omega)).2.1
  · intro j hj
    show (if x + (388 + 2 * l.toNat) = m + (425 + l.toNat) ∧ j = i.toNat then y else if x + (388 + 2 * l.toNat) = x + (388 + 2 * l.toNat) ∧ j = i.toNat then y else w.1 (x + (388 + 2 * l.toNat)) j) = (if m + (425 + l.toNat) = m + (425 + l.toNat) ∧ j = i.toNat then y else if m + (425 + l.toNat) = x + (388 + 2 * l.toNat) ∧ j = i.toNat then y else w.1 (m + (425 + l.toNat)) j) ∧ r32 (if m + (425 + l.toNat) = m + (425 + l.toNat) ∧ j = i.toNat then y else if m + (425 + l.toNat) = x + (388 + 2 * l.toNat) ∧ j = i.toNat then y else w.1 (m + (425 + l.toNat)) j)
    rw [if_neg (show ¬ (x + (388 + 2 * l.toNat) = m + (425 + l.toNat) ∧ j = i.toNat) by omega)]
    by_cases e : j = i.toNat
    · rw [if_pos ⟨rfl, e⟩, if_pos ⟨rfl, e⟩]
      exact ⟨rfl, hry⟩
    · rw [if_neg (fun q => e q.2), if_neg (fun q => e q.2), if_neg (fun q => e q.2)]
      exact ht j hj
set_option maxHeartbeats 2000000 in
theorem T_lays {g : Prop} {x m : Nat} {w : jS} (h : zRel g x m w) {l i a : Int} (hrl : r32 l) (hri : r32 i) (hra : r32 a) : jCall 123 [jO x, jI l, jI i, jI a] w (fun v w1 => w1.2 = w.2 ∧ jCall 216 [jO m, jI l, jI i, jI a] w1 (fun v' w2 => zAI (True) x m v v' w2)) := by
  have xm := h.xm
  have hz : ∀ y, y < 3 → -1 ≤ w.1 (x + (387 + 2 * y)) 0 ∧ w.1 (x + (387 + 2 * y)) 0 ≤ 40 := fun y hy => by rw [(h.lists y hy).1]; exact (h.lists y hy).2.1
  have hI : ∀ y, y < 3 → ∀ j, j < 40 → r32 (w.1 (x + (388 + 2 * y)) j) := fun y hy j hj => by rw [((h.lists y hy).2.2 j hj).1]; exact ((h.lists y hy).2.2 j hj).2
  have hz2 : ∀ {w1 : jS}, cnb w x w1 → ∀ y, y < 3 → -1 ≤ w1.1 (m + 423) y ∧ w1.1 (m + 423) y ≤ 40 := fun hq y hy => by rw [zcb h hq (by omega)]; exact (h.lists y hy).2.1
  have hI2 : ∀ {w1 : jS}, cnb w x w1 → ∀ y, y < 3 → ∀ j, j < 40 → r32 (w1.1 (m + (425 + y)) j) := fun hq y hy j hj => by rw [zcb h hq (by omega)]; exact ((h.lists y hy).2.2 j hj).2
  have ce : ∀ {w1 : jS}, cnb w x w1 → w1.1 (m + 423) = w.1 (m + 423) := fun hq => zcb h hq (by omega)
  have ci : ∀ {w1 : jS}, cnb w x w1 → ∀ y, w1.1 (m + (425 + y)) = w.1 (m + (425 + y)) := fun hq y => zcb h hq (by omega)
  obtain ⟨c, hR, hRW⟩ := h.rows
  have hC := C_lays (w := w) (x := x) h.cw hz hI hR hRW hrl hri hra
  have hE := fun (w1 : jS) (hm : MW w1.2 m) (q : ∀ x, x < 3 → -1 ≤ w1.1 (m + 423) x ∧ w1.1 (m + 423) x ≤ 40) (q2 : ∀ y, y < 3 → ∀ j, j < 40 → r32 (w1.1 (m + (425 + y)) j)) (q3 : zRw (w1.1 (m + 2)) c) => E_lays (w := w1) (m := m) hm q q2 q3 hrl hri hra
  by_cases g0 : ¬ (0 ≤ l ∧ l ≤ 2) ∨ ¬ (0 ≤ a ∧ a < (c : Int))
  · exact L_no h (show 0 < 6 by decide) (hC.mono fun v w1 hc => cno_q (hc.1 g0)) (fun w1 hq => (hE w1 (zmb h hq) (hz2 hq) (hI2 hq) (by rw [zcb h hq (show m ≤ m + 2 by omega)]; exact hR)).mono fun v' w2 he => jno_q (he.1 g0))
  have hs := (h.lists l.toNat (by omega)).1
  have ht := (h.lists l.toNat (by omega)).2.2
  have hz9 := hz l.toNat (by omega)
  by_cases g1 : (w.1 (x + (387 + 2 * l.toNat)) 0) < 0
  · refine L_ok h (hC.mono fun v w1 hc => ?_)
    obtain ⟨h1, rfl⟩ := hc.2.1 g0 g1
    refine ⟨_, ⟨h1, cq_0⟩, (hE _ h.mw (hz2 cnb_0) (hI2 cnb_0) hR).mono fun v' w2 he => ?_⟩
    rw [← hs] at he
    exact ⟨_, ⟨(he.2.1 g0 g1).1, by rw [(he.2.1 g0 g1).2]; exact mq_0⟩, fun _ => rfl⟩
  by_cases g2 : ¬ (0 ≤ i ∧ i < w.1 (x + (387 + 2 * l.toNat)) 0)
  · refine L_ok h (hC.mono fun v w1 hc => ?_)
    obtain ⟨h1, rfl⟩ := hc.2.2.1 g0 g1 g2
    refine ⟨_, ⟨h1, cq_0⟩, (hE _ h.mw (hz2 cnb_0) (hI2 cnb_0) hR).mono fun v' w2 he => ?_⟩
    rw [← hs] at he
    exact ⟨_, ⟨(he.2.2.1 g0 g1 g2).1, by rw [(he.2.2.1 g0 g1 g2).2]; exact mq_0⟩, fun _ => rfl⟩
  refine hC.mono fun v w1 hc => ?_
  obtain ⟨t, len, why, left, hT, n, T, h1, ⟨hn1, hn2, hn3⟩, rfl, hly⟩ := hc.2.2.2 g0 g1 g2
  have F0 : ∀ b, b ≠ x + (388 + 2 * l.toNat) → (kA w (x + (388 + 2 * l.toNat)) T).1 b = w.1 b := fun b a => kA_f a
  refine ⟨rfl, (hE (kA w (x + (388 + 2 * l.toNat)) T) h.mw (fun z hz0 => by rw [F0 _ (by omega)]; exact (h.lists z hz0).2.1) (fun z hz0 j hj => by rw [F0 _ (by omega)]; exact ((h.lists z hz0).2.2 j hj).2) (by rw [F0 _ (by omega)]; exact hR)).mono fun v' w2 he => ?_⟩
  rw [F0 (m + 423) (by omega), F0 (m + 2) (by omega), F0 (m + (425 + l.toNat)) (by omega), ← hs] at he
  obtain ⟨t2, len2, why2, left2, hT2, n2, e1, ⟨em1, em2, em3⟩, w3, T2, hq, rfl, hly2⟩ := he.2.2.2 g0 g1 g2
  obtain ⟨rfl, -, -, ht2⟩ := zTR_u hR (by omega) hT hT2
  have en : n = n2 := zn_u hn1 hn2 hn3 em1 em2 em3
  subst en
  have hb := zTR_b hR (by omega) hT
  have F : ∀ b, (b < m ∨ b = m + 1 ∨ b = m + 2 ∨ b = m + 3 ∨ (m + 8 ≤ b ∧ b ≤ m + 15) ∨ b = m + 421 ∨ b = m + 423 ∨ (m + 425 ≤ b ∧ b ≤ m + 429)) → b ≠ x + (388 + 2 * l.toNat) → b ≠ m + (425 + l.toNat) → (kA w3 (m + (425 + l.toNat)) T2).1 b = w.1 b := fun b a0 a1 a2 => (kA_f a2).trans ((hq.2.1 b (by omega)).trans (F0 b a1))
  have s3 : (kA w3 (m + (425 + l.toNat)) T2).1 (x + (388 + 2 * l.toNat)) = T := (kA_f (by omega)).trans ((hq.2.1 _ (by omega)).trans kA_fs)
  have s4 : (kA w3 (m + (425 + l.toNat)) T2).1 (m + (425 + l.toNat)) = T2 := kA_fs
  have em : ∀ j, (kA w3 (m + (425 + l.toNat)) T2).1 m j = w3.1 m j := fun j => congrFun (kA_f (by omega)) j
  have e0 : ∀ j, (kA w (x + (388 + 2 * l.toNat)) T).1 m j = w.1 m j := fun j => congrFun (F0 m (by omega)) j
  refine ⟨⟨_, _, h1, e1, fun _ => rfl⟩, zRel_F (zRel_L h hq.1 (fun b _ _ _ _ => F b (by omega) (by omega) (by omega)) (fun b _ => F b (by omega) (by omega) (by omega)) ((em 15).trans (hq.2.2.1.trans (e0 15))) ((em 24).trans (hq.2.2.2.1.trans (e0 24))) ((em 31).trans (hq.2.2.2.2.trans (e0 31))) (zLL_u h.lists (l := l.toNat) (by omega) (fun b _ _ a1 a2 => F b (by omega) a2 (by omega)) (fun y hy => congrFun (F _ (by omega) (by omega) (by omega)) y) (fun b _ _ a1 => F b (by omega) (by omega) a1) ?_ ?_ ?_))⟩
  · rw [F _ (by omega) (by omega) (by omega), F (m + 423) (by omega) (by omega) (by omega)]
    exact hs
  · rw [F (m + 423) (by omega) (by omega) (by omega)]
    exact (h.lists l.toNat (by omega)).2.1
  · intro j hj
    rw [s3, s4, hly j hj, hly2 j hj]
    by_cases e : i.toNat ≤ j ∧ j < i.toNat + n
    · rw [if_pos e, if_pos e, ht2 _ (by omega)]
      refine ⟨rfl, ?_⟩
      rw [← ht2 _ (by omega)]
      have := hb.2.2 (j - i.toNat) (by omega)
      exact ⟨by omega, by omega⟩
    · rw [if_neg e, if_neg e]
      exact ht j hj
end
