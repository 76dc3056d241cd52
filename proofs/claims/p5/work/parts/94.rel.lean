/-! the two worlds side by side: the class's object at x, the reference's at m -/
/-- the class asks nothing of what lies behind it -/
def cnb (w : jS) (x : Nat) (w1 : jS) : Prop := w1.2 = w.2 ∧ ∀ b, x + 393 ≤ b → w1.1 b = w.1 b
theorem cnb_q {w w1 : jS} {x : Nat} (h : cq w x w1) : cnb w x w1 := ⟨h.1, fun b hb => h.2 b (by omega) (by omega) (by omega)⟩
theorem cnb_W {w w1 : jS} {x a k : Nat} {y : Int} (h : cnb w x w1) (ha : a < x + 393) : cnb w x (jW w1 a k y) :=
  ⟨h.1, fun b hb => (show jup w1.1 a k y b = w1.1 b from funext fun j => if_neg (by omega)).trans (h.2 b hb)⟩
theorem jup_f {M : Nat → Nat → Int} {a k b : Nat} {y : Int} (h : b ≠ a) : jup M a k y b = M b := funext fun j => if_neg (by omega)
/-- a seed of the class (how many letters: h 0, its cells: C), told by the reference's array q -/
def zRS (g : Prop) (h C q : Nat → Int) : Prop := ∃ n, zQ q n ∧ h 0 = (n : Int) ∧ cR g C q n
theorem zRS_F {g : Prop} {h C q : Nat → Int} (r : zRS g h C q) : zRS False h C q := by
  obtain ⟨n, h1, h2, h3⟩ := r
  exact ⟨n, h1, h2, cR_F h3⟩
theorem zRS_c {g : Prop} {h C q h' C' q' : Nat → Int} (r : zRS g h C q) (e0 : h' 0 = h 0) (eC : ∀ j, j < 44 → C' j = C j) (eq : zeq q' q) : zRS g h' C' q' := by
  obtain ⟨n, h1, h2, h3⟩ := r
  exact ⟨n, zQ_c eq h1, e0.trans h2, cR_c eq (cR_C eC h3)⟩
/-- rows, told by the reference's array R -/
def zRR (w : jS) (x : Nat) (R : Nat → Int) : Prop := ∃ c, zRw R c ∧ cRW w x R c
def zIR (w : jS) (x : Nat) (R : Nat → Int) : Prop := ∃ c : Nat, zRw R c ∧ w.1 x 3 = (c : Int) ∧ ∀ i, i < c → cRo w (x + (366 + 6 * i)) (x + (367 + 6 * i)) (x + (368 + 6 * i)) (R (1 + 10 * i)) (R (2 + 10 * i)) (fun z => R (3 + 10 * i + z))
theorem zRw_c {R R' : Nat → Int} {c : Nat} (e : ∀ j, j < 41 → R' j = R j) (h : zRw R c) : zRw R' c := by
  obtain ⟨h1, h2, h3⟩ := h
  refine ⟨(e 0 (by omega)).trans h1, h2, fun i hi => ?_⟩
  obtain ⟨a, b, d⟩ := h3 i hi
  rw [e (1 + 10 * i) (by omega), e (2 + 10 * i) (by omega)]
  refine ⟨a, b, fun y hy => ?_⟩
  rw [e (3 + 10 * i + y) (by omega)]
  exact d y hy
theorem cRo_s {w : jS} {r rs rt : Nat} {law f : Int} {s s' : Nat → Int} (e : ∀ y, y < 8 → s' y = s y) (h : cRo w r rs rt law f s) : cRo w r rs rt law f s' := by
  obtain ⟨h1, h2, h3, len, why, left, h4, h5, h6, ⟨g1, g2, g3, g4⟩, h8⟩ := h
  refine ⟨h1, h2, fun y hy => (h3 y hy).trans (e y hy).symm, len, why, left, h4, h5, h6, ⟨g1, g2, fun y hy => (g3 y hy).trans (e y ?_).symm, g4⟩, h8⟩
  have : (zO law).toNat ≤ 8 := by
    unfold zO
    split
    · decide
    · split
      · omega
      · decide
  omega
theorem cRo_R {w : jS} {r rs rt i c : Nat} {R R' : Nat → Int} (e : ∀ j, j < 41 → R' j = R j) (hi : i < c) (hc : c ≤ 4) (h : cRo w r rs rt (R (1 + 10 * i)) (R (2 + 10 * i)) (fun z => R (3 + 10 * i + z))) : cRo w r rs rt (R' (1 + 10 * i)) (R' (2 + 10 * i)) (fun z => R' (3 + 10 * i + z)) := by
  rw [e (1 + 10 * i) (by omega), e (2 + 10 * i) (by omega)]
  exact cRo_s (fun y hy => e (3 + 10 * i + y) (by omega)) h
theorem zRR_f {w w2 : jS} {x : Nat} {R R' : Nat → Int} (h : zRR w x R) (h1 : w2.1 x 1 = w.1 x 1) (hb : ∀ b, x + 363 ≤ b → b < x + 387 → (∀ y, y < 4 → b ≠ x + (366 + 6 * y) ∧ b ≠ x + (367 + 6 * y) ∧ b ≠ x + (368 + 6 * y)) → w2.1 b = w.1 b) (e : ∀ j, j < 41 → R' j = R j) : zRR w2 x R' := by
  obtain ⟨c, hR, h3, h4⟩ := h
  have h4c : c ≤ 4 := hR.2.1
  refine ⟨c, zRw_c e hR, h1.trans h3, fun i hi => cRo_R e hi h4c (cRo_k (hb _ (by omega) (by omega) (fun y hy => by omega)) (hb _ (by omega) (by omega) (fun y hy => by omega)) (hb _ (by omega) (by omega) (fun y hy => by omega)) (h4 i hi))⟩
theorem zIR_f {w w2 : jS} {x : Nat} {R R' : Nat → Int} (h : zIR w x R) (h1 : w2.1 x 3 = w.1 x 3) (hb : ∀ b, x + 363 ≤ b → b < x + 387 → (∀ y, y < 4 → b ≠ x + (363 + 6 * y) ∧ b ≠ x + (364 + 6 * y) ∧ b ≠ x + (365 + 6 * y)) → w2.1 b = w.1 b) (e : ∀ j, j < 41 → R' j = R j) : zIR w2 x R' := by
  obtain ⟨c, hR, h3, h4⟩ := h
  have h4c : c ≤ 4 := hR.2.1
  refine ⟨c, zRw_c e hR, h1.trans h3, fun i hi => cRo_R e hi h4c (cRo_k (hb _ (by omega) (by omega) (fun y hy => by omega)) (hb _ (by omega) (by omega) (fun y hy => by omega)) (hb _ (by omega) (by omega) (fun y hy => by omega)) (h4 i hi))⟩
/-- what can be undone -/
def zPP (w : jS) (x m : Nat) : Prop := ∃ u : Nat, u ≤ 8 ∧ w.1 m 15 = (u : Int) ∧ w.1 (x + 341) 0 = (u : Int) ∧ ∀ y, y < u → zRS False (w.1 (x + 341 + (2 + 2 * y))) (w.1 (x + 341 + (3 + 2 * y))) (w.1 (m + (8 + y)))
theorem zPP_f {w w2 : jS} {x m : Nat} (h : zPP w x m) (h1 : w2.1 m 15 = w.1 m 15) (hb : ∀ b, x + 341 ≤ b → b < x + 359 → w2.1 b = w.1 b) (hm : ∀ b, m + 8 ≤ b → b < m + 16 → w2.1 b = w.1 b) : zPP w2 x m := by
  obtain ⟨u, h8, a, b, c⟩ := h
  refine ⟨u, h8, h1.trans a, (congrFun (hb _ (by omega) (by omega)) 0).trans b, fun y hy => ?_⟩
  rw [hb (x + 341 + (2 + 2 * y)) (by omega) (by omega), hb (x + 341 + (3 + 2 * y)) (by omega) (by omega), hm (m + (8 + y)) (by omega) (by omega)]
  exact c y hy
/-- the image -/
def zII (w : jS) (x m : Nat) : Prop := (w.1 m 31 = 0 ∧ w.1 x 3 = -1) ∨ (w.1 m 31 = 1 ∧ zIR w x (w.1 (m + 429)) ∧ zRS False (w.1 (x + 5)) (w.1 (x + 6)) (w.1 (m + 428)))
theorem zII_f {w w2 : jS} {x m : Nat} (h : zII w x m) (h1 : w2.1 m 31 = w.1 m 31) (h3 : w2.1 x 3 = w.1 x 3) (hb : ∀ b, x + 363 ≤ b → b < x + 387 → (∀ y, y < 4 → b ≠ x + (363 + 6 * y) ∧ b ≠ x + (364 + 6 * y) ∧ b ≠ x + (365 + 6 * y)) → w2.1 b = w.1 b) (hs : ∀ b, x + 5 ≤ b → b < x + 7 → w2.1 b = w.1 b) (hm : ∀ b, m + 428 ≤ b → b < m + 430 → w2.1 b = w.1 b) : zII w2 x m := by
  rcases h with ⟨a, b⟩ | ⟨a, b, c⟩
  · exact Or.inl ⟨h1.trans a, h3.trans b⟩
  · refine Or.inr ⟨h1.trans a, ?_, ?_⟩
    · rw [hm (m + 429) (by omega) (by omega)]
      exact zIR_f b h3 hb (fun _ _ => rfl)
    · rw [hm (m + 428) (by omega) (by omega), hs (x + 5) (by omega) (by omega), hs (x + 6) (by omega) (by omega)]
      exact c
/-- the lists -/
def zLL (w : jS) (x m : Nat) : Prop := ∀ y, y < 3 → w.1 (x + (387 + 2 * y)) 0 = w.1 (m + 423) y ∧ (-1 ≤ w.1 (m + 423) y ∧ w.1 (m + 423) y ≤ 40) ∧ ∀ j, j < 40 → w.1 (x + (388 + 2 * y)) j = w.1 (m + (425 + y)) j ∧ r32 (w.1 (m + (425 + y)) j)
theorem zLL_f {w w2 : jS} {x m : Nat} (h : zLL w x m) (hb : ∀ b, x + 387 ≤ b → b < x + 393 → w2.1 b = w.1 b) (h1 : w2.1 (m + 423) = w.1 (m + 423)) (hm : ∀ b, m + 425 ≤ b → b < m + 428 → w2.1 b = w.1 b) : zLL w2 x m := by
  intro y hy
  rw [hb (x + (387 + 2 * y)) (by omega) (by omega), hb (x + (388 + 2 * y)) (by omega) (by omega), h1, hm (m + (425 + y)) (by omega) (by omega)]
  exact h y hy
/-- the text -/
def zTT (w : jS) (x m : Nat) : Prop := ∃ F : Nat, F ≤ 72 ∧ w.1 m 24 = (F : Int) ∧ w.1 (x + 339) 0 = (F : Int) ∧ ∀ j, j < F → w.1 (x + 340) j = w.1 (m + 421) j ∧ 0 ≤ w.1 (m + 421) j ∧ w.1 (m + 421) j ≤ 255
theorem zTT_f {w w2 : jS} {x m : Nat} (h : zTT w x m) (h1 : w2.1 m 24 = w.1 m 24) (hb : ∀ b, x + 339 ≤ b → b < x + 341 → w2.1 b = w.1 b) (hm : w2.1 (m + 421) = w.1 (m + 421)) : zTT w2 x m := by
  obtain ⟨F, h2, h3, h4, h5⟩ := h
  rw [zTT, h1, hb (x + 339) (by omega) (by omega), hb (x + 340) (by omega) (by omega), hm]
  exact ⟨F, h2, h3, h4, h5⟩
/-- the refusals -/
def zNN (w : jS) (x m : Nat) : Prop := ∀ j, j < 6 → w.1 (x + 362) j = w.1 (m + 3) (j + 1)
theorem zNN_f {w w2 : jS} {x m : Nat} (h : zNN w x m) (h1 : w2.1 (x + 362) = w.1 (x + 362)) (h2 : w2.1 (m + 3) = w.1 (m + 3)) : zNN w2 x m := by
  rw [zNN, h1, h2]
  exact h
def zWW (w : jS) (x m : Nat) : Prop := CW w.2 x ∧ MW w.2 m ∧ jOK w ∧ x + 393 ≤ m ∧ w.2.2.2.2 < x
theorem zWW_f {w w2 : jS} {x m : Nat} (h : zWW w x m) (e : w2.2 = w.2) (ho : ∀ b, b < x → w2.1 b = w.1 b) : zWW w2 x m := by
  obtain ⟨h1, h2, h3, h4, h5⟩ := h
  refine ⟨by rw [e]; exact h1, by rw [e]; exact h2, ⟨?_, fun j => ?_⟩, h4, by rw [e]; exact h5⟩
  · rw [e]; exact h3.1
  · rw [e, ho _ h5]; exact h3.2 j
def zRel (g : Prop) (x m : Nat) (w : jS) : Prop := zWW w x m ∧ zRR w x (w.1 (m + 2)) ∧ zRS g (w.1 (x + 3)) (w.1 (x + 4)) (w.1 (m + 1)) ∧ zPP w x m ∧ zII w x m ∧ zLL w x m ∧ zTT w x m ∧ zNN w x m
section REL
variable {g : Prop} {x m : Nat} {w : jS} (h : zRel g x m w)
theorem zRel.ww (h : zRel g x m w) : zWW w x m := h.1
theorem zRel.cw (h : zRel g x m w) : CW w.2 x := h.1.1
theorem zRel.mw (h : zRel g x m w) : MW w.2 m := h.1.2.1
theorem zRel.ok (h : zRel g x m w) : jOK w := h.1.2.2.1
theorem zRel.xm (h : zRel g x m w) : x + 393 ≤ m := h.1.2.2.2.1
theorem zRel.ao (h : zRel g x m w) : w.2.2.2.2 < x := h.1.2.2.2.2
theorem zRel.rows (h : zRel g x m w) : zRR w x (w.1 (m + 2)) := h.2.1
theorem zRel.seed (h : zRel g x m w) : zRS g (w.1 (x + 3)) (w.1 (x + 4)) (w.1 (m + 1)) := h.2.2.1
theorem zRel.past (h : zRel g x m w) : zPP w x m := h.2.2.2.1
theorem zRel.img (h : zRel g x m w) : zII w x m := h.2.2.2.2.1
theorem zRel.lists (h : zRel g x m w) : zLL w x m := h.2.2.2.2.2.1
theorem zRel.text (h : zRel g x m w) : zTT w x m := h.2.2.2.2.2.2.1
theorem zRel.refs (h : zRel g x m w) : zNN w x m := h.2.2.2.2.2.2.2
end REL
theorem zRel_F {g : Prop} {x m : Nat} {w : jS} (h : zRel g x m w) : zRel False x m w := ⟨h.1, h.2.1, zRS_F h.2.2.1, h.2.2.2⟩
/-- both have done quietly what they did -/
theorem zRel_q {g : Prop} {x m : Nat} {w w1 w2 : jS} (h : zRel g x m w) (hc : cq w x w1) (hm : mq w1 m w2) : zRel g x m w2 := by
  have xm := h.xm
  have K : ∀ b, b < m → (b < x + 7 ∨ x + 339 ≤ b) → b ≠ x + 360 → b ≠ x + 361 → w2.1 b = w.1 b := fun b h0 h1 h2 h3 => (hm.2.1 b (by omega)).trans (hc.2 b h1 h2 h3)
  have L : ∀ b, m + 1 ≤ b → (b = m + 1 ∨ b = m + 2 ∨ b = m + 3 ∨ (m + 8 ≤ b ∧ b ≤ m + 15) ∨ b = m + 421 ∨ b = m + 423 ∨ (m + 425 ≤ b ∧ b ≤ m + 429)) → w2.1 b = w.1 b := fun b h0 h1 => (hm.2.1 b (by omega)).trans (hc.2 b (by omega) (by omega) (by omega))
  have e1 : w1.1 m = w.1 m := hc.2 m (by omega) (by omega) (by omega)
  have e15 : w2.1 m 15 = w.1 m 15 := hm.2.2.1.trans (congrFun e1 15)
  have e24 : w2.1 m 24 = w.1 m 24 := hm.2.2.2.1.trans (congrFun e1 24)
  have e31 : w2.1 m 31 = w.1 m 31 := hm.2.2.2.2.trans (congrFun e1 31)
  refine ⟨zWW_f h.ww (hm.1.trans hc.1) (fun b hb => K b (by omega) (by omega) (by omega) (by omega)), zRR_f h.rows (congrFun (K x (by omega) (by omega) (by omega) (by omega)) 1) (fun b _ _ _ => K b (by omega) (by omega) (by omega) (by omega)) (fun j _ => congrFun (L (m + 2) (by omega) (by omega)) j), ?_, zPP_f h.past e15 (fun b _ _ => K b (by omega) (by omega) (by omega) (by omega)) (fun b _ _ => L b (by omega) (by omega)), zII_f h.img e31 (congrFun (K x (by omega) (by omega) (by omega) (by omega)) 3) (fun b _ _ _ => K b (by omega) (by omega) (by omega) (by omega)) (fun b _ _ => K b (by omega) (by omega) (by omega) (by omega)) (fun b _ _ => L b (by omega) (by omega)), zLL_f h.lists (fun b _ _ => K b (by omega) (by omega) (by omega) (by omega)) (L _ (by omega) (by omega)) (fun b _ _ => L b (by omega) (by omega)), zTT_f h.text e24 (fun b _ _ => K b (by omega) (by omega) (by omega) (by omega)) (L _ (by omega) (by omega)), zNN_f h.refs (K _ (by omega) (by omega) (by omega) (by omega)) (L _ (by omega) (by omega))⟩
  rw [K (x + 3) (by omega) (by omega) (by omega) (by omega), K (x + 4) (by omega) (by omega) (by omega) (by omega), L (m + 1) (by omega) (by omega)]
  exact h.seed
/-- a refusal counted by both -/
theorem zRel_n {g : Prop} {x m j : Nat} {w w3 : jS} {y : Int} (h : zRel g x m w) (hj : j < 6) (e : w3.2 = w.2) (hf : ∀ b, b ≠ x + 362 → b ≠ m + 3 → w3.1 b = w.1 b) (h1 : ∀ i, w3.1 (x + 362) i = if i = j then y else w.1 (x + 362) i) (h2 : ∀ i, w3.1 (m + 3) i = if i = j + 1 then y else w.1 (m + 3) i) : zRel g x m w3 := by
  have xm := h.xm
  refine ⟨zWW_f h.ww e (fun b hb => hf b (by omega) (by omega)), zRR_f h.rows (congrFun (hf x (by omega) (by omega)) 1) (fun b _ _ _ => hf b (by omega) (by omega)) (fun j _ => congrFun (hf (m + 2) (by omega) (by omega)) j), ?_, zPP_f h.past (congrFun (hf m (by omega) (by omega)) 15) (fun b _ _ => hf b (by omega) (by omega)) (fun b _ _ => hf b (by omega) (by omega)), zII_f h.img (congrFun (hf m (by omega) (by omega)) 31) (congrFun (hf x (by omega) (by omega)) 3) (fun b _ _ _ => hf b (by omega) (by omega)) (fun b _ _ => hf b (by omega) (by omega)) (fun b _ _ => hf b (by omega) (by omega)), zLL_f h.lists (fun b _ _ => hf b (by omega) (by omega)) (hf _ (by omega) (by omega)) (fun b _ _ => hf b (by omega) (by omega)), zTT_f h.text (congrFun (hf m (by omega) (by omega)) 24) (fun b _ _ => hf b (by omega) (by omega)) (hf _ (by omega) (by omega)), fun i hi => ?_⟩
  · rw [hf (x + 3) (by omega) (by omega), hf (x + 4) (by omega) (by omega), hf (m + 1) (by omega) (by omega)]
    exact h.seed
  · rw [h1, h2]
    by_cases e9 : i = j
    · rw [if_pos e9, if_pos (by omega)]
    · rw [if_neg e9, if_neg (by omega)]
      exact h.refs i hi
/-- two answers of ints, of longs -/
def zAI (c : Prop) (x m : Nat) (v v' : Option jV) (w2 : jS) : Prop := (∃ a b, v = some (jI a) ∧ v' = some (jI b) ∧ (c → a = b)) ∧ zRel False x m w2
def zAJ (c : Prop) (x m : Nat) (v v' : Option jV) (w2 : jS) : Prop := (∃ a b, v = some (jJ a) ∧ v' = some (jJ b) ∧ (c → a = b)) ∧ zRel False x m w2
theorem cno_q {w : jS} {x j : Nat} {y : jV} {v : Option jV} {w1 : jS} (h : cno w x j y v w1) : cnq w x j y v w1 := ⟨h.1, w, cq_0, h.2⟩
theorem jno_q {w : jS} {m j : Nat} {y : jV} {v : Option jV} {w1 : jS} (h : jno w m j y v w1) : jnq w m j y v w1 := ⟨h.1, w, mq_0, h.2⟩
theorem cnq_b {w : jS} {x j : Nat} {y : jV} {v : Option jV} {w1 : jS} (h : cnq w x j y v w1) : cnb w x w1 := by
  obtain ⟨-, w2, h1, rfl⟩ := h
  exact cnb_W (cnb_q h1) (by omega)
theorem zRel_no {g : Prop} {x m j : Nat} {w w1 w2 : jS} {y y' : jV} {v v' : Option jV} (h : zRel g x m w) (hj : j < 6) (hc : cnq w x j y v w1) (he : jnq w1 m (j + 1) y' v' w2) : zRel False x m w2 := by
  have xm := h.xm
  obtain ⟨-, wa, ha, rfl⟩ := hc
  obtain ⟨-, wb, hb, rfl⟩ := he
  have e0 : (jW wa (x + 362) j (w.1 (x + 362) j + 1)).1 (m + 3) = w.1 (m + 3) := (jup_f (by omega)).trans (ha.2 _ (by omega) (by omega) (by omega))
  have hq : mq wa m (fun b => if b = x + 362 then wa.1 b else wb.1 b, wb.2) := by
    refine ⟨hb.1, fun a hd => ?_, ?_, ?_, ?_⟩
    · dsimp only
      by_cases e : a = x + 362
      · rw [if_pos e]
      · rw [if_neg e]
        exact (hb.2.1 a hd).trans (jup_f e)
    · dsimp only
      rw [if_neg (by omega)]
      exact hb.2.2.1.trans (congrFun (jup_f (by omega)) 15)
    · dsimp only
      rw [if_neg (by omega)]
      exact hb.2.2.2.1.trans (congrFun (jup_f (by omega)) 24)
    · dsimp only
      rw [if_neg (by omega)]
      exact hb.2.2.2.2.trans (congrFun (jup_f (by omega)) 31)
  have hR := zRel_F (zRel_q h ha hq)
  have ew : w.1 (x + 362) j = w.1 (m + 3) (j + 1) := h.refs j hj
  have ea : wa.1 (x + 362) = w.1 (x + 362) := ha.2 _ (by omega) (by omega) (by omega)
  have eb : wb.1 (x + 362) = (jW wa (x + 362) j (w.1 (x + 362) j + 1)).1 (x + 362) := hb.2.1 _ (by omega)
  refine zRel_n (y := w.1 (x + 362) j + 1) hR hj rfl (fun b h1 h2 => ?_) (fun i => ?_) (fun i => ?_)
  · show jup wb.1 (m + 3) (j + 1) _ b = if b = x + 362 then wa.1 b else wb.1 b
    rw [if_neg h1, jup_f h2]
  · show jup wb.1 (m + 3) (j + 1) _ (x + 362) i = if i = j then _ else (if x + 362 = x + 362 then wa.1 (x + 362) else wb.1 (x + 362)) i
    rw [jup_f (by omega), eb, if_pos rfl]
    show (if x + 362 = x + 362 ∧ i = j then _ else wa.1 (x + 362) i) = _
    by_cases e : i = j
    · rw [if_pos ⟨rfl, e⟩, if_pos e]
    · rw [if_neg (fun q => e q.2), if_neg e]
  · show (if m + 3 = m + 3 ∧ i = j + 1 then _ else wb.1 (m + 3) i) = if i = j + 1 then _ else (if m + 3 = x + 362 then wa.1 (m + 3) else wb.1 (m + 3)) i
    rw [if_neg (show ¬ m + 3 = x + 362 by omega)]
    by_cases e : i = j + 1
    · rw [if_pos ⟨rfl, e⟩, if_pos e, e0, ew]
    · rw [if_neg (fun q => e q.2), if_neg e]
/-! leaves -/
section LEAF
variable {g c : Prop} {x m kC kE j : Nat} {asC asE : List jV} {w : jS}
theorem L_no {y : Int} (h : zRel g x m w) (hj : j < 6) (hC : jCall kC asC w (fun v w1 => cnq w x j (jI y) v w1)) (hE : ∀ w1, cnb w x w1 → jCall kE asE w1 (fun v' w2 => jnq w1 m (j + 1) (jI y) v' w2)) : jCall kC asC w (fun v w1 => w1.2 = w.2 ∧ jCall kE asE w1 (fun v' w2 => zAI c x m v v' w2)) :=
  hC.mono (fun v w1 hc => ⟨(cnq_b hc).1, (hE w1 (cnq_b hc)).mono (fun v' w2 he => ⟨⟨y, y, hc.1, he.1, fun _ => rfl⟩, zRel_no h hj hc he⟩)⟩)
theorem L_noJ {y : Int} (h : zRel g x m w) (hj : j < 6) (hC : jCall kC asC w (fun v w1 => cnq w x j (jJ y) v w1)) (hE : ∀ w1, cnb w x w1 → jCall kE asE w1 (fun v' w2 => jnq w1 m (j + 1) (jJ y) v' w2)) : jCall kC asC w (fun v w1 => w1.2 = w.2 ∧ jCall kE asE w1 (fun v' w2 => zAJ c x m v v' w2)) :=
  hC.mono (fun v w1 hc => ⟨(cnq_b hc).1, (hE w1 (cnq_b hc)).mono (fun v' w2 he => ⟨⟨y, y, hc.1, he.1, fun _ => rfl⟩, zRel_no h hj hc he⟩)⟩)
theorem L_ok (h : zRel g x m w) (hC : jCall kC asC w (fun v w1 => ∃ y, (v = some (jI y) ∧ cq w x w1) ∧ jCall kE asE w1 (fun v' w2 => ∃ y', (v' = some (jI y') ∧ mq w1 m w2) ∧ (c → y = y')))) : jCall kC asC w (fun v w1 => w1.2 = w.2 ∧ jCall kE asE w1 (fun v' w2 => zAI c x m v v' w2)) :=
  hC.mono (fun v w1 hc => by
    obtain ⟨y, ⟨h1, h2⟩, h3⟩ := hc
    exact ⟨h2.1, h3.mono (fun v' w2 he => by
      obtain ⟨y', ⟨g1, g2⟩, g3⟩ := he
      exact ⟨⟨y, y', h1, g1, g3⟩, zRel_F (zRel_q h h2 g2)⟩)⟩)
theorem L_okJ (h : zRel g x m w) (hC : jCall kC asC w (fun v w1 => ∃ y, (v = some (jJ y) ∧ cq w x w1) ∧ jCall kE asE w1 (fun v' w2 => ∃ y', (v' = some (jJ y') ∧ mq w1 m w2) ∧ (c → y = y')))) : jCall kC asC w (fun v w1 => w1.2 = w.2 ∧ jCall kE asE w1 (fun v' w2 => zAJ c x m v v' w2)) :=
  hC.mono (fun v w1 hc => by
    obtain ⟨y, ⟨h1, h2⟩, h3⟩ := hc
    exact ⟨h2.1, h3.mono (fun v' w2 he => by
      obtain ⟨y', ⟨g1, g2⟩, g3⟩ := he
      exact ⟨⟨y, y', h1, g1, g3⟩, zRel_F (zRel_q h h2 g2)⟩)⟩)
end LEAF
