/-! rows told, the image: class and reference side by side -/
/-- what a change of the rows (and of what can be undone, of the seed, of the image) leaves -/
theorem zRel_R {g g' : Prop} {x m : Nat} {w w3 : jS} (h : zRel g x m w) (e : w3.2 = w.2) (hx : w3.2.2.2.2 < x) (K : ∀ b, b < m → b ≠ x → b ≠ x + 3 → b ≠ x + 4 → b ≠ x + 5 → b ≠ x + 6 → b ≠ x + 341 → (b < x + 363 ∨ x + 387 ≤ b) → w3.1 b = w.1 b) (L : ∀ b, (b = m + 3 ∨ (m + 8 ≤ b ∧ b ≤ m + 15) ∨ b = m + 421 ∨ b = m + 423 ∨ (m + 425 ≤ b ∧ b ≤ m + 427)) → w3.1 b = w.1 b) (e24 : w3.1 m 24 = w.1 m 24) (hr : zRR w3 x (w3.1 (m + 2))) (hs : zRS g' (w3.1 (x + 3)) (w3.1 (x + 4)) (w3.1 (m + 1))) (hp : zPP w3 x m) (hi : zII w3 x m) : zRel g' x m w3 := by
  have xm := h.xm
  have hao := h.ao
  exact ⟨zWW_f h.ww e (fun b hb => K b (by omega) (by omega) (by omega) (by omega) (by omega) (by omega) (by omega) (by omega)), hr, hs, hp, hi, zLL_f h.lists (fun b _ _ => K b (by omega) (by omega) (by omega) (by omega) (by omega) (by omega) (by omega) (by omega)) (L _ (by omega)) (fun b _ _ => L b (by omega)), zTT_f h.text e24 (fun b _ _ => K b (by omega) (by omega) (by omega) (by omega) (by omega) (by omega) (by omega) (by omega)) (L _ (by omega)), zNN_f h.refs (K _ (by omega) (by omega) (by omega) (by omega) (by omega) (by omega) (by omega) (by omega)) (L _ (by omega))⟩
set_option maxHeartbeats 2000000 in
theorem T_row {g : Prop} {x m : Nat} {w : jS} (h : zRel g x m w) {l f : Int} (hrl : r32 l) (hrf : r32 f) : jCall 92 [jO x, jI l, jI f] w (fun v w1 => w1.2 = w.2 ∧ jCall 147 [jO m, jI l, jI f] w1 (fun v' w2 => zAI True x m v v' w2)) := by
  have xm := h.xm
  have hao := h.ao
  obtain ⟨c, hR, hRW⟩ := h.rows
  have hc4 := hR.2.1
  have hC := C_row (w := w) (x := x) h.cw hR hRW h.ok (Or.inl h.ao) hrl hrf
  have hE := fun (w1 : jS) (hm : MW w1.2 m) (e : w1.1 (m + 2) = w.1 (m + 2)) => E_row (w := w1) (m := m) (c := c) hm (by rw [e]; exact hR) hrl hrf
  by_cases g0 : ¬ (0 ≤ l ∧ l ≤ 6)
  · exact L_no h (show 1 < 6 by decide) (hC.mono fun v w1 hc => cno_q (hc.1 g0)) (fun w1 hq => (hE w1 (zmb h hq) (zcb h hq (by omega))).mono fun v' w2 he => jno_q (he.1 g0))
  by_cases g1 : f < 0
  · exact L_no h (show 3 < 6 by decide) (hC.mono fun v w1 hc => cno_q (hc.2.1 g0 g1)) (fun w1 hq => (hE w1 (zmb h hq) (zcb h hq (by omega))).mono fun v' w2 he => jno_q (he.2.1 g0 g1))
  by_cases g2 : 9 < f ∨ c = 4
  · exact L_no h (show 5 < 6 by decide) (hC.mono fun v w1 hc => cno_q (hc.2.2.1 g0 g1 g2)) (fun w1 hq => (hE w1 (zmb h hq) (zcb h hq (by omega))).mono fun v' w2 he => jno_q (he.2.2.1 g0 g1 g2))
  refine hC.mono fun v w1 hc => ?_
  obtain ⟨h1, h2, h3, h4, h5, h6⟩ := hc.2.2.2 g0 g1 g2
  have hb : ∀ b, x + 393 ≤ b → w1.1 b = w.1 b := fun b a0 => h3 b (by omega) (by omega) (by omega) (by omega)
  refine ⟨h2, (hE w1 (by rw [h2]; exact h.mw) (hb _ (by omega))).mono fun v' w2 he => ?_⟩
  rw [hb (m + 2) (by omega)] at he
  obtain ⟨e1, T, rfl, t0, t1, t2, t3, t4⟩ := he.2.2.2 g0 g1 g2
  have F : ∀ b, b ≠ m + 2 → b ≠ x → b ≠ x + (363 + 6 * c) → b ≠ x + (364 + 6 * c) → b ≠ x + (365 + 6 * c) → (kA w1 (m + 2) T).1 b = w.1 b := fun b a0 a1 a2 a3 a4 => (kA_f a0).trans (h3 b a1 a2 a3 a4)
  have F1 : ∀ b, b ≠ m + 2 → (kA w1 (m + 2) T).1 b = w1.1 b := fun b a0 => kA_f a0
  refine ⟨⟨_, _, h1, e1, fun _ => rfl⟩, zRel_R h h2 (by rw [show (kA w1 (m + 2) T).2 = w.2 from h2]; exact hao) (fun b a0 a1 _ _ _ _ _ a2 => F b (by omega) a1 (by omega) (by omega) (by omega)) (fun b a0 => F b (by omega) (by omega) (by omega) (by omega) (by omega)) (congrFun (F m (by omega) (by omega) (by omega) (by omega) (by omega)) 24) ?_ ?_ (zPP_f h.past (congrFun (F m (by omega) (by omega) (by omega) (by omega) (by omega)) 15) (fun b _ _ => F b (by omega) (by omega) (by omega) (by omega) (by omega)) (fun b _ _ => F b (by omega) (by omega) (by omega) (by omega) (by omega))) (zII_f h.img (congrFun (F m (by omega) (by omega) (by omega) (by omega) (by omega)) 31) ((congrFun (F1 x (by omega)) 3).trans (h4 3 (by decide))) (fun b _ _ a0 => F b (by omega) (by omega) (a0 c (by omega)).1 (a0 c (by omega)).2.1 (a0 c (by omega)).2.2) (fun b _ _ => F b (by omega) (by omega) (by omega) (by omega) (by omega)) (fun b _ _ => F b (by omega) (by omega) (by omega) (by omega) (by omega)))⟩
  · rw [show (kA w1 (m + 2) T).1 (m + 2) = T from kA_fs]
    refine ⟨c + 1, ⟨by rw [t0]; rfl, by omega, fun i hi => ?_⟩, ?_, fun i hi => ?_⟩
    · by_cases e : i = c
      · subst e
        rw [t1, t2]
        exact ⟨by omega, by omega, fun y hy => by rw [t3 y hy]; omega⟩
      · rw [t4 (1 + 10 * i) (by omega) (by omega), t4 (2 + 10 * i) (by omega) (by omega)]
        refine ⟨(hR.2.2 i (by omega)).1, (hR.2.2 i (by omega)).2.1, fun y hy => ?_⟩
        rw [t4 (3 + 10 * i + y) (by omega) (by omega)]
        exact (hR.2.2 i (by omega)).2.2 y hy
    · rw [F1 x (by omega), h5]; rfl
    · by_cases e : i = c
      · subst e
        rw [t1, t2]
        exact cRo_s (fun y hy => t3 y hy) (cRo_k (F1 _ (by omega)) (F1 _ (by omega)) (F1 _ (by omega)) h6)
      · rw [t4 (1 + 10 * i) (by omega) (by omega), t4 (2 + 10 * i) (by omega) (by omega)]
        exact cRo_s (fun y hy => t4 (3 + 10 * i + y) (by omega) (by omega)) (cRo_k (F _ (by omega) (by omega) (by omega) (by omega) (by omega)) (F _ (by omega) (by omega) (by omega) (by omega) (by omega)) (F _ (by omega) (by omega) (by omega) (by omega) (by omega)) (hRW.2 i (by omega)))
  · rw [F (x + 3) (by omega) (by omega) (by omega) (by omega) (by omega), F (x + 4) (by omega) (by omega) (by omega) (by omega) (by omega), F (m + 1) (by omega) (by omega) (by omega) (by omega) (by omega)]
    exact zRS_F h.seed
set_option maxHeartbeats 2000000 in
theorem T_start {g : Prop} {x m : Nat} {w : jS} (h : zRel g x m w) {a i y : Int} (hra : r32 a) (hri : r32 i) (hry : r32 y) : jCall 93 [jO x, jI a, jI i, jI y] w (fun v w1 => w1.2 = w.2 ∧ jCall 148 [jO m, jI a, jI i, jI y] w1 (fun v' w2 => zAI True x m v v' w2)) := by
  have xm := h.xm
  have hao := h.ao
  obtain ⟨c, hR, hRW⟩ := h.rows
  have hc4 := hR.2.1
  have hC := C_start (w := w) (x := x) h.cw hR hRW h.ok (Or.inl h.ao) hra hri hry
  have hE := fun (w1 : jS) (hm : MW w1.2 m) (e : w1.1 (m + 2) = w.1 (m + 2)) => E_start (w := w1) (m := m) (c := c) hm (by rw [e]; exact hR) hra hri hry
  by_cases g0 : ¬ (0 ≤ a ∧ a < (c : Int))
  · exact L_no h (show 0 < 6 by decide) (hC.mono fun v w1 hc => cno_q (hc.1 g0)) (fun w1 hq => (hE w1 (zmb h hq) (zcb h hq (by omega))).mono fun v' w2 he => jno_q (he.1 g0))
  by_cases g1 : i < 0 ∨ y < 1
  · exact L_no h (show 3 < 6 by decide) (hC.mono fun v w1 hc => cno_q (hc.2.1 g0 g1)) (fun w1 hq => (hE w1 (zmb h hq) (zcb h hq (by omega))).mono fun v' w2 he => jno_q (he.2.1 g0 g1))
  by_cases g2 : zO (w.1 (m + 2) (1 + 10 * a.toNat)) ≤ i ∨ 9 < y
  · exact L_no h (show 5 < 6 by decide) (hC.mono fun v w1 hc => cno_q (hc.2.2.1 g0 g1 g2)) (fun w1 hq => (hE w1 (zmb h hq) (zcb h hq (by omega))).mono fun v' w2 he => by rw [zcb h hq (show m ≤ m + 2 by omega)] at he; exact jno_q (he.2.2.1 g0 g1 g2))
  refine hC.mono fun v w1 hc => ?_
  obtain ⟨h1, h2, h3, h6⟩ := hc.2.2.2 g0 g1 g2
  have hb : ∀ b, x + 393 ≤ b → w1.1 b = w.1 b := fun b a0 => h3 b (by omega) (by omega) (by omega)
  refine ⟨h2, (hE w1 (by rw [h2]; exact h.mw) (hb _ (by omega))).mono fun v' w2 he => ?_⟩
  rw [hb (m + 2) (by omega)] at he
  obtain ⟨e1, rfl⟩ := he.2.2.2 g0 g1 g2
  have hi8 : i.toNat < 8 := by
    have : zO (w.1 (m + 2) (1 + 10 * a.toNat)) ≤ 8 := by
      unfold zO
      split
      · decide
      · split
        · omega
        · decide
    omega
  have F : ∀ b, b ≠ m + 2 → b ≠ x + (363 + 6 * a.toNat) → b ≠ x + (364 + 6 * a.toNat) → b ≠ x + (365 + 6 * a.toNat) → (jW w1 (m + 2) (3 + 10 * a.toNat + i.toNat) y).1 b = w.1 b := fun b a0 a1 a2 a3 => (jW_f a0).trans (h3 b a1 a2 a3)
  have F1 : ∀ b, b ≠ m + 2 → (jW w1 (m + 2) (3 + 10 * a.toNat + i.toNat) y).1 b = w1.1 b := fun b a0 => jW_f a0
  have s2 : ∀ j, (jW w1 (m + 2) (3 + 10 * a.toNat + i.toNat) y).1 (m + 2) j = if j = 3 + 10 * a.toNat + i.toNat then y else w.1 (m + 2) j := fun j => by
    show (if m + 2 = m + 2 ∧ j = 3 + 10 * a.toNat + i.toNat then y else w1.1 (m + 2) j) = _
    rw [hb (m + 2) (by omega)]
    by_cases e : j = 3 + 10 * a.toNat + i.toNat
    · rw [if_pos ⟨rfl, e⟩, if_pos e]
    · rw [if_neg (fun q => e q.2), if_neg e]
  refine ⟨⟨_, _, h1, e1, fun _ => rfl⟩, zRel_R h h2 (by rw [show (jW w1 (m + 2) (3 + 10 * a.toNat + i.toNat) y).2 = w.2 from h2]; exact hao) (fun b a0 a1 _ _ _ _ _ a2 => F b (by omega) (by omega) (by omega) (by omega)) (fun b a0 => F b (by omega) (by omega) (by omega) (by omega)) (congrFun (F m (by omega) (by omega) (by omega) (by omega)) 24) ?_ ?_ (zPP_f h.past (congrFun (F m (by omega) (by omega) (by omega) (by omega)) 15) (fun b _ _ => F b (by omega) (by omega) (by omega) (by omega)) (fun b _ _ => F b (by omega) (by omega) (by omega) (by omega))) (zII_f h.img (congrFun (F m (by omega) (by omega) (by omega) (by omega)) 31) (congrFun (F x (by omega) (by omega) (by omega) (by omega)) 3) (fun b _ _ a0 => F b (by omega) (a0 a.toNat (by omega)).1 (a0 a.toNat (by omega)).2.1 (a0 a.toNat (by omega)).2.2) (fun b _ _ => F b (by omega) (by omega) (by omega) (by omega)) (fun b _ _ => F b (by omega) (by omega) (by omega) (by omega)))⟩
  · refine ⟨c, ⟨by rw [s2, if_neg (by omega)]; exact hR.1, hc4, fun z hz => ?_⟩, ?_, fun z hz => ?_⟩
    · obtain ⟨r1, r2, r3⟩ := hR.2.2 z hz
      rw [s2, s2, if_neg (by omega), if_neg (by omega)]
      refine ⟨r1, r2, fun k hk => ?_⟩
      rw [s2]
      split
      · omega
      · exact r3 k hk
    · rw [F x (by omega) (by omega) (by omega) (by omega)]
      exact hRW.1
    · rw [s2, s2, if_neg (by omega), if_neg (by omega)]
      by_cases e : z = a.toNat
      · subst e
        refine cRo_s (fun k hk => ?_) (cRo_k (F1 _ (by omega)) (F1 _ (by omega)) (F1 _ (by omega)) h6)
        refine (s2 _).trans ?_
        unfold zset
        by_cases e2 : k = i.toNat
        · rw [if_pos (by omega), if_pos e2]
        · rw [if_neg (by omega), if_neg e2]
      · refine cRo_s (fun k hk => ?_) (cRo_k (F _ (by omega) (by omega) (by omega) (by omega)) (F _ (by omega) (by omega) (by omega) (by omega)) (F _ (by omega) (by omega) (by omega) (by omega)) (hRW.2 z hz))
        exact (s2 _).trans (if_neg (by omega))
  · rw [F (x + 3) (by omega) (by omega) (by omega) (by omega), F (x + 4) (by omega) (by omega) (by omega) (by omega), F (m + 1) (by omega) (by omega) (by omega) (by omega)]
    exact zRS_F h.seed
set_option maxHeartbeats 2000000 in
theorem T_image {g : Prop} {x m : Nat} {w : jS} (h : zRel g x m w) : jCall 125 [jO x] w (fun v w1 => w1.2 = w.2 ∧ jCall 217 [jO m] w1 (fun v' w2 => zAI True x m v v' w2)) := by
  have xm := h.xm
  have hao := h.ao
  obtain ⟨c, hR, hRW⟩ := h.rows
  have hc4 := hR.2.1
  have hC := C_image (w := w) (x := x) h.cw hR hRW h.ok (Or.inl h.ao)
  refine hC.mono fun v w1 hc => ?_
  obtain ⟨h1, h2, h3, h4, h5, h6, h7⟩ := hc
  have hb : ∀ b, x + 393 ≤ b → w1.1 b = w.1 b := fun b a0 => h3 b (by omega) (by omega) (by omega) (fun y hy => by omega)
  refine ⟨h2, (E_image (w := w1) (m := m) (by rw [h2]; exact h.mw)).mono fun v' w2 he => ?_⟩
  obtain ⟨e1, f1, f2, f3, f4, f5, f6⟩ := he
  rw [hb (m + 2) (by omega)] at e1 f6
  rw [hb (m + 1) (by omega)] at f5
  have F1 : ∀ b, b ≠ m → b ≠ m + 428 → b ≠ m + 429 → w2.1 b = w1.1 b := f2
  have F : ∀ b, b ≠ m → b ≠ m + 428 → b ≠ m + 429 → b ≠ x → b ≠ x + 5 → b ≠ x + 6 → (∀ y, y < 4 → b ≠ x + (366 + 6 * y) ∧ b ≠ x + (367 + 6 * y) ∧ b ≠ x + (368 + 6 * y)) → w2.1 b = w.1 b := fun b a0 a1 a2 a3 a4 a5 a6 => (f2 b a0 a1 a2).trans (h3 b a3 a4 a5 a6)
  have em : ∀ j, j ≠ 31 → w2.1 m j = w.1 m j := fun j hj => (f3 j hj).trans (congrFun (hb m (by omega)) j)
  refine ⟨⟨_, _, h1, e1, fun _ => hR.1.symm⟩, zRel_R h (f1.trans h2) (by rw [f1.trans h2]; exact hao) (fun b a0 a1 _ _ a2 a3 _ a4 => F b (by omega) (by omega) (by omega) a1 a2 a3 (fun y hy => by omega)) (fun b a0 => F b (by omega) (by omega) (by omega) (by omega) (by omega) (by omega) (fun y hy => by omega)) (em 24 (by decide)) (zRR_f h.rows ?_ (fun b _ _ a0 => F b (by omega) (by omega) (by omega) (by omega) (by omega) (by omega) a0) (fun j _ => congrFun (F (m + 2) (by omega) (by omega) (by omega) (by omega) (by omega) (by omega) (fun y hy => by omega)) j)) ?_ (zPP_f h.past (em 15 (by decide)) (fun b _ _ => F b (by omega) (by omega) (by omega) (by omega) (by omega) (by omega) (fun y hy => by omega)) (fun b _ _ => F b (by omega) (by omega) (by omega) (by omega) (by omega) (by omega) (fun y hy => by omega))) (Or.inr ⟨f4, ⟨c, zRw_c f6 hR, ?_, fun i hi => cRo_R f6 hi hc4 (cRo_k (F1 _ (by omega) (by omega) (by omega)) (F1 _ (by omega) (by omega) (by omega)) (F1 _ (by omega) (by omega) (by omega)) (h6 i hi))⟩, ?_⟩)⟩
  · rw [F1 x (by omega) (by omega) (by omega)]
    exact h4 1 (by decide)
  · rw [F (x + 3) (by omega) (by omega) (by omega) (by omega) (by omega) (by omega) (fun y hy => by omega), F (x + 4) (by omega) (by omega) (by omega) (by omega) (by omega) (by omega) (fun y hy => by omega), F (m + 1) (by omega) (by omega) (by omega) (by omega) (by omega) (by omega) (fun y hy => by omega)]
    exact zRS_F h.seed
  · rw [F1 x (by omega) (by omega) (by omega)]
    exact h5
  · rw [F1 (x + 5) (by omega) (by omega) (by omega), F1 (x + 6) (by omega) (by omega) (by omega)]
    exact zRS_c (zRS_F h.seed) h7.1 h7.2 f5
set_option maxHeartbeats 2000000 in
theorem T_on {g : Prop} {x m : Nat} {w : jS} (h : zRel g x m w) : jCall 126 [jO x] w (fun v w1 => w1.2 = w.2 ∧ jCall 218 [jO m] w1 (fun v' w2 => zAI True x m v v' w2)) := by
  have xm := h.xm
  have hao := h.ao
  rcases h.img with ⟨i1, i2⟩ | ⟨i1, ⟨k, hR, hk, hI⟩, hS⟩
  · refine L_no h (show 2 < 6 by decide) ((C_on0 (w := w) (x := x) h.cw i2).mono fun v w1 hc => cno_q hc) (fun w1 hq => ?_)
    have e9 : w1.1 m 31 = 0 := (congrFun (zcb h hq (Nat.le_refl m)) 31).trans i1
    exact (E_on (w := w1) (m := m) (zmb h hq) (Or.inl e9)).mono fun v' w2 he => jno_q (he.1 e9)
  · have hk4 := hR.2.1
    refine (C_on (w := w) (x := x) h.cw hk hR hI h.ok (Or.inl h.ao)).mono fun v w1 hc => ?_
    obtain ⟨h1, h2, h3, h4, h5, h6, h7⟩ := hc
    have hb : ∀ b, x + 393 ≤ b → w1.1 b = w.1 b := fun b a0 => h3 b (by omega) (by omega) (by omega) (by omega) (fun y hy => by omega)
    have e9 : w1.1 m 31 = 1 := (congrFun (hb m (by omega)) 31).trans i1
    refine ⟨h2, (E_on (w := w1) (m := m) (by rw [h2]; exact h.mw) (Or.inr e9)).mono fun v' w2 he => ?_⟩
    obtain ⟨e1, f1, f2, f3, f4, f5, f6⟩ := he.2 (by omega)
    rw [hb (m + 429) (by omega)] at e1 f6
    rw [hb (m + 428) (by omega)] at f5
    have F1 : ∀ b, b ≠ m → b ≠ m + 1 → b ≠ m + 2 → w2.1 b = w1.1 b := f2
    have F : ∀ b, b ≠ m → b ≠ m + 1 → b ≠ m + 2 → b ≠ x → b ≠ x + 3 → b ≠ x + 4 → b ≠ x + 341 → (∀ y, y < 4 → b ≠ x + (363 + 6 * y) ∧ b ≠ x + (364 + 6 * y) ∧ b ≠ x + (365 + 6 * y)) → w2.1 b = w.1 b := fun b a0 a1 a2 a3 a4 a5 a6 a7 => (f2 b a0 a1 a2).trans (h3 b a3 a4 a5 a6 a7)
    have em : ∀ j, j ≠ 15 → w2.1 m j = w.1 m j := fun j hj => (f3 j hj).trans (congrFun (hb m (by omega)) j)
    refine ⟨⟨_, _, h1, e1, fun _ => hR.1.symm⟩, zRel_R h (f1.trans h2) (by rw [f1.trans h2]; exact hao) (fun b a0 a1 a2 a3 _ _ a4 a5 => F b (by omega) (by omega) (by omega) a1 a2 a3 a4 (fun y hy => by omega)) (fun b a0 => F b (by omega) (by omega) (by omega) (by omega) (by omega) (by omega) (by omega) (fun y hy => by omega)) (em 24 (by decide)) ⟨k, zRw_c f6 hR, ?_, fun i hi => cRo_R f6 hi hk4 (cRo_k (F1 _ (by omega) (by omega) (by omega)) (F1 _ (by omega) (by omega) (by omega)) (F1 _ (by omega) (by omega) (by omega)) (h5.2 i hi))⟩ ?_ ⟨0, by decide, f4, ?_, fun y hy => absurd hy (by omega)⟩ (zII_f h.img (em 31 (by decide)) ?_ (fun b _ _ a0 => F b (by omega) (by omega) (by omega) (by omega) (by omega) (by omega) (by omega) a0) (fun b _ _ => F b (by omega) (by omega) (by omega) (by omega) (by omega) (by omega) (by omega) (fun y hy => by omega)) (fun b _ _ => F b (by omega) (by omega) (by omega) (by omega) (by omega) (by omega) (by omega) (fun y hy => by omega)))⟩
    · rw [F1 x (by omega) (by omega) (by omega)]
      exact h5.1
    · rw [F1 (x + 3) (by omega) (by omega) (by omega), F1 (x + 4) (by omega) (by omega) (by omega)]
      exact zRS_c hS h6.1 h6.2 f5
    · rw [F1 (x + 341) (by omega) (by omega) (by omega)]
      exact h7
    · rw [F1 x (by omega) (by omega) (by omega)]
      exact h4 3 (by decide)
