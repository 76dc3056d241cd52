section
/-! seeds told and exchanged: class and reference side by side -/
theorem zRel_S {g g' : Prop} {x m : Nat} {w w3 : jS} (h : zRel g x m w) (e : w3.2 = w.2) (K : ∀ b, b < m → b ≠ x + 3 → b ≠ x + 4 → b ≠ x + 339 → (b < x + 7 ∨ x + 339 ≤ b) → (b < x + 341 ∨ x + 359 ≤ b) → w3.1 b = w.1 b) (L : ∀ b, (b = m + 2 ∨ b = m + 3 ∨ b = m + 421 ∨ b = m + 423 ∨ (m + 425 ≤ b ∧ b ≤ m + 429)) → w3.1 b = w.1 b) (e31 : w3.1 m 31 = w.1 m 31) (hs : zRS g' (w3.1 (x + 3)) (w3.1 (x + 4)) (w3.1 (m + 1))) (hp : zPP w3 x m) (ht : zTT w3 x m) : zRel g' x m w3 := by
  have xm := h.xm
  exact ⟨zWW_f h.ww e (fun b hb => K b (by omega) (by omega) (by omega) (by omega) (by omega) (by omega)), zRR_f h.rows (congrFun (K x (by omega) (by omega) (by omega) (by omega) (by omega) (by omega)) 1) (fun b _ _ _ => K b (by omega) (by omega) (by omega) (by omega) (by omega) (by omega)) (fun j _ => congrFun (L (m + 2) (by omega)) j), hs, hp, zII_f h.img e31 (congrFun (K x (by omega) (by omega) (by omega) (by omega) (by omega) (by omega)) 3) (fun b _ _ _ => K b (by omega) (by omega) (by omega) (by omega) (by omega) (by omega)) (fun b _ _ => K b (by omega) (by omega) (by omega) (by omega) (by omega) (by omega)) (fun b _ _ => L b (by omega)), zLL_f h.lists (fun b _ _ => K b (by omega) (by omega) (by omega) (by omega) (by omega) (by omega)) (L _ (by omega)) (fun b _ _ => L b (by omega)), ht, zNN_f h.refs (K _ (by omega) (by omega) (by omega) (by omega) (by omega) (by omega)) (L _ (by omega))⟩
set_option maxHeartbeats 2000000 in
theorem T_seed {g : Prop} {x m : Nat} {w : jS} (h : zRel g x m w) {i : Int} (hri : r32 i) : jCall 101 [jO x, jI i] w (fun v w1 => w1.2 = w.2 ∧ jCall 166 [jO m, jI i] w1 (fun v' w2 => zAI True x m v v' w2)) := by
  have xm := h.xm
  obtain ⟨n, hQ, hn0, hRR⟩ := h.seed
  have hC := C_seed (w := w) (x := x) h.cw hQ hn0 hRR hri
  have hE := fun (w1 : jS) (hm : MW w1.2 m) (e : w1.1 (m + 1) = w.1 (m + 1)) => E_seed (w := w1) (m := m) (n := n) hm (by rw [e]; exact hQ.1) hri
  by_cases g0 : i < 2
  · exact L_no h (show 3 < 6 by decide) (hC.mono fun v w1 hc => cno_q (hc.1 g0)) (fun w1 hq => (hE w1 (zmb h hq) (zcb h hq (by omega))).mono fun v' w2 he => jno_q (he.1 g0))
  by_cases g1 : 4 < i
  · exact L_no h (show 5 < 6 by decide) (hC.mono fun v w1 hc => cno_q (hc.2.1 g0 g1)) (fun w1 hq => (hE w1 (zmb h hq) (zcb h hq (by omega))).mono fun v' w2 he => jno_q (he.2.1 g0 g1))
  refine hC.mono fun v w1 hc => ?_
  obtain ⟨h1, h2, h3, h4, h5, h6⟩ := hc.2.2 g0 g1
  refine ⟨h2, (hE w1 (by rw [h2]; exact h.mw) (h3 _ (by omega) (by omega) (by omega))).mono fun v' w2 he => ?_⟩
  obtain ⟨e1, ⟨f1, f2, f3, f4⟩, f5⟩ := he.2.2 g0 g1
  have F : ∀ b, b ≠ x + 3 → b ≠ x + 4 → b ≠ x + 341 → b ≠ m → b ≠ m + 1 → w2.1 b = w.1 b := fun b a1 a2 a3 a4 a5 => (f2 b a4 a5).trans (h3 b a1 a2 a3)
  have em : ∀ j, j ≠ 15 → w2.1 m j = w.1 m j := fun j hj => (f4 j hj).trans (congrFun (h3 m (by omega) (by omega) (by omega)) j)
  refine ⟨⟨_, _, h1, e1, fun _ => rfl⟩, zRel_S h (f1.trans h2) (fun b _ a1 a2 _ _ _ => F b a1 a2 (by omega) (by omega) (by omega)) (fun b _ => F b (by omega) (by omega) (by omega) (by omega) (by omega)) (em 31 (by decide)) ⟨i.toNat, zQ_c (znew_e f5) (zQ_new (by omega) (by omega)), ?_, cR_c (znew_e f5) ?_⟩ ⟨0, by decide, f3, ?_, fun y hy => absurd hy (by omega)⟩ (zTT_f h.text (em 24 (by decide)) (fun b _ _ => F b (by omega) (by omega) (by omega) (by omega) (by omega)) (F _ (by omega) (by omega) (by omega) (by omega) (by omega)))⟩
  · rw [f2 (x + 3) (by omega) (by omega), h5]
    omega
  · rw [f2 (x + 4) (by omega) (by omega)]
    exact h6 False
  · rw [f2 (x + 341) (by omega) (by omega)]
    exact h4
/-- what tables and starts that are told leave -/
theorem zRel_told {g g' : Prop} {x m n : Nat} {w w1 w2 : jS} {Q : Nat → Int} (h : zRel g x m w) (hn0 : w.1 (x + 3) 0 = (n : Int)) (h2 : w1.2 = w.2) (h3 : ∀ b, b ≠ x + 4 → b ≠ x + 341 → w1.1 b = w.1 b) (h4 : w1.1 (x + 341) 0 = 0) (h5 : cR g' (w1.1 (x + 4)) Q n) (hz : znw w1 m w2) (hq : zeq (w2.1 (m + 1)) Q) (hQ : zQ Q n) : zRel False x m w2 := by
  have xm := h.xm
  obtain ⟨f1, f2, f3, f4⟩ := hz
  have F : ∀ b, b ≠ x + 4 → b ≠ x + 341 → b ≠ m → b ≠ m + 1 → w2.1 b = w.1 b := fun b a1 a2 a3 a4 => (f2 b a3 a4).trans (h3 b a1 a2)
  have em : ∀ j, j ≠ 15 → w2.1 m j = w.1 m j := fun j hj => (f4 j hj).trans (congrFun (h3 m (by omega) (by omega)) j)
  refine zRel_S h (f1.trans h2) (fun b _ a1 a2 _ _ _ => F b a2 (by omega) (by omega) (by omega)) (fun b _ => F b (by omega) (by omega) (by omega) (by omega)) (em 31 (by decide)) ⟨n, zQ_c hq hQ, ?_, cR_c hq ?_⟩ ⟨0, by decide, f3, ?_, fun y hy => absurd hy (by omega)⟩ (zTT_f h.text (em 24 (by decide)) (fun b _ _ => F b (by omega) (by omega) (by omega) (by omega)) (F _ (by omega) (by omega) (by omega) (by omega)))
  · rw [F (x + 3) (by omega) (by omega) (by omega) (by omega)]
    exact hn0
  · rw [f2 (x + 4) (by omega) (by omega)]
    exact cR_F h5
  · rw [f2 (x + 341) (by omega) (by omega)]
    exact h4
set_option maxHeartbeats 2000000 in
theorem T_table {g : Prop} {x m : Nat} {w : jS} (h : zRel g x m w) {i j y : Int} (hri : r32 i) (hrj : r32 j) (hry : r32 y) : jCall 102 [jO x, jI i, jI j, jI y] w (fun v w1 => w1.2 = w.2 ∧ jCall 168 [jO m, jI i, jI j, jI y] w1 (fun v' w2 => zAI True x m v v' w2)) := by
  have xm := h.xm
  obtain ⟨n, hQ, hn0, hRR⟩ := h.seed
  have hC := C_table (w := w) (x := x) h.cw hQ hn0 hRR hri hrj hry
  have hE := fun (w1 : jS) (hm : MW w1.2 m) (e : w1.1 (m + 1) = w.1 (m + 1)) => E_table (w := w1) (m := m) (n := n) hm (by rw [e]; exact hQ.1) hri hrj hry
  by_cases g0 : ¬ (0 ≤ i ∧ i < (n : Int)) ∨ ¬ (0 ≤ j ∧ j < (n : Int)) ∨ i = j
  · exact L_no h (show 0 < 6 by decide) (hC.mono fun v w1 hc => cno_q (hc.1 g0)) (fun w1 hq => (hE w1 (zmb h hq) (zcb h hq (by omega))).mono fun v' w2 he => jno_q (he.1 g0))
  by_cases g1 : y < -9
  · exact L_no h (show 3 < 6 by decide) (hC.mono fun v w1 hc => cno_q (hc.2.1 g0 g1)) (fun w1 hq => (hE w1 (zmb h hq) (zcb h hq (by omega))).mono fun v' w2 he => jno_q (he.2.1 g0 g1))
  by_cases g2 : 9 < y
  · exact L_no h (show 5 < 6 by decide) (hC.mono fun v w1 hc => cno_q (hc.2.2.1 g0 g1 g2)) (fun w1 hq => (hE w1 (zmb h hq) (zcb h hq (by omega))).mono fun v' w2 he => jno_q (he.2.2.1 g0 g1 g2))
  refine hC.mono fun v w1 hc => ?_
  obtain ⟨h1, h2, h3, h4, h5⟩ := hc.2.2.2 g0 g1 g2
  have e9 : w1.1 (m + 1) = w.1 (m + 1) := h3 _ (by omega) (by omega)
  refine ⟨h2, (hE w1 (by rw [h2]; exact h.mw) e9).mono fun v' w2 he => ?_⟩
  obtain ⟨e1, e2, e3⟩ := he.2.2.2 g0 g1 g2
  rw [e9] at e1 e3
  exact ⟨⟨_, _, h1, e1, fun _ => rfl⟩, zRel_told h hn0 h2 h3 h4 h5 e2 (zbg_e e3) (zQ_tb hQ (by omega) (by omega) (by omega) (by omega))⟩
set_option maxHeartbeats 2000000 in
theorem T_begins {g : Prop} {x m : Nat} {w : jS} (h : zRel g x m w) {i y : Int} (hri : r32 i) (hry : r32 y) : jCall 103 [jO x, jI i, jI y] w (fun v w1 => w1.2 = w.2 ∧ jCall 169 [jO m, jI i, jI y] w1 (fun v' w2 => zAI True x m v v' w2)) := by
  have xm := h.xm
  obtain ⟨n, hQ, hn0, hRR⟩ := h.seed
  have hC := C_begins (w := w) (x := x) h.cw hQ hn0 hRR hri hry
  have hE := fun (w1 : jS) (hm : MW w1.2 m) (e : w1.1 (m + 1) = w.1 (m + 1)) => E_begins (w := w1) (m := m) (n := n) hm (by rw [e]; exact hQ.1) hri hry
  by_cases g0 : ¬ (0 ≤ i ∧ i < (n : Int))
  · exact L_no h (show 0 < 6 by decide) (hC.mono fun v w1 hc => cno_q (hc.1 g0)) (fun w1 hq => (hE w1 (zmb h hq) (zcb h hq (by omega))).mono fun v' w2 he => jno_q (he.1 g0))
  by_cases g1 : y < 1
  · exact L_no h (show 3 < 6 by decide) (hC.mono fun v w1 hc => cno_q (hc.2.1 g0 g1)) (fun w1 hq => (hE w1 (zmb h hq) (zcb h hq (by omega))).mono fun v' w2 he => jno_q (he.2.1 g0 g1))
  by_cases g2 : 9 < y
  · exact L_no h (show 5 < 6 by decide) (hC.mono fun v w1 hc => cno_q (hc.2.2.1 g0 g1 g2)) (fun w1 hq => (hE w1 (zmb h hq) (zcb h hq (by omega))).mono fun v' w2 he => jno_q (he.2.2.1 g0 g1 g2))
  refine hC.mono fun v w1 hc => ?_
  obtain ⟨h1, h2, h3, h4, h5⟩ := hc.2.2.2 g0 g1 g2
  have e9 : w1.1 (m + 1) = w.1 (m + 1) := h3 _ (by omega) (by omega)
  refine ⟨h2, (hE w1 (by rw [h2]; exact h.mw) e9).mono fun v' w2 he => ?_⟩
  obtain ⟨e1, e2, e3⟩ := he.2.2.2 g0 g1 g2
  rw [e9] at e1 e3
  exact ⟨⟨_, _, h1, e1, fun _ => rfl⟩, zRel_told h hn0 h2 h3 h4 h5 e2 (zbg_e e3) (zQ_st hQ (by omega) (by omega))⟩
/-- the past behind one more seed, on both sides -/
theorem zPP_p {w w1 w2 : jS} {x m u : Nat} (xm : x + 393 ≤ m) (hu8 : u ≤ 8) (hc : ∀ y, y < u → zRS False (w.1 (x + 341 + (2 + 2 * y))) (w.1 (x + 341 + (3 + 2 * y))) (w.1 (m + (8 + y)))) (hs : zRS False (w.1 (x + 3)) (w.1 (x + 4)) (w.1 (m + 1))) (h1 : cpst w x u w1) (hb : ∀ b, x + 393 ≤ b → w1.1 b = w.1 b) (h2 : zpst w1 m u (w1.1 (m + 1)) w2) (hf : ∀ b, x + 341 ≤ b → b < x + 359 → w2.1 b = w1.1 b) : zPP w2 x m := by
  have e0 : w2.1 (x + 341) = w1.1 (x + 341) := hf _ (by omega) (by omega)
  have eq : w1.1 (m + 1) = w.1 (m + 1) := hb _ (by omega)
  rw [eq] at h2
  rcases h1 with ⟨a1, a2, a3, a4⟩ | ⟨a1, a2, a3, a4⟩
  · rcases h2 with ⟨b1, b2, b3, b4⟩ | ⟨b1, -⟩
    · refine ⟨u + 1, by omega, b2, by rw [e0, a2]; rfl, fun y hy => ?_⟩
      rw [hf (x + 341 + (2 + 2 * y)) (by omega) (by omega), hf (x + 341 + (3 + 2 * y)) (by omega) (by omega)]
      by_cases e : y = u
      · subst e
        exact zRS_c hs a4.1 a4.2 b4
      · rw [(a3 y (by omega)).1, (a3 y (by omega)).2, b3 y (by omega), hb (m + (8 + y)) (by omega)]
        exact hc y (by omega)
    · omega
  · subst a1
    rcases h2 with ⟨b1, -⟩ | ⟨b1, b2, b3, b4⟩
    · omega
    · refine ⟨8, by omega, b2, by rw [e0, a2]; rfl, fun y hy => ?_⟩
      rw [hf (x + 341 + (2 + 2 * y)) (by omega) (by omega), hf (x + 341 + (3 + 2 * y)) (by omega) (by omega)]
      by_cases e : y = 7
      · subst e
        exact zRS_c hs a4.1 a4.2 b4
      · refine zRS_c (hc (y + 1) (by omega)) (a3 y (by omega)).1 (a3 y (by omega)).2 (fun c hc9 => ?_)
        rw [b3 y (by omega) c hc9, hb (m + (8 + (y + 1))) (by omega)]
set_option maxHeartbeats 2000000 in
theorem T_exchange {g : Prop} {x m : Nat} {w : jS} (h : zRel g x m w) {i : Int} (hri : r32 i) : jCall 107 [jO x, jI i] w (fun v w1 => w1.2 = w.2 ∧ jCall 180 [jO m, jI i] w1 (fun v' w2 => zAI True x m v v' w2)) := by
  have xm := h.xm
  obtain ⟨n, hQ, hn0, hRR⟩ := h.seed
  obtain ⟨u, hu8, hum, hux, hup⟩ := h.past
  have hC := C_exchange (w := w) (x := x) h.cw hQ hn0 hRR hux hu8 hri
  have hE := fun (w1 : jS) (hm : MW w1.2 m) (e : w1.1 (m + 1) = w.1 (m + 1)) (e2 : w1.1 m 15 = (u : Int)) => E_exchange (w := w1) (m := m) (n := n) hm (by rw [e]; exact hQ.1) e2 hu8 hri
  have cu : ∀ {w1 : jS}, cnb w x w1 → w1.1 m 15 = (u : Int) := fun hq => (congrFun (zcb h hq (Nat.le_refl m)) 15).trans hum
  by_cases g0 : ¬ (0 ≤ i ∧ i < (n : Int))
  · exact L_no h (show 0 < 6 by decide) (hC.mono fun v w1 hc => cno_q (hc.1 g0)) (fun w1 hq => (hE w1 (zmb h hq) (zcb h hq (by omega)) (cu hq)).mono fun v' w2 he => jno_q (he.1 g0))
  by_cases g1 : ¬ zcan (w.1 (m + 1)) n i.toNat
  · refine L_no h (show 5 < 6 by decide) (hC.mono fun v w1 hc => hc.2.1 g0 g1) (fun w1 hq => (hE w1 (zmb h hq) (zcb h hq (by omega)) (cu hq)).mono fun v' w2 he => ?_)
    rw [zcb h hq (show m ≤ m + 1 by omega)] at he
    obtain ⟨e1, w3, ⟨k1, k2, k3⟩, ⟨k4, k5, k6⟩, rfl⟩ := he.2.1 g0 g1
    refine ⟨e1, w3, ⟨k1, fun a ha => ?_, k5, k3 24 (by decide) (by decide) (by decide), k3 31 (by decide) (by decide) (by decide)⟩, rfl⟩
    by_cases c1 : a = m + 1
    · rw [c1]; exact k4
    · by_cases c2 : m + 8 ≤ a ∧ a ≤ m + 15
      · have := k6 (a - (m + 8)) (by omega)
        rw [show m + (8 + (a - (m + 8))) = a by omega] at this
        exact this
      · exact k2 a (by omega) c1 (by omega) (by omega)
  have g1 : zcan (w.1 (m + 1)) n i.toNat := Classical.byContradiction g1
  have hn := hQ.1.2.2.1
  have hi4 : i.toNat < 4 := by omega
  refine hC.mono fun v w1 hc => ?_
  obtain ⟨h1, h2, h3, h4, h5, h6⟩ := hc.2.2 g0 (fun z => z g1)
  have e9 : w1.1 (m + 1) = w.1 (m + 1) := h3 _ (by omega) (by omega) (by omega) (by omega)
  have e8 : w1.1 m = w.1 m := h3 _ (by omega) (by omega) (by omega) (by omega)
  refine ⟨h2, (hE w1 (by rw [h2]; exact h.mw) e9 ((congrFun e8 15).trans hum)).mono fun v' w2 he => ?_⟩
  rw [e9] at he
  obtain ⟨e1, ⟨f1, f2, f3⟩, f4, f5⟩ := he.2.2 g0 (fun z => z g1)
  have hz := zxn_F hi4 f4
  have F : ∀ b, b < m → w2.1 b = w1.1 b := fun b hb => f2 b (by omega) (by omega) (by omega) (by omega)
  have em : ∀ j, j ≠ 11 → j ≠ 12 → j ≠ 15 → w2.1 m j = w.1 m j := fun j a1 a2 a3 => (f3 j a1 a2 a3).trans (congrFun e8 j)
  refine ⟨⟨_, _, h1, e1, fun _ => (hz _ (by omega)).symm⟩, zRel_S h (f1.trans h2) (fun b a0 a1 a2 _ a3 a4 => (F b a0).trans (h3 b a1 a2 (by omega) a4)) (fun b hb => (f2 b (by omega) (by omega) (by omega) (by omega)).trans (h3 b (by omega) (by omega) (by omega) (by omega))) (em 31 (by decide) (by decide) (by decide)) ⟨n, zQ_c hz (zQ_x hQ hi4 g1), ?_, cR_c hz ?_⟩ (zPP_p xm hu8 hup (zRS_F h.seed) h6 (fun b hb => h3 b (by omega) (by omega) (by omega) (by omega)) (by rw [e9]; exact f5) (fun b _ _ => F b (by omega))) (zTT_f h.text (em 24 (by decide) (by decide) (by decide)) (fun b _ _ => (F b (by omega)).trans (h3 b (by omega) (by omega) (by omega) (by omega))) ((f2 _ (by omega) (by omega) (by omega) (by omega)).trans (h3 _ (by omega) (by omega) (by omega) (by omega))))⟩
  · rw [F (x + 3) (by omega)]
    exact h4
  · rw [F (x + 4) (by omega)]
    exact h5
set_option maxHeartbeats 2000000 in
theorem T_undo {g : Prop} {x m : Nat} {w : jS} (h : zRel g x m w) : jCall 124 [jO x] w (fun v w1 => w1.2 = w.2 ∧ jCall 181 [jO m] w1 (fun v' w2 => zAI True x m v v' w2)) := by
  have xm := h.xm
  obtain ⟨u, hu8, hum, hux, hup⟩ := h.past
  have hC := C_undo (w := w) (x := x) h.cw hux hu8
  have hE := fun (w1 : jS) (hm : MW w1.2 m) (e2 : w1.1 m 15 = (u : Int)) => E_undo (w := w1) (m := m) hm e2 hu8
  by_cases g0 : u = 0
  · exact L_no h (show 2 < 6 by decide) (hC.mono fun v w1 hc => cno_q (hc.1 g0)) (fun w1 hq => (hE w1 (zmb h hq) ((congrFun (zcb h hq (Nat.le_refl m)) 15).trans hum)).mono fun v' w2 he => jno_q (he.1 g0))
  refine hC.mono fun v w1 hc => ?_
  obtain ⟨h1, h2, h3, h4, h5⟩ := hc.2 g0
  have e8 : w1.1 m = w.1 m := h3 _ (by omega) (by omega) (by omega)
  refine ⟨h2, (hE w1 (by rw [h2]; exact h.mw) ((congrFun e8 15).trans hum)).mono fun v' w2 he => ?_⟩
  obtain ⟨e1, f1, f2, f3, f4, f5⟩ := he.2 g0
  have F : ∀ b, b ≠ x + 3 → b ≠ x + 4 → b ≠ x + 341 → b ≠ m → b ≠ m + 1 → w2.1 b = w.1 b := fun b a1 a2 a3 a4 a5 => (f2 b a4 a5).trans (h3 b a1 a2 a3)
  have em : ∀ j, j ≠ 15 → w2.1 m j = w.1 m j := fun j hj => (f3 j hj).trans (congrFun e8 j)
  refine ⟨⟨_, _, h1, e1, fun _ => rfl⟩, zRel_S h (f1.trans h2) (fun b _ a1 a2 _ _ _ => F b a1 a2 (by omega) (by omega) (by omega)) (fun b _ => F b (by omega) (by omega) (by omega) (by omega) (by omega)) (em 31 (by decide)) ?_ ⟨u - 1, by omega, f4, ?_, fun y hy => ?_⟩ (zTT_f h.text (em 24 (by decide)) (fun b _ _ => F b (by omega) (by omega) (by omega) (by omega) (by omega)) (F _ (by omega) (by omega) (by omega) (by omega) (by omega)))⟩
  · rw [f2 (x + 3) (by omega) (by omega), f2 (x + 4) (by omega) (by omega)]
    refine zRS_c (hup (u - 1) (by omega)) h5.1 h5.2 (fun c hc9 => ?_)
    rw [f5 c hc9, h3 (m + (8 + (u - 1))) (by omega) (by omega) (by omega)]
  · rw [f2 (x + 341) (by omega) (by omega), h4]
    omega
  · rw [F (x + 341 + (2 + 2 * y)) (by omega) (by omega) (by omega) (by omega) (by omega), F (x + 341 + (3 + 2 * y)) (by omega) (by omega) (by omega) (by omega) (by omega), F (m + (8 + y)) (by omega) (by omega) (by omega) (by omega) (by omega)]
    exact hup y (by omega)
/-- two texts of the same letters -/
theorem zlt_t9 {τ t : Nat → Int} {F : Nat} (e : ∀ j, j < F → τ j = t j) : zlt τ F = zlt t F := by
  funext p
  unfold zlt
  split
  · rename_i c
    exact e p c
  · rfl
theorem zbh_t9 {τ t : Nat → Int} {F : Nat} (e : zlt τ F = zlt t F) (p : Nat) : zbh τ F p = zbh t F p := by
  unfold zbh zfn
  rw [e]
theorem znm_t9 {τ t : Nat → Int} {F : Nat} (e : zlt τ F = zlt t F) (p : Nat) : znm τ F p = znm t F p := by
  unfold znm
  rw [e]
theorem zw1_t {τ t : Nat → Int} {F : Nat} (e : zlt τ F = zlt t F) : ∀ f p k, zw1 τ F f p k = zw1 t F f p k
  | 0, _, _ => rfl
  | f + 1, p, k => by
    show (if zbh τ F p < 0 then zbh τ F p else if (F : Int) ≤ zbh τ F p then ((k + 1 : Nat) : Int) else zw1 τ F f (zbh τ F p).toNat (k + 1)) = (if zbh t F p < 0 then zbh t F p else if (F : Int) ≤ zbh t F p then ((k + 1 : Nat) : Int) else zw1 t F f (zbh t F p).toNat (k + 1))
    rw [zbh_t9 e, zw1_t e f]
theorem zw2_t {τ t : Nat → Int} {F : Nat} (e : zlt τ F = zlt t F) : ∀ f p q, zw2 τ F f p q = zw2 t F f p q
  | 0, _, _ => rfl
  | f + 1, p, q => by
    by_cases h1 : F ≤ p
    · rw [zw2_e h1, zw2_e h1]
    by_cases h2 : zbh τ F p < 0
    · rw [zw2_n h1 h2, zw2_n h1 (by rw [← zbh_t9 e]; exact h2)]
    have h2' : ¬ zbh t F p < 0 := by rw [← zbh_t9 e]; exact h2
    have ed : zdo (zlt τ F p) (zfg (zlt τ F (p + 1))) (zfg (zlt τ F (p + 2))) (znm τ F (p + 3)) q = zdo (zlt t F p) (zfg (zlt t F (p + 1))) (zfg (zlt t F (p + 2))) (znm t F (p + 3)) q := by
      rw [e, znm_t9 e]
    cases d : zdo (zlt t F p) (zfg (zlt t F (p + 1))) (zfg (zlt t F (p + 2))) (znm t F (p + 3)) q with
    | none => rw [zw2_f h1 h2 (ed.trans d), zw2_f h1 h2' d]
    | some q' =>
      obtain ⟨b, hb⟩ : ∃ b : Nat, zbh t F p = (b : Int) := ⟨(zbh t F p).toNat, by omega⟩
      rw [zw2_g h1 ((zbh_t9 e p).trans hb) (ed.trans d), zw2_g h1 hb d, zw2_t e f]
/-- the text forgotten, by both, behind work in thought -/
theorem zRel_txt {g : Prop} {x m : Nat} {w wa wb : jS} (h : zRel g x m w) (ha : cq w x wa) (hb : mq (jW wa (x + 339) 0 0) m wb) : zRel False x m (jW wb m 24 0) := by
  have xm := h.xm
  have K : ∀ b, b < m → b ≠ x + 339 → (b < x + 7 ∨ x + 339 ≤ b) → b ≠ x + 360 → b ≠ x + 361 → (jW wb m 24 0).1 b = w.1 b := fun b a0 a1 a2 a3 a4 => (jW_f (by omega)).trans ((hb.2.1 b (by omega)).trans ((jW_f a1).trans (ha.2 b a2 a3 a4)))
  have L : ∀ b, (b = m + 1 ∨ b = m + 2 ∨ b = m + 3 ∨ (m + 8 ≤ b ∧ b ≤ m + 15) ∨ b = m + 421 ∨ b = m + 423 ∨ (m + 425 ≤ b ∧ b ≤ m + 429)) → (jW wb m 24 0).1 b = w.1 b := fun b a0 => (jW_f (by omega)).trans ((hb.2.1 b (by omega)).trans ((jW_f (by omega)).trans (ha.2 b (by omega) (by omega) (by omega))))
  have em : ∀ j, j ≠ 24 → wb.1 m j = (jW wa (x + 339) 0 0).1 m j → (jW wb m 24 0).1 m j = w.1 m j := fun j a0 a1 => (if_neg (fun q => a0 q.2) : (jW wb m 24 0).1 m j = wb.1 m j).trans (a1.trans ((congrFun (jW_f (by omega)) j).trans (congrFun (ha.2 m (by omega) (by omega) (by omega)) j)))
  refine ⟨zWW_f h.ww (hb.1.trans ha.1) (fun b _ => K b (by omega) (by omega) (by omega) (by omega) (by omega)), zRR_f h.rows (congrFun (K x (by omega) (by omega) (by omega) (by omega) (by omega)) 1) (fun b _ _ _ => K b (by omega) (by omega) (by omega) (by omega) (by omega)) (fun j _ => congrFun (L (m + 2) (by omega)) j), ?_, zPP_f h.past (em 15 (by decide) hb.2.2.1) (fun b _ _ => K b (by omega) (by omega) (by omega) (by omega) (by omega)) (fun b _ _ => L b (by omega)), zII_f h.img (em 31 (by decide) hb.2.2.2.2) (congrFun (K x (by omega) (by omega) (by omega) (by omega) (by omega)) 3) (fun b _ _ _ => K b (by omega) (by omega) (by omega) (by omega) (by omega)) (fun b _ _ => K b (by omega) (by omega) (by omega) (by omega) (by omega)) (fun b _ _ => L b (by omega)), zLL_f h.lists (fun b _ _ => K b (by omega) (by omega) (by omega) (by omega) (by omega)) (L _ (by omega)) (fun b _ _ => L b (by omega)), ⟨0, by decide, if_pos ⟨rfl, rfl⟩, ?_, fun j hj => absurd hj (by omega)⟩, zNN_f h.refs (K _ (by omega) (by omega) (by omega) (by omega) (by omega)) (L _ (by omega))⟩
  · rw [K (x + 3) (by omega) (by omega) (by omega) (by omega) (by omega), K (x + 4) (by omega) (by omega) (by omega) (by omega) (by omega), L (m + 1) (by omega)]
    exact zRS_F h.seed
  · rw [show (jW wb m 24 0).1 (x + 339) = (jW wa (x + 339) 0 0).1 (x + 339) from (jW_f (by omega)).trans (hb.2.1 _ (by omega))]
    exact if_pos ⟨rfl, rfl⟩
set_option maxHeartbeats 2000000 in
theorem T_walk {g : Prop} {x m : Nat} {w : jS} (h : zRel g x m w) : jCall 108 [jO x] w (fun v w1 => w1.2 = w.2 ∧ jCall 206 [jO m] w1 (fun v' w2 => zAI True x m v v' w2)) := by
  have xm := h.xm
  obtain ⟨n, hQ, hn0, hRR⟩ := h.seed
  obtain ⟨u, hu8, hum, hux, hup⟩ := h.past
  obtain ⟨F, hF72, hFm, hFx, hL⟩ := h.text
  have eL := zlt_t9 (fun j hj => (hL j hj).1)
  have hC := C_walk (w := w) (x := x) h.cw hQ hn0 hRR hux hu8 hFx hF72 rfl (fun j hj => by rw [(hL j hj).1]; exact (hL j hj).2)
  rw [zw1_t eL, zw2_t eL] at hC
  have hE := fun (w1 : jS) (hm : MW w1.2 m) (e : w1.1 (m + 1) = w.1 (m + 1)) (e2 : w1.1 m = w.1 m) (e3 : w1.1 (m + 421) = w.1 (m + 421)) => E_walk (w := w1) (m := m) (n := n) hm (by rw [e]; exact hQ) (by rw [e2]; exact hum) hu8 (by rw [e2]; exact hFm) hF72 e3 (fun j hj => (hL j hj).2)
  refine hC.mono fun v w1 hc => ?_
  by_cases g0 : zw1 (w.1 (m + 421)) F 73 0 0 < 0
  · obtain ⟨h1, wa, ha, rfl⟩ := hc.1 g0
    have hb : ∀ b, m ≤ b → (jW wa (x + 339) 0 0).1 b = w.1 b := fun b a0 => (jW_f (by omega)).trans (ha.2 b (by omega) (by omega) (by omega))
    refine ⟨ha.1, (hE _ (by rw [show (jW wa (x + 339) 0 0).2 = w.2 from ha.1]; exact h.mw) (hb _ (by omega)) (hb _ (by omega)) (hb _ (by omega))).mono fun v' w2 he => ?_⟩
    obtain ⟨e1, wb, hq, rfl⟩ := he.1 g0
    exact ⟨⟨_, _, h1, e1, fun _ => rfl⟩, zRel_txt h ha hq⟩
  have hc := hc.2 (by omega)
  cases hz : zw2 (w.1 (m + 421)) F 73 0 (w.1 (m + 1)) with
  | inr b9 =>
    obtain ⟨h1, wa, ha, rfl⟩ := hc.1 b9 hz
    have hb : ∀ b, m ≤ b → (jW wa (x + 339) 0 0).1 b = w.1 b := fun b a0 => (jW_f (by omega)).trans (ha.2 b (by omega) (by omega) (by omega))
    refine ⟨ha.1, (hE _ (by rw [show (jW wa (x + 339) 0 0).2 = w.2 from ha.1]; exact h.mw) (hb _ (by omega)) (hb _ (by omega)) (hb _ (by omega))).mono fun v' w2 he => ?_⟩
    rw [hb (m + 1) (by omega)] at he
    obtain ⟨e1, wb, hq, rfl⟩ := (he.2 (by omega)).1 b9 hz
    exact ⟨⟨_, _, h1, e1, fun _ => rfl⟩, zRel_txt h ha hq⟩
  | inl q9 =>
    obtain ⟨h1, h2, h3, h4, ⟨n', hQ', h5, h6⟩, h7⟩ := hc.2 q9 hz
    have hb : ∀ b, m ≤ b → w1.1 b = w.1 b := fun b a0 => h3 b (by omega) (by omega) (by omega) (by omega) (by omega)
    refine ⟨h2, (hE _ (by rw [h2]; exact h.mw) (hb _ (by omega)) (hb _ (by omega)) (hb _ (by omega))).mono fun v' w2 he => ?_⟩
    rw [hb (m + 1) (by omega)] at he
    obtain ⟨e1, f1, f2, f3, f4, f5, f6⟩ := (he.2 (by omega)).2 q9 hz
    have FF : ∀ b, b < m → w2.1 b = w1.1 b := fun b a0 => f4 b (by omega)
    refine ⟨⟨_, _, h1, e1, fun _ => rfl⟩, zRel_S h (f3.trans h2) (fun b a0 a1 a2 a3 a4 a5 => (FF b a0).trans (h3 b a1 a2 a3 (by omega) a5)) (fun b a0 => (f4 b (by omega)).trans (hb b (by omega))) (f6.trans (congrFun (hb m (by omega)) 31)) ⟨n', zQ_c f1 hQ', ?_, cR_c f1 ?_⟩ (zPP_p xm hu8 hup (zRS_F h.seed) h7 (fun b a0 => h3 b (by omega) (by omega) (by omega) (by omega) (by omega)) (by rw [hb (m + 1) (by omega)]; exact f2) (fun b _ _ => FF b (by omega))) ⟨0, by decide, f5, ?_, fun j hj => absurd hj (by omega)⟩⟩
    · rw [FF (x + 3) (by omega)]
      exact h5
    · rw [FF (x + 4) (by omega)]
      exact h6
    · rw [FF (x + 339) (by omega)]
      exact h4
set_option maxHeartbeats 2000000 in
theorem T_letter {g : Prop} {x m : Nat} {w : jS} (h : zRel g x m w) {c : Int} (hrc : r32 c) : jCall 109 [jO x, jI c] w (fun v w1 => w1.2 = w.2 ∧ jCall 197 [jO m, jI c] w1 (fun v' w2 => zAI True x m v v' w2)) := by
  have xm := h.xm
  obtain ⟨F, hF72, hFm, hFx, hL⟩ := h.text
  have hC := C_letter (w := w) (x := x) h.cw hFx hF72 hrc
  have hE := fun (w1 : jS) (hm : MW w1.2 m) (e2 : w1.1 m = w.1 m) => E_letter (w := w1) (m := m) hm (by rw [e2]; exact hFm) hF72 hrc
  by_cases g0 : c < 0
  · exact L_no h (show 3 < 6 by decide) (hC.mono fun v w1 hc => cno_q (hc.1 g0)) (fun w1 hq => (hE w1 (zmb h hq) (zcb h hq (Nat.le_refl m))).mono fun v' w2 he => jno_q (he.1 g0))
  by_cases g1 : 255 < c ∨ F = 72
  · exact L_no h (show 5 < 6 by decide) (hC.mono fun v w1 hc => cno_q (hc.2.1 g0 g1)) (fun w1 hq => (hE w1 (zmb h hq) (zcb h hq (Nat.le_refl m))).mono fun v' w2 he => jno_q (he.2.1 g0 g1))
  refine hC.mono fun v w1 hc => ?_
  obtain ⟨h1, rfl⟩ := hc.2.2 g0 g1
  have hb : ∀ b, b ≠ x + 339 → b ≠ x + 340 → (jW (jW w (x + 340) F c) (x + 339) 0 ((F : Int) + 1)).1 b = w.1 b := fun b a0 a1 => (jW_f a0).trans (jW_f a1)
  refine ⟨rfl, (hE (jW (jW w (x + 340) F c) (x + 339) 0 ((F : Int) + 1)) h.mw (hb m (by omega) (by omega))).mono fun v' w2 he => ?_⟩
  obtain ⟨e1, rfl⟩ := he.2.2 g0 g1
  have K : ∀ b, b ≠ x + 339 → b ≠ x + 340 → b ≠ m → b ≠ m + 421 → (jW (jW (jW (jW w (x + 340) F c) (x + 339) 0 ((F : Int) + 1)) (m + 421) F c) m 24 ((F : Int) + 1)).1 b = w.1 b := fun b a0 a1 a2 a3 => (jW_f a2).trans ((jW_f a3).trans (hb b a0 a1))
  have em : ∀ j, j ≠ 24 → (jW (jW (jW (jW w (x + 340) F c) (x + 339) 0 ((F : Int) + 1)) (m + 421) F c) m 24 ((F : Int) + 1)).1 m j = w.1 m j := fun j a0 => (if_neg (fun q => a0 q.2) : _ = (jW (jW (jW w (x + 340) F c) (x + 339) 0 ((F : Int) + 1)) (m + 421) F c).1 m j).trans (congrFun ((jW_f (by omega)).trans (hb m (by omega) (by omega))) j)
  have s340 : ∀ j, (jW (jW (jW (jW w (x + 340) F c) (x + 339) 0 ((F : Int) + 1)) (m + 421) F c) m 24 ((F : Int) + 1)).1 (x + 340) j = if j = F then c else w.1 (x + 340) j := fun j => by
    refine (congrFun ((jW_f (by omega)).trans ((jW_f (by omega)).trans (jW_f (by omega)))) j).trans ?_
    show (if x + 340 = x + 340 ∧ j = F then c else w.1 (x + 340) j) = _
    by_cases e : j = F
    · rw [if_pos ⟨rfl, e⟩, if_pos e]
    · rw [if_neg (fun q => e q.2), if_neg e]
  have s421 : ∀ j, (jW (jW (jW (jW w (x + 340) F c) (x + 339) 0 ((F : Int) + 1)) (m + 421) F c) m 24 ((F : Int) + 1)).1 (m + 421) j = if j = F then c else w.1 (m + 421) j := fun j => by
    refine (congrFun (jW_f (by omega)) j).trans ?_
    show (if m + 421 = m + 421 ∧ j = F then c else (jW (jW w (x + 340) F c) (x + 339) 0 ((F : Int) + 1)).1 (m + 421) j) = _
    rw [hb (m + 421) (by omega) (by omega)]
    by_cases e : j = F
    · rw [if_pos ⟨rfl, e⟩, if_pos e]
    · rw [if_neg (fun q => e q.2), if_neg e]
  refine ⟨⟨_, _, h1, e1, fun _ => rfl⟩, zWW_f h.ww rfl (fun b _ => K b (by omega) (by omega) (by omega) (by omega)), zRR_f h.rows (congrFun (K x (by omega) (by omega) (by omega) (by omega)) 1) (fun b _ _ _ => K b (by omega) (by omega) (by omega) (by omega)) (fun j _ => congrFun (K (m + 2) (by omega) (by omega) (by omega) (by omega)) j), ?_, zPP_f h.past (em 15 (by decide)) (fun b _ _ => K b (by omega) (by omega) (by omega) (by omega)) (fun b _ _ => K b (by omega) (by omega) (by omega) (by omega)), zII_f h.img (em 31 (by decide)) (congrFun (K x (by omega) (by omega) (by omega) (by omega)) 3) (fun b _ _ _ => K b (by omega) (by omega) (by omega) (by omega)) (fun b _ _ => K b (by omega) (by omega) (by omega) (by omega)) (fun b _ _ => K b (by omega) (by omega) (by omega) (by omega)), zLL_f h.lists (fun b _ _ => K b (by omega) (by omega) (by omega) (by omega)) (K _ (by omega) (by omega) (by omega) (by omega)) (fun b _ _ => K b (by omega) (by omega) (by omega) (by omega)), ⟨F + 1, by omega, if_pos ⟨rfl, rfl⟩, ?_, fun j hj => ?_⟩, zNN_f h.refs (K _ (by omega) (by omega) (by omega) (by omega)) (K _ (by omega) (by omega) (by omega) (by omega))⟩
  · rw [K (x + 3) (by omega) (by omega) (by omega) (by omega), K (x + 4) (by omega) (by omega) (by omega) (by omega), K (m + 1) (by omega) (by omega) (by omega) (by omega)]
    exact zRS_F h.seed
  · refine (congrFun ((jW_f (by omega)).trans (jW_f (by omega))) 0).trans ?_
    exact if_pos ⟨rfl, rfl⟩
  · rw [s340, s421]
    by_cases e : j = F
    · rw [if_pos e, if_pos e]
      exact ⟨rfl, by omega, by omega⟩
    · rw [if_neg e, if_neg e]
      exact hL j (by omega)
end
section
/-! rows told, the image: class and reference side by side -/
/-- what a change of the rows (and of what can be undone, of the seed, of the image) leaves -/
theorem zRel_R {g g' : Prop} {x m : Nat} {w w3 : jS} (h : zRel g x m w) (e : w3.2 = w.2) (hx : w3.2.2.2.2 < x) (K : ∀ b, b < m → b ≠ x → b ≠ x + 3 → b ≠ x + 4 → b ≠ x + 5 → b ≠ x + 6 → b ≠ x + 341 → (b < x + 363 ∨ x + 387 ≤ b) → w3.1 b = w.1 b) (L : ∀ b, (b = m + 3 ∨ (m + 8 ≤ b ∧ b ≤ m + 15) ∨ b = m + 421 ∨ b = m + 423 ∨ (m + 425 ≤ b ∧ b ≤ m + 427)) → w3.1 b = w.1 b) (e24 : w3.1 m 24 = w.1 m 24) (hr : zRR w3 x (w3.1 (m + 2))) (hs : zRS g' (w3.1 (x + 3)) (w3.1 (x + 4)) (w3.1 (m + 1))) (hp : zPP w3 x m) (hi : zII w3 x m) : zRel g' x m w3 := by
  have xm := h.xm
  have hao := h.ao
  exact ⟨zWW_f h.ww e (fun b hb => K b (by omega) (by omega) (by omega) (by omega) (by omega) (by omega) (by omega) (by omega)), hr, hs, hp, hi, zLL_f h.lists (fun b _ _ => K b (by omega) (by omega) (by omega) (by omega) (by omega) (by omega) (by omega) (by omega)) (L _ (by omega)) (fun b _ _ => L b (by omega)), zTT_f h.text e24 (fun b _ _ => K b (by omega) (by omega) (by omega) (by omega) (by omega) (by omega) (by omega) (by omega)) (L _ (by omega)), zNN_f h.refs (K _ (by omega) (by omega) (by omega) (by omega) (by omega) (by omega) (by omega) (by omega)) (L _ (by omega))⟩
set_option maxHeartbeats 2000000 in
theorem T_row {g : Prop} {x m : Nat} {w : jS} (h : zRel g x m w) {l f : Int} (hrl : r32 l) (hrf : r32 f) : jCall 92 [jO x, jI l, jI f] w (fun v w1 => w1.2 = w.2 ∧ jCall 147 [jO m, jI l, jI f] w1 (fun v' w2 => zAI True x m v v' w2)) := by
  have xm := h.xm
  have hao := h.ao
  obtain ⟨c, hR, hRW⟩ := h.rows
  have hc4 := hR.2.1
  have hC := C_row (w := w) (x := x) h.cw hR hRW h.ok (Or.inl h.ao) hrl hrf
  have hE := fun (w1 : jS) (hm : MW w1.2 m) (e : w1.1 (m + 2) = w.1 (m + 2)) => E_row (w := w1) (m := m) (c := c) hm (by rw [e]; exact hR) hrl hrf
  by_cases g0 : ¬ (0 ≤ l ∧ l ≤ 6)
  · exact L_no h (show 1 < 6 by decide) (hC.mono fun v w1 hc => cno_q (hc.1 g0)) (fun w1 hq => (hE w1 (zmb h hq) (zcb h hq (by omega))).mono fun v' w2 he => jno_q (he.1 g0))
  by_cases g1 : f < 0
  · exact L_no h (show 3 < 6 by decide) (hC.mono fun v w1 hc => cno_q (hc.2.1 g0 g1)) (fun w1 hq => (hE w1 (zmb h hq) (zcb h hq (by omega))).mono fun v' w2 he => jno_q (he.2.1 g0 g1))
  by_cases g2 : 9 < f ∨ c = 4
  · exact L_no h (show 5 < 6 by decide) (hC.mono fun v w1 hc => cno_q (hc.2.2.1 g0 g1 g2)) (fun w1 hq => (hE w1 (zmb h hq) (zcb h hq (by omega))).mono fun v' w2 he => jno_q (he.2.2.1 g0 g1 g2))
  refine hC.mono fun v w1 hc => ?_
  obtain ⟨h1, h2, h3, h4, h5, h6⟩ := hc.2.2.2 g0 g1 g2
  have hb : ∀ b, x + 393 ≤ b → w1.1 b = w.1 b := fun b a0 => h3 b (by omega) (by omega) (by omega) (by omega)
  refine ⟨h2, (hE w1 (by rw [h2]; exact h.mw) (hb _ (by omega))).mono fun v' w2 he => ?_⟩
  rw [hb (m + 2) (by omega)] at he
  obtain ⟨e1, T, rfl, t0, t1, t2, t3, t4⟩ := he.2.2.2 g0 g1 g2
  have F : ∀ b, b ≠ m + 2 → b ≠ x → b ≠ x + (363 + 6 * c) → b ≠ x + (364 + 6 * c) → b ≠ x + (365 + 6 * c) → (kA w1 (m + 2) T).1 b = w.1 b := fun b a0 a1 a2 a3 a4 => (kA_f a0).trans (h3 b a1 a2 a3 a4)
  have F1 : ∀ b, b ≠ m + 2 → (kA w1 (m + 2) T).1 b = w1.1 b := fun b a0 => kA_f a0
  refine ⟨⟨_, _, h1, e1, fun _ => rfl⟩, zRel_R h h2 (by rw [show (kA w1 (m + 2) T).2 = w.2 from h2]; exact hao) (fun b a0 a1 _ _ _ _ _ a2 => F b (by omega) a1 (by omega) (by omega) (by omega)) (fun b a0 => F b (by omega) (by omega) (by omega) (by omega) (by omega)) (congrFun (F m (by omega) (by omega) (by omega) (by omega) (by omega)) 24) ?_ ?_ (zPP_f h.past (congrFun (F m (by omega) (by omega) (by omega) (by omega) (by omega)) 15) (fun b _ _ => F b (by omega) (by omega) (by omega) (by omega) (by omega)) (fun b _ _ => F b (by omega) (by omega) (by omega) (by omega) (by omega))) (zII_f h.img (congrFun (F m (by omega) (by omega) (by omega) (by omega) (by omega)) 31) ((congrFun (F1 x (by omega)) 3).trans (h4 3 (by decide))) (fun b _ _ a0 => F b (by omega) (by omega) (a0 c (by omega)).1 (a0 c (by omega)).2.1 (a0 c (by omega)).2.2) (fun b _ _ => F b (by omega) (by omega) (by omega) (by omega) (by omega)) (fun b _ _ => F b (by omega) (by omega) (by omega) (by omega) (by omega)))⟩
  · rw [show (kA w1 (m + 2) T).1 (m + 2) = T from kA_fs]
    refine ⟨c + 1, ⟨by rw [t0]; rfl, by omega, fun i hi => ?_⟩, ?_, fun i hi => ?_⟩
    · by_cases e : i = c
      · subst e
        rw [t1, t2]
        exact ⟨by omega, by omega, fun y hy => by rw [t3 y hy]; omega⟩
      · rw [t4 (1 + 10 * i) (by omega) (by omega), t4 (2 + 10 * i) (by omega) (by omega)]
        refine ⟨(hR.2.2 i (by omega)).1, (hR.2.2 i (by omega)).2.1, fun y hy => ?_⟩
        rw [t4 (3 + 10 * i + y) (by omega) (by omega)]
        exact (hR.2.2 i (by omega)).2.2 y hy
    · rw [F1 x (by omega), h5]; rfl
    · by_cases e : i = c
      · subst e
        rw [t1, t2]
        exact cRo_s (fun y hy => t3 y hy) (cRo_k (F1 _ (by omega)) (F1 _ (by omega)) (F1 _ (by omega)) h6)
      · rw [t4 (1 + 10 * i) (by omega) (by omega), t4 (2 + 10 * i) (by omega) (by omega)]
        exact cRo_s (fun y hy => t4 (3 + 10 * i + y) (by omega) (by omega)) (cRo_k (F _ (by omega) (by omega) (by omega) (by omega) (by omega)) (F _ (by omega) (by omega) (by omega) (by omega) (by omega)) (F _ (by omega) (by omega) (by omega) (by omega) (by omega)) (hRW.2 i (by omega)))
  · rw [F (x + 3) (by omega) (by omega) (by omega) (by omega) (by omega), F (x + 4) (by omega) (by omega) (by omega) (by omega) (by omega), F (m + 1) (by omega) (by omega) (by omega) (by omega) (by omega)]
    exact zRS_F h.seed
set_option maxHeartbeats 2000000 in
theorem T_start {g : Prop} {x m : Nat} {w : jS} (h : zRel g x m w) {a i y : Int} (hra : r32 a) (hri : r32 i) (hry : r32 y) : jCall 93 [jO x, jI a, jI i, jI y] w (fun v w1 => w1.2 = w.2 ∧ jCall 148 [jO m, jI a, jI i, jI y] w1 (fun v' w2 => zAI True x m v v' w2)) := by
  have xm := h.xm
  have hao := h.ao
  obtain ⟨c, hR, hRW⟩ := h.rows
  have hc4 := hR.2.1
  have hC := C_start (w := w) (x := x) h.cw hR hRW h.ok (Or.inl h.ao) hra hri hry
  have hE := fun (w1 : jS) (hm : MW w1.2 m) (e : w1.1 (m + 2) = w.1 (m + 2)) => E_start (w := w1) (m := m) (c := c) hm (by rw [e]; exact hR) hra hri hry
  by_cases g0 : ¬ (0 ≤ a ∧ a < (c : Int))
  · exact L_no h (show 0 < 6 by decide) (hC.mono fun v w1 hc => cno_q (hc.1 g0)) (fun w1 hq => (hE w1 (zmb h hq) (zcb h hq (by omega))).mono fun v' w2 he => jno_q (he.1 g0))
  by_cases g1 : i < 0 ∨ y < 1
  · exact L_no h (show 3 < 6 by decide) (hC.mono fun v w1 hc => cno_q (hc.2.1 g0 g1)) (fun w1 hq => (hE w1 (zmb h hq) (zcb h hq (by omega))).mono fun v' w2 he => jno_q (he.2.1 g0 g1))
  by_cases g2 : zO (w.1 (m + 2) (1 + 10 * a.toNat)) ≤ i ∨ 9 < y
  · exact L_no h (show 5 < 6 by decide) (hC.mono fun v w1 hc => cno_q (hc.2.2.1 g0 g1 g2)) (fun w1 hq => (hE w1 (zmb h hq) (zcb h hq (by omega))).mono fun v' w2 he => by rw [zcb h hq (show m ≤ m + 2 by omega)] at he; exact jno_q (he.2.2.1 g0 g1 g2))
  refine hC.mono fun v w1 hc => ?_
  obtain ⟨h1, h2, h3, h6⟩ := hc.2.2.2 g0 g1 g2
  have hb : ∀ b, x + 393 ≤ b → w1.1 b = w.1 b := fun b a0 => h3 b (by omega) (by omega) (by omega)
  refine ⟨h2, (hE w1 (by rw [h2]; exact h.mw) (hb _ (by omega))).mono fun v' w2 he => ?_⟩
  rw [hb (m + 2) (by omega)] at he
  obtain ⟨e1, rfl⟩ := he.2.2.2 g0 g1 g2
  have hi8 : i.toNat < 8 := by
    have : zO (w.1 (m + 2) (1 + 10 * a.toNat)) ≤ 8 := by
      unfold zO
      split
      · decide
      · split
        · omega
        · decide
    omega
  have F : ∀ b, b ≠ m + 2 → b ≠ x + (363 + 6 * a.toNat) → b ≠ x + (364 + 6 * a.toNat) → b ≠ x + (365 + 6 * a.toNat) → (jW w1 (m + 2) (3 + 10 * a.toNat + i.toNat) y).1 b = w.1 b := fun b a0 a1 a2 a3 => (jW_f a0).trans (h3 b a1 a2 a3)
  have F1 : ∀ b, b ≠ m + 2 → (jW w1 (m + 2) (3 + 10 * a.toNat + i.toNat) y).1 b = w1.1 b := fun b a0 => jW_f a0
  have s2 : ∀ j, (jW w1 (m + 2) (3 + 10 * a.toNat + i.toNat) y).1 (m + 2) j = if j = 3 + 10 * a.toNat + i.toNat then y else w.1 (m + 2) j := fun j => by
    show (if m + 2 = m + 2 ∧ j = 3 + 10 * a.toNat + i.toNat then y else w1.1 (m + 2) j) = _
    rw [hb (m + 2) (by omega)]
    by_cases e : j = 3 + 10 * a.toNat + i.toNat
    · rw [if_pos ⟨rfl, e⟩, if_pos e]
    · rw [if_neg (fun q => e q.2), if_neg e]
  refine ⟨⟨_, _, h1, e1, fun _ => rfl⟩, zRel_R h h2 (by rw [show (jW w1 (m + 2) (3 + 10 * a.toNat + i.toNat) y).2 = w.2 from h2]; exact hao) (fun b a0 a1 _ _ _ _ _ a2 => F b (by omega) (by omega) (by omega) (by omega)) (fun b a0 => F b (by omega) (by omega) (by omega) (by omega)) (congrFun (F m (by omega) (by omega) (by omega) (by omega)) 24) ?_ ?_ (zPP_f h.past (congrFun (F m (by omega) (by omega) (by omega) (by omega)) 15) (fun b _ _ => F b (by omega) (by omega) (by omega) (by omega)) (fun b _ _ => F b (by omega) (by omega) (by omega) (by omega))) (zII_f h.img (congrFun (F m (by omega) (by omega) (by omega) (by omega)) 31) (congrFun (F x (by omega) (by omega) (by omega) (by omega)) 3) (fun b _ _ a0 => F b (by omega) (a0 a.toNat (by omega)).1 (a0 a.toNat (by omega)).2.1 (a0 a.toNat (by omega)).2.2) (fun b _ _ => F b (by omega) (by omega) (by omega) (by omega)) (fun b _ _ => F b (by omega) (by omega) (by omega) (by omega)))⟩
  · refine ⟨c, ⟨by rw [s2, if_neg (by omega)]; exact hR.1, hc4, fun z hz => ?_⟩, ?_, fun z hz => ?_⟩
    · obtain ⟨r1, r2, r3⟩ := hR.2.2 z hz
      rw [s2, s2, if_neg (by omega), if_neg (by omega)]
      refine ⟨r1, r2, fun k hk => ?_⟩
      rw [s2]
      split
      · omega
      · exact r3 k hk
    · rw [F x (by omega) (by omega) (by omega) (by omega)]
      exact hRW.1
    · rw [s2, s2, if_neg (by omega), if_neg (by omega)]
      by_cases e : z = a.toNat
      · subst e
        refine cRo_s (fun k hk => ?_) (cRo_k (F1 _ (by omega)) (F1 _ (by omega)) (F1 _ (by omega)) h6)
        refine (s2 _).trans ?_
        unfold zset
        by_cases e2 : k = i.toNat
        · rw [if_pos (by omega), if_pos e2]
        · rw [if_neg (by omega), if_neg e2]
      · refine cRo_s (fun k hk => ?_) (cRo_k (F _ (by omega) (by omega) (by omega) (by omega)) (F _ (by omega) (by omega) (by omega) (by omega)) (F _ (by omega) (by omega) (by omega) (by omega)) (hRW.2 z hz))
        exact (s2 _).trans (if_neg (by omega))
  · rw [F (x + 3) (by omega) (by omega) (by omega) (by omega), F (x + 4) (by omega) (by omega) (by omega) (by omega), F (m + 1) (by omega) (by omega) (by omega) (by omega)]
    exact zRS_F h.seed
set_option maxHeartbeats 2000000 in
theorem T_image {g : Prop} {x m : Nat} {w : jS} (h : zRel g x m w) : jCall 125 [jO x] w (fun v w1 => w1.2 = w.2 ∧ jCall 217 [jO m] w1 (fun v' w2 => zAI True x m v v' w2)) := by
  have xm := h.xm
  have hao := h.ao
  obtain ⟨c, hR, hRW⟩ := h.rows
  have hc4 := hR.2.1
  have hC := C_image (w := w) (x := x) h.cw hR hRW h.ok (Or.inl h.ao)
  refine hC.mono fun v w1 hc => ?_
  obtain ⟨h1, h2, h3, h4, h5, h6, h7⟩ := hc
  have hb : ∀ b, x + 393 ≤ b → w1.1 b = w.1 b := fun b a0 => h3 b (by omega) (by omega) (by omega) (fun y hy => by omega)
  refine ⟨h2, (E_image (w := w1) (m := m) (by rw [h2]; exact h.mw)).mono fun v' w2 he => ?_⟩
  obtain ⟨e1, f1, f2, f3, f4, f5, f6⟩ := he
  rw [hb (m + 2) (by omega)] at e1 f6
  rw [hb (m + 1) (by omega)] at f5
  have F1 : ∀ b, b ≠ m → b ≠ m + 428 → b ≠ m + 429 → w2.1 b = w1.1 b := f2
  have F : ∀ b, b ≠ m → b ≠ m + 428 → b ≠ m + 429 → b ≠ x → b ≠ x + 5 → b ≠ x + 6 → (∀ y, y < 4 → b ≠ x + (366 + 6 * y) ∧ b ≠ x + (367 + 6 * y) ∧ b ≠ x + (368 + 6 * y)) → w2.1 b = w.1 b := fun b a0 a1 a2 a3 a4 a5 a6 => (f2 b a0 a1 a2).trans (h3 b a3 a4 a5 a6)
  have em : ∀ j, j ≠ 31 → w2.1 m j = w.1 m j := fun j hj => (f3 j hj).trans (congrFun (hb m (by omega)) j)
  refine ⟨⟨_, _, h1, e1, fun _ => hR.1.symm⟩, zRel_R h (f1.trans h2) (by rw [f1.trans h2]; exact hao) (fun b a0 a1 _ _ a2 a3 _ a4 => F b (by omega) (by omega) (by omega) a1 a2 a3 (fun y hy => by omega)) (fun b a0 => F b (by omega) (by omega) (by omega) (by omega) (by omega) (by omega) (fun y hy => by omega)) (em 24 (by decide)) (zRR_f h.rows ?_ (fun b _ _ a0 => F b (by omega) (by omega) (by omega) (by omega) (by omega) (by omega) a0) (fun j _ => congrFun (F (m + 2) (by omega) (by omega) (by omega) (by omega) (by omega) (by omega) (fun y hy => by omega)) j)) ?_ (zPP_f h.past (em 15 (by decide)) (fun b _ _ => F b (by omega) (by omega) (by omega) (by omega) (by omega) (by omega) (fun y hy => by omega)) (fun b _ _ => F b (by omega) (by omega) (by omega) (by omega) (by omega) (by omega) (fun y hy => by omega))) (Or.inr ⟨f4, ⟨c, zRw_c f6 hR, ?_, fun i hi => cRo_R f6 hi hc4 (cRo_k (F1 _ (by omega) (by omega) (by omega)) (F1 _ (by omega) (by omega) (by omega)) (F1 _ (by omega) (by omega) (by omega)) (h6 i hi))⟩, ?_⟩)⟩
  · rw [F1 x (by omega) (by omega) (by omega)]
    exact h4 1 (by decide)
  · rw [F (x + 3) (by omega) (by omega) (by omega) (by omega) (by omega) (by omega) (fun y hy => by omega), F (x + 4) (by omega) (by omega) (by omega) (by omega) (by omega) (by omega) (fun y hy => by omega), F (m + 1) (by omega) (by omega) (by omega) (by omega) (by omega) (by omega) (fun y hy => by omega)]
    exact zRS_F h.seed
  · rw [F1 x (by omega) (by omega) (by omega)]
    exact h5
  · rw [F1 (x + 5) (by omega) (by omega) (by omega), F1 (x + 6) (by omega) (by omega) (by omega)]
    exact zRS_c (zRS_F h.seed) h7.1 h7.2 f5
set_option maxHeartbeats 2000000 in
theorem T_on {g : Prop} {x m : Nat} {w : jS} (h : zRel g x m w) : jCall 126 [jO x] w (fun v w1 => w1.2 = w.2 ∧ jCall 218 [jO m] w1 (fun v' w2 => zAI True x m v v' w2)) := by
  have xm := h.xm
  have hao := h.ao
  rcases h.img with ⟨i1, i2⟩ | ⟨i1, ⟨k, hR, hk, hI⟩, hS⟩
  · refine L_no h (show 2 < 6 by decide) ((C_on0 (w := w) (x := x) h.cw i2).mono fun v w1 hc => cno_q hc) (fun w1 hq => ?_)
    have e9 : w1.1 m 31 = 0 := (congrFun (zcb h hq (Nat.le_refl m)) 31).trans i1
    exact (E_on (w := w1) (m := m) (zmb h hq) (Or.inl e9)).mono fun v' w2 he => jno_q (he.1 e9)
  · have hk4 := hR.2.1
    refine (C_on (w := w) (x := x) h.cw hk hR hI h.ok (Or.inl h.ao)).mono fun v w1 hc => ?_
    obtain ⟨h1, h2, h3, h4, h5, h6, h7⟩ := hc
    have hb : ∀ b, x + 393 ≤ b → w1.1 b = w.1 b := fun b a0 => h3 b (by omega) (by omega) (by omega) (by omega) (fun y hy => by omega)
    have e9 : w1.1 m 31 = 1 := (congrFun (hb m (by omega)) 31).trans i1
    refine ⟨h2, (E_on (w := w1) (m := m) (by rw [h2]; exact h.mw) (Or.inr e9)).mono fun v' w2 he => ?_⟩
    obtain ⟨e1, f1, f2, f3, f4, f5, f6⟩ := he.2 (by omega)
    rw [hb (m + 429) (by omega)] at e1 f6
    rw [hb (m + 428) (by omega)] at f5
    have F1 : ∀ b, b ≠ m → b ≠ m + 1 → b ≠ m + 2 → w2.1 b = w1.1 b := f2
    have F : ∀ b, b ≠ m → b ≠ m + 1 → b ≠ m + 2 → b ≠ x → b ≠ x + 3 → b ≠ x + 4 → b ≠ x + 341 → (∀ y, y < 4 → b ≠ x + (363 + 6 * y) ∧ b ≠ x + (364 + 6 * y) ∧ b ≠ x + (365 + 6 * y)) → w2.1 b = w.1 b := fun b a0 a1 a2 a3 a4 a5 a6 a7 => (f2 b a0 a1 a2).trans (h3 b a3 a4 a5 a6 a7)
    have em : ∀ j, j ≠ 15 → w2.1 m j = w.1 m j := fun j hj => (f3 j hj).trans (congrFun (hb m (by omega)) j)
    refine ⟨⟨_, _, h1, e1, fun _ => hR.1.symm⟩, zRel_R h (f1.trans h2) (by rw [f1.trans h2]; exact hao) (fun b a0 a1 a2 a3 _ _ a4 a5 => F b (by omega) (by omega) (by omega) a1 a2 a3 a4 (fun y hy => by omega)) (fun b a0 => F b (by omega) (by omega) (by omega) (by omega) (by omega) (by omega) (by omega) (fun y hy => by omega)) (em 24 (by decide)) ⟨k, zRw_c f6 hR, ?_, fun i hi => cRo_R f6 hi hk4 (cRo_k (F1 _ (by omega) (by omega) (by omega)) (F1 _ (by omega) (by omega) (by omega)) (F1 _ (by omega) (by omega) (by omega)) (h5.2 i hi))⟩ ?_ ⟨0, by decide, f4, ?_, fun y hy => absurd hy (by omega)⟩ (zII_f h.img (em 31 (by decide)) ?_ (fun b _ _ a0 => F b (by omega) (by omega) (by omega) (by omega) (by omega) (by omega) (by omega) a0) (fun b _ _ => F b (by omega) (by omega) (by omega) (by omega) (by omega) (by omega) (by omega) (fun y hy => by omega)) (fun b _ _ => F b (by omega) (by omega) (by omega) (by omega) (by omega) (by omega) (by omega) (fun y hy => by omega)))⟩
    · rw [F1 x (by omega) (by omega) (by omega)]
      exact h5.1
    · rw [F1 (x + 3) (by omega) (by omega) (by omega), F1 (x + 4) (by omega) (by omega) (by omega)]
      exact zRS_c hS h6.1 h6.2 f5
    · rw [F1 (x + 341) (by omega) (by omega) (by omega)]
      exact h7
    · rw [F1 x (by omega) (by omega) (by omega)]
      exact h4 3 (by decide)
end
section
theorem SK_t {g g' : (Nat → Nat × Nat) × (Nat → Nat → Option Nat) × Nat × Nat} {se : Nat} (h : SK g se) (E : ∀ a, se ≤ a → a < se + 327 → g'.1 a = g.1 a ∧ g'.2.1 a = g.2.1 a) : SK g' se :=
  ⟨(E _ (by omega) (by omega)).1.trans (h.1),
   (E _ (by omega) (by omega)).1.trans (h.2.1),
   (E _ (by omega) (by omega)).1.trans (h.2.2.1),
   (E _ (by omega) (by omega)).1.trans (h.2.2.2.1),
   (E _ (by omega) (by omega)).1.trans (h.2.2.2.2.1),
   (congrFun (E _ (by omega) (by omega)).2 _).trans (h.2.2.2.2.2.1),
   (congrFun (E _ (by omega) (by omega)).2 _).trans (h.2.2.2.2.2.2.1),
   (congrFun (E _ (by omega) (by omega)).2 _).trans (h.2.2.2.2.2.2.2.1),
   (congrFun (E _ (by omega) (by omega)).2 _).trans (h.2.2.2.2.2.2.2.2.1),
   fun i hi => (congrFun (E _ (by omega) (by omega)).2 _).trans (h.2.2.2.2.2.2.2.2.2.1 i hi),
   fun i hi => (E _ (by omega) (by omega)).1.trans (h.2.2.2.2.2.2.2.2.2.2.1 i hi),
   fun i hi => (E _ (by omega) (by omega)).1.trans (h.2.2.2.2.2.2.2.2.2.2.2.1 i hi),
   fun i hi => (congrFun (E _ (by omega) (by omega)).2 _).trans (h.2.2.2.2.2.2.2.2.2.2.2.2 i hi)⟩
theorem PK_t {g g' : (Nat → Nat × Nat) × (Nat → Nat → Option Nat) × Nat × Nat} {pa : Nat} (h : PK g pa) (E : ∀ a, pa ≤ a → a < pa + 18 → g'.1 a = g.1 a ∧ g'.2.1 a = g.2.1 a) : PK g' pa :=
  ⟨(E _ (by omega) (by omega)).1.trans (h.1),
   (E _ (by omega) (by omega)).1.trans (h.2.1),
   (congrFun (E _ (by omega) (by omega)).2 _).trans (h.2.2.1),
   fun i hi => (congrFun (E _ (by omega) (by omega)).2 _).trans (h.2.2.2.1 i hi),
   fun i hi => (E _ (by omega) (by omega)).1.trans (h.2.2.2.2.1 i hi),
   fun i hi => (E _ (by omega) (by omega)).1.trans (h.2.2.2.2.2.1 i hi),
   fun i hi => (congrFun (E _ (by omega) (by omega)).2 _).trans (h.2.2.2.2.2.2 i hi)⟩
theorem CW_t {g g' : (Nat → Nat × Nat) × (Nat → Nat → Option Nat) × Nat × Nat} {x : Nat} (h : CW g x) (E : ∀ a, x ≤ a → a < x + 393 → g'.1 a = g.1 a ∧ g'.2.1 a = g.2.1 a) : CW g' x :=
  ⟨(E _ (by omega) (by omega)).1.trans (h.1),
   (E _ (by omega) (by omega)).1.trans (h.2.1),
   (E _ (by omega) (by omega)).1.trans (h.2.2.1),
   (E _ (by omega) (by omega)).1.trans (h.2.2.2.1),
   (E _ (by omega) (by omega)).1.trans (h.2.2.2.2.1),
   (E _ (by omega) (by omega)).1.trans (h.2.2.2.2.2.1),
   (E _ (by omega) (by omega)).1.trans (h.2.2.2.2.2.2.1),
   (E _ (by omega) (by omega)).1.trans (h.2.2.2.2.2.2.2.1),
   (E _ (by omega) (by omega)).1.trans (h.2.2.2.2.2.2.2.2.1),
   (E _ (by omega) (by omega)).1.trans (h.2.2.2.2.2.2.2.2.2.1),
   (E _ (by omega) (by omega)).1.trans (h.2.2.2.2.2.2.2.2.2.2.1),
   (E _ (by omega) (by omega)).1.trans (h.2.2.2.2.2.2.2.2.2.2.2.1),
   (E _ (by omega) (by omega)).1.trans (h.2.2.2.2.2.2.2.2.2.2.2.2.1),
   (E _ (by omega) (by omega)).1.trans (h.2.2.2.2.2.2.2.2.2.2.2.2.2.1),
   (E _ (by omega) (by omega)).1.trans (h.2.2.2.2.2.2.2.2.2.2.2.2.2.2.1),
   (E _ (by omega) (by omega)).1.trans (h.2.2.2.2.2.2.2.2.2.2.2.2.2.2.2.1),
   (E _ (by omega) (by omega)).1.trans (h.2.2.2.2.2.2.2.2.2.2.2.2.2.2.2.2.1),
   (E _ (by omega) (by omega)).1.trans (h.2.2.2.2.2.2.2.2.2.2.2.2.2.2.2.2.2.1),
   SK_t (h.2.2.2.2.2.2.2.2.2.2.2.2.2.2.2.2.2.2.1) (fun a _ _ => E a (by omega) (by omega)),
   PK_t (h.2.2.2.2.2.2.2.2.2.2.2.2.2.2.2.2.2.2.2.1) (fun a _ _ => E a (by omega) (by omega)),
   fun i hi => (E _ (by omega) (by omega)).1.trans (h.2.2.2.2.2.2.2.2.2.2.2.2.2.2.2.2.2.2.2.2.1 i hi),
   fun i hi => (E _ (by omega) (by omega)).1.trans (h.2.2.2.2.2.2.2.2.2.2.2.2.2.2.2.2.2.2.2.2.2.1 i hi),
   fun i hi => (E _ (by omega) (by omega)).1.trans (h.2.2.2.2.2.2.2.2.2.2.2.2.2.2.2.2.2.2.2.2.2.2.1 i hi),
   fun i hi => (E _ (by omega) (by omega)).1.trans (h.2.2.2.2.2.2.2.2.2.2.2.2.2.2.2.2.2.2.2.2.2.2.2.1 i hi),
   fun i hi => (E _ (by omega) (by omega)).1.trans (h.2.2.2.2.2.2.2.2.2.2.2.2.2.2.2.2.2.2.2.2.2.2.2.2.1 i hi),
   fun i hi => (E _ (by omega) (by omega)).1.trans (h.2.2.2.2.2.2.2.2.2.2.2.2.2.2.2.2.2.2.2.2.2.2.2.2.2.1 i hi),
   fun i hi => (E _ (by omega) (by omega)).1.trans (h.2.2.2.2.2.2.2.2.2.2.2.2.2.2.2.2.2.2.2.2.2.2.2.2.2.2.1 i hi),
   fun i hi => (E _ (by omega) (by omega)).1.trans (h.2.2.2.2.2.2.2.2.2.2.2.2.2.2.2.2.2.2.2.2.2.2.2.2.2.2.2.1 i hi),
   (congrFun (E _ (by omega) (by omega)).2 _).trans (h.2.2.2.2.2.2.2.2.2.2.2.2.2.2.2.2.2.2.2.2.2.2.2.2.2.2.2.2.1),
   (congrFun (E _ (by omega) (by omega)).2 _).trans (h.2.2.2.2.2.2.2.2.2.2.2.2.2.2.2.2.2.2.2.2.2.2.2.2.2.2.2.2.2.1),
   (congrFun (E _ (by omega) (by omega)).2 _).trans (h.2.2.2.2.2.2.2.2.2.2.2.2.2.2.2.2.2.2.2.2.2.2.2.2.2.2.2.2.2.2.1),
   (congrFun (E _ (by omega) (by omega)).2 _).trans (h.2.2.2.2.2.2.2.2.2.2.2.2.2.2.2.2.2.2.2.2.2.2.2.2.2.2.2.2.2.2.2.1),
   (congrFun (E _ (by omega) (by omega)).2 _).trans (h.2.2.2.2.2.2.2.2.2.2.2.2.2.2.2.2.2.2.2.2.2.2.2.2.2.2.2.2.2.2.2.2.1),
   (congrFun (E _ (by omega) (by omega)).2 _).trans (h.2.2.2.2.2.2.2.2.2.2.2.2.2.2.2.2.2.2.2.2.2.2.2.2.2.2.2.2.2.2.2.2.2.1),
   (congrFun (E _ (by omega) (by omega)).2 _).trans (h.2.2.2.2.2.2.2.2.2.2.2.2.2.2.2.2.2.2.2.2.2.2.2.2.2.2.2.2.2.2.2.2.2.2.1),
   (congrFun (E _ (by omega) (by omega)).2 _).trans (h.2.2.2.2.2.2.2.2.2.2.2.2.2.2.2.2.2.2.2.2.2.2.2.2.2.2.2.2.2.2.2.2.2.2.2.1),
   (congrFun (E _ (by omega) (by omega)).2 _).trans (h.2.2.2.2.2.2.2.2.2.2.2.2.2.2.2.2.2.2.2.2.2.2.2.2.2.2.2.2.2.2.2.2.2.2.2.2.1),
   (congrFun (E _ (by omega) (by omega)).2 _).trans (h.2.2.2.2.2.2.2.2.2.2.2.2.2.2.2.2.2.2.2.2.2.2.2.2.2.2.2.2.2.2.2.2.2.2.2.2.2.1),
   (congrFun (E _ (by omega) (by omega)).2 _).trans (h.2.2.2.2.2.2.2.2.2.2.2.2.2.2.2.2.2.2.2.2.2.2.2.2.2.2.2.2.2.2.2.2.2.2.2.2.2.2.1),
   (congrFun (E _ (by omega) (by omega)).2 _).trans (h.2.2.2.2.2.2.2.2.2.2.2.2.2.2.2.2.2.2.2.2.2.2.2.2.2.2.2.2.2.2.2.2.2.2.2.2.2.2.2.1),
   (congrFun (E _ (by omega) (by omega)).2 _).trans (h.2.2.2.2.2.2.2.2.2.2.2.2.2.2.2.2.2.2.2.2.2.2.2.2.2.2.2.2.2.2.2.2.2.2.2.2.2.2.2.2.1),
   (congrFun (E _ (by omega) (by omega)).2 _).trans (h.2.2.2.2.2.2.2.2.2.2.2.2.2.2.2.2.2.2.2.2.2.2.2.2.2.2.2.2.2.2.2.2.2.2.2.2.2.2.2.2.2.1),
   (congrFun (E _ (by omega) (by omega)).2 _).trans (h.2.2.2.2.2.2.2.2.2.2.2.2.2.2.2.2.2.2.2.2.2.2.2.2.2.2.2.2.2.2.2.2.2.2.2.2.2.2.2.2.2.2.1),
   (congrFun (E _ (by omega) (by omega)).2 _).trans (h.2.2.2.2.2.2.2.2.2.2.2.2.2.2.2.2.2.2.2.2.2.2.2.2.2.2.2.2.2.2.2.2.2.2.2.2.2.2.2.2.2.2.2.1),
   (congrFun (E _ (by omega) (by omega)).2 _).trans (h.2.2.2.2.2.2.2.2.2.2.2.2.2.2.2.2.2.2.2.2.2.2.2.2.2.2.2.2.2.2.2.2.2.2.2.2.2.2.2.2.2.2.2.2.1),
   (congrFun (E _ (by omega) (by omega)).2 _).trans (h.2.2.2.2.2.2.2.2.2.2.2.2.2.2.2.2.2.2.2.2.2.2.2.2.2.2.2.2.2.2.2.2.2.2.2.2.2.2.2.2.2.2.2.2.2.1),
   (congrFun (E _ (by omega) (by omega)).2 _).trans (h.2.2.2.2.2.2.2.2.2.2.2.2.2.2.2.2.2.2.2.2.2.2.2.2.2.2.2.2.2.2.2.2.2.2.2.2.2.2.2.2.2.2.2.2.2.2.1),
   fun i hi => (congrFun (E _ (by omega) (by omega)).2 _).trans (h.2.2.2.2.2.2.2.2.2.2.2.2.2.2.2.2.2.2.2.2.2.2.2.2.2.2.2.2.2.2.2.2.2.2.2.2.2.2.2.2.2.2.2.2.2.2.2.1 i hi),
   fun i hi => (congrFun (E _ (by omega) (by omega)).2 _).trans (h.2.2.2.2.2.2.2.2.2.2.2.2.2.2.2.2.2.2.2.2.2.2.2.2.2.2.2.2.2.2.2.2.2.2.2.2.2.2.2.2.2.2.2.2.2.2.2.2.1 i hi),
   fun i hi => (congrFun (E _ (by omega) (by omega)).2 _).trans (h.2.2.2.2.2.2.2.2.2.2.2.2.2.2.2.2.2.2.2.2.2.2.2.2.2.2.2.2.2.2.2.2.2.2.2.2.2.2.2.2.2.2.2.2.2.2.2.2.2.1 i hi),
   fun i hi => (congrFun (E _ (by omega) (by omega)).2 _).trans (h.2.2.2.2.2.2.2.2.2.2.2.2.2.2.2.2.2.2.2.2.2.2.2.2.2.2.2.2.2.2.2.2.2.2.2.2.2.2.2.2.2.2.2.2.2.2.2.2.2.2.1 i hi),
   fun i hi => (congrFun (E _ (by omega) (by omega)).2 _).trans (h.2.2.2.2.2.2.2.2.2.2.2.2.2.2.2.2.2.2.2.2.2.2.2.2.2.2.2.2.2.2.2.2.2.2.2.2.2.2.2.2.2.2.2.2.2.2.2.2.2.2.2.1 i hi),
   fun i hi => (congrFun (E _ (by omega) (by omega)).2 _).trans (h.2.2.2.2.2.2.2.2.2.2.2.2.2.2.2.2.2.2.2.2.2.2.2.2.2.2.2.2.2.2.2.2.2.2.2.2.2.2.2.2.2.2.2.2.2.2.2.2.2.2.2.2.1 i hi),
   fun i hi => (congrFun (E _ (by omega) (by omega)).2 _).trans (h.2.2.2.2.2.2.2.2.2.2.2.2.2.2.2.2.2.2.2.2.2.2.2.2.2.2.2.2.2.2.2.2.2.2.2.2.2.2.2.2.2.2.2.2.2.2.2.2.2.2.2.2.2.1 i hi),
   fun i hi => (congrFun (E _ (by omega) (by omega)).2 _).trans (h.2.2.2.2.2.2.2.2.2.2.2.2.2.2.2.2.2.2.2.2.2.2.2.2.2.2.2.2.2.2.2.2.2.2.2.2.2.2.2.2.2.2.2.2.2.2.2.2.2.2.2.2.2.2 i hi)⟩
set_option maxHeartbeats 4000000 in
/-- both objects, made: they tell the same -/
theorem I_fresh {w0 : jS} (hO : jOK w0) (hao : w0.2.2.2.2 < w0.2.2.2.1) : jCall 91 [jO w0.2.2.2.1] (jnewo w0 9 0) (fun v w1 => v = none ∧ w1.2.2.2.1 = w0.2.2.2.1 + 393 ∧ jCall 134 [jO (w0.2.2.2.1 + 393)] (jnewo w1 10 0) (fun v' w2 => v' = none ∧ zRel True w0.2.2.2.1 (w0.2.2.2.1 + 393) w2 ∧ zeq (w2.1 (w0.2.2.2.1 + 393 + 1)) (zNw 2))) := by
  obtain ⟨x, hx⟩ : ∃ x, w0.2.2.2.1 = x := ⟨_, rfl⟩
  have k0 : (jnewo w0 9 0).2.1 x = (9, 0) := by rw [← hx]; exact jelN_kd
  have ka : ∀ a, a ≠ x → (jnewo w0 9 0).2.1 a = w0.2.1 a := fun a ha => by rw [← hx] at ha; exact if_neg ha
  have ma : ∀ a, a ≠ x → (jnewo w0 9 0).1 a = w0.1 a := fun a ha => by rw [← hx] at ha; exact funext fun j => if_neg ha
  rw [hx] at hao ⊢
  have hst : (jnewo w0 9 0) = ((jnewo w0 9 0).1, (jnewo w0 9 0).2.1, (jnewo w0 9 0).2.2.1, x + 1, w0.2.2.2.2) := by rw [← hx]; rfl
  rw [hst]
  refine (I_class (nx := x + 1) (s := x) k0 (by omega)).mono (fun v w1 hc => ?_)
  obtain ⟨rfl, hnx, hao1, hK, hM, hk, hr, ⟨c1, c3, c5, c339, c341⟩, href, hcR, hs1, hs2, hw, ht⟩ := hc
  have hX : CW w1.2 x := I_CW ((hK x (by omega)).trans k0) hk hr hs1 hs2 hw ht
  refine ⟨rfl, by rw [hnx], ?_⟩
  have hm : w1.2.2.2.1 = x + 393 := by rw [hnx]
  have k2 : (jnewo w1 10 0).2.1 (x + 393) = (10, 0) := by rw [← hm]; exact jelN_kd
  have z2 : ∀ j, (jnewo w1 10 0).1 (x + 393) j = 0 := fun j => by rw [← hm]; exact if_pos rfl
  have kb : ∀ a, a < x + 393 → (jnewo w1 10 0).2.1 a = w1.2.1 a := fun a ha => if_neg (by omega)
  have rb : ∀ a, a < x + 393 → (jnewo w1 10 0).2.2.1 a = w1.2.2.1 a := fun a ha => funext fun j => if_neg (by omega)
  have mb : ∀ a, a < x + 393 → (jnewo w1 10 0).1 a = w1.1 a := fun a ha => funext fun j => if_neg (by omega)
  have hst2 : (jnewo w1 10 0) = ((jnewo w1 10 0).1, (jnewo w1 10 0).2.1, (jnewo w1 10 0).2.2.1, x + 393 + 1, w0.2.2.2.2) := by
    rw [← hm, ← hao1]; rfl
  rw [hst2]
  refine (I_model (s := x + 393) k2 (by omega) z2).mono (fun v w2 he => ?_)
  obtain ⟨rfl, -, hao2, hK2, hM2, hMW, S, hS, hnew, e15, e24, e31, e2, e3, e423, e425⟩ := he
  refine ⟨rfl, ?_, by rw [hS]; exact znew_e hnew⟩
  have C : ∀ a, a < x + 393 → w2.1 a = w1.1 a := fun a ha => ((hM2 a (by omega) (by omega)).2).trans (mb a ha)
  have hz2 := zQ_new (n := 2) (by decide) (by decide)
  have cao : w2.1 w0.2.2.2.2 = w0.1 w0.2.2.2.2 := (C _ (by omega)).trans (((hM _ (by omega) (by omega)).2).trans (ma _ (by omega)))
  have kao : w2.2.1 w0.2.2.2.2 = w0.2.1 w0.2.2.2.2 := (hK2 _ (by omega)).trans ((kb _ (by omega)).trans ((hK _ (by omega)).trans (ka _ (by omega))))
  refine ⟨⟨CW_t hX (fun a a0 a1 => ⟨(hK2 a (by omega)).trans (kb a a1), ((hM2 a (by omega) (by omega)).1).trans (rb a a1)⟩), hMW, ⟨?_, fun j => ?_⟩, by omega, by rw [hao2]; exact hao⟩, ⟨0, ⟨e2 0, by decide, fun i hi => absurd hi (by omega)⟩, ?_, fun i hi => absurd hi (by omega)⟩, ⟨2, zQ_c ?_ hz2, ?_, ?_⟩, ⟨0, by decide, e15, ?_, fun y hy => absurd hy (by omega)⟩, Or.inl ⟨e31, ?_⟩, fun y hy => ⟨?_, ?_, fun j hj => ⟨?_, ?_⟩⟩, ⟨0, by decide, e24, ?_, fun j hj => absurd hj (by omega)⟩, fun j hj => ?_⟩
  · rw [hao2, kao]
    exact hO.1
  · rw [hao2, cao]
    exact hO.2 j
  · rw [C x (by omega)]
    exact c1
  · rw [hS]
    exact znew_e hnew
  · rw [C (x + 3) (by omega)]
    exact c5
  · rw [C (x + 4) (by omega), hS]
    exact cR_c (znew_e hnew) (hcR True)
  · rw [C (x + 341) (by omega)]
    exact c341
  · rw [C x (by omega)]
    exact c3
  · rw [C _ (by omega), e423 y hy, show x + (387 + 2 * y) = x + 1 + (2 * y + 386) by omega]
    exact (ht y hy).2.2.2.2.1
  · rw [e423 y hy]
    decide
  · rw [C _ (by omega), e425 y j hy, show x + (388 + 2 * y) = x + 1 + (2 * y + 387) by omega]
    exact (ht y hy).2.2.2.2.2 j
  · rw [e425 y j hy]
    exact ⟨by decide, by decide⟩
  · rw [C (x + 339) (by omega)]
    exact c339
  · rw [C (x + 362) (by omega), e3 (j + 1)]
    exact href j
end
