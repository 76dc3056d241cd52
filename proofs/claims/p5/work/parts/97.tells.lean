/-! seeds told and exchanged: class and reference side by side -/
theorem zRel_S {g g' : Prop} {x m : Nat} {w w3 : jS} (h : zRel g x m w) (e : w3.2 = w.2) (K : ∀ b, b < m → b ≠ x + 3 → b ≠ x + 4 → b ≠ x + 339 → (b < x + 7 ∨ x + 339 ≤ b) → (b < x + 341 ∨ x + 359 ≤ b) → w3.1 b = w.1 b) (L : ∀ b, (b = m + 2 ∨ b = m + 3 ∨ b = m + 421 ∨ b = m + 423 ∨ (m + 425 ≤ b ∧ b ≤ m + 429)) → w3.1 b = w.1 b) (e31 : w3.1 m 31 = w.1 m 31) (hs : zRS g' (w3.1 (x + 3)) (w3.1 (x + 4)) (w3.1 (m + 1))) (hp : zPP w3 x m) (ht : zTT w3 x m) : zRel g' x m w3 := by
  have xm := h.xm
  exact ⟨zWW_f h.ww e (fun b hb => K b (by omega) (by omega) (by omega) (by omega) (by omega) (by omega)), zRR_f h.rows (congrFun (K x (by omega) (by omega) (by omega) (by omega) (by omega) (by omega)) 1) (fun b _ _ _ => K b (by omega) (by omega) (by omega) (by omega) (by omega) (by omega)) (fun j _ => congrFun (L (m + 2) (by omega)) j), hs, hp, zII_f h.img e31 (congrFun (K x (by omega) (by omega) (by omega) (by omega) (by omega) (by omega)) 3) (fun b _ _ _ => K b (by omega) (by omega) (by omega) (by omega) (by omega) (by omega)) (fun b _ _ => K b (by omega) (by omega) (by omega) (by omega) (by omega) (by omega)) (fun b _ _ => L b (by omega)), zLL_f h.lists (fun b _ _ => K b (by omega) (by omega) (by omega) (by omega) (by omega) (by omega)) (L _ (by omega)) (fun b _ _ => L b (by omega)), ht, zNN_f h.refs (K _ (by omega) (by omega) (by omega) (by omega) (by omega) (by omega)) (L _ (by omega))⟩
set_option maxHeartbeats 2000000 in
theorem T_seed {g : Prop} {x m : Nat} {w : jS} (h : zRel g x m w) {i : Int} (hri : r32 i) : jCall 101 [jO x, jI i] w (fun v w1 => w1.2 = w.2 ∧ jCall 166 [jO m, jI i] w1 (fun v' w2 => zAI True x m v v' w2)) := by
  have xm := h.xm
  obtain ⟨n, hQ, hn0, hRR⟩ := h.seed
  have hC := C_seed (w := w) (x := x) h.cw hQ hn0 hRR hri
  have hE := fun (w1 : jS) (hm : MW w1.2 m) (e : w1.1 (m + 1) = w.1 (m + 1)) => E_seed (w := w1) (m := m) (n := n) hm (by rw [e]; exact hQ.1) hri
  by_cases g0 : i < 2
  · exact L_no h (show 3 < 6 by decide) (hC.mono fun v w1 hc => cno_q (hc.1 g0)) (fun w1 hq => (hE w1 (zmb h hq) (zcb h hq (by omega))).mono fun v' w2 he => jno_q (he.1 g0))
  by_cases g1 : 4 < i
  · exact L_no h (show 5 < 6 by decide) (hC.mono fun v w1 hc => cno_q (hc.2.1 g0 g1)) (fun w1 hq => (hE w1 (zmb h hq) (zcb h hq (by omega))).mono fun v' w2 he => jno_q (he.2.1 g0 g1))
  refine hC.mono fun v w1 hc => ?_
  obtain ⟨h1, h2, h3, h4, h5, h6⟩ := hc.2.2 g0 g1
  refine ⟨h2, (hE w1 (by rw [h2]; exact h.mw) (h3 _ (by omega) (by omega) (by omega))).mono fun v' w2 he => ?_⟩
  obtain ⟨e1, ⟨f1, f2, f3, f4⟩, f5⟩ := he.2.2 g0 g1
  have F : ∀ b, b ≠ x + 3 → b ≠ x + 4 → b ≠ x + 341 → b ≠ m → b ≠ m + 1 → w2.1 b = w.1 b := fun b a1 a2 a3 a4 a5 => (f2 b a4 a5).trans (h3 b a1 a2 a3)
  have em : ∀ j, j ≠ 15 → w2.1 m j = w.1 m j := fun j hj => (f4 j hj).trans (congrFun (h3 m (by omega) (by omega) (by omega)) j)
  refine ⟨⟨_, _, h1, e1, fun _ => rfl⟩, zRel_S h (f1.trans h2) (fun b _ a1 a2 _ _ _ => F b a1 a2 (by omega) (by omega) (by omega)) (fun b _ => F b (by omega) (by omega) (by omega) (by omega) (by omega)) (em 31 (by decide)) ⟨i.toNat, zQ_c (znew_e f5) (zQ_new (by omega) (by omega)), ?_, cR_c (znew_e f5) ?_⟩ ⟨0, by decide, f3, ?_, fun y hy => absurd hy (by omega)⟩ (zTT_f h.text (em 24 (by decide)) (fun b _ _ => F b (by omega) (by omega) (by omega) (by omega) (by omega)) (F _ (by omega) (by omega) (by omega) (by omega) (by omega)))⟩
  · rw [f2 (x + 3) (by omega) (by omega), h5]
    omega
  · rw [f2 (x + 4) (by omega) (by omega)]
    exact h6 False
  · rw [f2 (x + 341) (by omega) (by omega)]
    exact h4
/-- what tables and starts that are told leave -/
theorem zRel_told {g g' : Prop} {x m n : Nat} {w w1 w2 : jS} {Q : Nat → Int} (h : zRel g x m w) (hn0 : w.1 (x + 3) 0 = (n : Int)) (h2 : w1.2 = w.2) (h3 : ∀ b, b ≠ x + 4 → b ≠ x + 341 → w1.1 b = w.1 b) (h4 : w1.1 (x + 341) 0 = 0) (h5 : cR g' (w1.1 (x + 4)) Q n) (hz : znw w1 m w2) (hq : zeq (w2.1 (m + 1)) Q) (hQ : zQ Q n) : zRel False x m w2 := by
  have xm := h.xm
  obtain ⟨f1, f2, f3, f4⟩ := hz
  have F : ∀ b, b ≠ x + 4 → b ≠ x + 341 → b ≠ m → b ≠ m + 1 → w2.1 b = w.1 b := fun b a1 a2 a3 a4 => (f2 b a3 a4).trans (h3 b a1 a2)
  have em : ∀ j, j ≠ 15 → w2.1 m j = w.1 m j := fun j hj => (f4 j hj).trans (congrFun (h3 m (by omega) (by omega)) j)
  refine zRel_S h (f1.trans h2) (fun b _ a1 a2 _ _ _ => F b a2 (by omega) (by omega) (by omega)) (fun b _ => F b (by omega) (by omega) (by omega) (by omega)) (em 31 (by decide)) ⟨n, zQ_c hq hQ, ?_, cR_c hq ?_⟩ ⟨0, by decide, f3, ?_, fun y hy => absurd hy (by omega)⟩ (zTT_f h.text (em 24 (by decide)) (fun b _ _ => F b (by omega) (by omega) (by omega) (by omega)) (F _ (by omega) (by omega) (by omega) (by omega)))
  · rw [F (x + 3) (by omega) (by omega) (by omega) (by omega)]
    exact hn0
  · rw [f2 (x + 4) (by omega) (by omega)]
    exact cR_F h5
  · rw [f2 (x + 341) (by omega) (by omega)]
    exact h4
set_option maxHeartbeats 2000000 in
theorem T_table {g : Prop} {x m : Nat} {w : jS} (h : zRel g x m w) {i j y : Int} (hri : r32 i) (hrj : r32 j) (hry : r32 y) : jCall 102 [jO x, jI i, jI j, jI y] w (fun v w1 => w1.2 = w.2 ∧ jCall 168 [jO m, jI i, jI j, jI y] w1 (fun v' w2 => zAI True x m v v' w2)) := by
  have xm := h.xm
  obtain ⟨n, hQ, hn0, hRR⟩ := h.seed
  have hC := C_table (w := w) (x := x) h.cw hQ hn0 hRR hri hrj hry
  have hE := fun (w1 : jS) (hm : MW w1.2 m) (e : w1.1 (m + 1) = w.1 (m + 1)) => E_table (w := w1) (m := m) (n := n) hm (by rw [e]; exact hQ.1) hri hrj hry
  by_cases g0 : ¬ (0 ≤ i ∧ i < (n : Int)) ∨ ¬ (0 ≤ j ∧ j < (n : Int)) ∨ i = j
  · exact L_no h (show 0 < 6 by decide) (hC.mono fun v w1 hc => cno_q (hc.1 g0)) (fun w1 hq => (hE w1 (zmb h hq) (zcb h hq (by omega))).mono fun v' w2 he => jno_q (he.1 g0))
  by_cases g1 : y < -9
  · exact L_no h (show 3 < 6 by decide) (hC.mono fun v w1 hc => cno_q (hc.2.1 g0 g1)) (fun w1 hq => (hE w1 (zmb h hq) (zcb h hq (by omega))).mono fun v' w2 he => jno_q (he.2.1 g0 g1))
  by_cases g2 : 9 < y
  · exact L_no h (show 5 < 6 by decide) (hC.mono fun v w1 hc => cno_q (hc.2.2.1 g0 g1 g2)) (fun w1 hq => (hE w1 (zmb h hq) (zcb h hq (by omega))).mono fun v' w2 he => jno_q (he.2.2.1 g0 g1 g2))
  refine hC.mono fun v w1 hc => ?_
  obtain ⟨h1, h2, h3, h4, h5⟩ := hc.2.2.2 g0 g1 g2
  have e9 : w1.1 (m + 1) = w.1 (m + 1) := h3 _ (by omega) (by omega)
  refine ⟨h2, (hE w1 (by rw [h2]; exact h.mw) e9).mono fun v' w2 he => ?_⟩
  obtain ⟨e1, e2, e3⟩ := he.2.2.2 g0 g1 g2
  rw [e9] at e1 e3
  exact ⟨⟨_, _, h1, e1, fun _ => rfl⟩, zRel_told h hn0 h2 h3 h4 h5 e2 (zbg_e e3) (zQ_tb hQ (by omega) (by omega) (by omega) (by omega))⟩
set_option maxHeartbeats 2000000 in
theorem T_begins {g : Prop} {x m : Nat} {w : jS} (h : zRel g x m w) {i y : Int} (hri : r32 i) (hry : r32 y) : jCall 103 [jO x, jI i, jI y] w (fun v w1 => w1.2 = w.2 ∧ jCall 169 [jO m, jI i, jI y] w1 (fun v' w2 => zAI True x m v v' w2)) := by
  have xm := h.xm
  obtain ⟨n, hQ, hn0, hRR⟩ := h.seed
  have hC := C_begins (w := w) (x := x) h.cw hQ hn0 hRR hri hry
  have hE := fun (w1 : jS) (hm : MW w1.2 m) (e : w1.1 (m + 1) = w.1 (m + 1)) => E_begins (w := w1) (m := m) (n := n) hm (by rw [e]; exact hQ.1) hri hry
  by_cases g0 : ¬ (0 ≤ i ∧ i < (n : Int))
  · exact L_no h (show 0 < 6 by decide) (hC.mono fun v w1 hc => cno_q (hc.1 g0)) (fun w1 hq => (hE w1 (zmb h hq) (zcb h hq (by omega))).mono fun v' w2 he => jno_q (he.1 g0))
  by_cases g1 : y < 1
  · exact L_no h (show 3 < 6 by decide) (hC.mono fun v w1 hc => cno_q (hc.2.1 g0 g1)) (fun w1 hq => (hE w1 (zmb h hq) (zcb h hq (by omega))).mono fun v' w2 he => jno_q (he.2.1 g0 g1))
  by_cases g2 : 9 < y
  · exact L_no h (show 5 < 6 by decide) (hC.mono fun v w1 hc => cno_q (hc.2.2.1 g0 g1 g2)) (fun w1 hq => (hE w1 (zmb h hq) (zcb h hq (by omega))).mono fun v' w2 he => jno_q (he.2.2.1 g0 g1 g2))
  refine hC.mono fun v w1 hc => ?_
  obtain ⟨h1, h2, h3, h4, h5⟩ := hc.2.2.2 g0 g1 g2
  have e9 : w1.1 (m + 1) = w.1 (m + 1) := h3 _ (by omega) (by omega)
  refine ⟨h2, (hE w1 (by rw [h2]; exact h.mw) e9).mono fun v' w2 he => ?_⟩
  obtain ⟨e1, e2, e3⟩ := he.2.2.2 g0 g1 g2
  rw [e9] at e1 e3
  exact ⟨⟨_, _, h1, e1, fun _ => rfl⟩, zRel_told h hn0 h2 h3 h4 h5 e2 (zbg_e e3) (zQ_st hQ (by omega) (by omega))⟩
/-- the past behind one more seed, on both sides -/
theorem zPP_p {w w1 w2 : jS} {x m u : Nat} (xm : x + 393 ≤ m) (hu8 : u ≤ 8) (hc : ∀ y, y < u → zRS False (w.1 (x + 341 + (2 + 2 * y))) (w.1 (x + 341 + (3 + 2 * y))) (w.1 (m + (8 + y)))) (hs : zRS False (w.1 (x + 3)) (w.1 (x + 4)) (w.1 (m + 1))) (h1 : cpst w x u w1) (hb : ∀ b, x + 393 ≤ b → w1.1 b = w.1 b) (h2 : zpst w1 m u (w1.1 (m + 1)) w2) (hf : ∀ b, x + 341 ≤ b → b < x + 359 → w2.1 b = w1.1 b) : zPP w2 x m := by
  have e0 : w2.1 (x + 341) = w1.1 (x + 341) := hf _ (by omega) (by omega)
  have eq : w1.1 (m + 1) = w.1 (m + 1) := hb _ (by omega)
  rw [eq] at h2
  rcases h1 with ⟨a1, a2, a3, a4⟩ | ⟨a1, a2, a3, a4⟩
  · rcases h2 with ⟨b1, b2, b3, b4⟩ | ⟨b1, -⟩
    · refine ⟨u + 1, by omega, b2, by rw [e0, a2]; rfl, fun y hy => ?_⟩
      rw [hf (x + 341 + (2 + 2 * y)) (by omega) (by omega), hf (x + 341 + (3 + 2 * y)) (by omega) (by omega)]
      by_cases e : y = u
      · subst e
        exact zRS_c hs a4.1 a4.2 b4
      · rw [(a3 y (by omega)).1, (a3 y (by omega)).2, b3 y (by omega), hb (m + (8 + y)) (by omega)]
        exact hc y (by omega)
    · omega
  · subst a1
    rcases h2 with ⟨b1, -⟩ | ⟨b1, b2, b3, b4⟩
    · omega
    · refine ⟨8, by omega, b2, by rw [e0, a2]; rfl, fun y hy => ?_⟩
      rw [hf (x + 341 + (2 + 2 * y)) (by omega) (by omega), hf (x + 341 + (3 + 2 * y)) (by omega) (by omega)]
      by_cases e : y = 7
      · subst e
        exact zRS_c hs a4.1 a4.2 b4
      · refine zRS_c (hc (y + 1) (by omega)) (a3 y (by omega)).1 (a3 y (by omega)).2 (fun c hc9 => ?_)
        rw [b3 y (by omega) c hc9, hb (m + (8 + (y + 1))) (by omega)]
set_option maxHeartbeats 2000000 in
theorem T_exchange {g : Prop} {x m : Nat} {w : jS} (h : zRel g x m w) {i : Int} (hri : r32 i) : jCall 107 [jO x, jI i] w (fun v w1 => w1.2 = w.2 ∧ jCall 180 [jO m, jI i] w1 (fun v' w2 => zAI True x m v v' w2)) := by
  have xm := h.xm
  obtain ⟨n, hQ, hn0, hRR⟩ := h.seed
  obtain ⟨u, hu8, hum, hux, hup⟩ := h.past
  have hC := C_exchange (w := w) (x := x) h.cw hQ hn0 hRR hux hu8 hri
  have hE := fun (w1 : jS) (hm : MW w1.2 m) (e : w1.1 (m + 1) = w.1 (m + 1)) (e2 : w1.1 m 15 = (u : Int)) => E_exchange (w := w1) (m := m) (n := n) hm (by rw [e]; exact hQ.1) e2 hu8 hri
  have cu : ∀ {w1 : jS}, cnb w x w1 → w1.1 m 15 = (u : Int) := fun hq => (congrFun (zcb h hq (Nat.le_refl m)) 15).trans hum
  by_cases g0 : ¬ (0 ≤ i ∧ i < (n : Int))
  · exact L_no h (show 0 < 6 by decide) (hC.mono fun v w1 hc => cno_q (hc.1 g0)) (fun w1 hq => (hE w1 (zmb h hq) (zcb h hq (by omega)) (cu hq)).mono fun v' w2 he => jno_q (he.1 g0))
  by_cases g1 : ¬ zcan (w.1 (m + 1)) n i.toNat
  · refine L_no h (show 5 < 6 by decide) (hC.mono fun v w1 hc => hc.2.1 g0 g1) (fun w1 hq => (hE w1 (zmb h hq) (zcb h hq (by omega)) (cu hq)).mono fun v' w2 he => ?_)
    rw [zcb h hq (show m ≤ m + 1 by omega)] at he
    obtain ⟨e1, w3, ⟨k1, k2, k3⟩, ⟨k4, k5, k6⟩, rfl⟩ := he.2.1 g0 g1
    refine ⟨e1, w3, ⟨k1, fun a ha => ?_, k5, k3 24 (by decide) (by decide) (by decide), k3 31 (by decide) (by decide) (by decide)⟩, rfl⟩
    by_cases c1 : a = m + 1
    · rw [c1]; exact k4
    · by_cases c2 : m + 8 ≤ a ∧ a ≤ m + 15
      · have := k6 (a - (m + 8)) (by omega)
        rw [show m + (8 + (a - (m + 8))) = a by omega] at this
        exact this
      · exact k2 a (by omega) c1 (by omega) (by omega)
  have g1 : zcan (w.1 (m + 1)) n i.toNat := Classical.byContradiction g1
  have hn := hQ.1.2.2.1
  have hi4 : i.toNat < 4 := by omega
  refine hC.mono fun v w1 hc => ?_
  obtain ⟨h1, h2, h3, h4, h5, h6⟩ := hc.2.2 g0 (fun z => z g1)
  have e9 : w1.1 (m + 1) = w.1 (m + 1) := h3 _ (by omega) (by omega) (by omega) (by omega)
  have e8 : w1.1 m = w.1 m := h3 _ (by omega) (by omega) (by omega) (by omega)
  refine ⟨h2, (hE w1 (by rw [h2]; exact h.mw) e9 ((congrFun e8 15).trans hum)).mono fun v' w2 he => ?_⟩
  rw [e9] at he
  obtain ⟨e1, ⟨f1, f2, f3⟩, f4, f5⟩ := he.2.2 g0 (fun z => z g1)
  have hz := zxn_F hi4 f4
  have F : ∀ b, b < m → w2.1 b = w1.1 b := fun b hb => f2 b (by omega) (by omega) (by omega) (by omega)
  have em : ∀ j, j ≠ 11 → j ≠ 12 → j ≠ 15 → w2.1 m j = w.1 m j := fun j a1 a2 a3 => (f3 j a1 a2 a3).trans (congrFun e8 j)
  refine ⟨⟨_, _, h1, e1, fun _ => (hz _ (by omega)).symm⟩, zRel_S h (f1.trans h2) (fun b a0 a1 a2 _ a3 a4 => (F b a0).trans (h3 b a1 a2 (by omega) a4)) (fun b hb => (f2 b (by omega) (by omega) (by omega) (by omega)).trans (h3 b (by omega) (by omega) (by omega) (by omega))) (em 31 (by decide) (by decide) (by decide)) ⟨n, zQ_c hz (zQ_x hQ hi4 g1), ?_, cR_c hz ?_⟩ (zPP_p xm hu8 hup (zRS_F h.seed) h6 (fun b hb => h3 b (by omega) (by omega) (by omega) (by omega)) (by rw [e9]; exact f5) (fun b _ _ => F b (by omega))) (zTT_f h.text (em 24 (by decide) (by decide) (by decide)) (fun b _ _ => (F b (by omega)).trans (h3 b (by omega) (by omega) (by omega) (by omega))) ((f2 _ (by omega) (by omega) (by omega) (by omega)).trans (h3 _ (by omega) (by omega) (by omega) (by omega))))⟩
  · rw [F (x + 3) (by omega)]
    exact h4
  · rw [F (x + 4) (by omega)]
    exact h5
set_option maxHeartbeats 2000000 in
theorem T_undo {g : Prop} {x m : Nat} {w : jS} (h : zRel g x m w) : jCall 124 [jO x] w (fun v w1 => w1.2 = w.2 ∧ jCall 181 [jO m] w1 (fun v' w2 => zAI True x m v v' w2)) := by
  have xm := h.xm
  obtain ⟨u, hu8, hum, hux, hup⟩ := h.past
  have hC := C_undo (w := w) (x := x) h.cw hux hu8
  have hE := fun (w1 : jS) (hm : MW w1.2 m) (e2 : w1.1 m 15 = (u : Int)) => E_undo (w := w1) (m := m) hm e2 hu8
  by_cases g0 : u = 0
  · exact L_no h (show 2 < 6 by decide) (hC.mono fun v w1 hc => cno_q (hc.1 g0)) (fun w1 hq => (hE w1 (zmb h hq) ((congrFun (zcb h hq (Nat.le_refl m)) 15).trans hum)).mono fun v' w2 he => jno_q (he.1 g0))
  refine hC.mono fun v w1 hc => ?_
  obtain ⟨h1, h2, h3, h4, h5⟩ := hc.2 g0
  have e8 : w1.1 m = w.1 m := h3 _ (by omega) (by omega) (by omega)
  refine ⟨h2, (hE w1 (by rw [h2]; exact h.mw) ((congrFun e8 15).trans hum)).mono fun v' w2 he => ?_⟩
  obtain ⟨e1, f1, f2, f3, f4, f5⟩ := he.2 g0
  have F : ∀ b, b ≠ x + 3 → b ≠ x + 4 → b ≠ x + 341 → b ≠ m → b ≠ m + 1 → w2.1 b = w.1 b := fun b a1 a2 a3 a4 a5 => (f2 b a4 a5).trans (h3 b a1 a2 a3)
  have em : ∀ j, j ≠ 15 → w2.1 m j = w.1 m j := fun j hj => (f3 j hj).trans (congrFun e8 j)
  refine ⟨⟨_, _, h1, e1, fun _ => rfl⟩, zRel_S h (f1.trans h2) (fun b _ a1 a2 _ _ _ => F b a1 a2 (by omega) (by omega) (by omega)) (fun b _ => F b (by omega) (by omega) (by omega) (by omega) (by omega)) (em 31 (by decide)) ?_ ⟨u - 1, by omega, f4, ?_, fun y hy => ?_⟩ (zTT_f h.text (em 24 (by decide)) (fun b _ _ => F b (by omega) (by omega) (by omega) (by omega) (by omega)) (F _ (by omega) (by omega) (by omega) (by omega) (by omega)))⟩
  · rw [f2 (x + 3) (by omega) (by omega), f2 (x + 4) (by omega) (by omega)]
    refine zRS_c (hup (u - 1) (by omega)) h5.1 h5.2 (fun c hc9 => ?_)
    rw [f5 c hc9, h3 (m + (8 + (u - 1))) (by omega) (by omega) (by omega)]
  · rw [f2 (x + 341) (by omega) (by omega), h4]
    omega
  · rw [F (x + 341 + (2 + 2 * y)) (by omega) (by omega) (by omega) (by omega) (by omega), F (x + 341 + (3 + 2 * y)) (by omega) (by omega) (by omega) (by omega) (by omega), F (m + (8 + y)) (by omega) (by omega) (by omega) (by omega) (by omega)]
    exact hup y (by omega)
/-- two texts of the same letters -/
theorem zlt_t9 {τ t : Nat → Int} {F : Nat} (e : ∀ j, j < F → τ j = t j) : zlt τ F = zlt t F := by
  funext p
  unfold zlt
  split
  · rename_i c
    exact e p c
  · rfl
theorem zbh_t9 {τ t : Nat → Int} {F : Nat} (e : zlt τ F = zlt t F) (p : Nat) : zbh τ F p = zbh t F p := by
  unfold zbh zfn
  rw [e]
theorem znm_t9 {τ t : Nat → Int} {F : Nat} (e : zlt τ F = zlt t F) (p : Nat) : znm τ F p = znm t F p := by
  unfold znm
  rw [e]
theorem zw1_t {τ t : Nat → Int} {F : Nat} (e : zlt τ F = zlt t F) : ∀ f p k, zw1 τ F f p k = zw1 t F f p k
  | 0, _, _ => rfl
  | f + 1, p, k => by
    show (if zbh τ F p < 0 then zbh τ F p else if (F : Int) ≤ zbh τ F p then ((k + 1 : Nat) : Int) else zw1 τ F f (zbh τ F p).toNat (k + 1)) = (if zbh t F p < 0 then zbh t F p else if (F : Int) ≤ zbh t F p then ((k + 1 : Nat) : Int) else zw1 t F f (zbh t F p).toNat (k + 1))
    rw [zbh_t9 e, zw1_t e f]
theorem zw2_t {τ t : Nat → Int} {F : Nat} (e : zlt τ F = zlt t F) : ∀ f p q, zw2 τ F f p q = zw2 t F f p q
  | 0, _, _ => rfl
  | f + 1, p, q => by
    by_cases h1 : F ≤ p
    · rw [zw2_e h1, zw2_e h1]
    by_cases h2 : zbh τ F p < 0
    · rw [zw2_n h1 h2, zw2_n h1 (by rw [← zbh_t9 e]; exact h2)]
    have h2' : ¬ zbh t F p < 0 := by rw [← zbh_t9 e]; exact h2
    have ed : zdo (zlt τ F p) (zfg (zlt τ F (p + 1))) (zfg (zlt τ F (p + 2))) (znm τ F (p + 3)) q = zdo (zlt t F p) (zfg (zlt t F (p + 1))) (zfg (zlt t F (p + 2))) (znm t F (p + 3)) q := by
      rw [e, znm_t9 e]
    cases d : zdo (zlt t F p) (zfg (zlt t F (p + 1))) (zfg (zlt t F (p + 2))) (znm t F (p + 3)) q with
    | none => rw [zw2_f h1 h2 (ed.trans d), zw2_f h1 h2' d]
    | some q' =>
      obtain ⟨b, hb⟩ : ∃ b : Nat, zbh t F p = (b : Int) := ⟨(zbh t F p).toNat, by omega⟩
      rw [zw2_g h1 ((zbh_t9 e p).trans hb) (ed.trans d), zw2_g h1 hb d, zw2_t e f]
/-- the text forgotten, by both, behind work in thought -/
theorem zRel_txt {g : Prop} {x m : Nat} {w wa wb : jS} (h : zRel g x m w) (ha : cq w x wa) (hb : mq (jW wa (x + 339) 0 0) m wb) : zRel False x m (jW wb m 24 0) := by
  have xm := h.xm
  have K : ∀ b, b < m → b ≠ x + 339 → (b < x + 7 ∨ x + 339 ≤ b) → b ≠ x + 360 → b ≠ x + 361 → (jW wb m 24 0).1 b = w.1 b := fun b a0 a1 a2 a3 a4 => (jW_f (by omega)).trans ((hb.2.1 b (by omega)).trans ((jW_f a1).trans (ha.2 b a2 a3 a4)))
  have L : ∀ b, (b = m + 1 ∨ b = m + 2 ∨ b = m + 3 ∨ (m + 8 ≤ b ∧ b ≤ m + 15) ∨ b = m + 421 ∨ b = m + 423 ∨ (m + 425 ≤ b ∧ b ≤ m + 429)) → (jW wb m 24 0).1 b = w.1 b := fun b a0 => (jW_f (by omega)).trans ((hb.2.1 b (by omega)).trans ((jW_f (by omega)).trans (ha.2 b (by omega) (by omega) (by omega))))
  have em : ∀ j, j ≠ 24 → wb.1 m j = (jW wa (x + 339) 0 0).1 m j → (jW wb m 24 0).1 m j = w.1 m j := fun j a0 a1 => (if_neg (fun q => a0 q.2) : (jW wb m 24 0).1 m j = wb.1 m j).trans (a1.trans ((congrFun (jW_f (by omega)) j).trans (congrFun (ha.2 m (by omega) (by omega) (by omega)) j)))
  refine ⟨zWW_f h.ww (hb.1.trans ha.1) (fun b _ => K b (by omega) (by omega) (by omega) (by omega) (by omega)), zRR_f h.rows (congrFun (K x (by omega) (by omega) (by omega) (by omega) (by omega)) 1) (fun b _ _ _ => K b (by omega) (by omega) (by omega) (by omega) (by omega)) (fun j _ => congrFun (L (m + 2) (by omega)) j), ?_, zPP_f h.past (em 15 (by decide) hb.2.2.1) (fun b _ _ => K b (by omega) (by omega) (by omega) (by omega) (by omega)) (fun b _ _ => L b (by omega)), zII_f h.img (em 31 (by decide) hb.2.2.2.2) (congrFun (K x (by omega) (by omega) (by omega) (by omega) (by omega)) 3) (fun b _ _ _ => K b (by omega) (by omega) (by omega) (by omega) (by omega)) (fun b _ _ => K b (by omega) (by omega) (by omega) (by omega) (by omega)) (fun b _ _ => L b (by omega)), zLL_f h.lists (fun b _ _ => K b (by omega) (by omega) (by omega) (by omega) (by omega)) (L _ (by omega)) (fun b _ _ => L b (by omega)), ⟨0, by decide, if_pos ⟨rfl, rfl⟩, ?_, fun j hj => absurd hj (by omega)⟩, zNN_f h.refs (K _ (by omega) (by omega) (by omega) (by omega) (by omega)) (L _ (by omega))⟩
  · rw [K (x + 3) (by omega) (by omega) (by omega) (by omega) (by omega), K (x + 4) (by omega) (by omega) (by omega) (by omega) (by omega), L (m + 1) (by omega)]
    exact zRS_F h.seed
  · rw [show (jW wb m 24 0).1 (x + 339) = (jW wa (x + 339) 0 0).1 (x + 339) from (jW_f (by omega)).trans (hb.2.1 _ (by omega))]
    exact if_pos ⟨rfl, rfl⟩
set_option maxHeartbeats 2000000 in
theorem T_walk {g : Prop} {x m : Nat} {w : jS} (h : zRel g x m w) : jCall 108 [jO x] w (fun v w1 => w1.2 = w.2 ∧ jCall 206 [jO m] w1 (fun v' w2 => zAI True x m v v' w2)) := by
  have xm := h.xm
  obtain ⟨n, hQ, hn0, hRR⟩ := h.seed
  obtain ⟨u, hu8, hum, hux, hup⟩ := h.past
  obtain ⟨F, hF72, hFm, hFx, hL⟩ := h.text
  have eL := zlt_t9 (fun j hj => (hL j hj).1)
  have hC := C_walk (w := w) (x := x) h.cw hQ hn0 hRR hux hu8 hFx hF72 rfl (fun j hj => by rw [(hL j hj).1]; exact (hL j hj).2)
  rw [zw1_t eL, zw2_t eL] at hC
  have hE := fun (w1 : jS) (hm : MW w1.2 m) (e : w1.1 (m + 1) = w.1 (m + 1)) (e2 : w1.1 m = w.1 m) (e3 : w1.1 (m + 421) = w.1 (m + 421)) => E_walk (w := w1) (m := m) (n := n) hm (by rw [e]; exact hQ) (by rw [e2]; exact hum) hu8 (by rw [e2]; exact hFm) hF72 e3 (fun j hj => (hL j hj).2)
  refine hC.mono fun v w1 hc => ?_
  by_cases g0 : zw1 (w.1 (m + 421)) F 73 0 0 < 0
  · obtain ⟨h1, wa, ha, rfl⟩ := hc.1 g0
    have hb : ∀ b, m ≤ b → (jW wa (x + 339) 0 0).1 b = w.1 b := fun b a0 => (jW_f (by omega)).trans (ha.2 b (by omega) (by omega) (by omega))
    refine ⟨ha.1, (hE _ (by rw [show (jW wa (x + 339) 0 0).2 = w.2 from ha.1]; exact h.mw) (hb _ (by omega)) (hb _ (by omega)) (hb _ (by omega))).mono fun v' w2 he => ?_⟩
    obtain ⟨e1, wb, hq, rfl⟩ := he.1 g0
    exact ⟨⟨_, _, h1, e1, fun _ => rfl⟩, zRel_txt h ha hq⟩
  have hc := hc.2 (by omega)
  cases hz : zw2 (w.1 (m + 421)) F 73 0 (w.1 (m + 1)) with
  | inr b9 =>
    obtain ⟨h1, wa, ha, rfl⟩ := hc.1 b9 hz
    have hb : ∀ b, m ≤ b → (jW wa (x + 339) 0 0).1 b = w.1 b := fun b a0 => (jW_f (by omega)).trans (ha.2 b (by omega) (by omega) (by omega))
    refine ⟨ha.1, (hE _ (by rw [show (jW wa (x + 339) 0 0).2 = w.2 from ha.1]; exact h.mw) (hb _ (by omega)) (hb _ (by omega)) (hb _ (by omega))).mono fun v' w2 he => ?_⟩
    rw [hb (m + 1) (by omega)] at he
    obtain ⟨e1, wb, hq, rfl⟩ := (he.2 (by omega)).1 b9 hz
    exact ⟨⟨_, _, h1, e1, fun _ => rfl⟩, zRel_txt h ha hq⟩
  | inl q9 =>
    obtain ⟨h1, h2, h3, h4, ⟨n', hQ', h5, h6⟩, h7⟩ := hc.2 q9 hz
    have hb : ∀ b, m ≤ b → w1.1 b = w.1 b := fun b a0 => h3 b (by omega) (by omega) (by omega) (by omega) (by omega)
    refine ⟨h2, (hE _ (by rw [h2]; exact h.mw) (hb _ (by omega)) (hb _ (by omega)) (hb _ (by omega))).mono fun v' w2 he => ?_⟩
    rw [hb (m + 1) (by omega)] at he
    obtain ⟨e1, f1, f2, f3, f4, f5, f6⟩ := (he.2 (by omega)).2 q9 hz
    have FF : ∀ b, b < m → w2.1 b = w1.1 b := fun b a0 => f4 b (by omega)
    refine ⟨⟨_, _, h1, e1, fun _ => rfl⟩, zRel_S h (f3.trans h2) (fun b a0 a1 a2 a3 a4 a5 => (FF b a0).trans (h3 b a1 a2 a3 (by omega) a5)) (fun b a0 => (f4 b (by omega)).trans (hb b (by omega))) (f6.trans (congrFun (hb m (by omega)) 31)) ⟨n', zQ_c f1 hQ', ?_, cR_c f1 ?_⟩ (zPP_p xm hu8 hup (zRS_F h.seed) h7 (fun b a0 => h3 b (by omega) (by omega) (by omega) (by omega) (by omega)) (by rw [hb (m + 1) (by omega)]; exact f2) (fun b _ _ => FF b (by omega))) ⟨0, by decide, f5, ?_, fun j hj => absurd hj (by omega)⟩⟩
    · rw [FF (x + 3) (by omega)]
      exact h5
    · rw [FF (x + 4) (by omega)]
      exact h6
    · rw [FF (x + 339) (by omega)]
      exact h4
set_option maxHeartbeats 2000000 in
theorem T_letter {g : Prop} {x m : Nat} {w : jS} (h : zRel g x m w) {c : Int} (hrc : r32 c) : jCall 109 [jO x, jI c] w (fun v w1 => w1.2 = w.2 ∧ jCall 197 [jO m, jI c] w1 (fun v' w2 => zAI True x m v v' w2)) := by
  have xm := h.xm
  obtain ⟨F, hF72, hFm, hFx, hL⟩ := h.text
  have hC := C_letter (w := w) (x := x) h.cw hFx hF72 hrc
  have hE := fun (w1 : jS) (hm : MW w1.2 m) (e2 : w1.1 m = w.1 m) => E_letter (w := w1) (m := m) hm (by rw [e2]; exact hFm) hF72 hrc
  by_cases g0 : c < 0
  · exact L_no h (show 3 < 6 by decide) (hC.mono fun v w1 hc => cno_q (hc.1 g0)) (fun w1 hq => (hE w1 (zmb h hq) (zcb h hq (Nat.le_refl m))).mono fun v' w2 he => jno_q (he.1 g0))
  by_cases g1 : 255 < c ∨ F = 72
  · exact L_no h (show 5 < 6 by decide) (hC.mono fun v w1 hc => cno_q (hc.2.1 g0 g1)) (fun w1 hq => (hE w1 (zmb h hq) (zcb h hq (Nat.le_refl m))).mono fun v' w2 he => jno_q (he.2.1 g0 g1))
  refine hC.mono fun v w1 hc => ?_
  obtain ⟨h1, rfl⟩ := hc.2.2 g0 g1
  have hb : ∀ b, b ≠ x + 339 → b ≠ x + 340 → (jW (jW w (x + 340) F c) (x + 339) 0 ((F : Int) + 1)).1 b = w.1 b := fun b a0 a1 => (jW_f a0).trans (jW_f a1)
  refine ⟨rfl, (hE (jW (jW w (x + 340) F c) (x + 339) 0 ((F : Int) + 1)) h.mw (hb m (by omega) (by omega))).mono fun v' w2 he => ?_⟩
  obtain ⟨e1, rfl⟩ := he.2.2 g0 g1
  have K : ∀ b, b ≠ x + 339 → b ≠ x + 340 → b ≠ m → b ≠ m + 421 → (jW (jW (jW (jW w (x + 340) F c) (x + 339) 0 ((F : Int) + 1)) (m + 421) F c) m 24 ((F : Int) + 1)).1 b = w.1 b := fun b a0 a1 a2 a3 => (jW_f a2).trans ((jW_f a3).trans (hb b a0 a1))
  have em : ∀ j, j ≠ 24 → (jW (jW (jW (jW w (x + 340) F c) (x + 339) 0 ((F : Int) + 1)) (m + 421) F c) m 24 ((F : Int) + 1)).1 m j = w.1 m j := fun j a0 => (if_neg (fun q => a0 q.2) : _ = (jW (jW (jW w (x + 340) F c) (x + 339) 0 ((F : Int) + 1)) (m + 421) F c).1 m j).trans (congrFun ((jW_f (by omega)).trans (hb m (by omega) (by omega))) j)
  have s340 : ∀ j, (jW (jW (jW (jW w (x + 340) F c) (x + 339) 0 ((F : Int) + 1)) (m + 421) F c) m 24 ((F : Int) + 1)).1 (x + 340) j = if j = F then c else w.1 (x + 340) j := fun j => by
    refine (congrFun ((jW_f (by omega)).trans ((jW_f (by omega)).trans (jW_f (by omega)))) j).trans ?_
    show (if x + 340 = x + 340 ∧ j = F then c else w.1 (x + 340) j) = _
    by_cases e : j = F
    · rw [if_pos ⟨rfl, e⟩, if_pos e]
    · rw [if_neg (fun q => e q.2), if_neg e]
  have s421 : ∀ j, (jW (jW (jW (jW w (x + 340) F c) (x + 339) 0 ((F : Int) + 1)) (m + 421) F c) m 24 ((F : Int) + 1)).1 (m + 421) j = if j = F then c else w.1 (m + 421) j := fun j => by
    refine (congrFun (jW_f (by omega)) j).trans ?_
    show (if m + 421 = m + 421 ∧ j = F then c else (jW (jW w (x + 340) F c) (x + 339) 0 ((F : Int) + 1)).1 (m + 421) j) = _
    rw [hb (m + 421) (by omega) (by omega)]
    by_cases e : j = F
    · rw [if_pos ⟨rfl, e⟩, if_pos e]
    · rw [if_neg (fun q => e q.2), if_neg e]
  refine ⟨⟨_, _, h1, e1, fun _ => rfl⟩, zWW_f h.ww rfl (fun b _ => K b (by omega) (by omega) (by omega) (by omega)), zRR_f h.rows (congrFun (K x (by omega) (by omega) (by omega) (by omega)) 1) (fun b _ _ _ => K b (by omega) (by omega) (by omega) (by omega)) (fun j _ => congrFun (K (m + 2) (by omega) (by omega) (by omega) (by omega)) j), ?_, zPP_f h.past (em 15 (by decide)) (fun b _ _ => K b (by omega) (by omega) (by omega) (by omega)) (fun b _ _ => K b (by omega) (by omega) (by omega) (by omega)), zII_f h.img (em 31 (by decide)) (congrFun (K x (by omega) (by omega) (by omega) (by omega)) 3) (fun b _ _ _ => K b (by omega) (by omega) (by omega) (by omega)) (fun b _ _ => K b (by omega) (by omega) (by omega) (by omega)) (fun b _ _ => K b (by omega) (by omega) (by omega) (by omega)), zLL_f h.lists (fun b _ _ => K b (by omega) (by omega) (by omega) (by omega)) (K _ (by omega) (by omega) (by omega) (by omega)) (fun b _ _ => K b (by omega) (by omega) (by omega) (by omega)), ⟨F + 1, by omega, if_pos ⟨rfl, rfl⟩, ?_, fun j hj => ?_⟩, zNN_f h.refs (K _ (by omega) (by omega) (by omega) (by omega)) (K _ (by omega) (by omega) (by omega) (by omega))⟩
  · rw [K (x + 3) (by omega) (by omega) (by omega) (by omega), K (x + 4) (by omega) (by omega) (by omega) (by omega), K (m + 1) (by omega) (by omega) (by omega) (by omega)]
    exact zRS_F h.seed
  · refine (congrFun ((jW_f (by omega)).trans (jW_f (by omega))) 0).trans ?_
    exact if_pos ⟨rfl, rfl⟩
  · rw [s340, s421]
    by_cases e : j = F
    · rw [if_pos e, if_pos e]
      exact ⟨rfl, by omega, by omega⟩
    · rw [if_neg e, if_neg e]
      exact hL j (by omega)
