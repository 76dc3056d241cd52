/-- a reference told -/
def jPq (w : jS) (a k v : Nat) : jS := (w.1, w.2.1, jupr w.2.2.1 a k (some v), w.2.2.2)
theorem jPq_s {w : jS} {a k v : Nat} : (jPq w a k v).2.2.1 a k = some v := if_pos ⟨rfl, rfl⟩
theorem jPq_n {w : jS} {a k v b j : Nat} (h : b ≠ a ∨ j ≠ k) : (jPq w a k v).2.2.1 b j = w.2.2.1 b j := if_neg (fun g => by omega)
theorem jN_k {w : jS} {t n a : Nat} (h : a ≠ w.2.2.2.1) : (jnewo w t n).2.1 a = w.2.1 a := if_neg h
theorem jN_s {w : jS} {t n : Nat} : (jnewo w t n).2.1 w.2.2.2.1 = (t, n) := if_pos rfl
theorem jN_r {w : jS} {t n a j : Nat} (h : a ≠ w.2.2.2.1) : (jnewo w t n).2.2.1 a j = w.2.2.1 a j := if_neg h
theorem jN_m {w : jS} {t n a j : Nat} (h : a ≠ w.2.2.2.1) : (jnewo w t n).1 a j = w.1 a j := if_neg h
theorem jN_z {w : jS} {t n j : Nat} : (jnewo w t n).1 w.2.2.2.1 j = 0 := if_pos rfl
/-- so many objects and arrays more; of what stood only s has changed -/
def ini (w : jS) (s k : Nat) (w1 : jS) : Prop := w1.2.2.2.1 = w.2.2.2.1 + k ∧ w1.2.2.2.2 = w.2.2.2.2 ∧ (∀ a, a < w.2.2.2.1 → w1.2.1 a = w.2.1 a) ∧ ∀ a, a < w.2.2.2.1 → a ≠ s → w1.2.2.1 a = w.2.2.1 a ∧ w1.1 a = w.1 a
theorem ini_0 {w : jS} {s : Nat} : ini w s 0 w := ⟨rfl, rfl, fun _ _ => rfl, fun _ _ _ => ⟨rfl, rfl⟩⟩
theorem ini_t {w w1 w2 : jS} {s s' k k' : Nat} (h : ini w s k w1) (g : ini w1 s' k' w2) (hs : s' = s ∨ w.2.2.2.1 ≤ s') : ini w s (k + k') w2 :=
  ⟨by rw [g.1, h.1]; omega, g.2.1.trans h.2.1, fun a ha => (g.2.2.1 a (by have := h.1; omega)).trans (h.2.2.1 a ha), fun a ha hn => ⟨(g.2.2.2 a (by have := h.1; omega) (by omega)).1.trans (h.2.2.2 a ha hn).1, (g.2.2.2 a (by have := h.1; omega) (by omega)).2.trans (h.2.2.2 a ha hn).2⟩⟩
theorem ini_N {w : jS} {s t n : Nat} : ini w s 1 (jnewo w t n) := ⟨rfl, rfl, fun a ha => jN_k (by omega), fun a ha _ => ⟨funext fun j => jN_r (by omega), funext fun j => jN_m (by omega)⟩⟩
theorem ini_W {w : jS} {s k : Nat} {x : Int} : ini w s 0 (jW w s k x) := ⟨rfl, rfl, fun _ _ => rfl, fun a _ h => ⟨rfl, jW_f h⟩⟩
theorem ini_P {w : jS} {s k v : Nat} : ini w s 0 (jPq w s k v) := ⟨rfl, rfl, fun _ _ => rfl, fun a _ h => ⟨funext fun j => jPq_n (Or.inl h), rfl⟩⟩
set_option maxHeartbeats 4000000 in
set_option maxRecDepth 20000 in
theorem I_frac {M0 : Nat → Nat → Int} {K0 : Nat → Nat × Nat} {R0 : Nat → Nat → Option Nat} {nx ao : Nat} {s : Nat} (hk : K0 s = (2, 0)) (hs : s < nx) : jCall 3 [jO s] (M0, K0, R0, nx, ao) (fun v w1 => v = none ∧ ini (M0, K0, R0, nx, ao) s 0 w1 ∧ w1.1 s 0 = 0 ∧ w1.1 s 1 = 1) := by
  have mt : jtb 3 = jT3 := rfl
  show jWp 3 0 [some (jO s)] [] 0 0 (M0, K0, R0, nx, ao) _
  refine jWp.blk mt 1 ?_
  show _ ∧ jWp 3 1 [some (jO s)] [jO s] 0 0 (M0, K0, R0, nx, ao) _
  refine ⟨rfl, ?_⟩
  refine jWp.one mt rfl rfl ⟨rfl, by decide⟩ ?_
  show jWp 3 4 [some (jO s)] [] 0 0 (M0, K0, R0, nx, ao) _
  refine jWp.blk mt 2 ?_
  show _ ∧ jWp 3 6 [some (jO s)] [jJ 0, jO s] 0 0 (M0, K0, R0, nx, ao) _
  refine ⟨rfl, ?_⟩
  refine jWp.putJ (pc' := 9) mt rfl rfl (jtg hk) ?_
  show jWp 3 9 [some (jO s)] [] 0 0 (jW (M0, K0, R0, nx, ao) s 0 0) _
  refine jWp.blk mt 2 ?_
  show _ ∧ jWp 3 11 [some (jO s)] [jJ 1, jO s] 0 0 (jW (M0, K0, R0, nx, ao) s 0 0) _
  refine ⟨rfl, ?_⟩
  refine jWp.putJ (pc' := 14) mt rfl rfl (jtg hk) ?_
  show jWp 3 14 [some (jO s)] [] 0 0 (jW (jW (M0, K0, R0, nx, ao) s 0 0) s 1 1) _
  refine jWp.vret mt rfl ⟨rfl, rfl⟩ rfl ?_
  exact ⟨rfl, (ini_t (ini_t ini_0 ini_W (Or.inl rfl)) ini_W (Or.inl rfl)), ((jW_k (w := (jW (M0, K0, R0, nx, ao) s 0 0)) (a := s) (k := 1) (x := 1) (by decide)).trans (jW_s (w := (M0, K0, R0, nx, ao)) (a := s) (k := 0) (x := 0))), (jW_s (w := (jW (M0, K0, R0, nx, ao) s 0 0)) (a := s) (k := 1) (x := 1))⟩
theorem I_frac_w {w : jS} {s : Nat} (hk : w.2.1 s = (2, 0)) (hs : s < w.2.2.2.1) : jCall 3 [jO s] w (fun v w1 => v = none ∧ ini w s 0 w1 ∧ w1.1 s 0 = 0 ∧ w1.1 s 1 = 1) := I_frac (M0 := w.1) (K0 := w.2.1) (R0 := w.2.2.1) (nx := w.2.2.2.1) (ao := w.2.2.2.2) hk hs
set_option maxHeartbeats 4000000 in
set_option maxRecDepth 20000 in
theorem I_tale {M0 : Nat → Nat → Int} {K0 : Nat → Nat × Nat} {R0 : Nat → Nat → Option Nat} {nx ao : Nat} {s : Nat} (hk : K0 s = (7, 0)) (hs : s < nx) : jCall 69 [jO s] (M0, K0, R0, nx, ao) (fun v w1 => v = none ∧ ini (M0, K0, R0, nx, ao) s 1 w1 ∧ w1.2.1 nx = (100, 40) ∧ w1.2.2.1 s 1 = some nx ∧ w1.1 s 0 = -1 ∧ ∀ j, w1.1 nx j = 0) := by
  have mt : jtb 69 = jT69 := rfl
  show jWp 69 0 [some (jO s)] [] 0 0 (M0, K0, R0, nx, ao) _
  refine jWp.blk mt 1 ?_
  show _ ∧ jWp 69 1 [some (jO s)] [jO s] 0 0 (M0, K0, R0, nx, ao) _
  refine ⟨rfl, ?_⟩
  refine jWp.one mt rfl rfl ⟨rfl, by decide⟩ ?_
  show jWp 69 4 [some (jO s)] [] 0 0 (M0, K0, R0, nx, ao) _
  refine jWp.blk mt 2 ?_
  show _ ∧ jWp 69 6 [some (jO s)] [jI (-1), jO s] 0 0 (M0, K0, R0, nx, ao) _
  refine ⟨rfl, ?_⟩
  refine jWp.putI (pc' := 9) mt rfl rfl (jtg hk) ?_
  show jWp 69 9 [some (jO s)] [] 0 0 (jW (M0, K0, R0, nx, ao) s 0 (-1)) _
  refine jWp.blk mt 2 ?_
  show _ ∧ jWp 69 12 [some (jO s)] [jI 40, jO s] 0 0 (jW (M0, K0, R0, nx, ao) s 0 (-1)) _
  refine ⟨rfl, ?_⟩
  refine jWp.newa (pc' := 14) (jn := 40) mt rfl rfl (by decide) rfl ?_
  show jWp 69 14 [some (jO s)] [jO nx, jO s] 1 40 (jnewo (jW (M0, K0, R0, nx, ao) s 0 (-1)) 100 40) _
  refine jWp.one mt rfl rfl (show _ ∧ _ from ⟨jtg ((jN_k (w := (jW (M0, K0, R0, nx, ao) s 0 (-1))) (t := 100) (n := 40) (show s ≠ nx by omega)).trans hk), rfl, rfl⟩) ?_
  show jWp 69 17 [some (jO s)] [] 1 40 (jPq (jnewo (jW (M0, K0, R0, nx, ao) s 0 (-1)) 100 40) s 1 nx) _
  refine jWp.vret mt rfl ⟨rfl, rfl⟩ rfl ?_
  exact ⟨rfl, (ini_t (ini_t (ini_t ini_0 ini_W (Or.inl rfl)) ini_N (Or.inl rfl)) ini_P (Or.inl rfl)), (jN_s (w := (jW (M0, K0, R0, nx, ao) s 0 (-1))) (t := 100) (n := 40)), (jPq_s (w := (jnewo (jW (M0, K0, R0, nx, ao) s 0 (-1)) 100 40)) (a := s) (k := 1) (v := nx)), ((jN_m (w := (jW (M0, K0, R0, nx, ao) s 0 (-1))) (t := 100) (n := 40) (a := s) (j := 0) (show s ≠ nx by omega)).trans (jW_s (w := (M0, K0, R0, nx, ao)) (a := s) (k := 0) (x := (-1)))), (fun j => (jN_z (w := (jW (M0, K0, R0, nx, ao) s 0 (-1))) (t := 100) (n := 40) (j := j)))⟩
theorem I_tale_w {w : jS} {s : Nat} (hk : w.2.1 s = (7, 0)) (hs : s < w.2.2.2.1) : jCall 69 [jO s] w (fun v w1 => v = none ∧ ini w s 1 w1 ∧ w1.2.1 w.2.2.2.1 = (100, 40) ∧ w1.2.2.1 s 1 = some w.2.2.2.1 ∧ w1.1 s 0 = -1 ∧ ∀ j, w1.1 w.2.2.2.1 j = 0) := I_tale (M0 := w.1) (K0 := w.2.1) (R0 := w.2.2.1) (nx := w.2.2.2.1) (ao := w.2.2.2.2) hk hs
set_option maxHeartbeats 4000000 in
set_option maxRecDepth 20000 in
theorem I_text {M0 : Nat → Nat → Int} {K0 : Nat → Nat × Nat} {R0 : Nat → Nat → Option Nat} {nx ao : Nat} {s : Nat} (hk : K0 s = (8, 0)) (hs : s < nx) : jCall 79 [jO s] (M0, K0, R0, nx, ao) (fun v w1 => v = none ∧ ini (M0, K0, R0, nx, ao) s 1 w1 ∧ w1.2.1 nx = (100, 72) ∧ w1.2.2.1 s 1 = some nx ∧ w1.1 s 0 = 0) := by
  have mt : jtb 79 = jT79 := rfl
  show jWp 79 0 [some (jO s)] [] 0 0 (M0, K0, R0, nx, ao) _
  refine jWp.blk mt 1 ?_
  show _ ∧ jWp 79 1 [some (jO s)] [jO s] 0 0 (M0, K0, R0, nx, ao) _
  refine ⟨rfl, ?_⟩
  refine jWp.one mt rfl rfl ⟨rfl, by decide⟩ ?_
  show jWp 79 4 [some (jO s)] [] 0 0 (M0, K0, R0, nx, ao) _
  refine jWp.blk mt 2 ?_
  show _ ∧ jWp 79 6 [some (jO s)] [jI 0, jO s] 0 0 (M0, K0, R0, nx, ao) _
  refine ⟨rfl, ?_⟩
  refine jWp.putI (pc' := 9) mt rfl rfl (jtg hk) ?_
  show jWp 79 9 [some (jO s)] [] 0 0 (jW (M0, K0, R0, nx, ao) s 0 0) _
  refine jWp.blk mt 2 ?_
  show _ ∧ jWp 79 12 [some (jO s)] [jI 72, jO s] 0 0 (jW (M0, K0, R0, nx, ao) s 0 0) _
  refine ⟨rfl, ?_⟩
  refine jWp.newa (pc' := 14) (jn := 72) mt rfl rfl (by decide) rfl ?_
  show jWp 79 14 [some (jO s)] [jO nx, jO s] 1 72 (jnewo (jW (M0, K0, R0, nx, ao) s 0 0) 100 72) _
  refine jWp.one mt rfl rfl (show _ ∧ _ from ⟨jtg ((jN_k (w := (jW (M0, K0, R0, nx, ao) s 0 0)) (t := 100) (n := 72) (show s ≠ nx by omega)).trans hk), rfl, rfl⟩) ?_
  show jWp 79 17 [some (jO s)] [] 1 72 (jPq (jnewo (jW (M0, K0, R0, nx, ao) s 0 0) 100 72) s 1 nx) _
  refine jWp.vret mt rfl ⟨rfl, rfl⟩ rfl ?_
  exact ⟨rfl, (ini_t (ini_t (ini_t ini_0 ini_W (Or.inl rfl)) ini_N (Or.inl rfl)) ini_P (Or.inl rfl)), (jN_s (w := (jW (M0, K0, R0, nx, ao) s 0 0)) (t := 100) (n := 72)), (jPq_s (w := (jnewo (jW (M0, K0, R0, nx, ao) s 0 0) 100 72)) (a := s) (k := 1) (v := nx)), ((jN_m (w := (jW (M0, K0, R0, nx, ao) s 0 0)) (t := 100) (n := 72) (a := s) (j := 0) (show s ≠ nx by omega)).trans (jW_s (w := (M0, K0, R0, nx, ao)) (a := s) (k := 0) (x := 0)))⟩
theorem I_text_w {w : jS} {s : Nat} (hk : w.2.1 s = (8, 0)) (hs : s < w.2.2.2.1) : jCall 79 [jO s] w (fun v w1 => v = none ∧ ini w s 1 w1 ∧ w1.2.1 w.2.2.2.1 = (100, 72) ∧ w1.2.2.1 s 1 = some w.2.2.2.1 ∧ w1.1 s 0 = 0) := I_text (M0 := w.1) (K0 := w.2.1) (R0 := w.2.2.1) (nx := w.2.2.2.1) (ao := w.2.2.2.2) hk hs
set_option maxHeartbeats 4000000 in
set_option maxRecDepth 20000 in
theorem I_row {M0 : Nat → Nat → Int} {K0 : Nat → Nat × Nat} {R0 : Nat → Nat → Option Nat} {nx ao : Nat} {s : Nat} (hk : K0 s = (4, 0)) (hs : s < nx) : jCall 15 [jO s] (M0, K0, R0, nx, ao) (fun v w1 => v = none ∧ ini (M0, K0, R0, nx, ao) s 2 w1 ∧ w1.2.1 nx = (100, 8) ∧ w1.2.1 (nx + 1) = (100, 60) ∧ w1.2.2.1 s 5 = some nx ∧ w1.2.2.1 s 6 = some (nx + 1)) := by
  have mt : jtb 15 = jT15 := rfl
  show jWp 15 0 [some (jO s)] [] 0 0 (M0, K0, R0, nx, ao) _
  refine jWp.blk mt 1 ?_
  show _ ∧ jWp 15 1 [some (jO s)] [jO s] 0 0 (M0, K0, R0, nx, ao) _
  refine ⟨rfl, ?_⟩
  refine jWp.one mt rfl rfl ⟨rfl, by decide⟩ ?_
  show jWp 15 4 [some (jO s)] [] 0 0 (M0, K0, R0, nx, ao) _
  refine jWp.blk mt 2 ?_
  show _ ∧ jWp 15 6 [some (jO s)] [jI 0, jO s] 0 0 (M0, K0, R0, nx, ao) _
  refine ⟨rfl, ?_⟩
  refine jWp.putI (pc' := 9) mt rfl rfl (jtg hk) ?_
  show jWp 15 9 [some (jO s)] [] 0 0 (jW (M0, K0, R0, nx, ao) s 0 0) _
  refine jWp.blk mt 2 ?_
  show _ ∧ jWp 15 11 [some (jO s)] [jI 0, jO s] 0 0 (jW (M0, K0, R0, nx, ao) s 0 0) _
  refine ⟨rfl, ?_⟩
  refine jWp.putI (pc' := 14) mt rfl rfl (jtg hk) ?_
  show jWp 15 14 [some (jO s)] [] 0 0 (jW (jW (M0, K0, R0, nx, ao) s 0 0) s 1 0) _
  refine jWp.blk mt 2 ?_
  show _ ∧ jWp 15 16 [some (jO s)] [jI 0, jO s] 0 0 (jW (jW (M0, K0, R0, nx, ao) s 0 0) s 1 0) _
  refine ⟨rfl, ?_⟩
  refine jWp.putI (pc' := 19) mt rfl rfl (jtg hk) ?_
  show jWp 15 19 [some (jO s)] [] 0 0 (jW (jW (jW (M0, K0, R0, nx, ao) s 0 0) s 1 0) s 2 0) _
  refine jWp.blk mt 2 ?_
  show _ ∧ jWp 15 21 [some (jO s)] [jI 0, jO s] 0 0 (jW (jW (jW (M0, K0, R0, nx, ao) s 0 0) s 1 0) s 2 0) _
  refine ⟨rfl, ?_⟩
  refine jWp.putI (pc' := 24) mt rfl rfl (jtg hk) ?_
  show jWp 15 24 [some (jO s)] [] 0 0 (jW (jW (jW (jW (M0, K0, R0, nx, ao) s 0 0) s 1 0) s 2 0) s 3 0) _
  refine jWp.blk mt 2 ?_
  show _ ∧ jWp 15 26 [some (jO s)] [jI 0, jO s] 0 0 (jW (jW (jW (jW (M0, K0, R0, nx, ao) s 0 0) s 1 0) s 2 0) s 3 0) _
  refine ⟨rfl, ?_⟩
  refine jWp.putI (pc' := 29) mt rfl rfl (jtg hk) ?_
  show jWp 15 29 [some (jO s)] [] 0 0 (jW (jW (jW (jW (jW (M0, K0, R0, nx, ao) s 0 0) s 1 0) s 2 0) s 3 0) s 4 0) _
  refine jWp.blk mt 2 ?_
  show _ ∧ jWp 15 32 [some (jO s)] [jI 8, jO s] 0 0 (jW (jW (jW (jW (jW (M0, K0, R0, nx, ao) s 0 0) s 1 0) s 2 0) s 3 0) s 4 0) _
  refine ⟨rfl, ?_⟩
  refine jWp.newa (pc' := 34) (jn := 8) mt rfl rfl (by decide) rfl ?_
  show jWp 15 34 [some (jO s)] [jO nx, jO s] 1 8 (jnewo (jW (jW (jW (jW (jW (M0, K0, R0, nx, ao) s 0 0) s 1 0) s 2 0) s 3 0) s 4 0) 100 8) _
  refine jWp.one mt rfl rfl (show _ ∧ _ from ⟨jtg ((jN_k (w := (jW (jW (jW (jW (jW (M0, K0, R0, nx, ao) s 0 0) s 1 0) s 2 0) s 3 0) s 4 0)) (t := 100) (n := 8) (show s ≠ nx by omega)).trans hk), rfl, rfl⟩) ?_
  show jWp 15 37 [some (jO s)] [] 1 8 (jPq (jnewo (jW (jW (jW (jW (jW (M0, K0, R0, nx, ao) s 0 0) s 1 0) s 2 0) s 3 0) s 4 0) 100 8) s 5 nx) _
  refine jWp.blk mt 2 ?_
  show _ ∧ jWp 15 40 [some (jO s)] [jI 60, jO s] 1 8 (jPq (jnewo (jW (jW (jW (jW (jW (M0, K0, R0, nx, ao) s 0 0) s 1 0) s 2 0) s 3 0) s 4 0) 100 8) s 5 nx) _
  refine ⟨rfl, ?_⟩
  refine jWp.newa (pc' := 42) (jn := 60) mt rfl rfl (by decide) rfl ?_
  show jWp 15 42 [some (jO s)] [jO (nx + 1), jO s] 2 68 (jnewo (jPq (jnewo (jW (jW (jW (jW (jW (M0, K0, R0, nx, ao) s 0 0) s 1 0) s 2 0) s 3 0) s 4 0) 100 8) s 5 nx) 100 60) _
  refine jWp.one mt rfl rfl (show _ ∧ _ from ⟨jtg ((jN_k (w := (jPq (jnewo (jW (jW (jW (jW (jW (M0, K0, R0, nx, ao) s 0 0) s 1 0) s 2 0) s 3 0) s 4 0) 100 8) s 5 nx)) (t := 100) (n := 60) (show s ≠ (nx + 1) by omega)).trans ((jN_k (w := (jW (jW (jW (jW (jW (M0, K0, R0, nx, ao) s 0 0) s 1 0) s 2 0) s 3 0) s 4 0)) (t := 100) (n := 8) (show s ≠ nx by omega)).trans hk)), rfl, rfl⟩) ?_
  show jWp 15 45 [some (jO s)] [] 2 68 (jPq (jnewo (jPq (jnewo (jW (jW (jW (jW (jW (M0, K0, R0, nx, ao) s 0 0) s 1 0) s 2 0) s 3 0) s 4 0) 100 8) s 5 nx) 100 60) s 6 (nx + 1)) _
  refine jWp.vret mt rfl ⟨rfl, rfl⟩ rfl ?_
  exact ⟨rfl, (ini_t (ini_t (ini_t (ini_t (ini_t (ini_t (ini_t (ini_t (ini_t ini_0 ini_W (Or.inl rfl)) ini_W (Or.inl rfl)) ini_W (Or.inl rfl)) ini_W (Or.inl rfl)) ini_W (Or.inl rfl)) ini_N (Or.inl rfl)) ini_P (Or.inl rfl)) ini_N (Or.inl rfl)) ini_P (Or.inl rfl)), ((jN_k (w := (jPq (jnewo (jW (jW (jW (jW (jW (M0, K0, R0, nx, ao) s 0 0) s 1 0) s 2 0) s 3 0) s 4 0) 100 8) s 5 nx)) (t := 100) (n := 60) (show nx ≠ (nx + 1) by omega)).trans (jN_s (w := (jW (jW (jW (jW (jW (M0, K0, R0, nx, ao) s 0 0) s 1 0) s 2 0) s 3 0) s 4 0)) (t := 100) (n := 8))), (jN_s (w := (jPq (jnewo (jW (jW (jW (jW (jW (M0, K0, R0, nx, ao) s 0 0) s 1 0) s 2 0) s 3 0) s 4 0) 100 8) s 5 nx)) (t := 100) (n := 60)), ((jPq_n (w := (jnewo (jPq (jnewo (jW (jW (jW (jW (jW (M0, K0, R0, nx, ao) s 0 0) s 1 0) s 2 0) s 3 0) s 4 0) 100 8) s 5 nx) 100 60)) (a := s) (k := 6) (v := (nx + 1)) (b := s) (j := 5) (Or.inr (by omega))).trans ((jN_r (w := (jPq (jnewo (jW (jW (jW (jW (jW (M0, K0, R0, nx, ao) s 0 0) s 1 0) s 2 0) s 3 0) s 4 0) 100 8) s 5 nx)) (t := 100) (n := 60) (a := s) (j := 5) (show s ≠ (nx + 1) by omega)).trans (jPq_s (w := (jnewo (jW (jW (jW (jW (jW (M0, K0, R0, nx, ao) s 0 0) s 1 0) s 2 0) s 3 0) s 4 0) 100 8)) (a := s) (k := 5) (v := nx)))), (jPq_s (w := (jnewo (jPq (jnewo (jW (jW (jW (jW (jW (M0, K0, R0, nx, ao) s 0 0) s 1 0) s 2 0) s 3 0) s 4 0) 100 8) s 5 nx) 100 60)) (a := s) (k := 6) (v := (nx + 1)))⟩
theorem I_row_w {w : jS} {s : Nat} (hk : w.2.1 s = (4, 0)) (hs : s < w.2.2.2.1) : jCall 15 [jO s] w (fun v w1 => v = none ∧ ini w s 2 w1 ∧ w1.2.1 w.2.2.2.1 = (100, 8) ∧ w1.2.1 (w.2.2.2.1 + 1) = (100, 60) ∧ w1.2.2.1 s 5 = some w.2.2.2.1 ∧ w1.2.2.1 s 6 = some (w.2.2.2.1 + 1)) := I_row (M0 := w.1) (K0 := w.2.1) (R0 := w.2.2.1) (nx := w.2.2.2.1) (ao := w.2.2.2.2) hk hs
set_option maxHeartbeats 4000000 in
set_option maxRecDepth 20000 in
theorem I_seed {M0 : Nat → Nat → Int} {K0 : Nat → Nat × Nat} {R0 : Nat → Nat → Option Nat} {nx ao : Nat} {s : Nat} (hk : K0 s = (6, 0)) (hs : s < nx) : jCall 41 [jO s] (M0, K0, R0, nx, ao) (fun v w1 => v = none ∧ ini (M0, K0, R0, nx, ao) s 1 w1 ∧ w1.2.1 nx = (100, 44) ∧ w1.2.2.1 s 1 = some nx ∧ w1.1 s 0 = 2 ∧ ∀ g, cR g (w1.1 nx) (zNw 2) 2) := by
  have mt : jtb 41 = jT41 := rfl
  show jWp 41 0 [some (jO s)] [] 0 0 (M0, K0, R0, nx, ao) _
  refine jWp.blk mt 1 ?_
  show _ ∧ jWp 41 1 [some (jO s)] [jO s] 0 0 (M0, K0, R0, nx, ao) _
  refine ⟨rfl, ?_⟩
  refine jWp.one mt rfl rfl ⟨rfl, by decide⟩ ?_
  show jWp 41 4 [some (jO s)] [] 0 0 (M0, K0, R0, nx, ao) _
  refine jWp.blk mt 2 ?_
  show _ ∧ jWp 41 6 [some (jO s)] [jI 2, jO s] 0 0 (M0, K0, R0, nx, ao) _
  refine ⟨rfl, ?_⟩
  refine jWp.putI (pc' := 9) mt rfl rfl (jtg hk) ?_
  show jWp 41 9 [some (jO s)] [] 0 0 (jW (M0, K0, R0, nx, ao) s 0 2) _
  refine jWp.blk mt 2 ?_
  show _ ∧ jWp 41 12 [some (jO s)] [jI 44, jO s] 0 0 (jW (M0, K0, R0, nx, ao) s 0 2) _
  refine ⟨rfl, ?_⟩
  refine jWp.newa (pc' := 14) (jn := 44) mt rfl rfl (by decide) rfl ?_
  show jWp 41 14 [some (jO s)] [jO nx, jO s] 1 44 (jnewo (jW (M0, K0, R0, nx, ao) s 0 2) 100 44) _
  refine jWp.one mt rfl rfl (show _ ∧ _ from ⟨jtg ((jN_k (w := (jW (M0, K0, R0, nx, ao) s 0 2)) (t := 100) (n := 44) (show s ≠ nx by omega)).trans hk), rfl, rfl⟩) ?_
  show jWp 41 17 [some (jO s)] [] 1 44 (jPq (jnewo (jW (M0, K0, R0, nx, ao) s 0 2) 100 44) s 1 nx) _
  refine jWp.blk mt 2 ?_
  show _ ∧ jWp 41 19 [some (jO s)] [jI 2, jO s] 1 44 (jPq (jnewo (jW (M0, K0, R0, nx, ao) s 0 2) 100 44) s 1 nx) _
  refine ⟨rfl, ?_⟩
  refine jWp.callv (as := [jO s, jI 2]) (rest := []) mt rfl rfl rfl ⟨rfl, jtg ((jN_k (w := (jW (M0, K0, R0, nx, ao) s 0 2)) (t := 100) (n := 44) (show s ≠ nx by omega)).trans hk)⟩ ?_
  refine jCall.mono (C_clear (w := (jPq (jnewo (jW (M0, K0, R0, nx, ao) s 0 2) 100 44) s 1 nx)) (s := s) (sc := nx) ((jN_k (w := (jW (M0, K0, R0, nx, ao) s 0 2)) (t := 100) (n := 44) (show s ≠ nx by omega)).trans hk) (jN_s (w := (jW (M0, K0, R0, nx, ao) s 0 2)) (t := 100) (n := 44)) (jPq_s (w := (jnewo (jW (M0, K0, R0, nx, ao) s 0 2) 100 44)) (a := s) (k := 1) (v := nx)) (l := 2) (by constructor <;> decide)) (fun v9 w9 h9 => ?_)
  obtain ⟨rfl, hbf, hb0, hbc⟩ := h9.1 (by decide)
  obtain ⟨M1, G9⟩ := w9
  have hg : G9 = ((jPq (jnewo (jW (M0, K0, R0, nx, ao) s 0 2) 100 44) s 1 nx)).2 := hbf.1
  subst hg
  have hi : ini (M0, K0, R0, nx, ao) s 1 (jPq (jnewo (jW (M0, K0, R0, nx, ao) s 0 2) 100 44) s 1 nx) := (ini_t (ini_t (ini_t ini_0 ini_W (Or.inl rfl)) ini_N (Or.inl rfl)) ini_P (Or.inl rfl))
  show jWp 41 22 [some (jO s)] [jI 1] 1 44 (M1, ((jPq (jnewo (jW (M0, K0, R0, nx, ao) s 0 2) 100 44) s 1 nx)).2) _
  refine jWp.blk mt 1 ?_
  show jWp 41 23 [some (jO s)] [] 1 44 (M1, ((jPq (jnewo (jW (M0, K0, R0, nx, ao) s 0 2) 100 44) s 1 nx)).2) _
  refine jWp.vret mt rfl ⟨rfl, rfl⟩ rfl ?_
  exact ⟨rfl, ⟨hi.1, hi.2.1, hi.2.2.1, fun a ha hn => ⟨(hi.2.2.2 a ha hn).1, (hbf.2 a hn (by have h7 : a < nx := ha; omega)).trans (hi.2.2.2 a ha hn).2⟩⟩, (jN_s (w := (jW (M0, K0, R0, nx, ao) s 0 2)) (t := 100) (n := 44)), (jPq_s (w := (jnewo (jW (M0, K0, R0, nx, ao) s 0 2) 100 44)) (a := s) (k := 1) (v := nx)), hb0, fun g => hbc g⟩
theorem I_seed_w {w : jS} {s : Nat} (hk : w.2.1 s = (6, 0)) (hs : s < w.2.2.2.1) : jCall 41 [jO s] w (fun v w1 => v = none ∧ ini w s 1 w1 ∧ w1.2.1 w.2.2.2.1 = (100, 44) ∧ w1.2.2.1 s 1 = some w.2.2.2.1 ∧ w1.1 s 0 = 2 ∧ ∀ g, cR g (w1.1 w.2.2.2.1) (zNw 2) 2) := I_seed (M0 := w.1) (K0 := w.2.1) (R0 := w.2.2.1) (nx := w.2.2.2.1) (ao := w.2.2.2.2) hk hs
set_option maxHeartbeats 4000000 in
set_option maxRecDepth 20000 in
theorem I_exch {M0 : Nat → Nat → Int} {K0 : Nat → Nat × Nat} {R0 : Nat → Nat → Option Nat} {nx ao : Nat} {s : Nat} (hk : K0 s = (1, 0)) (hs : s < nx) : jCall 0 [jO s] (M0, K0, R0, nx, ao) (fun v w1 => v = none ∧ ini (M0, K0, R0, nx, ao) s 2 w1 ∧ w1.2.1 nx = (2, 0) ∧ w1.2.1 (nx + 1) = (2, 0) ∧ w1.2.2.1 s 0 = some nx ∧ w1.2.2.1 s 1 = some (nx + 1)) := by
  have mt : jtb 0 = jT0 := rfl
  show jWp 0 0 [some (jO s)] [] 0 0 (M0, K0, R0, nx, ao) _
  refine jWp.blk mt 1 ?_
  show _ ∧ jWp 0 1 [some (jO s)] [jO s] 0 0 (M0, K0, R0, nx, ao) _
  refine ⟨rfl, ?_⟩
  refine jWp.one mt rfl rfl ⟨rfl, by decide⟩ ?_
  show jWp 0 4 [some (jO s)] [] 0 0 (M0, K0, R0, nx, ao) _
  refine jWp.blk mt 1 ?_
  show _ ∧ jWp 0 5 [some (jO s)] [jO s] 0 0 (M0, K0, R0, nx, ao) _
  refine ⟨rfl, ?_⟩
  refine jWp.new (pc' := 8) mt rfl rfl rfl ?_
  show jWp 0 8 [some (jO s)] [jO nx, jO s] 1 2 (jnewo (M0, K0, R0, nx, ao) 2 0) _
  refine jWp.blk mt 1 ?_
  show _ ∧ jWp 0 9 [some (jO s)] [jO nx, jO nx, jO s] 1 2 (jnewo (M0, K0, R0, nx, ao) 2 0) _
  refine ⟨rfl, ?_⟩
  refine jWp.calli (as := [jO nx]) (rest := [jO nx, jO s]) mt rfl rfl rfl rfl ⟨rfl, jtg (jN_s (w := (M0, K0, R0, nx, ao)) (t := 2) (n := 0))⟩ ?_
  refine jCall.mono (I_frac_w (w := (jnewo (M0, K0, R0, nx, ao) 2 0)) (s := nx) (jN_s (w := (M0, K0, R0, nx, ao)) (t := 2) (n := 0)) (show nx < (nx + 1) by omega)) (fun v9 w9 h9 => ?_)
  obtain ⟨rfl, i1, g1_0, g1_1⟩ := h9
  obtain ⟨M1, K1, R1, n1, a1⟩ := w9
  have e1 : n1 = (nx + 1) := i1.1
  subst n1
  have f1 : a1 = ao := i1.2.1
  subst a1
  show jWp 0 12 [some (jO s)] [jO nx, jO s] 1 2 (M1, K1, R1, (nx + 1), ao) _
  refine jWp.one mt rfl rfl (show _ ∧ _ from ⟨jtg ((i1.2.2.1 s (show s < (nx + 1) by omega)).trans ((jN_k (w := (M0, K0, R0, nx, ao)) (t := 2) (n := 0) (show s ≠ nx by omega)).trans hk)), rfl, rfl⟩) ?_
  show jWp 0 15 [some (jO s)] [] 1 2 (jPq (M1, K1, R1, (nx + 1), ao) s 0 nx) _
  refine jWp.blk mt 1 ?_
  show _ ∧ jWp 0 16 [some (jO s)] [jO s] 1 2 (jPq (M1, K1, R1, (nx + 1), ao) s 0 nx) _
  refine ⟨rfl, ?_⟩
  refine jWp.new (pc' := 19) mt rfl rfl rfl ?_
  show jWp 0 19 [some (jO s)] [jO (nx + 1), jO s] 2 4 (jnewo (jPq (M1, K1, R1, (nx + 1), ao) s 0 nx) 2 0) _
  refine jWp.blk mt 1 ?_
  show _ ∧ jWp 0 20 [some (jO s)] [jO (nx + 1), jO (nx + 1), jO s] 2 4 (jnewo (jPq (M1, K1, R1, (nx + 1), ao) s 0 nx) 2 0) _
  refine ⟨rfl, ?_⟩
  refine jWp.calli (as := [jO (nx + 1)]) (rest := [jO (nx + 1), jO s]) mt rfl rfl rfl rfl ⟨rfl, jtg (jN_s (w := (jPq (M1, K1, R1, (nx + 1), ao) s 0 nx)) (t := 2) (n := 0))⟩ ?_
  refine jCall.mono (I_frac_w (w := (jnewo (jPq (M1, K1, R1, (nx + 1), ao) s 0 nx) 2 0)) (s := (nx + 1)) (jN_s (w := (jPq (M1, K1, R1, (nx + 1), ao) s 0 nx)) (t := 2) (n := 0)) (show (nx + 1) < (nx + 2) by omega)) (fun v9 w9 h9 => ?_)
  obtain ⟨rfl, i2, g2_0, g2_1⟩ := h9
  obtain ⟨M2, K2, R2, n2, a2⟩ := w9
  have e2 : n2 = (nx + 2) := i2.1
  subst n2
  have f2 : a2 = ao := i2.2.1
  subst a2
  show jWp 0 23 [some (jO s)] [jO (nx + 1), jO s] 2 4 (M2, K2, R2, (nx + 2), ao) _
  refine jWp.one mt rfl rfl (show _ ∧ _ from ⟨jtg ((i2.2.2.1 s (show s < (nx + 2) by omega)).trans ((jN_k (w := (jPq (M1, K1, R1, (nx + 1), ao) s 0 nx)) (t := 2) (n := 0) (show s ≠ (nx + 1) by omega)).trans ((i1.2.2.1 s (show s < (nx + 1) by omega)).trans ((jN_k (w := (M0, K0, R0, nx, ao)) (t := 2) (n := 0) (show s ≠ nx by omega)).trans hk)))), rfl, rfl⟩) ?_
  show jWp 0 26 [some (jO s)] [] 2 4 (jPq (M2, K2, R2, (nx + 2), ao) s 1 (nx + 1)) _
  refine jWp.vret mt rfl ⟨rfl, rfl⟩ rfl ?_
  exact ⟨rfl, (ini_t (ini_t (ini_t (ini_t (ini_t (ini_t ini_0 ini_N (Or.inl rfl)) i1 (Or.inr (show nx ≤ nx by omega))) ini_P (Or.inl rfl)) ini_N (Or.inl rfl)) i2 (Or.inr (show nx ≤ (nx + 1) by omega))) ini_P (Or.inl rfl)), ((i2.2.2.1 nx (show nx < (nx + 2) by omega)).trans ((jN_k (w := (jPq (M1, K1, R1, (nx + 1), ao) s 0 nx)) (t := 2) (n := 0) (show nx ≠ (nx + 1) by omega)).trans ((i1.2.2.1 nx (show nx < (nx + 1) by omega)).trans (jN_s (w := (M0, K0, R0, nx, ao)) (t := 2) (n := 0))))), ((i2.2.2.1 (nx + 1) (show (nx + 1) < (nx + 2) by omega)).trans (jN_s (w := (jPq (M1, K1, R1, (nx + 1), ao) s 0 nx)) (t := 2) (n := 0))), ((jPq_n (w := (M2, K2, R2, (nx + 2), ao)) (a := s) (k := 1) (v := (nx + 1)) (b := s) (j := 0) (Or.inr (by omega))).trans ((congrFun (i2.2.2.2 s (show s < (nx + 2) by omega) (show s ≠ (nx + 1) by omega)).1 0).trans ((jN_r (w := (jPq (M1, K1, R1, (nx + 1), ao) s 0 nx)) (t := 2) (n := 0) (a := s) (j := 0) (show s ≠ (nx + 1) by omega)).trans (jPq_s (w := (M1, K1, R1, (nx + 1), ao)) (a := s) (k := 0) (v := nx))))), (jPq_s (w := (M2, K2, R2, (nx + 2), ao)) (a := s) (k := 1) (v := (nx + 1)))⟩
theorem I_exch_w {w : jS} {s : Nat} (hk : w.2.1 s = (1, 0)) (hs : s < w.2.2.2.1) : jCall 0 [jO s] w (fun v w1 => v = none ∧ ini w s 2 w1 ∧ w1.2.1 w.2.2.2.1 = (2, 0) ∧ w1.2.1 (w.2.2.2.1 + 1) = (2, 0) ∧ w1.2.2.1 s 0 = some w.2.2.2.1 ∧ w1.2.2.1 s 1 = some (w.2.2.2.1 + 1)) := I_exch (M0 := w.1) (K0 := w.2.1) (R0 := w.2.2.1) (nx := w.2.2.2.1) (ao := w.2.2.2.2) hk hs
