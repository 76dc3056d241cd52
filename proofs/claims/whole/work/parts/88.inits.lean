/-- a reference told -/
def jPq (w : jS) (a k v : Nat) : jS := (w.1, w.2.1, jupr w.2.2.1 a k (some v), w.2.2.2)
theorem jPq_s {w : jS} {a k v : Nat} : (jPq w a k v).2.2.1 a k = some v := if_pos ⟨rfl, rfl⟩
theorem jPq_n {w : jS} {a k v b j : Nat} (h : b ≠ a ∨ j ≠ k) : (jPq w a k v).2.2.1 b j = w.2.2.1 b j := if_neg (fun g => by omega)
theorem jN_k {w : jS} {t n a : Nat} (h : a ≠ w.2.2.2.1) : (jnewo w t n).2.1 a = w.2.1 a := if_neg h
theorem jN_s {w : jS} {t n : Nat} : (jnewo w t n).2.1 w.2.2.2.1 = (t, n) := if_pos rfl
theorem jN_r {w : jS} {t n a j : Nat} (h : a ≠ w.2.2.2.1) : (jnewo w t n).2.2.1 a j = w.2.2.1 a j := if_neg h
theorem jN_m {w : jS} {t n a j : Nat} (h : a ≠ w.2.2.2.1) : (jnewo w t n).1 a j = w.1 a j := if_neg h
theorem jN_z {w : jS} {t n j : Nat} : (jnewo w t n).1 w.2.2.2.1 j = 0 := if_pos rfl
/-- so many objects and arrays more; of what stood only s has changed -/
def ini (w : jS) (s k : Nat) (w1 : jS) : Prop := w1.2.2.2.1 = w.2.2.2.1 + k ∧ w1.2.2.2.2 = w.2.2.2.2 ∧ (∀ a, a < w.2.2.2.1 → w1.2.1 a = w.2.1 a) ∧ ∀ a, a < w.2.2.2.1 → a ≠ s → w1.2.2.1 a = w.2.2.1 a ∧ w1.1 a = w.1 a
theorem ini_0 {w : jS} {s : Nat} : ini w s 0 w := ⟨rfl, rfl, fun _ _ => rfl, fun _ _ _ => ⟨rfl, rfl⟩⟩
theorem ini_t {w w1 w2 : jS} {s s' k k' : Nat} (h : ini w s k w1) (g : ini w1 s' k' w2) (hs : s' = s ∨ w.2.2.2.1 ≤ s') : ini w s (k + k') w2 :=
  ⟨by rw [g.1, h.1]; omega, g.2.1.trans h.2.1, fun a ha => (g.2.2.1 a (by have := h.1; omega)).trans (h.2.2.1 a ha), fun a ha hn => ⟨(g.2.2.2 a (by have := h.1; omega) (by omega)).1.trans (h.2.2.2 a ha hn).1, (g.2.2.2 a (by have := h.1; omega) (by omega)).2.trans (h.2.2.2 a ha hn).2⟩⟩
theorem ini_N {w : jS} {s t n : Nat} : ini w s 1 (jnewo w t n) := ⟨rfl, rfl, fun a ha => jN_k (by omega), fun a ha _ => ⟨funext fun j => jN_r (by omega), funext fun j => jN_m (by omega)⟩⟩
theorem ini_W {w : jS} {s k : Nat} {x : Int} : ini w s 0 (jW w s k x) := ⟨rfl, rfl, fun _ _ => rfl, fun a _ h => ⟨rfl, jW_f h⟩⟩
theorem ini_P {w : jS} {s k v : Nat} : ini w s 0 (jPq w s k v) := ⟨rfl, rfl, fun _ _ => rfl, fun a _ h => ⟨funext fun j => jPq_n (Or.inl h), rfl⟩⟩
set_option maxHeartbeats 4000000 in
set_option maxRecDepth 20000 in
theorem I_frac {M0 : Nat → Nat → Int} {K0 : Nat → Nat × Nat} {R0 : Nat → Nat → Option Nat} {nx ao : Nat} {s : Nat} (hk : K0 s = (2, 0)) (hs : s < nx) : jCall 3 [jO s] (M0, K0, R0, nx, ao) (fun v w1 => v = none ∧ ini (M0, K0, R0, nx, ao) s 0 w1 ∧ w1.1 s 0 = 0 ∧ w1.1 s 1 = 1) := by
  have mt : jtb 3 = jT3 := rfl
  show jWp 3 0 [some (jO s)] [] 0 0 (M0, K0, R0, nx, ao) _
  refine jWp.blk mt 1 ?_
  show _ ∧ jWp 3 1 [some (jO s)] [jO s] 0 0 (M0, K0, R0, nx, ao) _
  refine ⟨rfl, ?_⟩
  refine jWp.one mt rfl rfl ⟨rfl, by decide⟩ ?_
  show jWp 3 4 [some (jO s)] [] 0 0 (M0, K0, R0, nx, ao) _
  refine jWp.blk mt 2 ?_
  show _ ∧ jWp 3 6 [some (jO s)] [jJ 0, jO s] 0 0 (M0, K0, R0, nx, ao) _
  refine ⟨rfl, ?_⟩
  refine jWp.putJ (pc' := 9) mt rfl rfl (jtg hk) ?_
  show jWp 3 9 [some (jO s)] [] 0 0 (jW (M0, K0, R0, nx, ao) s 0 0) _
  refine jWp.blk mt 2 ?_
  show _ ∧ jWp 3 11 [some (jO s)] [jJ 1, jO s] 0 0 (jW (M0, K0, R0, nx, ao) s 0 0) _
  refine ⟨rfl, ?_⟩
  refine jWp.putJ (pc' := 14) mt rfl rfl (jtg hk) ?_
  show jWp 3 14 [some (jO s)] [] 0 0 (jW (jW (M0, K0, R0, nx, ao) s 0 0) s 1 1) _
  refine jWp.vret mt rfl ⟨rfl, rfl⟩ rfl ?_
  exact ⟨rfl, (ini_t (ini_t ini_0 ini_W (Or.inl rfl)) ini_W (Or.inl rfl)), ((jW_k (w := (jW (M0, K0, R0, nx, ao) s 0 0)) (a := s) (k := 1) (x := 1) (by decide)).trans (jW_s (w := (M0, K0, R0, nx, ao)) (a := s) (k := 0) (x := 0))), (jW_s (w := (jW (M0, K0, R0, nx, ao) s 0 0)) (a := s) (k := 1) (x := 1))⟩
set_option maxHeartbeats 4000000 in
set_option maxRecDepth 20000 in
theorem I_tale {M0 : Nat → Nat → Int} {K0 : Nat → Nat × Nat} {R0 : Nat → Nat → Option Nat} {nx ao : Nat} {s : Nat} (hk : K0 s = (7, 0)) (hs : s < nx) : jCall 69 [jO s] (M0, K0, R0, nx, ao) (fun v w1 => v = none ∧ ini (M0, K0, R0, nx, ao) s 1 w1 ∧ w1.2.1 nx = (100, 40) ∧ w1.2.2.1 s 1 = some nx ∧ w1.1 s 0 = -1 ∧ ∀ j, w1.1 nx j = 0) := by
  have mt : jtb 69 = jT69 := rfl
  show jWp 69 0 [some (jO s)] [] 0 0 (M0, K0, R0, nx, ao) _
  refine jWp.blk mt 1 ?_
  show _ ∧ jWp 69 1 [some (jO s)] [jO s] 0 0 (M0, K0, R0, nx, ao) _
  refine ⟨rfl, ?_⟩
  refine jWp.one mt rfl rfl ⟨rfl, by decide⟩ ?_
  show jWp 69 4 [some (jO s)] [] 0 0 (M0, K0, R0, nx, ao) _
  refine jWp.blk mt 2 ?_
  show _ ∧ jWp 69 6 [some (jO s)] [jI (-1), jO s] 0 0 (M0, K0, R0, nx, ao) _
  refine ⟨rfl, ?_⟩
  refine jWp.putI (pc' := 9) mt rfl rfl (jtg hk) ?_
  show jWp 69 9 [some (jO s)] [] 0 0 (jW (M0, K0, R0, nx, ao) s 0 (-1)) _
  refine jWp.blk mt 2 ?_
  show _ ∧ jWp 69 12 [some (jO s)] [jI 40, jO s] 0 0 (jW (M0, K0, R0, nx, ao) s 0 (-1)) _
  refine ⟨rfl, ?_⟩
  refine jWp.newa (pc' := 14) (jn := 40) mt rfl rfl (by decide) rfl ?_
  show jWp 69 14 [some (jO s)] [jO nx, jO s] 1 40 (jnewo (jW (M0, K0, R0, nx, ao) s 0 (-1)) 100 40) _
  refine jWp.one mt rfl rfl (show _ ∧ _ from ⟨jtg ((jN_k (w := (jW (M0, K0, R0, nx, ao) s 0 (-1))) (t := 100) (n := 40) (show s ≠ nx by omega)).trans hk), rfl, rfl⟩) ?_
  show jWp 69 17 [some (jO s)] [] 1 40 (jPq (jnewo (jW (M0, K0, R0, nx, ao) s 0 (-1)) 100 40) s 1 nx) _
  refine jWp.vret mt rfl ⟨rfl, rfl⟩ rfl ?_
  exact ⟨rfl, (ini_t (ini_t (ini_t ini_0 ini_W (Or.inl rfl)) ini_N (Or.inl rfl)) ini_P (Or.inl rfl)), (jN_s (w := (jW (M0, K0, R0, nx, ao) s 0 (-1))) (t := 100) (n := 40)), (jPq_s (w := (jnewo (jW (M0, K0, R0, nx, ao) s 0 (-1)) 100 40)) (a := s) (k := 1) (v := nx)), ((jN_m (w := (jW (M0, K0, R0, nx, ao) s 0 (-1))) (t := 100) (n := 40) (a := s) (j := 0) (show s ≠ nx by omega)).trans (jW_s (w := (M0, K0, R0, nx, ao)) (a := s) (k := 0) (x := (-1)))), (fun j => (jN_z (w := (jW (M0, K0, R0, nx, ao) s 0 (-1))) (t := 100) (n := 40) (j := j)))⟩
set_option maxHeartbeats 4000000 in
set_option maxRecDepth 20000 in
theorem I_text {M0 : Nat → Nat → Int} {K0 : Nat → Nat × Nat} {R0 : Nat → Nat → Option Nat} {nx ao : Nat} {s : Nat} (hk : K0 s = (8, 0)) (hs : s < nx) : jCall 79 [jO s] (M0, K0, R0, nx, ao) (fun v w1 => v = none ∧ ini (M0, K0, R0, nx, ao) s 1 w1 ∧ w1.2.1 nx = (100, 72) ∧ w1.2.2.1 s 1 = some nx ∧ w1.1 s 0 = 0) := by
  have mt : jtb 79 = jT79 := rfl
  show jWp 79 0 [some (jO s)] [] 0 0 (M0, K0, R0, nx, ao) _
  refine jWp.blk mt 1 ?_
  show _ ∧ jWp 79 1 [some (jO s)] [jO s] 0 0 (M0, K0, R0, nx, ao) _
  refine ⟨rfl, ?_⟩
  refine jWp.one mt rfl rfl ⟨rfl, by decide⟩ ?_
  show jWp 79 4 [some (jO s)] [] 0 0 (M0, K0, R0, nx, ao) _
  refine jWp.blk mt 2 ?_
  show _ ∧ jWp 79 6 [some (jO s)] [jI 0, jO s] 0 0 (M0, K0, R0, nx, ao) _
  refine ⟨rfl, ?_⟩
  refine jWp.putI (pc' := 9) mt rfl rfl (jtg hk) ?_
  show jWp 79 9 [some (jO s)] [] 0 0 (jW (M0, K0, R0, nx, ao) s 0 0) _
  refine jWp.blk mt 2 ?_
  show _ ∧ jWp 79 12 [some (jO s)] [jI 72, jO s] 0 0 (jW (M0, K0, R0, nx, ao) s 0 0) _
  refine ⟨rfl, ?_⟩
  refine jWp.newa (pc' := 14) (jn := 72) mt rfl rfl (by decide) rfl ?_
  show jWp 79 14 [some (jO s)] [jO nx, jO s] 1 72 (jnewo (jW (M0, K0, R0, nx, ao) s 0 0) 100 72) _
  refine jWp.one mt rfl rfl (show _ ∧ _ from ⟨jtg ((jN_k (w := (jW (M0, K0, R0, nx, ao) s 0 0)) (t := 100) (n := 72) (show s ≠ nx by omega)).trans hk), rfl, rfl⟩) ?_
  show jWp 79 17 [some (jO s)] [] 1 72 (jPq (jnewo (jW (M0, K0, R0, nx, ao) s 0 0) 100 72) s 1 nx) _
  refine jWp.vret mt rfl ⟨rfl, rfl⟩ rfl ?_
  exact ⟨rfl, (ini_t (ini_t (ini_t ini_0 ini_W (Or.inl rfl)) ini_N (Or.inl rfl)) ini_P (Or.inl rfl)), (jN_s (w := (jW (M0, K0, R0, nx, ao) s 0 0)) (t := 100) (n := 72)), (jPq_s (w := (jnewo (jW (M0, K0, R0, nx, ao) s 0 0) 100 72)) (a := s) (k := 1) (v := nx)), ((jN_m (w := (jW (M0, K0, R0, nx, ao) s 0 0)) (t := 100) (n := 72) (a := s) (j := 0) (show s ≠ nx by omega)).trans (jW_s (w := (M0, K0, R0, nx, ao)) (a := s) (k := 0) (x := 0)))⟩
set_option maxHeartbeats 4000000 in
set_option maxRecDepth 20000 in
theorem I_row {M0 : Nat → Nat → Int} {K0 : Nat → Nat × Nat} {R0 : Nat → Nat → Option Nat} {nx ao : Nat} {s : Nat} (hk : K0 s = (4, 0)) (hs : s < nx) : jCall 15 [jO s] (M0, K0, R0, nx, ao) (fun v w1 => v = none ∧ ini (M0, K0, R0, nx, ao) s 2 w1 ∧ w1.2.1 nx = (100, 8) ∧ w1.2.1 (nx + 1) = (100, 60) ∧ w1.2.2.1 s 5 = some nx ∧ w1.2.2.1 s 6 = some (nx + 1)) := by
  have mt : jtb 15 = jT15 := rfl
  show jWp 15 0 [some (jO s)] [] 0 0 (M0, K0, R0, nx, ao) _
  refine jWp.blk mt 1 ?_
  show _ ∧ jWp 15 1 [some (jO s)] [jO s] 0 0 (M0, K0, R0, nx, ao) _
  refine ⟨rfl, ?_⟩
  refine jWp.one mt rfl rfl ⟨rfl, by decide⟩ ?_
  show jWp 15 4 [some (jO s)] [] 0 0 (M0, K0, R0, nx, ao) _
  refine jWp.blk mt 2 ?_
  show _ ∧ jWp 15 6 [some (jO s)] [jI 0, jO s] 0 0 (M0, K0, R0, nx, ao) _
  refine ⟨rfl, ?_⟩
  refine jWp.putI (pc' := 9) mt rfl rfl (jtg hk) ?_
  show jWp 15 9 [some (jO s)] [] 0 0 (jW (M0, K0, R0, nx, ao) s 0 0) _
  refine jWp.blk mt 2 ?_
  show _ ∧ jWp 15 11 [some (jO s)] [jI 0, jO s] 0 0 (jW (M0, K0, R0, nx, ao) s 0 0) _
  refine ⟨rfl, ?_⟩
  refine jWp.putI (pc' := 14) mt rfl rfl (jtg hk) ?_
  show jWp 15 14 [some (jO s)] [] 0 0 (jW (jW (M0, K0, R0, nx, ao) s 0 0) s 1 0) _
  refine jWp.blk mt 2 ?_
  show _ ∧ jWp 15 16 [some (jO s)] [jI 0, jO s] 0 0 (jW (jW (M0, K0, R0, nx, ao) s 0 0) s 1 0) _
  refine ⟨rfl, ?_⟩
  refine jWp.putI (pc' := 19) mt rfl rfl (jtg hk) ?_
  show jWp 15 19 [some (jO s)] [] 0 0 (jW (jW (jW (M0, K0, R0, nx, ao) s 0 0) s 1 0) s 2 0) _
  refine jWp.blk mt 2 ?_
  show _ ∧ jWp 15 21 [some (jO s)] [jI 0, jO s] 0 0 (jW (jW (jW (M0, K0, R0, nx, ao) s 0 0) s 1 0) s 2 0) _
  refine ⟨rfl, ?_⟩
  refine jWp.putI (pc' := 24) mt rfl rfl (jtg hk) ?_
  show jWp 15 24 [some (jO s)] [] 0 0 (jW (jW (jW (jW (M0, K0, R0, nx, ao) s 0 0) s 1 0) s 2 0) s 3 0) _
  refine jWp.blk mt 2 ?_
  show _ ∧ jWp 15 26 [some (jO s)] [jI 0, jO s] 0 0 (jW (jW (jW (jW (M0, K0, R0, nx, ao) s 0 0) s 1 0) s 2 0) s 3 0) _
  refine ⟨rfl, ?_⟩
  refine jWp.putI (pc' := 29) mt rfl rfl (jtg hk) ?_
  show jWp 15 29 [some (jO s)] [] 0 0 (jW (jW (jW (jW (jW (M0, K0, R0, nx, ao) s 0 0) s 1 0) s 2 0) s 3 0) s 4 0) _
  refine jWp.blk mt 2 ?_
  show _ ∧ jWp 15 32 [some (jO s)] [jI 8, jO s] 0 0 (jW (jW (jW (jW (jW (M0, K0, R0, nx, ao) s 0 0) s 1 0) s 2 0) s 3 0) s 4 0) _
  refine ⟨rfl, ?_⟩
  refine jWp.newa (pc' := 34) (jn := 8) mt rfl rfl (by decide) rfl ?_
  show jWp 15 34 [some (jO s)] [jO nx, jO s] 1 8 (jnewo (jW (jW (jW (jW (jW (M0, K0, R0, nx, ao) s 0 0) s 1 0) s 2 0) s 3 0) s 4 0) 100 8) _
  refine jWp.one mt rfl rfl (show _ ∧ _ from ⟨jtg ((jN_k (w := (jW (jW (jW (jW (jW (M0, K0, R0, nx, ao) s 0 0) s 1 0) s 2 0) s 3 0) s 4 0)) (t := 100) (n := 8) (show s ≠ nx by omega)).trans hk), rfl, rfl⟩) ?_
  show jWp 15 37 [some (jO s)] [] 1 8 (jPq (jnewo (jW (jW (jW (jW (jW (M0, K0, R0, nx, ao) s 0 0) s 1 0) s 2 0) s 3 0) s 4 0) 100 8) s 5 nx) _
  refine jWp.blk mt 2 ?_
  show _ ∧ jWp 15 40 [some (jO s)] [jI 60, jO s] 1 8 (jPq (jnewo (jW (jW (jW (jW (jW (M0, K0, R0, nx, ao) s 0 0) s 1 0) s 2 0) s 3 0) s 4 0) 100 8) s 5 nx) _
  refine ⟨rfl, ?_⟩
  refine jWp.newa (pc' := 42) (jn := 60) mt rfl rfl (by decide) rfl ?_
  show jWp 15 42 [some (jO s)] [jO (nx + 1), jO s] 2 68 (jnewo (jPq (jnewo (jW (jW (jW (jW (jW (M0, K0, R0, nx, ao) s 0 0) s 1 0) s 2 0) s 3 0) s 4 0) 100 8) s 5 nx) 100 60) _
  refine jWp.one mt rfl rfl (show _ ∧ _ from ⟨jtg ((jN_k (w := (jPq (jnewo (jW (jW (jW (jW (jW (M0, K0, R0, nx, ao) s 0 0) s 1 0) s 2 0) s 3 0) s 4 0) 100 8) s 5 nx)) (t := 100) (n := 60) (show s ≠ (nx + 1) by omega)).trans ((jN_k (w := (jW (jW (jW (jW (jW (M0, K0, R0, nx, ao) s 0 0) s 1 0) s 2 0) s 3 0) s 4 0)) (t := 100) (n := 8) (show s ≠ nx by omega)).trans hk)), rfl, rfl⟩) ?_
  show jWp 15 45 [some (jO s)] [] 2 68 (jPq (jnewo (jPq (jnewo (jW (jW (jW (jW (jW (M0, K0, R0, nx, ao) s 0 0) s 1 0) s 2 0) s 3 0) s 4 0) 100 8) s 5 nx) 100 60) s 6 (nx + 1)) _
  refine jWp.vret mt rfl ⟨rfl, rfl⟩ rfl ?_
  exact ⟨rfl, (ini_t (ini_t (ini_t (ini_t (ini_t (ini_t (ini_t (ini_t (ini_t ini_0 ini_W (Or.inl rfl)) ini_W (Or.inl rfl)) ini_W (Or.inl rfl)) ini_W (Or.inl rfl)) ini_W (Or.inl rfl)) ini_N (Or.inl rfl)) ini_P (Or.inl rfl)) ini_N (Or.inl rfl)) ini_P (Or.inl rfl)), ((jN_k (w := (jPq (jnewo (jW (jW (jW (jW (jW (M0, K0, R0, nx, ao) s 0 0) s 1 0) s 2 0) s 3 0) s 4 0) 100 8) s 5 nx)) (t := 100) (n := 60) (show nx ≠ (nx + 1) by omega)).trans (jN_s (w := (jW (jW (jW (jW (jW (M0, K0, R0, nx, ao) s 0 0) s 1 0) s 2 0) s 3 0) s 4 0)) (t := 100) (n := 8))), (jN_s (w := (jPq (jnewo (jW (jW (jW (jW (jW (M0, K0, R0, nx, ao) s 0 0) s 1 0) s 2 0) s 3 0) s 4 0) 100 8) s 5 nx)) (t := 100) (n := 60)), ((jPq_n (w := (jnewo (jPq (jnewo (jW (jW (jW (jW (jW (M0, K0, R0, nx, ao) s 0 0) s 1 0) s 2 0) s 3 0) s 4 0) 100 8) s 5 nx) 100 60)) (a := s) (k := 6) (v := (nx + 1)) (b := s) (j := 5) (Or.inr (by decide))).trans ((jN_r (w := (jPq (jnewo (jW (jW (jW (jW (jW (M0, K0, R0, nx, ao) s 0 0) s 1 0) s 2 0) s 3 0) s 4 0) 100 8) s 5 nx)) (t := 100) (n := 60) (a := s) (j := 5) (show s ≠ (nx + 1) by omega)).trans (jPq_s (w := (jnewo (jW (jW (jW (jW (jW (M0, K0, R0, nx, ao) s 0 0) s 1 0) s 2 0) s 3 0) s 4 0) 100 8)) (a := s) (k := 5) (v := nx)))), (jPq_s (w := (jnewo (jPq (jnewo (jW (jW (jW (jW (jW (M0, K0, R0, nx, ao) s 0 0) s 1 0) s 2 0) s 3 0) s 4 0) 100 8) s 5 nx) 100 60)) (a := s) (k := 6) (v := (nx + 1)))⟩
