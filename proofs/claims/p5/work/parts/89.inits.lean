theorem jWp.aas {k pc pc' c sl a v j : Nat} {T : List jE} {l : jF} {st : List jV} {w : jS} {Q : Option jV → jS → Prop} {i z : Int} {r1 r2 r3 : Nat} (hT : jtb k = T) (hf : jfind T pc = some (pc, .aastore, 1, r1, r2, r3, z)) (hp : pc + 1 = pc') (hk : 102 ≤ (w.2.1 a).1 ∧ (w.2.1 a).1 ≤ 104 ∧ (w.2.1 v).1 = jrk (w.2.1 a).1) (hi : b32 i = (j : Int)) (hj : j < (w.2.1 a).2) (kk : jWp k pc' l st c sl (jPq w a j v) Q) : jWp k pc l (jO v :: jI i :: jO a :: st) c sl w Q := by
  subst hp
  have e : (b32 i).toNat = j := by rw [hi]; rfl
  have kk2 : jWp k (pc + 1) l st c sl (w.1, w.2.1, jupr w.2.2.1 a (b32 i).toNat (some v), w.2.2.2) Q := by rw [e]; exact kk
  refine jWp.one hT hf rfl ?_ kk2
  exact ⟨rfl, rfl, hk, by rw [hi]; omega, by rw [hi]; show (j : Int) < ((w.2.1 a).2 : Int); omega⟩
theorem ini_e {w w1 : jS} {s k k' : Nat} (h : ini w s k w1) (e : k = k') : ini w s k' w1 := e ▸ h
theorem jak {p q : Nat × Nat} {t n o u : Nat} (h : p = (t, n)) (g : q = (o, u)) (ht : 102 ≤ t ∧ t ≤ 104) (e : o = jrk t) : 102 ≤ p.1 ∧ p.1 ≤ 104 ∧ q.1 = jrk p.1 := by
  rw [h, g]
  exact ⟨ht.1, ht.2, e⟩
set_option maxHeartbeats 4000000 in
set_option maxRecDepth 20000 in
theorem I_past {M0 : Nat → Nat → Int} {K0 : Nat → Nat × Nat} {R0 : Nat → Nat → Option Nat} {nx ao : Nat} {s : Nat} (hk : K0 s = (3, 0)) (hs : s < nx) : jCall 10 [jO s] (M0, K0, R0, nx, ao) (fun v w1 => v = none ∧ ini (M0, K0, R0, nx, ao) s 17 w1 ∧ w1.2.1 nx = (103, 8) ∧ w1.2.2.1 s 1 = some nx ∧ w1.1 s 0 = 0 ∧ ∀ y, y < 8 → w1.2.2.1 nx y = some (nx + (2 * y + 1)) ∧ w1.2.1 (nx + (2 * y + 1)) = (6, 0) ∧ w1.2.1 (nx + (2 * y + 2)) = (100, 44) ∧ w1.2.2.1 (nx + (2 * y + 1)) 1 = some (nx + (2 * y + 2))) := by
  have mt : jtb 10 = jT10 := rfl
  show jWp 10 0 [some (jO s), none] [] 0 0 (M0, K0, R0, nx, ao) _
  refine jWp.blk mt 1 ?_
  show _ ∧ jWp 10 1 [some (jO s), none] [jO s] 0 0 (M0, K0, R0, nx, ao) _
  refine ⟨rfl, ?_⟩
  refine jWp.one mt rfl rfl ⟨rfl, by decide⟩ ?_
  show jWp 10 4 [some (jO s), none] [] 0 0 (M0, K0, R0, nx, ao) _
  refine jWp.blk mt 2 ?_
  show _ ∧ jWp 10 6 [some (jO s), none] [jI 0, jO s] 0 0 (M0, K0, R0, nx, ao) _
  refine ⟨rfl, ?_⟩
  refine jWp.putI (pc' := 9) mt rfl rfl (jtg hk) ?_
  show jWp 10 9 [some (jO s), none] [] 0 0 (jW (M0, K0, R0, nx, ao) s 0 0) _
  refine jWp.blk mt 2 ?_
  show _ ∧ jWp 10 12 [some (jO s), none] [jI 8, jO s] 0 0 (jW (M0, K0, R0, nx, ao) s 0 0) _
  refine ⟨rfl, ?_⟩
  refine jWp.newq (pc' := 15) (jn := 8) mt rfl rfl (by decide) rfl ?_
  show jWp 10 15 [some (jO s), none] [jO nx, jO s] 1 8 (jnewo (jW (M0, K0, R0, nx, ao) s 0 0) 103 8) _
  refine jWp.one mt rfl rfl (show _ ∧ _ from ⟨jtg ((jN_k (w := (jW (M0, K0, R0, nx, ao) s 0 0)) (t := 103) (n := 8) (show s ≠ nx by omega)).trans hk), rfl, rfl⟩) ?_
  show jWp 10 18 [some (jO s), none] [] 1 8 (jPq (jnewo (jW (M0, K0, R0, nx, ao) s 0 0) 103 8) s 1 nx) _
  refine jWp.blk mt 2 ?_
  show jWp 10 20 [some (jO s), some (jI 0)] [] 1 8 (jPq (jnewo (jW (M0, K0, R0, nx, ao) s 0 0) 103 8) s 1 nx) _
  have lp1 : ∀ (N : Nat) (i : Nat) (M9 : Nat → Nat → Int) (K9 : Nat → Nat × Nat) (R9 : Nat → Nat → Option Nat) (hi : i ≤ 8) (hin : ini (M0, K0, R0, nx, ao) s (2 * i + 1) (M9, K9, R9, nx + (2 * i + 1), ao)) (hka : K9 nx = (103, 8)) (hra : R9 s 1 = some nx) (hm0 : M9 s 0 = 0) (hA : ∀ y, y < i → R9 nx y = some (nx + (2 * y + 1)) ∧ K9 (nx + (2 * y + 1)) = (6, 0) ∧ K9 (nx + (2 * y + 2)) = (100, 44) ∧ R9 (nx + (2 * y + 1)) 1 = some (nx + (2 * y + 2))), 8 - i < N → jWp 10 20 [some (jO s), some (jI (i : Int))] [] (2 * i + 1) (46 * i + 8) (M9, K9, R9, nx + (2 * i + 1), ao) (fun v w1 => v = none ∧ ini (M0, K0, R0, nx, ao) s 17 w1 ∧ w1.2.1 nx = (103, 8) ∧ w1.2.2.1 s 1 = some nx ∧ w1.1 s 0 = 0 ∧ ∀ y, y < 8 → w1.2.2.1 nx y = some (nx + (2 * y + 1)) ∧ w1.2.1 (nx + (2 * y + 1)) = (6, 0) ∧ w1.2.1 (nx + (2 * y + 2)) = (100, 44) ∧ w1.2.2.1 (nx + (2 * y + 1)) 1 = some (nx + (2 * y + 2))) := by
    intro N
    induction N with
    | zero => intro i M9 K9 R9 hi hin hka hra hm0 hA hm; omega
    | succ N ih2 =>
      intro i M9 K9 R9 hi hin hka hra hm0 hA hm
      refine jWp.blk mt 2 ?_
      show jWp 10 23 [some (jO s), some (jI (i : Int))] [jI 8, jI (i : Int)] (2 * i + 1) (46 * i + 8) (M9, K9, R9, nx + (2 * i + 1), ao) _
      refine jWp.icmp (pc' := 26) mt rfl rfl (b32_id (by omega) (by omega)) (show b32 8 = 8 by decide) (fun h3 => ?_) (fun h3 => ?_)
      · have h3 : 8 ≤ (i : Int) := h3
        refine jWp.vret mt rfl ⟨by show (2 * i + 1) = 17; omega, by show (46 * i + 8) = 376; omega⟩ rfl ?_
        have e8 : i = 8 := by omega
        subst e8
        exact ⟨rfl, hin, hka, hra, hm0, hA⟩
      · have h3 : (i : Int) < 8 := h3
        refine jWp.blk mt 1 ?_
        show _ ∧ jWp 10 27 [some (jO s), some (jI (i : Int))] [jO s] (2 * i + 1) (46 * i + 8) (M9, K9, R9, nx + (2 * i + 1), ao) _
        refine ⟨rfl, ?_⟩
        refine jWp.getR (pc' := 30) (o := nx) mt rfl rfl (jtg ((hin.2.2.1 s (show s < nx by omega)).trans hk)) hra ?_
        show jWp 10 30 [some (jO s), some (jI (i : Int))] [jO nx] (2 * i + 1) (46 * i + 8) (M9, K9, R9, nx + (2 * i + 1), ao) _
        refine jWp.blk mt 1 ?_
        show jWp 10 31 [some (jO s), some (jI (i : Int))] [jI (i : Int), jO nx] (2 * i + 1) (46 * i + 8) (M9, K9, R9, nx + (2 * i + 1), ao) _
        refine jWp.new (pc' := 34) mt rfl rfl (by show (Nat.ble ((2 * i + 1) + 1) 17 && Nat.ble ((46 * i + 8) + 2) 376) = true; simp only [Bool.and_eq_true, Nat.ble_eq]; omega) ?_
        show jWp 10 34 [some (jO s), some (jI (i : Int))] [jO (nx + (2 * i + 1)), jI (i : Int), jO nx] (2 * i + 2) (46 * i + 10) (jnewo (M9, K9, R9, nx + (2 * i + 1), ao) 6 0) _
        refine jWp.blk mt 1 ?_
        show _ ∧ jWp 10 35 [some (jO s), some (jI (i : Int))] [jO (nx + (2 * i + 1)), jO (nx + (2 * i + 1)), jI (i : Int), jO nx] (2 * i + 2) (46 * i + 10) (jnewo (M9, K9, R9, nx + (2 * i + 1), ao) 6 0) _
        refine ⟨rfl, ?_⟩
        refine jWp.calli (as := [jO (nx + (2 * i + 1))]) (rest := [jO (nx + (2 * i + 1)), jI (i : Int), jO nx]) mt rfl rfl rfl (by show (Nat.ble ((2 * i + 2) + 1) 17 && Nat.ble ((46 * i + 10) + 44) 376 && true && true) = true; simp only [Bool.and_eq_true, Nat.ble_eq, and_true]; omega) ⟨rfl, jtg (jN_s (w := (M9, K9, R9, nx + (2 * i + 1), ao)) (t := 6) (n := 0))⟩ ?_
        refine jCall.mono (I_seed_w (w := (jnewo (M9, K9, R9, nx + (2 * i + 1), ao) 6 0)) (s := (nx + (2 * i + 1))) (jN_s (w := (M9, K9, R9, nx + (2 * i + 1), ao)) (t := 6) (n := 0)) (show (nx + (2 * i + 1)) < (nx + (2 * i + 2)) by omega)) (fun v9 w9 h9 => ?_)
        obtain ⟨rfl, i1, g1_0, g1_1, g1_2, g1_3⟩ := h9
        obtain ⟨M1, K1, R1, n1, a1⟩ := w9
        have e1 : n1 = (nx + (2 * i + 3)) := i1.1
        subst n1
        have f1 : a1 = ao := i1.2.1
        subst a1
        show jWp 10 38 [some (jO s), some (jI (i : Int))] [jO (nx + (2 * i + 1)), jI (i : Int), jO nx] (2 * i + 3) (46 * i + 54) (M1, K1, R1, (nx + (2 * i + 3)), ao) _
        refine jWp.aas (pc' := 39) (j := i) mt rfl rfl (jak ((i1.2.2.1 nx (show nx < (nx + (2 * i + 2)) by omega)).trans ((jN_k (w := (M9, K9, R9, nx + (2 * i + 1), ao)) (t := 6) (n := 0) (show nx ≠ (nx + (2 * i + 1)) by omega)).trans hka)) ((i1.2.2.1 (nx + (2 * i + 1)) (show (nx + (2 * i + 1)) < (nx + (2 * i + 2)) by omega)).trans (jN_s (w := (M9, K9, R9, nx + (2 * i + 1), ao)) (t := 6) (n := 0))) (by decide) rfl) (b32_id (by omega) (by omega)) (jlt ((i1.2.2.1 nx (show nx < (nx + (2 * i + 2)) by omega)).trans ((jN_k (w := (M9, K9, R9, nx + (2 * i + 1), ao)) (t := 6) (n := 0) (show nx ≠ (nx + (2 * i + 1)) by omega)).trans hka)) (by omega)) ?_
        show jWp 10 39 [some (jO s), some (jI (i : Int))] [] (2 * i + 3) (46 * i + 54) (jPq (M1, K1, R1, (nx + (2 * i + 3)), ao) nx i (nx + (2 * i + 1))) _
        refine jWp.blk mt 2 ?_
        show jWp 10 20 [some (jO s), some (jI ((i : Int) + 1))] [] (2 * i + 3) (46 * i + 54) (jPq (M1, K1, R1, (nx + (2 * i + 3)), ao) nx i (nx + (2 * i + 1))) _
        refine jWp.le (l := [some (jO s), some (jI ((i : Int) + 1))]) (by exact ⟨rfl, rfl, trivial⟩) ?_
        exact ih2 (i + 1) ((jPq (M1, K1, R1, (nx + (2 * i + 3)), ao) nx i (nx + (2 * i + 1)))).1 ((jPq (M1, K1, R1, (nx + (2 * i + 3)), ao) nx i (nx + (2 * i + 1)))).2.1 ((jPq (M1, K1, R1, (nx + (2 * i + 3)), ao) nx i (nx + (2 * i + 1)))).2.2.1 (by omega) (ini_e (show ini (M0, K0, R0, nx, ao) s _ (jPq (M1, K1, R1, (nx + (2 * i + 3)), ao) nx i (nx + (2 * i + 1))) from (ini_t (ini_t (ini_t (ini_t ini_0 hin (Or.inl rfl)) ini_N (Or.inl rfl)) i1 (Or.inr (show nx ≤ (nx + (2 * i + 1)) by omega))) (ini_P (s := nx)) (Or.inr (show nx ≤ nx by omega)))) (by omega)) ((i1.2.2.1 nx (show nx < (nx + (2 * i + 2)) by omega)).trans ((jN_k (w := (M9, K9, R9, nx + (2 * i + 1), ao)) (t := 6) (n := 0) (show nx ≠ (nx + (2 * i + 1)) by omega)).trans hka)) ((jPq_n (w := (M1, K1, R1, (nx + (2 * i + 3)), ao)) (a := nx) (k := i) (v := (nx + (2 * i + 1))) (b := s) (j := 1) (Or.inl (by omega))).trans ((congrFun (i1.2.2.2 s (show s < (nx + (2 * i + 2)) by omega) (show s ≠ (nx + (2 * i + 1)) by omega)).1 1).trans ((jN_r (w := (M9, K9, R9, nx + (2 * i + 1), ao)) (t := 6) (n := 0) (a := s) (j := 1) (show s ≠ (nx + (2 * i + 1)) by omega)).trans hra))) ((congrFun (i1.2.2.2 s (show s < (nx + (2 * i + 2)) by omega) (show s ≠ (nx + (2 * i + 1)) by omega)).2 0).trans ((jN_m (w := (M9, K9, R9, nx + (2 * i + 1), ao)) (t := 6) (n := 0) (a := s) (j := 0) (show s ≠ (nx + (2 * i + 1)) by omega)).trans hm0))   (fun y hy => by
                rcases Nat.lt_or_ge y i with e | e
                · have g := hA y e
                  have q1 := fun a (ha : a < nx + (2 * i + 1)) => (jN_k (w := (M9, K9, R9, nx + (2 * i + 1), ao)) (t := 6) (n := 0) (a := a) (show a ≠ nx + (2 * i + 1) by omega))
                  have q2 := fun a (ha : a < nx + (2 * i + 1)) => i1.2.2.1 a (show a < nx + (2 * i + 2) by omega)
                  have q3 := fun a (ha : a < nx + (2 * i + 1)) => (i1.2.2.2 a (show a < nx + (2 * i + 2) by omega) (by omega)).1
                  have q4 := fun a j (ha : a < nx + (2 * i + 1)) => (jN_r (w := (M9, K9, R9, nx + (2 * i + 1), ao)) (t := 6) (n := 0) (a := a) (j := j) (show a ≠ nx + (2 * i + 1) by omega))
                  refine ⟨?_, ((q2 _ (by omega)).trans (q1 _ (by omega))).trans g.2.1, ((q2 _ (by omega)).trans (q1 _ (by omega))).trans g.2.2.1, ?_⟩
                  · exact (jPq_n (Or.inr (by omega))).trans ((congrFun (q3 nx (by omega)) y).trans ((q4 nx y (by omega)).trans g.1))
                  · exact (jPq_n (Or.inl (by omega))).trans ((congrFun (q3 _ (by omega)) 1).trans ((q4 _ 1 (by omega)).trans g.2.2.2))
                · have ey : y = i := by omega
                  subst ey
                  exact ⟨jPq_s, ((i1.2.2.1 (nx + (2 * y + 1)) (show (nx + (2 * y + 1)) < (nx + (2 * y + 2)) by omega)).trans (jN_s (w := (M9, K9, R9, nx + (2 * y + 1), ao)) (t := 6) (n := 0))), g1_0, (jPq_n (Or.inl (by omega))).trans g1_1⟩) (by omega)
  refine jWp.le (l := [some (jO s), some (jI 0)]) (by exact ⟨rfl, rfl, trivial⟩) ?_
  exact lp1 _ 0 ((jPq (jnewo (jW (M0, K0, R0, nx, ao) s 0 0) 103 8) s 1 nx)).1 ((jPq (jnewo (jW (M0, K0, R0, nx, ao) s 0 0) 103 8) s 1 nx)).2.1 ((jPq (jnewo (jW (M0, K0, R0, nx, ao) s 0 0) 103 8) s 1 nx)).2.2.1 (by omega) (ini_e (show ini (M0, K0, R0, nx, ao) s _ (jPq (jnewo (jW (M0, K0, R0, nx, ao) s 0 0) 103 8) s 1 nx) from (ini_t (ini_t (ini_t ini_0 ini_W (Or.inl rfl)) ini_N (Or.inl rfl)) ini_P (Or.inl rfl))) (by omega)) (jN_s (w := (jW (M0, K0, R0, nx, ao) s 0 0)) (t := 103) (n := 8)) (jPq_s (w := (jnewo (jW (M0, K0, R0, nx, ao) s 0 0) 103 8)) (a := s) (k := 1) (v := nx)) ((jN_m (w := (jW (M0, K0, R0, nx, ao) s 0 0)) (t := 103) (n := 8) (a := s) (j := 0) (show s ≠ nx by omega)).trans (jW_s (w := (M0, K0, R0, nx, ao)) (a := s) (k := 0) (x := 0)))   (fun y hy => absurd hy (by omega)) (Nat.lt_succ_self _)
theorem I_past_w {w : jS} {s : Nat} (hk : w.2.1 s = (3, 0)) (hs : s < w.2.2.2.1) : jCall 10 [jO s] w (fun v w1 => v = none ∧ ini w s 17 w1 ∧ w1.2.1 w.2.2.2.1 = (103, 8) ∧ w1.2.2.1 s 1 = some w.2.2.2.1 ∧ w1.1 s 0 = 0 ∧ ∀ y, y < 8 → w1.2.2.1 w.2.2.2.1 y = some (w.2.2.2.1 + (2 * y + 1)) ∧ w1.2.1 (w.2.2.2.1 + (2 * y + 1)) = (6, 0) ∧ w1.2.1 (w.2.2.2.1 + (2 * y + 2)) = (100, 44) ∧ w1.2.2.1 (w.2.2.2.1 + (2 * y + 1)) 1 = some (w.2.2.2.1 + (2 * y + 2))) := I_past (M0 := w.1) (K0 := w.2.1) (R0 := w.2.2.1) (nx := w.2.2.2.1) (ao := w.2.2.2.2) hk hs
set_option maxHeartbeats 4000000 in
set_option maxRecDepth 20000 in
theorem I_search {M0 : Nat → Nat → Int} {K0 : Nat → Nat × Nat} {R0 : Nat → Nat → Option Nat} {nx ao : Nat} {s : Nat} (hk : K0 s = (5, 0)) (hs : s < nx) : jCall 31 [jO s] (M0, K0, R0, nx, ao) (fun v w1 => v = none ∧ ini (M0, K0, R0, nx, ao) s 326 w1 ∧ w1.2.1 nx = (103, 161) ∧ w1.2.2.1 s 1 = some nx ∧ w1.1 s 0 = 0 ∧ w1.2.1 (nx + 1) = (100, 161) ∧ w1.2.1 (nx + 2) = (100, 161) ∧ w1.2.1 (nx + 3) = (100, 161) ∧ w1.2.2.1 s 2 = some (nx + 1) ∧ w1.2.2.1 s 3 = some (nx + 2) ∧ w1.2.2.1 s 4 = some (nx + 3) ∧ ∀ y, y < 161 → w1.2.2.1 nx y = some (nx + (2 * y + 4)) ∧ w1.2.1 (nx + (2 * y + 4)) = (6, 0) ∧ w1.2.1 (nx + (2 * y + 5)) = (100, 44) ∧ w1.2.2.1 (nx + (2 * y + 4)) 1 = some (nx + (2 * y + 5))) := by
  have mt : jtb 31 = jT31 := rfl
  show jWp 31 0 [some (jO s), none] [] 0 0 (M0, K0, R0, nx, ao) _
  refine jWp.blk mt 1 ?_
  show _ ∧ jWp 31 1 [some (jO s), none] [jO s] 0 0 (M0, K0, R0, nx, ao) _
  refine ⟨rfl, ?_⟩
  refine jWp.one mt rfl rfl ⟨rfl, by decide⟩ ?_
  show jWp 31 4 [some (jO s), none] [] 0 0 (M0, K0, R0, nx, ao) _
  refine jWp.blk mt 2 ?_
  show _ ∧ jWp 31 6 [some (jO s), none] [jI 0, jO s] 0 0 (M0, K0, R0, nx, ao) _
  refine ⟨rfl, ?_⟩
  refine jWp.putI (pc' := 9) mt rfl rfl (jtg hk) ?_
  show jWp 31 9 [some (jO s), none] [] 0 0 (jW (M0, K0, R0, nx, ao) s 0 0) _
  refine jWp.blk mt 2 ?_
  show _ ∧ jWp 31 13 [some (jO s), none] [jI 161, jO s] 0 0 (jW (M0, K0, R0, nx, ao) s 0 0) _
  refine ⟨rfl, ?_⟩
  refine jWp.newq (pc' := 16) (jn := 161) mt rfl rfl (by decide) rfl ?_
  show jWp 31 16 [some (jO s), none] [jO nx, jO s] 1 161 (jnewo (jW (M0, K0, R0, nx, ao) s 0 0) 103 161) _
  refine jWp.one mt rfl rfl (show _ ∧ _ from ⟨jtg ((jN_k (w := (jW (M0, K0, R0, nx, ao) s 0 0)) (t := 103) (n := 161) (show s ≠ nx by omega)).trans hk), rfl, rfl⟩) ?_
  show jWp 31 19 [some (jO s), none] [] 1 161 (jPq (jnewo (jW (M0, K0, R0, nx, ao) s 0 0) 103 161) s 1 nx) _
  refine jWp.blk mt 2 ?_
  show _ ∧ jWp 31 23 [some (jO s), none] [jI 161, jO s] 1 161 (jPq (jnewo (jW (M0, K0, R0, nx, ao) s 0 0) 103 161) s 1 nx) _
  refine ⟨rfl, ?_⟩
  refine jWp.newa (pc' := 25) (jn := 161) mt rfl rfl (by decide) rfl ?_
  show jWp 31 25 [some (jO s), none] [jO (nx + 1), jO s] 2 322 (jnewo (jPq (jnewo (jW (M0, K0, R0, nx, ao) s 0 0) 103 161) s 1 nx) 100 161) _
  refine jWp.one mt rfl rfl (show _ ∧ _ from ⟨jtg ((jN_k (w := (jPq (jnewo (jW (M0, K0, R0, nx, ao) s 0 0) 103 161) s 1 nx)) (t := 100) (n := 161) (show s ≠ (nx + 1) by omega)).trans ((jN_k (w := (jW (M0, K0, R0, nx, ao) s 0 0)) (t := 103) (n := 161) (show s ≠ nx by omega)).trans hk)), rfl, rfl⟩) ?_
  show jWp 31 28 [some (jO s), none] [] 2 322 (jPq (jnewo (jPq (jnewo (jW (M0, K0, R0, nx, ao) s 0 0) 103 161) s 1 nx) 100 161) s 2 (nx + 1)) _
  refine jWp.blk mt 2 ?_
  show _ ∧ jWp 31 32 [some (jO s), none] [jI 161, jO s] 2 322 (jPq (jnewo (jPq (jnewo (jW (M0, K0, R0, nx, ao) s 0 0) 103 161) s 1 nx) 100 161) s 2 (nx + 1)) _
  refine ⟨rfl, ?_⟩
  refine jWp.newa (pc' := 34) (jn := 161) mt rfl rfl (by decide) rfl ?_
  show jWp 31 34 [some (jO s), none] [jO (nx + 2), jO s] 3 483 (jnewo (jPq (jnewo (jPq (jnewo (jW (M0, K0, R0, nx, ao) s 0 0) 103 161) s 1 nx) 100 161) s 2 (nx + 1)) 100 161) _
  refine jWp.one mt rfl rfl (show _ ∧ _ from ⟨jtg ((jN_k (w := (jPq (jnewo (jPq (jnewo (jW (M0, K0, R0, nx, ao) s 0 0) 103 161) s 1 nx) 100 161) s 2 (nx + 1))) (t := 100) (n := 161) (show s ≠ (nx + 2) by omega)).trans ((jN_k (w := (jPq (jnewo (jW (M0, K0, R0, nx, ao) s 0 0) 103 161) s 1 nx)) (t := 100) (n := 161) (show s ≠ (nx + 1) by omega)).trans ((jN_k (w := (jW (M0, K0, R0, nx, ao) s 0 0)) (t := 103) (n := 161) (show s ≠ nx by omega)).trans hk))), rfl, rfl⟩) ?_
  show jWp 31 37 [some (jO s), none] [] 3 483 (jPq (jnewo (jPq (jnewo (jPq (jnewo (jW (M0, K0, R0, nx, ao) s 0 0) 103 161) s 1 nx) 100 161) s 2 (nx + 1)) 100 161) s 3 (nx + 2)) _
  refine jWp.blk mt 2 ?_
  show _ ∧ jWp 31 41 [some (jO s), none] [jI 161, jO s] 3 483 (jPq (jnewo (jPq (jnewo (jPq (jnewo (jW (M0, K0, R0, nx, ao) s 0 0) 103 161) s 1 nx) 100 161) s 2 (nx + 1)) 100 161) s 3 (nx + 2)) _
  refine ⟨rfl, ?_⟩
  refine jWp.newa (pc' := 43) (jn := 161) mt rfl rfl (by decide) rfl ?_
  show jWp 31 43 [some (jO s), none] [jO (nx + 3), jO s] 4 644 (jnewo (jPq (jnewo (jPq (jnewo (jPq (jnewo (jW (M0, K0, R0, nx, ao) s 0 0) 103 161) s 1 nx) 100 161) s 2 (nx + 1)) 100 161) s 3 (nx + 2)) 100 161) _
  refine jWp.one mt rfl rfl (show _ ∧ _ from ⟨jtg ((jN_k (w := (jPq (jnewo (jPq (jnewo (jPq (jnewo (jW (M0, K0, R0, nx, ao) s 0 0) 103 161) s 1 nx) 100 161) s 2 (nx + 1)) 100 161) s 3 (nx + 2))) (t := 100) (n := 161) (show s ≠ (nx + 3) by omega)).trans ((jN_k (w := (jPq (jnewo (jPq (jnewo (jW (M0, K0, R0, nx, ao) s 0 0) 103 161) s 1 nx) 100 161) s 2 (nx + 1))) (t := 100) (n := 161) (show s ≠ (nx + 2) by omega)).trans ((jN_k (w := (jPq (jnewo (jW (M0, K0, R0, nx, ao) s 0 0) 103 161) s 1 nx)) (t := 100) (n := 161) (show s ≠ (nx + 1) by omega)).trans ((jN_k (w := (jW (M0, K0, R0, nx, ao) s 0 0)) (t := 103) (n := 161) (show s ≠ nx by omega)).trans hk)))), rfl, rfl⟩) ?_
  show jWp 31 46 [some (jO s), none] [] 4 644 (jPq (jnewo (jPq (jnewo (jPq (jnewo (jPq (jnewo (jW (M0, K0, R0, nx, ao) s 0 0) 103 161) s 1 nx) 100 161) s 2 (nx + 1)) 100 161) s 3 (nx + 2)) 100 161) s 4 (nx + 3)) _
  refine jWp.blk mt 2 ?_
  show jWp 31 48 [some (jO s), some (jI 0)] [] 4 644 (jPq (jnewo (jPq (jnewo (jPq (jnewo (jPq (jnewo (jW (M0, K0, R0, nx, ao) s 0 0) 103 161) s 1 nx) 100 161) s 2 (nx + 1)) 100 161) s 3 (nx + 2)) 100 161) s 4 (nx + 3)) _
  have lp1 : ∀ (N : Nat) (i : Nat) (M9 : Nat → Nat → Int) (K9 : Nat → Nat × Nat) (R9 : Nat → Nat → Option Nat) (hi : i ≤ 161) (hin : ini (M0, K0, R0, nx, ao) s (2 * i + 4) (M9, K9, R9, nx + (2 * i + 4), ao)) (hka : K9 nx = (103, 161)) (hra : R9 s 1 = some nx) (hm0 : M9 s 0 = 0) (hx0 : K9 (nx + 1) = (100, 161)) (hx1 : K9 (nx + 2) = (100, 161)) (hx2 : K9 (nx + 3) = (100, 161)) (hx3 : R9 s 2 = some (nx + 1)) (hx4 : R9 s 3 = some (nx + 2)) (hx5 : R9 s 4 = some (nx + 3)) (hA : ∀ y, y < i → R9 nx y = some (nx + (2 * y + 4)) ∧ K9 (nx + (2 * y + 4)) = (6, 0) ∧ K9 (nx + (2 * y + 5)) = (100, 44) ∧ R9 (nx + (2 * y + 4)) 1 = some (nx + (2 * y + 5))), 161 - i < N → jWp 31 48 [some (jO s), some (jI (i : Int))] [] (2 * i + 4) (46 * i + 644) (M9, K9, R9, nx + (2 * i + 4), ao) (fun v w1 => v = none ∧ ini (M0, K0, R0, nx, ao) s 326 w1 ∧ w1.2.1 nx = (103, 161) ∧ w1.2.2.1 s 1 = some nx ∧ w1.1 s 0 = 0 ∧ w1.2.1 (nx + 1) = (100, 161) ∧ w1.2.1 (nx + 2) = (100, 161) ∧ w1.2.1 (nx + 3) = (100, 161) ∧ w1.2.2.1 s 2 = some (nx + 1) ∧ w1.2.2.1 s 3 = some (nx + 2) ∧ w1.2.2.1 s 4 = some (nx + 3) ∧ ∀ y, y < 161 → w1.2.2.1 nx y = some (nx + (2 * y + 4)) ∧ w1.2.1 (nx + (2 * y + 4)) = (6, 0) ∧ w1.2.1 (nx + (2 * y + 5)) = (100, 44) ∧ w1.2.2.1 (nx + (2 * y + 4)) 1 = some (nx + (2 * y + 5))) := by
    intro N
    induction N with
    | zero => intro i M9 K9 R9 hi hin hka hra hm0 hx0 hx1 hx2 hx3 hx4 hx5 hA hm; omega
    | succ N ih2 =>
      intro i M9 K9 R9 hi hin hka hra hm0 hx0 hx1 hx2 hx3 hx4 hx5 hA hm
      refine jWp.blk mt 2 ?_
      show jWp 31 52 [some (jO s), some (jI (i : Int))] [jI 161, jI (i : Int)] (2 * i + 4) (46 * i + 644) (M9, K9, R9, nx + (2 * i + 4), ao) _
      refine jWp.icmp (pc' := 55) mt rfl rfl (b32_id (by omega) (by omega)) (show b32 161 = 161 by decide) (fun h3 => ?_) (fun h3 => ?_)
      · have h3 : 161 ≤ (i : Int) := h3
        refine jWp.vret mt rfl ⟨by show (2 * i + 4) = 326; omega, by show (46 * i + 644) = 8050; omega⟩ rfl ?_
        have e8 : i = 161 := by omega
        subst e8
        exact ⟨rfl, hin, hka, hra, hm0, hx0, hx1, hx2, hx3, hx4, hx5, hA⟩
      · have h3 : (i : Int) < 161 := h3
        refine jWp.blk mt 1 ?_
        show _ ∧ jWp 31 56 [some (jO s), some (jI (i : Int))] [jO s] (2 * i + 4) (46 * i + 644) (M9, K9, R9, nx + (2 * i + 4), ao) _
        refine ⟨rfl, ?_⟩
        refine jWp.getR (pc' := 59) (o := nx) mt rfl rfl (jtg ((hin.2.2.1 s (show s < nx by omega)).trans hk)) hra ?_
        show jWp 31 59 [some (jO s), some (jI (i : Int))] [jO nx] (2 * i + 4) (46 * i + 644) (M9, K9, R9, nx + (2 * i + 4), ao) _
        refine jWp.blk mt 1 ?_
        show jWp 31 60 [some (jO s), some (jI (i : Int))] [jI (i : Int), jO nx] (2 * i + 4) (46 * i + 644) (M9, K9, R9, nx + (2 * i + 4), ao) _
        refine jWp.new (pc' := 63) mt rfl rfl (by show (Nat.ble ((2 * i + 4) + 1) 326 && Nat.ble ((46 * i + 644) + 2) 8050) = true; simp only [Bool.and_eq_true, Nat.ble_eq]; omega) ?_
        show jWp 31 63 [some (jO s), some (jI (i : Int))] [jO (nx + (2 * i + 4)), jI (i : Int), jO nx] (2 * i + 5) (46 * i + 646) (jnewo (M9, K9, R9, nx + (2 * i + 4), ao) 6 0) _
        refine jWp.blk mt 1 ?_
        show _ ∧ jWp 31 64 [some (jO s), some (jI (i : Int))] [jO (nx + (2 * i + 4)), jO (nx + (2 * i + 4)), jI (i : Int), jO nx] (2 * i + 5) (46 * i + 646) (jnewo (M9, K9, R9, nx + (2 * i + 4), ao) 6 0) _
        refine ⟨rfl, ?_⟩
        refine jWp.calli (as := [jO (nx + (2 * i + 4))]) (rest := [jO (nx + (2 * i + 4)), jI (i : Int), jO nx]) mt rfl rfl rfl (by show (Nat.ble ((2 * i + 5) + 1) 326 && Nat.ble ((46 * i + 646) + 44) 8050 && true && true) = true; simp only [Bool.and_eq_true, Nat.ble_eq, and_true]; omega) ⟨rfl, jtg (jN_s (w := (M9, K9, R9, nx + (2 * i + 4), ao)) (t := 6) (n := 0))⟩ ?_
        refine jCall.mono (I_seed_w (w := (jnewo (M9, K9, R9, nx + (2 * i + 4), ao) 6 0)) (s := (nx + (2 * i + 4))) (jN_s (w := (M9, K9, R9, nx + (2 * i + 4), ao)) (t := 6) (n := 0)) (show (nx + (2 * i + 4)) < (nx + (2 * i + 5)) by omega)) (fun v9 w9 h9 => ?_)
        obtain ⟨rfl, i1, g1_0, g1_1, g1_2, g1_3⟩ := h9
        obtain ⟨M1, K1, R1, n1, a1⟩ := w9
        have e1 : n1 = (nx + (2 * i + 6)) := i1.1
        subst n1
        have f1 : a1 = ao := i1.2.1
        subst a1
        show jWp 31 67 [some (jO s), some (jI (i : Int))] [jO (nx + (2 * i + 4)), jI (i : Int), jO nx] (2 * i + 6) (46 * i + 690) (M1, K1, R1, (nx + (2 * i + 6)), ao) _
        refine jWp.aas (pc' := 68) (j := i) mt rfl rfl (jak ((i1.2.2.1 nx (show nx < (nx + (2 * i + 5)) by omega)).trans ((jN_k (w := (M9, K9, R9, nx + (2 * i + 4), ao)) (t := 6) (n := 0) (show nx ≠ (nx + (2 * i + 4)) by omega)).trans hka)) ((i1.2.2.1 (nx + (2 * i + 4)) (show (nx + (2 * i + 4)) < (nx + (2 * i + 5)) by omega)).trans (jN_s (w := (M9, K9, R9, nx + (2 * i + 4), ao)) (t := 6) (n := 0))) (by decide) rfl) (b32_id (by omega) (by omega)) (jlt ((i1.2.2.1 nx (show nx < (nx + (2 * i + 5)) by omega)).trans ((jN_k (w := (M9, K9, R9, nx + (2 * i + 4), ao)) (t := 6) (n := 0) (show nx ≠ (nx + (2 * i + 4)) by omega)).trans hka)) (by omega)) ?_
        show jWp 31 68 [some (jO s), some (jI (i : Int))] [] (2 * i + 6) (46 * i + 690) (jPq (M1, K1, R1, (nx + (2 * i + 6)), ao) nx i (nx + (2 * i + 4))) _
        refine jWp.blk mt 2 ?_
        show jWp 31 48 [some (jO s), some (jI ((i : Int) + 1))] [] (2 * i + 6) (46 * i + 690) (jPq (M1, K1, R1, (nx + (2 * i + 6)), ao) nx i (nx + (2 * i + 4))) _
        refine jWp.le (l := [some (jO s), some (jI ((i : Int) + 1))]) (by exact ⟨rfl, rfl, trivial⟩) ?_
        exact ih2 (i + 1) ((jPq (M1, K1, R1, (nx + (2 * i + 6)), ao) nx i (nx + (2 * i + 4)))).1 ((jPq (M1, K1, R1, (nx + (2 * i + 6)), ao) nx i (nx + (2 * i + 4)))).2.1 ((jPq (M1, K1, R1, (nx + (2 * i + 6)), ao) nx i (nx + (2 * i + 4)))).2.2.1 (by omega) (ini_e (show ini (M0, K0, R0, nx, ao) s _ (jPq (M1, K1, R1, (nx + (2 * i + 6)), ao) nx i (nx + (2 * i + 4))) from (ini_t (ini_t (ini_t (ini_t ini_0 hin (Or.inl rfl)) ini_N (Or.inl rfl)) i1 (Or.inr (show nx ≤ (nx + (2 * i + 4)) by omega))) (ini_P (s := nx)) (Or.inr (show nx ≤ nx by omega)))) (by omega)) ((i1.2.2.1 nx (show nx < (nx + (2 * i + 5)) by omega)).trans ((jN_k (w := (M9, K9, R9, nx + (2 * i + 4), ao)) (t := 6) (n := 0) (show nx ≠ (nx + (2 * i + 4)) by omega)).trans hka)) ((jPq_n (w := (M1, K1, R1, (nx + (2 * i + 6)), ao)) (a := nx) (k := i) (v := (nx + (2 * i + 4))) (b := s) (j := 1) (Or.inl (by omega))).trans ((congrFun (i1.2.2.2 s (show s < (nx + (2 * i + 5)) by omega) (show s ≠ (nx + (2 * i + 4)) by omega)).1 1).trans ((jN_r (w := (M9, K9, R9, nx + (2 * i + 4), ao)) (t := 6) (n := 0) (a := s) (j := 1) (show s ≠ (nx + (2 * i + 4)) by omega)).trans hra))) ((congrFun (i1.2.2.2 s (show s < (nx + (2 * i + 5)) by omega) (show s ≠ (nx + (2 * i + 4)) by omega)).2 0).trans ((jN_m (w := (M9, K9, R9, nx + (2 * i + 4), ao)) (t := 6) (n := 0) (a := s) (j := 0) (show s ≠ (nx + (2 * i + 4)) by omega)).trans hm0)) ((i1.2.2.1 (nx + 1) (show (nx + 1) < (nx + (2 * i + 5)) by omega)).trans ((jN_k (w := (M9, K9, R9, nx + (2 * i + 4), ao)) (t := 6) (n := 0) (show (nx + 1) ≠ (nx + (2 * i + 4)) by omega)).trans hx0)) ((i1.2.2.1 (nx + 2) (show (nx + 2) < (nx + (2 * i + 5)) by omega)).trans ((jN_k (w := (M9, K9, R9, nx + (2 * i + 4), ao)) (t := 6) (n := 0) (show (nx + 2) ≠ (nx + (2 * i + 4)) by omega)).trans hx1)) ((i1.2.2.1 (nx + 3) (show (nx + 3) < (nx + (2 * i + 5)) by omega)).trans ((jN_k (w := (M9, K9, R9, nx + (2 * i + 4), ao)) (t := 6) (n := 0) (show (nx + 3) ≠ (nx + (2 * i + 4)) by omega)).trans hx2)) ((jPq_n (w := (M1, K1, R1, (nx + (2 * i + 6)), ao)) (a := nx) (k := i) (v := (nx + (2 * i + 4))) (b := s) (j := 2) (Or.inl (by omega))).trans ((congrFun (i1.2.2.2 s (show s < (nx + (2 * i + 5)) by omega) (show s ≠ (nx + (2 * i + 4)) by omega)).1 2).trans ((jN_r (w := (M9, K9, R9, nx + (2 * i + 4), ao)) (t := 6) (n := 0) (a := s) (j := 2) (show s ≠ (nx + (2 * i + 4)) by omega)).trans hx3))) ((jPq_n (w := (M1, K1, R1, (nx + (2 * i + 6)), ao)) (a := nx) (k := i) (v := (nx + (2 * i + 4))) (b := s) (j := 3) (Or.inl (by omega))).trans ((congrFun (i1.2.2.2 s (show s < (nx + (2 * i + 5)) by omega) (show s ≠ (nx + (2 * i + 4)) by omega)).1 3).trans ((jN_r (w := (M9, K9, R9, nx + (2 * i + 4), ao)) (t := 6) (n := 0) (a := s) (j := 3) (show s ≠ (nx + (2 * i + 4)) by omega)).trans hx4))) ((jPq_n (w := (M1, K1, R1, (nx + (2 * i + 6)), ao)) (a := nx) (k := i) (v := (nx + (2 * i + 4))) (b := s) (j := 4) (Or.inl (by omega))).trans ((congrFun (i1.2.2.2 s (show s < (nx + (2 * i + 5)) by omega) (show s ≠ (nx + (2 * i + 4)) by omega)).1 4).trans ((jN_r (w := (M9, K9, R9, nx + (2 * i + 4), ao)) (t := 6) (n := 0) (a := s) (j := 4) (show s ≠ (nx + (2 * i + 4)) by omega)).trans hx5))) (fun y hy => by
                rcases Nat.lt_or_ge y i with e | e
                · have g := hA y e
                  have q1 := fun a (ha : a < nx + (2 * i + 4)) => (jN_k (w := (M9, K9, R9, nx + (2 * i + 4), ao)) (t := 6) (n := 0) (a := a) (show a ≠ nx + (2 * i + 4) by omega))
                  have q2 := fun a (ha : a < nx + (2 * i + 4)) => i1.2.2.1 a (show a < nx + (2 * i + 5) by omega)
                  have q3 := fun a (ha : a < nx + (2 * i + 4)) => (i1.2.2.2 a (show a < nx + (2 * i + 5) by omega) (by omega)).1
                  have q4 := fun a j (ha : a < nx + (2 * i + 4)) => (jN_r (w := (M9, K9, R9, nx + (2 * i + 4), ao)) (t := 6) (n := 0) (a := a) (j := j) (show a ≠ nx + (2 * i + 4) by omega))
                  refine ⟨?_, ((q2 _ (by omega)).trans (q1 _ (by omega))).trans g.2.1, ((q2 _ (by omega)).trans (q1 _ (by omega))).trans g.2.2.1, ?_⟩
                  · exact (jPq_n (Or.inr (by omega))).trans ((congrFun (q3 nx (by omega)) y).trans ((q4 nx y (by omega)).trans g.1))
                  · exact (jPq_n (Or.inl (by omega))).trans ((congrFun (q3 _ (by omega)) 1).trans ((q4 _ 1 (by omega)).trans g.2.2.2))
                · have ey : y = i := by omega
                  subst ey
                  exact ⟨jPq_s, ((i1.2.2.1 (nx + (2 * y + 4)) (show (nx + (2 * y + 4)) < (nx + (2 * y + 5)) by omega)).trans (jN_s (w := (M9, K9, R9, nx + (2 * y + 4), ao)) (t := 6) (n := 0))), g1_0, (jPq_n (Or.inl (by omega))).trans g1_1⟩) (by omega)
  refine jWp.le (l := [some (jO s), some (jI 0)]) (by exact ⟨rfl, rfl, trivial⟩) ?_
  exact lp1 _ 0 ((jPq (jnewo (jPq (jnewo (jPq (jnewo (jPq (jnewo (jW (M0, K0, R0, nx, ao) s 0 0) 103 161) s 1 nx) 100 161) s 2 (nx + 1)) 100 161) s 3 (nx + 2)) 100 161) s 4 (nx + 3))).1 ((jPq (jnewo (jPq (jnewo (jPq (jnewo (jPq (jnewo (jW (M0, K0, R0, nx, ao) s 0 0) 103 161) s 1 nx) 100 161) s 2 (nx + 1)) 100 161) s 3 (nx + 2)) 100 161) s 4 (nx + 3))).2.1 ((jPq (jnewo (jPq (jnewo (jPq (jnewo (jPq (jnewo (jW (M0, K0, R0, nx, ao) s 0 0) 103 161) s 1 nx) 100 161) s 2 (nx + 1)) 100 161) s 3 (nx + 2)) 100 161) s 4 (nx + 3))).2.2.1 (by omega) (ini_e (show ini (M0, K0, R0, nx, ao) s _ (jPq (jnewo (jPq (jnewo (jPq (jnewo (jPq (jnewo (jW (M0, K0, R0, nx, ao) s 0 0) 103 161) s 1 nx) 100 161) s 2 (nx + 1)) 100 161) s 3 (nx + 2)) 100 161) s 4 (nx + 3)) from (ini_t (ini_t (ini_t (ini_t (ini_t (ini_t (ini_t (ini_t (ini_t ini_0 ini_W (Or.inl rfl)) ini_N (Or.inl rfl)) ini_P (Or.inl rfl)) ini_N (Or.inl rfl)) ini_P (Or.inl rfl)) ini_N (Or.inl rfl)) ini_P (Or.inl rfl)) ini_N (Or.inl rfl)) ini_P (Or.inl rfl))) (by omega)) ((jN_k (w := (jPq (jnewo (jPq (jnewo (jPq (jnewo (jW (M0, K0, R0, nx, ao) s 0 0) 103 161) s 1 nx) 100 161) s 2 (nx + 1)) 100 161) s 3 (nx + 2))) (t := 100) (n := 161) (show nx ≠ (nx + 3) by omega)).trans ((jN_k (w := (jPq (jnewo (jPq (jnewo (jW (M0, K0, R0, nx, ao) s 0 0) 103 161) s 1 nx) 100 161) s 2 (nx + 1))) (t := 100) (n := 161) (show nx ≠ (nx + 2) by omega)).trans ((jN_k (w := (jPq (jnewo (jW (M0, K0, R0, nx, ao) s 0 0) 103 161) s 1 nx)) (t := 100) (n := 161) (show nx ≠ (nx + 1) by omega)).trans (jN_s (w := (jW (M0, K0, R0, nx, ao) s 0 0)) (t := 103) (n := 161))))) ((jPq_n (w := (jnewo (jPq (jnewo (jPq (jnewo (jPq (jnewo (jW (M0, K0, R0, nx, ao) s 0 0) 103 161) s 1 nx) 100 161) s 2 (nx + 1)) 100 161) s 3 (nx + 2)) 100 161)) (a := s) (k := 4) (v := (nx + 3)) (b := s) (j := 1) (Or.inr (by omega))).trans ((jN_r (w := (jPq (jnewo (jPq (jnewo (jPq (jnewo (jW (M0, K0, R0, nx, ao) s 0 0) 103 161) s 1 nx) 100 161) s 2 (nx + 1)) 100 161) s 3 (nx + 2))) (t := 100) (n := 161) (a := s) (j := 1) (show s ≠ (nx + 3) by omega)).trans ((jPq_n (w := (jnewo (jPq (jnewo (jPq (jnewo (jW (M0, K0, R0, nx, ao) s 0 0) 103 161) s 1 nx) 100 161) s 2 (nx + 1)) 100 161)) (a := s) (k := 3) (v := (nx + 2)) (b := s) (j := 1) (Or.inr (by omega))).trans ((jN_r (w := (jPq (jnewo (jPq (jnewo (jW (M0, K0, R0, nx, ao) s 0 0) 103 161) s 1 nx) 100 161) s 2 (nx + 1))) (t := 100) (n := 161) (a := s) (j := 1) (show s ≠ (nx + 2) by omega)).trans ((jPq_n (w := (jnewo (jPq (jnewo (jW (M0, K0, R0, nx, ao) s 0 0) 103 161) s 1 nx) 100 161)) (a := s) (k := 2) (v := (nx + 1)) (b := s) (j := 1) (Or.inr (by omega))).trans ((jN_r (w := (jPq (jnewo (jW (M0, K0, R0, nx, ao) s 0 0) 103 161) s 1 nx)) (t := 100) (n := 161) (a := s) (j := 1) (show s ≠ (nx + 1) by omega)).trans (jPq_s (w := (jnewo (jW (M0, K0, R0, nx, ao) s 0 0) 103 161)) (a := s) (k := 1) (v := nx)))))))) ((jN_m (w := (jPq (jnewo (jPq (jnewo (jPq (jnewo (jW (M0, K0, R0, nx, ao) s 0 0) 103 161) s 1 nx) 100 161) s 2 (nx + 1)) 100 161) s 3 (nx + 2))) (t := 100) (n := 161) (a := s) (j := 0) (show s ≠ (nx + 3) by omega)).trans ((jN_m (w := (jPq (jnewo (jPq (jnewo (jW (M0, K0, R0, nx, ao) s 0 0) 103 161) s 1 nx) 100 161) s 2 (nx + 1))) (t := 100) (n := 161) (a := s) (j := 0) (show s ≠ (nx + 2) by omega)).trans ((jN_m (w := (jPq (jnewo (jW (M0, K0, R0, nx, ao) s 0 0) 103 161) s 1 nx)) (t := 100) (n := 161) (a := s) (j := 0) (show s ≠ (nx + 1) by omega)).trans ((jN_m (w := (jW (M0, K0, R0, nx, ao) s 0 0)) (t := 103) (n := 161) (a := s) (j := 0) (show s ≠ nx by omega)).trans (jW_s (w := (M0, K0, R0, nx, ao)) (a := s) (k := 0) (x := 0)))))) ((jN_k (w := (jPq (jnewo (jPq (jnewo (jPq (jnewo (jW (M0, K0, R0, nx, ao) s 0 0) 103 161) s 1 nx) 100 161) s 2 (nx + 1)) 100 161) s 3 (nx + 2))) (t := 100) (n := 161) (show (nx + 1) ≠ (nx + 3) by omega)).trans ((jN_k (w := (jPq (jnewo (jPq (jnewo (jW (M0, K0, R0, nx, ao) s 0 0) 103 161) s 1 nx) 100 161) s 2 (nx + 1))) (t := 100) (n := 161) (show (nx + 1) ≠ (nx + 2) by omega)).trans (jN_s (w := (jPq (jnewo (jW (M0, K0, R0, nx, ao) s 0 0) 103 161) s 1 nx)) (t := 100) (n := 161)))) ((jN_k (w := (jPq (jnewo (jPq (jnewo (jPq (jnewo (jW (M0, K0, R0, nx, ao) s 0 0) 103 161) s 1 nx) 100 161) s 2 (nx + 1)) 100 161) s 3 (nx + 2))) (t := 100) (n := 161) (show (nx + 2) ≠ (nx + 3) by omega)).trans (jN_s (w := (jPq (jnewo (jPq (jnewo (jW (M0, K0, R0, nx, ao) s 0 0) 103 161) s 1 nx) 100 161) s 2 (nx + 1))) (t := 100) (n := 161))) (jN_s (w := (jPq (jnewo (jPq (jnewo (jPq (jnewo (jW (M0, K0, R0, nx, ao) s 0 0) 103 161) s 1 nx) 100 161) s 2 (nx + 1)) 100 161) s 3 (nx + 2))) (t := 100) (n := 161)) ((jPq_n (w := (jnewo (jPq (jnewo (jPq (jnewo (jPq (jnewo (jW (M0, K0, R0, nx, ao) s 0 0) 103 161) s 1 nx) 100 161) s 2 (nx + 1)) 100 161) s 3 (nx + 2)) 100 161)) (a := s) (k := 4) (v := (nx + 3)) (b := s) (j := 2) (Or.inr (by omega))).trans ((jN_r (w := (jPq (jnewo (jPq (jnewo (jPq (jnewo (jW (M0, K0, R0, nx, ao) s 0 0) 103 161) s 1 nx) 100 161) s 2 (nx + 1)) 100 161) s 3 (nx + 2))) (t := 100) (n := 161) (a := s) (j := 2) (show s ≠ (nx + 3) by omega)).trans ((jPq_n (w := (jnewo (jPq (jnewo (jPq (jnewo (jW (M0, K0, R0, nx, ao) s 0 0) 103 161) s 1 nx) 100 161) s 2 (nx + 1)) 100 161)) (a := s) (k := 3) (v := (nx + 2)) (b := s) (j := 2) (Or.inr (by omega))).trans ((jN_r (w := (jPq (jnewo (jPq (jnewo (jW (M0, K0, R0, nx, ao) s 0 0) 103 161) s 1 nx) 100 161) s 2 (nx + 1))) (t := 100) (n := 161) (a := s) (j := 2) (show s ≠ (nx + 2) by omega)).trans (jPq_s (w := (jnewo (jPq (jnewo (jW (M0, K0, R0, nx, ao) s 0 0) 103 161) s 1 nx) 100 161)) (a := s) (k := 2) (v := (nx + 1))))))) ((jPq_n (w := (jnewo (jPq (jnewo (jPq (jnewo (jPq (jnewo (jW (M0, K0, R0, nx, ao) s 0 0) 103 161) s 1 nx) 100 161) s 2 (nx + 1)) 100 161) s 3 (nx + 2)) 100 161)) (a := s) (k := 4) (v := (nx + 3)) (b := s) (j := 3) (Or.inr (by omega))).trans ((jN_r (w := (jPq (jnewo (jPq (jnewo (jPq (jnewo (jW (M0, K0, R0, nx, ao) s 0 0) 103 161) s 1 nx) 100 161) s 2 (nx + 1)) 100 161) s 3 (nx + 2))) (t := 100) (n := 161) (a := s) (j := 3) (show s ≠ (nx + 3) by omega)).trans (jPq_s (w := (jnewo (jPq (jnewo (jPq (jnewo (jW (M0, K0, R0, nx, ao) s 0 0) 103 161) s 1 nx) 100 161) s 2 (nx + 1)) 100 161)) (a := s) (k := 3) (v := (nx + 2))))) (jPq_s (w := (jnewo (jPq (jnewo (jPq (jnewo (jPq (jnewo (jW (M0, K0, R0, nx, ao) s 0 0) 103 161) s 1 nx) 100 161) s 2 (nx + 1)) 100 161) s 3 (nx + 2)) 100 161)) (a := s) (k := 4) (v := (nx + 3))) (fun y hy => absurd hy (by omega)) (Nat.lt_succ_self _)
theorem I_search_w {w : jS} {s : Nat} (hk : w.2.1 s = (5, 0)) (hs : s < w.2.2.2.1) : jCall 31 [jO s] w (fun v w1 => v = none ∧ ini w s 326 w1 ∧ w1.2.1 w.2.2.2.1 = (103, 161) ∧ w1.2.2.1 s 1 = some w.2.2.2.1 ∧ w1.1 s 0 = 0 ∧ w1.2.1 (w.2.2.2.1 + 1) = (100, 161) ∧ w1.2.1 (w.2.2.2.1 + 2) = (100, 161) ∧ w1.2.1 (w.2.2.2.1 + 3) = (100, 161) ∧ w1.2.2.1 s 2 = some (w.2.2.2.1 + 1) ∧ w1.2.2.1 s 3 = some (w.2.2.2.1 + 2) ∧ w1.2.2.1 s 4 = some (w.2.2.2.1 + 3) ∧ ∀ y, y < 161 → w1.2.2.1 w.2.2.2.1 y = some (w.2.2.2.1 + (2 * y + 4)) ∧ w1.2.1 (w.2.2.2.1 + (2 * y + 4)) = (6, 0) ∧ w1.2.1 (w.2.2.2.1 + (2 * y + 5)) = (100, 44) ∧ w1.2.2.1 (w.2.2.2.1 + (2 * y + 4)) 1 = some (w.2.2.2.1 + (2 * y + 5))) := I_search (M0 := w.1) (K0 := w.2.1) (R0 := w.2.2.1) (nx := w.2.2.2.1) (ao := w.2.2.2.2) hk hs
