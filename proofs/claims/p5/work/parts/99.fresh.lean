theorem SK_t {g g' : (Nat → Nat × Nat) × (Nat → Nat → Option Nat) × Nat × Nat} {se : Nat} (h : SK g se) (E : ∀ a, se ≤ a → a < se + 327 → g'.1 a = g.1 a ∧ g'.2.1 a = g.2.1 a) : SK g' se :=
  ⟨(E _ (by omega) (by omega)).1.trans (h.1),
   (E _ (by omega) (by omega)).1.trans (h.2.1),
   (E _ (by omega) (by omega)).1.trans (h.2.2.1),
   (E _ (by omega) (by omega)).1.trans (h.2.2.2.1),
   (E _ (by omega) (by omega)).1.trans (h.2.2.2.2.1),
   (congrFun (E _ (by omega) (by omega)).2 _).trans (h.2.2.2.2.2.1),
   (congrFun (E _ (by omega) (by omega)).2 _).trans (h.2.2.2.2.2.2.1),
   (congrFun (E _ (by omega) (by omega)).2 _).trans (h.2.2.2.2.2.2.2.1),
   (congrFun (E _ (by omega) (by omega)).2 _).trans (h.2.2.2.2.2.2.2.2.1),
   fun i hi => (congrFun (E _ (by omega) (by omega)).2 _).trans (h.2.2.2.2.2.2.2.2.2.1 i hi),
   fun i hi => (E _ (by omega) (by omega)).1.trans (h.2.2.2.2.2.2.2.2.2.2.1 i hi),
   fun i hi => (E _ (by omega) (by omega)).1.trans (h.2.2.2.2.2.2.2.2.2.2.2.1 i hi),
   fun i hi => (congrFun (E _ (by omega) (by omega)).2 _).trans (h.2.2.2.2.2.2.2.2.2.2.2.2 i hi)⟩
theorem PK_t {g g' : (Nat → Nat × Nat) × (Nat → Nat → Option Nat) × Nat × Nat} {pa : Nat} (h : PK g pa) (E : ∀ a, pa ≤ a → a < pa + 18 → g'.1 a = g.1 a ∧ g'.2.1 a = g.2.1 a) : PK g' pa :=
  ⟨(E _ (by omega) (by omega)).1.trans (h.1),
   (E _ (by omega) (by omega)).1.trans (h.2.1),
   (congrFun (E _ (by omega) (by omega)).2 _).trans (h.2.2.1),
   fun i hi => (congrFun (E _ (by omega) (by omega)).2 _).trans (h.2.2.2.1 i hi),
   fun i hi => (E _ (by omega) (by omega)).1.trans (h.2.2.2.2.1 i hi),
   fun i hi => (E _ (by omega) (by omega)).1.trans (h.2.2.2.2.2.1 i hi),
   fun i hi => (congrFun (E _ (by omega) (by omega)).2 _).trans (h.2.2.2.2.2.2 i hi)⟩
theorem CW_t {g g' : (Nat → Nat × Nat) × (Nat → Nat → Option Nat) × Nat × Nat} {x : Nat} (h : CW g x) (E : ∀ a, x ≤ a → a < x + 393 → g'.1 a = g.1 a ∧ g'.2.1 a = g.2.1 a) : CW g' x :=
  ⟨(E _ (by omega) (by omega)).1.trans (h.1),
   (E _ (by omega) (by omega)).1.trans (h.2.1),
   (E _ (by omega) (by omega)).1.trans (h.2.2.1),
   (E _ (by omega) (by omega)).1.trans (h.2.2.2.1),
   (E _ (by omega) (by omega)).1.trans (h.2.2.2.2.1),
   (E _ (by omega) (by omega)).1.trans (h.2.2.2.2.2.1),
   (E _ (by omega) (by omega)).1.trans (h.2.2.2.2.2.2.1),
   (E _ (by omega) (by omega)).1.trans (h.2.2.2.2.2.2.2.1),
   (E _ (by omega) (by omega)).1.trans (h.2.2.2.2.2.2.2.2.1),
   (E _ (by omega) (by omega)).1.trans (h.2.2.2.2.2.2.2.2.2.1),
   (E _ (by omega) (by omega)).1.trans (h.2.2.2.2.2.2.2.2.2.2.1),
   (E _ (by omega) (by omega)).1.trans (h.2.2.2.2.2.2.2.2.2.2.2.1),
   (E _ (by omega) (by omega)).1.trans (h.2.2.2.2.2.2.2.2.2.2.2.2.1),
   (E _ (by omega) (by omega)).1.trans (h.2.2.2.2.2.2.2.2.2.2.2.2.2.1),
   (E _ (by omega) (by omega)).1.trans (h.2.2.2.2.2.2.2.2.2.2.2.2.2.2.1),
   (E _ (by omega) (by omega)).1.trans (h.2.2.2.2.2.2.2.2.2.2.2.2.2.2.2.1),
   (E _ (by omega) (by omega)).1.trans (h.2.2.2.2.2.2.2.2.2.2.2.2.2.2.2.2.1),
   (E _ (by omega) (by omega)).1.trans (h.2.2.2.2.2.2.2.2.2.2.2.2.2.2.2.2.2.1),
   SK_t (h.2.2.2.2.2.2.2.2.2.2.2.2.2.2.2.2.2.2.1) (fun a _ _ => E a (by omega) (by omega)),
   PK_t (h.2.2.2.2.2.2.2.2.2.2.2.2.2.2.2.2.2.2.2.1) (fun a _ _ => E a (by omega) (by omega)),
   fun i hi => (E _ (by omega) (by omega)).1.trans (h.2.2.2.2.2.2.2.2.2.2.2.2.2.2.2.2.2.2.2.2.1 i hi),
   fun i hi => (E _ (by omega) (by omega)).1.trans (h.2.2.2.2.2.2.2.2.2.2.2.2.2.2.2.2.2.2.2.2.2.1 i hi),
   fun i hi => (E _ (by omega) (by omega)).1.trans (h.2.2.2.2.2.2.2.2.2.2.2.2.2.2.2.2.2.2.2.2.2.2.1 i hi),
   fun i hi => (E _ (by omega) (by omega)).1.trans (h.2.2.2.2.2.2.2.2.2.2.2.2.2.2.2.2.2.2.2.2.2.2.2.1 i hi),
   fun i hi => (E _ (by omega) (by omega)).1.trans (h.2.2.2.2.2.2.2.2.2.2.2.2.2.2.2.2.2.2.2.2.2.2.2.2.1 i hi),
   fun i hi => (E _ (by omega) (by omega)).1.trans (h.2.2.2.2.2.2.2.2.2.2.2.2.2.2.2.2.2.2.2.2.2.2.2.2.2.1 i hi),
   fun i hi => (E _ (by omega) (by omega)).1.trans (h.2.2.2.2.2.2.2.2.2.2.2.2.2.2.2.2.2.2.2.2.2.2.2.2.2.2.1 i hi),
   fun i hi => (E _ (by omega) (by omega)).1.trans (h.2.2.2.2.2.2.2.2.2.2.2.2.2.2.2.2.2.2.2.2.2.2.2.2.2.2.2.1 i hi),
   (congrFun (E _ (by omega) (by omega)).2 _).trans (h.2.2.2.2.2.2.2.2.2.2.2.2.2.2.2.2.2.2.2.2.2.2.2.2.2.2.2.2.1),
   (congrFun (E _ (by omega) (by omega)).2 _).trans (h.2.2.2.2.2.2.2.2.2.2.2.2.2.2.2.2.2.2.2.2.2.2.2.2.2.2.2.2.2.1),
   (congrFun (E _ (by omega) (by omega)).2 _).trans (h.2.2.2.2.2.2.2.2.2.2.2.2.2.2.2.2.2.2.2.2.2.2.2.2.2.2.2.2.2.2.1),
   (congrFun (E _ (by omega) (by omega)).2 _).trans (h.2.2.2.2.2.2.2.2.2.2.2.2.2.2.2.2.2.2.2.2.2.2.2.2.2.2.2.2.2.2.2.1),
   (congrFun (E _ (by omega) (by omega)).2 _).trans (h.2.2.2.2.2.2.2.2.2.2.2.2.2.2.2.2.2.2.2.2.2.2.2.2.2.2.2.2.2.2.2.2.1),
   (congrFun (E _ (by omega) (by omega)).2 _).trans (h.2.2.2.2.2.2.2.2.2.2.2.2.2.2.2.2.2.2.2.2.2.2.2.2.2.2.2.2.2.2.2.2.2.1),
   (congrFun (E _ (by omega) (by omega)).2 _).trans (h.2.2.2.2.2.2.2.2.2.2.2.2.2.2.2.2.2.2.2.2.2.2.2.2.2.2.2.2.2.2.2.2.2.2.1),
   (congrFun (E _ (by omega) (by omega)).2 _).trans (h.2.2.2.2.2.2.2.2.2.2.2.2.2.2.2.2.2.2.2.2.2.2.2.2.2.2.2.2.2.2.2.2.2.2.2.1),
   (congrFun (E _ (by omega) (by omega)).2 _).trans (h.2.2.2.2.2.2.2.2.2.2.2.2.2.2.2.2.2.2.2.2.2.2.2.2.2.2.2.2.2.2.2.2.2.2.2.2.1),
   (congrFun (E _ (by omega) (by omega)).2 _).trans (h.2.2.2.2.2.2.2.2.2.2.2.2.2.2.2.2.2.2.2.2.2.2.2.2.2.2.2.2.2.2.2.2.2.2.2.2.2.1),
   (congrFun (E _ (by omega) (by omega)).2 _).trans (h.2.2.2.2.2.2.2.2.2.2.2.2.2.2.2.2.2.2.2.2.2.2.2.2.2.2.2.2.2.2.2.2.2.2.2.2.2.2.1),
   (congrFun (E _ (by omega) (by omega)).2 _).trans (h.2.2.2.2.2.2.2.2.2.2.2.2.2.2.2.2.2.2.2.2.2.2.2.2.2.2.2.2.2.2.2.2.2.2.2.2.2.2.2.1),
   (congrFun (E _ (by omega) (by omega)).2 _).trans (h.2.2.2.2.2.2.2.2.2.2.2.2.2.2.2.2.2.2.2.2.2.2.2.2.2.2.2.2.2.2.2.2.2.2.2.2.2.2.2.2.1),
   (congrFun (E _ (by omega) (by omega)).2 _).trans (h.2.2.2.2.2.2.2.2.2.2.2.2.2.2.2.2.2.2.2.2.2.2.2.2.2.2.2.2.2.2.2.2.2.2.2.2.2.2.2.2.2.1),
   (congrFun (E _ (by omega) (by omega)).2 _).trans (h.2.2.2.2.2.2.2.2.2.2.2.2.2.2.2.2.2.2.2.2.2.2.2.2.2.2.2.2.2.2.2.2.2.2.2.2.2.2.2.2.2.2.1),
   (congrFun (E _ (by omega) (by omega)).2 _).trans (h.2.2.2.2.2.2.2.2.2.2.2.2.2.2.2.2.2.2.2.2.2.2.2.2.2.2.2.2.2.2.2.2.2.2.2.2.2.2.2.2.2.2.2.1),
   (congrFun (E _ (by omega) (by omega)).2 _).trans (h.2.2.2.2.2.2.2.2.2.2.2.2.2.2.2.2.2.2.2.2.2.2.2.2.2.2.2.2.2.2.2.2.2.2.2.2.2.2.2.2.2.2.2.2.1),
   (congrFun (E _ (by omega) (by omega)).2 _).trans (h.2.2.2.2.2.2.2.2.2.2.2.2.2.2.2.2.2.2.2.2.2.2.2.2.2.2.2.2.2.2.2.2.2.2.2.2.2.2.2.2.2.2.2.2.2.1),
   (congrFun (E _ (by omega) (by omega)).2 _).trans (h.2.2.2.2.2.2.2.2.2.2.2.2.2.2.2.2.2.2.2.2.2.2.2.2.2.2.2.2.2.2.2.2.2.2.2.2.2.2.2.2.2.2.2.2.2.2.1),
   fun i hi => (congrFun (E _ (by omega) (by omega)).2 _).trans (h.2.2.2.2.2.2.2.2.2.2.2.2.2.2.2.2.2.2.2.2.2.2.2.2.2.2.2.2.2.2.2.2.2.2.2.2.2.2.2.2.2.2.2.2.2.2.2.1 i hi),
   fun i hi => (congrFun (E _ (by omega) (by omega)).2 _).trans (h.2.2.2.2.2.2.2.2.2.2.2.2.2.2.2.2.2.2.2.2.2.2.2.2.2.2.2.2.2.2.2.2.2.2.2.2.2.2.2.2.2.2.2.2.2.2.2.2.1 i hi),
   fun i hi => (congrFun (E _ (by omega) (by omega)).2 _).trans (h.2.2.2.2.2.2.2.2.2.2.2.2.2.2.2.2.2.2.2.2.2.2.2.2.2.2.2.2.2.2.2.2.2.2.2.2.2.2.2.2.2.2.2.2.2.2.2.2.2.1 i hi),
   fun i hi => (congrFun (E _ (by omega) (by omega)).2 _).trans (h.2.2.2.2.2.2.2.2.2.2.2.2.2.2.2.2.2.2.2.2.2.2.2.2.2.2.2.2.2.2.2.2.2.2.2.2.2.2.2.2.2.2.2.2.2.2.2.2.2.2.1 i hi),
   fun i hi => (congrFun (E _ (by omega) (by omega)).2 _).trans (h.2.2.2.2.2.2.2.2.2.2.2.2.2.2.2.2.2.2.2.2.2.2.2.2.2.2.2.2.2.2.2.2.2.2.2.2.2.2.2.2.2.2.2.2.2.2.2.2.2.2.2.1 i hi),
   fun i hi => (congrFun (E _ (by omega) (by omega)).2 _).trans (h.2.2.2.2.2.2.2.2.2.2.2.2.2.2.2.2.2.2.2.2.2.2.2.2.2.2.2.2.2.2.2.2.2.2.2.2.2.2.2.2.2.2.2.2.2.2.2.2.2.2.2.2.1 i hi),
   fun i hi => (congrFun (E _ (by omega) (by omega)).2 _).trans (h.2.2.2.2.2.2.2.2.2.2.2.2.2.2.2.2.2.2.2.2.2.2.2.2.2.2.2.2.2.2.2.2.2.2.2.2.2.2.2.2.2.2.2.2.2.2.2.2.2.2.2.2.2.1 i hi),
   fun i hi => (congrFun (E _ (by omega) (by omega)).2 _).trans (h.2.2.2.2.2.2.2.2.2.2.2.2.2.2.2.2.2.2.2.2.2.2.2.2.2.2.2.2.2.2.2.2.2.2.2.2.2.2.2.2.2.2.2.2.2.2.2.2.2.2.2.2.2.2 i hi)⟩
set_option maxHeartbeats 4000000 in
/-- both objects, made: they tell the same -/
theorem I_fresh {w0 : jS} (hO : jOK w0) (hao : w0.2.2.2.2 < w0.2.2.2.1) : jCall 91 [jO w0.2.2.2.1] (jnewo w0 9 0) (fun v w1 => v = none ∧ w1.2.2.2.1 = w0.2.2.2.1 + 393 ∧ jCall 134 [jO (w0.2.2.2.1 + 393)] (jnewo w1 10 0) (fun v' w2 => v' = none ∧ zRel True w0.2.2.2.1 (w0.2.2.2.1 + 393) w2 ∧ zeq (w2.1 (w0.2.2.2.1 + 393 + 1)) (zNw 2))) := by
  obtain ⟨x, hx⟩ : ∃ x, w0.2.2.2.1 = x := ⟨_, rfl⟩
  have k0 : (jnewo w0 9 0).2.1 x = (9, 0) := by rw [← hx]; exact jelN_kd
  have ka : ∀ a, a ≠ x → (jnewo w0 9 0).2.1 a = w0.2.1 a := fun a ha => by rw [← hx] at ha; exact if_neg ha
  have ma : ∀ a, a ≠ x → (jnewo w0 9 0).1 a = w0.1 a := fun a ha => by rw [← hx] at ha; exact funext fun j => if_neg ha
  rw [hx] at hao ⊢
  have hst : (jnewo w0 9 0) = ((jnewo w0 9 0).1, (jnewo w0 9 0).2.1, (jnewo w0 9 0).2.2.1, x + 1, w0.2.2.2.2) := by rw [← hx]; rfl
  rw [hst]
  refine (I_class (nx := x + 1) (s := x) k0 (by omega)).mono (fun v w1 hc => ?_)
  obtain ⟨rfl, hnx, hao1, hK, hM, hk, hr, ⟨c1, c3, c5, c339, c341⟩, href, hcR, hs1, hs2, hw, ht⟩ := hc
  have hX : CW w1.2 x := I_CW ((hK x (by omega)).trans k0) hk hr hs1 hs2 hw ht
  refine ⟨rfl, by rw [hnx], ?_⟩
  have hm : w1.2.2.2.1 = x + 393 := by rw [hnx]
  have k2 : (jnewo w1 10 0).2.1 (x + 393) = (10, 0) := by rw [← hm]; exact jelN_kd
  have z2 : ∀ j, (jnewo w1 10 0).1 (x + 393) j = 0 := fun j => by rw [← hm]; exact if_pos rfl
  have kb : ∀ a, a < x + 393 → (jnewo w1 10 0).2.1 a = w1.2.1 a := fun a ha => if_neg (by omega)
  have rb : ∀ a, a < x + 393 → (jnewo w1 10 0).2.2.1 a = w1.2.2.1 a := fun a ha => funext fun j => if_neg (by omega)
  have mb : ∀ a, a < x + 393 → (jnewo w1 10 0).1 a = w1.1 a := fun a ha => funext fun j => if_neg (by omega)
  have hst2 : (jnewo w1 10 0) = ((jnewo w1 10 0).1, (jnewo w1 10 0).2.1, (jnewo w1 10 0).2.2.1, x + 393 + 1, w0.2.2.2.2) := by
    rw [← hm, ← hao1]; rfl
  rw [hst2]
  refine (I_model (s := x + 393) k2 (by omega) z2).mono (fun v w2 he => ?_)
  obtain ⟨rfl, -, hao2, hK2, hM2, hMW, S, hS, hnew, e15, e24, e31, e2, e3, e423, e425⟩ := he
  refine ⟨rfl, ?_, by rw [hS]; exact znew_e hnew⟩
  have C : ∀ a, a < x + 393 → w2.1 a = w1.1 a := fun a ha => ((hM2 a (by omega) (by omega)).2).trans (mb a ha)
  have hz2 := zQ_new (n := 2) (by decide) (by decide)
  have cao : w2.1 w0.2.2.2.2 = w0.1 w0.2.2.2.2 := (C _ (by omega)).trans (((hM _ (by omega) (by omega)).2).trans (ma _ (by omega)))
  have kao : w2.2.1 w0.2.2.2.2 = w0.2.1 w0.2.2.2.2 := (hK2 _ (by omega)).trans ((kb _ (by omega)).trans ((hK _ (by omega)).trans (ka _ (by omega))))
  refine ⟨⟨CW_t hX (fun a a0 a1 => ⟨(hK2 a (by omega)).trans (kb a a1), ((hM2 a (by omega) (by omega)).1).trans (rb a a1)⟩), hMW, ⟨?_, fun j => ?_⟩, by omega, by rw [hao2]; exact hao⟩, ⟨0, ⟨e2 0, by decide, fun i hi => absurd hi (by omega)⟩, ?_, fun i hi => absurd hi (by omega)⟩, ⟨2, zQ_c ?_ hz2, ?_, ?_⟩, ⟨0, by decide, e15, ?_, fun y hy => absurd hy (by omega)⟩, Or.inl ⟨e31, ?_⟩, fun y hy => ⟨?_, ?_, fun j hj => ⟨?_, ?_⟩⟩, ⟨0, by decide, e24, ?_, fun j hj => absurd hj (by omega)⟩, fun j hj => ?_⟩
  · rw [hao2, kao]
    exact hO.1
  · rw [hao2, cao]
    exact hO.2 j
  · rw [C x (by omega)]
    exact c1
  · rw [hS]
    exact znew_e hnew
  · rw [C (x + 3) (by omega)]
    exact c5
  · rw [C (x + 4) (by omega), hS]
    exact cR_c (znew_e hnew) (hcR True)
  · rw [C (x + 341) (by omega)]
    exact c341
  · rw [C x (by omega)]
    exact c3
  · rw [C _ (by omega), e423 y hy, show x + (387 + 2 * y) = x + 1 + (2 * y + 386) by omega]
    exact (ht y hy).2.2.2.2.1
  · rw [e423 y hy]
    decide
  · rw [C _ (by omega), e425 y j hy, show x + (388 + 2 * y) = x + 1 + (2 * y + 387) by omega]
    exact (ht y hy).2.2.2.2.2 j
  · rw [e425 y j hy]
    exact ⟨by decide, by decide⟩
  · rw [C (x + 339) (by omega)]
    exact c339
  · rw [C (x + 362) (by omega), e3 (j + 1)]
    exact href j
