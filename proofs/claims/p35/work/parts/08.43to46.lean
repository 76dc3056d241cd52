section
theorem E_keepsW {W : jS} {m len x n : Nat} {law f : Int} {T : Nat → Int} {g} (hW : MW g m) (hg : W.2 = g) (e4 : W.1 (m + 4) = T) (hl : W.1 m 4 = (len : Int)) (hl60 : len ≤ 60) (hb : ∀ j, j < len → -100000000 ≤ T j ∧ T j ≤ 100000000) (hx : x < 4) (hlaw : W.1 (m + 2) (1 + 10 * x) = law) (hfig : W.1 (m + 2) (2 + 10 * x) = f) (hl0 : 0 ≤ law) (hl6 : law ≤ 6) (hf : 0 ≤ f ∧ f ≤ 9) (hn : n < 2147483648) : jCall 153 [jO m, jI (x : Int), jI (n : Int)] W (fun v w1 => (v = some (jI 1) ∧ zkp law T len n ∧ w1 = jW (jW W m 8 (zu (zku law f T n) (zkd law T n))) m 9 (zv (zku law f T n) (zkd law T n)) ∧ (-200000000000000000 ≤ (zu (zku law f T n) (zkd law T n)) ∧ (zu (zku law f T n) (zkd law T n)) ≤ 200000000000000000) ∧ 1 ≤ (zv (zku law f T n) (zkd law T n)) ∧ (zv (zku law f T n) (zkd law T n)) ≤ 200000000000000000) ∨ (v = some (jI 0) ∧ ¬ zkp law T len n ∧ w1 = W)) := by
  subst hg
  subst e4
  exact E_keeps hW hl hl60 hb hx hlaw hfig hl0 hl6 hf hn
set_option maxHeartbeats 4000000 in
set_option maxRecDepth 20000 in
theorem E_kept {w : jS} {m : Nat} (hW : MW w.2 m) {c : Nat} (hR : zRw (w.1 (m + 2)) c) {r n a : Int} (hrr : r32 r) (hrn : r32 n) (hra : r32 a) : jCall 154 [jO m, jI r, jI n, jI a] w (fun v w1 => ((¬ (0 ≤ r ∧ r < (c : Int))) → jno w m 1 (jJ (4000000000000000000 - (-1))) v w1) ∧ (¬ (¬ (0 ≤ r ∧ r < (c : Int))) → (¬ (0 ≤ a ∧ a ≤ 1)) → jno w m 2 (jJ (4000000000000000000 - (-2))) v w1) ∧ (¬ (¬ (0 ≤ r ∧ r < (c : Int))) → ¬ (¬ (0 ≤ a ∧ a ≤ 1)) → (n < 0) → jno w m 4 (jJ (4000000000000000000 - (-4))) v w1) ∧ (¬ (¬ (0 ≤ r ∧ r < (c : Int))) → ¬ (¬ (0 ≤ a ∧ a ≤ 1)) → ¬ (n < 0) → ∃ (t : Nat → Int) (len : Nat) (why left : Int), zTR (w.1 (m + 2)) r.toNat t len why left ∧ ((zkp (w.1 (m + 2) (1 + 10 * r.toNat)) t len n.toNat ∧ v = some (jJ (if a = 0 then (zu (zku (w.1 (m + 2) (1 + 10 * r.toNat)) (w.1 (m + 2) (2 + 10 * r.toNat)) t n.toNat) (zkd (w.1 (m + 2) (1 + 10 * r.toNat)) t n.toNat)) else (zv (zku (w.1 (m + 2) (1 + 10 * r.toNat)) (w.1 (m + 2) (2 + 10 * r.toNat)) t n.toNat) (zkd (w.1 (m + 2) (1 + 10 * r.toNat)) t n.toNat)))) ∧ mq w m w1) ∨ (¬ zkp (w.1 (m + 2) (1 + 10 * r.toNat)) t len n.toNat ∧ jnq w m 3 (jJ (4000000000000000000 - (-3))) v w1)))) := by
  have mt : jtb 154 = jT154 := rfl
  have hc4 := hR.2.1
  have hrr1 : -2147483648 ≤ r ∧ r < 2147483648 := hrr
  have hrn1 : -2147483648 ≤ n ∧ n < 2147483648 := hrn
  have hra1 : -2147483648 ≤ a ∧ a < 2147483648 := hra
  show jWp 154 0 [some (jO m), some (jI r), some (jI n), some (jI a)] [] 0 0 w _
  refine jWp.blk mt 2 ?_
  show _ ∧ jWp 154 2 [some (jO m), some (jI r), some (jI n), some (jI a)] [jI r, jO m] 0 0 w _
  refine ⟨rfl, ?_⟩
  refine jWp.callv (as := [jO m, jI r]) (rest := []) mt rfl rfl rfl ⟨rfl, jtg hW.K0⟩ ?_
  refine jCall.mono (E_isRow hW hR hrr) (fun v9 w9 h9 => ?_)
  rcases h9 with ⟨rfl, h9, h1⟩ | ⟨rfl, h9, h1⟩ <;> subst w9
  · have h1 : 0 ≤ r ∧ r < (c : Int) := h1
    show jWp 154 5 [some (jO m), some (jI r), some (jI n), some (jI a)] [jI 1] 0 0 w _
    obtain ⟨r1, rfl⟩ : ∃ r1 : Nat, r = (r1 : Int) := ⟨r.toNat, by omega⟩
    show jWp 154 5 [some (jO m), some (jI (r1 : Int)), some (jI n), some (jI a)] [jI 1] 0 0 w _
    have hRr := hR.2.2 r1 (by omega)
    have hRo := zO_b hRr.1.1 hRr.1.2
    refine jWp.ifc (b := true) mt rfl (by decide) rfl ?_
    show jWp 154 14 [some (jO m), some (jI (r1 : Int)), some (jI n), some (jI a)] [] 0 0 w _
    refine jWp.blk mt 1 ?_
    show jWp 154 15 [some (jO m), some (jI (r1 : Int)), some (jI n), some (jI a)] [jI a] 0 0 w _
    refine jWp.i2l (pc' := 16) mt rfl rfl (b32_id (by omega) (by omega)) ?_
    show jWp 154 16 [some (jO m), some (jI (r1 : Int)), some (jI n), some (jI a)] [jJ a] 0 0 w _
    refine jWp.blk mt 2 ?_
    show jWp 154 18 [some (jO m), some (jI (r1 : Int)), some (jI n), some (jI a)] [jJ 1, jJ 0, jJ a] 0 0 w _
    refine jWp.calls (as := [jJ a, jJ 0, jJ 1]) (rest := []) mt rfl rfl rfl rfl ?_
    refine jCall.mono (E_in (b64_id (by omega) (by omega)) (show b64 0 = 0 by decide) (show b64 1 = 1 by decide)) (fun v9 w9 h9 => ?_)
    rcases h9 with ⟨rfl, h9, h2⟩ | ⟨rfl, h9, h2⟩ <;> subst w9
    · have h2 : 0 ≤ a ∧ a ≤ 1 := h2
      show jWp 154 21 [some (jO m), some (jI (r1 : Int)), some (jI n), some (jI a)] [jI 1] 0 0 w _
      refine jWp.ifc (b := true) mt rfl (by decide) rfl ?_
      show jWp 154 31 [some (jO m), some (jI (r1 : Int)), some (jI n), some (jI a)] [] 0 0 w _
      refine jWp.blk mt 1 ?_
      show jWp 154 32 [some (jO m), some (jI (r1 : Int)), some (jI n), some (jI a)] [jI n] 0 0 w _
      refine jWp.ifz (pc' := 35) mt rfl rfl (b32_id (by omega) (by omega)) (fun h3 => ?_) (fun h3 => ?_)
      · have h3 : 0 ≤ n := h3
        obtain ⟨n1, rfl⟩ : ∃ n1 : Nat, n = (n1 : Int) := ⟨n.toNat, by omega⟩
        show jWp 154 42 [some (jO m), some (jI (r1 : Int)), some (jI (n1 : Int)), some (jI a)] [] 0 0 w _
        refine jWp.blk mt 2 ?_
        show _ ∧ jWp 154 44 [some (jO m), some (jI (r1 : Int)), some (jI (n1 : Int)), some (jI a)] [jI (r1 : Int), jO m] 0 0 w _
        refine ⟨rfl, ?_⟩
        refine jWp.callv (as := [jO m, jI (r1 : Int)]) (rest := []) mt rfl rfl rfl ⟨rfl, jtg hW.K0⟩ ?_
        refine jCall.mono (E_termsW (w := w) (W := w) (x := r1) hW hR (by omega) mq_0) (fun v9 w9 h9 => ?_)
        obtain ⟨rfl, hF, hmq, len, why, left, k4, k5, k6, hTR⟩ := h9
        obtain ⟨M1, G9⟩ := w9
        have hg : G9 = w.2 := hmq.1
        subst hg
        have k4 : M1 m 4 = (len : Int) := k4
        have hTR : zTR (w.1 (m + 2)) r1 (M1 (m + 4)) len why left := hTR
        have hTb := zTR_b hR (by omega) hTR
        have hM2 : M1 (m + 2) = w.1 (m + 2) := hmq.2.1 _ (by omega)
        show jWp 154 47 [some (jO m), some (jI (r1 : Int)), some (jI (n1 : Int)), some (jI a)] [] 0 0 (M1, w.2) _
        refine jWp.blk mt 3 ?_
        show _ ∧ jWp 154 50 [some (jO m), some (jI (r1 : Int)), some (jI (n1 : Int)), some (jI a)] [jI (n1 : Int), jI (r1 : Int), jO m] 0 0 (M1, w.2) _
        refine ⟨rfl, ?_⟩
        refine jWp.callv (as := [jO m, jI (r1 : Int), jI (n1 : Int)]) (rest := []) mt rfl rfl rfl ⟨rfl, jtg hW.K0⟩ ?_
        refine jCall.mono (E_keepsW (W := (M1, w.2)) (T := M1 (m + 4)) (len := len) (x := r1) (n := n1) (law := (w.1 (m + 2) (1 + 10 * r1))) (f := (w.1 (m + 2) (2 + 10 * r1))) hW rfl rfl ( k4) hTb.1 hTb.2.2 (by omega) (congrFun ( hM2) _) (congrFun ( hM2) _) hRr.1.1 hRr.1.2 hRr.2.1 (by omega)) (fun v9 w9 h9 => ?_)
        rcases h9 with ⟨rfl, hk5, h9, hub, hdb⟩ | ⟨rfl, hk5, h9⟩ <;> subst h9
        · have hk5' := hk5
          show jWp 154 53 [some (jO m), some (jI (r1 : Int)), some (jI (n1 : Int)), some (jI a)] [jI 1] 0 0 (jW (jW (M1, w.2) m 8 (zu (zku (w.1 (m + 2) (1 + 10 * r1)) (w.1 (m + 2) (2 + 10 * r1)) (M1 (m + 4)) n1) (zkd (w.1 (m + 2) (1 + 10 * r1)) (M1 (m + 4)) n1))) m 9 (zv (zku (w.1 (m + 2) (1 + 10 * r1)) (w.1 (m + 2) (2 + 10 * r1)) (M1 (m + 4)) n1) (zkd (w.1 (m + 2) (1 + 10 * r1)) (M1 (m + 4)) n1))) _
          refine jWp.ifc (b := true) mt rfl (by decide) rfl ?_
          show jWp 154 63 [some (jO m), some (jI (r1 : Int)), some (jI (n1 : Int)), some (jI a)] [] 0 0 (jW (jW (M1, w.2) m 8 (zu (zku (w.1 (m + 2) (1 + 10 * r1)) (w.1 (m + 2) (2 + 10 * r1)) (M1 (m + 4)) n1) (zkd (w.1 (m + 2) (1 + 10 * r1)) (M1 (m + 4)) n1))) m 9 (zv (zku (w.1 (m + 2) (1 + 10 * r1)) (w.1 (m + 2) (2 + 10 * r1)) (M1 (m + 4)) n1) (zkd (w.1 (m + 2) (1 + 10 * r1)) (M1 (m + 4)) n1))) _
          refine jWp.blk mt 1 ?_
          show jWp 154 64 [some (jO m), some (jI (r1 : Int)), some (jI (n1 : Int)), some (jI a)] [jI a] 0 0 (jW (jW (M1, w.2) m 8 (zu (zku (w.1 (m + 2) (1 + 10 * r1)) (w.1 (m + 2) (2 + 10 * r1)) (M1 (m + 4)) n1) (zkd (w.1 (m + 2) (1 + 10 * r1)) (M1 (m + 4)) n1))) m 9 (zv (zku (w.1 (m + 2) (1 + 10 * r1)) (w.1 (m + 2) (2 + 10 * r1)) (M1 (m + 4)) n1) (zkd (w.1 (m + 2) (1 + 10 * r1)) (M1 (m + 4)) n1))) _
          refine jWp.ifz (pc' := 67) mt rfl rfl (b32_id (by omega) (by omega)) (fun h6 => ?_) (fun h6 => ?_)
          · have h6 : a ≠ 0 := h6
            refine jWp.blk mt 1 ?_
            show _ ∧ jWp 154 75 [some (jO m), some (jI (r1 : Int)), some (jI (n1 : Int)), some (jI a)] [jO m] 0 0 (jW (jW (M1, w.2) m 8 (zu (zku (w.1 (m + 2) (1 + 10 * r1)) (w.1 (m + 2) (2 + 10 * r1)) (M1 (m + 4)) n1) (zkd (w.1 (m + 2) (1 + 10 * r1)) (M1 (m + 4)) n1))) m 9 (zv (zku (w.1 (m + 2) (1 + 10 * r1)) (w.1 (m + 2) (2 + 10 * r1)) (M1 (m + 4)) n1) (zkd (w.1 (m + 2) (1 + 10 * r1)) (M1 (m + 4)) n1))) _
            refine ⟨rfl, ?_⟩
            refine jWp.getJ (pc' := 78) mt rfl rfl (jtg hW.K0) ?_
            rw [show ((jW (jW (M1, w.2) m 8 (zu (zku (w.1 (m + 2) (1 + 10 * r1)) (w.1 (m + 2) (2 + 10 * r1)) (M1 (m + 4)) n1) (zkd (w.1 (m + 2) (1 + 10 * r1)) (M1 (m + 4)) n1))) m 9 (zv (zku (w.1 (m + 2) (1 + 10 * r1)) (w.1 (m + 2) (2 + 10 * r1)) (M1 (m + 4)) n1) (zkd (w.1 (m + 2) (1 + 10 * r1)) (M1 (m + 4)) n1))).1 m 9) = (zv (zku (w.1 (m + 2) (1 + 10 * r1)) (w.1 (m + 2) (2 + 10 * r1)) (M1 (m + 4)) n1) (zkd (w.1 (m + 2) (1 + 10 * r1)) (M1 (m + 4)) n1)) from jW_s]
            show jWp 154 78 [some (jO m), some (jI (r1 : Int)), some (jI (n1 : Int)), some (jI a)] [jJ (zv (zku (w.1 (m + 2) (1 + 10 * r1)) (w.1 (m + 2) (2 + 10 * r1)) (M1 (m + 4)) n1) (zkd (w.1 (m + 2) (1 + 10 * r1)) (M1 (m + 4)) n1))] 0 0 (jW (jW (M1, w.2) m 8 (zu (zku (w.1 (m + 2) (1 + 10 * r1)) (w.1 (m + 2) (2 + 10 * r1)) (M1 (m + 4)) n1) (zkd (w.1 (m + 2) (1 + 10 * r1)) (M1 (m + 4)) n1))) m 9 (zv (zku (w.1 (m + 2) (1 + 10 * r1)) (w.1 (m + 2) (2 + 10 * r1)) (M1 (m + 4)) n1) (zkd (w.1 (m + 2) (1 + 10 * r1)) (M1 (m + 4)) n1))) _
            refine jWp.lret mt rfl ⟨rfl, rfl⟩ rfl ?_
            try rw [show ((r1 : Nat) : Int).toNat = r1 from rfl]
            try rw [show ((n1 : Nat) : Int).toNat = n1 from rfl]
            refine ⟨fun c0 => ?_, fun c0 c1 => ?_, fun c0 c1 c2 => ?_, fun c0 c1 c2 => ?_⟩
            all_goals first
            | (exfalso; omega)
            | exact ⟨rfl, rfl⟩
            | exact ⟨M1 (m + 4), len, why, left, hTR, Or.inl ⟨by assumption, by first | (rw [if_pos (by omega)]; done) | (rw [if_neg (by omega)]; done), (mq_S (mq_S hmq (by decide)) (by decide))⟩⟩
            | exact ⟨M1 (m + 4), len, why, left, hTR, Or.inr ⟨by assumption, jnq_2 hmq⟩⟩
          · have h6 : a = 0 := h6
            refine jWp.blk mt 1 ?_
            show _ ∧ jWp 154 68 [some (jO m), some (jI (r1 : Int)), some (jI (n1 : Int)), some (jI a)] [jO m] 0 0 (jW (jW (M1, w.2) m 8 (zu (zku (w.1 (m + 2) (1 + 10 * r1)) (w.1 (m + 2) (2 + 10 * r1)) (M1 (m + 4)) n1) (zkd (w.1 (m + 2) (1 + 10 * r1)) (M1 (m + 4)) n1))) m 9 (zv (zku (w.1 (m + 2) (1 + 10 * r1)) (w.1 (m + 2) (2 + 10 * r1)) (M1 (m + 4)) n1) (zkd (w.1 (m + 2) (1 + 10 * r1)) (M1 (m + 4)) n1))) _
            refine ⟨rfl, ?_⟩
            refine jWp.getJ (pc' := 71) mt rfl rfl (jtg hW.K0) ?_
            rw [show ((jW (jW (M1, w.2) m 8 (zu (zku (w.1 (m + 2) (1 + 10 * r1)) (w.1 (m + 2) (2 + 10 * r1)) (M1 (m + 4)) n1) (zkd (w.1 (m + 2) (1 + 10 * r1)) (M1 (m + 4)) n1))) m 9 (zv (zku (w.1 (m + 2) (1 + 10 * r1)) (w.1 (m + 2) (2 + 10 * r1)) (M1 (m + 4)) n1) (zkd (w.1 (m + 2) (1 + 10 * r1)) (M1 (m + 4)) n1))).1 m 8) = (zu (zku (w.1 (m + 2) (1 + 10 * r1)) (w.1 (m + 2) (2 + 10 * r1)) (M1 (m + 4)) n1) (zkd (w.1 (m + 2) (1 + 10 * r1)) (M1 (m + 4)) n1)) from ((jW_k (by decide)).trans jW_s)]
            show jWp 154 71 [some (jO m), some (jI (r1 : Int)), some (jI (n1 : Int)), some (jI a)] [jJ (zu (zku (w.1 (m + 2) (1 + 10 * r1)) (w.1 (m + 2) (2 + 10 * r1)) (M1 (m + 4)) n1) (zkd (w.1 (m + 2) (1 + 10 * r1)) (M1 (m + 4)) n1))] 0 0 (jW (jW (M1, w.2) m 8 (zu (zku (w.1 (m + 2) (1 + 10 * r1)) (w.1 (m + 2) (2 + 10 * r1)) (M1 (m + 4)) n1) (zkd (w.1 (m + 2) (1 + 10 * r1)) (M1 (m + 4)) n1))) m 9 (zv (zku (w.1 (m + 2) (1 + 10 * r1)) (w.1 (m + 2) (2 + 10 * r1)) (M1 (m + 4)) n1) (zkd (w.1 (m + 2) (1 + 10 * r1)) (M1 (m + 4)) n1))) _
            refine jWp.blk mt 1 ?_
            show jWp 154 78 [some (jO m), some (jI (r1 : Int)), some (jI (n1 : Int)), some (jI a)] [jJ (zu (zku (w.1 (m + 2) (1 + 10 * r1)) (w.1 (m + 2) (2 + 10 * r1)) (M1 (m + 4)) n1) (zkd (w.1 (m + 2) (1 + 10 * r1)) (M1 (m + 4)) n1))] 0 0 (jW (jW (M1, w.2) m 8 (zu (zku (w.1 (m + 2) (1 + 10 * r1)) (w.1 (m + 2) (2 + 10 * r1)) (M1 (m + 4)) n1) (zkd (w.1 (m + 2) (1 + 10 * r1)) (M1 (m + 4)) n1))) m 9 (zv (zku (w.1 (m + 2) (1 + 10 * r1)) (w.1 (m + 2) (2 + 10 * r1)) (M1 (m + 4)) n1) (zkd (w.1 (m + 2) (1 + 10 * r1)) (M1 (m + 4)) n1))) _
            refine jWp.lret mt rfl ⟨rfl, rfl⟩ rfl ?_
            try rw [show ((r1 : Nat) : Int).toNat = r1 from rfl]
            try rw [show ((n1 : Nat) : Int).toNat = n1 from rfl]
            refine ⟨fun c0 => ?_, fun c0 c1 => ?_, fun c0 c1 c2 => ?_, fun c0 c1 c2 => ?_⟩
            all_goals first
            | (exfalso; omega)
            | exact ⟨rfl, rfl⟩
            | exact ⟨M1 (m + 4), len, why, left, hTR, Or.inl ⟨by assumption, by first | (rw [if_pos (by omega)]; done) | (rw [if_neg (by omega)]; done), (mq_S (mq_S hmq (by decide)) (by decide))⟩⟩
            | exact ⟨M1 (m + 4), len, why, left, hTR, Or.inr ⟨by assumption, jnq_2 hmq⟩⟩
        · have hk5' := hk5
          show jWp 154 53 [some (jO m), some (jI (r1 : Int)), some (jI (n1 : Int)), some (jI a)] [jI 0] 0 0 (M1, w.2) _
          refine jWp.ifc (b := false) mt rfl (by decide) rfl ?_
          show jWp 154 56 [some (jO m), some (jI (r1 : Int)), some (jI (n1 : Int)), some (jI a)] [] 0 0 (M1, w.2) _
          refine jWp.blk mt 2 ?_
          show _ ∧ jWp 154 59 [some (jO m), some (jI (r1 : Int)), some (jI (n1 : Int)), some (jI a)] [jI (-3), jO m] 0 0 (M1, w.2) _
          refine ⟨rfl, ?_⟩
          refine jWp.callv (as := [jO m, jI (-3)]) (rest := []) mt rfl rfl rfl ⟨rfl, jtg hW.K0⟩ ?_
          refine jCall.mono (E_farther (w := (M1, w.2)) (j := 3) hW (by decide) (by decide)) (fun v9 w9 h9 => ?_)
          obtain ⟨rfl, h9⟩ := h9
          subst h9
          show jWp 154 62 [some (jO m), some (jI (r1 : Int)), some (jI (n1 : Int)), some (jI a)] [jJ (4000000000000000000 - (-3))] 0 0 (jW (M1, w.2) (m + 3) 3 (((M1, w.2).1 (m + 3) 3) + 1)) _
          refine jWp.lret mt rfl ⟨rfl, rfl⟩ rfl ?_
          try rw [show ((r1 : Nat) : Int).toNat = r1 from rfl]
          try rw [show ((n1 : Nat) : Int).toNat = n1 from rfl]
          refine ⟨fun c0 => ?_, fun c0 c1 => ?_, fun c0 c1 c2 => ?_, fun c0 c1 c2 => ?_⟩
          all_goals first
          | (exfalso; omega)
          | exact ⟨rfl, rfl⟩
          | exact ⟨M1 (m + 4), len, why, left, hTR, Or.inl ⟨by assumption, by first | (rw [if_pos (by omega)]; done) | (rw [if_neg (by omega)]; done), mq_0⟩⟩
          | exact ⟨M1 (m + 4), len, why, left, hTR, Or.inr ⟨by assumption, jnq_2 hmq⟩⟩
      · have h3 : n < 0 := h3
        refine jWp.blk mt 2 ?_
        show _ ∧ jWp 154 38 [some (jO m), some (jI (r1 : Int)), some (jI n), some (jI a)] [jI (-4), jO m] 0 0 w _
        refine ⟨rfl, ?_⟩
        refine jWp.callv (as := [jO m, jI (-4)]) (rest := []) mt rfl rfl rfl ⟨rfl, jtg hW.K0⟩ ?_
        refine jCall.mono (E_farther (w := w) (j := 4) hW (by decide) (by decide)) (fun v9 w9 h9 => ?_)
        obtain ⟨rfl, h9⟩ := h9
        subst h9
        show jWp 154 41 [some (jO m), some (jI (r1 : Int)), some (jI n), some (jI a)] [jJ (4000000000000000000 - (-4))] 0 0 (jW w (m + 3) 4 ((w.1 (m + 3) 4) + 1)) _
        refine jWp.lret mt rfl ⟨rfl, rfl⟩ rfl ?_
        try rw [show ((r1 : Nat) : Int).toNat = r1 from rfl]
        try rw [show ((n1 : Nat) : Int).toNat = n1 from rfl]
        refine ⟨fun c0 => ?_, fun c0 c1 => ?_, fun c0 c1 c2 => ?_, fun c0 c1 c2 => ?_⟩
        all_goals first
        | (exfalso; omega)
        | exact ⟨rfl, rfl⟩
        | exact ⟨M1 (m + 4), len, why, left, hTR, Or.inl ⟨by assumption, by first | (rw [if_pos (by omega)]; done) | (rw [if_neg (by omega)]; done), mq_0⟩⟩
        | exact ⟨M1 (m + 4), len, why, left, hTR, Or.inr ⟨by assumption, jnq_2 hmq⟩⟩
    · have h2 : ¬ (0 ≤ a ∧ a ≤ 1) := h2
      show jWp 154 21 [some (jO m), some (jI (r1 : Int)), some (jI n), some (jI a)] [jI 0] 0 0 w _
      refine jWp.ifc (b := false) mt rfl (by decide) rfl ?_
      show jWp 154 24 [some (jO m), some (jI (r1 : Int)), some (jI n), some (jI a)] [] 0 0 w _
      refine jWp.blk mt 2 ?_
      show _ ∧ jWp 154 27 [some (jO m), some (jI (r1 : Int)), some (jI n), some (jI a)] [jI (-2), jO m] 0 0 w _
      refine ⟨rfl, ?_⟩
      refine jWp.callv (as := [jO m, jI (-2)]) (rest := []) mt rfl rfl rfl ⟨rfl, jtg hW.K0⟩ ?_
      refine jCall.mono (E_farther (w := w) (j := 2) hW (by decide) (by decide)) (fun v9 w9 h9 => ?_)
      obtain ⟨rfl, h9⟩ := h9
      subst h9
      show jWp 154 30 [some (jO m), some (jI (r1 : Int)), some (jI n), some (jI a)] [jJ (4000000000000000000 - (-2))] 0 0 (jW w (m + 3) 2 ((w.1 (m + 3) 2) + 1)) _
      refine jWp.lret mt rfl ⟨rfl, rfl⟩ rfl ?_
      try rw [show ((r1 : Nat) : Int).toNat = r1 from rfl]
      try rw [show ((n1 : Nat) : Int).toNat = n1 from rfl]
      refine ⟨fun c0 => ?_, fun c0 c1 => ?_, fun c0 c1 c2 => ?_, fun c0 c1 c2 => ?_⟩
      all_goals first
      | (exfalso; omega)
      | exact ⟨rfl, rfl⟩
      | exact ⟨M1 (m + 4), len, why, left, hTR, Or.inl ⟨by assumption, by first | (rw [if_pos (by omega)]; done) | (rw [if_neg (by omega)]; done), mq_0⟩⟩
      | exact ⟨M1 (m + 4), len, why, left, hTR, Or.inr ⟨by assumption, jnq_2 hmq⟩⟩
  · have h1 : ¬ (0 ≤ r ∧ r < (c : Int)) := h1
    show jWp 154 5 [some (jO m), some (jI r), some (jI n), some (jI a)] [jI 0] 0 0 w _
    refine jWp.ifc (b := false) mt rfl (by decide) rfl ?_
    show jWp 154 8 [some (jO m), some (jI r), some (jI n), some (jI a)] [] 0 0 w _
    refine jWp.blk mt 2 ?_
    show _ ∧ jWp 154 10 [some (jO m), some (jI r), some (jI n), some (jI a)] [jI (-1), jO m] 0 0 w _
    refine ⟨rfl, ?_⟩
    refine jWp.callv (as := [jO m, jI (-1)]) (rest := []) mt rfl rfl rfl ⟨rfl, jtg hW.K0⟩ ?_
    refine jCall.mono (E_farther (w := w) (j := 1) hW (by decide) (by decide)) (fun v9 w9 h9 => ?_)
    obtain ⟨rfl, h9⟩ := h9
    subst h9
    show jWp 154 13 [some (jO m), some (jI r), some (jI n), some (jI a)] [jJ (4000000000000000000 - (-1))] 0 0 (jW w (m + 3) 1 ((w.1 (m + 3) 1) + 1)) _
    refine jWp.lret mt rfl ⟨rfl, rfl⟩ rfl ?_
    try rw [show ((r1 : Nat) : Int).toNat = r1 from rfl]
    try rw [show ((n1 : Nat) : Int).toNat = n1 from rfl]
    refine ⟨fun c0 => ?_, fun c0 c1 => ?_, fun c0 c1 c2 => ?_, fun c0 c1 c2 => ?_⟩
    all_goals first
    | (exfalso; omega)
    | exact ⟨rfl, rfl⟩
    | exact ⟨M1 (m + 4), len, why, left, hTR, Or.inl ⟨by assumption, by first | (rw [if_pos (by omega)]; done) | (rw [if_neg (by omega)]; done), mq_0⟩⟩
    | exact ⟨M1 (m + 4), len, why, left, hTR, Or.inr ⟨by assumption, jnq_2 hmq⟩⟩
set_option maxHeartbeats 4000000 in
set_option maxRecDepth 20000 in
theorem E_stays {w : jS} {m : Nat} (hW : MW w.2 m) {c : Nat} (hR : zRw (w.1 (m + 2)) c) {r : Int} (hrr : r32 r) : jCall 155 [jO m, jI r] w (fun v w1 => ((¬ (0 ≤ r ∧ r < (c : Int))) → jno w m 1 (jI (-1)) v w1) ∧ (¬ (¬ (0 ≤ r ∧ r < (c : Int))) → ∃ (t : Nat → Int) (len : Nat) (why left : Int), zTR (w.1 (m + 2)) r.toNat t len why left ∧ ((zkp (w.1 (m + 2) (1 + 10 * r.toNat)) t len 0 ∧ v = some (jI (zfs (fun k => zkp (w.1 (m + 2) (1 + 10 * r.toNat)) t len k) (fun k => (zu (zku (w.1 (m + 2) (1 + 10 * r.toNat)) (w.1 (m + 2) (2 + 10 * r.toNat)) t k) (zkd (w.1 (m + 2) (1 + 10 * r.toNat)) t k)) ≠ (zu (zku (w.1 (m + 2) (1 + 10 * r.toNat)) (w.1 (m + 2) (2 + 10 * r.toNat)) t 0) (zkd (w.1 (m + 2) (1 + 10 * r.toNat)) t 0)) ∨ (zv (zku (w.1 (m + 2) (1 + 10 * r.toNat)) (w.1 (m + 2) (2 + 10 * r.toNat)) t k) (zkd (w.1 (m + 2) (1 + 10 * r.toNat)) t k)) ≠ (zv (zku (w.1 (m + 2) (1 + 10 * r.toNat)) (w.1 (m + 2) (2 + 10 * r.toNat)) t 0) (zkd (w.1 (m + 2) (1 + 10 * r.toNat)) t 0))) 59 1)) ∧ mq w m w1) ∨ (¬ zkp (w.1 (m + 2) (1 + 10 * r.toNat)) t len 0 ∧ jnq w m 3 (jI (-3)) v w1)))) := by
  have mt : jtb 155 = jT155 := rfl
  have hc4 := hR.2.1
  have hrr1 : -2147483648 ≤ r ∧ r < 2147483648 := hrr
  show jWp 155 0 [some (jO m), some (jI r), none, none, none, none, none] [] 0 0 w _
  refine jWp.blk mt 2 ?_
  show _ ∧ jWp 155 2 [some (jO m), some (jI r), none, none, none, none, none] [jI r, jO m] 0 0 w _
  refine ⟨rfl, ?_⟩
  refine jWp.callv (as := [jO m, jI r]) (rest := []) mt rfl rfl rfl ⟨rfl, jtg hW.K0⟩ ?_
  refine jCall.mono (E_isRow hW hR hrr) (fun v9 w9 h9 => ?_)
  rcases h9 with ⟨rfl, h9, h1⟩ | ⟨rfl, h9, h1⟩ <;> subst w9
  · have h1 : 0 ≤ r ∧ r < (c : Int) := h1
    show jWp 155 5 [some (jO m), some (jI r), none, none, none, none, none] [jI 1] 0 0 w _
    obtain ⟨r1, rfl⟩ : ∃ r1 : Nat, r = (r1 : Int) := ⟨r.toNat, by omega⟩
    show jWp 155 5 [some (jO m), some (jI (r1 : Int)), none, none, none, none, none] [jI 1] 0 0 w _
    have hRr := hR.2.2 r1 (by omega)
    have hRo := zO_b hRr.1.1 hRr.1.2
    refine jWp.ifc (b := true) mt rfl (by decide) rfl ?_
    show jWp 155 14 [some (jO m), some (jI (r1 : Int)), none, none, none, none, none] [] 0 0 w _
    refine jWp.blk mt 2 ?_
    show _ ∧ jWp 155 16 [some (jO m), some (jI (r1 : Int)), none, none, none, none, none] [jI (r1 : Int), jO m] 0 0 w _
    refine ⟨rfl, ?_⟩
    refine jWp.callv (as := [jO m, jI (r1 : Int)]) (rest := []) mt rfl rfl rfl ⟨rfl, jtg hW.K0⟩ ?_
    refine jCall.mono (E_termsW (w := w) (W := w) (x := r1) hW hR (by omega) mq_0) (fun v9 w9 h9 => ?_)
    obtain ⟨rfl, hF, hmq, len, why, left, k4, k5, k6, hTR⟩ := h9
    obtain ⟨M1, G9⟩ := w9
    have hg : G9 = w.2 := hmq.1
    subst hg
    have k4 : M1 m 4 = (len : Int) := k4
    have hTR : zTR (w.1 (m + 2)) r1 (M1 (m + 4)) len why left := hTR
    have hTb := zTR_b hR (by omega) hTR
    have hM2 : M1 (m + 2) = w.1 (m + 2) := hmq.2.1 _ (by omega)
    show jWp 155 19 [some (jO m), some (jI (r1 : Int)), none, none, none, none, none] [] 0 0 (M1, w.2) _
    refine jWp.blk mt 3 ?_
    show _ ∧ jWp 155 22 [some (jO m), some (jI (r1 : Int)), none, none, none, none, none] [jI 0, jI (r1 : Int), jO m] 0 0 (M1, w.2) _
    refine ⟨rfl, ?_⟩
    refine jWp.callv (as := [jO m, jI (r1 : Int), jI 0]) (rest := []) mt rfl rfl rfl ⟨rfl, jtg hW.K0⟩ ?_
    refine jCall.mono (E_keepsW (W := (M1, w.2)) (T := M1 (m + 4)) (len := len) (x := r1) (n := 0) (law := (w.1 (m + 2) (1 + 10 * r1))) (f := (w.1 (m + 2) (2 + 10 * r1))) hW rfl rfl ( k4) hTb.1 hTb.2.2 (by omega) (congrFun ( hM2) _) (congrFun ( hM2) _) hRr.1.1 hRr.1.2 hRr.2.1 (by omega)) (fun v9 w9 h9 => ?_)
    rcases h9 with ⟨rfl, hk3, h9, hub, hdb⟩ | ⟨rfl, hk3, h9⟩ <;> subst h9
    · have hk3' := hk3
      have hkz := hk3
      have hub0 := hub
      have hdb0 := hdb
      show jWp 155 25 [some (jO m), some (jI (r1 : Int)), none, none, none, none, none] [jI 1] 0 0 (jW (jW (M1, w.2) m 8 (zu (zku (w.1 (m + 2) (1 + 10 * r1)) (w.1 (m + 2) (2 + 10 * r1)) (M1 (m + 4)) 0) (zkd (w.1 (m + 2) (1 + 10 * r1)) (M1 (m + 4)) 0))) m 9 (zv (zku (w.1 (m + 2) (1 + 10 * r1)) (w.1 (m + 2) (2 + 10 * r1)) (M1 (m + 4)) 0) (zkd (w.1 (m + 2) (1 + 10 * r1)) (M1 (m + 4)) 0))) _
      refine jWp.ifc (b := true) mt rfl (by decide) rfl ?_
      show jWp 155 35 [some (jO m), some (jI (r1 : Int)), none, none, none, none, none] [] 0 0 (jW (jW (M1, w.2) m 8 (zu (zku (w.1 (m + 2) (1 + 10 * r1)) (w.1 (m + 2) (2 + 10 * r1)) (M1 (m + 4)) 0) (zkd (w.1 (m + 2) (1 + 10 * r1)) (M1 (m + 4)) 0))) m 9 (zv (zku (w.1 (m + 2) (1 + 10 * r1)) (w.1 (m + 2) (2 + 10 * r1)) (M1 (m + 4)) 0) (zkd (w.1 (m + 2) (1 + 10 * r1)) (M1 (m + 4)) 0))) _
      refine jWp.blk mt 1 ?_
      show _ ∧ jWp 155 36 [some (jO m), some (jI (r1 : Int)), none, none, none, none, none] [jO m] 0 0 (jW (jW (M1, w.2) m 8 (zu (zku (w.1 (m + 2) (1 + 10 * r1)) (w.1 (m + 2) (2 + 10 * r1)) (M1 (m + 4)) 0) (zkd (w.1 (m + 2) (1 + 10 * r1)) (M1 (m + 4)) 0))) m 9 (zv (zku (w.1 (m + 2) (1 + 10 * r1)) (w.1 (m + 2) (2 + 10 * r1)) (M1 (m + 4)) 0) (zkd (w.1 (m + 2) (1 + 10 * r1)) (M1 (m + 4)) 0))) _
      refine ⟨rfl, ?_⟩
      refine jWp.getJ (pc' := 39) mt rfl rfl (jtg hW.K0) ?_
      rw [show ((jW (jW (M1, w.2) m 8 (zu (zku (w.1 (m + 2) (1 + 10 * r1)) (w.1 (m + 2) (2 + 10 * r1)) (M1 (m + 4)) 0) (zkd (w.1 (m + 2) (1 + 10 * r1)) (M1 (m + 4)) 0))) m 9 (zv (zku (w.1 (m + 2) (1 + 10 * r1)) (w.1 (m + 2) (2 + 10 * r1)) (M1 (m + 4)) 0) (zkd (w.1 (m + 2) (1 + 10 * r1)) (M1 (m + 4)) 0))).1 m 8) = (zu (zku (w.1 (m + 2) (1 + 10 * r1)) (w.1 (m + 2) (2 + 10 * r1)) (M1 (m + 4)) 0) (zkd (w.1 (m + 2) (1 + 10 * r1)) (M1 (m + 4)) 0)) from ((jW_k (by decide)).trans jW_s)]
      show jWp 155 39 [some (jO m), some (jI (r1 : Int)), none, none, none, none, none] [jJ (zu (zku (w.1 (m + 2) (1 + 10 * r1)) (w.1 (m + 2) (2 + 10 * r1)) (M1 (m + 4)) 0) (zkd (w.1 (m + 2) (1 + 10 * r1)) (M1 (m + 4)) 0))] 0 0 (jW (jW (M1, w.2) m 8 (zu (zku (w.1 (m + 2) (1 + 10 * r1)) (w.1 (m + 2) (2 + 10 * r1)) (M1 (m + 4)) 0) (zkd (w.1 (m + 2) (1 + 10 * r1)) (M1 (m + 4)) 0))) m 9 (zv (zku (w.1 (m + 2) (1 + 10 * r1)) (w.1 (m + 2) (2 + 10 * r1)) (M1 (m + 4)) 0) (zkd (w.1 (m + 2) (1 + 10 * r1)) (M1 (m + 4)) 0))) _
      refine jWp.blk mt 2 ?_
      show _ ∧ jWp 155 41 [some (jO m), some (jI (r1 : Int)), some (jJ (zu (zku (w.1 (m + 2) (1 + 10 * r1)) (w.1 (m + 2) (2 + 10 * r1)) (M1 (m + 4)) 0) (zkd (w.1 (m + 2) (1 + 10 * r1)) (M1 (m + 4)) 0))), none, none, none, none] [jO m] 0 0 (jW (jW (M1, w.2) m 8 (zu (zku (w.1 (m + 2) (1 + 10 * r1)) (w.1 (m + 2) (2 + 10 * r1)) (M1 (m + 4)) 0) (zkd (w.1 (m + 2) (1 + 10 * r1)) (M1 (m + 4)) 0))) m 9 (zv (zku (w.1 (m + 2) (1 + 10 * r1)) (w.1 (m + 2) (2 + 10 * r1)) (M1 (m + 4)) 0) (zkd (w.1 (m + 2) (1 + 10 * r1)) (M1 (m + 4)) 0))) _
      refine ⟨rfl, ?_⟩
      refine jWp.getJ (pc' := 44) mt rfl rfl (jtg hW.K0) ?_
      rw [show ((jW (jW (M1, w.2) m 8 (zu (zku (w.1 (m + 2) (1 + 10 * r1)) (w.1 (m + 2) (2 + 10 * r1)) (M1 (m + 4)) 0) (zkd (w.1 (m + 2) (1 + 10 * r1)) (M1 (m + 4)) 0))) m 9 (zv (zku (w.1 (m + 2) (1 + 10 * r1)) (w.1 (m + 2) (2 + 10 * r1)) (M1 (m + 4)) 0) (zkd (w.1 (m + 2) (1 + 10 * r1)) (M1 (m + 4)) 0))).1 m 9) = (zv (zku (w.1 (m + 2) (1 + 10 * r1)) (w.1 (m + 2) (2 + 10 * r1)) (M1 (m + 4)) 0) (zkd (w.1 (m + 2) (1 + 10 * r1)) (M1 (m + 4)) 0)) from jW_s]
      show jWp 155 44 [some (jO m), some (jI (r1 : Int)), some (jJ (zu (zku (w.1 (m + 2) (1 + 10 * r1)) (w.1 (m + 2) (2 + 10 * r1)) (M1 (m + 4)) 0) (zkd (w.1 (m + 2) (1 + 10 * r1)) (M1 (m + 4)) 0))), none, none, none, none] [jJ (zv (zku (w.1 (m + 2) (1 + 10 * r1)) (w.1 (m + 2) (2 + 10 * r1)) (M1 (m + 4)) 0) (zkd (w.1 (m + 2) (1 + 10 * r1)) (M1 (m + 4)) 0))] 0 0 (jW (jW (M1, w.2) m 8 (zu (zku (w.1 (m + 2) (1 + 10 * r1)) (w.1 (m + 2) (2 + 10 * r1)) (M1 (m + 4)) 0) (zkd (w.1 (m + 2) (1 + 10 * r1)) (M1 (m + 4)) 0))) m 9 (zv (zku (w.1 (m + 2) (1 + 10 * r1)) (w.1 (m + 2) (2 + 10 * r1)) (M1 (m + 4)) 0) (zkd (w.1 (m + 2) (1 + 10 * r1)) (M1 (m + 4)) 0))) _
      refine jWp.blk mt 3 ?_
      show jWp 155 49 [some (jO m), some (jI (r1 : Int)), some (jJ (zu (zku (w.1 (m + 2) (1 + 10 * r1)) (w.1 (m + 2) (2 + 10 * r1)) (M1 (m + 4)) 0) (zkd (w.1 (m + 2) (1 + 10 * r1)) (M1 (m + 4)) 0))), none, some (jJ (zv (zku (w.1 (m + 2) (1 + 10 * r1)) (w.1 (m + 2) (2 + 10 * r1)) (M1 (m + 4)) 0) (zkd (w.1 (m + 2) (1 + 10 * r1)) (M1 (m + 4)) 0))), none, some (jI 1)] [] 0 0 (jW (jW (M1, w.2) m 8 (zu (zku (w.1 (m + 2) (1 + 10 * r1)) (w.1 (m + 2) (2 + 10 * r1)) (M1 (m + 4)) 0) (zkd (w.1 (m + 2) (1 + 10 * r1)) (M1 (m + 4)) 0))) m 9 (zv (zku (w.1 (m + 2) (1 + 10 * r1)) (w.1 (m + 2) (2 + 10 * r1)) (M1 (m + 4)) 0) (zkd (w.1 (m + 2) (1 + 10 * r1)) (M1 (m + 4)) 0))) _
      have lp4 : ∀ (N : Nat) (n : Nat) (x8 x9 : Int) (hn1 : 1 ≤ n ∧ n ≤ 60) (hr : zfs (fun k => zkp (w.1 (m + 2) (1 + 10 * r1)) (M1 (m + 4)) len k) (fun k => ((zu (zku (w.1 (m + 2) (1 + 10 * r1)) (w.1 (m + 2) (2 + 10 * r1)) (M1 (m + 4)) k) (zkd (w.1 (m + 2) (1 + 10 * r1)) (M1 (m + 4)) k)) ≠ (zu (zku (w.1 (m + 2) (1 + 10 * r1)) (w.1 (m + 2) (2 + 10 * r1)) (M1 (m + 4)) 0) (zkd (w.1 (m + 2) (1 + 10 * r1)) (M1 (m + 4)) 0)) ∨ (zv (zku (w.1 (m + 2) (1 + 10 * r1)) (w.1 (m + 2) (2 + 10 * r1)) (M1 (m + 4)) k) (zkd (w.1 (m + 2) (1 + 10 * r1)) (M1 (m + 4)) k)) ≠ (zv (zku (w.1 (m + 2) (1 + 10 * r1)) (w.1 (m + 2) (2 + 10 * r1)) (M1 (m + 4)) 0) (zkd (w.1 (m + 2) (1 + 10 * r1)) (M1 (m + 4)) 0)))) (60 - n) n = zfs (fun k => zkp (w.1 (m + 2) (1 + 10 * r1)) (M1 (m + 4)) len k) (fun k => ((zu (zku (w.1 (m + 2) (1 + 10 * r1)) (w.1 (m + 2) (2 + 10 * r1)) (M1 (m + 4)) k) (zkd (w.1 (m + 2) (1 + 10 * r1)) (M1 (m + 4)) k)) ≠ (zu (zku (w.1 (m + 2) (1 + 10 * r1)) (w.1 (m + 2) (2 + 10 * r1)) (M1 (m + 4)) 0) (zkd (w.1 (m + 2) (1 + 10 * r1)) (M1 (m + 4)) 0)) ∨ (zv (zku (w.1 (m + 2) (1 + 10 * r1)) (w.1 (m + 2) (2 + 10 * r1)) (M1 (m + 4)) k) (zkd (w.1 (m + 2) (1 + 10 * r1)) (M1 (m + 4)) k)) ≠ (zv (zku (w.1 (m + 2) (1 + 10 * r1)) (w.1 (m + 2) (2 + 10 * r1)) (M1 (m + 4)) 0) (zkd (w.1 (m + 2) (1 + 10 * r1)) (M1 (m + 4)) 0)))) 59 1), 60 - n < N → jWp 155 49 [some (jO m), some (jI (r1 : Int)), some (jJ (zu (zku (w.1 (m + 2) (1 + 10 * r1)) (w.1 (m + 2) (2 + 10 * r1)) (M1 (m + 4)) 0) (zkd (w.1 (m + 2) (1 + 10 * r1)) (M1 (m + 4)) 0))), none, some (jJ (zv (zku (w.1 (m + 2) (1 + 10 * r1)) (w.1 (m + 2) (2 + 10 * r1)) (M1 (m + 4)) 0) (zkd (w.1 (m + 2) (1 + 10 * r1)) (M1 (m + 4)) 0))), none, some (jI (n : Int))] [] 0 0 (jW (jW (M1, w.2) m 8 x8) m 9 x9) (fun v w1 => ((¬ (0 ≤ (r1 : Int) ∧ (r1 : Int) < (c : Int))) → jno w m 1 (jI (-1)) v w1) ∧ (¬ (¬ (0 ≤ (r1 : Int) ∧ (r1 : Int) < (c : Int))) → ∃ (t : Nat → Int) (len : Nat) (why left : Int), zTR (w.1 (m + 2)) (r1 : Int).toNat t len why left ∧ ((zkp (w.1 (m + 2) (1 + 10 * (r1 : Int).toNat)) t len 0 ∧ v = some (jI (zfs (fun k => zkp (w.1 (m + 2) (1 + 10 * (r1 : Int).toNat)) t len k) (fun k => (zu (zku (w.1 (m + 2) (1 + 10 * (r1 : Int).toNat)) (w.1 (m + 2) (2 + 10 * (r1 : Int).toNat)) t k) (zkd (w.1 (m + 2) (1 + 10 * (r1 : Int).toNat)) t k)) ≠ (zu (zku (w.1 (m + 2) (1 + 10 * (r1 : Int).toNat)) (w.1 (m + 2) (2 + 10 * (r1 : Int).toNat)) t 0) (zkd (w.1 (m + 2) (1 + 10 * (r1 : Int).toNat)) t 0)) ∨ (zv (zku (w.1 (m + 2) (1 + 10 * (r1 : Int).toNat)) (w.1 (m + 2) (2 + 10 * (r1 : Int).toNat)) t k) (zkd (w.1 (m + 2) (1 + 10 * (r1 : Int).toNat)) t k)) ≠ (zv (zku (w.1 (m + 2) (1 + 10 * (r1 : Int).toNat)) (w.1 (m + 2) (2 + 10 * (r1 : Int).toNat)) t 0) (zkd (w.1 (m + 2) (1 + 10 * (r1 : Int).toNat)) t 0))) 59 1)) ∧ mq w m w1) ∨ (¬ zkp (w.1 (m + 2) (1 + 10 * (r1 : Int).toNat)) t len 0 ∧ jnq w m 3 (jI (-3)) v w1)))) := by
        intro N
        induction N with
        | zero => intro n x8 x9 hn1 hr hm; omega
        | succ N ih5 =>
          intro n x8 x9 hn1 hr hm
          refine jWp.blk mt 3 ?_
          show _ ∧ jWp 155 53 [some (jO m), some (jI (r1 : Int)), some (jJ (zu (zku (w.1 (m + 2) (1 + 10 * r1)) (w.1 (m + 2) (2 + 10 * r1)) (M1 (m + 4)) 0) (zkd (w.1 (m + 2) (1 + 10 * r1)) (M1 (m + 4)) 0))), none, some (jJ (zv (zku (w.1 (m + 2) (1 + 10 * r1)) (w.1 (m + 2) (2 + 10 * r1)) (M1 (m + 4)) 0) (zkd (w.1 (m + 2) (1 + 10 * r1)) (M1 (m + 4)) 0))), none, some (jI (n : Int))] [jI (n : Int), jI (r1 : Int), jO m] 0 0 (jW (jW (M1, w.2) m 8 x8) m 9 x9) _
          refine ⟨rfl, ?_⟩
          refine jWp.callv (as := [jO m, jI (r1 : Int), jI (n : Int)]) (rest := []) mt rfl rfl rfl ⟨rfl, jtg hW.K0⟩ ?_
          refine jCall.mono (E_keepsW (W := (jW (jW (M1, w.2) m 8 x8) m 9 x9)) (T := M1 (m + 4)) (len := len) (x := r1) (n := n) (law := (w.1 (m + 2) (1 + 10 * r1))) (f := (w.1 (m + 2) (2 + 10 * r1))) hW rfl ((jW_f (by omega)).trans ((jW_f (by omega)).trans rfl)) (((jW_k (by decide)).trans ((jW_k (by decide)).trans rfl)).trans k4) hTb.1 hTb.2.2 (by omega) (congrFun (((jW_f (by omega)).trans ((jW_f (by omega)).trans rfl)).trans hM2) _) (congrFun (((jW_f (by omega)).trans ((jW_f (by omega)).trans rfl)).trans hM2) _) hRr.1.1 hRr.1.2 hRr.2.1 (by omega)) (fun v9 w9 h9 => ?_)
          rcases h9 with ⟨rfl, hk6, h9, hub, hdb⟩ | ⟨rfl, hk6, h9⟩ <;> subst h9
          · rw [show jW (jW (jW (jW (M1, w.2) m 8 x8) m 9 x9) m 8 (zu (zku (w.1 (m + 2) (1 + 10 * r1)) (w.1 (m + 2) (2 + 10 * r1)) (M1 (m + 4)) n) (zkd (w.1 (m + 2) (1 + 10 * r1)) (M1 (m + 4)) n))) m 9 (zv (zku (w.1 (m + 2) (1 + 10 * r1)) (w.1 (m + 2) (2 + 10 * r1)) (M1 (m + 4)) n) (zkd (w.1 (m + 2) (1 + 10 * r1)) (M1 (m + 4)) n)) = jW (jW (M1, w.2) m 8 (zu (zku (w.1 (m + 2) (1 + 10 * r1)) (w.1 (m + 2) (2 + 10 * r1)) (M1 (m + 4)) n) (zkd (w.1 (m + 2) (1 + 10 * r1)) (M1 (m + 4)) n))) m 9 (zv (zku (w.1 (m + 2) (1 + 10 * r1)) (w.1 (m + 2) (2 + 10 * r1)) (M1 (m + 4)) n) (zkd (w.1 (m + 2) (1 + 10 * r1)) (M1 (m + 4)) n)) from jW4]
            show jWp 155 56 [some (jO m), some (jI (r1 : Int)), some (jJ (zu (zku (w.1 (m + 2) (1 + 10 * r1)) (w.1 (m + 2) (2 + 10 * r1)) (M1 (m + 4)) 0) (zkd (w.1 (m + 2) (1 + 10 * r1)) (M1 (m + 4)) 0))), none, some (jJ (zv (zku (w.1 (m + 2) (1 + 10 * r1)) (w.1 (m + 2) (2 + 10 * r1)) (M1 (m + 4)) 0) (zkd (w.1 (m + 2) (1 + 10 * r1)) (M1 (m + 4)) 0))), none, some (jI (n : Int))] [jI 1] 0 0 (jW (jW (M1, w.2) m 8 (zu (zku (w.1 (m + 2) (1 + 10 * r1)) (w.1 (m + 2) (2 + 10 * r1)) (M1 (m + 4)) n) (zkd (w.1 (m + 2) (1 + 10 * r1)) (M1 (m + 4)) n))) m 9 (zv (zku (w.1 (m + 2) (1 + 10 * r1)) (w.1 (m + 2) (2 + 10 * r1)) (M1 (m + 4)) n) (zkd (w.1 (m + 2) (1 + 10 * r1)) (M1 (m + 4)) n))) _
            refine jWp.ifc (b := false) mt rfl (by decide) rfl ?_
            show jWp 155 59 [some (jO m), some (jI (r1 : Int)), some (jJ (zu (zku (w.1 (m + 2) (1 + 10 * r1)) (w.1 (m + 2) (2 + 10 * r1)) (M1 (m + 4)) 0) (zkd (w.1 (m + 2) (1 + 10 * r1)) (M1 (m + 4)) 0))), none, some (jJ (zv (zku (w.1 (m + 2) (1 + 10 * r1)) (w.1 (m + 2) (2 + 10 * r1)) (M1 (m + 4)) 0) (zkd (w.1 (m + 2) (1 + 10 * r1)) (M1 (m + 4)) 0))), none, some (jI (n : Int))] [] 0 0 (jW (jW (M1, w.2) m 8 (zu (zku (w.1 (m + 2) (1 + 10 * r1)) (w.1 (m + 2) (2 + 10 * r1)) (M1 (m + 4)) n) (zkd (w.1 (m + 2) (1 + 10 * r1)) (M1 (m + 4)) n))) m 9 (zv (zku (w.1 (m + 2) (1 + 10 * r1)) (w.1 (m + 2) (2 + 10 * r1)) (M1 (m + 4)) n) (zkd (w.1 (m + 2) (1 + 10 * r1)) (M1 (m + 4)) n))) _
            refine jWp.blk mt 1 ?_
            show _ ∧ jWp 155 60 [some (jO m), some (jI (r1 : Int)), some (jJ (zu (zku (w.1 (m + 2) (1 + 10 * r1)) (w.1 (m + 2) (2 + 10 * r1)) (M1 (m + 4)) 0) (zkd (w.1 (m + 2) (1 + 10 * r1)) (M1 (m + 4)) 0))), none, some (jJ (zv (zku (w.1 (m + 2) (1 + 10 * r1)) (w.1 (m + 2) (2 + 10 * r1)) (M1 (m + 4)) 0) (zkd (w.1 (m + 2) (1 + 10 * r1)) (M1 (m + 4)) 0))), none, some (jI (n : Int))] [jO m] 0 0 (jW (jW (M1, w.2) m 8 (zu (zku (w.1 (m + 2) (1 + 10 * r1)) (w.1 (m + 2) (2 + 10 * r1)) (M1 (m + 4)) n) (zkd (w.1 (m + 2) (1 + 10 * r1)) (M1 (m + 4)) n))) m 9 (zv (zku (w.1 (m + 2) (1 + 10 * r1)) (w.1 (m + 2) (2 + 10 * r1)) (M1 (m + 4)) n) (zkd (w.1 (m + 2) (1 + 10 * r1)) (M1 (m + 4)) n))) _
            refine ⟨rfl, ?_⟩
            refine jWp.getJ (pc' := 63) mt rfl rfl (jtg hW.K0) ?_
            rw [show ((jW (jW (M1, w.2) m 8 (zu (zku (w.1 (m + 2) (1 + 10 * r1)) (w.1 (m + 2) (2 + 10 * r1)) (M1 (m + 4)) n) (zkd (w.1 (m + 2) (1 + 10 * r1)) (M1 (m + 4)) n))) m 9 (zv (zku (w.1 (m + 2) (1 + 10 * r1)) (w.1 (m + 2) (2 + 10 * r1)) (M1 (m + 4)) n) (zkd (w.1 (m + 2) (1 + 10 * r1)) (M1 (m + 4)) n))).1 m 8) = (zu (zku (w.1 (m + 2) (1 + 10 * r1)) (w.1 (m + 2) (2 + 10 * r1)) (M1 (m + 4)) n) (zkd (w.1 (m + 2) (1 + 10 * r1)) (M1 (m + 4)) n)) from ((jW_k (by decide)).trans jW_s)]
            show jWp 155 63 [some (jO m), some (jI (r1 : Int)), some (jJ (zu (zku (w.1 (m + 2) (1 + 10 * r1)) (w.1 (m + 2) (2 + 10 * r1)) (M1 (m + 4)) 0) (zkd (w.1 (m + 2) (1 + 10 * r1)) (M1 (m + 4)) 0))), none, some (jJ (zv (zku (w.1 (m + 2) (1 + 10 * r1)) (w.1 (m + 2) (2 + 10 * r1)) (M1 (m + 4)) 0) (zkd (w.1 (m + 2) (1 + 10 * r1)) (M1 (m + 4)) 0))), none, some (jI (n : Int))] [jJ (zu (zku (w.1 (m + 2) (1 + 10 * r1)) (w.1 (m + 2) (2 + 10 * r1)) (M1 (m + 4)) n) (zkd (w.1 (m + 2) (1 + 10 * r1)) (M1 (m + 4)) n))] 0 0 (jW (jW (M1, w.2) m 8 (zu (zku (w.1 (m + 2) (1 + 10 * r1)) (w.1 (m + 2) (2 + 10 * r1)) (M1 (m + 4)) n) (zkd (w.1 (m + 2) (1 + 10 * r1)) (M1 (m + 4)) n))) m 9 (zv (zku (w.1 (m + 2) (1 + 10 * r1)) (w.1 (m + 2) (2 + 10 * r1)) (M1 (m + 4)) n) (zkd (w.1 (m + 2) (1 + 10 * r1)) (M1 (m + 4)) n))) _
            refine jWp.blk mt 1 ?_
            show jWp 155 64 [some (jO m), some (jI (r1 : Int)), some (jJ (zu (zku (w.1 (m + 2) (1 + 10 * r1)) (w.1 (m + 2) (2 + 10 * r1)) (M1 (m + 4)) 0) (zkd (w.1 (m + 2) (1 + 10 * r1)) (M1 (m + 4)) 0))), none, some (jJ (zv (zku (w.1 (m + 2) (1 + 10 * r1)) (w.1 (m + 2) (2 + 10 * r1)) (M1 (m + 4)) 0) (zkd (w.1 (m + 2) (1 + 10 * r1)) (M1 (m + 4)) 0))), none, some (jI (n : Int))] [jJ (zu (zku (w.1 (m + 2) (1 + 10 * r1)) (w.1 (m + 2) (2 + 10 * r1)) (M1 (m + 4)) 0) (zkd (w.1 (m + 2) (1 + 10 * r1)) (M1 (m + 4)) 0)), jJ (zu (zku (w.1 (m + 2) (1 + 10 * r1)) (w.1 (m + 2) (2 + 10 * r1)) (M1 (m + 4)) n) (zkd (w.1 (m + 2) (1 + 10 * r1)) (M1 (m + 4)) n))] 0 0 (jW (jW (M1, w.2) m 8 (zu (zku (w.1 (m + 2) (1 + 10 * r1)) (w.1 (m + 2) (2 + 10 * r1)) (M1 (m + 4)) n) (zkd (w.1 (m + 2) (1 + 10 * r1)) (M1 (m + 4)) n))) m 9 (zv (zku (w.1 (m + 2) (1 + 10 * r1)) (w.1 (m + 2) (2 + 10 * r1)) (M1 (m + 4)) n) (zkd (w.1 (m + 2) (1 + 10 * r1)) (M1 (m + 4)) n))) _
            refine jWp.lcmp (pc' := 68) mt rfl rfl rfl (b64_id (by omega) (by omega)) (b64_id (by omega) (by omega)) (fun h7 => ?_) (fun h7 => ?_)
            · have h7 : (zu (zku (w.1 (m + 2) (1 + 10 * r1)) (w.1 (m + 2) (2 + 10 * r1)) (M1 (m + 4)) n) (zkd (w.1 (m + 2) (1 + 10 * r1)) (M1 (m + 4)) n)) ≠ (zu (zku (w.1 (m + 2) (1 + 10 * r1)) (w.1 (m + 2) (2 + 10 * r1)) (M1 (m + 4)) 0) (zkd (w.1 (m + 2) (1 + 10 * r1)) (M1 (m + 4)) 0)) := h7
              refine jWp.blk mt 1 ?_
              show jWp 155 80 [some (jO m), some (jI (r1 : Int)), some (jJ (zu (zku (w.1 (m + 2) (1 + 10 * r1)) (w.1 (m + 2) (2 + 10 * r1)) (M1 (m + 4)) 0) (zkd (w.1 (m + 2) (1 + 10 * r1)) (M1 (m + 4)) 0))), none, some (jJ (zv (zku (w.1 (m + 2) (1 + 10 * r1)) (w.1 (m + 2) (2 + 10 * r1)) (M1 (m + 4)) 0) (zkd (w.1 (m + 2) (1 + 10 * r1)) (M1 (m + 4)) 0))), none, some (jI (n : Int))] [jI (n : Int)] 0 0 (jW (jW (M1, w.2) m 8 (zu (zku (w.1 (m + 2) (1 + 10 * r1)) (w.1 (m + 2) (2 + 10 * r1)) (M1 (m + 4)) n) (zkd (w.1 (m + 2) (1 + 10 * r1)) (M1 (m + 4)) n))) m 9 (zv (zku (w.1 (m + 2) (1 + 10 * r1)) (w.1 (m + 2) (2 + 10 * r1)) (M1 (m + 4)) n) (zkd (w.1 (m + 2) (1 + 10 * r1)) (M1 (m + 4)) n))) _
              refine jWp.ireti mt rfl ⟨rfl, rfl⟩ rfl ?_
              try rw [show ((r1 : Nat) : Int).toNat = r1 from rfl]
              refine ⟨fun c0 => ?_, fun c0 => ?_⟩
              all_goals first
              | (exfalso; omega)
              | exact ⟨rfl, rfl⟩
              | exact ⟨M1 (m + 4), len, why, left, hTR, Or.inl ⟨hkz, by have hq9 := zkp_l hk6; rw [← hr, show 60 - n = (60 - (n + 1)) + 1 by omega, zfs_t hk6 (by omega)], (mq_S (mq_S hmq (by decide)) (by decide))⟩⟩
            · have h7 : (zu (zku (w.1 (m + 2) (1 + 10 * r1)) (w.1 (m + 2) (2 + 10 * r1)) (M1 (m + 4)) n) (zkd (w.1 (m + 2) (1 + 10 * r1)) (M1 (m + 4)) n)) = (zu (zku (w.1 (m + 2) (1 + 10 * r1)) (w.1 (m + 2) (2 + 10 * r1)) (M1 (m + 4)) 0) (zkd (w.1 (m + 2) (1 + 10 * r1)) (M1 (m + 4)) 0)) := h7
              refine jWp.blk mt 1 ?_
              show _ ∧ jWp 155 69 [some (jO m), some (jI (r1 : Int)), some (jJ (zu (zku (w.1 (m + 2) (1 + 10 * r1)) (w.1 (m + 2) (2 + 10 * r1)) (M1 (m + 4)) 0) (zkd (w.1 (m + 2) (1 + 10 * r1)) (M1 (m + 4)) 0))), none, some (jJ (zv (zku (w.1 (m + 2) (1 + 10 * r1)) (w.1 (m + 2) (2 + 10 * r1)) (M1 (m + 4)) 0) (zkd (w.1 (m + 2) (1 + 10 * r1)) (M1 (m + 4)) 0))), none, some (jI (n : Int))] [jO m] 0 0 (jW (jW (M1, w.2) m 8 (zu (zku (w.1 (m + 2) (1 + 10 * r1)) (w.1 (m + 2) (2 + 10 * r1)) (M1 (m + 4)) n) (zkd (w.1 (m + 2) (1 + 10 * r1)) (M1 (m + 4)) n))) m 9 (zv (zku (w.1 (m + 2) (1 + 10 * r1)) (w.1 (m + 2) (2 + 10 * r1)) (M1 (m + 4)) n) (zkd (w.1 (m + 2) (1 + 10 * r1)) (M1 (m + 4)) n))) _
              refine ⟨rfl, ?_⟩
              refine jWp.getJ (pc' := 72) mt rfl rfl (jtg hW.K0) ?_
              rw [show ((jW (jW (M1, w.2) m 8 (zu (zku (w.1 (m + 2) (1 + 10 * r1)) (w.1 (m + 2) (2 + 10 * r1)) (M1 (m + 4)) n) (zkd (w.1 (m + 2) (1 + 10 * r1)) (M1 (m + 4)) n))) m 9 (zv (zku (w.1 (m + 2) (1 + 10 * r1)) (w.1 (m + 2) (2 + 10 * r1)) (M1 (m + 4)) n) (zkd (w.1 (m + 2) (1 + 10 * r1)) (M1 (m + 4)) n))).1 m 9) = (zv (zku (w.1 (m + 2) (1 + 10 * r1)) (w.1 (m + 2) (2 + 10 * r1)) (M1 (m + 4)) n) (zkd (w.1 (m + 2) (1 + 10 * r1)) (M1 (m + 4)) n)) from jW_s]
              show jWp 155 72 [some (jO m), some (jI (r1 : Int)), some (jJ (zu (zku (w.1 (m + 2) (1 + 10 * r1)) (w.1 (m + 2) (2 + 10 * r1)) (M1 (m + 4)) 0) (zkd (w.1 (m + 2) (1 + 10 * r1)) (M1 (m + 4)) 0))), none, some (jJ (zv (zku (w.1 (m + 2) (1 + 10 * r1)) (w.1 (m + 2) (2 + 10 * r1)) (M1 (m + 4)) 0) (zkd (w.1 (m + 2) (1 + 10 * r1)) (M1 (m + 4)) 0))), none, some (jI (n : Int))] [jJ (zv (zku (w.1 (m + 2) (1 + 10 * r1)) (w.1 (m + 2) (2 + 10 * r1)) (M1 (m + 4)) n) (zkd (w.1 (m + 2) (1 + 10 * r1)) (M1 (m + 4)) n))] 0 0 (jW (jW (M1, w.2) m 8 (zu (zku (w.1 (m + 2) (1 + 10 * r1)) (w.1 (m + 2) (2 + 10 * r1)) (M1 (m + 4)) n) (zkd (w.1 (m + 2) (1 + 10 * r1)) (M1 (m + 4)) n))) m 9 (zv (zku (w.1 (m + 2) (1 + 10 * r1)) (w.1 (m + 2) (2 + 10 * r1)) (M1 (m + 4)) n) (zkd (w.1 (m + 2) (1 + 10 * r1)) (M1 (m + 4)) n))) _
              refine jWp.blk mt 1 ?_
              show jWp 155 74 [some (jO m), some (jI (r1 : Int)), some (jJ (zu (zku (w.1 (m + 2) (1 + 10 * r1)) (w.1 (m + 2) (2 + 10 * r1)) (M1 (m + 4)) 0) (zkd (w.1 (m + 2) (1 + 10 * r1)) (M1 (m + 4)) 0))), none, some (jJ (zv (zku (w.1 (m + 2) (1 + 10 * r1)) (w.1 (m + 2) (2 + 10 * r1)) (M1 (m + 4)) 0) (zkd (w.1 (m + 2) (1 + 10 * r1)) (M1 (m + 4)) 0))), none, some (jI (n : Int))] [jJ (zv (zku (w.1 (m + 2) (1 + 10 * r1)) (w.1 (m + 2) (2 + 10 * r1)) (M1 (m + 4)) 0) (zkd (w.1 (m + 2) (1 + 10 * r1)) (M1 (m + 4)) 0)), jJ (zv (zku (w.1 (m + 2) (1 + 10 * r1)) (w.1 (m + 2) (2 + 10 * r1)) (M1 (m + 4)) n) (zkd (w.1 (m + 2) (1 + 10 * r1)) (M1 (m + 4)) n))] 0 0 (jW (jW (M1, w.2) m 8 (zu (zku (w.1 (m + 2) (1 + 10 * r1)) (w.1 (m + 2) (2 + 10 * r1)) (M1 (m + 4)) n) (zkd (w.1 (m + 2) (1 + 10 * r1)) (M1 (m + 4)) n))) m 9 (zv (zku (w.1 (m + 2) (1 + 10 * r1)) (w.1 (m + 2) (2 + 10 * r1)) (M1 (m + 4)) n) (zkd (w.1 (m + 2) (1 + 10 * r1)) (M1 (m + 4)) n))) _
              refine jWp.lcmp (pc' := 78) mt rfl rfl rfl (b64_id (by omega) (by omega)) (b64_id (by omega) (by omega)) (fun h8 => ?_) (fun h8 => ?_)
              · have h8 : (zv (zku (w.1 (m + 2) (1 + 10 * r1)) (w.1 (m + 2) (2 + 10 * r1)) (M1 (m + 4)) n) (zkd (w.1 (m + 2) (1 + 10 * r1)) (M1 (m + 4)) n)) = (zv (zku (w.1 (m + 2) (1 + 10 * r1)) (w.1 (m + 2) (2 + 10 * r1)) (M1 (m + 4)) 0) (zkd (w.1 (m + 2) (1 + 10 * r1)) (M1 (m + 4)) 0)) := h8
                refine jWp.blk mt 2 ?_
                show jWp 155 49 [some (jO m), some (jI (r1 : Int)), some (jJ (zu (zku (w.1 (m + 2) (1 + 10 * r1)) (w.1 (m + 2) (2 + 10 * r1)) (M1 (m + 4)) 0) (zkd (w.1 (m + 2) (1 + 10 * r1)) (M1 (m + 4)) 0))), none, some (jJ (zv (zku (w.1 (m + 2) (1 + 10 * r1)) (w.1 (m + 2) (2 + 10 * r1)) (M1 (m + 4)) 0) (zkd (w.1 (m + 2) (1 + 10 * r1)) (M1 (m + 4)) 0))), none, some (jI ((n : Int) + 1))] [] 0 0 (jW (jW (M1, w.2) m 8 (zu (zku (w.1 (m + 2) (1 + 10 * r1)) (w.1 (m + 2) (2 + 10 * r1)) (M1 (m + 4)) n) (zkd (w.1 (m + 2) (1 + 10 * r1)) (M1 (m + 4)) n))) m 9 (zv (zku (w.1 (m + 2) (1 + 10 * r1)) (w.1 (m + 2) (2 + 10 * r1)) (M1 (m + 4)) n) (zkd (w.1 (m + 2) (1 + 10 * r1)) (M1 (m + 4)) n))) _
                refine jWp.le (l := [some (jO m), some (jI (r1 : Int)), some (jJ (zu (zku (w.1 (m + 2) (1 + 10 * r1)) (w.1 (m + 2) (2 + 10 * r1)) (M1 (m + 4)) 0) (zkd (w.1 (m + 2) (1 + 10 * r1)) (M1 (m + 4)) 0))), none, some (jJ (zv (zku (w.1 (m + 2) (1 + 10 * r1)) (w.1 (m + 2) (2 + 10 * r1)) (M1 (m + 4)) 0) (zkd (w.1 (m + 2) (1 + 10 * r1)) (M1 (m + 4)) 0))), none, some (jI ((n : Int) + 1))]) (by exact ⟨rfl, rfl, rfl, rfl, rfl, trivial⟩) ?_
                exact ih5 (n + 1) _ _ (by have hq9 := zkp_l hk6; omega) (by have hq9 := zkp_l hk6; rw [← hr, show 60 - n = (60 - (n + 1)) + 1 by omega, zfs_f hk6 (by omega)]) (by have hq9 := zkp_l hk6; omega)
              · have h8 : (zv (zku (w.1 (m + 2) (1 + 10 * r1)) (w.1 (m + 2) (2 + 10 * r1)) (M1 (m + 4)) n) (zkd (w.1 (m + 2) (1 + 10 * r1)) (M1 (m + 4)) n)) ≠ (zv (zku (w.1 (m + 2) (1 + 10 * r1)) (w.1 (m + 2) (2 + 10 * r1)) (M1 (m + 4)) 0) (zkd (w.1 (m + 2) (1 + 10 * r1)) (M1 (m + 4)) 0)) := h8
                refine jWp.blk mt 1 ?_
                show jWp 155 80 [some (jO m), some (jI (r1 : Int)), some (jJ (zu (zku (w.1 (m + 2) (1 + 10 * r1)) (w.1 (m + 2) (2 + 10 * r1)) (M1 (m + 4)) 0) (zkd (w.1 (m + 2) (1 + 10 * r1)) (M1 (m + 4)) 0))), none, some (jJ (zv (zku (w.1 (m + 2) (1 + 10 * r1)) (w.1 (m + 2) (2 + 10 * r1)) (M1 (m + 4)) 0) (zkd (w.1 (m + 2) (1 + 10 * r1)) (M1 (m + 4)) 0))), none, some (jI (n : Int))] [jI (n : Int)] 0 0 (jW (jW (M1, w.2) m 8 (zu (zku (w.1 (m + 2) (1 + 10 * r1)) (w.1 (m + 2) (2 + 10 * r1)) (M1 (m + 4)) n) (zkd (w.1 (m + 2) (1 + 10 * r1)) (M1 (m + 4)) n))) m 9 (zv (zku (w.1 (m + 2) (1 + 10 * r1)) (w.1 (m + 2) (2 + 10 * r1)) (M1 (m + 4)) n) (zkd (w.1 (m + 2) (1 + 10 * r1)) (M1 (m + 4)) n))) _
                refine jWp.ireti mt rfl ⟨rfl, rfl⟩ rfl ?_
                try rw [show ((r1 : Nat) : Int).toNat = r1 from rfl]
                refine ⟨fun c0 => ?_, fun c0 => ?_⟩
                all_goals first
                | (exfalso; omega)
                | exact ⟨rfl, rfl⟩
                | exact ⟨M1 (m + 4), len, why, left, hTR, Or.inl ⟨hkz, by have hq9 := zkp_l hk6; rw [← hr, show 60 - n = (60 - (n + 1)) + 1 by omega, zfs_t hk6 (by omega)], (mq_S (mq_S hmq (by decide)) (by decide))⟩⟩
          · have hk6' := hk6
            show jWp 155 56 [some (jO m), some (jI (r1 : Int)), some (jJ (zu (zku (w.1 (m + 2) (1 + 10 * r1)) (w.1 (m + 2) (2 + 10 * r1)) (M1 (m + 4)) 0) (zkd (w.1 (m + 2) (1 + 10 * r1)) (M1 (m + 4)) 0))), none, some (jJ (zv (zku (w.1 (m + 2) (1 + 10 * r1)) (w.1 (m + 2) (2 + 10 * r1)) (M1 (m + 4)) 0) (zkd (w.1 (m + 2) (1 + 10 * r1)) (M1 (m + 4)) 0))), none, some (jI (n : Int))] [jI 0] 0 0 (jW (jW (M1, w.2) m 8 x8) m 9 x9) _
            refine jWp.ifc (b := true) mt rfl (by decide) rfl ?_
            show jWp 155 87 [some (jO m), some (jI (r1 : Int)), some (jJ (zu (zku (w.1 (m + 2) (1 + 10 * r1)) (w.1 (m + 2) (2 + 10 * r1)) (M1 (m + 4)) 0) (zkd (w.1 (m + 2) (1 + 10 * r1)) (M1 (m + 4)) 0))), none, some (jJ (zv (zku (w.1 (m + 2) (1 + 10 * r1)) (w.1 (m + 2) (2 + 10 * r1)) (M1 (m + 4)) 0) (zkd (w.1 (m + 2) (1 + 10 * r1)) (M1 (m + 4)) 0))), none, some (jI (n : Int))] [] 0 0 (jW (jW (M1, w.2) m 8 x8) m 9 x9) _
            refine jWp.blk mt 1 ?_
            show jWp 155 89 [some (jO m), some (jI (r1 : Int)), some (jJ (zu (zku (w.1 (m + 2) (1 + 10 * r1)) (w.1 (m + 2) (2 + 10 * r1)) (M1 (m + 4)) 0) (zkd (w.1 (m + 2) (1 + 10 * r1)) (M1 (m + 4)) 0))), none, some (jJ (zv (zku (w.1 (m + 2) (1 + 10 * r1)) (w.1 (m + 2) (2 + 10 * r1)) (M1 (m + 4)) 0) (zkd (w.1 (m + 2) (1 + 10 * r1)) (M1 (m + 4)) 0))), none, some (jI (n : Int))] [jI (-9)] 0 0 (jW (jW (M1, w.2) m 8 x8) m 9 x9) _
            refine jWp.ireti mt rfl ⟨rfl, rfl⟩ rfl ?_
            try rw [show ((r1 : Nat) : Int).toNat = r1 from rfl]
            refine ⟨fun c0 => ?_, fun c0 => ?_⟩
            all_goals first
            | (exfalso; omega)
            | exact ⟨rfl, rfl⟩
            | exact ⟨M1 (m + 4), len, why, left, hTR, Or.inl ⟨hkz, by rw [← hr, zfs_n (by assumption)], (mq_S (mq_S hmq (by decide)) (by decide))⟩⟩
      refine jWp.le (l := [some (jO m), some (jI (r1 : Int)), some (jJ (zu (zku (w.1 (m + 2) (1 + 10 * r1)) (w.1 (m + 2) (2 + 10 * r1)) (M1 (m + 4)) 0) (zkd (w.1 (m + 2) (1 + 10 * r1)) (M1 (m + 4)) 0))), none, some (jJ (zv (zku (w.1 (m + 2) (1 + 10 * r1)) (w.1 (m + 2) (2 + 10 * r1)) (M1 (m + 4)) 0) (zkd (w.1 (m + 2) (1 + 10 * r1)) (M1 (m + 4)) 0))), none, some (jI 1)]) (by exact ⟨rfl, rfl, rfl, rfl, rfl, trivial⟩) ?_
      exact lp4 _ 1 _ _ (by omega) rfl (Nat.lt_succ_self _)
    · have hk3' := hk3
      show jWp 155 25 [some (jO m), some (jI (r1 : Int)), none, none, none, none, none] [jI 0] 0 0 (M1, w.2) _
      refine jWp.ifc (b := false) mt rfl (by decide) rfl ?_
      show jWp 155 28 [some (jO m), some (jI (r1 : Int)), none, none, none, none, none] [] 0 0 (M1, w.2) _
      refine jWp.blk mt 2 ?_
      show _ ∧ jWp 155 31 [some (jO m), some (jI (r1 : Int)), none, none, none, none, none] [jI (-3), jO m] 0 0 (M1, w.2) _
      refine ⟨rfl, ?_⟩
      refine jWp.callv (as := [jO m, jI (-3)]) (rest := []) mt rfl rfl rfl ⟨rfl, jtg hW.K0⟩ ?_
      refine jCall.mono (E_refuses (w := (M1, w.2)) (j := 3) hW (by decide) (by decide)) (fun v9 w9 h9 => ?_)
      obtain ⟨rfl, h9⟩ := h9
      subst h9
      show jWp 155 34 [some (jO m), some (jI (r1 : Int)), none, none, none, none, none] [jI (-3)] 0 0 (jW (M1, w.2) (m + 3) 3 (((M1, w.2).1 (m + 3) 3) + 1)) _
      refine jWp.ireti mt rfl ⟨rfl, rfl⟩ rfl ?_
      try rw [show ((r1 : Nat) : Int).toNat = r1 from rfl]
      refine ⟨fun c0 => ?_, fun c0 => ?_⟩
      all_goals first
      | (exfalso; omega)
      | exact ⟨rfl, rfl⟩
      | exact ⟨M1 (m + 4), len, why, left, hTR, Or.inr ⟨by assumption, jnq_2 hmq⟩⟩
  · have h1 : ¬ (0 ≤ r ∧ r < (c : Int)) := h1
    show jWp 155 5 [some (jO m), some (jI r), none, none, none, none, none] [jI 0] 0 0 w _
    refine jWp.ifc (b := false) mt rfl (by decide) rfl ?_
    show jWp 155 8 [some (jO m), some (jI r), none, none, none, none, none] [] 0 0 w _
    refine jWp.blk mt 2 ?_
    show _ ∧ jWp 155 10 [some (jO m), some (jI r), none, none, none, none, none] [jI (-1), jO m] 0 0 w _
    refine ⟨rfl, ?_⟩
    refine jWp.callv (as := [jO m, jI (-1)]) (rest := []) mt rfl rfl rfl ⟨rfl, jtg hW.K0⟩ ?_
    refine jCall.mono (E_refuses (w := w) (j := 1) hW (by decide) (by decide)) (fun v9 w9 h9 => ?_)
    obtain ⟨rfl, h9⟩ := h9
    subst h9
    show jWp 155 13 [some (jO m), some (jI r), none, none, none, none, none] [jI (-1)] 0 0 (jW w (m + 3) 1 ((w.1 (m + 3) 1) + 1)) _
    refine jWp.ireti mt rfl ⟨rfl, rfl⟩ rfl ?_
    try rw [show ((r1 : Nat) : Int).toNat = r1 from rfl]
    refine ⟨fun c0 => ?_, fun c0 => ?_⟩
    all_goals first
    | (exfalso; omega)
    | exact ⟨rfl, rfl⟩
set_option maxHeartbeats 4000000 in
set_option maxRecDepth 20000 in
theorem E_common {w : jS} {m : Nat} (hW : MW w.2 m) {c : Nat} (hR : zRw (w.1 (m + 2)) c) {r : Int} (hrr : r32 r) : jCall 156 [jO m, jI r] w (fun v w1 => ((¬ (0 ≤ r ∧ r < (c : Int))) → jno w m 1 (jI (-1)) v w1) ∧ (¬ (¬ (0 ≤ r ∧ r < (c : Int))) → ∃ (t : Nat → Int) (len : Nat) (why left : Int), zTR (w.1 (m + 2)) r.toNat t len why left ∧ v = some (jI (zff (fun k => zg (t k) (t (k + 1)) ≠ 1) (len - 1) 0)) ∧ mq w m w1)) := by
  have mt : jtb 156 = jT156 := rfl
  have hc4 := hR.2.1
  have hrr1 : -2147483648 ≤ r ∧ r < 2147483648 := hrr
  show jWp 156 0 [some (jO m), some (jI r), none] [] 0 0 w _
  refine jWp.blk mt 2 ?_
  show _ ∧ jWp 156 2 [some (jO m), some (jI r), none] [jI r, jO m] 0 0 w _
  refine ⟨rfl, ?_⟩
  refine jWp.callv (as := [jO m, jI r]) (rest := []) mt rfl rfl rfl ⟨rfl, jtg hW.K0⟩ ?_
  refine jCall.mono (E_isRow hW hR hrr) (fun v9 w9 h9 => ?_)
  rcases h9 with ⟨rfl, h9, h1⟩ | ⟨rfl, h9, h1⟩ <;> subst w9
  · have h1 : 0 ≤ r ∧ r < (c : Int) := h1
    show jWp 156 5 [some (jO m), some (jI r), none] [jI 1] 0 0 w _
    obtain ⟨r1, rfl⟩ : ∃ r1 : Nat, r = (r1 : Int) := ⟨r.toNat, by omega⟩
    show jWp 156 5 [some (jO m), some (jI (r1 : Int)), none] [jI 1] 0 0 w _
    have hRr := hR.2.2 r1 (by omega)
    have hRo := zO_b hRr.1.1 hRr.1.2
    refine jWp.ifc (b := true) mt rfl (by decide) rfl ?_
    show jWp 156 14 [some (jO m), some (jI (r1 : Int)), none] [] 0 0 w _
    refine jWp.blk mt 2 ?_
    show _ ∧ jWp 156 16 [some (jO m), some (jI (r1 : Int)), none] [jI (r1 : Int), jO m] 0 0 w _
    refine ⟨rfl, ?_⟩
    refine jWp.callv (as := [jO m, jI (r1 : Int)]) (rest := []) mt rfl rfl rfl ⟨rfl, jtg hW.K0⟩ ?_
    refine jCall.mono (E_termsW (w := w) (W := w) (x := r1) hW hR (by omega) mq_0) (fun v9 w9 h9 => ?_)
    obtain ⟨rfl, hF, hmq, len, why, left, k4, k5, k6, hTR⟩ := h9
    obtain ⟨M1, G9⟩ := w9
    have hg : G9 = w.2 := hmq.1
    subst hg
    have k4 : M1 m 4 = (len : Int) := k4
    have hTR : zTR (w.1 (m + 2)) r1 (M1 (m + 4)) len why left := hTR
    have hTb := zTR_b hR (by omega) hTR
    have hM2 : M1 (m + 2) = w.1 (m + 2) := hmq.2.1 _ (by omega)
    show jWp 156 19 [some (jO m), some (jI (r1 : Int)), none] [] 0 0 (M1, w.2) _
    refine jWp.blk mt 2 ?_
    show jWp 156 21 [some (jO m), some (jI (r1 : Int)), some (jI 0)] [] 0 0 (M1, w.2) _
    have lp3 : ∀ (N : Nat) (k : Nat) (hk : k ≤ len - 1) (hr : zff (fun k => zg (M1 (m + 4) k) (M1 (m + 4) (k + 1)) ≠ 1) (len - 1 - k) k = zff (fun k => zg (M1 (m + 4) k) (M1 (m + 4) (k + 1)) ≠ 1) (len - 1) 0), len - k < N → jWp 156 21 [some (jO m), some (jI (r1 : Int)), some (jI (k : Int))] [] 0 0 (M1, w.2) (fun v w1 => ((¬ (0 ≤ (r1 : Int) ∧ (r1 : Int) < (c : Int))) → jno w m 1 (jI (-1)) v w1) ∧ (¬ (¬ (0 ≤ (r1 : Int) ∧ (r1 : Int) < (c : Int))) → ∃ (t : Nat → Int) (len : Nat) (why left : Int), zTR (w.1 (m + 2)) (r1 : Int).toNat t len why left ∧ v = some (jI (zff (fun k => zg (t k) (t (k + 1)) ≠ 1) (len - 1) 0)) ∧ mq w m w1)) := by
      intro N
      induction N with
      | zero => intro k hk hr hm; omega
      | succ N ih4 =>
        intro k hk hr hm
        have hf : k < len → _ := fun h => hTb.2.2 k h
        have hf1 : k + 1 < len → _ := fun h => hTb.2.2 (k + 1) h
        have hl2 := hTb.2.1
        have hl60 := hTb.1
        refine jWp.blk mt 4 ?_
        show _ ∧ jWp 156 25 [some (jO m), some (jI (r1 : Int)), some (jI (k : Int))] [jO m, jI ((k : Int) + 1)] 0 0 (M1, w.2) _
        refine ⟨rfl, ?_⟩
        refine jWp.getI (pc' := 28) mt rfl rfl (jtg hW.K0) ?_
        rw [show ((M1, w.2).1 m 4) = (len : Int) from k4]
        show jWp 156 28 [some (jO m), some (jI (r1 : Int)), some (jI (k : Int))] [jI (len : Int), jI ((k : Int) + 1)] 0 0 (M1, w.2) _
        refine jWp.icmp (pc' := 31) mt rfl rfl (b32_id (by omega) (by omega)) (b32_id (by omega) (by omega)) (fun h5 => ?_) (fun h5 => ?_)
        · have h5 : (len : Int) ≤ ((k : Int) + 1) := h5
          refine jWp.blk mt 1 ?_
          show jWp 156 63 [some (jO m), some (jI (r1 : Int)), some (jI (k : Int))] [jI (-9)] 0 0 (M1, w.2) _
          refine jWp.ireti mt rfl ⟨rfl, rfl⟩ rfl ?_
          try rw [show ((r1 : Nat) : Int).toNat = r1 from rfl]
          refine ⟨fun c0 => ?_, fun c0 => ?_⟩
          all_goals first
          | (exfalso; omega)
          | exact ⟨rfl, rfl⟩
          | exact ⟨M1 (m + 4), len, why, left, hTR, by rw [← hr, show len - 1 - k = 0 by omega]; rfl, hmq⟩
        · have h5 : ((k : Int) + 1) < (len : Int) := h5
          refine jWp.blk mt 1 ?_
          show _ ∧ jWp 156 32 [some (jO m), some (jI (r1 : Int)), some (jI (k : Int))] [jO m] 0 0 (M1, w.2) _
          refine ⟨rfl, ?_⟩
          refine jWp.getR (pc' := 35) (o := (m + 4)) mt rfl rfl (jtg hW.K0) hW.R3 ?_
          show jWp 156 35 [some (jO m), some (jI (r1 : Int)), some (jI (k : Int))] [jO (m + 4)] 0 0 (M1, w.2) _
          refine jWp.blk mt 1 ?_
          show jWp 156 36 [some (jO m), some (jI (r1 : Int)), some (jI (k : Int))] [jI (k : Int), jO (m + 4)] 0 0 (M1, w.2) _
          refine jWp.lald (pc' := 37) (j := k) mt rfl rfl (jtg hW.K4) (b32_id (by omega) (by omega)) (jlt hW.K4 (by omega)) ?_
          rw [show ((M1, w.2).1 (m + 4) k) = (M1 (m + 4) k) from rfl]
          show jWp 156 37 [some (jO m), some (jI (r1 : Int)), some (jI (k : Int))] [jJ (M1 (m + 4) k)] 0 0 (M1, w.2) _
          refine jWp.blk mt 1 ?_
          show _ ∧ jWp 156 38 [some (jO m), some (jI (r1 : Int)), some (jI (k : Int))] [jO m, jJ (M1 (m + 4) k)] 0 0 (M1, w.2) _
          refine ⟨rfl, ?_⟩
          refine jWp.getR (pc' := 41) (o := (m + 4)) mt rfl rfl (jtg hW.K0) hW.R3 ?_
          show jWp 156 41 [some (jO m), some (jI (r1 : Int)), some (jI (k : Int))] [jO (m + 4), jJ (M1 (m + 4) k)] 0 0 (M1, w.2) _
          refine jWp.blk mt 3 ?_
          show jWp 156 44 [some (jO m), some (jI (r1 : Int)), some (jI (k : Int))] [jI ((k : Int) + 1), jO (m + 4), jJ (M1 (m + 4) k)] 0 0 (M1, w.2) _
          refine jWp.lald (pc' := 45) (j := (k + 1)) mt rfl rfl (jtg hW.K4) (by rw [b32_id (by omega) (by omega)]; omega) (jlt hW.K4 (by omega)) ?_
          rw [show ((M1, w.2).1 (m + 4) (k + 1)) = (M1 (m + 4) (k + 1)) from rfl]
          show jWp 156 45 [some (jO m), some (jI (r1 : Int)), some (jI (k : Int))] [jJ (M1 (m + 4) (k + 1)), jJ (M1 (m + 4) k)] 0 0 (M1, w.2) _
          refine jWp.calls (as := [jJ (M1 (m + 4) k), jJ (M1 (m + 4) (k + 1))]) (rest := []) mt rfl rfl rfl rfl ?_
          refine jCall.mono (E_div (by omega) (by omega)) (fun v9 w9 h9 => ?_)
          obtain ⟨rfl, h9⟩ := h9
          subst w9
          show jWp 156 48 [some (jO m), some (jI (r1 : Int)), some (jI (k : Int))] [jJ (zg (M1 (m + 4) k) (M1 (m + 4) (k + 1)))] 0 0 (M1, w.2) _
          have hgr := zg_r (a := (M1 (m + 4) k)) (b := (M1 (m + 4) (k + 1))) (by omega) (by omega)
          refine jWp.blk mt 1 ?_
          show jWp 156 49 [some (jO m), some (jI (r1 : Int)), some (jI (k : Int))] [jJ 1, jJ (zg (M1 (m + 4) k) (M1 (m + 4) (k + 1)))] 0 0 (M1, w.2) _
          refine jWp.lcmp (pc' := 53) mt rfl rfl rfl (b64_id (by omega) (by omega)) (show b64 1 = 1 by decide) (fun h6 => ?_) (fun h6 => ?_)
          · have h6 : (zg (M1 (m + 4) k) (M1 (m + 4) (k + 1))) = 1 := h6
            refine jWp.blk mt 2 ?_
            show jWp 156 21 [some (jO m), some (jI (r1 : Int)), some (jI ((k : Int) + 1))] [] 0 0 (M1, w.2) _
            refine jWp.le (l := [some (jO m), some (jI (r1 : Int)), some (jI ((k : Int) + 1))]) (by exact ⟨rfl, rfl, rfl, trivial⟩) ?_
            exact ih4 (k + 1) (by omega) (by rw [← hr, show len - 1 - k = (len - 1 - (k + 1)) + 1 by omega, zff_f (fun g => by omega)]) (by omega)
          · have h6 : (zg (M1 (m + 4) k) (M1 (m + 4) (k + 1))) ≠ 1 := h6
            refine jWp.blk mt 1 ?_
            show jWp 156 54 [some (jO m), some (jI (r1 : Int)), some (jI (k : Int))] [jI (k : Int)] 0 0 (M1, w.2) _
            refine jWp.ireti mt rfl ⟨rfl, rfl⟩ rfl ?_
            try rw [show ((r1 : Nat) : Int).toNat = r1 from rfl]
            refine ⟨fun c0 => ?_, fun c0 => ?_⟩
            all_goals first
            | (exfalso; omega)
            | exact ⟨rfl, rfl⟩
            | exact ⟨M1 (m + 4), len, why, left, hTR, by rw [← hr, show len - 1 - k = (len - 1 - (k + 1)) + 1 by omega, zff_t (by assumption)], hmq⟩
    refine jWp.le (l := [some (jO m), some (jI (r1 : Int)), some (jI 0)]) (by exact ⟨rfl, rfl, rfl, trivial⟩) ?_
    exact lp3 _ 0 (by omega) (by rw [Nat.sub_zero]) (Nat.lt_succ_self _)
  · have h1 : ¬ (0 ≤ r ∧ r < (c : Int)) := h1
    show jWp 156 5 [some (jO m), some (jI r), none] [jI 0] 0 0 w _
    refine jWp.ifc (b := false) mt rfl (by decide) rfl ?_
    show jWp 156 8 [some (jO m), some (jI r), none] [] 0 0 w _
    refine jWp.blk mt 2 ?_
    show _ ∧ jWp 156 10 [some (jO m), some (jI r), none] [jI (-1), jO m] 0 0 w _
    refine ⟨rfl, ?_⟩
    refine jWp.callv (as := [jO m, jI (-1)]) (rest := []) mt rfl rfl rfl ⟨rfl, jtg hW.K0⟩ ?_
    refine jCall.mono (E_refuses (w := w) (j := 1) hW (by decide) (by decide)) (fun v9 w9 h9 => ?_)
    obtain ⟨rfl, h9⟩ := h9
    subst h9
    show jWp 156 13 [some (jO m), some (jI r), none] [jI (-1)] 0 0 (jW w (m + 3) 1 ((w.1 (m + 3) 1) + 1)) _
    refine jWp.ireti mt rfl ⟨rfl, rfl⟩ rfl ?_
    try rw [show ((r1 : Nat) : Int).toNat = r1 from rfl]
    refine ⟨fun c0 => ?_, fun c0 => ?_⟩
    all_goals first
    | (exfalso; omega)
    | exact ⟨rfl, rfl⟩
    | exact ⟨M1 (m + 4), len, why, left, hTR, by rw [← hr, show len - 1 - k = 0 by omega]; rfl, hmq⟩
theorem zmodA {x d : Int} (hd : 2 ≤ d ∧ d ≤ 9999) : -10000 ≤ Int.tmod x d ∧ Int.tmod x d ≤ 10000 := by
  have h1 : (Int.tmod x d).natAbs = x.natAbs % d.natAbs := Int.natAbs_tmod _ _
  have h3 : x.natAbs % d.natAbs < d.natAbs := Nat.mod_lt _ (by omega)
  omega
set_option maxHeartbeats 4000000 in
set_option maxRecDepth 20000 in
theorem E_divided {w : jS} {m : Nat} (hW : MW w.2 m) {c : Nat} (hR : zRw (w.1 (m + 2)) c) {r d : Int} (hrr : r32 r) (hrd : r32 d) : jCall 157 [jO m, jI r, jI d] w (fun v w1 => ((¬ (0 ≤ r ∧ r < (c : Int))) → jno w m 1 (jI (-1)) v w1) ∧ (¬ (¬ (0 ≤ r ∧ r < (c : Int))) → (d < 2) → jno w m 4 (jI (-4)) v w1) ∧ (¬ (¬ (0 ≤ r ∧ r < (c : Int))) → ¬ (d < 2) → (9999 < d) → jno w m 6 (jI (-6)) v w1) ∧ (¬ (¬ (0 ≤ r ∧ r < (c : Int))) → ¬ (d < 2) → ¬ (9999 < d) → ∃ (t : Nat → Int) (len : Nat) (why left : Int), zTR (w.1 (m + 2)) r.toNat t len why left ∧ v = some (jI (zff (fun k => Int.tmod (t k) d = 0) len 0)) ∧ mq w m w1)) := by
  have mt : jtb 157 = jT157 := rfl
  have hc4 := hR.2.1
  have hrr1 : -2147483648 ≤ r ∧ r < 2147483648 := hrr
  have hrd1 : -2147483648 ≤ d ∧ d < 2147483648 := hrd
  show jWp 157 0 [some (jO m), some (jI r), some (jI d), none] [] 0 0 w _
  refine jWp.blk mt 2 ?_
  show _ ∧ jWp 157 2 [some (jO m), some (jI r), some (jI d), none] [jI r, jO m] 0 0 w _
  refine ⟨rfl, ?_⟩
  refine jWp.callv (as := [jO m, jI r]) (rest := []) mt rfl rfl rfl ⟨rfl, jtg hW.K0⟩ ?_
  refine jCall.mono (E_isRow hW hR hrr) (fun v9 w9 h9 => ?_)
  rcases h9 with ⟨rfl, h9, h1⟩ | ⟨rfl, h9, h1⟩ <;> subst w9
  · have h1 : 0 ≤ r ∧ r < (c : Int) := h1
    show jWp 157 5 [some (jO m), some (jI r), some (jI d), none] [jI 1] 0 0 w _
    obtain ⟨r1, rfl⟩ : ∃ r1 : Nat, r = (r1 : Int) := ⟨r.toNat, by omega⟩
    show jWp 157 5 [some (jO m), some (jI (r1 : Int)), some (jI d), none] [jI 1] 0 0 w _
    have hRr := hR.2.2 r1 (by omega)
    have hRo := zO_b hRr.1.1 hRr.1.2
    refine jWp.ifc (b := true) mt rfl (by decide) rfl ?_
    show jWp 157 14 [some (jO m), some (jI (r1 : Int)), some (jI d), none] [] 0 0 w _
    refine jWp.blk mt 2 ?_
    show jWp 157 16 [some (jO m), some (jI (r1 : Int)), some (jI d), none] [jI 2, jI d] 0 0 w _
    refine jWp.icmp (pc' := 19) mt rfl rfl (b32_id (by omega) (by omega)) (show b32 2 = 2 by decide) (fun h2 => ?_) (fun h2 => ?_)
    · have h2 : 2 ≤ d := h2
      refine jWp.blk mt 2 ?_
      show jWp 157 30 [some (jO m), some (jI (r1 : Int)), some (jI d), none] [jI 9999, jI d] 0 0 w _
      refine jWp.icmp (pc' := 33) mt rfl rfl (b32_id (by omega) (by omega)) (show b32 9999 = 9999 by decide) (fun h3 => ?_) (fun h3 => ?_)
      · have h3 : d ≤ 9999 := h3
        refine jWp.blk mt 2 ?_
        show _ ∧ jWp 157 42 [some (jO m), some (jI (r1 : Int)), some (jI d), none] [jI (r1 : Int), jO m] 0 0 w _
        refine ⟨rfl, ?_⟩
        refine jWp.callv (as := [jO m, jI (r1 : Int)]) (rest := []) mt rfl rfl rfl ⟨rfl, jtg hW.K0⟩ ?_
        refine jCall.mono (E_termsW (w := w) (W := w) (x := r1) hW hR (by omega) mq_0) (fun v9 w9 h9 => ?_)
        obtain ⟨rfl, hF, hmq, len, why, left, k4, k5, k6, hTR⟩ := h9
        obtain ⟨M1, G9⟩ := w9
        have hg : G9 = w.2 := hmq.1
        subst hg
        have k4 : M1 m 4 = (len : Int) := k4
        have hTR : zTR (w.1 (m + 2)) r1 (M1 (m + 4)) len why left := hTR
        have hTb := zTR_b hR (by omega) hTR
        have hM2 : M1 (m + 2) = w.1 (m + 2) := hmq.2.1 _ (by omega)
        show jWp 157 45 [some (jO m), some (jI (r1 : Int)), some (jI d), none] [] 0 0 (M1, w.2) _
        refine jWp.blk mt 2 ?_
        show jWp 157 47 [some (jO m), some (jI (r1 : Int)), some (jI d), some (jI 0)] [] 0 0 (M1, w.2) _
        have lp5 : ∀ (N : Nat) (k : Nat) (hk : k ≤ len) (hr : zff (fun k => Int.tmod (M1 (m + 4) k) d = 0) (len - k) k = zff (fun k => Int.tmod (M1 (m + 4) k) d = 0) len 0), len - k < N → jWp 157 47 [some (jO m), some (jI (r1 : Int)), some (jI d), some (jI (k : Int))] [] 0 0 (M1, w.2) (fun v w1 => ((¬ (0 ≤ (r1 : Int) ∧ (r1 : Int) < (c : Int))) → jno w m 1 (jI (-1)) v w1) ∧ (¬ (¬ (0 ≤ (r1 : Int) ∧ (r1 : Int) < (c : Int))) → (d < 2) → jno w m 4 (jI (-4)) v w1) ∧ (¬ (¬ (0 ≤ (r1 : Int) ∧ (r1 : Int) < (c : Int))) → ¬ (d < 2) → (9999 < d) → jno w m 6 (jI (-6)) v w1) ∧ (¬ (¬ (0 ≤ (r1 : Int) ∧ (r1 : Int) < (c : Int))) → ¬ (d < 2) → ¬ (9999 < d) → ∃ (t : Nat → Int) (len : Nat) (why left : Int), zTR (w.1 (m + 2)) (r1 : Int).toNat t len why left ∧ v = some (jI (zff (fun k => Int.tmod (t k) d = 0) len 0)) ∧ mq w m w1)) := by
          intro N
          induction N with
          | zero => intro k hk hr hm; omega
          | succ N ih6 =>
            intro k hk hr hm
            have hf : k < len → _ := fun h => hTb.2.2 k h
            have hl60 := hTb.1
            have hmo := zmodA (x := M1 (m + 4) k) (d := d) (by omega)
            refine jWp.blk mt 2 ?_
            show _ ∧ jWp 157 49 [some (jO m), some (jI (r1 : Int)), some (jI d), some (jI (k : Int))] [jO m, jI (k : Int)] 0 0 (M1, w.2) _
            refine ⟨rfl, ?_⟩
            refine jWp.getI (pc' := 52) mt rfl rfl (jtg hW.K0) ?_
            rw [show ((M1, w.2).1 m 4) = (len : Int) from k4]
            show jWp 157 52 [some (jO m), some (jI (r1 : Int)), some (jI d), some (jI (k : Int))] [jI (len : Int), jI (k : Int)] 0 0 (M1, w.2) _
            refine jWp.icmp (pc' := 55) mt rfl rfl (b32_id (by omega) (by omega)) (b32_id (by omega) (by omega)) (fun h7 => ?_) (fun h7 => ?_)
            · have h7 : (len : Int) ≤ (k : Int) := h7
              refine jWp.blk mt 1 ?_
              show jWp 157 79 [some (jO m), some (jI (r1 : Int)), some (jI d), some (jI (k : Int))] [jI (-9)] 0 0 (M1, w.2) _
              refine jWp.ireti mt rfl ⟨rfl, rfl⟩ rfl ?_
              try rw [show ((r1 : Nat) : Int).toNat = r1 from rfl]
              refine ⟨fun c0 => ?_, fun c0 c1 => ?_, fun c0 c1 c2 => ?_, fun c0 c1 c2 => ?_⟩
              all_goals first
              | (exfalso; omega)
              | exact ⟨rfl, rfl⟩
              | exact ⟨M1 (m + 4), len, why, left, hTR, by rw [← hr, show len - k = 0 by omega]; rfl, hmq⟩
            · have h7 : (k : Int) < (len : Int) := h7
              refine jWp.blk mt 1 ?_
              show _ ∧ jWp 157 56 [some (jO m), some (jI (r1 : Int)), some (jI d), some (jI (k : Int))] [jO m] 0 0 (M1, w.2) _
              refine ⟨rfl, ?_⟩
              refine jWp.getR (pc' := 59) (o := (m + 4)) mt rfl rfl (jtg hW.K0) hW.R3 ?_
              show jWp 157 59 [some (jO m), some (jI (r1 : Int)), some (jI d), some (jI (k : Int))] [jO (m + 4)] 0 0 (M1, w.2) _
              refine jWp.blk mt 1 ?_
              show jWp 157 60 [some (jO m), some (jI (r1 : Int)), some (jI d), some (jI (k : Int))] [jI (k : Int), jO (m + 4)] 0 0 (M1, w.2) _
              refine jWp.lald (pc' := 61) (j := k) mt rfl rfl (jtg hW.K4) (b32_id (by omega) (by omega)) (jlt hW.K4 (by omega)) ?_
              rw [show ((M1, w.2).1 (m + 4) k) = (M1 (m + 4) k) from rfl]
              show jWp 157 61 [some (jO m), some (jI (r1 : Int)), some (jI d), some (jI (k : Int))] [jJ (M1 (m + 4) k)] 0 0 (M1, w.2) _
              refine jWp.blk mt 1 ?_
              show jWp 157 62 [some (jO m), some (jI (r1 : Int)), some (jI d), some (jI (k : Int))] [jI d, jJ (M1 (m + 4) k)] 0 0 (M1, w.2) _
              refine jWp.i2l (pc' := 63) mt rfl rfl (b32_id (by omega) (by omega)) ?_
              show jWp 157 63 [some (jO m), some (jI (r1 : Int)), some (jI d), some (jI (k : Int))] [jJ d, jJ (M1 (m + 4) k)] 0 0 (M1, w.2) _
              refine jWp.lrem (pc' := 64) mt rfl rfl (b64_id (by omega) (by omega)) (b64_id (by omega) (by omega)) (by omega) ?_
              show jWp 157 64 [some (jO m), some (jI (r1 : Int)), some (jI d), some (jI (k : Int))] [jJ (Int.tmod (M1 (m + 4) k) d)] 0 0 (M1, w.2) _
              refine jWp.blk mt 1 ?_
              show jWp 157 65 [some (jO m), some (jI (r1 : Int)), some (jI d), some (jI (k : Int))] [jJ 0, jJ (Int.tmod (M1 (m + 4) k) d)] 0 0 (M1, w.2) _
              refine jWp.lcmp (pc' := 69) mt rfl rfl rfl (b64_id (by omega) (by omega)) (show b64 0 = 0 by decide) (fun h8 => ?_) (fun h8 => ?_)
              · have h8 : (Int.tmod (M1 (m + 4) k) d) ≠ 0 := h8
                refine jWp.blk mt 2 ?_
                show jWp 157 47 [some (jO m), some (jI (r1 : Int)), some (jI d), some (jI ((k : Int) + 1))] [] 0 0 (M1, w.2) _
                refine jWp.le (l := [some (jO m), some (jI (r1 : Int)), some (jI d), some (jI ((k : Int) + 1))]) (by exact ⟨rfl, rfl, rfl, rfl, trivial⟩) ?_
                exact ih6 (k + 1) (by omega) (by rw [← hr, show len - k = (len - (k + 1)) + 1 by omega, zff_f (by assumption)]) (by omega)
              · have h8 : (Int.tmod (M1 (m + 4) k) d) = 0 := h8
                refine jWp.blk mt 1 ?_
                show jWp 157 70 [some (jO m), some (jI (r1 : Int)), some (jI d), some (jI (k : Int))] [jI (k : Int)] 0 0 (M1, w.2) _
                refine jWp.ireti mt rfl ⟨rfl, rfl⟩ rfl ?_
                try rw [show ((r1 : Nat) : Int).toNat = r1 from rfl]
                refine ⟨fun c0 => ?_, fun c0 c1 => ?_, fun c0 c1 c2 => ?_, fun c0 c1 c2 => ?_⟩
                all_goals first
                | (exfalso; omega)
                | exact ⟨rfl, rfl⟩
                | exact ⟨M1 (m + 4), len, why, left, hTR, by rw [← hr, show len - k = (len - (k + 1)) + 1 by omega, zff_t (by assumption)], hmq⟩
        refine jWp.le (l := [some (jO m), some (jI (r1 : Int)), some (jI d), some (jI 0)]) (by exact ⟨rfl, rfl, rfl, rfl, trivial⟩) ?_
        exact lp5 _ 0 (by omega) rfl (Nat.lt_succ_self _)
      · have h3 : 9999 < d := h3
        refine jWp.blk mt 2 ?_
        show _ ∧ jWp 157 36 [some (jO m), some (jI (r1 : Int)), some (jI d), none] [jI (-6), jO m] 0 0 w _
        refine ⟨rfl, ?_⟩
        refine jWp.callv (as := [jO m, jI (-6)]) (rest := []) mt rfl rfl rfl ⟨rfl, jtg hW.K0⟩ ?_
        refine jCall.mono (E_refuses (w := w) (j := 6) hW (by decide) (by decide)) (fun v9 w9 h9 => ?_)
        obtain ⟨rfl, h9⟩ := h9
        subst h9
        show jWp 157 39 [some (jO m), some (jI (r1 : Int)), some (jI d), none] [jI (-6)] 0 0 (jW w (m + 3) 6 ((w.1 (m + 3) 6) + 1)) _
        refine jWp.ireti mt rfl ⟨rfl, rfl⟩ rfl ?_
        try rw [show ((r1 : Nat) : Int).toNat = r1 from rfl]
        refine ⟨fun c0 => ?_, fun c0 c1 => ?_, fun c0 c1 c2 => ?_, fun c0 c1 c2 => ?_⟩
        all_goals first
        | (exfalso; omega)
        | exact ⟨rfl, rfl⟩
        | exact ⟨M1 (m + 4), len, why, left, hTR, by rw [← hr, show len - k = 0 by omega]; rfl, hmq⟩
    · have h2 : d < 2 := h2
      refine jWp.blk mt 2 ?_
      show _ ∧ jWp 157 22 [some (jO m), some (jI (r1 : Int)), some (jI d), none] [jI (-4), jO m] 0 0 w _
      refine ⟨rfl, ?_⟩
      refine jWp.callv (as := [jO m, jI (-4)]) (rest := []) mt rfl rfl rfl ⟨rfl, jtg hW.K0⟩ ?_
      refine jCall.mono (E_refuses (w := w) (j := 4) hW (by decide) (by decide)) (fun v9 w9 h9 => ?_)
      obtain ⟨rfl, h9⟩ := h9
      subst h9
      show jWp 157 25 [some (jO m), some (jI (r1 : Int)), some (jI d), none] [jI (-4)] 0 0 (jW w (m + 3) 4 ((w.1 (m + 3) 4) + 1)) _
      refine jWp.ireti mt rfl ⟨rfl, rfl⟩ rfl ?_
      try rw [show ((r1 : Nat) : Int).toNat = r1 from rfl]
      refine ⟨fun c0 => ?_, fun c0 c1 => ?_, fun c0 c1 c2 => ?_, fun c0 c1 c2 => ?_⟩
      all_goals first
      | (exfalso; omega)
      | exact ⟨rfl, rfl⟩
      | exact ⟨M1 (m + 4), len, why, left, hTR, by rw [← hr, show len - k = 0 by omega]; rfl, hmq⟩
  · have h1 : ¬ (0 ≤ r ∧ r < (c : Int)) := h1
    show jWp 157 5 [some (jO m), some (jI r), some (jI d), none] [jI 0] 0 0 w _
    refine jWp.ifc (b := false) mt rfl (by decide) rfl ?_
    show jWp 157 8 [some (jO m), some (jI r), some (jI d), none] [] 0 0 w _
    refine jWp.blk mt 2 ?_
    show _ ∧ jWp 157 10 [some (jO m), some (jI r), some (jI d), none] [jI (-1), jO m] 0 0 w _
    refine ⟨rfl, ?_⟩
    refine jWp.callv (as := [jO m, jI (-1)]) (rest := []) mt rfl rfl rfl ⟨rfl, jtg hW.K0⟩ ?_
    refine jCall.mono (E_refuses (w := w) (j := 1) hW (by decide) (by decide)) (fun v9 w9 h9 => ?_)
    obtain ⟨rfl, h9⟩ := h9
    subst h9
    show jWp 157 13 [some (jO m), some (jI r), some (jI d), none] [jI (-1)] 0 0 (jW w (m + 3) 1 ((w.1 (m + 3) 1) + 1)) _
    refine jWp.ireti mt rfl ⟨rfl, rfl⟩ rfl ?_
    try rw [show ((r1 : Nat) : Int).toNat = r1 from rfl]
    refine ⟨fun c0 => ?_, fun c0 c1 => ?_, fun c0 c1 c2 => ?_, fun c0 c1 c2 => ?_⟩
    all_goals first
    | (exfalso; omega)
    | exact ⟨rfl, rfl⟩
    | exact ⟨M1 (m + 4), len, why, left, hTR, by rw [← hr, show len - k = 0 by omega]; rfl, hmq⟩
end
section
set_option maxHeartbeats 4000000 in
set_option maxRecDepth 20000 in
theorem E_unlike {w : jS} {m : Nat} (hW : MW w.2 m) {c : Nat} (hR : zRw (w.1 (m + 2)) c) {r y : Int} (hrr : r32 r) (hry : r32 y) : jCall 158 [jO m, jI r, jI y] w (fun v w1 => ((¬ (0 ≤ r ∧ r < (c : Int)) ∨ ¬ (0 ≤ y ∧ y < (c : Int))) → jno w m 1 (jI (-1)) v w1) ∧ (¬ (¬ (0 ≤ r ∧ r < (c : Int)) ∨ ¬ (0 ≤ y ∧ y < (c : Int))) → ∃ (t : Nat → Int) (len : Nat) (why left : Int) (t' : Nat → Int) (len' : Nat) (why' left' : Int), zTR (w.1 (m + 2)) r.toNat t len why left ∧ zTR (w.1 (m + 2)) y.toNat t' len' why' left' ∧ v = some (jI (zff (fun k => ¬ (k < len ↔ k < len') ∨ (k < len ∧ t k ≠ t' k)) 60 0)) ∧ mq w m w1)) := by
  have mt : jtb 158 = jT158 := rfl
  have hc4 := hR.2.1
  have hrr1 : -2147483648 ≤ r ∧ r < 2147483648 := hrr
  have hry1 : -2147483648 ≤ y ∧ y < 2147483648 := hry
  show jWp 158 0 [some (jO m), some (jI r), some (jI y), none, none] [] 0 0 w _
  refine jWp.blk mt 2 ?_
  show _ ∧ jWp 158 2 [some (jO m), some (jI r), some (jI y), none, none] [jI r, jO m] 0 0 w _
  refine ⟨rfl, ?_⟩
  refine jWp.callv (as := [jO m, jI r]) (rest := []) mt rfl rfl rfl ⟨rfl, jtg hW.K0⟩ ?_
  refine jCall.mono (E_isRow hW hR hrr) (fun v9 w9 h9 => ?_)
  rcases h9 with ⟨rfl, h9, h1⟩ | ⟨rfl, h9, h1⟩ <;> subst w9
  · have h1 : 0 ≤ r ∧ r < (c : Int) := h1
    show jWp 158 5 [some (jO m), some (jI r), some (jI y), none, none] [jI 1] 0 0 w _
    obtain ⟨r1, rfl⟩ : ∃ r1 : Nat, r = (r1 : Int) := ⟨r.toNat, by omega⟩
    show jWp 158 5 [some (jO m), some (jI (r1 : Int)), some (jI y), none, none] [jI 1] 0 0 w _
    have hRr := hR.2.2 r1 (by omega)
    have hRo := zO_b hRr.1.1 hRr.1.2
    refine jWp.ifc (b := false) mt rfl (by decide) rfl ?_
    show jWp 158 8 [some (jO m), some (jI (r1 : Int)), some (jI y), none, none] [] 0 0 w _
    refine jWp.blk mt 2 ?_
    show _ ∧ jWp 158 10 [some (jO m), some (jI (r1 : Int)), some (jI y), none, none] [jI y, jO m] 0 0 w _
    refine ⟨rfl, ?_⟩
    refine jWp.callv (as := [jO m, jI y]) (rest := []) mt rfl rfl rfl ⟨rfl, jtg hW.K0⟩ ?_
    refine jCall.mono (E_isRow hW hR hry) (fun v9 w9 h9 => ?_)
    rcases h9 with ⟨rfl, h9, h2⟩ | ⟨rfl, h9, h2⟩ <;> subst w9
    · have h2 : 0 ≤ y ∧ y < (c : Int) := h2
      show jWp 158 13 [some (jO m), some (jI (r1 : Int)), some (jI y), none, none] [jI 1] 0 0 w _
      obtain ⟨y1, rfl⟩ : ∃ y1 : Nat, y = (y1 : Int) := ⟨y.toNat, by omega⟩
      show jWp 158 13 [some (jO m), some (jI (r1 : Int)), some (jI (y1 : Int)), none, none] [jI 1] 0 0 w _
      have hRy := hR.2.2 y1 (by omega)
      have hRo := zO_b hRy.1.1 hRy.1.2
      refine jWp.ifc (b := true) mt rfl (by decide) rfl ?_
      show jWp 158 22 [some (jO m), some (jI (r1 : Int)), some (jI (y1 : Int)), none, none] [] 0 0 w _
      refine jWp.blk mt 2 ?_
      show _ ∧ jWp 158 24 [some (jO m), some (jI (r1 : Int)), some (jI (y1 : Int)), none, none] [jI (y1 : Int), jO m] 0 0 w _
      refine ⟨rfl, ?_⟩
      refine jWp.callv (as := [jO m, jI (y1 : Int)]) (rest := []) mt rfl rfl rfl ⟨rfl, jtg hW.K0⟩ ?_
      refine jCall.mono (E_termsW (w := w) (W := w) (x := y1) hW hR (by omega) mq_0) (fun v9 w9 h9 => ?_)
      obtain ⟨rfl, hF, hmq, len, why, left, k4, k5, k6, hTR⟩ := h9
      obtain ⟨M1, G9⟩ := w9
      have hg : G9 = w.2 := hmq.1
      subst hg
      have k4 : M1 m 4 = (len : Int) := k4
      have hTR : zTR (w.1 (m + 2)) y1 (M1 (m + 4)) len why left := hTR
      have hTb := zTR_b hR (by omega) hTR
      have hM2 : M1 (m + 2) = w.1 (m + 2) := hmq.2.1 _ (by omega)
      show jWp 158 27 [some (jO m), some (jI (r1 : Int)), some (jI (y1 : Int)), none, none] [] 0 0 (M1, w.2) _
      refine jWp.blk mt 1 ?_
      show _ ∧ jWp 158 28 [some (jO m), some (jI (r1 : Int)), some (jI (y1 : Int)), none, none] [jO m] 0 0 (M1, w.2) _
      refine ⟨rfl, ?_⟩
      refine jWp.getI (pc' := 31) mt rfl rfl (jtg hW.K0) ?_
      rw [show ((M1, w.2).1 m 4) = (len : Int) from k4]
      show jWp 158 31 [some (jO m), some (jI (r1 : Int)), some (jI (y1 : Int)), none, none] [jI (len : Int)] 0 0 (M1, w.2) _
      refine jWp.blk mt 3 ?_
      show jWp 158 35 [some (jO m), some (jI (r1 : Int)), some (jI (y1 : Int)), some (jI (len : Int)), some (jI 0)] [] 0 0 (M1, w.2) _
      have lp4 : ∀ (N : Nat) (e : Nat) (T : Nat → Int) (he : e ≤ len) (hTT : ∀ j, j < e → T j = M1 (m + 4) j), len - e < N → jWp 158 35 [some (jO m), some (jI (r1 : Int)), some (jI (y1 : Int)), some (jI (len : Int)), some (jI (e : Int))] [] 0 0 (kA (M1, w.2) (m + 5) T) (fun v w1 => ((¬ (0 ≤ (r1 : Int) ∧ (r1 : Int) < (c : Int)) ∨ ¬ (0 ≤ (y1 : Int) ∧ (y1 : Int) < (c : Int))) → jno w m 1 (jI (-1)) v w1) ∧ (¬ (¬ (0 ≤ (r1 : Int) ∧ (r1 : Int) < (c : Int)) ∨ ¬ (0 ≤ (y1 : Int) ∧ (y1 : Int) < (c : Int))) → ∃ (t : Nat → Int) (len : Nat) (why left : Int) (t' : Nat → Int) (len' : Nat) (why' left' : Int), zTR (w.1 (m + 2)) (r1 : Int).toNat t len why left ∧ zTR (w.1 (m + 2)) (y1 : Int).toNat t' len' why' left' ∧ v = some (jI (zff (fun k => ¬ (k < len ↔ k < len') ∨ (k < len ∧ t k ≠ t' k)) 60 0)) ∧ mq w m w1)) := by
        intro N
        induction N with
        | zero => intro e T he hTT hm; omega
        | succ N ih5 =>
          intro e T he hTT hm
          have hl60 := hTb.1
          refine jWp.blk mt 2 ?_
          show jWp 158 38 [some (jO m), some (jI (r1 : Int)), some (jI (y1 : Int)), some (jI (len : Int)), some (jI (e : Int))] [jI (len : Int), jI (e : Int)] 0 0 (kA (M1, w.2) (m + 5) T) _
          refine jWp.icmp (pc' := 41) mt rfl rfl (b32_id (by omega) (by omega)) (b32_id (by omega) (by omega)) (fun h6 => ?_) (fun h6 => ?_)
          · have h6 : (len : Int) ≤ (e : Int) := h6
            refine jWp.blk mt 2 ?_
            show _ ∧ jWp 158 63 [some (jO m), some (jI (r1 : Int)), some (jI (y1 : Int)), some (jI (len : Int)), some (jI (e : Int))] [jI (r1 : Int), jO m] 0 0 (kA (M1, w.2) (m + 5) T) _
            refine ⟨rfl, ?_⟩
            refine jWp.callv (as := [jO m, jI (r1 : Int)]) (rest := []) mt rfl rfl rfl ⟨rfl, jtg hW.K0⟩ ?_
            refine jCall.mono (E_termsW (w := w) (W := (kA (M1, w.2) (m + 5) T)) (x := r1) hW hR (by omega) (mq_A hmq (by omega))) (fun v9 w9 h9 => ?_)
            obtain ⟨rfl, hFb, hmqb, lenb, whyb, leftb, k4b, k5b, k6b, hTRb⟩ := h9
            obtain ⟨M2, G9⟩ := w9
            have hg : G9 = w.2 := hmqb.1
            subst hg
            have k4b : M2 m 4 = (lenb : Int) := k4b
            have hTRb : zTR (w.1 (m + 2)) r1 (M2 (m + 4)) lenb whyb leftb := hTRb
            have hTbb := zTR_b hR (by omega) hTRb
            have hM2b : M2 (m + 2) = w.1 (m + 2) := hmqb.2.1 _ (by omega)
            show jWp 158 66 [some (jO m), some (jI (r1 : Int)), some (jI (y1 : Int)), some (jI (len : Int)), some (jI (e : Int))] [] 0 0 (M2, w.2) _
            refine jWp.blk mt 2 ?_
            show jWp 158 69 [some (jO m), some (jI (r1 : Int)), some (jI (y1 : Int)), some (jI (len : Int)), some (jI 0)] [] 0 0 (M2, w.2) _
            have lp8 : ∀ (N : Nat) (k : Nat) (hk : k ≤ 60) (hr : zff (fun k => ¬ (k < lenb ↔ k < len) ∨ (k < lenb ∧ M2 (m + 4) k ≠ M1 (m + 4) k)) (60 - k) k = zff (fun k => ¬ (k < lenb ↔ k < len) ∨ (k < lenb ∧ M2 (m + 4) k ≠ M1 (m + 4) k)) 60 0), 60 - k < N → jWp 158 69 [some (jO m), some (jI (r1 : Int)), some (jI (y1 : Int)), some (jI (len : Int)), some (jI (k : Int))] [] 0 0 (M2, w.2) (fun v w1 => ((¬ (0 ≤ (r1 : Int) ∧ (r1 : Int) < (c : Int)) ∨ ¬ (0 ≤ (y1 : Int) ∧ (y1 : Int) < (c : Int))) → jno w m 1 (jI (-1)) v w1) ∧ (¬ (¬ (0 ≤ (r1 : Int) ∧ (r1 : Int) < (c : Int)) ∨ ¬ (0 ≤ (y1 : Int) ∧ (y1 : Int) < (c : Int))) → ∃ (t : Nat → Int) (len : Nat) (why left : Int) (t' : Nat → Int) (len' : Nat) (why' left' : Int), zTR (w.1 (m + 2)) (r1 : Int).toNat t len why left ∧ zTR (w.1 (m + 2)) (y1 : Int).toNat t' len' why' left' ∧ v = some (jI (zff (fun k => ¬ (k < len ↔ k < len') ∨ (k < len ∧ t k ≠ t' k)) 60 0)) ∧ mq w m w1)) := by
              intro N
              induction N with
              | zero => intro k hk hr hm; omega
              | succ N ih9 =>
                intro k hk hr hm
                have hT5 : M2 (m + 5) = T := (hFb.2.1 (m + 5) (by omega) (by omega)).trans kA_fs
                have hok : k < len → M2 (m + 5) k = M1 (m + 4) k := fun h => by rw [hT5]; exact hTT k (by omega)
                have hf : k < len → _ := fun h => hTb.2.2 k h
                have hfb : k < lenb → _ := fun h => hTbb.2.2 k h
                have hl60b := hTbb.1
                refine jWp.blk mt 2 ?_
                show jWp 158 73 [some (jO m), some (jI (r1 : Int)), some (jI (y1 : Int)), some (jI (len : Int)), some (jI (k : Int))] [jI 60, jI (k : Int)] 0 0 (M2, w.2) _
                refine jWp.icmp (pc' := 76) mt rfl rfl (b32_id (by omega) (by omega)) (show b32 60 = 60 by decide) (fun h10 => ?_) (fun h10 => ?_)
                · have h10 : 60 ≤ (k : Int) := h10
                  refine jWp.blk mt 1 ?_
                  show jWp 158 142 [some (jO m), some (jI (r1 : Int)), some (jI (y1 : Int)), some (jI (len : Int)), some (jI (k : Int))] [jI (-9)] 0 0 (M2, w.2) _
                  refine jWp.ireti mt rfl ⟨rfl, rfl⟩ rfl ?_
                  try rw [show ((r1 : Nat) : Int).toNat = r1 from rfl]
                  try rw [show ((y1 : Nat) : Int).toNat = y1 from rfl]
                  refine ⟨fun c0 => ?_, fun c0 => ?_⟩
                  all_goals first
                  | (exfalso; omega)
                  | exact ⟨rfl, rfl⟩
                  | exact ⟨M2 (m + 4), lenb, whyb, leftb, M1 (m + 4), len, why, left, hTRb, hTR, by rw [← hr, show 60 - k = 0 by omega]; rfl, hmqb⟩
                · have h10 : (k : Int) < 60 := h10
                  refine jWp.blk mt 2 ?_
                  show _ ∧ jWp 158 79 [some (jO m), some (jI (r1 : Int)), some (jI (y1 : Int)), some (jI (len : Int)), some (jI (k : Int))] [jO m, jI (k : Int)] 0 0 (M2, w.2) _
                  refine ⟨rfl, ?_⟩
                  refine jWp.getI (pc' := 82) mt rfl rfl (jtg hW.K0) ?_
                  rw [show ((M2, w.2).1 m 4) = (lenb : Int) from k4b]
                  show jWp 158 82 [some (jO m), some (jI (r1 : Int)), some (jI (y1 : Int)), some (jI (len : Int)), some (jI (k : Int))] [jI (lenb : Int), jI (k : Int)] 0 0 (M2, w.2) _
                  refine jWp.icmp (pc' := 85) mt rfl rfl (b32_id (by omega) (by omega)) (b32_id (by omega) (by omega)) (fun h11 => ?_) (fun h11 => ?_)
                  · have h11 : (lenb : Int) ≤ (k : Int) := h11
                    refine jWp.blk mt 3 ?_
                    show jWp 158 93 [some (jO m), some (jI (r1 : Int)), some (jI (y1 : Int)), some (jI (len : Int)), some (jI (k : Int))] [jI (len : Int), jI (k : Int), jI 0] 0 0 (M2, w.2) _
                    refine jWp.icmp (pc' := 96) mt rfl rfl (b32_id (by omega) (by omega)) (b32_id (by omega) (by omega)) (fun h12 => ?_) (fun h12 => ?_)
                    · have h12 : (len : Int) ≤ (k : Int) := h12
                      refine jWp.blk mt 1 ?_
                      show jWp 158 101 [some (jO m), some (jI (r1 : Int)), some (jI (y1 : Int)), some (jI (len : Int)), some (jI (k : Int))] [jI 0, jI 0] 0 0 (M2, w.2) _
                      refine jWp.icmp (pc' := 104) mt rfl rfl (show b32 0 = 0 by decide) (show b32 0 = 0 by decide) (fun h13 => ?_) (fun h13 => ?_)
                      · exact absurd (show (0 : Int) ≠ 0 from h13) (by decide)
                      · have h13 := h13
                        refine jWp.blk mt 2 ?_
                        show _ ∧ jWp 158 107 [some (jO m), some (jI (r1 : Int)), some (jI (y1 : Int)), some (jI (len : Int)), some (jI (k : Int))] [jO m, jI (k : Int)] 0 0 (M2, w.2) _
                        refine ⟨rfl, ?_⟩
                        refine jWp.getI (pc' := 110) mt rfl rfl (jtg hW.K0) ?_
                        rw [show ((M2, w.2).1 m 4) = (lenb : Int) from k4b]
                        show jWp 158 110 [some (jO m), some (jI (r1 : Int)), some (jI (y1 : Int)), some (jI (len : Int)), some (jI (k : Int))] [jI (lenb : Int), jI (k : Int)] 0 0 (M2, w.2) _
                        refine jWp.icmp (pc' := 113) mt rfl rfl (b32_id (by omega) (by omega)) (b32_id (by omega) (by omega)) (fun h14 => ?_) (fun h14 => ?_)
                        · have h14 : (lenb : Int) ≤ (k : Int) := h14
                          refine jWp.blk mt 2 ?_
                          show jWp 158 69 [some (jO m), some (jI (r1 : Int)), some (jI (y1 : Int)), some (jI (len : Int)), some (jI ((k : Int) + 1))] [] 0 0 (M2, w.2) _
                          refine jWp.le (l := [some (jO m), some (jI (r1 : Int)), some (jI (y1 : Int)), some (jI (len : Int)), some (jI ((k : Int) + 1))]) (by exact ⟨rfl, rfl, rfl, rfl, rfl, trivial⟩) ?_
                          exact ih9 (k + 1) (by omega) (by rw [← hr, show 60 - k = (60 - (k + 1)) + 1 by omega, zff_f (by omega)]) (by omega)
                        · have h14 : (k : Int) < (lenb : Int) := h14
                          refine jWp.blk mt 1 ?_
                          show _ ∧ jWp 158 114 [some (jO m), some (jI (r1 : Int)), some (jI (y1 : Int)), some (jI (len : Int)), some (jI (k : Int))] [jO m] 0 0 (M2, w.2) _
                          refine ⟨rfl, ?_⟩
                          refine jWp.getR (pc' := 117) (o := (m + 4)) mt rfl rfl (jtg hW.K0) hW.R3 ?_
                          show jWp 158 117 [some (jO m), some (jI (r1 : Int)), some (jI (y1 : Int)), some (jI (len : Int)), some (jI (k : Int))] [jO (m + 4)] 0 0 (M2, w.2) _
                          refine jWp.blk mt 1 ?_
                          show jWp 158 119 [some (jO m), some (jI (r1 : Int)), some (jI (y1 : Int)), some (jI (len : Int)), some (jI (k : Int))] [jI (k : Int), jO (m + 4)] 0 0 (M2, w.2) _
                          refine jWp.lald (pc' := 120) (j := k) mt rfl rfl (jtg hW.K4) (b32_id (by omega) (by omega)) (jlt hW.K4 (by omega)) ?_
                          rw [show ((M2, w.2).1 (m + 4) k) = (M2 (m + 4) k) from rfl]
                          show jWp 158 120 [some (jO m), some (jI (r1 : Int)), some (jI (y1 : Int)), some (jI (len : Int)), some (jI (k : Int))] [jJ (M2 (m + 4) k)] 0 0 (M2, w.2) _
                          refine jWp.blk mt 1 ?_
                          show _ ∧ jWp 158 121 [some (jO m), some (jI (r1 : Int)), some (jI (y1 : Int)), some (jI (len : Int)), some (jI (k : Int))] [jO m, jJ (M2 (m + 4) k)] 0 0 (M2, w.2) _
                          refine ⟨rfl, ?_⟩
                          refine jWp.getR (pc' := 124) (o := (m + 5)) mt rfl rfl (jtg hW.K0) hW.R10 ?_
                          show jWp 158 124 [some (jO m), some (jI (r1 : Int)), some (jI (y1 : Int)), some (jI (len : Int)), some (jI (k : Int))] [jO (m + 5), jJ (M2 (m + 4) k)] 0 0 (M2, w.2) _
                          refine jWp.blk mt 1 ?_
                          show jWp 158 126 [some (jO m), some (jI (r1 : Int)), some (jI (y1 : Int)), some (jI (len : Int)), some (jI (k : Int))] [jI (k : Int), jO (m + 5), jJ (M2 (m + 4) k)] 0 0 (M2, w.2) _
                          refine jWp.lald (pc' := 127) (j := k) mt rfl rfl (jtg hW.K5) (b32_id (by omega) (by omega)) (jlt hW.K5 (by omega)) ?_
                          rw [show ((M2, w.2).1 (m + 5) k) = (M2 (m + 5) k) from rfl]
                          show jWp 158 127 [some (jO m), some (jI (r1 : Int)), some (jI (y1 : Int)), some (jI (len : Int)), some (jI (k : Int))] [jJ (M2 (m + 5) k), jJ (M2 (m + 4) k)] 0 0 (M2, w.2) _
                          refine jWp.lcmp (pc' := 131) mt rfl rfl rfl (b64_id (by omega) (by omega)) (b64_id (by omega) (by omega)) (fun h15 => ?_) (fun h15 => ?_)
                          · have h15 : (M2 (m + 4) k) = (M2 (m + 5) k) := h15
                            refine jWp.blk mt 2 ?_
                            show jWp 158 69 [some (jO m), some (jI (r1 : Int)), some (jI (y1 : Int)), some (jI (len : Int)), some (jI ((k : Int) + 1))] [] 0 0 (M2, w.2) _
                            refine jWp.le (l := [some (jO m), some (jI (r1 : Int)), some (jI (y1 : Int)), some (jI (len : Int)), some (jI ((k : Int) + 1))]) (by exact ⟨rfl, rfl, rfl, rfl, rfl, trivial⟩) ?_
                            exact ih9 (k + 1) (by omega) (by rw [← hr, show 60 - k = (60 - (k + 1)) + 1 by omega, zff_f (by omega)]) (by omega)
                          · have h15 : (M2 (m + 4) k) ≠ (M2 (m + 5) k) := h15
                            refine jWp.blk mt 1 ?_
                            show jWp 158 133 [some (jO m), some (jI (r1 : Int)), some (jI (y1 : Int)), some (jI (len : Int)), some (jI (k : Int))] [jI (k : Int)] 0 0 (M2, w.2) _
                            refine jWp.ireti mt rfl ⟨rfl, rfl⟩ rfl ?_
                            try rw [show ((r1 : Nat) : Int).toNat = r1 from rfl]
                            try rw [show ((y1 : Nat) : Int).toNat = y1 from rfl]
                            refine ⟨fun c0 => ?_, fun c0 => ?_⟩
                            all_goals first
                            | (exfalso; omega)
                            | exact ⟨rfl, rfl⟩
                            | exact ⟨M2 (m + 4), lenb, whyb, leftb, M1 (m + 4), len, why, left, hTRb, hTR, by rw [← hr, show 60 - k = (60 - (k + 1)) + 1 by omega, zff_t (by omega)], hmqb⟩
                    · have h12 : (k : Int) < (len : Int) := h12
                      refine jWp.blk mt 2 ?_
                      show jWp 158 101 [some (jO m), some (jI (r1 : Int)), some (jI (y1 : Int)), some (jI (len : Int)), some (jI (k : Int))] [jI 1, jI 0] 0 0 (M2, w.2) _
                      refine jWp.icmp (pc' := 104) mt rfl rfl (show b32 0 = 0 by decide) (show b32 1 = 1 by decide) (fun h16 => ?_) (fun h16 => ?_)
                      · have h16 := h16
                        refine jWp.blk mt 1 ?_
                        show jWp 158 133 [some (jO m), some (jI (r1 : Int)), some (jI (y1 : Int)), some (jI (len : Int)), some (jI (k : Int))] [jI (k : Int)] 0 0 (M2, w.2) _
                        refine jWp.ireti mt rfl ⟨rfl, rfl⟩ rfl ?_
                        try rw [show ((r1 : Nat) : Int).toNat = r1 from rfl]
                        try rw [show ((y1 : Nat) : Int).toNat = y1 from rfl]
                        refine ⟨fun c0 => ?_, fun c0 => ?_⟩
                        all_goals first
                        | (exfalso; omega)
                        | exact ⟨rfl, rfl⟩
                        | exact ⟨M2 (m + 4), lenb, whyb, leftb, M1 (m + 4), len, why, left, hTRb, hTR, by rw [← hr, show 60 - k = (60 - (k + 1)) + 1 by omega, zff_t (by omega)], hmqb⟩
                      · exact absurd (show (0 : Int) = 1 from h16) (by decide)
                  · have h11 : (k : Int) < (lenb : Int) := h11
                    refine jWp.blk mt 4 ?_
                    show jWp 158 93 [some (jO m), some (jI (r1 : Int)), some (jI (y1 : Int)), some (jI (len : Int)), some (jI (k : Int))] [jI (len : Int), jI (k : Int), jI 1] 0 0 (M2, w.2) _
                    refine jWp.icmp (pc' := 96) mt rfl rfl (b32_id (by omega) (by omega)) (b32_id (by omega) (by omega)) (fun h17 => ?_) (fun h17 => ?_)
                    · have h17 : (len : Int) ≤ (k : Int) := h17
                      refine jWp.blk mt 1 ?_
                      show jWp 158 101 [some (jO m), some (jI (r1 : Int)), some (jI (y1 : Int)), some (jI (len : Int)), some (jI (k : Int))] [jI 0, jI 1] 0 0 (M2, w.2) _
                      refine jWp.icmp (pc' := 104) mt rfl rfl (show b32 1 = 1 by decide) (show b32 0 = 0 by decide) (fun h18 => ?_) (fun h18 => ?_)
                      · have h18 := h18
                        refine jWp.blk mt 1 ?_
                        show jWp 158 133 [some (jO m), some (jI (r1 : Int)), some (jI (y1 : Int)), some (jI (len : Int)), some (jI (k : Int))] [jI (k : Int)] 0 0 (M2, w.2) _
                        refine jWp.ireti mt rfl ⟨rfl, rfl⟩ rfl ?_
                        try rw [show ((r1 : Nat) : Int).toNat = r1 from rfl]
                        try rw [show ((y1 : Nat) : Int).toNat = y1 from rfl]
                        refine ⟨fun c0 => ?_, fun c0 => ?_⟩
                        all_goals first
                        | (exfalso; omega)
                        | exact ⟨rfl, rfl⟩
                        | exact ⟨M2 (m + 4), lenb, whyb, leftb, M1 (m + 4), len, why, left, hTRb, hTR, by rw [← hr, show 60 - k = (60 - (k + 1)) + 1 by omega, zff_t (by omega)], hmqb⟩
                      · exact absurd (show (1 : Int) = 0 from h18) (by decide)
                    · have h17 : (k : Int) < (len : Int) := h17
                      refine jWp.blk mt 2 ?_
                      show jWp 158 101 [some (jO m), some (jI (r1 : Int)), some (jI (y1 : Int)), some (jI (len : Int)), some (jI (k : Int))] [jI 1, jI 1] 0 0 (M2, w.2) _
                      refine jWp.icmp (pc' := 104) mt rfl rfl (show b32 1 = 1 by decide) (show b32 1 = 1 by decide) (fun h19 => ?_) (fun h19 => ?_)
                      · exact absurd (show (1 : Int) ≠ 1 from h19) (by decide)
                      · have h19 := h19
                        refine jWp.blk mt 2 ?_
                        show _ ∧ jWp 158 107 [some (jO m), some (jI (r1 : Int)), some (jI (y1 : Int)), some (jI (len : Int)), some (jI (k : Int))] [jO m, jI (k : Int)] 0 0 (M2, w.2) _
                        refine ⟨rfl, ?_⟩
                        refine jWp.getI (pc' := 110) mt rfl rfl (jtg hW.K0) ?_
                        rw [show ((M2, w.2).1 m 4) = (lenb : Int) from k4b]
                        show jWp 158 110 [some (jO m), some (jI (r1 : Int)), some (jI (y1 : Int)), some (jI (len : Int)), some (jI (k : Int))] [jI (lenb : Int), jI (k : Int)] 0 0 (M2, w.2) _
                        refine jWp.icmp (pc' := 113) mt rfl rfl (b32_id (by omega) (by omega)) (b32_id (by omega) (by omega)) (fun h20 => ?_) (fun h20 => ?_)
                        · have h20 : (lenb : Int) ≤ (k : Int) := h20
                          refine jWp.blk mt 2 ?_
                          show jWp 158 69 [some (jO m), some (jI (r1 : Int)), some (jI (y1 : Int)), some (jI (len : Int)), some (jI ((k : Int) + 1))] [] 0 0 (M2, w.2) _
                          refine jWp.le (l := [some (jO m), some (jI (r1 : Int)), some (jI (y1 : Int)), some (jI (len : Int)), some (jI ((k : Int) + 1))]) (by exact ⟨rfl, rfl, rfl, rfl, rfl, trivial⟩) ?_
                          exact ih9 (k + 1) (by omega) (by rw [← hr, show 60 - k = (60 - (k + 1)) + 1 by omega, zff_f (by omega)]) (by omega)
                        · have h20 : (k : Int) < (lenb : Int) := h20
                          refine jWp.blk mt 1 ?_
                          show _ ∧ jWp 158 114 [some (jO m), some (jI (r1 : Int)), some (jI (y1 : Int)), some (jI (len : Int)), some (jI (k : Int))] [jO m] 0 0 (M2, w.2) _
                          refine ⟨rfl, ?_⟩
                          refine jWp.getR (pc' := 117) (o := (m + 4)) mt rfl rfl (jtg hW.K0) hW.R3 ?_
                          show jWp 158 117 [some (jO m), some (jI (r1 : Int)), some (jI (y1 : Int)), some (jI (len : Int)), some (jI (k : Int))] [jO (m + 4)] 0 0 (M2, w.2) _
                          refine jWp.blk mt 1 ?_
                          show jWp 158 119 [some (jO m), some (jI (r1 : Int)), some (jI (y1 : Int)), some (jI (len : Int)), some (jI (k : Int))] [jI (k : Int), jO (m + 4)] 0 0 (M2, w.2) _
                          refine jWp.lald (pc' := 120) (j := k) mt rfl rfl (jtg hW.K4) (b32_id (by omega) (by omega)) (jlt hW.K4 (by omega)) ?_
                          rw [show ((M2, w.2).1 (m + 4) k) = (M2 (m + 4) k) from rfl]
                          show jWp 158 120 [some (jO m), some (jI (r1 : Int)), some (jI (y1 : Int)), some (jI (len : Int)), some (jI (k : Int))] [jJ (M2 (m + 4) k)] 0 0 (M2, w.2) _
                          refine jWp.blk mt 1 ?_
                          show _ ∧ jWp 158 121 [some (jO m), some (jI (r1 : Int)), some (jI (y1 : Int)), some (jI (len : Int)), some (jI (k : Int))] [jO m, jJ (M2 (m + 4) k)] 0 0 (M2, w.2) _
                          refine ⟨rfl, ?_⟩
                          refine jWp.getR (pc' := 124) (o := (m + 5)) mt rfl rfl (jtg hW.K0) hW.R10 ?_
                          show jWp 158 124 [some (jO m), some (jI (r1 : Int)), some (jI (y1 : Int)), some (jI (len : Int)), some (jI (k : Int))] [jO (m + 5), jJ (M2 (m + 4) k)] 0 0 (M2, w.2) _
                          refine jWp.blk mt 1 ?_
                          show jWp 158 126 [some (jO m), some (jI (r1 : Int)), some (jI (y1 : Int)), some (jI (len : Int)), some (jI (k : Int))] [jI (k : Int), jO (m + 5), jJ (M2 (m + 4) k)] 0 0 (M2, w.2) _
                          refine jWp.lald (pc' := 127) (j := k) mt rfl rfl (jtg hW.K5) (b32_id (by omega) (by omega)) (jlt hW.K5 (by omega)) ?_
                          rw [show ((M2, w.2).1 (m + 5) k) = (M2 (m + 5) k) from rfl]
                          show jWp 158 127 [some (jO m), some (jI (r1 : Int)), some (jI (y1 : Int)), some (jI (len : Int)), some (jI (k : Int))] [jJ (M2 (m + 5) k), jJ (M2 (m + 4) k)] 0 0 (M2, w.2) _
                          refine jWp.lcmp (pc' := 131) mt rfl rfl rfl (b64_id (by omega) (by omega)) (b64_id (by omega) (by omega)) (fun h21 => ?_) (fun h21 => ?_)
                          · have h21 : (M2 (m + 4) k) = (M2 (m + 5) k) := h21
                            refine jWp.blk mt 2 ?_
                            show jWp 158 69 [some (jO m), some (jI (r1 : Int)), some (jI (y1 : Int)), some (jI (len : Int)), some (jI ((k : Int) + 1))] [] 0 0 (M2, w.2) _
                            refine jWp.le (l := [some (jO m), some (jI (r1 : Int)), some (jI (y1 : Int)), some (jI (len : Int)), some (jI ((k : Int) + 1))]) (by exact ⟨rfl, rfl, rfl, rfl, rfl, trivial⟩) ?_
                            exact ih9 (k + 1) (by omega) (by rw [← hr, show 60 - k = (60 - (k + 1)) + 1 by omega, zff_f (by omega)]) (by omega)
                          · have h21 : (M2 (m + 4) k) ≠ (M2 (m + 5) k) := h21
                            refine jWp.blk mt 1 ?_
                            show jWp 158 133 [some (jO m), some (jI (r1 : Int)), some (jI (y1 : Int)), some (jI (len : Int)), some (jI (k : Int))] [jI (k : Int)] 0 0 (M2, w.2) _
                            refine jWp.ireti mt rfl ⟨rfl, rfl⟩ rfl ?_
                            try rw [show ((r1 : Nat) : Int).toNat = r1 from rfl]
                            try rw [show ((y1 : Nat) : Int).toNat = y1 from rfl]
                            refine ⟨fun c0 => ?_, fun c0 => ?_⟩
                            all_goals first
                            | (exfalso; omega)
                            | exact ⟨rfl, rfl⟩
                            | exact ⟨M2 (m + 4), lenb, whyb, leftb, M1 (m + 4), len, why, left, hTRb, hTR, by rw [← hr, show 60 - k = (60 - (k + 1)) + 1 by omega, zff_t (by omega)], hmqb⟩
            refine jWp.le (l := [some (jO m), some (jI (r1 : Int)), some (jI (y1 : Int)), some (jI (len : Int)), some (jI 0)]) (by exact ⟨rfl, rfl, rfl, rfl, rfl, trivial⟩) ?_
            exact lp8 _ 0 (by omega) rfl (Nat.lt_succ_self _)
          · have h6 : (e : Int) < (len : Int) := h6
            refine jWp.blk mt 1 ?_
            show _ ∧ jWp 158 42 [some (jO m), some (jI (r1 : Int)), some (jI (y1 : Int)), some (jI (len : Int)), some (jI (e : Int))] [jO m] 0 0 (kA (M1, w.2) (m + 5) T) _
            refine ⟨rfl, ?_⟩
            refine jWp.getR (pc' := 45) (o := (m + 5)) mt rfl rfl (jtg hW.K0) hW.R10 ?_
            show jWp 158 45 [some (jO m), some (jI (r1 : Int)), some (jI (y1 : Int)), some (jI (len : Int)), some (jI (e : Int))] [jO (m + 5)] 0 0 (kA (M1, w.2) (m + 5) T) _
            refine jWp.blk mt 2 ?_
            show _ ∧ jWp 158 48 [some (jO m), some (jI (r1 : Int)), some (jI (y1 : Int)), some (jI (len : Int)), some (jI (e : Int))] [jO m, jI (e : Int), jO (m + 5)] 0 0 (kA (M1, w.2) (m + 5) T) _
            refine ⟨rfl, ?_⟩
            refine jWp.getR (pc' := 51) (o := (m + 4)) mt rfl rfl (jtg hW.K0) hW.R3 ?_
            show jWp 158 51 [some (jO m), some (jI (r1 : Int)), some (jI (y1 : Int)), some (jI (len : Int)), some (jI (e : Int))] [jO (m + 4), jI (e : Int), jO (m + 5)] 0 0 (kA (M1, w.2) (m + 5) T) _
            refine jWp.blk mt 1 ?_
            show jWp 158 53 [some (jO m), some (jI (r1 : Int)), some (jI (y1 : Int)), some (jI (len : Int)), some (jI (e : Int))] [jI (e : Int), jO (m + 4), jI (e : Int), jO (m + 5)] 0 0 (kA (M1, w.2) (m + 5) T) _
            refine jWp.lald (pc' := 54) (j := e) mt rfl rfl (jtg hW.K4) (b32_id (by omega) (by omega)) (jlt hW.K4 (by omega)) ?_
            rw [show ((kA (M1, w.2) (m + 5) T).1 (m + 4) e) = (M1 (m + 4) e) from ((kA_a (by omega)).trans rfl)]
            show jWp 158 54 [some (jO m), some (jI (r1 : Int)), some (jI (y1 : Int)), some (jI (len : Int)), some (jI (e : Int))] [jJ (M1 (m + 4) e), jI (e : Int), jO (m + 5)] 0 0 (kA (M1, w.2) (m + 5) T) _
            refine jWp.last (pc' := 55) (j := e) mt rfl rfl (jtg hW.K5) (b32_id (by omega) (by omega)) (jlt hW.K5 (by omega)) ?_
            rw [show jW (kA (M1, w.2) (m + 5) T) (m + 5) e (M1 (m + 4) e) = (kA (M1, w.2) (m + 5) (zset T e (M1 (m + 4) e))) from kA_W]
            show jWp 158 55 [some (jO m), some (jI (r1 : Int)), some (jI (y1 : Int)), some (jI (len : Int)), some (jI (e : Int))] [] 0 0 (kA (M1, w.2) (m + 5) (zset T e (M1 (m + 4) e))) _
            refine jWp.blk mt 2 ?_
            show jWp 158 35 [some (jO m), some (jI (r1 : Int)), some (jI (y1 : Int)), some (jI (len : Int)), some (jI ((e : Int) + 1))] [] 0 0 (kA (M1, w.2) (m + 5) (zset T e (M1 (m + 4) e))) _
            refine jWp.le (l := [some (jO m), some (jI (r1 : Int)), some (jI (y1 : Int)), some (jI (len : Int)), some (jI ((e : Int) + 1))]) (by exact ⟨rfl, rfl, rfl, rfl, rfl, trivial⟩) ?_
            exact ih5 (e + 1) _ (by omega) (fun j hj => by rcases Nat.lt_or_ge j e with g | g; rw [zset_n (by omega)]; exact hTT j g; rw [show j = e by omega, zset_s]) (by omega)
      refine jWp.le (l := [some (jO m), some (jI (r1 : Int)), some (jI (y1 : Int)), some (jI (len : Int)), some (jI 0)]) (by exact ⟨rfl, rfl, rfl, rfl, rfl, trivial⟩) ?_
      have key := lp4 _ 0 (((M1, w.2) : jS).1 (m + 5)) (by omega) (fun j hj => absurd hj (by omega)) (Nat.lt_succ_self _)
      rw [kA_self] at key
      exact key
    · have h2 : ¬ (0 ≤ y ∧ y < (c : Int)) := h2
      show jWp 158 13 [some (jO m), some (jI (r1 : Int)), some (jI y), none, none] [jI 0] 0 0 w _
      refine jWp.ifc (b := false) mt rfl (by decide) rfl ?_
      show jWp 158 16 [some (jO m), some (jI (r1 : Int)), some (jI y), none, none] [] 0 0 w _
      refine jWp.blk mt 2 ?_
      show _ ∧ jWp 158 18 [some (jO m), some (jI (r1 : Int)), some (jI y), none, none] [jI (-1), jO m] 0 0 w _
      refine ⟨rfl, ?_⟩
      refine jWp.callv (as := [jO m, jI (-1)]) (rest := []) mt rfl rfl rfl ⟨rfl, jtg hW.K0⟩ ?_
      refine jCall.mono (E_refuses (w := w) (j := 1) hW (by decide) (by decide)) (fun v9 w9 h9 => ?_)
      obtain ⟨rfl, h9⟩ := h9
      subst h9
      show jWp 158 21 [some (jO m), some (jI (r1 : Int)), some (jI y), none, none] [jI (-1)] 0 0 (jW w (m + 3) 1 ((w.1 (m + 3) 1) + 1)) _
      refine jWp.ireti mt rfl ⟨rfl, rfl⟩ rfl ?_
      refine ⟨fun c0 => ?_, fun c0 => ?_⟩
      all_goals first
      | (exfalso; omega)
      | exact ⟨rfl, rfl⟩
  · have h1 : ¬ (0 ≤ r ∧ r < (c : Int)) := h1
    show jWp 158 5 [some (jO m), some (jI r), some (jI y), none, none] [jI 0] 0 0 w _
    refine jWp.ifc (b := true) mt rfl (by decide) rfl ?_
    show jWp 158 16 [some (jO m), some (jI r), some (jI y), none, none] [] 0 0 w _
    refine jWp.blk mt 2 ?_
    show _ ∧ jWp 158 18 [some (jO m), some (jI r), some (jI y), none, none] [jI (-1), jO m] 0 0 w _
    refine ⟨rfl, ?_⟩
    refine jWp.callv (as := [jO m, jI (-1)]) (rest := []) mt rfl rfl rfl ⟨rfl, jtg hW.K0⟩ ?_
    refine jCall.mono (E_refuses (w := w) (j := 1) hW (by decide) (by decide)) (fun v9 w9 h9 => ?_)
    obtain ⟨rfl, h9⟩ := h9
    subst h9
    show jWp 158 21 [some (jO m), some (jI r), some (jI y), none, none] [jI (-1)] 0 0 (jW w (m + 3) 1 ((w.1 (m + 3) 1) + 1)) _
    refine jWp.ireti mt rfl ⟨rfl, rfl⟩ rfl ?_
    refine ⟨fun c0 => ?_, fun c0 => ?_⟩
    all_goals first
    | (exfalso; omega)
    | exact ⟨rfl, rfl⟩
set_option maxHeartbeats 4000000 in
set_option maxRecDepth 20000 in
theorem E_judge {w : jS} {m : Nat} (hW : MW w.2 m) (hz : ∀ x, x < 3 → -1 ≤ w.1 (m + 423) x ∧ w.1 (m + 423) x ≤ 40) (hI : ∀ x, x < 3 → ∀ j, j < 40 → r32 (w.1 (m + (425 + x)) j)) {c : Nat} (hR : zRw (w.1 (m + 2)) c) {l r : Int} (hrl : r32 l) (hrr : r32 r) : jCall 212 [jO m, jI l, jI r] w (fun v w1 => ((¬ (0 ≤ l ∧ l ≤ 2) ∨ ¬ (0 ≤ r ∧ r < (c : Int))) → jno w m 1 (jI (-1)) v w1) ∧ (¬ (¬ (0 ≤ l ∧ l ≤ 2) ∨ ¬ (0 ≤ r ∧ r < (c : Int))) → ((w.1 (m + 423) l.toNat) < 0) → v = some (jI (-11)) ∧ w1 = w) ∧ (¬ (¬ (0 ≤ l ∧ l ≤ 2) ∨ ¬ (0 ≤ r ∧ r < (c : Int))) → ¬ ((w.1 (m + 423) l.toNat) < 0) → ∃ (t : Nat → Int) (len : Nat) (why left : Int), zTR (w.1 (m + 2)) r.toNat t len why left ∧ v = some (jI (zff (fun k => ¬ k < len ∨ (w.1 (m + (425 + l.toNat))) k ≠ t k) (w.1 (m + 423) l.toNat).toNat 0)) ∧ mq w m w1)) := by
  have mt : jtb 212 = jT212 := rfl
  have hc4 := hR.2.1
  have hrr1 : -2147483648 ≤ r ∧ r < 2147483648 := hrr
  have hrl1 : -2147483648 ≤ l ∧ l < 2147483648 := hrl
  show jWp 212 0 [some (jO m), some (jI l), some (jI r), none] [] 0 0 w _
  refine jWp.blk mt 1 ?_
  show jWp 212 1 [some (jO m), some (jI l), some (jI r), none] [jI l] 0 0 w _
  refine jWp.calls (as := [jI l]) (rest := []) mt rfl rfl rfl rfl ?_
  refine jCall.mono (E_isList hrl) (fun v9 w9 h9 => ?_)
  rcases h9 with ⟨rfl, h9, h1⟩ | ⟨rfl, h9, h1⟩ <;> subst w9
  · have h1 : 0 ≤ l ∧ l ≤ 2 := h1
    show jWp 212 4 [some (jO m), some (jI l), some (jI r), none] [jI 1] 0 0 w _
    obtain ⟨l1, rfl⟩ : ∃ l1 : Nat, l = (l1 : Int) := ⟨l.toNat, by omega⟩
    show jWp 212 4 [some (jO m), some (jI (l1 : Int)), some (jI r), none] [jI 1] 0 0 w _
    have hz2 : -1 ≤ w.1 (m + 423) l1 ∧ w.1 (m + 423) l1 ≤ 40 := hz l1 (by omega)
    refine jWp.ifc (b := false) mt rfl (by decide) rfl ?_
    show jWp 212 7 [some (jO m), some (jI (l1 : Int)), some (jI r), none] [] 0 0 w _
    refine jWp.blk mt 2 ?_
    show _ ∧ jWp 212 9 [some (jO m), some (jI (l1 : Int)), some (jI r), none] [jI r, jO m] 0 0 w _
    refine ⟨rfl, ?_⟩
    refine jWp.callv (as := [jO m, jI r]) (rest := []) mt rfl rfl rfl ⟨rfl, jtg hW.K0⟩ ?_
    refine jCall.mono (E_isRow hW hR hrr) (fun v9 w9 h9 => ?_)
    rcases h9 with ⟨rfl, h9, h2⟩ | ⟨rfl, h9, h2⟩ <;> subst w9
    · have h2 : 0 ≤ r ∧ r < (c : Int) := h2
      show jWp 212 12 [some (jO m), some (jI (l1 : Int)), some (jI r), none] [jI 1] 0 0 w _
      obtain ⟨r1, rfl⟩ : ∃ r1 : Nat, r = (r1 : Int) := ⟨r.toNat, by omega⟩
      show jWp 212 12 [some (jO m), some (jI (l1 : Int)), some (jI (r1 : Int)), none] [jI 1] 0 0 w _
      have hRr := hR.2.2 r1 (by omega)
      have hRo := zO_b hRr.1.1 hRr.1.2
      refine jWp.ifc (b := true) mt rfl (by decide) rfl ?_
      show jWp 212 21 [some (jO m), some (jI (l1 : Int)), some (jI (r1 : Int)), none] [] 0 0 w _
      refine jWp.blk mt 1 ?_
      show _ ∧ jWp 212 22 [some (jO m), some (jI (l1 : Int)), some (jI (r1 : Int)), none] [jO m] 0 0 w _
      refine ⟨rfl, ?_⟩
      refine jWp.getR (pc' := 25) (o := (m + 423)) mt rfl rfl (jtg hW.K0) hW.R27 ?_
      show jWp 212 25 [some (jO m), some (jI (l1 : Int)), some (jI (r1 : Int)), none] [jO (m + 423)] 0 0 w _
      refine jWp.blk mt 1 ?_
      show jWp 212 26 [some (jO m), some (jI (l1 : Int)), some (jI (r1 : Int)), none] [jI (l1 : Int), jO (m + 423)] 0 0 w _
      refine jWp.iald (pc' := 27) (j := l1) mt rfl rfl (jird_of hW.K423) (b32_id (by omega) (by omega)) (jlt hW.K423 (by omega)) ?_
      show jWp 212 27 [some (jO m), some (jI (l1 : Int)), some (jI (r1 : Int)), none] [jI (w.1 (m + 423) l1)] 0 0 w _
      refine jWp.ifz (pc' := 30) mt rfl rfl (b32_id (by omega) (by omega)) (fun h3 => ?_) (fun h3 => ?_)
      · have h3 : 0 ≤ (w.1 (m + 423) l1) := h3
        refine jWp.blk mt 2 ?_
        show _ ∧ jWp 212 35 [some (jO m), some (jI (l1 : Int)), some (jI (r1 : Int)), none] [jI (r1 : Int), jO m] 0 0 w _
        refine ⟨rfl, ?_⟩
        refine jWp.callv (as := [jO m, jI (r1 : Int)]) (rest := []) mt rfl rfl rfl ⟨rfl, jtg hW.K0⟩ ?_
        refine jCall.mono (E_termsW (w := w) (W := w) (x := r1) hW hR (by omega) mq_0) (fun v9 w9 h9 => ?_)
        obtain ⟨rfl, hF, hmq, len, why, left, k4, k5, k6, hTR⟩ := h9
        obtain ⟨M1, G9⟩ := w9
        have hg : G9 = w.2 := hmq.1
        subst hg
        have k4 : M1 m 4 = (len : Int) := k4
        have hTR : zTR (w.1 (m + 2)) r1 (M1 (m + 4)) len why left := hTR
        have hTb := zTR_b hR (by omega) hTR
        have hM2 : M1 (m + 2) = w.1 (m + 2) := hmq.2.1 _ (by omega)
        show jWp 212 38 [some (jO m), some (jI (l1 : Int)), some (jI (r1 : Int)), none] [] 0 0 (M1, w.2) _
        refine jWp.blk mt 2 ?_
        show jWp 212 40 [some (jO m), some (jI (l1 : Int)), some (jI (r1 : Int)), some (jI 0)] [] 0 0 (M1, w.2) _
        have lp5 : ∀ (N : Nat) (k : Nat) (hk : k ≤ (w.1 (m + 423) l1).toNat) (hr : zff (fun k => ¬ k < len ∨ (w.1 (m + (425 + l1))) k ≠ M1 (m + 4) k) ((w.1 (m + 423) l1).toNat - k) k = zff (fun k => ¬ k < len ∨ (w.1 (m + (425 + l1))) k ≠ M1 (m + 4) k) (w.1 (m + 423) l1).toNat 0), (w.1 (m + 423) l1).toNat - k < N → jWp 212 40 [some (jO m), some (jI (l1 : Int)), some (jI (r1 : Int)), some (jI (k : Int))] [] 0 0 (M1, w.2) (fun v w1 => ((¬ (0 ≤ (l1 : Int) ∧ (l1 : Int) ≤ 2) ∨ ¬ (0 ≤ (r1 : Int) ∧ (r1 : Int) < (c : Int))) → jno w m 1 (jI (-1)) v w1) ∧ (¬ (¬ (0 ≤ (l1 : Int) ∧ (l1 : Int) ≤ 2) ∨ ¬ (0 ≤ (r1 : Int) ∧ (r1 : Int) < (c : Int))) → ((w.1 (m + 423) (l1 : Int).toNat) < 0) → v = some (jI (-11)) ∧ w1 = w) ∧ (¬ (¬ (0 ≤ (l1 : Int) ∧ (l1 : Int) ≤ 2) ∨ ¬ (0 ≤ (r1 : Int) ∧ (r1 : Int) < (c : Int))) → ¬ ((w.1 (m + 423) (l1 : Int).toNat) < 0) → ∃ (t : Nat → Int) (len : Nat) (why left : Int), zTR (w.1 (m + 2)) (r1 : Int).toNat t len why left ∧ v = some (jI (zff (fun k => ¬ k < len ∨ (w.1 (m + (425 + (l1 : Int).toNat))) k ≠ t k) (w.1 (m + 423) (l1 : Int).toNat).toNat 0)) ∧ mq w m w1)) := by
          intro N
          induction N with
          | zero => intro k hk hr hm; omega
          | succ N ih6 =>
            intro k hk hr hm
            have hf : k < len → _ := fun h => hTb.2.2 k h
            have hl60 := hTb.1
            have hi9 : k < 40 → -2147483648 ≤ w.1 (m + (425 + l1)) k ∧ w.1 (m + (425 + l1)) k < 2147483648 := fun h => hI l1 (by omega) k h
            refine jWp.blk mt 2 ?_
            show _ ∧ jWp 212 42 [some (jO m), some (jI (l1 : Int)), some (jI (r1 : Int)), some (jI (k : Int))] [jO m, jI (k : Int)] 0 0 (M1, w.2) _
            refine ⟨rfl, ?_⟩
            refine jWp.getR (pc' := 45) (o := (m + 423)) mt rfl rfl (jtg hW.K0) hW.R27 ?_
            show jWp 212 45 [some (jO m), some (jI (l1 : Int)), some (jI (r1 : Int)), some (jI (k : Int))] [jO (m + 423), jI (k : Int)] 0 0 (M1, w.2) _
            refine jWp.blk mt 1 ?_
            show jWp 212 46 [some (jO m), some (jI (l1 : Int)), some (jI (r1 : Int)), some (jI (k : Int))] [jI (l1 : Int), jO (m + 423), jI (k : Int)] 0 0 (M1, w.2) _
            refine jWp.iald (pc' := 47) (j := l1) mt rfl rfl (jird_of hW.K423) (b32_id (by omega) (by omega)) (jlt hW.K423 (by omega)) ?_
            rw [show ((M1, w.2).1 (m + 423) l1) = (w.1 (m + 423) l1) from (congrFun (hmq.2.1 _ (by omega)) _)]
            show jWp 212 47 [some (jO m), some (jI (l1 : Int)), some (jI (r1 : Int)), some (jI (k : Int))] [jI (w.1 (m + 423) l1), jI (k : Int)] 0 0 (M1, w.2) _
            refine jWp.icmp (pc' := 50) mt rfl rfl (b32_id (by omega) (by omega)) (b32_id (by omega) (by omega)) (fun h7 => ?_) (fun h7 => ?_)
            · have h7 : (w.1 (m + 423) l1) ≤ (k : Int) := h7
              refine jWp.blk mt 1 ?_
              show jWp 212 86 [some (jO m), some (jI (l1 : Int)), some (jI (r1 : Int)), some (jI (k : Int))] [jI (-9)] 0 0 (M1, w.2) _
              refine jWp.ireti mt rfl ⟨rfl, rfl⟩ rfl ?_
              try rw [show ((r1 : Nat) : Int).toNat = r1 from rfl]
              try rw [show ((l1 : Nat) : Int).toNat = l1 from rfl]
              refine ⟨fun c0 => ?_, fun c0 c1 => ?_, fun c0 c1 => ?_⟩
              all_goals first
              | (exfalso; omega)
              | exact ⟨rfl, rfl⟩
              | exact ⟨M1 (m + 4), len, why, left, hTR, by rw [← hr, show (w.1 (m + 423) l1).toNat - k = 0 by omega]; rfl, hmq⟩
            · have h7 : (k : Int) < (w.1 (m + 423) l1) := h7
              refine jWp.blk mt 2 ?_
              show _ ∧ jWp 212 52 [some (jO m), some (jI (l1 : Int)), some (jI (r1 : Int)), some (jI (k : Int))] [jO m, jI (k : Int)] 0 0 (M1, w.2) _
              refine ⟨rfl, ?_⟩
              refine jWp.getI (pc' := 55) mt rfl rfl (jtg hW.K0) ?_
              rw [show ((M1, w.2).1 m 4) = (len : Int) from k4]
              show jWp 212 55 [some (jO m), some (jI (l1 : Int)), some (jI (r1 : Int)), some (jI (k : Int))] [jI (len : Int), jI (k : Int)] 0 0 (M1, w.2) _
              refine jWp.icmp (pc' := 58) mt rfl rfl (b32_id (by omega) (by omega)) (b32_id (by omega) (by omega)) (fun h8 => ?_) (fun h8 => ?_)
              · have h8 : (len : Int) ≤ (k : Int) := h8
                refine jWp.blk mt 1 ?_
                show jWp 212 77 [some (jO m), some (jI (l1 : Int)), some (jI (r1 : Int)), some (jI (k : Int))] [jI (k : Int)] 0 0 (M1, w.2) _
                refine jWp.ireti mt rfl ⟨rfl, rfl⟩ rfl ?_
                try rw [show ((r1 : Nat) : Int).toNat = r1 from rfl]
                try rw [show ((l1 : Nat) : Int).toNat = l1 from rfl]
                refine ⟨fun c0 => ?_, fun c0 c1 => ?_, fun c0 c1 => ?_⟩
                all_goals first
                | (exfalso; omega)
                | exact ⟨rfl, rfl⟩
                | exact ⟨M1 (m + 4), len, why, left, hTR, by rw [← hr, show (w.1 (m + 423) l1).toNat - k = ((w.1 (m + 423) l1).toNat - (k + 1)) + 1 by omega, zff_t (by omega)], hmq⟩
              · have h8 : (k : Int) < (len : Int) := h8
                refine jWp.blk mt 1 ?_
                show _ ∧ jWp 212 59 [some (jO m), some (jI (l1 : Int)), some (jI (r1 : Int)), some (jI (k : Int))] [jO m] 0 0 (M1, w.2) _
                refine ⟨rfl, ?_⟩
                refine jWp.getR (pc' := 62) (o := (m + 424)) mt rfl rfl (jtg hW.K0) hW.R28 ?_
                show jWp 212 62 [some (jO m), some (jI (l1 : Int)), some (jI (r1 : Int)), some (jI (k : Int))] [jO (m + 424)] 0 0 (M1, w.2) _
                refine jWp.blk mt 1 ?_
                show jWp 212 63 [some (jO m), some (jI (l1 : Int)), some (jI (r1 : Int)), some (jI (k : Int))] [jI (l1 : Int), jO (m + 424)] 0 0 (M1, w.2) _
                refine jWp.aald (pc' := 64) (j := l1) (o := (m + (425 + l1))) mt rfl rfl (jrg hW.K424 (by decide) (by decide)) (b32_id (by omega) (by omega)) (jlt hW.K424 (by omega)) (hW.RI l1 (by omega)) ?_
                show jWp 212 64 [some (jO m), some (jI (l1 : Int)), some (jI (r1 : Int)), some (jI (k : Int))] [jO (m + (425 + l1))] 0 0 (M1, w.2) _
                refine jWp.blk mt 1 ?_
                show jWp 212 65 [some (jO m), some (jI (l1 : Int)), some (jI (r1 : Int)), some (jI (k : Int))] [jI (k : Int), jO (m + (425 + l1))] 0 0 (M1, w.2) _
                refine jWp.lald (pc' := 66) (j := k) mt rfl rfl (jtg (hW.KI _ (by omega))) (b32_id (by omega) (by omega)) (jlt (hW.KI _ (by omega)) (by omega)) ?_
                rw [show ((M1, w.2).1 (m + (425 + l1)) k) = (w.1 (m + (425 + l1)) k) from (congrFun (hmq.2.1 _ (by omega)) _)]
                show jWp 212 66 [some (jO m), some (jI (l1 : Int)), some (jI (r1 : Int)), some (jI (k : Int))] [jJ (w.1 (m + (425 + l1)) k)] 0 0 (M1, w.2) _
                refine jWp.blk mt 1 ?_
                show _ ∧ jWp 212 67 [some (jO m), some (jI (l1 : Int)), some (jI (r1 : Int)), some (jI (k : Int))] [jO m, jJ (w.1 (m + (425 + l1)) k)] 0 0 (M1, w.2) _
                refine ⟨rfl, ?_⟩
                refine jWp.getR (pc' := 70) (o := (m + 4)) mt rfl rfl (jtg hW.K0) hW.R3 ?_
                show jWp 212 70 [some (jO m), some (jI (l1 : Int)), some (jI (r1 : Int)), some (jI (k : Int))] [jO (m + 4), jJ (w.1 (m + (425 + l1)) k)] 0 0 (M1, w.2) _
                refine jWp.blk mt 1 ?_
                show jWp 212 71 [some (jO m), some (jI (l1 : Int)), some (jI (r1 : Int)), some (jI (k : Int))] [jI (k : Int), jO (m + 4), jJ (w.1 (m + (425 + l1)) k)] 0 0 (M1, w.2) _
                refine jWp.lald (pc' := 72) (j := k) mt rfl rfl (jtg hW.K4) (b32_id (by omega) (by omega)) (jlt hW.K4 (by omega)) ?_
                rw [show ((M1, w.2).1 (m + 4) k) = (M1 (m + 4) k) from rfl]
                show jWp 212 72 [some (jO m), some (jI (l1 : Int)), some (jI (r1 : Int)), some (jI (k : Int))] [jJ (M1 (m + 4) k), jJ (w.1 (m + (425 + l1)) k)] 0 0 (M1, w.2) _
                refine jWp.lcmp (pc' := 76) mt rfl rfl rfl (b64_id (by omega) (by omega)) (b64_id (by omega) (by omega)) (fun h9 => ?_) (fun h9 => ?_)
                · have h9 : (w.1 (m + (425 + l1)) k) = (M1 (m + 4) k) := h9
                  refine jWp.blk mt 2 ?_
                  show jWp 212 40 [some (jO m), some (jI (l1 : Int)), some (jI (r1 : Int)), some (jI ((k : Int) + 1))] [] 0 0 (M1, w.2) _
                  refine jWp.le (l := [some (jO m), some (jI (l1 : Int)), some (jI (r1 : Int)), some (jI ((k : Int) + 1))]) (by exact ⟨rfl, rfl, rfl, rfl, trivial⟩) ?_
                  exact ih6 (k + 1) (by omega) (by rw [← hr, show (w.1 (m + 423) l1).toNat - k = ((w.1 (m + 423) l1).toNat - (k + 1)) + 1 by omega, zff_f (by omega)]) (by omega)
                · have h9 : (w.1 (m + (425 + l1)) k) ≠ (M1 (m + 4) k) := h9
                  refine jWp.blk mt 1 ?_
                  show jWp 212 77 [some (jO m), some (jI (l1 : Int)), some (jI (r1 : Int)), some (jI (k : Int))] [jI (k : Int)] 0 0 (M1, w.2) _
                  refine jWp.ireti mt rfl ⟨rfl, rfl⟩ rfl ?_
                  try rw [show ((r1 : Nat) : Int).toNat = r1 from rfl]
                  try rw [show ((l1 : Nat) : Int).toNat = l1 from rfl]
                  refine ⟨fun c0 => ?_, fun c0 c1 => ?_, fun c0 c1 => ?_⟩
                  all_goals first
                  | (exfalso; omega)
                  | exact ⟨rfl, rfl⟩
                  | exact ⟨M1 (m + 4), len, why, left, hTR, by rw [← hr, show (w.1 (m + 423) l1).toNat - k = ((w.1 (m + 423) l1).toNat - (k + 1)) + 1 by omega, zff_t (by omega)], hmq⟩
        refine jWp.le (l := [some (jO m), some (jI (l1 : Int)), some (jI (r1 : Int)), some (jI 0)]) (by exact ⟨rfl, rfl, rfl, rfl, trivial⟩) ?_
        exact lp5 _ 0 (by omega) rfl (Nat.lt_succ_self _)
      · have h3 : (w.1 (m + 423) l1) < 0 := h3
        refine jWp.blk mt 1 ?_
        show jWp 212 32 [some (jO m), some (jI (l1 : Int)), some (jI (r1 : Int)), none] [jI (-11)] 0 0 w _
        refine jWp.ireti mt rfl ⟨rfl, rfl⟩ rfl ?_
        try rw [show ((l1 : Nat) : Int).toNat = l1 from rfl]
        try rw [show ((r1 : Nat) : Int).toNat = r1 from rfl]
        refine ⟨fun c0 => ?_, fun c0 c1 => ?_, fun c0 c1 => ?_⟩
        all_goals first
        | (exfalso; omega)
        | exact ⟨rfl, rfl⟩
    · have h2 : ¬ (0 ≤ r ∧ r < (c : Int)) := h2
      show jWp 212 12 [some (jO m), some (jI (l1 : Int)), some (jI r), none] [jI 0] 0 0 w _
      refine jWp.ifc (b := false) mt rfl (by decide) rfl ?_
      show jWp 212 15 [some (jO m), some (jI (l1 : Int)), some (jI r), none] [] 0 0 w _
      refine jWp.blk mt 2 ?_
      show _ ∧ jWp 212 17 [some (jO m), some (jI (l1 : Int)), some (jI r), none] [jI (-1), jO m] 0 0 w _
      refine ⟨rfl, ?_⟩
      refine jWp.callv (as := [jO m, jI (-1)]) (rest := []) mt rfl rfl rfl ⟨rfl, jtg hW.K0⟩ ?_
      refine jCall.mono (E_refuses (w := w) (j := 1) hW (by decide) (by decide)) (fun v9 w9 h9 => ?_)
      obtain ⟨rfl, h9⟩ := h9
      subst h9
      show jWp 212 20 [some (jO m), some (jI (l1 : Int)), some (jI r), none] [jI (-1)] 0 0 (jW w (m + 3) 1 ((w.1 (m + 3) 1) + 1)) _
      refine jWp.ireti mt rfl ⟨rfl, rfl⟩ rfl ?_
      try rw [show ((l1 : Nat) : Int).toNat = l1 from rfl]
      try rw [show ((r1 : Nat) : Int).toNat = r1 from rfl]
      refine ⟨fun c0 => ?_, fun c0 c1 => ?_, fun c0 c1 => ?_⟩
      all_goals first
      | (exfalso; omega)
      | exact ⟨rfl, rfl⟩
  · have h1 : ¬ (0 ≤ l ∧ l ≤ 2) := h1
    show jWp 212 4 [some (jO m), some (jI l), some (jI r), none] [jI 0] 0 0 w _
    refine jWp.ifc (b := true) mt rfl (by decide) rfl ?_
    show jWp 212 15 [some (jO m), some (jI l), some (jI r), none] [] 0 0 w _
    refine jWp.blk mt 2 ?_
    show _ ∧ jWp 212 17 [some (jO m), some (jI l), some (jI r), none] [jI (-1), jO m] 0 0 w _
    refine ⟨rfl, ?_⟩
    refine jWp.callv (as := [jO m, jI (-1)]) (rest := []) mt rfl rfl rfl ⟨rfl, jtg hW.K0⟩ ?_
    refine jCall.mono (E_refuses (w := w) (j := 1) hW (by decide) (by decide)) (fun v9 w9 h9 => ?_)
    obtain ⟨rfl, h9⟩ := h9
    subst h9
    show jWp 212 20 [some (jO m), some (jI l), some (jI r), none] [jI (-1)] 0 0 (jW w (m + 3) 1 ((w.1 (m + 3) 1) + 1)) _
    refine jWp.ireti mt rfl ⟨rfl, rfl⟩ rfl ?_
    try rw [show ((l1 : Nat) : Int).toNat = l1 from rfl]
    try rw [show ((r1 : Nat) : Int).toNat = r1 from rfl]
    refine ⟨fun c0 => ?_, fun c0 c1 => ?_, fun c0 c1 => ?_⟩
    all_goals first
    | (exfalso; omega)
    | exact ⟨rfl, rfl⟩
/-- the numbers of a list behind so many terms laid into it -/
def zly (q t T : Nat → Int) (i n : Nat) : Prop := ∀ j, j < 40 → T j = if i ≤ j ∧ j < i + n then t (j - i) else q j
set_option maxHeartbeats 4000000 in
set_option maxRecDepth 20000 in
theorem E_lays {w : jS} {m : Nat} (hW : MW w.2 m) (hz : ∀ x, x < 3 → -1 ≤ w.1 (m + 423) x ∧ w.1 (m + 423) x ≤ 40) (hI : ∀ x, x < 3 → ∀ j, j < 40 → r32 (w.1 (m + (425 + x)) j)) {c : Nat} (hR : zRw (w.1 (m + 2)) c) {l i r : Int} (hrl : r32 l) (hri : r32 i) (hrr : r32 r) : jCall 216 [jO m, jI l, jI i, jI r] w (fun v w1 => ((¬ (0 ≤ l ∧ l ≤ 2) ∨ ¬ (0 ≤ r ∧ r < (c : Int))) → jno w m 1 (jI (-1)) v w1) ∧ (¬ (¬ (0 ≤ l ∧ l ≤ 2) ∨ ¬ (0 ≤ r ∧ r < (c : Int))) → ((w.1 (m + 423) l.toNat) < 0) → v = some (jI (-11)) ∧ w1 = w) ∧ (¬ (¬ (0 ≤ l ∧ l ≤ 2) ∨ ¬ (0 ≤ r ∧ r < (c : Int))) → ¬ ((w.1 (m + 423) l.toNat) < 0) → (¬ (0 ≤ i ∧ i < (w.1 (m + 423) l.toNat))) → v = some (jI (-13)) ∧ w1 = w) ∧ (¬ (¬ (0 ≤ l ∧ l ≤ 2) ∨ ¬ (0 ≤ r ∧ r < (c : Int))) → ¬ ((w.1 (m + 423) l.toNat) < 0) → ¬ (¬ (0 ≤ i ∧ i < (w.1 (m + 423) l.toNat))) → ∃ (t : Nat → Int) (len : Nat) (why left : Int), zTR (w.1 (m + 2)) r.toNat t len why left ∧ ∃ n : Nat, v = some (jI (n : Int)) ∧ (n ≤ len ∧ (i + (n : Int)) ≤ (w.1 (m + 423) l.toNat) ∧ (n < len → i + (n : Int) = (w.1 (m + 423) l.toNat))) ∧ ∃ w2 T, mq w m w2 ∧ w1 = kA w2 (m + (425 + l.toNat)) T ∧ zly (w.1 (m + (425 + l.toNat))) t T i.toNat n)) := by
  have mt : jtb 216 = jT216 := rfl
  have hc4 := hR.2.1
  have hrr1 : -2147483648 ≤ r ∧ r < 2147483648 := hrr
  have hrl1 : -2147483648 ≤ l ∧ l < 2147483648 := hrl
  have hri1 : -2147483648 ≤ i ∧ i < 2147483648 := hri
  show jWp 216 0 [some (jO m), some (jI l), some (jI i), some (jI r), none] [] 0 0 w _
  refine jWp.blk mt 1 ?_
  show jWp 216 1 [some (jO m), some (jI l), some (jI i), some (jI r), none] [jI l] 0 0 w _
  refine jWp.calls (as := [jI l]) (rest := []) mt rfl rfl rfl rfl ?_
  refine jCall.mono (E_isList hrl) (fun v9 w9 h9 => ?_)
  rcases h9 with ⟨rfl, h9, h1⟩ | ⟨rfl, h9, h1⟩ <;> subst w9
  · have h1 : 0 ≤ l ∧ l ≤ 2 := h1
    show jWp 216 4 [some (jO m), some (jI l), some (jI i), some (jI r), none] [jI 1] 0 0 w _
    obtain ⟨l1, rfl⟩ : ∃ l1 : Nat, l = (l1 : Int) := ⟨l.toNat, by omega⟩
    show jWp 216 4 [some (jO m), some (jI (l1 : Int)), some (jI i), some (jI r), none] [jI 1] 0 0 w _
    have hz2 : -1 ≤ w.1 (m + 423) l1 ∧ w.1 (m + 423) l1 ≤ 40 := hz l1 (by omega)
    refine jWp.ifc (b := false) mt rfl (by decide) rfl ?_
    show jWp 216 7 [some (jO m), some (jI (l1 : Int)), some (jI i), some (jI r), none] [] 0 0 w _
    refine jWp.blk mt 2 ?_
    show _ ∧ jWp 216 9 [some (jO m), some (jI (l1 : Int)), some (jI i), some (jI r), none] [jI r, jO m] 0 0 w _
    refine ⟨rfl, ?_⟩
    refine jWp.callv (as := [jO m, jI r]) (rest := []) mt rfl rfl rfl ⟨rfl, jtg hW.K0⟩ ?_
    refine jCall.mono (E_isRow hW hR hrr) (fun v9 w9 h9 => ?_)
    rcases h9 with ⟨rfl, h9, h2⟩ | ⟨rfl, h9, h2⟩ <;> subst w9
    · have h2 : 0 ≤ r ∧ r < (c : Int) := h2
      show jWp 216 12 [some (jO m), some (jI (l1 : Int)), some (jI i), some (jI r), none] [jI 1] 0 0 w _
      obtain ⟨r1, rfl⟩ : ∃ r1 : Nat, r = (r1 : Int) := ⟨r.toNat, by omega⟩
      show jWp 216 12 [some (jO m), some (jI (l1 : Int)), some (jI i), some (jI (r1 : Int)), none] [jI 1] 0 0 w _
      have hRr := hR.2.2 r1 (by omega)
      have hRo := zO_b hRr.1.1 hRr.1.2
      refine jWp.ifc (b := true) mt rfl (by decide) rfl ?_
      show jWp 216 21 [some (jO m), some (jI (l1 : Int)), some (jI i), some (jI (r1 : Int)), none] [] 0 0 w _
      refine jWp.blk mt 1 ?_
      show _ ∧ jWp 216 22 [some (jO m), some (jI (l1 : Int)), some (jI i), some (jI (r1 : Int)), none] [jO m] 0 0 w _
      refine ⟨rfl, ?_⟩
      refine jWp.getR (pc' := 25) (o := (m + 423)) mt rfl rfl (jtg hW.K0) hW.R27 ?_
      show jWp 216 25 [some (jO m), some (jI (l1 : Int)), some (jI i), some (jI (r1 : Int)), none] [jO (m + 423)] 0 0 w _
      refine jWp.blk mt 1 ?_
      show jWp 216 26 [some (jO m), some (jI (l1 : Int)), some (jI i), some (jI (r1 : Int)), none] [jI (l1 : Int), jO (m + 423)] 0 0 w _
      refine jWp.iald (pc' := 27) (j := l1) mt rfl rfl (jird_of hW.K423) (b32_id (by omega) (by omega)) (jlt hW.K423 (by omega)) ?_
      show jWp 216 27 [some (jO m), some (jI (l1 : Int)), some (jI i), some (jI (r1 : Int)), none] [jI (w.1 (m + 423) l1)] 0 0 w _
      refine jWp.ifz (pc' := 30) mt rfl rfl (b32_id (by omega) (by omega)) (fun h3 => ?_) (fun h3 => ?_)
      · have h3 : 0 ≤ (w.1 (m + 423) l1) := h3
        refine jWp.blk mt 1 ?_
        show jWp 216 34 [some (jO m), some (jI (l1 : Int)), some (jI i), some (jI (r1 : Int)), none] [jI i] 0 0 w _
        refine jWp.i2l (pc' := 35) mt rfl rfl (b32_id (by omega) (by omega)) ?_
        show jWp 216 35 [some (jO m), some (jI (l1 : Int)), some (jI i), some (jI (r1 : Int)), none] [jJ i] 0 0 w _
        refine jWp.blk mt 2 ?_
        show _ ∧ jWp 216 37 [some (jO m), some (jI (l1 : Int)), some (jI i), some (jI (r1 : Int)), none] [jO m, jJ 0, jJ i] 0 0 w _
        refine ⟨rfl, ?_⟩
        refine jWp.getR (pc' := 40) (o := (m + 423)) mt rfl rfl (jtg hW.K0) hW.R27 ?_
        show jWp 216 40 [some (jO m), some (jI (l1 : Int)), some (jI i), some (jI (r1 : Int)), none] [jO (m + 423), jJ 0, jJ i] 0 0 w _
        refine jWp.blk mt 1 ?_
        show jWp 216 41 [some (jO m), some (jI (l1 : Int)), some (jI i), some (jI (r1 : Int)), none] [jI (l1 : Int), jO (m + 423), jJ 0, jJ i] 0 0 w _
        refine jWp.iald (pc' := 42) (j := l1) mt rfl rfl (jird_of hW.K423) (b32_id (by omega) (by omega)) (jlt hW.K423 (by omega)) ?_
        show jWp 216 42 [some (jO m), some (jI (l1 : Int)), some (jI i), some (jI (r1 : Int)), none] [jI (w.1 (m + 423) l1), jJ 0, jJ i] 0 0 w _
        refine jWp.blk mt 2 ?_
        show jWp 216 44 [some (jO m), some (jI (l1 : Int)), some (jI i), some (jI (r1 : Int)), none] [jI ((w.1 (m + 423) l1) - 1), jJ 0, jJ i] 0 0 w _
        refine jWp.i2l (pc' := 45) mt rfl rfl (b32_id (by omega) (by omega)) ?_
        show jWp 216 45 [some (jO m), some (jI (l1 : Int)), some (jI i), some (jI (r1 : Int)), none] [jJ ((w.1 (m + 423) l1) - 1), jJ 0, jJ i] 0 0 w _
        refine jWp.calls (as := [jJ i, jJ 0, jJ ((w.1 (m + 423) l1) - 1)]) (rest := []) mt rfl rfl rfl rfl ?_
        refine jCall.mono (E_in (b64_id (by omega) (by omega)) (show b64 0 = 0 by decide) (b64_id (by omega) (by omega))) (fun v9 w9 h9 => ?_)
        rcases h9 with ⟨rfl, h9, h4⟩ | ⟨rfl, h9, h4⟩ <;> subst w9
        · have h4 : 0 ≤ i ∧ i ≤ ((w.1 (m + 423) l1) - 1) := h4
          show jWp 216 48 [some (jO m), some (jI (l1 : Int)), some (jI i), some (jI (r1 : Int)), none] [jI 1] 0 0 w _
          refine jWp.ifc (b := true) mt rfl (by decide) rfl ?_
          show jWp 216 54 [some (jO m), some (jI (l1 : Int)), some (jI i), some (jI (r1 : Int)), none] [] 0 0 w _
          obtain ⟨i1, rfl⟩ : ∃ i1 : Nat, i = (i1 : Int) := ⟨i.toNat, by omega⟩
          show jWp 216 54 [some (jO m), some (jI (l1 : Int)), some (jI (i1 : Int)), some (jI (r1 : Int)), none] [] 0 0 w _
          refine jWp.blk mt 2 ?_
          show _ ∧ jWp 216 56 [some (jO m), some (jI (l1 : Int)), some (jI (i1 : Int)), some (jI (r1 : Int)), none] [jI (r1 : Int), jO m] 0 0 w _
          refine ⟨rfl, ?_⟩
          refine jWp.callv (as := [jO m, jI (r1 : Int)]) (rest := []) mt rfl rfl rfl ⟨rfl, jtg hW.K0⟩ ?_
          refine jCall.mono (E_termsW (w := w) (W := w) (x := r1) hW hR (by omega) mq_0) (fun v9 w9 h9 => ?_)
          obtain ⟨rfl, hF, hmq, len, why, left, k4, k5, k6, hTR⟩ := h9
          obtain ⟨M1, G9⟩ := w9
          have hg : G9 = w.2 := hmq.1
          subst hg
          have k4 : M1 m 4 = (len : Int) := k4
          have hTR : zTR (w.1 (m + 2)) r1 (M1 (m + 4)) len why left := hTR
          have hTb := zTR_b hR (by omega) hTR
          have hM2 : M1 (m + 2) = w.1 (m + 2) := hmq.2.1 _ (by omega)
          show jWp 216 59 [some (jO m), some (jI (l1 : Int)), some (jI (i1 : Int)), some (jI (r1 : Int)), none] [] 0 0 (M1, w.2) _
          refine jWp.blk mt 2 ?_
          show jWp 216 62 [some (jO m), some (jI (l1 : Int)), some (jI (i1 : Int)), some (jI (r1 : Int)), some (jI 0)] [] 0 0 (M1, w.2) _
          have lp6 : ∀ (N : Nat) (n : Nat) (T : Nat → Int) (hn : n ≤ len ∧ ((i1 : Int) + (n : Int)) ≤ (w.1 (m + 423) l1)) (hT : zly (w.1 (m + (425 + l1))) (M1 (m + 4)) T i1 n), len - n < N → jWp 216 62 [some (jO m), some (jI (l1 : Int)), some (jI (i1 : Int)), some (jI (r1 : Int)), some (jI (n : Int))] [] 0 0 (kA (M1, w.2) (m + (425 + l1)) T) (fun v w1 => ((¬ (0 ≤ (l1 : Int) ∧ (l1 : Int) ≤ 2) ∨ ¬ (0 ≤ (r1 : Int) ∧ (r1 : Int) < (c : Int))) → jno w m 1 (jI (-1)) v w1) ∧ (¬ (¬ (0 ≤ (l1 : Int) ∧ (l1 : Int) ≤ 2) ∨ ¬ (0 ≤ (r1 : Int) ∧ (r1 : Int) < (c : Int))) → ((w.1 (m + 423) (l1 : Int).toNat) < 0) → v = some (jI (-11)) ∧ w1 = w) ∧ (¬ (¬ (0 ≤ (l1 : Int) ∧ (l1 : Int) ≤ 2) ∨ ¬ (0 ≤ (r1 : Int) ∧ (r1 : Int) < (c : Int))) → ¬ ((w.1 (m + 423) (l1 : Int).toNat) < 0) → (¬ (0 ≤ (i1 : Int) ∧ (i1 : Int) < (w.1 (m + 423) (l1 : Int).toNat))) → v = some (jI (-13)) ∧ w1 = w) ∧ (¬ (¬ (0 ≤ (l1 : Int) ∧ (l1 : Int) ≤ 2) ∨ ¬ (0 ≤ (r1 : Int) ∧ (r1 : Int) < (c : Int))) → ¬ ((w.1 (m + 423) (l1 : Int).toNat) < 0) → ¬ (¬ (0 ≤ (i1 : Int) ∧ (i1 : Int) < (w.1 (m + 423) (l1 : Int).toNat))) → ∃ (t : Nat → Int) (len : Nat) (why left : Int), zTR (w.1 (m + 2)) (r1 : Int).toNat t len why left ∧ ∃ n : Nat, v = some (jI (n : Int)) ∧ (n ≤ len ∧ ((i1 : Int) + (n : Int)) ≤ (w.1 (m + 423) (l1 : Int).toNat) ∧ (n < len → (i1 : Int) + (n : Int) = (w.1 (m + 423) (l1 : Int).toNat))) ∧ ∃ w2 T, mq w m w2 ∧ w1 = kA w2 (m + (425 + (l1 : Int).toNat)) T ∧ zly (w.1 (m + (425 + (l1 : Int).toNat))) t T (i1 : Int).toNat n)) := by
            intro N
            induction N with
            | zero => intro n T hn hT hm; omega
            | succ N ih7 =>
              intro n T hn hT hm
              have hl60 := hTb.1
              refine jWp.blk mt 2 ?_
              show _ ∧ jWp 216 65 [some (jO m), some (jI (l1 : Int)), some (jI (i1 : Int)), some (jI (r1 : Int)), some (jI (n : Int))] [jO m, jI (n : Int)] 0 0 (kA (M1, w.2) (m + (425 + l1)) T) _
              refine ⟨rfl, ?_⟩
              refine jWp.getI (pc' := 68) mt rfl rfl (jtg hW.K0) ?_
              rw [show ((kA (M1, w.2) (m + (425 + l1)) T).1 m 4) = (len : Int) from (((kA_a (by omega)).trans rfl).trans k4)]
              show jWp 216 68 [some (jO m), some (jI (l1 : Int)), some (jI (i1 : Int)), some (jI (r1 : Int)), some (jI (n : Int))] [jI (len : Int), jI (n : Int)] 0 0 (kA (M1, w.2) (m + (425 + l1)) T) _
              refine jWp.icmp (pc' := 71) mt rfl rfl (b32_id (by omega) (by omega)) (b32_id (by omega) (by omega)) (fun h8 => ?_) (fun h8 => ?_)
              · have h8 : (len : Int) ≤ (n : Int) := h8
                refine jWp.blk mt 1 ?_
                show jWp 216 110 [some (jO m), some (jI (l1 : Int)), some (jI (i1 : Int)), some (jI (r1 : Int)), some (jI (n : Int))] [jI (n : Int)] 0 0 (kA (M1, w.2) (m + (425 + l1)) T) _
                refine jWp.ireti mt rfl ⟨rfl, rfl⟩ rfl ?_
                try rw [show ((r1 : Nat) : Int).toNat = r1 from rfl]
                try rw [show ((l1 : Nat) : Int).toNat = l1 from rfl]
                try rw [show ((i1 : Nat) : Int).toNat = i1 from rfl]
                refine ⟨fun c0 => ?_, fun c0 c1 => ?_, fun c0 c1 c2 => ?_, fun c0 c1 c2 => ?_⟩
                all_goals first
                | (exfalso; omega)
                | exact ⟨rfl, rfl⟩
                | exact ⟨M1 (m + 4), len, why, left, hTR, n, rfl, by omega, (M1, w.2), T, hmq, rfl, hT⟩
              · have h8 : (n : Int) < (len : Int) := h8
                refine jWp.blk mt 4 ?_
                show _ ∧ jWp 216 76 [some (jO m), some (jI (l1 : Int)), some (jI (i1 : Int)), some (jI (r1 : Int)), some (jI (n : Int))] [jO m, jI ((i1 : Int) + (n : Int))] 0 0 (kA (M1, w.2) (m + (425 + l1)) T) _
                refine ⟨rfl, ?_⟩
                refine jWp.getR (pc' := 79) (o := (m + 423)) mt rfl rfl (jtg hW.K0) hW.R27 ?_
                show jWp 216 79 [some (jO m), some (jI (l1 : Int)), some (jI (i1 : Int)), some (jI (r1 : Int)), some (jI (n : Int))] [jO (m + 423), jI ((i1 : Int) + (n : Int))] 0 0 (kA (M1, w.2) (m + (425 + l1)) T) _
                refine jWp.blk mt 1 ?_
                show jWp 216 80 [some (jO m), some (jI (l1 : Int)), some (jI (i1 : Int)), some (jI (r1 : Int)), some (jI (n : Int))] [jI (l1 : Int), jO (m + 423), jI ((i1 : Int) + (n : Int))] 0 0 (kA (M1, w.2) (m + (425 + l1)) T) _
                refine jWp.iald (pc' := 81) (j := l1) mt rfl rfl (jird_of hW.K423) (b32_id (by omega) (by omega)) (jlt hW.K423 (by omega)) ?_
                rw [show ((kA (M1, w.2) (m + (425 + l1)) T).1 (m + 423) l1) = (w.1 (m + 423) l1) from (((kA_a (by omega)).trans rfl).trans (congrFun (hmq.2.1 _ (by omega)) _))]
                show jWp 216 81 [some (jO m), some (jI (l1 : Int)), some (jI (i1 : Int)), some (jI (r1 : Int)), some (jI (n : Int))] [jI (w.1 (m + 423) l1), jI ((i1 : Int) + (n : Int))] 0 0 (kA (M1, w.2) (m + (425 + l1)) T) _
                refine jWp.icmp (pc' := 84) mt rfl rfl (b32_id (by omega) (by omega)) (b32_id (by omega) (by omega)) (fun h9 => ?_) (fun h9 => ?_)
                · have h9 : (w.1 (m + 423) l1) ≤ ((i1 : Int) + (n : Int)) := h9
                  refine jWp.blk mt 1 ?_
                  show jWp 216 110 [some (jO m), some (jI (l1 : Int)), some (jI (i1 : Int)), some (jI (r1 : Int)), some (jI (n : Int))] [jI (n : Int)] 0 0 (kA (M1, w.2) (m + (425 + l1)) T) _
                  refine jWp.ireti mt rfl ⟨rfl, rfl⟩ rfl ?_
                  try rw [show ((r1 : Nat) : Int).toNat = r1 from rfl]
                  try rw [show ((l1 : Nat) : Int).toNat = l1 from rfl]
                  try rw [show ((i1 : Nat) : Int).toNat = i1 from rfl]
                  refine ⟨fun c0 => ?_, fun c0 c1 => ?_, fun c0 c1 c2 => ?_, fun c0 c1 c2 => ?_⟩
                  all_goals first
                  | (exfalso; omega)
                  | exact ⟨rfl, rfl⟩
                  | exact ⟨M1 (m + 4), len, why, left, hTR, n, rfl, by omega, (M1, w.2), T, hmq, rfl, hT⟩
                · have h9 : ((i1 : Int) + (n : Int)) < (w.1 (m + 423) l1) := h9
                  refine jWp.blk mt 1 ?_
                  show _ ∧ jWp 216 85 [some (jO m), some (jI (l1 : Int)), some (jI (i1 : Int)), some (jI (r1 : Int)), some (jI (n : Int))] [jO m] 0 0 (kA (M1, w.2) (m + (425 + l1)) T) _
                  refine ⟨rfl, ?_⟩
                  refine jWp.getR (pc' := 88) (o := (m + 424)) mt rfl rfl (jtg hW.K0) hW.R28 ?_
                  show jWp 216 88 [some (jO m), some (jI (l1 : Int)), some (jI (i1 : Int)), some (jI (r1 : Int)), some (jI (n : Int))] [jO (m + 424)] 0 0 (kA (M1, w.2) (m + (425 + l1)) T) _
                  refine jWp.blk mt 1 ?_
                  show jWp 216 89 [some (jO m), some (jI (l1 : Int)), some (jI (i1 : Int)), some (jI (r1 : Int)), some (jI (n : Int))] [jI (l1 : Int), jO (m + 424)] 0 0 (kA (M1, w.2) (m + (425 + l1)) T) _
                  refine jWp.aald (pc' := 90) (j := l1) (o := (m + (425 + l1))) mt rfl rfl (jrg hW.K424 (by decide) (by decide)) (b32_id (by omega) (by omega)) (jlt hW.K424 (by omega)) (hW.RI l1 (by omega)) ?_
                  show jWp 216 90 [some (jO m), some (jI (l1 : Int)), some (jI (i1 : Int)), some (jI (r1 : Int)), some (jI (n : Int))] [jO (m + (425 + l1))] 0 0 (kA (M1, w.2) (m + (425 + l1)) T) _
                  refine jWp.blk mt 4 ?_
                  show _ ∧ jWp 216 95 [some (jO m), some (jI (l1 : Int)), some (jI (i1 : Int)), some (jI (r1 : Int)), some (jI (n : Int))] [jO m, jI ((i1 : Int) + (n : Int)), jO (m + (425 + l1))] 0 0 (kA (M1, w.2) (m + (425 + l1)) T) _
                  refine ⟨rfl, ?_⟩
                  refine jWp.getR (pc' := 98) (o := (m + 4)) mt rfl rfl (jtg hW.K0) hW.R3 ?_
                  show jWp 216 98 [some (jO m), some (jI (l1 : Int)), some (jI (i1 : Int)), some (jI (r1 : Int)), some (jI (n : Int))] [jO (m + 4), jI ((i1 : Int) + (n : Int)), jO (m + (425 + l1))] 0 0 (kA (M1, w.2) (m + (425 + l1)) T) _
                  refine jWp.blk mt 1 ?_
                  show jWp 216 100 [some (jO m), some (jI (l1 : Int)), some (jI (i1 : Int)), some (jI (r1 : Int)), some (jI (n : Int))] [jI (n : Int), jO (m + 4), jI ((i1 : Int) + (n : Int)), jO (m + (425 + l1))] 0 0 (kA (M1, w.2) (m + (425 + l1)) T) _
                  refine jWp.lald (pc' := 101) (j := n) mt rfl rfl (jtg hW.K4) (b32_id (by omega) (by omega)) (jlt hW.K4 (by omega)) ?_
                  rw [show ((kA (M1, w.2) (m + (425 + l1)) T).1 (m + 4) n) = (M1 (m + 4) n) from ((kA_a (by omega)).trans rfl)]
                  show jWp 216 101 [some (jO m), some (jI (l1 : Int)), some (jI (i1 : Int)), some (jI (r1 : Int)), some (jI (n : Int))] [jJ (M1 (m + 4) n), jI ((i1 : Int) + (n : Int)), jO (m + (425 + l1))] 0 0 (kA (M1, w.2) (m + (425 + l1)) T) _
                  refine jWp.last (pc' := 102) (j := (i1 + n)) mt rfl rfl (jtg (hW.KI _ (by omega))) (by rw [b32_id (by omega) (by omega)]; omega) (jlt (hW.KI _ (by omega)) (by omega)) ?_
                  rw [show jW (kA (M1, w.2) (m + (425 + l1)) T) (m + (425 + l1)) (i1 + n) (M1 (m + 4) n) = (kA (M1, w.2) (m + (425 + l1)) (zset T (i1 + n) (M1 (m + 4) n))) from kA_W]
                  show jWp 216 102 [some (jO m), some (jI (l1 : Int)), some (jI (i1 : Int)), some (jI (r1 : Int)), some (jI (n : Int))] [] 0 0 (kA (M1, w.2) (m + (425 + l1)) (zset T (i1 + n) (M1 (m + 4) n))) _
                  refine jWp.blk mt 2 ?_
                  show jWp 216 62 [some (jO m), some (jI (l1 : Int)), some (jI (i1 : Int)), some (jI (r1 : Int)), some (jI ((n : Int) + 1))] [] 0 0 (kA (M1, w.2) (m + (425 + l1)) (zset T (i1 + n) (M1 (m + 4) n))) _
                  refine jWp.le (l := [some (jO m), some (jI (l1 : Int)), some (jI (i1 : Int)), some (jI (r1 : Int)), some (jI ((n : Int) + 1))]) (by exact ⟨rfl, rfl, rfl, rfl, rfl, trivial⟩) ?_
                  exact ih7 (n + 1) _ (by omega) (fun j hj => by rcases Nat.lt_or_ge j (i1 + n) with g | g; rw [zset_n (by omega), hT j hj]; by_cases e : i1 ≤ j; rw [if_pos (by omega), if_pos (by omega)]; rw [if_neg (by omega), if_neg (by omega)]; by_cases e : j = i1 + n; rw [e, zset_s, if_pos (by omega), show i1 + n - i1 = n by omega]; rw [zset_n e, hT j hj, if_neg (by omega), if_neg (by omega)]) (by omega)
          refine jWp.le (l := [some (jO m), some (jI (l1 : Int)), some (jI (i1 : Int)), some (jI (r1 : Int)), some (jI 0)]) (by exact ⟨rfl, rfl, rfl, rfl, rfl, trivial⟩) ?_
          have key := lp6 _ 0 (((M1, w.2) : jS).1 (m + (425 + l1))) (by omega) (fun j hj => by rw [if_neg (by omega)]; exact congrFun (hmq.2.1 (m + (425 + l1)) (by omega)) j) (Nat.lt_succ_self _)
          rw [kA_self] at key
          exact key
        · have h4 : ¬ (0 ≤ i ∧ i ≤ ((w.1 (m + 423) l1) - 1)) := h4
          show jWp 216 48 [some (jO m), some (jI (l1 : Int)), some (jI i), some (jI (r1 : Int)), none] [jI 0] 0 0 w _
          refine jWp.ifc (b := false) mt rfl (by decide) rfl ?_
          show jWp 216 51 [some (jO m), some (jI (l1 : Int)), some (jI i), some (jI (r1 : Int)), none] [] 0 0 w _
          refine jWp.blk mt 1 ?_
          show jWp 216 53 [some (jO m), some (jI (l1 : Int)), some (jI i), some (jI (r1 : Int)), none] [jI (-13)] 0 0 w _
          refine jWp.ireti mt rfl ⟨rfl, rfl⟩ rfl ?_
          try rw [show ((l1 : Nat) : Int).toNat = l1 from rfl]
          try rw [show ((r1 : Nat) : Int).toNat = r1 from rfl]
          try rw [show ((i1 : Nat) : Int).toNat = i1 from rfl]
          refine ⟨fun c0 => ?_, fun c0 c1 => ?_, fun c0 c1 c2 => ?_, fun c0 c1 c2 => ?_⟩
          all_goals first
          | (exfalso; omega)
          | exact ⟨rfl, rfl⟩
      · have h3 : (w.1 (m + 423) l1) < 0 := h3
        refine jWp.blk mt 1 ?_
        show jWp 216 32 [some (jO m), some (jI (l1 : Int)), some (jI i), some (jI (r1 : Int)), none] [jI (-11)] 0 0 w _
        refine jWp.ireti mt rfl ⟨rfl, rfl⟩ rfl ?_
        try rw [show ((l1 : Nat) : Int).toNat = l1 from rfl]
        try rw [show ((r1 : Nat) : Int).toNat = r1 from rfl]
        try rw [show ((i1 : Nat) : Int).toNat = i1 from rfl]
        refine ⟨fun c0 => ?_, fun c0 c1 => ?_, fun c0 c1 c2 => ?_, fun c0 c1 c2 => ?_⟩
        all_goals first
        | (exfalso; omega)
        | exact ⟨rfl, rfl⟩
    · have h2 : ¬ (0 ≤ r ∧ r < (c : Int)) := h2
      show jWp 216 12 [some (jO m), some (jI (l1 : Int)), some (jI i), some (jI r), none] [jI 0] 0 0 w _
      refine jWp.ifc (b := false) mt rfl (by decide) rfl ?_
      show jWp 216 15 [some (jO m), some (jI (l1 : Int)), some (jI i), some (jI r), none] [] 0 0 w _
      refine jWp.blk mt 2 ?_
      show _ ∧ jWp 216 17 [some (jO m), some (jI (l1 : Int)), some (jI i), some (jI r), none] [jI (-1), jO m] 0 0 w _
      refine ⟨rfl, ?_⟩
      refine jWp.callv (as := [jO m, jI (-1)]) (rest := []) mt rfl rfl rfl ⟨rfl, jtg hW.K0⟩ ?_
      refine jCall.mono (E_refuses (w := w) (j := 1) hW (by decide) (by decide)) (fun v9 w9 h9 => ?_)
      obtain ⟨rfl, h9⟩ := h9
      subst h9
      show jWp 216 20 [some (jO m), some (jI (l1 : Int)), some (jI i), some (jI r), none] [jI (-1)] 0 0 (jW w (m + 3) 1 ((w.1 (m + 3) 1) + 1)) _
      refine jWp.ireti mt rfl ⟨rfl, rfl⟩ rfl ?_
      try rw [show ((l1 : Nat) : Int).toNat = l1 from rfl]
      try rw [show ((r1 : Nat) : Int).toNat = r1 from rfl]
      try rw [show ((i1 : Nat) : Int).toNat = i1 from rfl]
      refine ⟨fun c0 => ?_, fun c0 c1 => ?_, fun c0 c1 c2 => ?_, fun c0 c1 c2 => ?_⟩
      all_goals first
      | (exfalso; omega)
      | exact ⟨rfl, rfl⟩
  · have h1 : ¬ (0 ≤ l ∧ l ≤ 2) := h1
    show jWp 216 4 [some (jO m), some (jI l), some (jI i), some (jI r), none] [jI 0] 0 0 w _
    refine jWp.ifc (b := true) mt rfl (by decide) rfl ?_
    show jWp 216 15 [some (jO m), some (jI l), some (jI i), some (jI r), none] [] 0 0 w _
    refine jWp.blk mt 2 ?_
    show _ ∧ jWp 216 17 [some (jO m), some (jI l), some (jI i), some (jI r), none] [jI (-1), jO m] 0 0 w _
    refine ⟨rfl, ?_⟩
    refine jWp.callv (as := [jO m, jI (-1)]) (rest := []) mt rfl rfl rfl ⟨rfl, jtg hW.K0⟩ ?_
    refine jCall.mono (E_refuses (w := w) (j := 1) hW (by decide) (by decide)) (fun v9 w9 h9 => ?_)
    obtain ⟨rfl, h9⟩ := h9
    subst h9
    show jWp 216 20 [some (jO m), some (jI l), some (jI i), some (jI r), none] [jI (-1)] 0 0 (jW w (m + 3) 1 ((w.1 (m + 3) 1) + 1)) _
    refine jWp.ireti mt rfl ⟨rfl, rfl⟩ rfl ?_
    try rw [show ((l1 : Nat) : Int).toNat = l1 from rfl]
    try rw [show ((r1 : Nat) : Int).toNat = r1 from rfl]
    try rw [show ((i1 : Nat) : Int).toNat = i1 from rfl]
    refine ⟨fun c0 => ?_, fun c0 c1 => ?_, fun c0 c1 c2 => ?_, fun c0 c1 c2 => ?_⟩
    all_goals first
    | (exfalso; omega)
    | exact ⟨rfl, rfl⟩
def zsl (t : Nat → Int) (s : Nat) : Prop := ∀ k, k < s → -10000 ≤ t k ∧ t k ≤ 10000
def zmd (law f : Int) (t : Nat → Int) (s : Nat) : Prop := ∀ n, (zO law).toNat ≤ n → n < s → zD law t n ≠ 0 ∧ t n * zD law t n = zP law f t n
set_option maxHeartbeats 4000000 in
set_option maxRecDepth 20000 in
theorem E_areSmall {w : jS} {m : Nat} (hW : MW w.2 m) (hz : ∀ x, x < 3 → -1 ≤ w.1 (m + 423) x ∧ w.1 (m + 423) x ≤ 40) (hI : ∀ x, x < 3 → ∀ j, j < 40 → r32 (w.1 (m + (425 + x)) j)) {l : Nat} (hl3 : l < 3) : jCall 208 [jO m, jI (l : Int)] w (jvb (zsl (w.1 (m + (425 + l))) (w.1 (m + 423) l).toNat) w) := by
  have mt : jtb 208 = jT208 := rfl
  have hzl := hz l hl3
  have hzl1 : -1 ≤ (w.1 (m + 423) l) ∧ (w.1 (m + 423) l) ≤ 40 := hzl
  show jWp 208 0 [some (jO m), some (jI (l : Int)), none] [] 0 0 w _
  refine jWp.blk mt 2 ?_
  show jWp 208 2 [some (jO m), some (jI (l : Int)), some (jI 0)] [] 0 0 w _
  have lp1 : ∀ (N : Nat) (k : Nat) (hk : k ≤ (w.1 (m + 423) l).toNat) (hA : ∀ x, x < k → -10000 ≤ (w.1 (m + (425 + l))) x ∧ (w.1 (m + (425 + l))) x ≤ 10000), (w.1 (m + 423) l).toNat - k < N → jWp 208 2 [some (jO m), some (jI (l : Int)), some (jI (k : Int))] [] 0 0 w (jvb (zsl (w.1 (m + (425 + l))) (w.1 (m + 423) l).toNat) w) := by
    intro N
    induction N with
    | zero => intro k hk hA hm; omega
    | succ N ih2 =>
      intro k hk hA hm
      have hi9 : k < 40 → -2147483648 ≤ w.1 (m + (425 + l)) k ∧ w.1 (m + (425 + l)) k < 2147483648 := fun h => hI l hl3 k h
      refine jWp.blk mt 2 ?_
      show _ ∧ jWp 208 4 [some (jO m), some (jI (l : Int)), some (jI (k : Int))] [jO m, jI (k : Int)] 0 0 w _
      refine ⟨rfl, ?_⟩
      refine jWp.getR (pc' := 7) (o := (m + 423)) mt rfl rfl (jtg hW.K0) hW.R27 ?_
      show jWp 208 7 [some (jO m), some (jI (l : Int)), some (jI (k : Int))] [jO (m + 423), jI (k : Int)] 0 0 w _
      refine jWp.blk mt 1 ?_
      show jWp 208 8 [some (jO m), some (jI (l : Int)), some (jI (k : Int))] [jI (l : Int), jO (m + 423), jI (k : Int)] 0 0 w _
      refine jWp.iald (pc' := 9) (j := l) mt rfl rfl (jird_of hW.K423) (b32_id (by omega) (by omega)) (jlt hW.K423 (by omega)) ?_
      show jWp 208 9 [some (jO m), some (jI (l : Int)), some (jI (k : Int))] [jI (w.1 (m + 423) l), jI (k : Int)] 0 0 w _
      refine jWp.icmp (pc' := 12) mt rfl rfl (b32_id (by omega) (by omega)) (b32_id (by omega) (by omega)) (fun h3 => ?_) (fun h3 => ?_)
      · have h3 : (w.1 (m + 423) l) ≤ (k : Int) := h3
        refine jWp.blk mt 1 ?_
        show jWp 208 41 [some (jO m), some (jI (l : Int)), some (jI (k : Int))] [jI 1] 0 0 w _
        refine jWp.iretz mt rfl ⟨rfl, rfl⟩ rfl (Or.inr rfl) ?_
        exact Or.inl ⟨rfl, rfl, fun x hx => hA x (by omega)⟩
      · have h3 : (k : Int) < (w.1 (m + 423) l) := h3
        refine jWp.blk mt 1 ?_
        show _ ∧ jWp 208 13 [some (jO m), some (jI (l : Int)), some (jI (k : Int))] [jO m] 0 0 w _
        refine ⟨rfl, ?_⟩
        refine jWp.getR (pc' := 16) (o := (m + 424)) mt rfl rfl (jtg hW.K0) hW.R28 ?_
        show jWp 208 16 [some (jO m), some (jI (l : Int)), some (jI (k : Int))] [jO (m + 424)] 0 0 w _
        refine jWp.blk mt 1 ?_
        show jWp 208 17 [some (jO m), some (jI (l : Int)), some (jI (k : Int))] [jI (l : Int), jO (m + 424)] 0 0 w _
        refine jWp.aald (pc' := 18) (j := l) (o := (m + (425 + l))) mt rfl rfl (jrg hW.K424 (by decide) (by decide)) (b32_id (by omega) (by omega)) (jlt hW.K424 (by omega)) (hW.RI l (by omega)) ?_
        show jWp 208 18 [some (jO m), some (jI (l : Int)), some (jI (k : Int))] [jO (m + (425 + l))] 0 0 w _
        refine jWp.blk mt 1 ?_
        show jWp 208 19 [some (jO m), some (jI (l : Int)), some (jI (k : Int))] [jI (k : Int), jO (m + (425 + l))] 0 0 w _
        refine jWp.lald (pc' := 20) (j := k) mt rfl rfl (jtg (hW.KI _ (by omega))) (b32_id (by omega) (by omega)) (jlt (hW.KI _ (by omega)) (by omega)) ?_
        show jWp 208 20 [some (jO m), some (jI (l : Int)), some (jI (k : Int))] [jJ (w.1 (m + (425 + l)) k)] 0 0 w _
        refine jWp.blk mt 2 ?_
        show jWp 208 26 [some (jO m), some (jI (l : Int)), some (jI (k : Int))] [jJ 10000, jJ (-10000), jJ (w.1 (m + (425 + l)) k)] 0 0 w _
        refine jWp.calls (as := [jJ (w.1 (m + (425 + l)) k), jJ (-10000), jJ 10000]) (rest := []) mt rfl rfl rfl rfl ?_
        refine jCall.mono (E_in (b64_id (by omega) (by omega)) (show b64 (-10000) = (-10000) by decide) (show b64 10000 = 10000 by decide)) (fun v9 w9 h9 => ?_)
        rcases h9 with ⟨rfl, h9, h4⟩ | ⟨rfl, h9, h4⟩ <;> subst w9
        · have h4 : (-10000) ≤ (w.1 (m + (425 + l)) k) ∧ (w.1 (m + (425 + l)) k) ≤ 10000 := h4
          show jWp 208 29 [some (jO m), some (jI (l : Int)), some (jI (k : Int))] [jI 1] 0 0 w _
          refine jWp.ifc (b := true) mt rfl (by decide) rfl ?_
          show jWp 208 34 [some (jO m), some (jI (l : Int)), some (jI (k : Int))] [] 0 0 w _
          refine jWp.blk mt 2 ?_
          show jWp 208 2 [some (jO m), some (jI (l : Int)), some (jI ((k : Int) + 1))] [] 0 0 w _
          refine jWp.le (l := [some (jO m), some (jI (l : Int)), some (jI ((k : Int) + 1))]) (by exact ⟨rfl, rfl, rfl, trivial⟩) ?_
          exact ih2 (k + 1) (by omega) (fun x hx => by rcases Nat.lt_or_ge x k with e | e; exact hA x e; rw [show x = k by omega]; omega) (by omega)
        · have h4 : ¬ ((-10000) ≤ (w.1 (m + (425 + l)) k) ∧ (w.1 (m + (425 + l)) k) ≤ 10000) := h4
          show jWp 208 29 [some (jO m), some (jI (l : Int)), some (jI (k : Int))] [jI 0] 0 0 w _
          refine jWp.ifc (b := false) mt rfl (by decide) rfl ?_
          show jWp 208 32 [some (jO m), some (jI (l : Int)), some (jI (k : Int))] [] 0 0 w _
          refine jWp.blk mt 1 ?_
          show jWp 208 33 [some (jO m), some (jI (l : Int)), some (jI (k : Int))] [jI 0] 0 0 w _
          refine jWp.iretz mt rfl ⟨rfl, rfl⟩ rfl (Or.inl rfl) ?_
          exact Or.inr ⟨rfl, rfl, fun g => by have g := g k (by omega); omega⟩
  refine jWp.le (l := [some (jO m), some (jI (l : Int)), some (jI 0)]) (by exact ⟨rfl, rfl, rfl, trivial⟩) ?_
  exact lp1 _ 0 (by omega) (fun x hx => absurd hx (by omega)) (Nat.lt_succ_self _)
theorem zmd_b {law f : Int} {t : Nat → Int} {n s : Nat} (hl0 : 0 ≤ law) (hl6 : law ≤ 6) (hf : 0 ≤ f ∧ f ≤ 9) (hs : zsl t s) (hq : (zO law).toNat ≤ n) (hn : n < s) : (-10000 ≤ zD law t n ∧ zD law t n ≤ 10000) ∧ (-200000000000000000 ≤ zP law f t n ∧ zP law f t n ≤ 200000000000000000) ∧ -100000000 ≤ t n * zD law t n ∧ t n * zD law t n ≤ 100000000 := by
  have hb := zO_b hl0 hl6
  have d : -10000 ≤ zD law t n ∧ zD law t n ≤ 10000 := by
    unfold zD
    split
    · omega
    · exact hs _ (by omega)
  exact ⟨d, zP_b hl0 hl6 hf hq (fun j hj => by have := hs j (by omega); omega), zmulA (hs n hn) d (by decide) (by decide)⟩
set_option maxHeartbeats 4000000 in
set_option maxRecDepth 20000 in
theorem E_isMade {w : jS} {m : Nat} (hW : MW w.2 m) (hz : ∀ x, x < 3 → -1 ≤ w.1 (m + 423) x ∧ w.1 (m + 423) x ≤ 40) (hI : ∀ x, x < 3 → ∀ j, j < 40 → r32 (w.1 (m + (425 + x)) j)) {l : Nat} (hl3 : l < 3) {law f : Int} (hl0 : 0 ≤ law) (hl6 : law ≤ 6) (hf : 0 ≤ f ∧ f ≤ 9) (hs : zsl (w.1 (m + (425 + l))) (w.1 (m + 423) l).toNat) : jCall 209 [jO m, jI (l : Int), jI law, jI f] w (jvb (zmd law f (w.1 (m + (425 + l))) (w.1 (m + 423) l).toNat) w) := by
  have mt : jtb 209 = jT209 := rfl
  have hzl := hz l hl3
  have hzl1 : -1 ≤ (w.1 (m + 423) l) ∧ (w.1 (m + 423) l) ≤ 40 := hzl
  have hob := zO_b hl0 hl6
  show jWp 209 0 [some (jO m), some (jI (l : Int)), some (jI law), some (jI f), none, none, none] [] 0 0 w _
  refine jWp.blk mt 1 ?_
  show jWp 209 1 [some (jO m), some (jI (l : Int)), some (jI law), some (jI f), none, none, none] [jI law] 0 0 w _
  refine jWp.calls (as := [jI law]) (rest := []) mt rfl rfl rfl rfl ?_
  refine jCall.mono (E_order hl0 hl6) (fun v9 w9 h9 => ?_)
  obtain ⟨rfl, h9⟩ := h9
  subst w9
  show jWp 209 4 [some (jO m), some (jI (l : Int)), some (jI law), some (jI f), none, none, none] [jI (zO law)] 0 0 w _
  refine jWp.blk mt 1 ?_
  show jWp 209 6 [some (jO m), some (jI (l : Int)), some (jI law), some (jI f), some (jI (zO law)), none, none] [] 0 0 w _
  have lp1 : ∀ (N : Nat) (n : Nat) (hn : (zO law).toNat ≤ n ∧ n < 50) (hA : ∀ x, (zO law).toNat ≤ x → x < n → zD law (w.1 (m + (425 + l))) x ≠ 0 ∧ (w.1 (m + (425 + l))) x * zD law (w.1 (m + (425 + l))) x = zP law f (w.1 (m + (425 + l))) x), 50 - n < N → jWp 209 6 [some (jO m), some (jI (l : Int)), some (jI law), some (jI f), some (jI (n : Int)), none, none] [] 0 0 w (jvb (zmd law f (w.1 (m + (425 + l))) (w.1 (m + 423) l).toNat) w) := by
    intro N
    induction N with
    | zero => intro n hn hA hm; omega
    | succ N ih2 =>
      intro n hn hA hm
      have hmb : n < (w.1 (m + 423) l).toNat → _ := fun h => zmd_b (t := (w.1 (m + (425 + l)))) (n := n) hl0 hl6 hf hs hn.1 h
      refine jWp.blk mt 2 ?_
      show _ ∧ jWp 209 9 [some (jO m), some (jI (l : Int)), some (jI law), some (jI f), some (jI (n : Int)), none, none] [jO m, jI (n : Int)] 0 0 w _
      refine ⟨rfl, ?_⟩
      refine jWp.getR (pc' := 12) (o := (m + 423)) mt rfl rfl (jtg hW.K0) hW.R27 ?_
      show jWp 209 12 [some (jO m), some (jI (l : Int)), some (jI law), some (jI f), some (jI (n : Int)), none, none] [jO (m + 423), jI (n : Int)] 0 0 w _
      refine jWp.blk mt 1 ?_
      show jWp 209 13 [some (jO m), some (jI (l : Int)), some (jI law), some (jI f), some (jI (n : Int)), none, none] [jI (l : Int), jO (m + 423), jI (n : Int)] 0 0 w _
      refine jWp.iald (pc' := 14) (j := l) mt rfl rfl (jird_of hW.K423) (b32_id (by omega) (by omega)) (jlt hW.K423 (by omega)) ?_
      show jWp 209 14 [some (jO m), some (jI (l : Int)), some (jI law), some (jI f), some (jI (n : Int)), none, none] [jI (w.1 (m + 423) l), jI (n : Int)] 0 0 w _
      refine jWp.icmp (pc' := 17) mt rfl rfl (b32_id (by omega) (by omega)) (b32_id (by omega) (by omega)) (fun h3 => ?_) (fun h3 => ?_)
      · have h3 : (w.1 (m + 423) l) ≤ (n : Int) := h3
        refine jWp.blk mt 1 ?_
        show jWp 209 77 [some (jO m), some (jI (l : Int)), some (jI law), some (jI f), some (jI (n : Int)), none, none] [jI 1] 0 0 w _
        refine jWp.iretz mt rfl ⟨rfl, rfl⟩ rfl (Or.inr rfl) ?_
        exact Or.inl ⟨rfl, rfl, fun x g1 g2 => hA x g1 (by omega)⟩
      · have h3 : (n : Int) < (w.1 (m + 423) l) := h3
        refine jWp.blk mt 1 ?_
        show _ ∧ jWp 209 18 [some (jO m), some (jI (l : Int)), some (jI law), some (jI f), some (jI (n : Int)), none, none] [jO m] 0 0 w _
        refine ⟨rfl, ?_⟩
        refine jWp.getR (pc' := 21) (o := (m + 424)) mt rfl rfl (jtg hW.K0) hW.R28 ?_
        show jWp 209 21 [some (jO m), some (jI (l : Int)), some (jI law), some (jI f), some (jI (n : Int)), none, none] [jO (m + 424)] 0 0 w _
        refine jWp.blk mt 1 ?_
        show jWp 209 22 [some (jO m), some (jI (l : Int)), some (jI law), some (jI f), some (jI (n : Int)), none, none] [jI (l : Int), jO (m + 424)] 0 0 w _
        refine jWp.aald (pc' := 23) (j := l) (o := (m + (425 + l))) mt rfl rfl (jrg hW.K424 (by decide) (by decide)) (b32_id (by omega) (by omega)) (jlt hW.K424 (by omega)) (hW.RI l (by omega)) ?_
        show jWp 209 23 [some (jO m), some (jI (l : Int)), some (jI law), some (jI f), some (jI (n : Int)), none, none] [jO (m + (425 + l))] 0 0 w _
        refine jWp.blk mt 2 ?_
        show jWp 209 26 [some (jO m), some (jI (l : Int)), some (jI law), some (jI f), some (jI (n : Int)), none, none] [jI (n : Int), jI law, jO (m + (425 + l))] 0 0 w _
        refine jWp.calls (as := [jO (m + (425 + l)), jI law, jI (n : Int)]) (rest := []) mt rfl rfl rfl rfl ?_
        refine jCall.mono (E_below (w := w) (a := m + (425 + l)) (n := n) (len := 40) (hW.KI l hl3) hl0 hl6 (by omega) (by omega) (by omega)) (fun v9 w9 h9 => ?_)
        obtain ⟨rfl, h9⟩ := h9
        subst w9
        show jWp 209 29 [some (jO m), some (jI (l : Int)), some (jI law), some (jI f), some (jI (n : Int)), none, none] [jJ (zD law (w.1 (m + (425 + l))) n)] 0 0 w _
        refine jWp.blk mt 3 ?_
        show jWp 209 34 [some (jO m), some (jI (l : Int)), some (jI law), some (jI f), some (jI (n : Int)), some (jJ (zD law (w.1 (m + (425 + l))) n)), none] [jJ 0, jJ (zD law (w.1 (m + (425 + l))) n)] 0 0 w _
        refine jWp.lcmp (pc' := 38) mt rfl rfl rfl (b64_id (by omega) (by omega)) (show b64 0 = 0 by decide) (fun h4 => ?_) (fun h4 => ?_)
        · have h4 : (zD law (w.1 (m + (425 + l))) n) = 0 := h4
          refine jWp.blk mt 1 ?_
          show jWp 209 69 [some (jO m), some (jI (l : Int)), some (jI law), some (jI f), some (jI (n : Int)), some (jJ (zD law (w.1 (m + (425 + l))) n)), none] [jI 0] 0 0 w _
          refine jWp.iretz mt rfl ⟨rfl, rfl⟩ rfl (Or.inl rfl) ?_
          exact Or.inr ⟨rfl, rfl, fun g => by have g := g n hn.1 (by omega); omega⟩
        · have h4 : (zD law (w.1 (m + (425 + l))) n) ≠ 0 := h4
          refine jWp.blk mt 1 ?_
          show _ ∧ jWp 209 39 [some (jO m), some (jI (l : Int)), some (jI law), some (jI f), some (jI (n : Int)), some (jJ (zD law (w.1 (m + (425 + l))) n)), none] [jO m] 0 0 w _
          refine ⟨rfl, ?_⟩
          refine jWp.getR (pc' := 42) (o := (m + 424)) mt rfl rfl (jtg hW.K0) hW.R28 ?_
          show jWp 209 42 [some (jO m), some (jI (l : Int)), some (jI law), some (jI f), some (jI (n : Int)), some (jJ (zD law (w.1 (m + (425 + l))) n)), none] [jO (m + 424)] 0 0 w _
          refine jWp.blk mt 1 ?_
          show jWp 209 43 [some (jO m), some (jI (l : Int)), some (jI law), some (jI f), some (jI (n : Int)), some (jJ (zD law (w.1 (m + (425 + l))) n)), none] [jI (l : Int), jO (m + 424)] 0 0 w _
          refine jWp.aald (pc' := 44) (j := l) (o := (m + (425 + l))) mt rfl rfl (jrg hW.K424 (by decide) (by decide)) (b32_id (by omega) (by omega)) (jlt hW.K424 (by omega)) (hW.RI l (by omega)) ?_
          show jWp 209 44 [some (jO m), some (jI (l : Int)), some (jI law), some (jI f), some (jI (n : Int)), some (jJ (zD law (w.1 (m + (425 + l))) n)), none] [jO (m + (425 + l))] 0 0 w _
          refine jWp.blk mt 1 ?_
          show jWp 209 46 [some (jO m), some (jI (l : Int)), some (jI law), some (jI f), some (jI (n : Int)), some (jJ (zD law (w.1 (m + (425 + l))) n)), none] [jI (n : Int), jO (m + (425 + l))] 0 0 w _
          refine jWp.lald (pc' := 47) (j := n) mt rfl rfl (jtg (hW.KI _ (by omega))) (b32_id (by omega) (by omega)) (jlt (hW.KI _ (by omega)) (by omega)) ?_
          show jWp 209 47 [some (jO m), some (jI (l : Int)), some (jI law), some (jI f), some (jI (n : Int)), some (jJ (zD law (w.1 (m + (425 + l))) n)), none] [jJ (w.1 (m + (425 + l)) n)] 0 0 w _
          refine jWp.blk mt 3 ?_
          show _ ∧ jWp 209 51 [some (jO m), some (jI (l : Int)), some (jI law), some (jI f), some (jI (n : Int)), some (jJ (zD law (w.1 (m + (425 + l))) n)), none] [jO m, jJ ((w.1 (m + (425 + l)) n) * (zD law (w.1 (m + (425 + l))) n))] 0 0 w _
          refine ⟨rfl, ?_⟩
          refine jWp.getR (pc' := 54) (o := (m + 424)) mt rfl rfl (jtg hW.K0) hW.R28 ?_
          show jWp 209 54 [some (jO m), some (jI (l : Int)), some (jI law), some (jI f), some (jI (n : Int)), some (jJ (zD law (w.1 (m + (425 + l))) n)), none] [jO (m + 424), jJ ((w.1 (m + (425 + l)) n) * (zD law (w.1 (m + (425 + l))) n))] 0 0 w _
          refine jWp.blk mt 1 ?_
          show jWp 209 55 [some (jO m), some (jI (l : Int)), some (jI law), some (jI f), some (jI (n : Int)), some (jJ (zD law (w.1 (m + (425 + l))) n)), none] [jI (l : Int), jO (m + 424), jJ ((w.1 (m + (425 + l)) n) * (zD law (w.1 (m + (425 + l))) n))] 0 0 w _
          refine jWp.aald (pc' := 56) (j := l) (o := (m + (425 + l))) mt rfl rfl (jrg hW.K424 (by decide) (by decide)) (b32_id (by omega) (by omega)) (jlt hW.K424 (by omega)) (hW.RI l (by omega)) ?_
          show jWp 209 56 [some (jO m), some (jI (l : Int)), some (jI law), some (jI f), some (jI (n : Int)), some (jJ (zD law (w.1 (m + (425 + l))) n)), none] [jO (m + (425 + l)), jJ ((w.1 (m + (425 + l)) n) * (zD law (w.1 (m + (425 + l))) n))] 0 0 w _
          refine jWp.blk mt 2 ?_
          show jWp 209 58 [some (jO m), some (jI (l : Int)), some (jI law), some (jI f), some (jI (n : Int)), some (jJ (zD law (w.1 (m + (425 + l))) n)), none] [jI f, jI law, jO (m + (425 + l)), jJ ((w.1 (m + (425 + l)) n) * (zD law (w.1 (m + (425 + l))) n))] 0 0 w _
          refine jWp.i2l (pc' := 59) mt rfl rfl (b32_id (by omega) (by omega)) ?_
          show jWp 209 59 [some (jO m), some (jI (l : Int)), some (jI law), some (jI f), some (jI (n : Int)), some (jJ (zD law (w.1 (m + (425 + l))) n)), none] [jJ f, jI law, jO (m + (425 + l)), jJ ((w.1 (m + (425 + l)) n) * (zD law (w.1 (m + (425 + l))) n))] 0 0 w _
          refine jWp.blk mt 1 ?_
          show jWp 209 61 [some (jO m), some (jI (l : Int)), some (jI law), some (jI f), some (jI (n : Int)), some (jJ (zD law (w.1 (m + (425 + l))) n)), none] [jI (n : Int), jJ f, jI law, jO (m + (425 + l)), jJ ((w.1 (m + (425 + l)) n) * (zD law (w.1 (m + (425 + l))) n))] 0 0 w _
          refine jWp.calls (as := [jO (m + (425 + l)), jI law, jJ f, jI (n : Int)]) (rest := [jJ ((w.1 (m + (425 + l)) n) * (zD law (w.1 (m + (425 + l))) n))]) mt rfl rfl rfl rfl ?_
          refine jCall.mono (E_above (w := w) (a := m + (425 + l)) (n := n) (len := 40) (hW.KI l hl3) hl0 hl6 (by omega) (by omega) (by omega)) (fun v9 w9 h9 => ?_)
          obtain ⟨rfl, h9⟩ := h9
          subst w9
          show jWp 209 64 [some (jO m), some (jI (l : Int)), some (jI law), some (jI f), some (jI (n : Int)), some (jJ (zD law (w.1 (m + (425 + l))) n)), none] [jJ (zP law f (w.1 (m + (425 + l))) n), jJ ((w.1 (m + (425 + l)) n) * (zD law (w.1 (m + (425 + l))) n))] 0 0 w _
          refine jWp.lcmp (pc' := 68) mt rfl rfl rfl (b64_id (by omega) (by omega)) (b64_id (by omega) (by omega)) (fun h5 => ?_) (fun h5 => ?_)
          · have h5 : ((w.1 (m + (425 + l)) n) * (zD law (w.1 (m + (425 + l))) n)) = (zP law f (w.1 (m + (425 + l))) n) := h5
            refine jWp.blk mt 2 ?_
            show jWp 209 6 [some (jO m), some (jI (l : Int)), some (jI law), some (jI f), some (jI ((n : Int) + 1)), some (jJ (zD law (w.1 (m + (425 + l))) n)), none] [] 0 0 w _
            refine jWp.le (l := [some (jO m), some (jI (l : Int)), some (jI law), some (jI f), some (jI ((n : Int) + 1)), none, none]) (by exact ⟨rfl, rfl, rfl, rfl, rfl, trivial⟩) ?_
            exact ih2 (n + 1) (by omega) (fun x g1 g2 => by rcases Nat.lt_or_ge x n with e | e; exact hA x g1 e; rw [show x = n by omega]; exact ⟨by omega, by omega⟩) (by omega)
          · have h5 : ((w.1 (m + (425 + l)) n) * (zD law (w.1 (m + (425 + l))) n)) ≠ (zP law f (w.1 (m + (425 + l))) n) := h5
            refine jWp.blk mt 1 ?_
            show jWp 209 69 [some (jO m), some (jI (l : Int)), some (jI law), some (jI f), some (jI (n : Int)), some (jJ (zD law (w.1 (m + (425 + l))) n)), none] [jI 0] 0 0 w _
            refine jWp.iretz mt rfl ⟨rfl, rfl⟩ rfl (Or.inl rfl) ?_
            exact Or.inr ⟨rfl, rfl, fun g => by have g := g n hn.1 (by omega); omega⟩
  refine jWp.le (l := [some (jO m), some (jI (l : Int)), some (jI law), some (jI f), some (jI (zO law)), none, none]) (by exact ⟨rfl, rfl, rfl, rfl, rfl, trivial⟩) ?_
  obtain ⟨o, ho⟩ : ∃ o : Nat, zO law = (o : Int) := ⟨(zO law).toNat, by omega⟩
  rw [ho]
  exact lp1 _ o (by omega) (fun x g1 g2 => absurd g1 (by omega)) (Nat.lt_succ_self _)
set_option maxHeartbeats 4000000 in
set_option maxRecDepth 20000 in
theorem E_laws {w : jS} {m : Nat} (hW : MW w.2 m) (hz : ∀ x, x < 3 → -1 ≤ w.1 (m + 423) x ∧ w.1 (m + 423) x ≤ 40) (hI : ∀ x, x < 3 → ∀ j, j < 40 → r32 (w.1 (m + (425 + x)) j)) {l f : Int} (hrl : r32 l) (hrf : r32 f) : jCall 210 [jO m, jI l, jI f] w (fun v w1 => ((¬ (0 ≤ l ∧ l ≤ 2)) → jno w m 1 (jI (-1)) v w1) ∧ (¬ (¬ (0 ≤ l ∧ l ≤ 2)) → (f < 0) → jno w m 4 (jI (-4)) v w1) ∧ (¬ (¬ (0 ≤ l ∧ l ≤ 2)) → ¬ (f < 0) → (9 < f) → jno w m 6 (jI (-6)) v w1) ∧ (¬ (¬ (0 ≤ l ∧ l ≤ 2)) → ¬ (f < 0) → ¬ (9 < f) → ((w.1 (m + 423) l.toNat) < 0) → v = some (jI (-11)) ∧ w1 = w) ∧ (¬ (¬ (0 ≤ l ∧ l ≤ 2)) → ¬ (f < 0) → ¬ (9 < f) → ¬ ((w.1 (m + 423) l.toNat) < 0) → (¬ zsl (w.1 (m + (425 + l.toNat))) (w.1 (m + 423) l.toNat).toNat) → jno w m 3 (jI (-3)) v w1) ∧ (¬ (¬ (0 ≤ l ∧ l ≤ 2)) → ¬ (f < 0) → ¬ (9 < f) → ¬ ((w.1 (m + 423) l.toNat) < 0) → ¬ (¬ zsl (w.1 (m + (425 + l.toNat))) (w.1 (m + 423) l.toNat).toNat) → v = some (jI (zbt (fun x : Nat => zmd (x : Int) f (w.1 (m + (425 + l.toNat))) (w.1 (m + 423) l.toNat).toNat) 7)) ∧ w1 = w)) := by
  have mt : jtb 210 = jT210 := rfl
  have hrl1 : -2147483648 ≤ l ∧ l < 2147483648 := hrl
  have hrf1 : -2147483648 ≤ f ∧ f < 2147483648 := hrf
  show jWp 210 0 [some (jO m), some (jI l), some (jI f), none, none] [] 0 0 w _
  refine jWp.blk mt 1 ?_
  show jWp 210 1 [some (jO m), some (jI l), some (jI f), none, none] [jI l] 0 0 w _
  refine jWp.calls (as := [jI l]) (rest := []) mt rfl rfl rfl rfl ?_
  refine jCall.mono (E_isList hrl) (fun v9 w9 h9 => ?_)
  rcases h9 with ⟨rfl, h9, h1⟩ | ⟨rfl, h9, h1⟩ <;> subst w9
  · have h1 : 0 ≤ l ∧ l ≤ 2 := h1
    show jWp 210 4 [some (jO m), some (jI l), some (jI f), none, none] [jI 1] 0 0 w _
    obtain ⟨l1, rfl⟩ : ∃ l1 : Nat, l = (l1 : Int) := ⟨l.toNat, by omega⟩
    show jWp 210 4 [some (jO m), some (jI (l1 : Int)), some (jI f), none, none] [jI 1] 0 0 w _
    have hz2 : -1 ≤ w.1 (m + 423) l1 ∧ w.1 (m + 423) l1 ≤ 40 := hz l1 (by omega)
    refine jWp.ifc (b := true) mt rfl (by decide) rfl ?_
    show jWp 210 13 [some (jO m), some (jI (l1 : Int)), some (jI f), none, none] [] 0 0 w _
    refine jWp.blk mt 1 ?_
    show jWp 210 14 [some (jO m), some (jI (l1 : Int)), some (jI f), none, none] [jI f] 0 0 w _
    refine jWp.ifz (pc' := 17) mt rfl rfl (b32_id (by omega) (by omega)) (fun h2 => ?_) (fun h2 => ?_)
    · have h2 : 0 ≤ f := h2
      refine jWp.blk mt 2 ?_
      show jWp 210 27 [some (jO m), some (jI (l1 : Int)), some (jI f), none, none] [jI 9, jI f] 0 0 w _
      refine jWp.icmp (pc' := 30) mt rfl rfl (b32_id (by omega) (by omega)) (show b32 9 = 9 by decide) (fun h3 => ?_) (fun h3 => ?_)
      · have h3 : f ≤ 9 := h3
        refine jWp.blk mt 1 ?_
        show _ ∧ jWp 210 38 [some (jO m), some (jI (l1 : Int)), some (jI f), none, none] [jO m] 0 0 w _
        refine ⟨rfl, ?_⟩
        refine jWp.getR (pc' := 41) (o := (m + 423)) mt rfl rfl (jtg hW.K0) hW.R27 ?_
        show jWp 210 41 [some (jO m), some (jI (l1 : Int)), some (jI f), none, none] [jO (m + 423)] 0 0 w _
        refine jWp.blk mt 1 ?_
        show jWp 210 42 [some (jO m), some (jI (l1 : Int)), some (jI f), none, none] [jI (l1 : Int), jO (m + 423)] 0 0 w _
        refine jWp.iald (pc' := 43) (j := l1) mt rfl rfl (jird_of hW.K423) (b32_id (by omega) (by omega)) (jlt hW.K423 (by omega)) ?_
        show jWp 210 43 [some (jO m), some (jI (l1 : Int)), some (jI f), none, none] [jI (w.1 (m + 423) l1)] 0 0 w _
        refine jWp.ifz (pc' := 46) mt rfl rfl (b32_id (by omega) (by omega)) (fun h4 => ?_) (fun h4 => ?_)
        · have h4 : 0 ≤ (w.1 (m + 423) l1) := h4
          refine jWp.blk mt 2 ?_
          show _ ∧ jWp 210 51 [some (jO m), some (jI (l1 : Int)), some (jI f), none, none] [jI (l1 : Int), jO m] 0 0 w _
          refine ⟨rfl, ?_⟩
          refine jWp.callv (as := [jO m, jI (l1 : Int)]) (rest := []) mt rfl rfl rfl ⟨rfl, jtg hW.K0⟩ ?_
          refine jCall.mono (E_areSmall (l := l1) hW hz hI (by omega)) (fun v9 w9 h9 => ?_)
          rcases h9 with ⟨rfl, h9, h5⟩ | ⟨rfl, h9, h5⟩ <;> subst w9
          · have h5 : zsl (w.1 (m + (425 + l1))) (w.1 (m + 423) l1).toNat := h5
            show jWp 210 54 [some (jO m), some (jI (l1 : Int)), some (jI f), none, none] [jI 1] 0 0 w _
            refine jWp.ifc (b := true) mt rfl (by decide) rfl ?_
            show jWp 210 64 [some (jO m), some (jI (l1 : Int)), some (jI f), none, none] [] 0 0 w _
            refine jWp.blk mt 4 ?_
            show jWp 210 69 [some (jO m), some (jI (l1 : Int)), some (jI f), some (jI 0), some (jI 0)] [] 0 0 w _
            have lp6 : ∀ (N : Nat) (k : Nat) (b : Int) (hk : k ≤ 7) (hb : b = zbt (fun x : Nat => zmd (x : Int) f (w.1 (m + (425 + l1))) (w.1 (m + 423) l1).toNat) k), 7 - k < N → jWp 210 69 [some (jO m), some (jI (l1 : Int)), some (jI f), some (jI b), some (jI (k : Int))] [] 0 0 w (fun v w1 => ((¬ (0 ≤ (l1 : Int) ∧ (l1 : Int) ≤ 2)) → jno w m 1 (jI (-1)) v w1) ∧ (¬ (¬ (0 ≤ (l1 : Int) ∧ (l1 : Int) ≤ 2)) → (f < 0) → jno w m 4 (jI (-4)) v w1) ∧ (¬ (¬ (0 ≤ (l1 : Int) ∧ (l1 : Int) ≤ 2)) → ¬ (f < 0) → (9 < f) → jno w m 6 (jI (-6)) v w1) ∧ (¬ (¬ (0 ≤ (l1 : Int) ∧ (l1 : Int) ≤ 2)) → ¬ (f < 0) → ¬ (9 < f) → ((w.1 (m + 423) (l1 : Int).toNat) < 0) → v = some (jI (-11)) ∧ w1 = w) ∧ (¬ (¬ (0 ≤ (l1 : Int) ∧ (l1 : Int) ≤ 2)) → ¬ (f < 0) → ¬ (9 < f) → ¬ ((w.1 (m + 423) (l1 : Int).toNat) < 0) → (¬ zsl (w.1 (m + (425 + (l1 : Int).toNat))) (w.1 (m + 423) (l1 : Int).toNat).toNat) → jno w m 3 (jI (-3)) v w1) ∧ (¬ (¬ (0 ≤ (l1 : Int) ∧ (l1 : Int) ≤ 2)) → ¬ (f < 0) → ¬ (9 < f) → ¬ ((w.1 (m + 423) (l1 : Int).toNat) < 0) → ¬ (¬ zsl (w.1 (m + (425 + (l1 : Int).toNat))) (w.1 (m + 423) (l1 : Int).toNat).toNat) → v = some (jI (zbt (fun x : Nat => zmd (x : Int) f (w.1 (m + (425 + (l1 : Int).toNat))) (w.1 (m + 423) (l1 : Int).toNat).toNat) 7)) ∧ w1 = w)) := by
              intro N
              induction N with
              | zero => intro k b hk hb hm; omega
              | succ N ih7 =>
                intro k b hk hb hm
                refine jWp.blk mt 2 ?_
                show jWp 210 73 [some (jO m), some (jI (l1 : Int)), some (jI f), some (jI b), some (jI (k : Int))] [jI 7, jI (k : Int)] 0 0 w _
                refine jWp.icmp (pc' := 76) mt rfl rfl (b32_id (by omega) (by omega)) (show b32 7 = 7 by decide) (fun h8 => ?_) (fun h8 => ?_)
                · have h8 : 7 ≤ (k : Int) := h8
                  refine jWp.blk mt 1 ?_
                  show jWp 210 105 [some (jO m), some (jI (l1 : Int)), some (jI f), some (jI b), some (jI (k : Int))] [jI b] 0 0 w _
                  refine jWp.ireti mt rfl ⟨rfl, rfl⟩ rfl ?_
                  try rw [show ((l1 : Nat) : Int).toNat = l1 from rfl]
                  refine ⟨fun c0 => ?_, fun c0 c1 => ?_, fun c0 c1 c2 => ?_, fun c0 c1 c2 c3 => ?_, fun c0 c1 c2 c3 c4 => ?_, fun c0 c1 c2 c3 c4 => ?_⟩
                  all_goals first
                  | (exfalso; omega)
                  | contradiction
                  | (exfalso; exact absurd (by assumption) c4)
                  | (exfalso; exact absurd (by assumption) c3)
                  | exact ⟨rfl, rfl⟩
                  | exact ⟨by rw [hb, show k = 7 by omega], rfl⟩
                · have h8 : (k : Int) < 7 := h8
                  refine jWp.blk mt 5 ?_
                  show _ ∧ jWp 210 82 [some (jO m), some (jI (l1 : Int)), some (jI f), some (jI b), some (jI (k : Int))] [jI f, jI (k : Int), jI (l1 : Int), jO m, jI b] 0 0 w _
                  refine ⟨rfl, ?_⟩
                  refine jWp.callv (as := [jO m, jI (l1 : Int), jI (k : Int), jI f]) (rest := [jI b]) mt rfl rfl rfl ⟨rfl, jtg hW.K0⟩ ?_
                  refine jCall.mono (E_isMade (l := l1) hW hz hI (by omega) (by omega) (by omega) (by omega) (by assumption)) (fun v9 w9 h9 => ?_)
                  rcases h9 with ⟨rfl, h9, h9⟩ | ⟨rfl, h9, h9⟩ <;> subst w9
                  · have h9 : zmd (k : Int) f (w.1 (m + (425 + l1))) (w.1 (m + 423) l1).toNat := h9
                    show jWp 210 85 [some (jO m), some (jI (l1 : Int)), some (jI f), some (jI b), some (jI (k : Int))] [jI 1, jI b] 0 0 w _
                    refine jWp.ifc (b := false) mt rfl (by decide) rfl ?_
                    show jWp 210 88 [some (jO m), some (jI (l1 : Int)), some (jI f), some (jI b), some (jI (k : Int))] [jI b] 0 0 w _
                    refine jWp.blk mt 8 ?_
                    show jWp 210 69 [some (jO m), some (jI (l1 : Int)), some (jI f), some (jI (jor b (jshl 1 (k : Int)))), some (jI ((k : Int) + 1))] [] 0 0 w _
                    refine jWp.le (l := [some (jO m), some (jI (l1 : Int)), some (jI f), some (jI (jor b (jshl 1 (k : Int)))), some (jI ((k : Int) + 1))]) (by exact ⟨rfl, rfl, rfl, rfl, rfl, trivial⟩) ?_
                    exact ih7 (k + 1) _ (by omega) (by rw [hb, zbt_t (p := (fun x : Nat => zmd (x : Int) f (w.1 (m + (425 + l1))) (w.1 (m + 423) l1).toNat)) (by assumption)]) (by omega)
                  · have h9 : ¬ (zmd (k : Int) f (w.1 (m + (425 + l1))) (w.1 (m + 423) l1).toNat) := h9
                    show jWp 210 85 [some (jO m), some (jI (l1 : Int)), some (jI f), some (jI b), some (jI (k : Int))] [jI 0, jI b] 0 0 w _
                    refine jWp.ifc (b := true) mt rfl (by decide) rfl ?_
                    show jWp 210 95 [some (jO m), some (jI (l1 : Int)), some (jI f), some (jI b), some (jI (k : Int))] [jI b] 0 0 w _
                    refine jWp.blk mt 5 ?_
                    show jWp 210 69 [some (jO m), some (jI (l1 : Int)), some (jI f), some (jI (jor b 0)), some (jI ((k : Int) + 1))] [] 0 0 w _
                    refine jWp.le (l := [some (jO m), some (jI (l1 : Int)), some (jI f), some (jI (jor b 0)), some (jI ((k : Int) + 1))]) (by exact ⟨rfl, rfl, rfl, rfl, rfl, trivial⟩) ?_
                    exact ih7 (k + 1) _ (by omega) (by rw [hb, jor_0 (zbt_r _ _), zbt_f (p := (fun x : Nat => zmd (x : Int) f (w.1 (m + (425 + l1))) (w.1 (m + 423) l1).toNat)) (by assumption)]) (by omega)
            refine jWp.le (l := [some (jO m), some (jI (l1 : Int)), some (jI f), some (jI 0), some (jI 0)]) (by exact ⟨rfl, rfl, rfl, rfl, rfl, trivial⟩) ?_
            exact lp6 _ 0 0 (by omega) rfl (Nat.lt_succ_self _)
          · have h5 : ¬ (zsl (w.1 (m + (425 + l1))) (w.1 (m + 423) l1).toNat) := h5
            show jWp 210 54 [some (jO m), some (jI (l1 : Int)), some (jI f), none, none] [jI 0] 0 0 w _
            refine jWp.ifc (b := false) mt rfl (by decide) rfl ?_
            show jWp 210 57 [some (jO m), some (jI (l1 : Int)), some (jI f), none, none] [] 0 0 w _
            refine jWp.blk mt 2 ?_
            show _ ∧ jWp 210 60 [some (jO m), some (jI (l1 : Int)), some (jI f), none, none] [jI (-3), jO m] 0 0 w _
            refine ⟨rfl, ?_⟩
            refine jWp.callv (as := [jO m, jI (-3)]) (rest := []) mt rfl rfl rfl ⟨rfl, jtg hW.K0⟩ ?_
            refine jCall.mono (E_refuses (w := w) (j := 3) hW (by decide) (by decide)) (fun v9 w9 h9 => ?_)
            obtain ⟨rfl, h9⟩ := h9
            subst h9
            show jWp 210 63 [some (jO m), some (jI (l1 : Int)), some (jI f), none, none] [jI (-3)] 0 0 (jW w (m + 3) 3 ((w.1 (m + 3) 3) + 1)) _
            refine jWp.ireti mt rfl ⟨rfl, rfl⟩ rfl ?_
            try rw [show ((l1 : Nat) : Int).toNat = l1 from rfl]
            refine ⟨fun c0 => ?_, fun c0 c1 => ?_, fun c0 c1 c2 => ?_, fun c0 c1 c2 c3 => ?_, fun c0 c1 c2 c3 c4 => ?_, fun c0 c1 c2 c3 c4 => ?_⟩
            all_goals first
            | (exfalso; omega)
            | contradiction
            | (exfalso; exact absurd (by assumption) c4)
            | (exfalso; exact absurd (by assumption) c3)
            | exact ⟨rfl, rfl⟩
            | exact ⟨by rw [hb, show k = 7 by omega], rfl⟩
        · have h4 : (w.1 (m + 423) l1) < 0 := h4
          refine jWp.blk mt 1 ?_
          show jWp 210 48 [some (jO m), some (jI (l1 : Int)), some (jI f), none, none] [jI (-11)] 0 0 w _
          refine jWp.ireti mt rfl ⟨rfl, rfl⟩ rfl ?_
          try rw [show ((l1 : Nat) : Int).toNat = l1 from rfl]
          refine ⟨fun c0 => ?_, fun c0 c1 => ?_, fun c0 c1 c2 => ?_, fun c0 c1 c2 c3 => ?_, fun c0 c1 c2 c3 c4 => ?_, fun c0 c1 c2 c3 c4 => ?_⟩
          all_goals first
          | (exfalso; omega)
          | contradiction
          | (exfalso; exact absurd (by assumption) c4)
          | (exfalso; exact absurd (by assumption) c3)
          | exact ⟨rfl, rfl⟩
          | exact ⟨by rw [hb, show k = 7 by omega], rfl⟩
      · have h3 : 9 < f := h3
        refine jWp.blk mt 2 ?_
        show _ ∧ jWp 210 33 [some (jO m), some (jI (l1 : Int)), some (jI f), none, none] [jI (-6), jO m] 0 0 w _
        refine ⟨rfl, ?_⟩
        refine jWp.callv (as := [jO m, jI (-6)]) (rest := []) mt rfl rfl rfl ⟨rfl, jtg hW.K0⟩ ?_
        refine jCall.mono (E_refuses (w := w) (j := 6) hW (by decide) (by decide)) (fun v9 w9 h9 => ?_)
        obtain ⟨rfl, h9⟩ := h9
        subst h9
        show jWp 210 36 [some (jO m), some (jI (l1 : Int)), some (jI f), none, none] [jI (-6)] 0 0 (jW w (m + 3) 6 ((w.1 (m + 3) 6) + 1)) _
        refine jWp.ireti mt rfl ⟨rfl, rfl⟩ rfl ?_
        try rw [show ((l1 : Nat) : Int).toNat = l1 from rfl]
        refine ⟨fun c0 => ?_, fun c0 c1 => ?_, fun c0 c1 c2 => ?_, fun c0 c1 c2 c3 => ?_, fun c0 c1 c2 c3 c4 => ?_, fun c0 c1 c2 c3 c4 => ?_⟩
        all_goals first
        | (exfalso; omega)
        | contradiction
        | (exfalso; exact absurd (by assumption) c4)
        | (exfalso; exact absurd (by assumption) c3)
        | exact ⟨rfl, rfl⟩
        | exact ⟨by rw [hb, show k = 7 by omega], rfl⟩
    · have h2 : f < 0 := h2
      refine jWp.blk mt 2 ?_
      show _ ∧ jWp 210 20 [some (jO m), some (jI (l1 : Int)), some (jI f), none, none] [jI (-4), jO m] 0 0 w _
      refine ⟨rfl, ?_⟩
      refine jWp.callv (as := [jO m, jI (-4)]) (rest := []) mt rfl rfl rfl ⟨rfl, jtg hW.K0⟩ ?_
      refine jCall.mono (E_refuses (w := w) (j := 4) hW (by decide) (by decide)) (fun v9 w9 h9 => ?_)
      obtain ⟨rfl, h9⟩ := h9
      subst h9
      show jWp 210 23 [some (jO m), some (jI (l1 : Int)), some (jI f), none, none] [jI (-4)] 0 0 (jW w (m + 3) 4 ((w.1 (m + 3) 4) + 1)) _
      refine jWp.ireti mt rfl ⟨rfl, rfl⟩ rfl ?_
      try rw [show ((l1 : Nat) : Int).toNat = l1 from rfl]
      refine ⟨fun c0 => ?_, fun c0 c1 => ?_, fun c0 c1 c2 => ?_, fun c0 c1 c2 c3 => ?_, fun c0 c1 c2 c3 c4 => ?_, fun c0 c1 c2 c3 c4 => ?_⟩
      all_goals first
      | (exfalso; omega)
      | contradiction
      | (exfalso; exact absurd (by assumption) c4)
      | (exfalso; exact absurd (by assumption) c3)
      | exact ⟨rfl, rfl⟩
      | exact ⟨by rw [hb, show k = 7 by omega], rfl⟩
  · have h1 : ¬ (0 ≤ l ∧ l ≤ 2) := h1
    show jWp 210 4 [some (jO m), some (jI l), some (jI f), none, none] [jI 0] 0 0 w _
    refine jWp.ifc (b := false) mt rfl (by decide) rfl ?_
    show jWp 210 7 [some (jO m), some (jI l), some (jI f), none, none] [] 0 0 w _
    refine jWp.blk mt 2 ?_
    show _ ∧ jWp 210 9 [some (jO m), some (jI l), some (jI f), none, none] [jI (-1), jO m] 0 0 w _
    refine ⟨rfl, ?_⟩
    refine jWp.callv (as := [jO m, jI (-1)]) (rest := []) mt rfl rfl rfl ⟨rfl, jtg hW.K0⟩ ?_
    refine jCall.mono (E_refuses (w := w) (j := 1) hW (by decide) (by decide)) (fun v9 w9 h9 => ?_)
    obtain ⟨rfl, h9⟩ := h9
    subst h9
    show jWp 210 12 [some (jO m), some (jI l), some (jI f), none, none] [jI (-1)] 0 0 (jW w (m + 3) 1 ((w.1 (m + 3) 1) + 1)) _
    refine jWp.ireti mt rfl ⟨rfl, rfl⟩ rfl ?_
    try rw [show ((l1 : Nat) : Int).toNat = l1 from rfl]
    refine ⟨fun c0 => ?_, fun c0 c1 => ?_, fun c0 c1 c2 => ?_, fun c0 c1 c2 c3 => ?_, fun c0 c1 c2 c3 c4 => ?_, fun c0 c1 c2 c3 c4 => ?_⟩
    all_goals first
    | (exfalso; omega)
    | contradiction
    | (exfalso; exact absurd (by assumption) c4)
    | (exfalso; exact absurd (by assumption) c3)
    | exact ⟨rfl, rfl⟩
    | exact ⟨by rw [hb, show k = 7 by omega], rfl⟩
set_option maxHeartbeats 4000000 in
set_option maxRecDepth 20000 in
theorem E_figures {w : jS} {m : Nat} (hW : MW w.2 m) (hz : ∀ x, x < 3 → -1 ≤ w.1 (m + 423) x ∧ w.1 (m + 423) x ≤ 40) (hI : ∀ x, x < 3 → ∀ j, j < 40 → r32 (w.1 (m + (425 + x)) j)) {l a : Int} (hrl : r32 l) (hra : r32 a) : jCall 211 [jO m, jI l, jI a] w (fun v w1 => ((¬ (0 ≤ l ∧ l ≤ 2)) → jno w m 1 (jI (-1)) v w1) ∧ (¬ (¬ (0 ≤ l ∧ l ≤ 2)) → (¬ (0 ≤ a ∧ a ≤ 6)) → jno w m 2 (jI (-2)) v w1) ∧ (¬ (¬ (0 ≤ l ∧ l ≤ 2)) → ¬ (¬ (0 ≤ a ∧ a ≤ 6)) → ((w.1 (m + 423) l.toNat) < 0) → v = some (jI (-11)) ∧ w1 = w) ∧ (¬ (¬ (0 ≤ l ∧ l ≤ 2)) → ¬ (¬ (0 ≤ a ∧ a ≤ 6)) → ¬ ((w.1 (m + 423) l.toNat) < 0) → (¬ zsl (w.1 (m + (425 + l.toNat))) (w.1 (m + 423) l.toNat).toNat) → jno w m 3 (jI (-3)) v w1) ∧ (¬ (¬ (0 ≤ l ∧ l ≤ 2)) → ¬ (¬ (0 ≤ a ∧ a ≤ 6)) → ¬ ((w.1 (m + 423) l.toNat) < 0) → ¬ (¬ zsl (w.1 (m + (425 + l.toNat))) (w.1 (m + 423) l.toNat).toNat) → v = some (jI (zbt (fun x : Nat => zmd a (x : Int) (w.1 (m + (425 + l.toNat))) (w.1 (m + 423) l.toNat).toNat) 10)) ∧ w1 = w)) := by
  have mt : jtb 211 = jT211 := rfl
  have hrl1 : -2147483648 ≤ l ∧ l < 2147483648 := hrl
  have hra1 : -2147483648 ≤ a ∧ a < 2147483648 := hra
  show jWp 211 0 [some (jO m), some (jI l), some (jI a), none, none] [] 0 0 w _
  refine jWp.blk mt 1 ?_
  show jWp 211 1 [some (jO m), some (jI l), some (jI a), none, none] [jI l] 0 0 w _
  refine jWp.calls (as := [jI l]) (rest := []) mt rfl rfl rfl rfl ?_
  refine jCall.mono (E_isList hrl) (fun v9 w9 h9 => ?_)
  rcases h9 with ⟨rfl, h9, h1⟩ | ⟨rfl, h9, h1⟩ <;> subst w9
  · have h1 : 0 ≤ l ∧ l ≤ 2 := h1
    show jWp 211 4 [some (jO m), some (jI l), some (jI a), none, none] [jI 1] 0 0 w _
    obtain ⟨l1, rfl⟩ : ∃ l1 : Nat, l = (l1 : Int) := ⟨l.toNat, by omega⟩
    show jWp 211 4 [some (jO m), some (jI (l1 : Int)), some (jI a), none, none] [jI 1] 0 0 w _
    have hz2 : -1 ≤ w.1 (m + 423) l1 ∧ w.1 (m + 423) l1 ≤ 40 := hz l1 (by omega)
    refine jWp.ifc (b := true) mt rfl (by decide) rfl ?_
    show jWp 211 13 [some (jO m), some (jI (l1 : Int)), some (jI a), none, none] [] 0 0 w _
    refine jWp.blk mt 1 ?_
    show jWp 211 14 [some (jO m), some (jI (l1 : Int)), some (jI a), none, none] [jI a] 0 0 w _
    refine jWp.i2l (pc' := 15) mt rfl rfl (b32_id (by omega) (by omega)) ?_
    show jWp 211 15 [some (jO m), some (jI (l1 : Int)), some (jI a), none, none] [jJ a] 0 0 w _
    refine jWp.blk mt 2 ?_
    show jWp 211 19 [some (jO m), some (jI (l1 : Int)), some (jI a), none, none] [jJ 6, jJ 0, jJ a] 0 0 w _
    refine jWp.calls (as := [jJ a, jJ 0, jJ 6]) (rest := []) mt rfl rfl rfl rfl ?_
    refine jCall.mono (E_in (b64_id (by omega) (by omega)) (show b64 0 = 0 by decide) (show b64 6 = 6 by decide)) (fun v9 w9 h9 => ?_)
    rcases h9 with ⟨rfl, h9, h2⟩ | ⟨rfl, h9, h2⟩ <;> subst w9
    · have h2 : 0 ≤ a ∧ a ≤ 6 := h2
      show jWp 211 22 [some (jO m), some (jI (l1 : Int)), some (jI a), none, none] [jI 1] 0 0 w _
      refine jWp.ifc (b := true) mt rfl (by decide) rfl ?_
      show jWp 211 32 [some (jO m), some (jI (l1 : Int)), some (jI a), none, none] [] 0 0 w _
      refine jWp.blk mt 1 ?_
      show _ ∧ jWp 211 33 [some (jO m), some (jI (l1 : Int)), some (jI a), none, none] [jO m] 0 0 w _
      refine ⟨rfl, ?_⟩
      refine jWp.getR (pc' := 36) (o := (m + 423)) mt rfl rfl (jtg hW.K0) hW.R27 ?_
      show jWp 211 36 [some (jO m), some (jI (l1 : Int)), some (jI a), none, none] [jO (m + 423)] 0 0 w _
      refine jWp.blk mt 1 ?_
      show jWp 211 37 [some (jO m), some (jI (l1 : Int)), some (jI a), none, none] [jI (l1 : Int), jO (m + 423)] 0 0 w _
      refine jWp.iald (pc' := 38) (j := l1) mt rfl rfl (jird_of hW.K423) (b32_id (by omega) (by omega)) (jlt hW.K423 (by omega)) ?_
      show jWp 211 38 [some (jO m), some (jI (l1 : Int)), some (jI a), none, none] [jI (w.1 (m + 423) l1)] 0 0 w _
      refine jWp.ifz (pc' := 41) mt rfl rfl (b32_id (by omega) (by omega)) (fun h3 => ?_) (fun h3 => ?_)
      · have h3 : 0 ≤ (w.1 (m + 423) l1) := h3
        refine jWp.blk mt 2 ?_
        show _ ∧ jWp 211 46 [some (jO m), some (jI (l1 : Int)), some (jI a), none, none] [jI (l1 : Int), jO m] 0 0 w _
        refine ⟨rfl, ?_⟩
        refine jWp.callv (as := [jO m, jI (l1 : Int)]) (rest := []) mt rfl rfl rfl ⟨rfl, jtg hW.K0⟩ ?_
        refine jCall.mono (E_areSmall (l := l1) hW hz hI (by omega)) (fun v9 w9 h9 => ?_)
        rcases h9 with ⟨rfl, h9, h4⟩ | ⟨rfl, h9, h4⟩ <;> subst w9
        · have h4 : zsl (w.1 (m + (425 + l1))) (w.1 (m + 423) l1).toNat := h4
          show jWp 211 49 [some (jO m), some (jI (l1 : Int)), some (jI a), none, none] [jI 1] 0 0 w _
          refine jWp.ifc (b := true) mt rfl (by decide) rfl ?_
          show jWp 211 59 [some (jO m), some (jI (l1 : Int)), some (jI a), none, none] [] 0 0 w _
          refine jWp.blk mt 4 ?_
          show jWp 211 64 [some (jO m), some (jI (l1 : Int)), some (jI a), some (jI 0), some (jI 0)] [] 0 0 w _
          have lp5 : ∀ (N : Nat) (k : Nat) (b : Int) (hk : k ≤ 10) (hb : b = zbt (fun x : Nat => zmd a (x : Int) (w.1 (m + (425 + l1))) (w.1 (m + 423) l1).toNat) k), 10 - k < N → jWp 211 64 [some (jO m), some (jI (l1 : Int)), some (jI a), some (jI b), some (jI (k : Int))] [] 0 0 w (fun v w1 => ((¬ (0 ≤ (l1 : Int) ∧ (l1 : Int) ≤ 2)) → jno w m 1 (jI (-1)) v w1) ∧ (¬ (¬ (0 ≤ (l1 : Int) ∧ (l1 : Int) ≤ 2)) → (¬ (0 ≤ a ∧ a ≤ 6)) → jno w m 2 (jI (-2)) v w1) ∧ (¬ (¬ (0 ≤ (l1 : Int) ∧ (l1 : Int) ≤ 2)) → ¬ (¬ (0 ≤ a ∧ a ≤ 6)) → ((w.1 (m + 423) (l1 : Int).toNat) < 0) → v = some (jI (-11)) ∧ w1 = w) ∧ (¬ (¬ (0 ≤ (l1 : Int) ∧ (l1 : Int) ≤ 2)) → ¬ (¬ (0 ≤ a ∧ a ≤ 6)) → ¬ ((w.1 (m + 423) (l1 : Int).toNat) < 0) → (¬ zsl (w.1 (m + (425 + (l1 : Int).toNat))) (w.1 (m + 423) (l1 : Int).toNat).toNat) → jno w m 3 (jI (-3)) v w1) ∧ (¬ (¬ (0 ≤ (l1 : Int) ∧ (l1 : Int) ≤ 2)) → ¬ (¬ (0 ≤ a ∧ a ≤ 6)) → ¬ ((w.1 (m + 423) (l1 : Int).toNat) < 0) → ¬ (¬ zsl (w.1 (m + (425 + (l1 : Int).toNat))) (w.1 (m + 423) (l1 : Int).toNat).toNat) → v = some (jI (zbt (fun x : Nat => zmd a (x : Int) (w.1 (m + (425 + (l1 : Int).toNat))) (w.1 (m + 423) (l1 : Int).toNat).toNat) 10)) ∧ w1 = w)) := by
            intro N
            induction N with
            | zero => intro k b hk hb hm; omega
            | succ N ih6 =>
              intro k b hk hb hm
              refine jWp.blk mt 2 ?_
              show jWp 211 68 [some (jO m), some (jI (l1 : Int)), some (jI a), some (jI b), some (jI (k : Int))] [jI 9, jI (k : Int)] 0 0 w _
              refine jWp.icmp (pc' := 71) mt rfl rfl (b32_id (by omega) (by omega)) (show b32 9 = 9 by decide) (fun h7 => ?_) (fun h7 => ?_)
              · have h7 : 9 < (k : Int) := h7
                refine jWp.blk mt 1 ?_
                show jWp 211 100 [some (jO m), some (jI (l1 : Int)), some (jI a), some (jI b), some (jI (k : Int))] [jI b] 0 0 w _
                refine jWp.ireti mt rfl ⟨rfl, rfl⟩ rfl ?_
                try rw [show ((l1 : Nat) : Int).toNat = l1 from rfl]
                refine ⟨fun c0 => ?_, fun c0 c1 => ?_, fun c0 c1 c2 => ?_, fun c0 c1 c2 c3 => ?_, fun c0 c1 c2 c3 => ?_⟩
                all_goals first
                | (exfalso; omega)
                | contradiction
                | (exfalso; exact absurd (by assumption) c4)
                | (exfalso; exact absurd (by assumption) c3)
                | exact ⟨rfl, rfl⟩
                | exact ⟨by rw [hb, show k = 10 by omega], rfl⟩
              · have h7 : (k : Int) ≤ 9 := h7
                refine jWp.blk mt 5 ?_
                show _ ∧ jWp 211 77 [some (jO m), some (jI (l1 : Int)), some (jI a), some (jI b), some (jI (k : Int))] [jI (k : Int), jI a, jI (l1 : Int), jO m, jI b] 0 0 w _
                refine ⟨rfl, ?_⟩
                refine jWp.callv (as := [jO m, jI (l1 : Int), jI a, jI (k : Int)]) (rest := [jI b]) mt rfl rfl rfl ⟨rfl, jtg hW.K0⟩ ?_
                refine jCall.mono (E_isMade (l := l1) hW hz hI (by omega) (by omega) (by omega) (by omega) (by assumption)) (fun v9 w9 h9 => ?_)
                rcases h9 with ⟨rfl, h9, h8⟩ | ⟨rfl, h9, h8⟩ <;> subst w9
                · have h8 : zmd a (k : Int) (w.1 (m + (425 + l1))) (w.1 (m + 423) l1).toNat := h8
                  show jWp 211 80 [some (jO m), some (jI (l1 : Int)), some (jI a), some (jI b), some (jI (k : Int))] [jI 1, jI b] 0 0 w _
                  refine jWp.ifc (b := false) mt rfl (by decide) rfl ?_
                  show jWp 211 83 [some (jO m), some (jI (l1 : Int)), some (jI a), some (jI b), some (jI (k : Int))] [jI b] 0 0 w _
                  refine jWp.blk mt 8 ?_
                  show jWp 211 64 [some (jO m), some (jI (l1 : Int)), some (jI a), some (jI (jor b (jshl 1 (k : Int)))), some (jI ((k : Int) + 1))] [] 0 0 w _
                  refine jWp.le (l := [some (jO m), some (jI (l1 : Int)), some (jI a), some (jI (jor b (jshl 1 (k : Int)))), some (jI ((k : Int) + 1))]) (by exact ⟨rfl, rfl, rfl, rfl, rfl, trivial⟩) ?_
                  exact ih6 (k + 1) _ (by omega) (by rw [hb, zbt_t (p := (fun x : Nat => zmd a (x : Int) (w.1 (m + (425 + l1))) (w.1 (m + 423) l1).toNat)) (by assumption)]) (by omega)
                · have h8 : ¬ (zmd a (k : Int) (w.1 (m + (425 + l1))) (w.1 (m + 423) l1).toNat) := h8
                  show jWp 211 80 [some (jO m), some (jI (l1 : Int)), some (jI a), some (jI b), some (jI (k : Int))] [jI 0, jI b] 0 0 w _
                  refine jWp.ifc (b := true) mt rfl (by decide) rfl ?_
                  show jWp 211 90 [some (jO m), some (jI (l1 : Int)), some (jI a), some (jI b), some (jI (k : Int))] [jI b] 0 0 w _
                  refine jWp.blk mt 5 ?_
                  show jWp 211 64 [some (jO m), some (jI (l1 : Int)), some (jI a), some (jI (jor b 0)), some (jI ((k : Int) + 1))] [] 0 0 w _
                  refine jWp.le (l := [some (jO m), some (jI (l1 : Int)), some (jI a), some (jI (jor b 0)), some (jI ((k : Int) + 1))]) (by exact ⟨rfl, rfl, rfl, rfl, rfl, trivial⟩) ?_
                  exact ih6 (k + 1) _ (by omega) (by rw [hb, jor_0 (zbt_r _ _), zbt_f (p := (fun x : Nat => zmd a (x : Int) (w.1 (m + (425 + l1))) (w.1 (m + 423) l1).toNat)) (by assumption)]) (by omega)
          refine jWp.le (l := [some (jO m), some (jI (l1 : Int)), some (jI a), some (jI 0), some (jI 0)]) (by exact ⟨rfl, rfl, rfl, rfl, rfl, trivial⟩) ?_
          exact lp5 _ 0 0 (by omega) rfl (Nat.lt_succ_self _)
        · have h4 : ¬ (zsl (w.1 (m + (425 + l1))) (w.1 (m + 423) l1).toNat) := h4
          show jWp 211 49 [some (jO m), some (jI (l1 : Int)), some (jI a), none, none] [jI 0] 0 0 w _
          refine jWp.ifc (b := false) mt rfl (by decide) rfl ?_
          show jWp 211 52 [some (jO m), some (jI (l1 : Int)), some (jI a), none, none] [] 0 0 w _
          refine jWp.blk mt 2 ?_
          show _ ∧ jWp 211 55 [some (jO m), some (jI (l1 : Int)), some (jI a), none, none] [jI (-3), jO m] 0 0 w _
          refine ⟨rfl, ?_⟩
          refine jWp.callv (as := [jO m, jI (-3)]) (rest := []) mt rfl rfl rfl ⟨rfl, jtg hW.K0⟩ ?_
          refine jCall.mono (E_refuses (w := w) (j := 3) hW (by decide) (by decide)) (fun v9 w9 h9 => ?_)
          obtain ⟨rfl, h9⟩ := h9
          subst h9
          show jWp 211 58 [some (jO m), some (jI (l1 : Int)), some (jI a), none, none] [jI (-3)] 0 0 (jW w (m + 3) 3 ((w.1 (m + 3) 3) + 1)) _
          refine jWp.ireti mt rfl ⟨rfl, rfl⟩ rfl ?_
          try rw [show ((l1 : Nat) : Int).toNat = l1 from rfl]
          refine ⟨fun c0 => ?_, fun c0 c1 => ?_, fun c0 c1 c2 => ?_, fun c0 c1 c2 c3 => ?_, fun c0 c1 c2 c3 => ?_⟩
          all_goals first
          | (exfalso; omega)
          | contradiction
          | (exfalso; exact absurd (by assumption) c4)
          | (exfalso; exact absurd (by assumption) c3)
          | exact ⟨rfl, rfl⟩
          | exact ⟨by rw [hb, show k = 10 by omega], rfl⟩
      · have h3 : (w.1 (m + 423) l1) < 0 := h3
        refine jWp.blk mt 1 ?_
        show jWp 211 43 [some (jO m), some (jI (l1 : Int)), some (jI a), none, none] [jI (-11)] 0 0 w _
        refine jWp.ireti mt rfl ⟨rfl, rfl⟩ rfl ?_
        try rw [show ((l1 : Nat) : Int).toNat = l1 from rfl]
        refine ⟨fun c0 => ?_, fun c0 c1 => ?_, fun c0 c1 c2 => ?_, fun c0 c1 c2 c3 => ?_, fun c0 c1 c2 c3 => ?_⟩
        all_goals first
        | (exfalso; omega)
        | contradiction
        | (exfalso; exact absurd (by assumption) c4)
        | (exfalso; exact absurd (by assumption) c3)
        | exact ⟨rfl, rfl⟩
        | exact ⟨by rw [hb, show k = 10 by omega], rfl⟩
    · have h2 : ¬ (0 ≤ a ∧ a ≤ 6) := h2
      show jWp 211 22 [some (jO m), some (jI (l1 : Int)), some (jI a), none, none] [jI 0] 0 0 w _
      refine jWp.ifc (b := false) mt rfl (by decide) rfl ?_
      show jWp 211 25 [some (jO m), some (jI (l1 : Int)), some (jI a), none, none] [] 0 0 w _
      refine jWp.blk mt 2 ?_
      show _ ∧ jWp 211 28 [some (jO m), some (jI (l1 : Int)), some (jI a), none, none] [jI (-2), jO m] 0 0 w _
      refine ⟨rfl, ?_⟩
      refine jWp.callv (as := [jO m, jI (-2)]) (rest := []) mt rfl rfl rfl ⟨rfl, jtg hW.K0⟩ ?_
      refine jCall.mono (E_refuses (w := w) (j := 2) hW (by decide) (by decide)) (fun v9 w9 h9 => ?_)
      obtain ⟨rfl, h9⟩ := h9
      subst h9
      show jWp 211 31 [some (jO m), some (jI (l1 : Int)), some (jI a), none, none] [jI (-2)] 0 0 (jW w (m + 3) 2 ((w.1 (m + 3) 2) + 1)) _
      refine jWp.ireti mt rfl ⟨rfl, rfl⟩ rfl ?_
      try rw [show ((l1 : Nat) : Int).toNat = l1 from rfl]
      refine ⟨fun c0 => ?_, fun c0 c1 => ?_, fun c0 c1 c2 => ?_, fun c0 c1 c2 c3 => ?_, fun c0 c1 c2 c3 => ?_⟩
      all_goals first
      | (exfalso; omega)
      | contradiction
      | (exfalso; exact absurd (by assumption) c4)
      | (exfalso; exact absurd (by assumption) c3)
      | exact ⟨rfl, rfl⟩
      | exact ⟨by rw [hb, show k = 10 by omega], rfl⟩
  · have h1 : ¬ (0 ≤ l ∧ l ≤ 2) := h1
    show jWp 211 4 [some (jO m), some (jI l), some (jI a), none, none] [jI 0] 0 0 w _
    refine jWp.ifc (b := false) mt rfl (by decide) rfl ?_
    show jWp 211 7 [some (jO m), some (jI l), some (jI a), none, none] [] 0 0 w _
    refine jWp.blk mt 2 ?_
    show _ ∧ jWp 211 9 [some (jO m), some (jI l), some (jI a), none, none] [jI (-1), jO m] 0 0 w _
    refine ⟨rfl, ?_⟩
    refine jWp.callv (as := [jO m, jI (-1)]) (rest := []) mt rfl rfl rfl ⟨rfl, jtg hW.K0⟩ ?_
    refine jCall.mono (E_refuses (w := w) (j := 1) hW (by decide) (by decide)) (fun v9 w9 h9 => ?_)
    obtain ⟨rfl, h9⟩ := h9
    subst h9
    show jWp 211 12 [some (jO m), some (jI l), some (jI a), none, none] [jI (-1)] 0 0 (jW w (m + 3) 1 ((w.1 (m + 3) 1) + 1)) _
    refine jWp.ireti mt rfl ⟨rfl, rfl⟩ rfl ?_
    try rw [show ((l1 : Nat) : Int).toNat = l1 from rfl]
    refine ⟨fun c0 => ?_, fun c0 c1 => ?_, fun c0 c1 c2 => ?_, fun c0 c1 c2 c3 => ?_, fun c0 c1 c2 c3 => ?_⟩
    all_goals first
    | (exfalso; omega)
    | contradiction
    | (exfalso; exact absurd (by assumption) c4)
    | (exfalso; exact absurd (by assumption) c3)
    | exact ⟨rfl, rfl⟩
    | exact ⟨by rw [hb, show k = 10 by omega], rfl⟩
end
section
theorem zmk_sm {q : Nat → Int} {n k : Nat} {sg : Int} {p : Int × Int} (hS : zS q n) (hk : k < 4) (h : zmk q n k sg = some p) : zsm p := by
  have ht : ∀ (x y : Int) (hx : zsm (x, y)) (t : Nat) (p r : Int × Int), zsm p → zmt x y t p = some r → zsm r := by
    intro x y hx t
    induction t with
    | zero => intro p r hp h; cases h; exact hp
    | succ t ih =>
      intro p r hp h
      unfold zmt at h
      split at h
      · rename_i hz
        have a1 := zmul_b hp.1 hp.2.1 hx.1 hx.2.1
        have a2 := zmul_b hp.2.2.1 hp.2.2.2 hx.2.2.1 hx.2.2.2
        exact ih _ _ (zok_sm (a := p.1 * x) (b := p.2 * y) a1.1 a2.1 hz) h
      · cases h
  have hl : ∀ (r i : Nat) (p s : Int × Int), i + r ≤ 4 → zsm p → zml (fun i => q (21 + i)) (fun i => q (25 + i)) (fun i => sg * q (1 + (4 * i + k))) r i p = some s → zsm s := by
    intro r
    induction r with
    | zero => intro i p s _ hp h; cases h; exact hp
    | succ r ih =>
      intro i p s hi hp h
      unfold zml at h
      cases hz : zmt (q (21 + i)) (q (25 + i)) (sg * q (1 + (4 * i + k))).toNat p with
      | none => rw [hz] at h; cases h
      | some p' =>
        rw [hz] at h
        exact ih (i + 1) p' s (by omega) (ht _ _ (hS.v i (by omega)) _ _ _ hp hz) h
  exact hl n 0 (1, 1) p (by have := hS.n4; omega) (by decide) h
/-- a seed of so many letters, all new -/
def zNw (n : Nat) : Nat → Int := fun j => if j = 0 then (n : Int) else if j < 17 then 0 else if j < 29 then 1 else if (j - 29) / 4 = (j - 29) % 4 then -1 else 0
/-- a seed that begins anew -/
def zBg (q : Nat → Int) : Nat → Int := fun j => if j < 21 then q j else if j < 25 then q (j - 4) else if j < 29 then 1 else if (j - 29) / 4 = (j - 29) % 4 then -1 else 0
/-- a seed with two letters changed -/
def zSp (q : Nat → Int) (i j : Nat) : Nat → Int := fun x => if x = 0 then q 0 else if x < 17 then q (1 + (4 * zsw i j ((x - 1) / 4) + zsw i j ((x - 1) % 4))) else if x < 21 then q (17 + zsw i j (x - 17)) else if x < 25 then q (21 + zsw i j (x - 21)) else if x < 29 then q (25 + zsw i j (x - 25)) else q (29 + (4 * zsw i j ((x - 29) / 4) + zsw i j ((x - 29) % 4)))
theorem zdgl {S : Nat → Int} (h : ∀ i c, i < 4 → c < 4 → S (29 + 4 * i + c) = if i = c then -1 else 0) {j : Nat} (h1 : 29 ≤ j) (h2 : j < 45) : S j = if (j - 29) / 4 = (j - 29) % 4 then -1 else 0 := by
  have := h ((j - 29) / 4) ((j - 29) % 4) (by omega) (by omega)
  rw [show 29 + 4 * ((j - 29) / 4) + (j - 29) % 4 = j by omega] at this
  exact this
theorem znew_e {S : Nat → Int} {n : Nat} (h : znew S n) : zeq S (zNw n) := by
  intro j hj
  unfold zNw
  by_cases h0 : j = 0
  · rw [if_pos h0, h0]
    exact h.1
  · rw [if_neg h0]
    by_cases h1 : j < 17
    · rw [if_pos h1, show j = 1 + (j - 1) by omega]
      exact h.2.1 _ (by omega)
    · rw [if_neg h1]
      by_cases h2 : j < 29
      · rw [if_pos h2]
        rcases (show j < 21 ∨ (21 ≤ j ∧ j < 25) ∨ 25 ≤ j by omega) with g | g | g
        · have := (h.2.2.1 (j - 17) (by omega)).1
          rw [show 17 + (j - 17) = j by omega] at this
          exact this
        · have := (h.2.2.1 (j - 21) (by omega)).2.1
          rw [show 21 + (j - 21) = j by omega] at this
          exact this
        · have := (h.2.2.1 (j - 25) (by omega)).2.2
          rw [show 25 + (j - 25) = j by omega] at this
          exact this
      · rw [if_neg h2]
        exact zdgl h.2.2.2 (by omega) hj
theorem zbg_e {q S : Nat → Int} (h : zbg q S) : zeq S (zBg q) := by
  intro j hj
  unfold zBg
  by_cases h0 : j < 21
  · rw [if_pos h0]
    exact h.1 j h0
  · rw [if_neg h0]
    by_cases h1 : j < 25
    · have := (h.2.1 (j - 21) (by omega)).1
      rw [show 21 + (j - 21) = j by omega, show 17 + (j - 21) = j - 4 by omega] at this
      rw [if_pos h1]
      exact this
    · rw [if_neg h1]
      by_cases h2 : j < 29
      · have := (h.2.1 (j - 25) (by omega)).2
        rw [show 25 + (j - 25) = j by omega] at this
        rw [if_pos h2]
        exact this
      · rw [if_neg h2]
        exact zdgl h.2.2 (by omega) hj
theorem zsw_4 {i j x : Nat} (hi : i < 4) (hj : j < 4) (hx : x < 4) : zsw i j x < 4 := by
  unfold zsw
  split
  · exact hj
  · split <;> omega
theorem zswp_e {q S : Nat → Int} {i j : Nat} (h : zswp q S i j) : zeq S (zSp q i j) := by
  intro x hx
  unfold zSp
  by_cases h0 : x = 0
  · rw [if_pos h0, h0]
    exact h.1
  · rw [if_neg h0]
    by_cases h1 : x < 17
    · have := h.2.2.1 ((x - 1) / 4) ((x - 1) % 4) (by omega) (by omega)
      rw [show 1 + (4 * ((x - 1) / 4) + (x - 1) % 4) = x by omega] at this
      rw [if_pos h1]
      exact this
    · rw [if_neg h1]
      by_cases h2 : x < 21
      · have := (h.2.1 (x - 17) (by omega)).1
        rw [show 17 + (x - 17) = x by omega] at this
        rw [if_pos h2]
        exact this
      · rw [if_neg h2]
        by_cases h3 : x < 25
        · have := (h.2.1 (x - 21) (by omega)).2.1
          rw [show 21 + (x - 21) = x by omega] at this
          rw [if_pos h3]
          exact this
        · rw [if_neg h3]
          by_cases h4 : x < 29
          · have := (h.2.1 (x - 25) (by omega)).2.2
            rw [show 25 + (x - 25) = x by omega] at this
            rw [if_pos h4]
            exact this
          · have := h.2.2.2 ((x - 29) / 4) ((x - 29) % 4) (by omega) (by omega)
            rw [show 29 + (4 * ((x - 29) / 4) + (x - 29) % 4) = x by omega] at this
            rw [if_neg h4]
            exact this
theorem zBg_c {S q : Nat → Int} (h : zeq S q) : zeq (zBg S) (zBg q) := by
  intro j hj
  unfold zBg
  rw [h j hj, h (j - 4) (by omega)]
theorem zset_c {S q : Nat → Int} {k : Nat} {x : Int} (h : zeq S q) : zeq (zset S k x) (zset q k x) := by
  intro j hj
  unfold zset
  rw [h j hj]
theorem zSp_c {S q : Nat → Int} {i j : Nat} (hi : i < 4) (hj : j < 4) (h : zeq S q) : zeq (zSp S i j) (zSp q i j) := by
  intro x hx
  unfold zSp
  have a : ∀ y, y < 4 → zsw i j y < 4 := fun y hy => zsw_4 hi hj hy
  by_cases h0 : x = 0
  · rw [if_pos h0, if_pos h0]
    exact h 0 (by omega)
  · rw [if_neg h0, if_neg h0]
    by_cases h1 : x < 17
    · have b := a ((x - 1) / 4) (by omega)
      have c := a ((x - 1) % 4) (by omega)
      rw [if_pos h1, if_pos h1]
      exact h _ (by omega)
    · rw [if_neg h1, if_neg h1]
      by_cases h2 : x < 21
      · have b := a (x - 17) (by omega)
        rw [if_pos h2, if_pos h2]
        exact h _ (by omega)
      · rw [if_neg h2, if_neg h2]
        by_cases h3 : x < 25
        · have b := a (x - 21) (by omega)
          rw [if_pos h3, if_pos h3]
          exact h _ (by omega)
        · rw [if_neg h3, if_neg h3]
          by_cases h4 : x < 29
          · have b := a (x - 25) (by omega)
            rw [if_pos h4, if_pos h4]
            exact h _ (by omega)
          · have b := a ((x - 29) / 4) (by omega)
            have c := a ((x - 29) % 4) (by omega)
            rw [if_neg h4, if_neg h4]
            exact h _ (by omega)
/-- a seed as it always is -/
def zQ (q : Nat → Int) (n : Nat) : Prop := zS q n ∧ (∀ i, i < 4 → 1 ≤ q (17 + i) ∧ q (17 + i) ≤ 9) ∧ (∀ i j, i < 4 → j < 4 → n ≤ i ∨ n ≤ j → q (1 + (4 * i + j)) = 0) ∧ (∀ i j, i < 4 → j < 4 → q (1 + (4 * i + j)) = -(q (1 + (4 * j + i)))) ∧ ∀ i, i < 4 → zg (q (21 + i)) (q (25 + i)) = 1
theorem zQ.S {q : Nat → Int} {n : Nat} (h : zQ q n) : zS q n := h.1
theorem zQ.s {q : Nat → Int} {n : Nat} (h : zQ q n) : ∀ i, i < 4 → 1 ≤ q (17 + i) ∧ q (17 + i) ≤ 9 := h.2.1
theorem zQ.z {q : Nat → Int} {n : Nat} (h : zQ q n) : ∀ i j, i < 4 → j < 4 → n ≤ i ∨ n ≤ j → q (1 + (4 * i + j)) = 0 := h.2.2.1
theorem zQ.a {q : Nat → Int} {n : Nat} (h : zQ q n) : ∀ i j, i < 4 → j < 4 → q (1 + (4 * i + j)) = -(q (1 + (4 * j + i))) := h.2.2.2.1
theorem zQ.g {q : Nat → Int} {n : Nat} (h : zQ q n) : ∀ i, i < 4 → zg (q (21 + i)) (q (25 + i)) = 1 := h.2.2.2.2
theorem zQ_c {S q : Nat → Int} {n : Nat} (h : zeq S q) (hq : zQ q n) : zQ S n :=
  ⟨zeq_S h hq.S, fun i hi => by rw [h _ (by omega)]; exact hq.s i hi, fun i j hi hj g => by rw [h _ (by omega)]; exact hq.z i j hi hj g, fun i j hi hj => by rw [h _ (by omega), h (1 + (4 * j + i)) (by omega)]; exact hq.a i j hi hj, fun i hi => by rw [h _ (by omega), h (25 + i) (by omega)]; exact hq.g i hi⟩
theorem zg_11 {s : Int} : zg s 1 = 1 := by
  unfold zg
  rw [Int.gcd_one_right]
  rfl
theorem zQ_bg {q : Nat → Int} {n : Nat} (h0 : q 0 = (n : Int)) (h2 : 2 ≤ n) (h4 : n ≤ 4) (hb : ∀ j, j < 16 → -9 ≤ q (1 + j) ∧ q (1 + j) ≤ 9) (hs : ∀ i, i < 4 → 1 ≤ q (17 + i) ∧ q (17 + i) ≤ 9) (hz : ∀ i j, i < 4 → j < 4 → n ≤ i ∨ n ≤ j → q (1 + (4 * i + j)) = 0) (ha : ∀ i j, i < 4 → j < 4 → q (1 + (4 * i + j)) = -(q (1 + (4 * j + i)))) : zQ (zBg q) n := by
  have e0 : ∀ j, j < 21 → zBg q j = q j := fun j hj => if_pos hj
  have eu : ∀ i, i < 4 → zBg q (21 + i) = q (17 + i) := fun i hi => by
    unfold zBg
    rw [if_neg (by omega), if_pos (by omega), show 21 + i - 4 = 17 + i by omega]
  have ed : ∀ i, i < 4 → zBg q (25 + i) = 1 := fun i hi => by
    unfold zBg
    rw [if_neg (by omega), if_neg (by omega), if_pos (by omega)]
  refine ⟨⟨(e0 0 (by omega)).trans h0, h2, h4, fun i hi => ?_, fun j hj => by rw [e0 _ (by omega)]; exact hb j hj⟩, fun i hi => by rw [e0 _ (by omega)]; exact hs i hi, fun i j hi hj g => by rw [e0 _ (by omega)]; exact hz i j hi hj g, fun i j hi hj => by rw [e0 _ (by omega), e0 (1 + (4 * j + i)) (by omega)]; exact ha i j hi hj, fun i hi => by rw [eu i hi, ed i hi]; exact zg_11⟩
  rw [eu i hi, ed i hi]
  have := hs i hi
  exact ⟨this.1, by show q (17 + i) ≤ 1000000000; omega, (by decide : (1 : Int) ≤ 1), (by decide : (1 : Int) ≤ 1000000000)⟩
theorem zQ_new {n : Nat} (h2 : 2 ≤ n) (h4 : n ≤ 4) : zQ (zNw n) n := by
  have e0 : zNw n 0 = (n : Int) := rfl
  have eb : ∀ j, j < 16 → zNw n (1 + j) = 0 := fun j hj => by
    unfold zNw
    rw [if_neg (by omega), if_pos (by omega)]
  have e1 : ∀ j, 17 ≤ j → j < 29 → zNw n j = 1 := fun j hj hj2 => by
    unfold zNw
    rw [if_neg (by omega), if_neg (by omega), if_pos (by omega)]
  refine ⟨⟨e0, h2, h4, fun i hi => ?_, fun j hj => by rw [eb j hj]; decide⟩, fun i hi => by rw [e1 _ (by omega) (by omega)]; decide, fun i j hi hj g => eb _ (by omega), fun i j hi hj => by rw [eb _ (by omega), eb (4 * j + i) (by omega)]; rfl, fun i hi => by rw [e1 _ (by omega) (by omega), e1 (25 + i) (by omega) (by omega)]; exact zg_11⟩
  rw [e1 (21 + i) (by omega) (by omega), e1 (25 + i) (by omega) (by omega)]
  decide
theorem zQ_st {q : Nat → Int} {n i : Nat} {v : Int} (hq : zQ q n) (hi : i < n) (hv : 1 ≤ v ∧ v ≤ 9) : zQ (zBg (zset q (17 + i) v)) n := by
  have hn := hq.S.n4
  refine zQ_bg (by rw [zset_n (by omega)]; exact hq.S.n0) hq.S.n2 hn (fun j hj => by rw [zset_n (by omega)]; exact hq.S.b j hj) (fun x hx => ?_) (fun a b ha hb g => by rw [zset_n (by omega)]; exact hq.z a b ha hb g) (fun a b ha hb => by rw [zset_n (by omega), zset_n (by omega)]; exact hq.a a b ha hb)
  by_cases e : x = i
  · rw [e, zset_s]
    exact hv
  · rw [zset_n (by omega)]
    exact hq.s x hx
theorem zQ_tb {q : Nat → Int} {n i j : Nat} {v : Int} (hq : zQ q n) (hi : i < n) (hj : j < n) (hij : i ≠ j) (hv : -9 ≤ v ∧ v ≤ 9) : zQ (zBg (zset (zset q (1 + (4 * i + j)) v) (1 + (4 * j + i)) (-v))) n := by
  have hn := hq.S.n4
  have e : ∀ a b, a < 4 → b < 4 → zset (zset q (1 + (4 * i + j)) v) (1 + (4 * j + i)) (-v) (1 + (4 * a + b)) = if a = i ∧ b = j then v else if a = j ∧ b = i then -v else q (1 + (4 * a + b)) := by
    intro a b ha hb
    by_cases h1 : a = i ∧ b = j
    · rw [if_pos h1, h1.1, h1.2, zset_n (by omega), zset_s]
    · rw [if_neg h1]
      by_cases h2 : a = j ∧ b = i
      · rw [if_pos h2, h2.1, h2.2, zset_s]
      · rw [if_neg h2, zset_n (by omega), zset_n (by omega)]
  refine zQ_bg (by rw [zset_n (by omega), zset_n (by omega)]; exact hq.S.n0) hq.S.n2 hn (fun x hx => ?_) (fun x hx => by rw [zset_n (by omega), zset_n (by omega)]; exact hq.s x hx) (fun a b ha hb g => ?_) (fun a b ha hb => ?_)
  · have := e (x / 4) (x % 4) (by omega) (by omega)
    rw [show 1 + (4 * (x / 4) + x % 4) = 1 + x by omega] at this
    rw [this]
    have := hq.S.b x hx
    split
    · omega
    · split <;> omega
  · rw [e a b ha hb, if_neg (by omega), if_neg (by omega)]
    exact hq.z a b ha hb g
  · rw [e a b ha hb, e b a hb ha]
    have := hq.a a b ha hb
    by_cases h1 : a = i ∧ b = j
    · rw [if_pos h1, if_neg (by omega), if_pos (by omega)]
      omega
    · rw [if_neg h1]
      by_cases h2 : a = j ∧ b = i
      · rw [if_pos h2, if_pos (by omega)]
      · rw [if_neg h2, if_neg (by omega), if_neg (by omega)]
        exact this
theorem zg_uv {a b : Int} (ha : 0 < a) (hb : 0 < b) : zg (zu a b) (zv a b) = 1 := by
  have hg := zg_pos (a := a) hb
  unfold zu zv
  rw [Int.tdiv_eq_ediv_of_nonneg (by omega), Int.tdiv_eq_ediv_of_nonneg (by omega)]
  unfold zg at hg ⊢
  have h := Int.gcd_ediv_gcd_ediv_gcd (i := a) (j := b) (by omega)
  rw [h]
  rfl
/-- what an exchange makes is in least terms -/
theorem zxv_g {q : Nat → Int} {n k : Nat} {p : Int × Int} (hS : zS q n) (hk : k < 4) (h : zxv q n k = some p) : zg p.1 p.2 = 1 := by
  unfold zxv at h
  cases h1 : zmk q n k 1 with
  | none => rw [h1] at h; cases h
  | some a =>
    cases h2 : zmk q n k (-1) with
    | none => rw [h1, h2] at h; cases h
    | some b =>
      rw [h1, h2] at h
      dsimp only at h
      have s1 := zmk_sm hS hk h1
      have s2 := zmk_sm hS hk h2
      have q1 := zmul_b s1.1 s1.2.1 s2.2.2.1 s2.2.2.2
      have q2 := zmul_b s2.1 s2.2.1 s1.2.2.1 s1.2.2.2
      have q3 := zmul_b s1.2.2.1 s1.2.2.2 s2.2.2.1 s2.2.2.2
      split at h
      · rename_i z1
        have g1 := zok_sm (by omega) (by omega) z1
        have hv := hS.v k hk
        have g2 := zmul_b g1.1 g1.2.1 hv.2.2.1 hv.2.2.2
        have g3 := zmul_b g1.2.2.1 g1.2.2.2 hv.1 hv.2.1
        split at h
        · cases h
          exact zg_uv (Int.lt_of_lt_of_le (by decide : (0 : Int) < 1) g2.1) (Int.lt_of_lt_of_le (by decide : (0 : Int) < 1) g3.1)
        · cases h
      · cases h
theorem zxb_z {q : Nat → Int} {n k i j : Nat} (hq : zQ q n) (hk : k < 4) (hi : i < 4) (hj : j < 4) (g : n ≤ i ∨ n ≤ j) : zxb (fun e => q (1 + e)) k i j = 0 := by
  unfold zxb
  dsimp only
  rw [hq.z i j hi hj g]
  split
  · rfl
  · rcases g with g | g
    · rw [hq.z i k hi hk (Or.inl g)]
      show 0 + Int.tdiv (jabs 0 * _ + 0 * _) 2 = 0
      rw [show jabs 0 = 0 from rfl, Int.zero_mul, Int.zero_mul]
      rfl
    · rw [hq.z k j hk hj (Or.inr g)]
      show 0 + Int.tdiv (_ * 0 + _ * jabs 0) 2 = 0
      rw [show jabs 0 = 0 from rfl, Int.mul_zero, Int.mul_zero]
      rfl
theorem jabs_neg (x : Int) : jabs (-x) = jabs x := by
  unfold jabs
  split <;> split <;> omega
theorem zxb_a {q : Nat → Int} {n k i j : Nat} (hq : zQ q n) (hk : k < 4) (hi : i < 4) (hj : j < 4) : zxb (fun e => q (1 + e)) k i j = -(zxb (fun e => q (1 + e)) k j i) := by
  unfold zxb
  dsimp only
  have a1 := hq.a i j hi hj
  by_cases h : i = k ∨ j = k
  · rw [if_pos h, if_pos (by omega)]
    omega
  · rw [if_neg h, if_neg (by omega), hq.a j k hj hk, hq.a k i hk hi, jabs_neg, jabs_neg, a1]
    have e : jabs (q (1 + (4 * k + j))) * -q (1 + (4 * i + k)) + -q (1 + (4 * k + j)) * jabs (q (1 + (4 * i + k))) = -(jabs (q (1 + (4 * i + k))) * q (1 + (4 * k + j)) + q (1 + (4 * i + k)) * jabs (q (1 + (4 * k + j)))) := by
      rw [Int.mul_neg, Int.neg_mul, Int.neg_add, Int.mul_comm (jabs (q (1 + (4 * k + j)))), Int.mul_comm (q (1 + (4 * k + j))), Int.add_comm]
    rw [e, Int.neg_tdiv]
    omega
theorem zQ_x {q : Nat → Int} {n k : Nat} (hq : zQ q n) (hk : k < 4) (hc : zcan q n k) : zQ (zxF q n k) n := by
  have hx := zxF_n hk hc
  have hS := zxn_S hq.S hk hx
  refine ⟨hS, fun i hi => by rw [zxF_o (by omega) (by omega) (by omega) (by omega)]; exact hq.s i hi, fun i j hi hj g => ?_, fun i j hi hj => ?_, fun i hi => ?_⟩
  · rw [zxF_b (by omega), zxe_at _ _ _ _ hj]
    exact zxb_z hq hk hi hj g
  · rw [zxF_b (by omega), zxe_at _ _ _ _ hj, zxF_b (by omega), zxe_at _ _ _ _ hi]
    exact zxb_a hq hk hi hj
  · by_cases e : i = k
    · subst e
      exact zxv_g hq.S hk hx.2.1
    · rw [zxF_o (by omega) (by omega) (by omega) (by omega), zxF_o (j := 25 + i) (by omega) (by omega) (by omega) (by omega)]
      exact hq.g i hi
theorem zQ_sw {q : Nat → Int} {n i j : Nat} (hq : zQ q n) (hi : i < n) (hj : j < n) : zQ (zSp q i j) n := by
  have hn := hq.S.n4
  have a : ∀ y, y < 4 → zsw i j y < 4 := fun y hy => zsw_4 (by omega) (by omega) hy
  have an : ∀ y, y < 4 → n ≤ y → n ≤ zsw i j y := fun y hy h => by rw [zsw_n (by omega) (by omega)]; exact h
  have e0 : zSp q i j 0 = q 0 := rfl
  have eb : ∀ x y, x < 4 → y < 4 → zSp q i j (1 + (4 * x + y)) = q (1 + (4 * zsw i j x + zsw i j y)) := fun x y hx hy => by
    unfold zSp
    rw [if_neg (by omega), if_pos (by omega), show (1 + (4 * x + y) - 1) / 4 = x by omega, show (1 + (4 * x + y) - 1) % 4 = y by omega]
  have es : ∀ x, x < 4 → zSp q i j (17 + x) = q (17 + zsw i j x) := fun x hx => by
    unfold zSp
    rw [if_neg (by omega), if_neg (by omega), if_pos (by omega), show 17 + x - 17 = x by omega]
  have eu : ∀ x, x < 4 → zSp q i j (21 + x) = q (21 + zsw i j x) := fun x hx => by
    unfold zSp
    rw [if_neg (by omega), if_neg (by omega), if_neg (by omega), if_pos (by omega), show 21 + x - 21 = x by omega]
  have ed : ∀ x, x < 4 → zSp q i j (25 + x) = q (25 + zsw i j x) := fun x hx => by
    unfold zSp
    rw [if_neg (by omega), if_neg (by omega), if_neg (by omega), if_neg (by omega), if_pos (by omega), show 25 + x - 25 = x by omega]
  refine ⟨⟨e0.trans hq.S.n0, hq.S.n2, hn, fun x hx => by rw [eu x hx, ed x hx]; exact hq.S.v _ (a x hx), fun x hx => ?_⟩, fun x hx => by rw [es x hx]; exact hq.s _ (a x hx), fun x y hx hy g => by rw [eb x y hx hy]; exact hq.z _ _ (a x hx) (a y hy) (g.imp (an x hx) (an y hy)), fun x y hx hy => by rw [eb x y hx hy, eb y x hy hx]; exact hq.a _ _ (a x hx) (a y hy), fun x hx => by rw [eu x hx, ed x hx]; exact hq.g _ (a x hx)⟩
  have b := a (x / 4) (by omega)
  have c := a (x % 4) (by omega)
  have := eb (x / 4) (x % 4) (by omega) (by omega)
  rw [show 1 + (4 * (x / 4) + x % 4) = 1 + x by omega] at this
  rw [this]
  exact hq.S.b _ (by omega)
end
section
/-- the letter at a place of the text; -1 behind it -/
def zlt (t : Nat → Int) (F p : Nat) : Int := if p < F then t p else -1
theorem zlt_b {t : Nat → Int} {F : Nat} (h : ∀ j, j < F → 0 ≤ t j ∧ t j ≤ 255) (p : Nat) : -1 ≤ zlt t F p ∧ zlt t F p ≤ 255 := by
  unfold zlt
  split
  · rename_i e
    have := h p e
    omega
  · omega
theorem zlt_l {t : Nat → Int} {F p : Nat} {c : Int} (h : zlt t F p = c) (hc : 0 ≤ c) : p < F := by
  unfold zlt at h
  split at h
  · assumption
  · omega
/-- behind the last letter of a statement; or -1 less the place of the first letter that is misplaced -/
def zfn (t : Nat → Int) (F q : Nat) : Int := if zlt t F q = 59 then ((q + 1 : Nat) : Int) else -1 - (q : Int)
def zbh (t : Nat → Int) (F p : Nat) : Int :=
  if zlt t F p = 110 ∨ zlt t F p = 109 then (if 48 ≤ zlt t F (p + 1) ∧ zlt t F (p + 1) ≤ 57 then zfn t F (p + 2) else -1 - ((p + 1 : Nat) : Int))
  else if zlt t F p = 115 ∨ zlt t F p = 119 then (if 48 ≤ zlt t F (p + 1) ∧ zlt t F (p + 1) ≤ 57 then (if 48 ≤ zlt t F (p + 2) ∧ zlt t F (p + 2) ≤ 57 then zfn t F (p + 3) else -1 - ((p + 2 : Nat) : Int)) else -1 - ((p + 1 : Nat) : Int))
  else if zlt t F p = 98 then (if 48 ≤ zlt t F (p + 1) ∧ zlt t F (p + 1) ≤ 57 then (if 48 ≤ zlt t F (p + 2) ∧ zlt t F (p + 2) ≤ 57 then (if zlt t F (p + 3) = 45 then (if 48 ≤ zlt t F (p + 4) ∧ zlt t F (p + 4) ≤ 57 then zfn t F (p + 5) else -1 - ((p + 4 : Nat) : Int)) else (if 48 ≤ zlt t F (p + 3) ∧ zlt t F (p + 3) ≤ 57 then zfn t F (p + 4) else -1 - ((p + 3 : Nat) : Int))) else -1 - ((p + 2 : Nat) : Int)) else -1 - ((p + 1 : Nat) : Int))
  else -1 - (p : Int)
/-- a letter as a digit; a number with its sign -/
def zfg (c : Int) : Int := if 48 ≤ c ∧ c ≤ 57 then c - 48 else -1
def znm (t : Nat → Int) (F p : Nat) : Int := if zlt t F p = 45 then -(zfg (zlt t F (p + 1))) else zfg (zlt t F p)
def zdc (c : Int) : Int := if c = 110 ∨ c = 109 then 1 else if c = 115 ∨ c = 119 then 2 else if c = 98 then 3 else 0
theorem jW_id {w : jS} {a k : Nat} {x : Int} (h : w.1 a k = x) : jW w a k x = w := by
  subst h
  unfold jW jup
  refine Prod.ext (funext fun b => funext fun j => ?_) rfl
  dsimp only
  split
  · rename_i e
    rw [e.1, e.2]
  · rfl
set_option maxHeartbeats 4000000 in
set_option maxRecDepth 20000 in
theorem E_here {w : jS} {m : Nat} (hW : MW w.2 m) {F p : Nat} {t : Nat → Int} (hF : w.1 m 24 = (F : Int)) (hF72 : F ≤ 72) (hp : w.1 m 25 = (p : Int)) (hp9 : p ≤ 200) (ht : w.1 (m + 421) = t) (hL : ∀ j, j < F → 0 ≤ t j ∧ t j ≤ 255) : jCall 198 [jO m] w (jvi (zlt t F p) w) := by
  have mt : jtb 198 = jT198 := rfl
  have hLp : p < F → _ := fun h => hL p h
  show jWp 198 0 [some (jO m)] [] 0 0 w _
  refine jWp.blk mt 1 ?_
  show _ ∧ jWp 198 1 [some (jO m)] [jO m] 0 0 w _
  refine ⟨rfl, ?_⟩
  refine jWp.getI (pc' := 4) mt rfl rfl (jtg hW.K0) ?_
  rw [show (w.1 m 25) = (p : Int) from hp]
  show jWp 198 4 [some (jO m)] [jI (p : Int)] 0 0 w _
  refine jWp.blk mt 1 ?_
  show _ ∧ jWp 198 5 [some (jO m)] [jO m, jI (p : Int)] 0 0 w _
  refine ⟨rfl, ?_⟩
  refine jWp.getI (pc' := 8) mt rfl rfl (jtg hW.K0) ?_
  rw [show (w.1 m 24) = (F : Int) from hF]
  show jWp 198 8 [some (jO m)] [jI (F : Int), jI (p : Int)] 0 0 w _
  refine jWp.icmp (pc' := 11) mt rfl rfl (b32_id (by omega) (by omega)) (b32_id (by omega) (by omega)) (fun h1 => ?_) (fun h1 => ?_)
  · have h1 : (F : Int) ≤ (p : Int) := h1
    refine jWp.blk mt 1 ?_
    show jWp 198 24 [some (jO m)] [jI (-1)] 0 0 w _
    refine jWp.ireti mt rfl ⟨rfl, rfl⟩ rfl ?_
    exact ⟨by unfold zlt; first | rw [if_pos (by omega)] | rw [if_neg (by omega)], rfl⟩
  · have h1 : (p : Int) < (F : Int) := h1
    refine jWp.blk mt 1 ?_
    show _ ∧ jWp 198 12 [some (jO m)] [jO m] 0 0 w _
    refine ⟨rfl, ?_⟩
    refine jWp.getR (pc' := 15) (o := (m + 421)) mt rfl rfl (jtg hW.K0) hW.R23 ?_
    show jWp 198 15 [some (jO m)] [jO (m + 421)] 0 0 w _
    refine jWp.blk mt 1 ?_
    show _ ∧ jWp 198 16 [some (jO m)] [jO m, jO (m + 421)] 0 0 w _
    refine ⟨rfl, ?_⟩
    refine jWp.getI (pc' := 19) mt rfl rfl (jtg hW.K0) ?_
    rw [show (w.1 m 25) = (p : Int) from hp]
    show jWp 198 19 [some (jO m)] [jI (p : Int), jO (m + 421)] 0 0 w _
    refine jWp.iald (pc' := 20) (j := p) mt rfl rfl (jird_of hW.K421) (b32_id (by omega) (by omega)) (jlt hW.K421 (by omega)) ?_
    rw [show (w.1 (m + 421) p) = (t p) from (congrFun ht _)]
    show jWp 198 20 [some (jO m)] [jI (t p)] 0 0 w _
    refine jWp.blk mt 1 ?_
    show jWp 198 24 [some (jO m)] [jI (t p)] 0 0 w _
    refine jWp.ireti mt rfl ⟨rfl, rfl⟩ rfl ?_
    exact ⟨by unfold zlt; first | rw [if_pos (by omega)] | rw [if_neg (by omega)], rfl⟩
set_option maxHeartbeats 4000000 in
set_option maxRecDepth 20000 in
theorem E_takes {w : jS} {m : Nat} (hW : MW w.2 m) {F p : Nat} {t : Nat → Int} (hF : w.1 m 24 = (F : Int)) (hF72 : F ≤ 72) (hp : w.1 m 25 = (p : Int)) (hp9 : p ≤ 200) (ht : w.1 (m + 421) = t) (hL : ∀ j, j < F → 0 ≤ t j ∧ t j ≤ 255) {c : Int} (hc : r32 c) : jCall 199 [jO m, jI c] w (fun v w1 => (v = some (jI 1) ∧ w1 = jW w m 25 ((p + 1 : Nat) : Int) ∧ (zlt t F p) = c) ∨ (v = some (jI 0) ∧ w1 = w ∧ ¬ (zlt t F p) = c)) := by
  have mt : jtb 199 = jT199 := rfl
  have hc1 : -2147483648 ≤ c ∧ c < 2147483648 := hc
  have hzb := zlt_b hL p
  show jWp 199 0 [some (jO m), some (jI c), none] [] 0 0 w _
  refine jWp.blk mt 1 ?_
  show _ ∧ jWp 199 1 [some (jO m), some (jI c), none] [jO m] 0 0 w _
  refine ⟨rfl, ?_⟩
  refine jWp.callv (as := [jO m]) (rest := []) mt rfl rfl rfl ⟨rfl, jtg hW.K0⟩ ?_
  refine jCall.mono (E_here hW hF hF72 hp hp9 ht hL) (fun v9 w9 h9 => ?_)
  obtain ⟨rfl, h9⟩ := h9
  subst w9
  show jWp 199 4 [some (jO m), some (jI c), none] [jI (zlt t F p)] 0 0 w _
  refine jWp.blk mt 1 ?_
  show jWp 199 5 [some (jO m), some (jI c), none] [jI c, jI (zlt t F p)] 0 0 w _
  refine jWp.icmp (pc' := 8) mt rfl rfl (b32_id (by omega) (by omega)) (b32_id (by omega) (by omega)) (fun h1 => ?_) (fun h1 => ?_)
  · have h1 : (zlt t F p) ≠ c := h1
    refine jWp.blk mt 4 ?_
    show _ ∧ _ ∧ jWp 199 16 [some (jO m), some (jI c), some (jI 0)] [jO m, jO m] 0 0 w _
    refine ⟨rfl, rfl, ?_⟩
    refine jWp.getI (pc' := 19) mt rfl rfl (jtg hW.K0) ?_
    rw [show (w.1 m 25) = (p : Int) from hp]
    show jWp 199 19 [some (jO m), some (jI c), some (jI 0)] [jI (p : Int), jO m] 0 0 w _
    refine jWp.blk mt 1 ?_
    show jWp 199 20 [some (jO m), some (jI c), some (jI 0)] [jI 0, jI (p : Int), jO m] 0 0 w _
    refine jWp.ifc (b := true) mt rfl (by decide) rfl ?_
    show jWp 199 27 [some (jO m), some (jI c), some (jI 0)] [jI (p : Int), jO m] 0 0 w _
    refine jWp.blk mt 2 ?_
    show jWp 199 29 [some (jO m), some (jI c), some (jI 0)] [jI ((p : Int) + 0), jO m] 0 0 w _
    refine jWp.putI (pc' := 32) mt rfl rfl (jtg hW.K0) ?_
    show jWp 199 32 [some (jO m), some (jI c), some (jI 0)] [] 0 0 (jW w m 25 ((p : Int) + 0)) _
    refine jWp.blk mt 1 ?_
    show jWp 199 33 [some (jO m), some (jI c), some (jI 0)] [jI 0] 0 0 (jW w m 25 ((p : Int) + 0)) _
    refine jWp.iretz mt rfl ⟨rfl, rfl⟩ rfl (Or.inl rfl) ?_
    first
    | exact Or.inl ⟨rfl, rfl, by omega⟩
    | exact Or.inr ⟨rfl, by rw [Int.add_zero]; exact jW_id hp, by omega⟩
  · have h1 : (zlt t F p) = c := h1
    refine jWp.blk mt 5 ?_
    show _ ∧ _ ∧ jWp 199 16 [some (jO m), some (jI c), some (jI 1)] [jO m, jO m] 0 0 w _
    refine ⟨rfl, rfl, ?_⟩
    refine jWp.getI (pc' := 19) mt rfl rfl (jtg hW.K0) ?_
    rw [show (w.1 m 25) = (p : Int) from hp]
    show jWp 199 19 [some (jO m), some (jI c), some (jI 1)] [jI (p : Int), jO m] 0 0 w _
    refine jWp.blk mt 1 ?_
    show jWp 199 20 [some (jO m), some (jI c), some (jI 1)] [jI 1, jI (p : Int), jO m] 0 0 w _
    refine jWp.ifc (b := false) mt rfl (by decide) rfl ?_
    show jWp 199 23 [some (jO m), some (jI c), some (jI 1)] [jI (p : Int), jO m] 0 0 w _
    refine jWp.blk mt 3 ?_
    show jWp 199 29 [some (jO m), some (jI c), some (jI 1)] [jI ((p : Int) + 1), jO m] 0 0 w _
    refine jWp.putI (pc' := 32) mt rfl rfl (jtg hW.K0) ?_
    show jWp 199 32 [some (jO m), some (jI c), some (jI 1)] [] 0 0 (jW w m 25 ((p : Int) + 1)) _
    refine jWp.blk mt 1 ?_
    show jWp 199 33 [some (jO m), some (jI c), some (jI 1)] [jI 1] 0 0 (jW w m 25 ((p : Int) + 1)) _
    refine jWp.iretz mt rfl ⟨rfl, rfl⟩ rfl (Or.inr rfl) ?_
    first
    | exact Or.inl ⟨rfl, rfl, by omega⟩
    | exact Or.inr ⟨rfl, by rw [Int.add_zero]; exact jW_id hp, by omega⟩
set_option maxHeartbeats 4000000 in
set_option maxRecDepth 20000 in
theorem E_hasFigure {w : jS} {m : Nat} (hW : MW w.2 m) {F p : Nat} {t : Nat → Int} (hF : w.1 m 24 = (F : Int)) (hF72 : F ≤ 72) (hp : w.1 m 25 = (p : Int)) (hp9 : p ≤ 200) (ht : w.1 (m + 421) = t) (hL : ∀ j, j < F → 0 ≤ t j ∧ t j ≤ 255) {k : Nat} (hk : k < 3) : jCall 200 [jO m, jI (k : Int)] w (fun v w1 => (v = some (jI 1) ∧ w1 = jW (jW w (m + 422) k ((zlt t F p) - 48)) m 25 ((p + 1 : Nat) : Int) ∧ (48 ≤ (zlt t F p) ∧ (zlt t F p) ≤ 57)) ∨ (v = some (jI 0) ∧ w1 = jW w (m + 422) k 0 ∧ ¬ (48 ≤ (zlt t F p) ∧ (zlt t F p) ≤ 57))) := by
  have mt : jtb 200 = jT200 := rfl
  have hzb := zlt_b hL p
  show jWp 200 0 [some (jO m), some (jI (k : Int)), none] [] 0 0 w _
  refine jWp.blk mt 1 ?_
  show _ ∧ jWp 200 1 [some (jO m), some (jI (k : Int)), none] [jO m] 0 0 w _
  refine ⟨rfl, ?_⟩
  refine jWp.callv (as := [jO m]) (rest := []) mt rfl rfl rfl ⟨rfl, jtg hW.K0⟩ ?_
  refine jCall.mono (E_here hW hF hF72 hp hp9 ht hL) (fun v9 w9 h9 => ?_)
  obtain ⟨rfl, h9⟩ := h9
  subst w9
  show jWp 200 4 [some (jO m), some (jI (k : Int)), none] [jI (zlt t F p)] 0 0 w _
  refine jWp.i2l (pc' := 5) mt rfl rfl (b32_id (by omega) (by omega)) ?_
  show jWp 200 5 [some (jO m), some (jI (k : Int)), none] [jJ (zlt t F p)] 0 0 w _
  refine jWp.blk mt 2 ?_
  show jWp 200 11 [some (jO m), some (jI (k : Int)), none] [jJ 57, jJ 48, jJ (zlt t F p)] 0 0 w _
  refine jWp.calls (as := [jJ (zlt t F p), jJ 48, jJ 57]) (rest := []) mt rfl rfl rfl rfl ?_
  refine jCall.mono (E_in (b64_id (by omega) (by omega)) (show b64 48 = 48 by decide) (show b64 57 = 57 by decide)) (fun v9 w9 h9 => ?_)
  rcases h9 with ⟨rfl, h9, h1⟩ | ⟨rfl, h9, h1⟩ <;> subst w9
  · have h1 : 48 ≤ (zlt t F p) ∧ (zlt t F p) ≤ 57 := h1
    show jWp 200 14 [some (jO m), some (jI (k : Int)), none] [jI 1] 0 0 w _
    refine jWp.blk mt 2 ?_
    show _ ∧ jWp 200 16 [some (jO m), some (jI (k : Int)), some (jI 1)] [jO m] 0 0 w _
    refine ⟨rfl, ?_⟩
    refine jWp.getR (pc' := 19) (o := (m + 422)) mt rfl rfl (jtg hW.K0) hW.R26 ?_
    show jWp 200 19 [some (jO m), some (jI (k : Int)), some (jI 1)] [jO (m + 422)] 0 0 w _
    refine jWp.blk mt 2 ?_
    show jWp 200 21 [some (jO m), some (jI (k : Int)), some (jI 1)] [jI 1, jI (k : Int), jO (m + 422)] 0 0 w _
    refine jWp.ifc (b := false) mt rfl (by decide) rfl ?_
    show jWp 200 24 [some (jO m), some (jI (k : Int)), some (jI 1)] [jI (k : Int), jO (m + 422)] 0 0 w _
    refine jWp.blk mt 1 ?_
    show _ ∧ jWp 200 25 [some (jO m), some (jI (k : Int)), some (jI 1)] [jO m, jI (k : Int), jO (m + 422)] 0 0 w _
    refine ⟨rfl, ?_⟩
    refine jWp.callv (as := [jO m]) (rest := [jI (k : Int), jO (m + 422)]) mt rfl rfl rfl ⟨rfl, jtg hW.K0⟩ ?_
    refine jCall.mono (E_here hW hF hF72 hp hp9 ht hL) (fun v9 w9 h9 => ?_)
    obtain ⟨rfl, h9⟩ := h9
    subst w9
    show jWp 200 28 [some (jO m), some (jI (k : Int)), some (jI 1)] [jI (zlt t F p), jI (k : Int), jO (m + 422)] 0 0 w _
    refine jWp.blk mt 3 ?_
    show jWp 200 35 [some (jO m), some (jI (k : Int)), some (jI 1)] [jI ((zlt t F p) - 48), jI (k : Int), jO (m + 422)] 0 0 w _
    refine jWp.iast (pc' := 36) (j := k) mt rfl rfl (jtg hW.K422) (b32_id (by omega) (by omega)) (jlt hW.K422 (by omega)) ?_
    show jWp 200 36 [some (jO m), some (jI (k : Int)), some (jI 1)] [] 0 0 (jW w (m + 422) k ((zlt t F p) - 48)) _
    refine jWp.blk mt 2 ?_
    show _ ∧ _ ∧ jWp 200 38 [some (jO m), some (jI (k : Int)), some (jI 1)] [jO m, jO m] 0 0 (jW w (m + 422) k ((zlt t F p) - 48)) _
    refine ⟨rfl, rfl, ?_⟩
    refine jWp.getI (pc' := 41) mt rfl rfl (jtg hW.K0) ?_
    rw [show ((jW w (m + 422) k ((zlt t F p) - 48)).1 m 25) = (p : Int) from (((jW_a (by omega)).trans rfl).trans hp)]
    show jWp 200 41 [some (jO m), some (jI (k : Int)), some (jI 1)] [jI (p : Int), jO m] 0 0 (jW w (m + 422) k ((zlt t F p) - 48)) _
    refine jWp.blk mt 1 ?_
    show jWp 200 42 [some (jO m), some (jI (k : Int)), some (jI 1)] [jI 1, jI (p : Int), jO m] 0 0 (jW w (m + 422) k ((zlt t F p) - 48)) _
    refine jWp.ifc (b := false) mt rfl (by decide) rfl ?_
    show jWp 200 45 [some (jO m), some (jI (k : Int)), some (jI 1)] [jI (p : Int), jO m] 0 0 (jW w (m + 422) k ((zlt t F p) - 48)) _
    refine jWp.blk mt 3 ?_
    show jWp 200 51 [some (jO m), some (jI (k : Int)), some (jI 1)] [jI ((p : Int) + 1), jO m] 0 0 (jW w (m + 422) k ((zlt t F p) - 48)) _
    refine jWp.putI (pc' := 54) mt rfl rfl (jtg hW.K0) ?_
    show jWp 200 54 [some (jO m), some (jI (k : Int)), some (jI 1)] [] 0 0 (jW (jW w (m + 422) k ((zlt t F p) - 48)) m 25 ((p : Int) + 1)) _
    refine jWp.blk mt 1 ?_
    show jWp 200 55 [some (jO m), some (jI (k : Int)), some (jI 1)] [jI 1] 0 0 (jW (jW w (m + 422) k ((zlt t F p) - 48)) m 25 ((p : Int) + 1)) _
    refine jWp.iretz mt rfl ⟨rfl, rfl⟩ rfl (Or.inr rfl) ?_
    first
    | exact Or.inl ⟨rfl, rfl, by omega⟩
    | exact Or.inr ⟨rfl, by rw [Int.add_zero]; exact jW_id ((jW_a (by omega)).trans hp), by omega⟩
  · have h1 : ¬ (48 ≤ (zlt t F p) ∧ (zlt t F p) ≤ 57) := h1
    show jWp 200 14 [some (jO m), some (jI (k : Int)), none] [jI 0] 0 0 w _
    refine jWp.blk mt 2 ?_
    show _ ∧ jWp 200 16 [some (jO m), some (jI (k : Int)), some (jI 0)] [jO m] 0 0 w _
    refine ⟨rfl, ?_⟩
    refine jWp.getR (pc' := 19) (o := (m + 422)) mt rfl rfl (jtg hW.K0) hW.R26 ?_
    show jWp 200 19 [some (jO m), some (jI (k : Int)), some (jI 0)] [jO (m + 422)] 0 0 w _
    refine jWp.blk mt 2 ?_
    show jWp 200 21 [some (jO m), some (jI (k : Int)), some (jI 0)] [jI 0, jI (k : Int), jO (m + 422)] 0 0 w _
    refine jWp.ifc (b := true) mt rfl (by decide) rfl ?_
    show jWp 200 34 [some (jO m), some (jI (k : Int)), some (jI 0)] [jI (k : Int), jO (m + 422)] 0 0 w _
    refine jWp.blk mt 1 ?_
    show jWp 200 35 [some (jO m), some (jI (k : Int)), some (jI 0)] [jI 0, jI (k : Int), jO (m + 422)] 0 0 w _
    refine jWp.iast (pc' := 36) (j := k) mt rfl rfl (jtg hW.K422) (b32_id (by omega) (by omega)) (jlt hW.K422 (by omega)) ?_
    show jWp 200 36 [some (jO m), some (jI (k : Int)), some (jI 0)] [] 0 0 (jW w (m + 422) k 0) _
    refine jWp.blk mt 2 ?_
    show _ ∧ _ ∧ jWp 200 38 [some (jO m), some (jI (k : Int)), some (jI 0)] [jO m, jO m] 0 0 (jW w (m + 422) k 0) _
    refine ⟨rfl, rfl, ?_⟩
    refine jWp.getI (pc' := 41) mt rfl rfl (jtg hW.K0) ?_
    rw [show ((jW w (m + 422) k 0).1 m 25) = (p : Int) from (((jW_a (by omega)).trans rfl).trans hp)]
    show jWp 200 41 [some (jO m), some (jI (k : Int)), some (jI 0)] [jI (p : Int), jO m] 0 0 (jW w (m + 422) k 0) _
    refine jWp.blk mt 1 ?_
    show jWp 200 42 [some (jO m), some (jI (k : Int)), some (jI 0)] [jI 0, jI (p : Int), jO m] 0 0 (jW w (m + 422) k 0) _
    refine jWp.ifc (b := true) mt rfl (by decide) rfl ?_
    show jWp 200 49 [some (jO m), some (jI (k : Int)), some (jI 0)] [jI (p : Int), jO m] 0 0 (jW w (m + 422) k 0) _
    refine jWp.blk mt 2 ?_
    show jWp 200 51 [some (jO m), some (jI (k : Int)), some (jI 0)] [jI ((p : Int) + 0), jO m] 0 0 (jW w (m + 422) k 0) _
    refine jWp.putI (pc' := 54) mt rfl rfl (jtg hW.K0) ?_
    show jWp 200 54 [some (jO m), some (jI (k : Int)), some (jI 0)] [] 0 0 (jW (jW w (m + 422) k 0) m 25 ((p : Int) + 0)) _
    refine jWp.blk mt 1 ?_
    show jWp 200 55 [some (jO m), some (jI (k : Int)), some (jI 0)] [jI 0] 0 0 (jW (jW w (m + 422) k 0) m 25 ((p : Int) + 0)) _
    refine jWp.iretz mt rfl ⟨rfl, rfl⟩ rfl (Or.inl rfl) ?_
    first
    | exact Or.inl ⟨rfl, rfl, by omega⟩
    | exact Or.inr ⟨rfl, by rw [Int.add_zero]; exact jW_id ((jW_a (by omega)).trans hp), by omega⟩
set_option maxHeartbeats 4000000 in
set_option maxRecDepth 20000 in
theorem E_figuresOf {w : jS} {c : Int} (hc : r32 c) : jCall 201 [jI c] w (jvi (zdc c) w) := by
  have mt : jtb 201 = jT201 := rfl
  have hc1 : -2147483648 ≤ c ∧ c < 2147483648 := hc
  show jWp 201 0 [some (jI c)] [] 0 0 w _
  refine jWp.blk mt 1 ?_
  show jWp 201 1 [some (jI c)] [jI c] 0 0 w _
  refine jWp.sw mt rfl (Or.inr ⟨_, _, rfl⟩) (b32_id (by omega) (by omega)) ?_
  show jWp 201 (jsw [(98, 56), (109, 52), (110, 52), (115, 54), (119, 54)] 58 c) [some (jI c)] [] 0 0 w _
  unfold jsw; by_cases h1 : 98 = c
  · rw [if_pos h1]
    refine jWp.blk mt 1 ?_
    show jWp 201 57 [some (jI c)] [jI 3] 0 0 w _
    refine jWp.ireti mt rfl ⟨rfl, rfl⟩ rfl ?_
    refine ⟨?_, rfl⟩
    unfold zdc
    first
    | (rw [if_pos (by omega)]; done)
    | (rw [if_neg (by omega), if_pos (by omega)]; done)
    | (rw [if_neg (by omega), if_neg (by omega), if_pos (by omega)]; done)
    | (rw [if_neg (by omega), if_neg (by omega), if_neg (by omega)]; done)
  · rw [if_neg h1]
    unfold jsw; by_cases h2 : 109 = c
    · rw [if_pos h2]
      refine jWp.blk mt 1 ?_
      show jWp 201 53 [some (jI c)] [jI 1] 0 0 w _
      refine jWp.ireti mt rfl ⟨rfl, rfl⟩ rfl ?_
      refine ⟨?_, rfl⟩
      unfold zdc
      first
      | (rw [if_pos (by omega)]; done)
      | (rw [if_neg (by omega), if_pos (by omega)]; done)
      | (rw [if_neg (by omega), if_neg (by omega), if_pos (by omega)]; done)
      | (rw [if_neg (by omega), if_neg (by omega), if_neg (by omega)]; done)
    · rw [if_neg h2]
      unfold jsw; by_cases h3 : 110 = c
      · rw [if_pos h3]
        refine jWp.blk mt 1 ?_
        show jWp 201 53 [some (jI c)] [jI 1] 0 0 w _
        refine jWp.ireti mt rfl ⟨rfl, rfl⟩ rfl ?_
        refine ⟨?_, rfl⟩
        unfold zdc
        first
        | (rw [if_pos (by omega)]; done)
        | (rw [if_neg (by omega), if_pos (by omega)]; done)
        | (rw [if_neg (by omega), if_neg (by omega), if_pos (by omega)]; done)
        | (rw [if_neg (by omega), if_neg (by omega), if_neg (by omega)]; done)
      · rw [if_neg h3]
        unfold jsw; by_cases h4 : 115 = c
        · rw [if_pos h4]
          refine jWp.blk mt 1 ?_
          show jWp 201 55 [some (jI c)] [jI 2] 0 0 w _
          refine jWp.ireti mt rfl ⟨rfl, rfl⟩ rfl ?_
          refine ⟨?_, rfl⟩
          unfold zdc
          first
          | (rw [if_pos (by omega)]; done)
          | (rw [if_neg (by omega), if_pos (by omega)]; done)
          | (rw [if_neg (by omega), if_neg (by omega), if_pos (by omega)]; done)
          | (rw [if_neg (by omega), if_neg (by omega), if_neg (by omega)]; done)
        · rw [if_neg h4]
          unfold jsw; by_cases h5 : 119 = c
          · rw [if_pos h5]
            refine jWp.blk mt 1 ?_
            show jWp 201 55 [some (jI c)] [jI 2] 0 0 w _
            refine jWp.ireti mt rfl ⟨rfl, rfl⟩ rfl ?_
            refine ⟨?_, rfl⟩
            unfold zdc
            first
            | (rw [if_pos (by omega)]; done)
            | (rw [if_neg (by omega), if_pos (by omega)]; done)
            | (rw [if_neg (by omega), if_neg (by omega), if_pos (by omega)]; done)
            | (rw [if_neg (by omega), if_neg (by omega), if_neg (by omega)]; done)
          · rw [if_neg h5]
            unfold jsw
            refine jWp.blk mt 1 ?_
            show jWp 201 59 [some (jI c)] [jI 0] 0 0 w _
            refine jWp.ireti mt rfl ⟨rfl, rfl⟩ rfl ?_
            refine ⟨?_, rfl⟩
            unfold zdc
            first
            | (rw [if_pos (by omega)]; done)
            | (rw [if_neg (by omega), if_pos (by omega)]; done)
            | (rw [if_neg (by omega), if_neg (by omega), if_pos (by omega)]; done)
            | (rw [if_neg (by omega), if_neg (by omega), if_neg (by omega)]; done)
/-- what a statement that is read leaves: the place behind it, its numbers -/
def zsg (w : jS) (m : Nat) (w1 : jS) : Prop := w1.2 = w.2 ∧ (∀ a, a ≠ m → a ≠ m + 422 → w1.1 a = w.1 a) ∧ ∀ j, j ≠ 25 → w1.1 m j = w.1 m j
theorem zsg_q {w w1 : jS} {m : Nat} (h : zsg w m w1) : mq w m w1 := ⟨h.1, fun a ha => h.2.1 a (by omega) (by omega), h.2.2 15 (by decide), h.2.2 24 (by decide), h.2.2 31 (by decide)⟩
def zst1 (t : Nat → Int) (F p : Nat) (N : Nat → Int) : Prop :=
  (zlt t F p = 110 ∨ zlt t F p = 109 ∨ zlt t F p = 115 ∨ zlt t F p = 119 ∨ zlt t F p = 98) ∧ (N 0 = zfg (zlt t F (p + 1)) ∧ 0 ≤ N 0 ∧ N 0 ≤ 9) ∧ (zlt t F p = 115 ∨ zlt t F p = 119 ∨ zlt t F p = 98 → N 1 = zfg (zlt t F (p + 2)) ∧ 0 ≤ N 1 ∧ N 1 ≤ 9) ∧ (zlt t F p = 98 → N 2 = znm t F (p + 3) ∧ -9 ≤ N 2 ∧ N 2 ≤ 9)
set_option maxHeartbeats 4000000 in
set_option maxRecDepth 20000 in
theorem E_hasStatement {w : jS} {m : Nat} (hW : MW w.2 m) {F p : Nat} {t : Nat → Int} (hF : w.1 m 24 = (F : Int)) (hF72 : F ≤ 72) (hp : w.1 m 25 = (p : Int)) (hp9 : p ≤ 100) (ht : w.1 (m + 421) = t) (hL : ∀ j, j < F → 0 ≤ t j ∧ t j ≤ 255) : jCall 202 [jO m] w (fun v w1 => ∃ b : Nat, zsg w m w1 ∧ w1.1 m 25 = (b : Int) ∧ ((v = some (jI 1) ∧ zbh t F p = (b : Int) ∧ p < b ∧ b ≤ F ∧ b ≤ p + 6 ∧ zst1 t F p (w1.1 (m + 422))) ∨ (v = some (jI 0) ∧ zbh t F p = -1 - (b : Int) ∧ p ≤ b ∧ b ≤ p + 5))) := by
  have mt : jtb 202 = jT202 := rfl
  show jWp 202 0 [some (jO m), none, none, none, none, none] [] 0 0 w _
  refine jWp.blk mt 1 ?_
  show _ ∧ jWp 202 1 [some (jO m), none, none, none, none, none] [jO m] 0 0 w _
  refine ⟨rfl, ?_⟩
  refine jWp.callv (as := [jO m]) (rest := []) mt rfl rfl rfl ⟨rfl, jtg hW.K0⟩ ?_
  refine jCall.mono (E_here (w := w) (F := F) (p := p) (t := t) hW hF hF72 hp (by omega) ht hL) (fun v9 w9 h9 => ?_)
  obtain ⟨rfl, h9⟩ := h9
  subst w9
  show jWp 202 4 [some (jO m), none, none, none, none, none] [jI (zlt t F p)] 0 0 w _
  refine jWp.blk mt 2 ?_
  show jWp 202 6 [some (jO m), some (jI (zlt t F p)), none, none, none, none] [jI (zlt t F p)] 0 0 w _
  refine jWp.calls (as := [jI (zlt t F p)]) (rest := []) mt rfl rfl rfl rfl ?_
  refine jCall.mono (E_figuresOf (c := zlt t F p) (by have := zlt_b hL p; exact ⟨by omega, by omega⟩)) (fun v9 w9 h9 => ?_)
  obtain ⟨rfl, h9⟩ := h9
  subst w9
  rcases (show (zlt t F p = 110 ∨ zlt t F p = 109) ∨ (zlt t F p = 115 ∨ zlt t F p = 119) ∨ zlt t F p = 98 ∨ (zlt t F p ≠ 110 ∧ zlt t F p ≠ 109 ∧ zlt t F p ≠ 115 ∧ zlt t F p ≠ 119 ∧ zlt t F p ≠ 98) by omega) with h1 | h1 | h1 | h1
  · rw [show zdc (zlt t F p) = 1 by unfold zdc; rw [if_pos (by omega)]]
    show jWp 202 9 [some (jO m), some (jI (zlt t F p)), none, none, none, none] [jI 1] 0 0 w _
    refine jWp.blk mt 2 ?_
    show jWp 202 11 [some (jO m), some (jI (zlt t F p)), some (jI 1), none, none, none] [jI 1] 0 0 w _
    refine jWp.ifc (b := true) mt rfl (by decide) rfl ?_
    show jWp 202 16 [some (jO m), some (jI (zlt t F p)), some (jI 1), none, none, none] [] 0 0 w _
    refine jWp.blk mt 2 ?_
    show _ ∧ _ ∧ jWp 202 18 [some (jO m), some (jI (zlt t F p)), some (jI 1), none, none, none] [jO m, jO m] 0 0 w _
    refine ⟨rfl, rfl, ?_⟩
    refine jWp.getI (pc' := 21) mt rfl rfl (jtg hW.K0) ?_
    rw [show (w.1 m 25) = (p : Int) from hp]
    show jWp 202 21 [some (jO m), some (jI (zlt t F p)), some (jI 1), none, none, none] [jI (p : Int), jO m] 0 0 w _
    refine jWp.blk mt 2 ?_
    show jWp 202 23 [some (jO m), some (jI (zlt t F p)), some (jI 1), none, none, none] [jI ((p : Int) + 1), jO m] 0 0 w _
    refine jWp.putI (pc' := 26) mt rfl rfl (jtg hW.K0) ?_
    show jWp 202 26 [some (jO m), some (jI (zlt t F p)), some (jI 1), none, none, none] [] 0 0 (jW w m 25 ((p : Int) + 1)) _
    refine jWp.blk mt 6 ?_
    show jWp 202 34 [some (jO m), some (jI (zlt t F p)), some (jI 1), some (jI 1), some (jI 0), none] [jI 1, jI 0] 0 0 (jW w m 25 ((p : Int) + 1)) _
    refine jWp.icmp (pc' := 37) mt rfl rfl (show b32 0 = 0 by decide) (show b32 1 = 1 by decide) (fun h2 => ?_) (fun h2 => ?_)
    · exact absurd (show 1 ≤ (0 : Int) from h2) (by decide)
    · have h2 := h2
      refine jWp.blk mt 1 ?_
      show jWp 202 38 [some (jO m), some (jI (zlt t F p)), some (jI 1), some (jI 1), some (jI 0), none] [jI 1] 0 0 (jW w m 25 ((p : Int) + 1)) _
      refine jWp.ifc (b := false) mt rfl (by decide) rfl ?_
      show jWp 202 41 [some (jO m), some (jI (zlt t F p)), some (jI 1), some (jI 1), some (jI 0), none] [] 0 0 (jW w m 25 ((p : Int) + 1)) _
      refine jWp.blk mt 2 ?_
      show jWp 202 44 [some (jO m), some (jI (zlt t F p)), some (jI 1), some (jI 1), some (jI 0), none] [jI 98, jI (zlt t F p)] 0 0 (jW w m 25 ((p : Int) + 1)) _
      refine jWp.icmp (pc' := 47) mt rfl rfl (b32_id (by have := zlt_b hL p; omega) (by have := zlt_b hL p; omega)) (show b32 98 = 98 by decide) (fun h3 => ?_) (fun h3 => ?_)
      · have h3 : (zlt t F p) ≠ 98 := h3
        refine jWp.blk mt 4 ?_
        show _ ∧ jWp 202 72 [some (jO m), some (jI (zlt t F p)), some (jI 1), some (jI 1), some (jI 0), some (jI 0)] [jI 0, jO m] 0 0 (jW w m 25 ((p : Int) + 1)) _
        refine ⟨rfl, ?_⟩
        refine jWp.callv (as := [jO m, jI 0]) (rest := []) mt rfl rfl rfl ⟨rfl, jtg hW.K0⟩ ?_
        refine jCall.mono (E_hasFigure (w := (jW w m 25 ((p : Int) + 1))) (F := F) (p := (p + 1)) (t := t) hW (((jW_k (by decide)).trans rfl).trans hF) hF72 (jW_s.trans (by omega)) (by omega) (((jW_f (by omega)).trans rfl).trans ht) hL (k := 0) (by decide)) (fun v9 w9 h9 => ?_)
        rcases h9 with ⟨rfl, h9, h4⟩ | ⟨rfl, h9, h4⟩ <;> subst h9
        · have h4' := h4
          show jWp 202 75 [some (jO m), some (jI (zlt t F p)), some (jI 1), some (jI 1), some (jI 0), some (jI 0)] [jI 1] 0 0 (jW (jW (jW w m 25 ((p : Int) + 1)) (m + 422) 0 (zlt t F (p + 1) - 48)) m 25 ((p + 2 : Nat) : Int)) _
          refine jWp.blk mt 2 ?_
          show _ ∧ jWp 202 77 [some (jO m), some (jI (zlt t F p)), some (jI 1), some (jI 1), some (jI 0), some (jI 0)] [jO m] 0 0 (jW (jW (jW w m 25 ((p : Int) + 1)) (m + 422) 0 (zlt t F (p + 1) - 48)) m 25 ((p + 2 : Nat) : Int)) _
          refine ⟨rfl, ?_⟩
          refine jWp.getR (pc' := 80) (o := (m + 422)) mt rfl rfl (jtg hW.K0) hW.R26 ?_
          show jWp 202 80 [some (jO m), some (jI (zlt t F p)), some (jI 1), some (jI 1), some (jI 0), some (jI 0)] [jO (m + 422)] 0 0 (jW (jW (jW w m 25 ((p : Int) + 1)) (m + 422) 0 (zlt t F (p + 1) - 48)) m 25 ((p + 2 : Nat) : Int)) _
          refine jWp.blk mt 2 ?_
          show jWp 202 84 [some (jO m), some (jI (zlt t F p)), some (jI 1), some (jI 1), some (jI 0), some (jI 0)] [jI 0, jI 0, jO (m + 422)] 0 0 (jW (jW (jW w m 25 ((p : Int) + 1)) (m + 422) 0 (zlt t F (p + 1) - 48)) m 25 ((p + 2 : Nat) : Int)) _
          refine jWp.ifc (b := true) mt rfl (by decide) rfl ?_
          show jWp 202 98 [some (jO m), some (jI (zlt t F p)), some (jI 1), some (jI 1), some (jI 0), some (jI 0)] [jI 0, jO (m + 422)] 0 0 (jW (jW (jW w m 25 ((p : Int) + 1)) (m + 422) 0 (zlt t F (p + 1) - 48)) m 25 ((p + 2 : Nat) : Int)) _
          refine jWp.blk mt 1 ?_
          show _ ∧ jWp 202 99 [some (jO m), some (jI (zlt t F p)), some (jI 1), some (jI 1), some (jI 0), some (jI 0)] [jO m, jI 0, jO (m + 422)] 0 0 (jW (jW (jW w m 25 ((p : Int) + 1)) (m + 422) 0 (zlt t F (p + 1) - 48)) m 25 ((p + 2 : Nat) : Int)) _
          refine ⟨rfl, ?_⟩
          refine jWp.getR (pc' := 102) (o := (m + 422)) mt rfl rfl (jtg hW.K0) hW.R26 ?_
          show jWp 202 102 [some (jO m), some (jI (zlt t F p)), some (jI 1), some (jI 1), some (jI 0), some (jI 0)] [jO (m + 422), jI 0, jO (m + 422)] 0 0 (jW (jW (jW w m 25 ((p : Int) + 1)) (m + 422) 0 (zlt t F (p + 1) - 48)) m 25 ((p + 2 : Nat) : Int)) _
          refine jWp.blk mt 1 ?_
          show jWp 202 104 [some (jO m), some (jI (zlt t F p)), some (jI 1), some (jI 1), some (jI 0), some (jI 0)] [jI 0, jO (m + 422), jI 0, jO (m + 422)] 0 0 (jW (jW (jW w m 25 ((p : Int) + 1)) (m + 422) 0 (zlt t F (p + 1) - 48)) m 25 ((p + 2 : Nat) : Int)) _
          refine jWp.iald (pc' := 105) (j := 0) mt rfl rfl (jird_of hW.K422) (by decide) (jlt hW.K422 (by decide)) ?_
          rw [show ((jW (jW (jW w m 25 ((p : Int) + 1)) (m + 422) 0 (zlt t F (p + 1) - 48)) m 25 ((p + 2 : Nat) : Int)).1 (m + 422) 0) = (zlt t F (p + 1) - 48) from ((jW_a (by omega)).trans jW_s)]
          show jWp 202 105 [some (jO m), some (jI (zlt t F p)), some (jI 1), some (jI 1), some (jI 0), some (jI 0)] [jI (zlt t F (p + 1) - 48), jI 0, jO (m + 422)] 0 0 (jW (jW (jW w m 25 ((p : Int) + 1)) (m + 422) 0 (zlt t F (p + 1) - 48)) m 25 ((p + 2 : Nat) : Int)) _
          refine jWp.iast (pc' := 106) (j := 0) mt rfl rfl (jtg hW.K422) (by decide) (jlt hW.K422 (by decide)) ?_
          show jWp 202 106 [some (jO m), some (jI (zlt t F p)), some (jI 1), some (jI 1), some (jI 0), some (jI 0)] [] 0 0 (jW (jW (jW (jW w m 25 ((p : Int) + 1)) (m + 422) 0 (zlt t F (p + 1) - 48)) m 25 ((p + 2 : Nat) : Int)) (m + 422) 0 (zlt t F (p + 1) - 48)) _
          refine jWp.blk mt 4 ?_
          show jWp 202 34 [some (jO m), some (jI (zlt t F p)), some (jI 1), some (jI 1), some (jI 1), some (jI 0)] [jI 1, jI 1] 0 0 (jW (jW (jW (jW w m 25 ((p : Int) + 1)) (m + 422) 0 (zlt t F (p + 1) - 48)) m 25 ((p + 2 : Nat) : Int)) (m + 422) 0 (zlt t F (p + 1) - 48)) _
          refine jWp.icmp (pc' := 37) mt rfl rfl (show b32 1 = 1 by decide) (show b32 1 = 1 by decide) (fun h5 => ?_) (fun h5 => ?_)
          · have h5 := h5
            refine jWp.blk mt 1 ?_
            show jWp 202 113 [some (jO m), some (jI (zlt t F p)), some (jI 1), some (jI 1), some (jI 1), some (jI 0)] [jI 1] 0 0 (jW (jW (jW (jW w m 25 ((p : Int) + 1)) (m + 422) 0 (zlt t F (p + 1) - 48)) m 25 ((p + 2 : Nat) : Int)) (m + 422) 0 (zlt t F (p + 1) - 48)) _
            refine jWp.ifc (b := false) mt rfl (by decide) rfl ?_
            show jWp 202 116 [some (jO m), some (jI (zlt t F p)), some (jI 1), some (jI 1), some (jI 1), some (jI 0)] [] 0 0 (jW (jW (jW (jW w m 25 ((p : Int) + 1)) (m + 422) 0 (zlt t F (p + 1) - 48)) m 25 ((p + 2 : Nat) : Int)) (m + 422) 0 (zlt t F (p + 1) - 48)) _
            refine jWp.blk mt 2 ?_
            show _ ∧ jWp 202 119 [some (jO m), some (jI (zlt t F p)), some (jI 1), some (jI 1), some (jI 1), some (jI 0)] [jI 59, jO m] 0 0 (jW (jW (jW (jW w m 25 ((p : Int) + 1)) (m + 422) 0 (zlt t F (p + 1) - 48)) m 25 ((p + 2 : Nat) : Int)) (m + 422) 0 (zlt t F (p + 1) - 48)) _
            refine ⟨rfl, ?_⟩
            refine jWp.callv (as := [jO m, jI 59]) (rest := []) mt rfl rfl rfl ⟨rfl, jtg hW.K0⟩ ?_
            refine jCall.mono (E_takes (w := (jW (jW (jW (jW w m 25 ((p : Int) + 1)) (m + 422) 0 (zlt t F (p + 1) - 48)) m 25 ((p + 2 : Nat) : Int)) (m + 422) 0 (zlt t F (p + 1) - 48))) (F := F) (p := (p + 2)) (t := t) hW (((jW_a (by omega)).trans ((jW_k (by decide)).trans ((jW_a (by omega)).trans ((jW_k (by decide)).trans rfl)))).trans hF) hF72 (((jW_a (by omega)).trans jW_s).trans (by omega)) (by omega) (((jW_f (by omega)).trans ((jW_f (by omega)).trans ((jW_f (by omega)).trans ((jW_f (by omega)).trans rfl)))).trans ht) hL (c := 59) (by unfold r32; decide)) (fun v9 w9 h9 => ?_)
            rcases h9 with ⟨rfl, h9, h6⟩ | ⟨rfl, h9, h6⟩ <;> subst h9
            · have h6' := h6
              show jWp 202 122 [some (jO m), some (jI (zlt t F p)), some (jI 1), some (jI 1), some (jI 1), some (jI 0)] [jI 1] 0 0 (jW (jW (jW (jW (jW w m 25 ((p : Int) + 1)) (m + 422) 0 (zlt t F (p + 1) - 48)) m 25 ((p + 2 : Nat) : Int)) (m + 422) 0 (zlt t F (p + 1) - 48)) m 25 ((p + 3 : Nat) : Int)) _
              refine jWp.ifc (b := false) mt rfl (by decide) rfl ?_
              show jWp 202 125 [some (jO m), some (jI (zlt t F p)), some (jI 1), some (jI 1), some (jI 1), some (jI 0)] [] 0 0 (jW (jW (jW (jW (jW w m 25 ((p : Int) + 1)) (m + 422) 0 (zlt t F (p + 1) - 48)) m 25 ((p + 2 : Nat) : Int)) (m + 422) 0 (zlt t F (p + 1) - 48)) m 25 ((p + 3 : Nat) : Int)) _
              refine jWp.blk mt 2 ?_
              show jWp 202 130 [some (jO m), some (jI (zlt t F p)), some (jI 1), some (jI 1), some (jI 1), some (jI 0)] [jI 1] 0 0 (jW (jW (jW (jW (jW w m 25 ((p : Int) + 1)) (m + 422) 0 (zlt t F (p + 1) - 48)) m 25 ((p + 2 : Nat) : Int)) (m + 422) 0 (zlt t F (p + 1) - 48)) m 25 ((p + 3 : Nat) : Int)) _
              refine jWp.iretz mt rfl ⟨rfl, rfl⟩ rfl (Or.inr rfl) ?_
              have hl9 := zlt_l (t := t) (F := F) (by assumption : zlt t F (p + 2) = 59) (by decide)
              refine ⟨(p + 3), ⟨rfl, fun a ga gb => ((jW_f (by omega)).trans ((jW_f (by omega)).trans ((jW_f (by omega)).trans ((jW_f (by omega)).trans ((jW_f (by omega)).trans rfl))))), fun j gj => ((jW_k (by omega)).trans ((jW_a (by omega)).trans ((jW_k (by omega)).trans ((jW_a (by omega)).trans ((jW_k (by omega)).trans rfl)))))⟩, jW_s, Or.inl ⟨rfl, ?_, by omega, by omega, by omega, by omega, ⟨((jW_a (by omega)).trans jW_s).trans ?_, by rw [((jW_a (by omega)).trans jW_s)]; omega, by rw [((jW_a (by omega)).trans jW_s)]; omega⟩, ?_, ?_⟩⟩
              · unfold zbh zfn
                (repeat' split) <;> omega
              · unfold zfg
                split <;> omega
              · intro hc9
                first
                | (exfalso; omega)
                | (rw [((jW_a (by omega)).trans ((jW_k (by decide)).trans ((jW_a (by omega)).trans ((jW_k (by decide)).trans ((jW_a (by omega)).trans rfl)))))]
                   refine ⟨?_, by omega, by omega⟩
                   unfold zfg
                   split <;> omega)
              · intro hc9
                first
                | (exfalso; omega)
                | (rw [((jW_a (by omega)).trans ((jW_k (by decide)).trans ((jW_a (by omega)).trans ((jW_k (by decide)).trans ((jW_a (by omega)).trans rfl)))))]
                   refine ⟨?_, by omega, by omega⟩
                   unfold znm zfg
                   try rw [show p + 3 + 1 = p + 4 from rfl]
                   (repeat' split) <;> omega)
            · have h6' := h6
              show jWp 202 122 [some (jO m), some (jI (zlt t F p)), some (jI 1), some (jI 1), some (jI 1), some (jI 0)] [jI 0] 0 0 (jW (jW (jW (jW w m 25 ((p : Int) + 1)) (m + 422) 0 (zlt t F (p + 1) - 48)) m 25 ((p + 2 : Nat) : Int)) (m + 422) 0 (zlt t F (p + 1) - 48)) _
              refine jWp.ifc (b := true) mt rfl (by decide) rfl ?_
              show jWp 202 129 [some (jO m), some (jI (zlt t F p)), some (jI 1), some (jI 1), some (jI 1), some (jI 0)] [] 0 0 (jW (jW (jW (jW w m 25 ((p : Int) + 1)) (m + 422) 0 (zlt t F (p + 1) - 48)) m 25 ((p + 2 : Nat) : Int)) (m + 422) 0 (zlt t F (p + 1) - 48)) _
              refine jWp.blk mt 1 ?_
              show jWp 202 130 [some (jO m), some (jI (zlt t F p)), some (jI 1), some (jI 1), some (jI 1), some (jI 0)] [jI 0] 0 0 (jW (jW (jW (jW w m 25 ((p : Int) + 1)) (m + 422) 0 (zlt t F (p + 1) - 48)) m 25 ((p + 2 : Nat) : Int)) (m + 422) 0 (zlt t F (p + 1) - 48)) _
              refine jWp.iretz mt rfl ⟨rfl, rfl⟩ rfl (Or.inl rfl) ?_
              refine ⟨(p + 2), ⟨rfl, fun a ga gb => ((jW_f (by omega)).trans ((jW_f (by omega)).trans ((jW_f (by omega)).trans ((jW_f (by omega)).trans rfl)))), fun j gj => ((jW_a (by omega)).trans ((jW_k (by omega)).trans ((jW_a (by omega)).trans ((jW_k (by omega)).trans rfl))))⟩, ((jW_a (by omega)).trans jW_s).trans (by omega), Or.inr ⟨rfl, ?_, by omega, by omega⟩⟩
              unfold zbh zfn
              (repeat' split) <;> omega
          · exact absurd (show (1 : Int) < 1 from h5) (by decide)
        · have h4' := h4
          show jWp 202 75 [some (jO m), some (jI (zlt t F p)), some (jI 1), some (jI 1), some (jI 0), some (jI 0)] [jI 0] 0 0 (jW (jW w m 25 ((p : Int) + 1)) (m + 422) 0 0) _
          refine jWp.blk mt 2 ?_
          show _ ∧ jWp 202 77 [some (jO m), some (jI (zlt t F p)), some (jI 1), some (jI 0), some (jI 0), some (jI 0)] [jO m] 0 0 (jW (jW w m 25 ((p : Int) + 1)) (m + 422) 0 0) _
          refine ⟨rfl, ?_⟩
          refine jWp.getR (pc' := 80) (o := (m + 422)) mt rfl rfl (jtg hW.K0) hW.R26 ?_
          show jWp 202 80 [some (jO m), some (jI (zlt t F p)), some (jI 1), some (jI 0), some (jI 0), some (jI 0)] [jO (m + 422)] 0 0 (jW (jW w m 25 ((p : Int) + 1)) (m + 422) 0 0) _
          refine jWp.blk mt 2 ?_
          show jWp 202 84 [some (jO m), some (jI (zlt t F p)), some (jI 1), some (jI 0), some (jI 0), some (jI 0)] [jI 0, jI 0, jO (m + 422)] 0 0 (jW (jW w m 25 ((p : Int) + 1)) (m + 422) 0 0) _
          refine jWp.ifc (b := true) mt rfl (by decide) rfl ?_
          show jWp 202 98 [some (jO m), some (jI (zlt t F p)), some (jI 1), some (jI 0), some (jI 0), some (jI 0)] [jI 0, jO (m + 422)] 0 0 (jW (jW w m 25 ((p : Int) + 1)) (m + 422) 0 0) _
          refine jWp.blk mt 1 ?_
          show _ ∧ jWp 202 99 [some (jO m), some (jI (zlt t F p)), some (jI 1), some (jI 0), some (jI 0), some (jI 0)] [jO m, jI 0, jO (m + 422)] 0 0 (jW (jW w m 25 ((p : Int) + 1)) (m + 422) 0 0) _
          refine ⟨rfl, ?_⟩
          refine jWp.getR (pc' := 102) (o := (m + 422)) mt rfl rfl (jtg hW.K0) hW.R26 ?_
          show jWp 202 102 [some (jO m), some (jI (zlt t F p)), some (jI 1), some (jI 0), some (jI 0), some (jI 0)] [jO (m + 422), jI 0, jO (m + 422)] 0 0 (jW (jW w m 25 ((p : Int) + 1)) (m + 422) 0 0) _
          refine jWp.blk mt 1 ?_
          show jWp 202 104 [some (jO m), some (jI (zlt t F p)), some (jI 1), some (jI 0), some (jI 0), some (jI 0)] [jI 0, jO (m + 422), jI 0, jO (m + 422)] 0 0 (jW (jW w m 25 ((p : Int) + 1)) (m + 422) 0 0) _
          refine jWp.iald (pc' := 105) (j := 0) mt rfl rfl (jird_of hW.K422) (by decide) (jlt hW.K422 (by decide)) ?_
          rw [show ((jW (jW w m 25 ((p : Int) + 1)) (m + 422) 0 0).1 (m + 422) 0) = 0 from jW_s]
          show jWp 202 105 [some (jO m), some (jI (zlt t F p)), some (jI 1), some (jI 0), some (jI 0), some (jI 0)] [jI 0, jI 0, jO (m + 422)] 0 0 (jW (jW w m 25 ((p : Int) + 1)) (m + 422) 0 0) _
          refine jWp.iast (pc' := 106) (j := 0) mt rfl rfl (jtg hW.K422) (by decide) (jlt hW.K422 (by decide)) ?_
          show jWp 202 106 [some (jO m), some (jI (zlt t F p)), some (jI 1), some (jI 0), some (jI 0), some (jI 0)] [] 0 0 (jW (jW (jW w m 25 ((p : Int) + 1)) (m + 422) 0 0) (m + 422) 0 0) _
          refine jWp.blk mt 4 ?_
          show jWp 202 34 [some (jO m), some (jI (zlt t F p)), some (jI 1), some (jI 0), some (jI 1), some (jI 0)] [jI 1, jI 1] 0 0 (jW (jW (jW w m 25 ((p : Int) + 1)) (m + 422) 0 0) (m + 422) 0 0) _
          refine jWp.icmp (pc' := 37) mt rfl rfl (show b32 1 = 1 by decide) (show b32 1 = 1 by decide) (fun h7 => ?_) (fun h7 => ?_)
          · have h7 := h7
            refine jWp.blk mt 1 ?_
            show jWp 202 113 [some (jO m), some (jI (zlt t F p)), some (jI 1), some (jI 0), some (jI 1), some (jI 0)] [jI 0] 0 0 (jW (jW (jW w m 25 ((p : Int) + 1)) (m + 422) 0 0) (m + 422) 0 0) _
            refine jWp.ifc (b := true) mt rfl (by decide) rfl ?_
            show jWp 202 129 [some (jO m), some (jI (zlt t F p)), some (jI 1), some (jI 0), some (jI 1), some (jI 0)] [] 0 0 (jW (jW (jW w m 25 ((p : Int) + 1)) (m + 422) 0 0) (m + 422) 0 0) _
            refine jWp.blk mt 1 ?_
            show jWp 202 130 [some (jO m), some (jI (zlt t F p)), some (jI 1), some (jI 0), some (jI 1), some (jI 0)] [jI 0] 0 0 (jW (jW (jW w m 25 ((p : Int) + 1)) (m + 422) 0 0) (m + 422) 0 0) _
            refine jWp.iretz mt rfl ⟨rfl, rfl⟩ rfl (Or.inl rfl) ?_
            refine ⟨(p + 1), ⟨rfl, fun a ga gb => ((jW_f (by omega)).trans ((jW_f (by omega)).trans ((jW_f (by omega)).trans rfl))), fun j gj => ((jW_a (by omega)).trans ((jW_a (by omega)).trans ((jW_k (by omega)).trans rfl)))⟩, ((jW_a (by omega)).trans ((jW_a (by omega)).trans jW_s)).trans (by omega), Or.inr ⟨rfl, ?_, by omega, by omega⟩⟩
            unfold zbh zfn
            (repeat' split) <;> omega
          · exact absurd (show (1 : Int) < 1 from h7) (by decide)
      · have h3 : (zlt t F p) = 98 := h3
        exfalso; omega
  · rw [show zdc (zlt t F p) = 2 by unfold zdc; rw [if_neg (by omega), if_pos (by omega)]]
    show jWp 202 9 [some (jO m), some (jI (zlt t F p)), none, none, none, none] [jI 2] 0 0 w _
    refine jWp.blk mt 2 ?_
    show jWp 202 11 [some (jO m), some (jI (zlt t F p)), some (jI 2), none, none, none] [jI 2] 0 0 w _
    refine jWp.ifc (b := true) mt rfl (by decide) rfl ?_
    show jWp 202 16 [some (jO m), some (jI (zlt t F p)), some (jI 2), none, none, none] [] 0 0 w _
    refine jWp.blk mt 2 ?_
    show _ ∧ _ ∧ jWp 202 18 [some (jO m), some (jI (zlt t F p)), some (jI 2), none, none, none] [jO m, jO m] 0 0 w _
    refine ⟨rfl, rfl, ?_⟩
    refine jWp.getI (pc' := 21) mt rfl rfl (jtg hW.K0) ?_
    rw [show (w.1 m 25) = (p : Int) from hp]
    show jWp 202 21 [some (jO m), some (jI (zlt t F p)), some (jI 2), none, none, none] [jI (p : Int), jO m] 0 0 w _
    refine jWp.blk mt 2 ?_
    show jWp 202 23 [some (jO m), some (jI (zlt t F p)), some (jI 2), none, none, none] [jI ((p : Int) + 1), jO m] 0 0 w _
    refine jWp.putI (pc' := 26) mt rfl rfl (jtg hW.K0) ?_
    show jWp 202 26 [some (jO m), some (jI (zlt t F p)), some (jI 2), none, none, none] [] 0 0 (jW w m 25 ((p : Int) + 1)) _
    refine jWp.blk mt 6 ?_
    show jWp 202 34 [some (jO m), some (jI (zlt t F p)), some (jI 2), some (jI 1), some (jI 0), none] [jI 2, jI 0] 0 0 (jW w m 25 ((p : Int) + 1)) _
    refine jWp.icmp (pc' := 37) mt rfl rfl (show b32 0 = 0 by decide) (show b32 2 = 2 by decide) (fun h8 => ?_) (fun h8 => ?_)
    · exact absurd (show 2 ≤ (0 : Int) from h8) (by decide)
    · have h8 := h8
      refine jWp.blk mt 1 ?_
      show jWp 202 38 [some (jO m), some (jI (zlt t F p)), some (jI 2), some (jI 1), some (jI 0), none] [jI 1] 0 0 (jW w m 25 ((p : Int) + 1)) _
      refine jWp.ifc (b := false) mt rfl (by decide) rfl ?_
      show jWp 202 41 [some (jO m), some (jI (zlt t F p)), some (jI 2), some (jI 1), some (jI 0), none] [] 0 0 (jW w m 25 ((p : Int) + 1)) _
      refine jWp.blk mt 2 ?_
      show jWp 202 44 [some (jO m), some (jI (zlt t F p)), some (jI 2), some (jI 1), some (jI 0), none] [jI 98, jI (zlt t F p)] 0 0 (jW w m 25 ((p : Int) + 1)) _
      refine jWp.icmp (pc' := 47) mt rfl rfl (b32_id (by have := zlt_b hL p; omega) (by have := zlt_b hL p; omega)) (show b32 98 = 98 by decide) (fun h9 => ?_) (fun h9 => ?_)
      · have h9 : (zlt t F p) ≠ 98 := h9
        refine jWp.blk mt 4 ?_
        show _ ∧ jWp 202 72 [some (jO m), some (jI (zlt t F p)), some (jI 2), some (jI 1), some (jI 0), some (jI 0)] [jI 0, jO m] 0 0 (jW w m 25 ((p : Int) + 1)) _
        refine ⟨rfl, ?_⟩
        refine jWp.callv (as := [jO m, jI 0]) (rest := []) mt rfl rfl rfl ⟨rfl, jtg hW.K0⟩ ?_
        refine jCall.mono (E_hasFigure (w := (jW w m 25 ((p : Int) + 1))) (F := F) (p := (p + 1)) (t := t) hW (((jW_k (by decide)).trans rfl).trans hF) hF72 (jW_s.trans (by omega)) (by omega) (((jW_f (by omega)).trans rfl).trans ht) hL (k := 0) (by decide)) (fun v9 w9 h9 => ?_)
        rcases h9 with ⟨rfl, h9, h10⟩ | ⟨rfl, h9, h10⟩ <;> subst h9
        · have h10' := h10
          show jWp 202 75 [some (jO m), some (jI (zlt t F p)), some (jI 2), some (jI 1), some (jI 0), some (jI 0)] [jI 1] 0 0 (jW (jW (jW w m 25 ((p : Int) + 1)) (m + 422) 0 (zlt t F (p + 1) - 48)) m 25 ((p + 2 : Nat) : Int)) _
          refine jWp.blk mt 2 ?_
          show _ ∧ jWp 202 77 [some (jO m), some (jI (zlt t F p)), some (jI 2), some (jI 1), some (jI 0), some (jI 0)] [jO m] 0 0 (jW (jW (jW w m 25 ((p : Int) + 1)) (m + 422) 0 (zlt t F (p + 1) - 48)) m 25 ((p + 2 : Nat) : Int)) _
          refine ⟨rfl, ?_⟩
          refine jWp.getR (pc' := 80) (o := (m + 422)) mt rfl rfl (jtg hW.K0) hW.R26 ?_
          show jWp 202 80 [some (jO m), some (jI (zlt t F p)), some (jI 2), some (jI 1), some (jI 0), some (jI 0)] [jO (m + 422)] 0 0 (jW (jW (jW w m 25 ((p : Int) + 1)) (m + 422) 0 (zlt t F (p + 1) - 48)) m 25 ((p + 2 : Nat) : Int)) _
          refine jWp.blk mt 2 ?_
          show jWp 202 84 [some (jO m), some (jI (zlt t F p)), some (jI 2), some (jI 1), some (jI 0), some (jI 0)] [jI 0, jI 0, jO (m + 422)] 0 0 (jW (jW (jW w m 25 ((p : Int) + 1)) (m + 422) 0 (zlt t F (p + 1) - 48)) m 25 ((p + 2 : Nat) : Int)) _
          refine jWp.ifc (b := true) mt rfl (by decide) rfl ?_
          show jWp 202 98 [some (jO m), some (jI (zlt t F p)), some (jI 2), some (jI 1), some (jI 0), some (jI 0)] [jI 0, jO (m + 422)] 0 0 (jW (jW (jW w m 25 ((p : Int) + 1)) (m + 422) 0 (zlt t F (p + 1) - 48)) m 25 ((p + 2 : Nat) : Int)) _
          refine jWp.blk mt 1 ?_
          show _ ∧ jWp 202 99 [some (jO m), some (jI (zlt t F p)), some (jI 2), some (jI 1), some (jI 0), some (jI 0)] [jO m, jI 0, jO (m + 422)] 0 0 (jW (jW (jW w m 25 ((p : Int) + 1)) (m + 422) 0 (zlt t F (p + 1) - 48)) m 25 ((p + 2 : Nat) : Int)) _
          refine ⟨rfl, ?_⟩
          refine jWp.getR (pc' := 102) (o := (m + 422)) mt rfl rfl (jtg hW.K0) hW.R26 ?_
          show jWp 202 102 [some (jO m), some (jI (zlt t F p)), some (jI 2), some (jI 1), some (jI 0), some (jI 0)] [jO (m + 422), jI 0, jO (m + 422)] 0 0 (jW (jW (jW w m 25 ((p : Int) + 1)) (m + 422) 0 (zlt t F (p + 1) - 48)) m 25 ((p + 2 : Nat) : Int)) _
          refine jWp.blk mt 1 ?_
          show jWp 202 104 [some (jO m), some (jI (zlt t F p)), some (jI 2), some (jI 1), some (jI 0), some (jI 0)] [jI 0, jO (m + 422), jI 0, jO (m + 422)] 0 0 (jW (jW (jW w m 25 ((p : Int) + 1)) (m + 422) 0 (zlt t F (p + 1) - 48)) m 25 ((p + 2 : Nat) : Int)) _
          refine jWp.iald (pc' := 105) (j := 0) mt rfl rfl (jird_of hW.K422) (by decide) (jlt hW.K422 (by decide)) ?_
          rw [show ((jW (jW (jW w m 25 ((p : Int) + 1)) (m + 422) 0 (zlt t F (p + 1) - 48)) m 25 ((p + 2 : Nat) : Int)).1 (m + 422) 0) = (zlt t F (p + 1) - 48) from ((jW_a (by omega)).trans jW_s)]
          show jWp 202 105 [some (jO m), some (jI (zlt t F p)), some (jI 2), some (jI 1), some (jI 0), some (jI 0)] [jI (zlt t F (p + 1) - 48), jI 0, jO (m + 422)] 0 0 (jW (jW (jW w m 25 ((p : Int) + 1)) (m + 422) 0 (zlt t F (p + 1) - 48)) m 25 ((p + 2 : Nat) : Int)) _
          refine jWp.iast (pc' := 106) (j := 0) mt rfl rfl (jtg hW.K422) (by decide) (jlt hW.K422 (by decide)) ?_
          show jWp 202 106 [some (jO m), some (jI (zlt t F p)), some (jI 2), some (jI 1), some (jI 0), some (jI 0)] [] 0 0 (jW (jW (jW (jW w m 25 ((p : Int) + 1)) (m + 422) 0 (zlt t F (p + 1) - 48)) m 25 ((p + 2 : Nat) : Int)) (m + 422) 0 (zlt t F (p + 1) - 48)) _
          refine jWp.blk mt 4 ?_
          show jWp 202 34 [some (jO m), some (jI (zlt t F p)), some (jI 2), some (jI 1), some (jI 1), some (jI 0)] [jI 2, jI 1] 0 0 (jW (jW (jW (jW w m 25 ((p : Int) + 1)) (m + 422) 0 (zlt t F (p + 1) - 48)) m 25 ((p + 2 : Nat) : Int)) (m + 422) 0 (zlt t F (p + 1) - 48)) _
          refine jWp.icmp (pc' := 37) mt rfl rfl (show b32 1 = 1 by decide) (show b32 2 = 2 by decide) (fun h11 => ?_) (fun h11 => ?_)
          · exact absurd (show 2 ≤ (1 : Int) from h11) (by decide)
          · have h11 := h11
            refine jWp.blk mt 1 ?_
            show jWp 202 38 [some (jO m), some (jI (zlt t F p)), some (jI 2), some (jI 1), some (jI 1), some (jI 0)] [jI 1] 0 0 (jW (jW (jW (jW w m 25 ((p : Int) + 1)) (m + 422) 0 (zlt t F (p + 1) - 48)) m 25 ((p + 2 : Nat) : Int)) (m + 422) 0 (zlt t F (p + 1) - 48)) _
            refine jWp.ifc (b := false) mt rfl (by decide) rfl ?_
            show jWp 202 41 [some (jO m), some (jI (zlt t F p)), some (jI 2), some (jI 1), some (jI 1), some (jI 0)] [] 0 0 (jW (jW (jW (jW w m 25 ((p : Int) + 1)) (m + 422) 0 (zlt t F (p + 1) - 48)) m 25 ((p + 2 : Nat) : Int)) (m + 422) 0 (zlt t F (p + 1) - 48)) _
            refine jWp.blk mt 2 ?_
            show jWp 202 44 [some (jO m), some (jI (zlt t F p)), some (jI 2), some (jI 1), some (jI 1), some (jI 0)] [jI 98, jI (zlt t F p)] 0 0 (jW (jW (jW (jW w m 25 ((p : Int) + 1)) (m + 422) 0 (zlt t F (p + 1) - 48)) m 25 ((p + 2 : Nat) : Int)) (m + 422) 0 (zlt t F (p + 1) - 48)) _
            refine jWp.icmp (pc' := 47) mt rfl rfl (b32_id (by have := zlt_b hL p; omega) (by have := zlt_b hL p; omega)) (show b32 98 = 98 by decide) (fun h12 => ?_) (fun h12 => ?_)
            · have h12 : (zlt t F p) ≠ 98 := h12
              refine jWp.blk mt 4 ?_
              show _ ∧ jWp 202 72 [some (jO m), some (jI (zlt t F p)), some (jI 2), some (jI 1), some (jI 1), some (jI 0)] [jI 1, jO m] 0 0 (jW (jW (jW (jW w m 25 ((p : Int) + 1)) (m + 422) 0 (zlt t F (p + 1) - 48)) m 25 ((p + 2 : Nat) : Int)) (m + 422) 0 (zlt t F (p + 1) - 48)) _
              refine ⟨rfl, ?_⟩
              refine jWp.callv (as := [jO m, jI 1]) (rest := []) mt rfl rfl rfl ⟨rfl, jtg hW.K0⟩ ?_
              refine jCall.mono (E_hasFigure (w := (jW (jW (jW (jW w m 25 ((p : Int) + 1)) (m + 422) 0 (zlt t F (p + 1) - 48)) m 25 ((p + 2 : Nat) : Int)) (m + 422) 0 (zlt t F (p + 1) - 48))) (F := F) (p := (p + 2)) (t := t) hW (((jW_a (by omega)).trans ((jW_k (by decide)).trans ((jW_a (by omega)).trans ((jW_k (by decide)).trans rfl)))).trans hF) hF72 (((jW_a (by omega)).trans jW_s).trans (by omega)) (by omega) (((jW_f (by omega)).trans ((jW_f (by omega)).trans ((jW_f (by omega)).trans ((jW_f (by omega)).trans rfl)))).trans ht) hL (k := 1) (by decide)) (fun v9 w9 h9 => ?_)
              rcases h9 with ⟨rfl, h9, h13⟩ | ⟨rfl, h9, h13⟩ <;> subst h9
              · have h13' := h13
                show jWp 202 75 [some (jO m), some (jI (zlt t F p)), some (jI 2), some (jI 1), some (jI 1), some (jI 0)] [jI 1] 0 0 (jW (jW (jW (jW (jW (jW w m 25 ((p : Int) + 1)) (m + 422) 0 (zlt t F (p + 1) - 48)) m 25 ((p + 2 : Nat) : Int)) (m + 422) 0 (zlt t F (p + 1) - 48)) (m + 422) 1 (zlt t F (p + 2) - 48)) m 25 ((p + 3 : Nat) : Int)) _
                refine jWp.blk mt 2 ?_
                show _ ∧ jWp 202 77 [some (jO m), some (jI (zlt t F p)), some (jI 2), some (jI 1), some (jI 1), some (jI 0)] [jO m] 0 0 (jW (jW (jW (jW (jW (jW w m 25 ((p : Int) + 1)) (m + 422) 0 (zlt t F (p + 1) - 48)) m 25 ((p + 2 : Nat) : Int)) (m + 422) 0 (zlt t F (p + 1) - 48)) (m + 422) 1 (zlt t F (p + 2) - 48)) m 25 ((p + 3 : Nat) : Int)) _
                refine ⟨rfl, ?_⟩
                refine jWp.getR (pc' := 80) (o := (m + 422)) mt rfl rfl (jtg hW.K0) hW.R26 ?_
                show jWp 202 80 [some (jO m), some (jI (zlt t F p)), some (jI 2), some (jI 1), some (jI 1), some (jI 0)] [jO (m + 422)] 0 0 (jW (jW (jW (jW (jW (jW w m 25 ((p : Int) + 1)) (m + 422) 0 (zlt t F (p + 1) - 48)) m 25 ((p + 2 : Nat) : Int)) (m + 422) 0 (zlt t F (p + 1) - 48)) (m + 422) 1 (zlt t F (p + 2) - 48)) m 25 ((p + 3 : Nat) : Int)) _
                refine jWp.blk mt 2 ?_
                show jWp 202 84 [some (jO m), some (jI (zlt t F p)), some (jI 2), some (jI 1), some (jI 1), some (jI 0)] [jI 0, jI 1, jO (m + 422)] 0 0 (jW (jW (jW (jW (jW (jW w m 25 ((p : Int) + 1)) (m + 422) 0 (zlt t F (p + 1) - 48)) m 25 ((p + 2 : Nat) : Int)) (m + 422) 0 (zlt t F (p + 1) - 48)) (m + 422) 1 (zlt t F (p + 2) - 48)) m 25 ((p + 3 : Nat) : Int)) _
                refine jWp.ifc (b := true) mt rfl (by decide) rfl ?_
                show jWp 202 98 [some (jO m), some (jI (zlt t F p)), some (jI 2), some (jI 1), some (jI 1), some (jI 0)] [jI 1, jO (m + 422)] 0 0 (jW (jW (jW (jW (jW (jW w m 25 ((p : Int) + 1)) (m + 422) 0 (zlt t F (p + 1) - 48)) m 25 ((p + 2 : Nat) : Int)) (m + 422) 0 (zlt t F (p + 1) - 48)) (m + 422) 1 (zlt t F (p + 2) - 48)) m 25 ((p + 3 : Nat) : Int)) _
                refine jWp.blk mt 1 ?_
                show _ ∧ jWp 202 99 [some (jO m), some (jI (zlt t F p)), some (jI 2), some (jI 1), some (jI 1), some (jI 0)] [jO m, jI 1, jO (m + 422)] 0 0 (jW (jW (jW (jW (jW (jW w m 25 ((p : Int) + 1)) (m + 422) 0 (zlt t F (p + 1) - 48)) m 25 ((p + 2 : Nat) : Int)) (m + 422) 0 (zlt t F (p + 1) - 48)) (m + 422) 1 (zlt t F (p + 2) - 48)) m 25 ((p + 3 : Nat) : Int)) _
                refine ⟨rfl, ?_⟩
                refine jWp.getR (pc' := 102) (o := (m + 422)) mt rfl rfl (jtg hW.K0) hW.R26 ?_
                show jWp 202 102 [some (jO m), some (jI (zlt t F p)), some (jI 2), some (jI 1), some (jI 1), some (jI 0)] [jO (m + 422), jI 1, jO (m + 422)] 0 0 (jW (jW (jW (jW (jW (jW w m 25 ((p : Int) + 1)) (m + 422) 0 (zlt t F (p + 1) - 48)) m 25 ((p + 2 : Nat) : Int)) (m + 422) 0 (zlt t F (p + 1) - 48)) (m + 422) 1 (zlt t F (p + 2) - 48)) m 25 ((p + 3 : Nat) : Int)) _
                refine jWp.blk mt 1 ?_
                show jWp 202 104 [some (jO m), some (jI (zlt t F p)), some (jI 2), some (jI 1), some (jI 1), some (jI 0)] [jI 1, jO (m + 422), jI 1, jO (m + 422)] 0 0 (jW (jW (jW (jW (jW (jW w m 25 ((p : Int) + 1)) (m + 422) 0 (zlt t F (p + 1) - 48)) m 25 ((p + 2 : Nat) : Int)) (m + 422) 0 (zlt t F (p + 1) - 48)) (m + 422) 1 (zlt t F (p + 2) - 48)) m 25 ((p + 3 : Nat) : Int)) _
                refine jWp.iald (pc' := 105) (j := 1) mt rfl rfl (jird_of hW.K422) (by decide) (jlt hW.K422 (by decide)) ?_
                rw [show ((jW (jW (jW (jW (jW (jW w m 25 ((p : Int) + 1)) (m + 422) 0 (zlt t F (p + 1) - 48)) m 25 ((p + 2 : Nat) : Int)) (m + 422) 0 (zlt t F (p + 1) - 48)) (m + 422) 1 (zlt t F (p + 2) - 48)) m 25 ((p + 3 : Nat) : Int)).1 (m + 422) 1) = (zlt t F (p + 2) - 48) from ((jW_a (by omega)).trans jW_s)]
                show jWp 202 105 [some (jO m), some (jI (zlt t F p)), some (jI 2), some (jI 1), some (jI 1), some (jI 0)] [jI (zlt t F (p + 2) - 48), jI 1, jO (m + 422)] 0 0 (jW (jW (jW (jW (jW (jW w m 25 ((p : Int) + 1)) (m + 422) 0 (zlt t F (p + 1) - 48)) m 25 ((p + 2 : Nat) : Int)) (m + 422) 0 (zlt t F (p + 1) - 48)) (m + 422) 1 (zlt t F (p + 2) - 48)) m 25 ((p + 3 : Nat) : Int)) _
                refine jWp.iast (pc' := 106) (j := 1) mt rfl rfl (jtg hW.K422) (by decide) (jlt hW.K422 (by decide)) ?_
                show jWp 202 106 [some (jO m), some (jI (zlt t F p)), some (jI 2), some (jI 1), some (jI 1), some (jI 0)] [] 0 0 (jW (jW (jW (jW (jW (jW (jW w m 25 ((p : Int) + 1)) (m + 422) 0 (zlt t F (p + 1) - 48)) m 25 ((p + 2 : Nat) : Int)) (m + 422) 0 (zlt t F (p + 1) - 48)) (m + 422) 1 (zlt t F (p + 2) - 48)) m 25 ((p + 3 : Nat) : Int)) (m + 422) 1 (zlt t F (p + 2) - 48)) _
                refine jWp.blk mt 4 ?_
                show jWp 202 34 [some (jO m), some (jI (zlt t F p)), some (jI 2), some (jI 1), some (jI 2), some (jI 0)] [jI 2, jI 2] 0 0 (jW (jW (jW (jW (jW (jW (jW w m 25 ((p : Int) + 1)) (m + 422) 0 (zlt t F (p + 1) - 48)) m 25 ((p + 2 : Nat) : Int)) (m + 422) 0 (zlt t F (p + 1) - 48)) (m + 422) 1 (zlt t F (p + 2) - 48)) m 25 ((p + 3 : Nat) : Int)) (m + 422) 1 (zlt t F (p + 2) - 48)) _
                refine jWp.icmp (pc' := 37) mt rfl rfl (show b32 2 = 2 by decide) (show b32 2 = 2 by decide) (fun h14 => ?_) (fun h14 => ?_)
                · have h14 := h14
                  refine jWp.blk mt 1 ?_
                  show jWp 202 113 [some (jO m), some (jI (zlt t F p)), some (jI 2), some (jI 1), some (jI 2), some (jI 0)] [jI 1] 0 0 (jW (jW (jW (jW (jW (jW (jW w m 25 ((p : Int) + 1)) (m + 422) 0 (zlt t F (p + 1) - 48)) m 25 ((p + 2 : Nat) : Int)) (m + 422) 0 (zlt t F (p + 1) - 48)) (m + 422) 1 (zlt t F (p + 2) - 48)) m 25 ((p + 3 : Nat) : Int)) (m + 422) 1 (zlt t F (p + 2) - 48)) _
                  refine jWp.ifc (b := false) mt rfl (by decide) rfl ?_
                  show jWp 202 116 [some (jO m), some (jI (zlt t F p)), some (jI 2), some (jI 1), some (jI 2), some (jI 0)] [] 0 0 (jW (jW (jW (jW (jW (jW (jW w m 25 ((p : Int) + 1)) (m + 422) 0 (zlt t F (p + 1) - 48)) m 25 ((p + 2 : Nat) : Int)) (m + 422) 0 (zlt t F (p + 1) - 48)) (m + 422) 1 (zlt t F (p + 2) - 48)) m 25 ((p + 3 : Nat) : Int)) (m + 422) 1 (zlt t F (p + 2) - 48)) _
                  refine jWp.blk mt 2 ?_
                  show _ ∧ jWp 202 119 [some (jO m), some (jI (zlt t F p)), some (jI 2), some (jI 1), some (jI 2), some (jI 0)] [jI 59, jO m] 0 0 (jW (jW (jW (jW (jW (jW (jW w m 25 ((p : Int) + 1)) (m + 422) 0 (zlt t F (p + 1) - 48)) m 25 ((p + 2 : Nat) : Int)) (m + 422) 0 (zlt t F (p + 1) - 48)) (m + 422) 1 (zlt t F (p + 2) - 48)) m 25 ((p + 3 : Nat) : Int)) (m + 422) 1 (zlt t F (p + 2) - 48)) _
                  refine ⟨rfl, ?_⟩
                  refine jWp.callv (as := [jO m, jI 59]) (rest := []) mt rfl rfl rfl ⟨rfl, jtg hW.K0⟩ ?_
                  refine jCall.mono (E_takes (w := (jW (jW (jW (jW (jW (jW (jW w m 25 ((p : Int) + 1)) (m + 422) 0 (zlt t F (p + 1) - 48)) m 25 ((p + 2 : Nat) : Int)) (m + 422) 0 (zlt t F (p + 1) - 48)) (m + 422) 1 (zlt t F (p + 2) - 48)) m 25 ((p + 3 : Nat) : Int)) (m + 422) 1 (zlt t F (p + 2) - 48))) (F := F) (p := (p + 3)) (t := t) hW (((jW_a (by omega)).trans ((jW_k (by decide)).trans ((jW_a (by omega)).trans ((jW_a (by omega)).trans ((jW_k (by decide)).trans ((jW_a (by omega)).trans ((jW_k (by decide)).trans rfl))))))).trans hF) hF72 (((jW_a (by omega)).trans jW_s).trans (by omega)) (by omega) (((jW_f (by omega)).trans ((jW_f (by omega)).trans ((jW_f (by omega)).trans ((jW_f (by omega)).trans ((jW_f (by omega)).trans ((jW_f (by omega)).trans ((jW_f (by omega)).trans rfl))))))).trans ht) hL (c := 59) (by unfold r32; decide)) (fun v9 w9 h9 => ?_)
                  rcases h9 with ⟨rfl, h9, h15⟩ | ⟨rfl, h9, h15⟩ <;> subst h9
                  · have h15' := h15
                    show jWp 202 122 [some (jO m), some (jI (zlt t F p)), some (jI 2), some (jI 1), some (jI 2), some (jI 0)] [jI 1] 0 0 (jW (jW (jW (jW (jW (jW (jW (jW w m 25 ((p : Int) + 1)) (m + 422) 0 (zlt t F (p + 1) - 48)) m 25 ((p + 2 : Nat) : Int)) (m + 422) 0 (zlt t F (p + 1) - 48)) (m + 422) 1 (zlt t F (p + 2) - 48)) m 25 ((p + 3 : Nat) : Int)) (m + 422) 1 (zlt t F (p + 2) - 48)) m 25 ((p + 4 : Nat) : Int)) _
                    refine jWp.ifc (b := false) mt rfl (by decide) rfl ?_
                    show jWp 202 125 [some (jO m), some (jI (zlt t F p)), some (jI 2), some (jI 1), some (jI 2), some (jI 0)] [] 0 0 (jW (jW (jW (jW (jW (jW (jW (jW w m 25 ((p : Int) + 1)) (m + 422) 0 (zlt t F (p + 1) - 48)) m 25 ((p + 2 : Nat) : Int)) (m + 422) 0 (zlt t F (p + 1) - 48)) (m + 422) 1 (zlt t F (p + 2) - 48)) m 25 ((p + 3 : Nat) : Int)) (m + 422) 1 (zlt t F (p + 2) - 48)) m 25 ((p + 4 : Nat) : Int)) _
                    refine jWp.blk mt 2 ?_
                    show jWp 202 130 [some (jO m), some (jI (zlt t F p)), some (jI 2), some (jI 1), some (jI 2), some (jI 0)] [jI 1] 0 0 (jW (jW (jW (jW (jW (jW (jW (jW w m 25 ((p : Int) + 1)) (m + 422) 0 (zlt t F (p + 1) - 48)) m 25 ((p + 2 : Nat) : Int)) (m + 422) 0 (zlt t F (p + 1) - 48)) (m + 422) 1 (zlt t F (p + 2) - 48)) m 25 ((p + 3 : Nat) : Int)) (m + 422) 1 (zlt t F (p + 2) - 48)) m 25 ((p + 4 : Nat) : Int)) _
                    refine jWp.iretz mt rfl ⟨rfl, rfl⟩ rfl (Or.inr rfl) ?_
                    have hl9 := zlt_l (t := t) (F := F) (by assumption : zlt t F (p + 3) = 59) (by decide)
                    refine ⟨(p + 4), ⟨rfl, fun a ga gb => ((jW_f (by omega)).trans ((jW_f (by omega)).trans ((jW_f (by omega)).trans ((jW_f (by omega)).trans ((jW_f (by omega)).trans ((jW_f (by omega)).trans ((jW_f (by omega)).trans ((jW_f (by omega)).trans rfl)))))))), fun j gj => ((jW_k (by omega)).trans ((jW_a (by omega)).trans ((jW_k (by omega)).trans ((jW_a (by omega)).trans ((jW_a (by omega)).trans ((jW_k (by omega)).trans ((jW_a (by omega)).trans ((jW_k (by omega)).trans rfl))))))))⟩, jW_s, Or.inl ⟨rfl, ?_, by omega, by omega, by omega, by omega, ⟨((jW_a (by omega)).trans ((jW_k (by decide)).trans ((jW_a (by omega)).trans ((jW_k (by decide)).trans jW_s)))).trans ?_, by rw [((jW_a (by omega)).trans ((jW_k (by decide)).trans ((jW_a (by omega)).trans ((jW_k (by decide)).trans jW_s))))]; omega, by rw [((jW_a (by omega)).trans ((jW_k (by decide)).trans ((jW_a (by omega)).trans ((jW_k (by decide)).trans jW_s))))]; omega⟩, ?_, ?_⟩⟩
                    · unfold zbh zfn
                      (repeat' split) <;> omega
                    · unfold zfg
                      split <;> omega
                    · intro hc9
                      first
                      | (exfalso; omega)
                      | (rw [((jW_a (by omega)).trans jW_s)]
                         refine ⟨?_, by omega, by omega⟩
                         unfold zfg
                         split <;> omega)
                    · intro hc9
                      first
                      | (exfalso; omega)
                      | (rw [((jW_a (by omega)).trans ((jW_k (by decide)).trans ((jW_a (by omega)).trans ((jW_k (by decide)).trans ((jW_k (by decide)).trans ((jW_a (by omega)).trans ((jW_k (by decide)).trans ((jW_a (by omega)).trans rfl))))))))]
                         refine ⟨?_, by omega, by omega⟩
                         unfold znm zfg
                         try rw [show p + 3 + 1 = p + 4 from rfl]
                         (repeat' split) <;> omega)
                  · have h15' := h15
                    show jWp 202 122 [some (jO m), some (jI (zlt t F p)), some (jI 2), some (jI 1), some (jI 2), some (jI 0)] [jI 0] 0 0 (jW (jW (jW (jW (jW (jW (jW w m 25 ((p : Int) + 1)) (m + 422) 0 (zlt t F (p + 1) - 48)) m 25 ((p + 2 : Nat) : Int)) (m + 422) 0 (zlt t F (p + 1) - 48)) (m + 422) 1 (zlt t F (p + 2) - 48)) m 25 ((p + 3 : Nat) : Int)) (m + 422) 1 (zlt t F (p + 2) - 48)) _
                    refine jWp.ifc (b := true) mt rfl (by decide) rfl ?_
                    show jWp 202 129 [some (jO m), some (jI (zlt t F p)), some (jI 2), some (jI 1), some (jI 2), some (jI 0)] [] 0 0 (jW (jW (jW (jW (jW (jW (jW w m 25 ((p : Int) + 1)) (m + 422) 0 (zlt t F (p + 1) - 48)) m 25 ((p + 2 : Nat) : Int)) (m + 422) 0 (zlt t F (p + 1) - 48)) (m + 422) 1 (zlt t F (p + 2) - 48)) m 25 ((p + 3 : Nat) : Int)) (m + 422) 1 (zlt t F (p + 2) - 48)) _
                    refine jWp.blk mt 1 ?_
                    show jWp 202 130 [some (jO m), some (jI (zlt t F p)), some (jI 2), some (jI 1), some (jI 2), some (jI 0)] [jI 0] 0 0 (jW (jW (jW (jW (jW (jW (jW w m 25 ((p : Int) + 1)) (m + 422) 0 (zlt t F (p + 1) - 48)) m 25 ((p + 2 : Nat) : Int)) (m + 422) 0 (zlt t F (p + 1) - 48)) (m + 422) 1 (zlt t F (p + 2) - 48)) m 25 ((p + 3 : Nat) : Int)) (m + 422) 1 (zlt t F (p + 2) - 48)) _
                    refine jWp.iretz mt rfl ⟨rfl, rfl⟩ rfl (Or.inl rfl) ?_
                    refine ⟨(p + 3), ⟨rfl, fun a ga gb => ((jW_f (by omega)).trans ((jW_f (by omega)).trans ((jW_f (by omega)).trans ((jW_f (by omega)).trans ((jW_f (by omega)).trans ((jW_f (by omega)).trans ((jW_f (by omega)).trans rfl))))))), fun j gj => ((jW_a (by omega)).trans ((jW_k (by omega)).trans ((jW_a (by omega)).trans ((jW_a (by omega)).trans ((jW_k (by omega)).trans ((jW_a (by omega)).trans ((jW_k (by omega)).trans rfl)))))))⟩, ((jW_a (by omega)).trans jW_s).trans (by omega), Or.inr ⟨rfl, ?_, by omega, by omega⟩⟩
                    unfold zbh zfn
                    (repeat' split) <;> omega
                · exact absurd (show (2 : Int) < 2 from h14) (by decide)
              · have h13' := h13
                show jWp 202 75 [some (jO m), some (jI (zlt t F p)), some (jI 2), some (jI 1), some (jI 1), some (jI 0)] [jI 0] 0 0 (jW (jW (jW (jW (jW w m 25 ((p : Int) + 1)) (m + 422) 0 (zlt t F (p + 1) - 48)) m 25 ((p + 2 : Nat) : Int)) (m + 422) 0 (zlt t F (p + 1) - 48)) (m + 422) 1 0) _
                refine jWp.blk mt 2 ?_
                show _ ∧ jWp 202 77 [some (jO m), some (jI (zlt t F p)), some (jI 2), some (jI 0), some (jI 1), some (jI 0)] [jO m] 0 0 (jW (jW (jW (jW (jW w m 25 ((p : Int) + 1)) (m + 422) 0 (zlt t F (p + 1) - 48)) m 25 ((p + 2 : Nat) : Int)) (m + 422) 0 (zlt t F (p + 1) - 48)) (m + 422) 1 0) _
                refine ⟨rfl, ?_⟩
                refine jWp.getR (pc' := 80) (o := (m + 422)) mt rfl rfl (jtg hW.K0) hW.R26 ?_
                show jWp 202 80 [some (jO m), some (jI (zlt t F p)), some (jI 2), some (jI 0), some (jI 1), some (jI 0)] [jO (m + 422)] 0 0 (jW (jW (jW (jW (jW w m 25 ((p : Int) + 1)) (m + 422) 0 (zlt t F (p + 1) - 48)) m 25 ((p + 2 : Nat) : Int)) (m + 422) 0 (zlt t F (p + 1) - 48)) (m + 422) 1 0) _
                refine jWp.blk mt 2 ?_
                show jWp 202 84 [some (jO m), some (jI (zlt t F p)), some (jI 2), some (jI 0), some (jI 1), some (jI 0)] [jI 0, jI 1, jO (m + 422)] 0 0 (jW (jW (jW (jW (jW w m 25 ((p : Int) + 1)) (m + 422) 0 (zlt t F (p + 1) - 48)) m 25 ((p + 2 : Nat) : Int)) (m + 422) 0 (zlt t F (p + 1) - 48)) (m + 422) 1 0) _
                refine jWp.ifc (b := true) mt rfl (by decide) rfl ?_
                show jWp 202 98 [some (jO m), some (jI (zlt t F p)), some (jI 2), some (jI 0), some (jI 1), some (jI 0)] [jI 1, jO (m + 422)] 0 0 (jW (jW (jW (jW (jW w m 25 ((p : Int) + 1)) (m + 422) 0 (zlt t F (p + 1) - 48)) m 25 ((p + 2 : Nat) : Int)) (m + 422) 0 (zlt t F (p + 1) - 48)) (m + 422) 1 0) _
                refine jWp.blk mt 1 ?_
                show _ ∧ jWp 202 99 [some (jO m), some (jI (zlt t F p)), some (jI 2), some (jI 0), some (jI 1), some (jI 0)] [jO m, jI 1, jO (m + 422)] 0 0 (jW (jW (jW (jW (jW w m 25 ((p : Int) + 1)) (m + 422) 0 (zlt t F (p + 1) - 48)) m 25 ((p + 2 : Nat) : Int)) (m + 422) 0 (zlt t F (p + 1) - 48)) (m + 422) 1 0) _
                refine ⟨rfl, ?_⟩
                refine jWp.getR (pc' := 102) (o := (m + 422)) mt rfl rfl (jtg hW.K0) hW.R26 ?_
                show jWp 202 102 [some (jO m), some (jI (zlt t F p)), some (jI 2), some (jI 0), some (jI 1), some (jI 0)] [jO (m + 422), jI 1, jO (m + 422)] 0 0 (jW (jW (jW (jW (jW w m 25 ((p : Int) + 1)) (m + 422) 0 (zlt t F (p + 1) - 48)) m 25 ((p + 2 : Nat) : Int)) (m + 422) 0 (zlt t F (p + 1) - 48)) (m + 422) 1 0) _
                refine jWp.blk mt 1 ?_
                show jWp 202 104 [some (jO m), some (jI (zlt t F p)), some (jI 2), some (jI 0), some (jI 1), some (jI 0)] [jI 1, jO (m + 422), jI 1, jO (m + 422)] 0 0 (jW (jW (jW (jW (jW w m 25 ((p : Int) + 1)) (m + 422) 0 (zlt t F (p + 1) - 48)) m 25 ((p + 2 : Nat) : Int)) (m + 422) 0 (zlt t F (p + 1) - 48)) (m + 422) 1 0) _
                refine jWp.iald (pc' := 105) (j := 1) mt rfl rfl (jird_of hW.K422) (by decide) (jlt hW.K422 (by decide)) ?_
                rw [show ((jW (jW (jW (jW (jW w m 25 ((p : Int) + 1)) (m + 422) 0 (zlt t F (p + 1) - 48)) m 25 ((p + 2 : Nat) : Int)) (m + 422) 0 (zlt t F (p + 1) - 48)) (m + 422) 1 0).1 (m + 422) 1) = 0 from jW_s]
                show jWp 202 105 [some (jO m), some (jI (zlt t F p)), some (jI 2), some (jI 0), some (jI 1), some (jI 0)] [jI 0, jI 1, jO (m + 422)] 0 0 (jW (jW (jW (jW (jW w m 25 ((p : Int) + 1)) (m + 422) 0 (zlt t F (p + 1) - 48)) m 25 ((p + 2 : Nat) : Int)) (m + 422) 0 (zlt t F (p + 1) - 48)) (m + 422) 1 0) _
                refine jWp.iast (pc' := 106) (j := 1) mt rfl rfl (jtg hW.K422) (by decide) (jlt hW.K422 (by decide)) ?_
                show jWp 202 106 [some (jO m), some (jI (zlt t F p)), some (jI 2), some (jI 0), some (jI 1), some (jI 0)] [] 0 0 (jW (jW (jW (jW (jW (jW w m 25 ((p : Int) + 1)) (m + 422) 0 (zlt t F (p + 1) - 48)) m 25 ((p + 2 : Nat) : Int)) (m + 422) 0 (zlt t F (p + 1) - 48)) (m + 422) 1 0) (m + 422) 1 0) _
                refine jWp.blk mt 4 ?_
                show jWp 202 34 [some (jO m), some (jI (zlt t F p)), some (jI 2), some (jI 0), some (jI 2), some (jI 0)] [jI 2, jI 2] 0 0 (jW (jW (jW (jW (jW (jW w m 25 ((p : Int) + 1)) (m + 422) 0 (zlt t F (p + 1) - 48)) m 25 ((p + 2 : Nat) : Int)) (m + 422) 0 (zlt t F (p + 1) - 48)) (m + 422) 1 0) (m + 422) 1 0) _
                refine jWp.icmp (pc' := 37) mt rfl rfl (show b32 2 = 2 by decide) (show b32 2 = 2 by decide) (fun h16 => ?_) (fun h16 => ?_)
                · have h16 := h16
                  refine jWp.blk mt 1 ?_
                  show jWp 202 113 [some (jO m), some (jI (zlt t F p)), some (jI 2), some (jI 0), some (jI 2), some (jI 0)] [jI 0] 0 0 (jW (jW (jW (jW (jW (jW w m 25 ((p : Int) + 1)) (m + 422) 0 (zlt t F (p + 1) - 48)) m 25 ((p + 2 : Nat) : Int)) (m + 422) 0 (zlt t F (p + 1) - 48)) (m + 422) 1 0) (m + 422) 1 0) _
                  refine jWp.ifc (b := true) mt rfl (by decide) rfl ?_
                  show jWp 202 129 [some (jO m), some (jI (zlt t F p)), some (jI 2), some (jI 0), some (jI 2), some (jI 0)] [] 0 0 (jW (jW (jW (jW (jW (jW w m 25 ((p : Int) + 1)) (m + 422) 0 (zlt t F (p + 1) - 48)) m 25 ((p + 2 : Nat) : Int)) (m + 422) 0 (zlt t F (p + 1) - 48)) (m + 422) 1 0) (m + 422) 1 0) _
                  refine jWp.blk mt 1 ?_
                  show jWp 202 130 [some (jO m), some (jI (zlt t F p)), some (jI 2), some (jI 0), some (jI 2), some (jI 0)] [jI 0] 0 0 (jW (jW (jW (jW (jW (jW w m 25 ((p : Int) + 1)) (m + 422) 0 (zlt t F (p + 1) - 48)) m 25 ((p + 2 : Nat) : Int)) (m + 422) 0 (zlt t F (p + 1) - 48)) (m + 422) 1 0) (m + 422) 1 0) _
                  refine jWp.iretz mt rfl ⟨rfl, rfl⟩ rfl (Or.inl rfl) ?_
                  refine ⟨(p + 2), ⟨rfl, fun a ga gb => ((jW_f (by omega)).trans ((jW_f (by omega)).trans ((jW_f (by omega)).trans ((jW_f (by omega)).trans ((jW_f (by omega)).trans ((jW_f (by omega)).trans rfl)))))), fun j gj => ((jW_a (by omega)).trans ((jW_a (by omega)).trans ((jW_a (by omega)).trans ((jW_k (by omega)).trans ((jW_a (by omega)).trans ((jW_k (by omega)).trans rfl))))))⟩, ((jW_a (by omega)).trans ((jW_a (by omega)).trans ((jW_a (by omega)).trans jW_s))).trans (by omega), Or.inr ⟨rfl, ?_, by omega, by omega⟩⟩
                  unfold zbh zfn
                  (repeat' split) <;> omega
                · exact absurd (show (2 : Int) < 2 from h16) (by decide)
            · have h12 : (zlt t F p) = 98 := h12
              exfalso; omega
        · have h10' := h10
          show jWp 202 75 [some (jO m), some (jI (zlt t F p)), some (jI 2), some (jI 1), some (jI 0), some (jI 0)] [jI 0] 0 0 (jW (jW w m 25 ((p : Int) + 1)) (m + 422) 0 0) _
          refine jWp.blk mt 2 ?_
          show _ ∧ jWp 202 77 [some (jO m), some (jI (zlt t F p)), some (jI 2), some (jI 0), some (jI 0), some (jI 0)] [jO m] 0 0 (jW (jW w m 25 ((p : Int) + 1)) (m + 422) 0 0) _
          refine ⟨rfl, ?_⟩
          refine jWp.getR (pc' := 80) (o := (m + 422)) mt rfl rfl (jtg hW.K0) hW.R26 ?_
          show jWp 202 80 [some (jO m), some (jI (zlt t F p)), some (jI 2), some (jI 0), some (jI 0), some (jI 0)] [jO (m + 422)] 0 0 (jW (jW w m 25 ((p : Int) + 1)) (m + 422) 0 0) _
          refine jWp.blk mt 2 ?_
          show jWp 202 84 [some (jO m), some (jI (zlt t F p)), some (jI 2), some (jI 0), some (jI 0), some (jI 0)] [jI 0, jI 0, jO (m + 422)] 0 0 (jW (jW w m 25 ((p : Int) + 1)) (m + 422) 0 0) _
          refine jWp.ifc (b := true) mt rfl (by decide) rfl ?_
          show jWp 202 98 [some (jO m), some (jI (zlt t F p)), some (jI 2), some (jI 0), some (jI 0), some (jI 0)] [jI 0, jO (m + 422)] 0 0 (jW (jW w m 25 ((p : Int) + 1)) (m + 422) 0 0) _
          refine jWp.blk mt 1 ?_
          show _ ∧ jWp 202 99 [some (jO m), some (jI (zlt t F p)), some (jI 2), some (jI 0), some (jI 0), some (jI 0)] [jO m, jI 0, jO (m + 422)] 0 0 (jW (jW w m 25 ((p : Int) + 1)) (m + 422) 0 0) _
          refine ⟨rfl, ?_⟩
          refine jWp.getR (pc' := 102) (o := (m + 422)) mt rfl rfl (jtg hW.K0) hW.R26 ?_
          show jWp 202 102 [some (jO m), some (jI (zlt t F p)), some (jI 2), some (jI 0), some (jI 0), some (jI 0)] [jO (m + 422), jI 0, jO (m + 422)] 0 0 (jW (jW w m 25 ((p : Int) + 1)) (m + 422) 0 0) _
          refine jWp.blk mt 1 ?_
          show jWp 202 104 [some (jO m), some (jI (zlt t F p)), some (jI 2), some (jI 0), some (jI 0), some (jI 0)] [jI 0, jO (m + 422), jI 0, jO (m + 422)] 0 0 (jW (jW w m 25 ((p : Int) + 1)) (m + 422) 0 0) _
          refine jWp.iald (pc' := 105) (j := 0) mt rfl rfl (jird_of hW.K422) (by decide) (jlt hW.K422 (by decide)) ?_
          rw [show ((jW (jW w m 25 ((p : Int) + 1)) (m + 422) 0 0).1 (m + 422) 0) = 0 from jW_s]
          show jWp 202 105 [some (jO m), some (jI (zlt t F p)), some (jI 2), some (jI 0), some (jI 0), some (jI 0)] [jI 0, jI 0, jO (m + 422)] 0 0 (jW (jW w m 25 ((p : Int) + 1)) (m + 422) 0 0) _
          refine jWp.iast (pc' := 106) (j := 0) mt rfl rfl (jtg hW.K422) (by decide) (jlt hW.K422 (by decide)) ?_
          show jWp 202 106 [some (jO m), some (jI (zlt t F p)), some (jI 2), some (jI 0), some (jI 0), some (jI 0)] [] 0 0 (jW (jW (jW w m 25 ((p : Int) + 1)) (m + 422) 0 0) (m + 422) 0 0) _
          refine jWp.blk mt 4 ?_
          show jWp 202 34 [some (jO m), some (jI (zlt t F p)), some (jI 2), some (jI 0), some (jI 1), some (jI 0)] [jI 2, jI 1] 0 0 (jW (jW (jW w m 25 ((p : Int) + 1)) (m + 422) 0 0) (m + 422) 0 0) _
          refine jWp.icmp (pc' := 37) mt rfl rfl (show b32 1 = 1 by decide) (show b32 2 = 2 by decide) (fun h17 => ?_) (fun h17 => ?_)
          · exact absurd (show 2 ≤ (1 : Int) from h17) (by decide)
          · have h17 := h17
            refine jWp.blk mt 1 ?_
            show jWp 202 38 [some (jO m), some (jI (zlt t F p)), some (jI 2), some (jI 0), some (jI 1), some (jI 0)] [jI 0] 0 0 (jW (jW (jW w m 25 ((p : Int) + 1)) (m + 422) 0 0) (m + 422) 0 0) _
            refine jWp.ifc (b := true) mt rfl (by decide) rfl ?_
            show jWp 202 112 [some (jO m), some (jI (zlt t F p)), some (jI 2), some (jI 0), some (jI 1), some (jI 0)] [] 0 0 (jW (jW (jW w m 25 ((p : Int) + 1)) (m + 422) 0 0) (m + 422) 0 0) _
            refine jWp.blk mt 1 ?_
            show jWp 202 113 [some (jO m), some (jI (zlt t F p)), some (jI 2), some (jI 0), some (jI 1), some (jI 0)] [jI 0] 0 0 (jW (jW (jW w m 25 ((p : Int) + 1)) (m + 422) 0 0) (m + 422) 0 0) _
            refine jWp.ifc (b := true) mt rfl (by decide) rfl ?_
            show jWp 202 129 [some (jO m), some (jI (zlt t F p)), some (jI 2), some (jI 0), some (jI 1), some (jI 0)] [] 0 0 (jW (jW (jW w m 25 ((p : Int) + 1)) (m + 422) 0 0) (m + 422) 0 0) _
            refine jWp.blk mt 1 ?_
            show jWp 202 130 [some (jO m), some (jI (zlt t F p)), some (jI 2), some (jI 0), some (jI 1), some (jI 0)] [jI 0] 0 0 (jW (jW (jW w m 25 ((p : Int) + 1)) (m + 422) 0 0) (m + 422) 0 0) _
            refine jWp.iretz mt rfl ⟨rfl, rfl⟩ rfl (Or.inl rfl) ?_
            refine ⟨(p + 1), ⟨rfl, fun a ga gb => ((jW_f (by omega)).trans ((jW_f (by omega)).trans ((jW_f (by omega)).trans rfl))), fun j gj => ((jW_a (by omega)).trans ((jW_a (by omega)).trans ((jW_k (by omega)).trans rfl)))⟩, ((jW_a (by omega)).trans ((jW_a (by omega)).trans jW_s)).trans (by omega), Or.inr ⟨rfl, ?_, by omega, by omega⟩⟩
            unfold zbh zfn
            (repeat' split) <;> omega
      · have h9 : (zlt t F p) = 98 := h9
        exfalso; omega
  · rw [show zdc (zlt t F p) = 3 by unfold zdc; rw [if_neg (by omega), if_neg (by omega), if_pos (by omega)]]
    show jWp 202 9 [some (jO m), some (jI (zlt t F p)), none, none, none, none] [jI 3] 0 0 w _
    refine jWp.blk mt 2 ?_
    show jWp 202 11 [some (jO m), some (jI (zlt t F p)), some (jI 3), none, none, none] [jI 3] 0 0 w _
    refine jWp.ifc (b := true) mt rfl (by decide) rfl ?_
    show jWp 202 16 [some (jO m), some (jI (zlt t F p)), some (jI 3), none, none, none] [] 0 0 w _
    refine jWp.blk mt 2 ?_
    show _ ∧ _ ∧ jWp 202 18 [some (jO m), some (jI (zlt t F p)), some (jI 3), none, none, none] [jO m, jO m] 0 0 w _
    refine ⟨rfl, rfl, ?_⟩
    refine jWp.getI (pc' := 21) mt rfl rfl (jtg hW.K0) ?_
    rw [show (w.1 m 25) = (p : Int) from hp]
    show jWp 202 21 [some (jO m), some (jI (zlt t F p)), some (jI 3), none, none, none] [jI (p : Int), jO m] 0 0 w _
    refine jWp.blk mt 2 ?_
    show jWp 202 23 [some (jO m), some (jI (zlt t F p)), some (jI 3), none, none, none] [jI ((p : Int) + 1), jO m] 0 0 w _
    refine jWp.putI (pc' := 26) mt rfl rfl (jtg hW.K0) ?_
    show jWp 202 26 [some (jO m), some (jI (zlt t F p)), some (jI 3), none, none, none] [] 0 0 (jW w m 25 ((p : Int) + 1)) _
    refine jWp.blk mt 6 ?_
    show jWp 202 34 [some (jO m), some (jI (zlt t F p)), some (jI 3), some (jI 1), some (jI 0), none] [jI 3, jI 0] 0 0 (jW w m 25 ((p : Int) + 1)) _
    refine jWp.icmp (pc' := 37) mt rfl rfl (show b32 0 = 0 by decide) (show b32 3 = 3 by decide) (fun h18 => ?_) (fun h18 => ?_)
    · exact absurd (show 3 ≤ (0 : Int) from h18) (by decide)
    · have h18 := h18
      refine jWp.blk mt 1 ?_
      show jWp 202 38 [some (jO m), some (jI (zlt t F p)), some (jI 3), some (jI 1), some (jI 0), none] [jI 1] 0 0 (jW w m 25 ((p : Int) + 1)) _
      refine jWp.ifc (b := false) mt rfl (by decide) rfl ?_
      show jWp 202 41 [some (jO m), some (jI (zlt t F p)), some (jI 3), some (jI 1), some (jI 0), none] [] 0 0 (jW w m 25 ((p : Int) + 1)) _
      refine jWp.blk mt 2 ?_
      show jWp 202 44 [some (jO m), some (jI (zlt t F p)), some (jI 3), some (jI 1), some (jI 0), none] [jI 98, jI (zlt t F p)] 0 0 (jW w m 25 ((p : Int) + 1)) _
      refine jWp.icmp (pc' := 47) mt rfl rfl (b32_id (by have := zlt_b hL p; omega) (by have := zlt_b hL p; omega)) (show b32 98 = 98 by decide) (fun h19 => ?_) (fun h19 => ?_)
      · have h19 : (zlt t F p) ≠ 98 := h19
        exfalso; omega
      · have h19 : (zlt t F p) = 98 := h19
        refine jWp.blk mt 2 ?_
        show jWp 202 50 [some (jO m), some (jI (zlt t F p)), some (jI 3), some (jI 1), some (jI 0), none] [jI 2, jI 0] 0 0 (jW w m 25 ((p : Int) + 1)) _
        refine jWp.icmp (pc' := 53) mt rfl rfl (show b32 0 = 0 by decide) (show b32 2 = 2 by decide) (fun h20 => ?_) (fun h20 => ?_)
        · have h20 := h20
          refine jWp.blk mt 4 ?_
          show _ ∧ jWp 202 72 [some (jO m), some (jI (zlt t F p)), some (jI 3), some (jI 1), some (jI 0), some (jI 0)] [jI 0, jO m] 0 0 (jW w m 25 ((p : Int) + 1)) _
          refine ⟨rfl, ?_⟩
          refine jWp.callv (as := [jO m, jI 0]) (rest := []) mt rfl rfl rfl ⟨rfl, jtg hW.K0⟩ ?_
          refine jCall.mono (E_hasFigure (w := (jW w m 25 ((p : Int) + 1))) (F := F) (p := (p + 1)) (t := t) hW (((jW_k (by decide)).trans rfl).trans hF) hF72 (jW_s.trans (by omega)) (by omega) (((jW_f (by omega)).trans rfl).trans ht) hL (k := 0) (by decide)) (fun v9 w9 h9 => ?_)
          rcases h9 with ⟨rfl, h9, h21⟩ | ⟨rfl, h9, h21⟩ <;> subst h9
          · have h21' := h21
            show jWp 202 75 [some (jO m), some (jI (zlt t F p)), some (jI 3), some (jI 1), some (jI 0), some (jI 0)] [jI 1] 0 0 (jW (jW (jW w m 25 ((p : Int) + 1)) (m + 422) 0 (zlt t F (p + 1) - 48)) m 25 ((p + 2 : Nat) : Int)) _
            refine jWp.blk mt 2 ?_
            show _ ∧ jWp 202 77 [some (jO m), some (jI (zlt t F p)), some (jI 3), some (jI 1), some (jI 0), some (jI 0)] [jO m] 0 0 (jW (jW (jW w m 25 ((p : Int) + 1)) (m + 422) 0 (zlt t F (p + 1) - 48)) m 25 ((p + 2 : Nat) : Int)) _
            refine ⟨rfl, ?_⟩
            refine jWp.getR (pc' := 80) (o := (m + 422)) mt rfl rfl (jtg hW.K0) hW.R26 ?_
            show jWp 202 80 [some (jO m), some (jI (zlt t F p)), some (jI 3), some (jI 1), some (jI 0), some (jI 0)] [jO (m + 422)] 0 0 (jW (jW (jW w m 25 ((p : Int) + 1)) (m + 422) 0 (zlt t F (p + 1) - 48)) m 25 ((p + 2 : Nat) : Int)) _
            refine jWp.blk mt 2 ?_
            show jWp 202 84 [some (jO m), some (jI (zlt t F p)), some (jI 3), some (jI 1), some (jI 0), some (jI 0)] [jI 0, jI 0, jO (m + 422)] 0 0 (jW (jW (jW w m 25 ((p : Int) + 1)) (m + 422) 0 (zlt t F (p + 1) - 48)) m 25 ((p + 2 : Nat) : Int)) _
            refine jWp.ifc (b := true) mt rfl (by decide) rfl ?_
            show jWp 202 98 [some (jO m), some (jI (zlt t F p)), some (jI 3), some (jI 1), some (jI 0), some (jI 0)] [jI 0, jO (m + 422)] 0 0 (jW (jW (jW w m 25 ((p : Int) + 1)) (m + 422) 0 (zlt t F (p + 1) - 48)) m 25 ((p + 2 : Nat) : Int)) _
            refine jWp.blk mt 1 ?_
            show _ ∧ jWp 202 99 [some (jO m), some (jI (zlt t F p)), some (jI 3), some (jI 1), some (jI 0), some (jI 0)] [jO m, jI 0, jO (m + 422)] 0 0 (jW (jW (jW w m 25 ((p : Int) + 1)) (m + 422) 0 (zlt t F (p + 1) - 48)) m 25 ((p + 2 : Nat) : Int)) _
            refine ⟨rfl, ?_⟩
            refine jWp.getR (pc' := 102) (o := (m + 422)) mt rfl rfl (jtg hW.K0) hW.R26 ?_
            show jWp 202 102 [some (jO m), some (jI (zlt t F p)), some (jI 3), some (jI 1), some (jI 0), some (jI 0)] [jO (m + 422), jI 0, jO (m + 422)] 0 0 (jW (jW (jW w m 25 ((p : Int) + 1)) (m + 422) 0 (zlt t F (p + 1) - 48)) m 25 ((p + 2 : Nat) : Int)) _
            refine jWp.blk mt 1 ?_
            show jWp 202 104 [some (jO m), some (jI (zlt t F p)), some (jI 3), some (jI 1), some (jI 0), some (jI 0)] [jI 0, jO (m + 422), jI 0, jO (m + 422)] 0 0 (jW (jW (jW w m 25 ((p : Int) + 1)) (m + 422) 0 (zlt t F (p + 1) - 48)) m 25 ((p + 2 : Nat) : Int)) _
            refine jWp.iald (pc' := 105) (j := 0) mt rfl rfl (jird_of hW.K422) (by decide) (jlt hW.K422 (by decide)) ?_
            rw [show ((jW (jW (jW w m 25 ((p : Int) + 1)) (m + 422) 0 (zlt t F (p + 1) - 48)) m 25 ((p + 2 : Nat) : Int)).1 (m + 422) 0) = (zlt t F (p + 1) - 48) from ((jW_a (by omega)).trans jW_s)]
            show jWp 202 105 [some (jO m), some (jI (zlt t F p)), some (jI 3), some (jI 1), some (jI 0), some (jI 0)] [jI (zlt t F (p + 1) - 48), jI 0, jO (m + 422)] 0 0 (jW (jW (jW w m 25 ((p : Int) + 1)) (m + 422) 0 (zlt t F (p + 1) - 48)) m 25 ((p + 2 : Nat) : Int)) _
            refine jWp.iast (pc' := 106) (j := 0) mt rfl rfl (jtg hW.K422) (by decide) (jlt hW.K422 (by decide)) ?_
            show jWp 202 106 [some (jO m), some (jI (zlt t F p)), some (jI 3), some (jI 1), some (jI 0), some (jI 0)] [] 0 0 (jW (jW (jW (jW w m 25 ((p : Int) + 1)) (m + 422) 0 (zlt t F (p + 1) - 48)) m 25 ((p + 2 : Nat) : Int)) (m + 422) 0 (zlt t F (p + 1) - 48)) _
            refine jWp.blk mt 4 ?_
            show jWp 202 34 [some (jO m), some (jI (zlt t F p)), some (jI 3), some (jI 1), some (jI 1), some (jI 0)] [jI 3, jI 1] 0 0 (jW (jW (jW (jW w m 25 ((p : Int) + 1)) (m + 422) 0 (zlt t F (p + 1) - 48)) m 25 ((p + 2 : Nat) : Int)) (m + 422) 0 (zlt t F (p + 1) - 48)) _
            refine jWp.icmp (pc' := 37) mt rfl rfl (show b32 1 = 1 by decide) (show b32 3 = 3 by decide) (fun h22 => ?_) (fun h22 => ?_)
            · exact absurd (show 3 ≤ (1 : Int) from h22) (by decide)
            · have h22 := h22
              refine jWp.blk mt 1 ?_
              show jWp 202 38 [some (jO m), some (jI (zlt t F p)), some (jI 3), some (jI 1), some (jI 1), some (jI 0)] [jI 1] 0 0 (jW (jW (jW (jW w m 25 ((p : Int) + 1)) (m + 422) 0 (zlt t F (p + 1) - 48)) m 25 ((p + 2 : Nat) : Int)) (m + 422) 0 (zlt t F (p + 1) - 48)) _
              refine jWp.ifc (b := false) mt rfl (by decide) rfl ?_
              show jWp 202 41 [some (jO m), some (jI (zlt t F p)), some (jI 3), some (jI 1), some (jI 1), some (jI 0)] [] 0 0 (jW (jW (jW (jW w m 25 ((p : Int) + 1)) (m + 422) 0 (zlt t F (p + 1) - 48)) m 25 ((p + 2 : Nat) : Int)) (m + 422) 0 (zlt t F (p + 1) - 48)) _
              refine jWp.blk mt 2 ?_
              show jWp 202 44 [some (jO m), some (jI (zlt t F p)), some (jI 3), some (jI 1), some (jI 1), some (jI 0)] [jI 98, jI (zlt t F p)] 0 0 (jW (jW (jW (jW w m 25 ((p : Int) + 1)) (m + 422) 0 (zlt t F (p + 1) - 48)) m 25 ((p + 2 : Nat) : Int)) (m + 422) 0 (zlt t F (p + 1) - 48)) _
              refine jWp.icmp (pc' := 47) mt rfl rfl (b32_id (by have := zlt_b hL p; omega) (by have := zlt_b hL p; omega)) (show b32 98 = 98 by decide) (fun h23 => ?_) (fun h23 => ?_)
              · have h23 : (zlt t F p) ≠ 98 := h23
                exfalso; omega
              · have h23 : (zlt t F p) = 98 := h23
                refine jWp.blk mt 2 ?_
                show jWp 202 50 [some (jO m), some (jI (zlt t F p)), some (jI 3), some (jI 1), some (jI 1), some (jI 0)] [jI 2, jI 1] 0 0 (jW (jW (jW (jW w m 25 ((p : Int) + 1)) (m + 422) 0 (zlt t F (p + 1) - 48)) m 25 ((p + 2 : Nat) : Int)) (m + 422) 0 (zlt t F (p + 1) - 48)) _
                refine jWp.icmp (pc' := 53) mt rfl rfl (show b32 1 = 1 by decide) (show b32 2 = 2 by decide) (fun h24 => ?_) (fun h24 => ?_)
                · have h24 := h24
                  refine jWp.blk mt 4 ?_
                  show _ ∧ jWp 202 72 [some (jO m), some (jI (zlt t F p)), some (jI 3), some (jI 1), some (jI 1), some (jI 0)] [jI 1, jO m] 0 0 (jW (jW (jW (jW w m 25 ((p : Int) + 1)) (m + 422) 0 (zlt t F (p + 1) - 48)) m 25 ((p + 2 : Nat) : Int)) (m + 422) 0 (zlt t F (p + 1) - 48)) _
                  refine ⟨rfl, ?_⟩
                  refine jWp.callv (as := [jO m, jI 1]) (rest := []) mt rfl rfl rfl ⟨rfl, jtg hW.K0⟩ ?_
                  refine jCall.mono (E_hasFigure (w := (jW (jW (jW (jW w m 25 ((p : Int) + 1)) (m + 422) 0 (zlt t F (p + 1) - 48)) m 25 ((p + 2 : Nat) : Int)) (m + 422) 0 (zlt t F (p + 1) - 48))) (F := F) (p := (p + 2)) (t := t) hW (((jW_a (by omega)).trans ((jW_k (by decide)).trans ((jW_a (by omega)).trans ((jW_k (by decide)).trans rfl)))).trans hF) hF72 (((jW_a (by omega)).trans jW_s).trans (by omega)) (by omega) (((jW_f (by omega)).trans ((jW_f (by omega)).trans ((jW_f (by omega)).trans ((jW_f (by omega)).trans rfl)))).trans ht) hL (k := 1) (by decide)) (fun v9 w9 h9 => ?_)
                  rcases h9 with ⟨rfl, h9, h25⟩ | ⟨rfl, h9, h25⟩ <;> subst h9
                  · have h25' := h25
                    show jWp 202 75 [some (jO m), some (jI (zlt t F p)), some (jI 3), some (jI 1), some (jI 1), some (jI 0)] [jI 1] 0 0 (jW (jW (jW (jW (jW (jW w m 25 ((p : Int) + 1)) (m + 422) 0 (zlt t F (p + 1) - 48)) m 25 ((p + 2 : Nat) : Int)) (m + 422) 0 (zlt t F (p + 1) - 48)) (m + 422) 1 (zlt t F (p + 2) - 48)) m 25 ((p + 3 : Nat) : Int)) _
                    refine jWp.blk mt 2 ?_
                    show _ ∧ jWp 202 77 [some (jO m), some (jI (zlt t F p)), some (jI 3), some (jI 1), some (jI 1), some (jI 0)] [jO m] 0 0 (jW (jW (jW (jW (jW (jW w m 25 ((p : Int) + 1)) (m + 422) 0 (zlt t F (p + 1) - 48)) m 25 ((p + 2 : Nat) : Int)) (m + 422) 0 (zlt t F (p + 1) - 48)) (m + 422) 1 (zlt t F (p + 2) - 48)) m 25 ((p + 3 : Nat) : Int)) _
                    refine ⟨rfl, ?_⟩
                    refine jWp.getR (pc' := 80) (o := (m + 422)) mt rfl rfl (jtg hW.K0) hW.R26 ?_
                    show jWp 202 80 [some (jO m), some (jI (zlt t F p)), some (jI 3), some (jI 1), some (jI 1), some (jI 0)] [jO (m + 422)] 0 0 (jW (jW (jW (jW (jW (jW w m 25 ((p : Int) + 1)) (m + 422) 0 (zlt t F (p + 1) - 48)) m 25 ((p + 2 : Nat) : Int)) (m + 422) 0 (zlt t F (p + 1) - 48)) (m + 422) 1 (zlt t F (p + 2) - 48)) m 25 ((p + 3 : Nat) : Int)) _
                    refine jWp.blk mt 2 ?_
                    show jWp 202 84 [some (jO m), some (jI (zlt t F p)), some (jI 3), some (jI 1), some (jI 1), some (jI 0)] [jI 0, jI 1, jO (m + 422)] 0 0 (jW (jW (jW (jW (jW (jW w m 25 ((p : Int) + 1)) (m + 422) 0 (zlt t F (p + 1) - 48)) m 25 ((p + 2 : Nat) : Int)) (m + 422) 0 (zlt t F (p + 1) - 48)) (m + 422) 1 (zlt t F (p + 2) - 48)) m 25 ((p + 3 : Nat) : Int)) _
                    refine jWp.ifc (b := true) mt rfl (by decide) rfl ?_
                    show jWp 202 98 [some (jO m), some (jI (zlt t F p)), some (jI 3), some (jI 1), some (jI 1), some (jI 0)] [jI 1, jO (m + 422)] 0 0 (jW (jW (jW (jW (jW (jW w m 25 ((p : Int) + 1)) (m + 422) 0 (zlt t F (p + 1) - 48)) m 25 ((p + 2 : Nat) : Int)) (m + 422) 0 (zlt t F (p + 1) - 48)) (m + 422) 1 (zlt t F (p + 2) - 48)) m 25 ((p + 3 : Nat) : Int)) _
                    refine jWp.blk mt 1 ?_
                    show _ ∧ jWp 202 99 [some (jO m), some (jI (zlt t F p)), some (jI 3), some (jI 1), some (jI 1), some (jI 0)] [jO m, jI 1, jO (m + 422)] 0 0 (jW (jW (jW (jW (jW (jW w m 25 ((p : Int) + 1)) (m + 422) 0 (zlt t F (p + 1) - 48)) m 25 ((p + 2 : Nat) : Int)) (m + 422) 0 (zlt t F (p + 1) - 48)) (m + 422) 1 (zlt t F (p + 2) - 48)) m 25 ((p + 3 : Nat) : Int)) _
                    refine ⟨rfl, ?_⟩
                    refine jWp.getR (pc' := 102) (o := (m + 422)) mt rfl rfl (jtg hW.K0) hW.R26 ?_
                    show jWp 202 102 [some (jO m), some (jI (zlt t F p)), some (jI 3), some (jI 1), some (jI 1), some (jI 0)] [jO (m + 422), jI 1, jO (m + 422)] 0 0 (jW (jW (jW (jW (jW (jW w m 25 ((p : Int) + 1)) (m + 422) 0 (zlt t F (p + 1) - 48)) m 25 ((p + 2 : Nat) : Int)) (m + 422) 0 (zlt t F (p + 1) - 48)) (m + 422) 1 (zlt t F (p + 2) - 48)) m 25 ((p + 3 : Nat) : Int)) _
                    refine jWp.blk mt 1 ?_
                    show jWp 202 104 [some (jO m), some (jI (zlt t F p)), some (jI 3), some (jI 1), some (jI 1), some (jI 0)] [jI 1, jO (m + 422), jI 1, jO (m + 422)] 0 0 (jW (jW (jW (jW (jW (jW w m 25 ((p : Int) + 1)) (m + 422) 0 (zlt t F (p + 1) - 48)) m 25 ((p + 2 : Nat) : Int)) (m + 422) 0 (zlt t F (p + 1) - 48)) (m + 422) 1 (zlt t F (p + 2) - 48)) m 25 ((p + 3 : Nat) : Int)) _
                    refine jWp.iald (pc' := 105) (j := 1) mt rfl rfl (jird_of hW.K422) (by decide) (jlt hW.K422 (by decide)) ?_
                    rw [show ((jW (jW (jW (jW (jW (jW w m 25 ((p : Int) + 1)) (m + 422) 0 (zlt t F (p + 1) - 48)) m 25 ((p + 2 : Nat) : Int)) (m + 422) 0 (zlt t F (p + 1) - 48)) (m + 422) 1 (zlt t F (p + 2) - 48)) m 25 ((p + 3 : Nat) : Int)).1 (m + 422) 1) = (zlt t F (p + 2) - 48) from ((jW_a (by omega)).trans jW_s)]
                    show jWp 202 105 [some (jO m), some (jI (zlt t F p)), some (jI 3), some (jI 1), some (jI 1), some (jI 0)] [jI (zlt t F (p + 2) - 48), jI 1, jO (m + 422)] 0 0 (jW (jW (jW (jW (jW (jW w m 25 ((p : Int) + 1)) (m + 422) 0 (zlt t F (p + 1) - 48)) m 25 ((p + 2 : Nat) : Int)) (m + 422) 0 (zlt t F (p + 1) - 48)) (m + 422) 1 (zlt t F (p + 2) - 48)) m 25 ((p + 3 : Nat) : Int)) _
                    refine jWp.iast (pc' := 106) (j := 1) mt rfl rfl (jtg hW.K422) (by decide) (jlt hW.K422 (by decide)) ?_
                    show jWp 202 106 [some (jO m), some (jI (zlt t F p)), some (jI 3), some (jI 1), some (jI 1), some (jI 0)] [] 0 0 (jW (jW (jW (jW (jW (jW (jW w m 25 ((p : Int) + 1)) (m + 422) 0 (zlt t F (p + 1) - 48)) m 25 ((p + 2 : Nat) : Int)) (m + 422) 0 (zlt t F (p + 1) - 48)) (m + 422) 1 (zlt t F (p + 2) - 48)) m 25 ((p + 3 : Nat) : Int)) (m + 422) 1 (zlt t F (p + 2) - 48)) _
                    refine jWp.blk mt 4 ?_
                    show jWp 202 34 [some (jO m), some (jI (zlt t F p)), some (jI 3), some (jI 1), some (jI 2), some (jI 0)] [jI 3, jI 2] 0 0 (jW (jW (jW (jW (jW (jW (jW w m 25 ((p : Int) + 1)) (m + 422) 0 (zlt t F (p + 1) - 48)) m 25 ((p + 2 : Nat) : Int)) (m + 422) 0 (zlt t F (p + 1) - 48)) (m + 422) 1 (zlt t F (p + 2) - 48)) m 25 ((p + 3 : Nat) : Int)) (m + 422) 1 (zlt t F (p + 2) - 48)) _
                    refine jWp.icmp (pc' := 37) mt rfl rfl (show b32 2 = 2 by decide) (show b32 3 = 3 by decide) (fun h26 => ?_) (fun h26 => ?_)
                    · exact absurd (show 3 ≤ (2 : Int) from h26) (by decide)
                    · have h26 := h26
                      refine jWp.blk mt 1 ?_
                      show jWp 202 38 [some (jO m), some (jI (zlt t F p)), some (jI 3), some (jI 1), some (jI 2), some (jI 0)] [jI 1] 0 0 (jW (jW (jW (jW (jW (jW (jW w m 25 ((p : Int) + 1)) (m + 422) 0 (zlt t F (p + 1) - 48)) m 25 ((p + 2 : Nat) : Int)) (m + 422) 0 (zlt t F (p + 1) - 48)) (m + 422) 1 (zlt t F (p + 2) - 48)) m 25 ((p + 3 : Nat) : Int)) (m + 422) 1 (zlt t F (p + 2) - 48)) _
                      refine jWp.ifc (b := false) mt rfl (by decide) rfl ?_
                      show jWp 202 41 [some (jO m), some (jI (zlt t F p)), some (jI 3), some (jI 1), some (jI 2), some (jI 0)] [] 0 0 (jW (jW (jW (jW (jW (jW (jW w m 25 ((p : Int) + 1)) (m + 422) 0 (zlt t F (p + 1) - 48)) m 25 ((p + 2 : Nat) : Int)) (m + 422) 0 (zlt t F (p + 1) - 48)) (m + 422) 1 (zlt t F (p + 2) - 48)) m 25 ((p + 3 : Nat) : Int)) (m + 422) 1 (zlt t F (p + 2) - 48)) _
                      refine jWp.blk mt 2 ?_
                      show jWp 202 44 [some (jO m), some (jI (zlt t F p)), some (jI 3), some (jI 1), some (jI 2), some (jI 0)] [jI 98, jI (zlt t F p)] 0 0 (jW (jW (jW (jW (jW (jW (jW w m 25 ((p : Int) + 1)) (m + 422) 0 (zlt t F (p + 1) - 48)) m 25 ((p + 2 : Nat) : Int)) (m + 422) 0 (zlt t F (p + 1) - 48)) (m + 422) 1 (zlt t F (p + 2) - 48)) m 25 ((p + 3 : Nat) : Int)) (m + 422) 1 (zlt t F (p + 2) - 48)) _
                      refine jWp.icmp (pc' := 47) mt rfl rfl (b32_id (by have := zlt_b hL p; omega) (by have := zlt_b hL p; omega)) (show b32 98 = 98 by decide) (fun h27 => ?_) (fun h27 => ?_)
                      · have h27 : (zlt t F p) ≠ 98 := h27
                        exfalso; omega
                      · have h27 : (zlt t F p) = 98 := h27
                        refine jWp.blk mt 2 ?_
                        show jWp 202 50 [some (jO m), some (jI (zlt t F p)), some (jI 3), some (jI 1), some (jI 2), some (jI 0)] [jI 2, jI 2] 0 0 (jW (jW (jW (jW (jW (jW (jW w m 25 ((p : Int) + 1)) (m + 422) 0 (zlt t F (p + 1) - 48)) m 25 ((p + 2 : Nat) : Int)) (m + 422) 0 (zlt t F (p + 1) - 48)) (m + 422) 1 (zlt t F (p + 2) - 48)) m 25 ((p + 3 : Nat) : Int)) (m + 422) 1 (zlt t F (p + 2) - 48)) _
                        refine jWp.icmp (pc' := 53) mt rfl rfl (show b32 2 = 2 by decide) (show b32 2 = 2 by decide) (fun h28 => ?_) (fun h28 => ?_)
                        · exact absurd (show (2 : Int) ≠ 2 from h28) (by decide)
                        · have h28 := h28
                          refine jWp.blk mt 2 ?_
                          show _ ∧ jWp 202 56 [some (jO m), some (jI (zlt t F p)), some (jI 3), some (jI 1), some (jI 2), some (jI 0)] [jI 45, jO m] 0 0 (jW (jW (jW (jW (jW (jW (jW w m 25 ((p : Int) + 1)) (m + 422) 0 (zlt t F (p + 1) - 48)) m 25 ((p + 2 : Nat) : Int)) (m + 422) 0 (zlt t F (p + 1) - 48)) (m + 422) 1 (zlt t F (p + 2) - 48)) m 25 ((p + 3 : Nat) : Int)) (m + 422) 1 (zlt t F (p + 2) - 48)) _
                          refine ⟨rfl, ?_⟩
                          refine jWp.callv (as := [jO m, jI 45]) (rest := []) mt rfl rfl rfl ⟨rfl, jtg hW.K0⟩ ?_
                          refine jCall.mono (E_takes (w := (jW (jW (jW (jW (jW (jW (jW w m 25 ((p : Int) + 1)) (m + 422) 0 (zlt t F (p + 1) - 48)) m 25 ((p + 2 : Nat) : Int)) (m + 422) 0 (zlt t F (p + 1) - 48)) (m + 422) 1 (zlt t F (p + 2) - 48)) m 25 ((p + 3 : Nat) : Int)) (m + 422) 1 (zlt t F (p + 2) - 48))) (F := F) (p := (p + 3)) (t := t) hW (((jW_a (by omega)).trans ((jW_k (by decide)).trans ((jW_a (by omega)).trans ((jW_a (by omega)).trans ((jW_k (by decide)).trans ((jW_a (by omega)).trans ((jW_k (by decide)).trans rfl))))))).trans hF) hF72 (((jW_a (by omega)).trans jW_s).trans (by omega)) (by omega) (((jW_f (by omega)).trans ((jW_f (by omega)).trans ((jW_f (by omega)).trans ((jW_f (by omega)).trans ((jW_f (by omega)).trans ((jW_f (by omega)).trans ((jW_f (by omega)).trans rfl))))))).trans ht) hL (c := 45) (by unfold r32; decide)) (fun v9 w9 h9 => ?_)
                          rcases h9 with ⟨rfl, h9, h29⟩ | ⟨rfl, h9, h29⟩ <;> subst h9
                          · have h29' := h29
                            show jWp 202 59 [some (jO m), some (jI (zlt t F p)), some (jI 3), some (jI 1), some (jI 2), some (jI 0)] [jI 1] 0 0 (jW (jW (jW (jW (jW (jW (jW (jW w m 25 ((p : Int) + 1)) (m + 422) 0 (zlt t F (p + 1) - 48)) m 25 ((p + 2 : Nat) : Int)) (m + 422) 0 (zlt t F (p + 1) - 48)) (m + 422) 1 (zlt t F (p + 2) - 48)) m 25 ((p + 3 : Nat) : Int)) (m + 422) 1 (zlt t F (p + 2) - 48)) m 25 ((p + 4 : Nat) : Int)) _
                            refine jWp.ifc (b := false) mt rfl (by decide) rfl ?_
                            show jWp 202 62 [some (jO m), some (jI (zlt t F p)), some (jI 3), some (jI 1), some (jI 2), some (jI 0)] [] 0 0 (jW (jW (jW (jW (jW (jW (jW (jW w m 25 ((p : Int) + 1)) (m + 422) 0 (zlt t F (p + 1) - 48)) m 25 ((p + 2 : Nat) : Int)) (m + 422) 0 (zlt t F (p + 1) - 48)) (m + 422) 1 (zlt t F (p + 2) - 48)) m 25 ((p + 3 : Nat) : Int)) (m + 422) 1 (zlt t F (p + 2) - 48)) m 25 ((p + 4 : Nat) : Int)) _
                            refine jWp.blk mt 5 ?_
                            show _ ∧ jWp 202 72 [some (jO m), some (jI (zlt t F p)), some (jI 3), some (jI 1), some (jI 2), some (jI 1)] [jI 2, jO m] 0 0 (jW (jW (jW (jW (jW (jW (jW (jW w m 25 ((p : Int) + 1)) (m + 422) 0 (zlt t F (p + 1) - 48)) m 25 ((p + 2 : Nat) : Int)) (m + 422) 0 (zlt t F (p + 1) - 48)) (m + 422) 1 (zlt t F (p + 2) - 48)) m 25 ((p + 3 : Nat) : Int)) (m + 422) 1 (zlt t F (p + 2) - 48)) m 25 ((p + 4 : Nat) : Int)) _
                            refine ⟨rfl, ?_⟩
                            refine jWp.callv (as := [jO m, jI 2]) (rest := []) mt rfl rfl rfl ⟨rfl, jtg hW.K0⟩ ?_
                            refine jCall.mono (E_hasFigure (w := (jW (jW (jW (jW (jW (jW (jW (jW w m 25 ((p : Int) + 1)) (m + 422) 0 (zlt t F (p + 1) - 48)) m 25 ((p + 2 : Nat) : Int)) (m + 422) 0 (zlt t F (p + 1) - 48)) (m + 422) 1 (zlt t F (p + 2) - 48)) m 25 ((p + 3 : Nat) : Int)) (m + 422) 1 (zlt t F (p + 2) - 48)) m 25 ((p + 4 : Nat) : Int))) (F := F) (p := (p + 4)) (t := t) hW (((jW_k (by decide)).trans ((jW_a (by omega)).trans ((jW_k (by decide)).trans ((jW_a (by omega)).trans ((jW_a (by omega)).trans ((jW_k (by decide)).trans ((jW_a (by omega)).trans ((jW_k (by decide)).trans rfl)))))))).trans hF) hF72 (jW_s.trans (by omega)) (by omega) (((jW_f (by omega)).trans ((jW_f (by omega)).trans ((jW_f (by omega)).trans ((jW_f (by omega)).trans ((jW_f (by omega)).trans ((jW_f (by omega)).trans ((jW_f (by omega)).trans ((jW_f (by omega)).trans rfl)))))))).trans ht) hL (k := 2) (by decide)) (fun v9 w9 h9 => ?_)
                            rcases h9 with ⟨rfl, h9, h30⟩ | ⟨rfl, h9, h30⟩ <;> subst h9
                            · have h30' := h30
                              show jWp 202 75 [some (jO m), some (jI (zlt t F p)), some (jI 3), some (jI 1), some (jI 2), some (jI 1)] [jI 1] 0 0 (jW (jW (jW (jW (jW (jW (jW (jW (jW (jW w m 25 ((p : Int) + 1)) (m + 422) 0 (zlt t F (p + 1) - 48)) m 25 ((p + 2 : Nat) : Int)) (m + 422) 0 (zlt t F (p + 1) - 48)) (m + 422) 1 (zlt t F (p + 2) - 48)) m 25 ((p + 3 : Nat) : Int)) (m + 422) 1 (zlt t F (p + 2) - 48)) m 25 ((p + 4 : Nat) : Int)) (m + 422) 2 (zlt t F (p + 4) - 48)) m 25 ((p + 5 : Nat) : Int)) _
                              refine jWp.blk mt 2 ?_
                              show _ ∧ jWp 202 77 [some (jO m), some (jI (zlt t F p)), some (jI 3), some (jI 1), some (jI 2), some (jI 1)] [jO m] 0 0 (jW (jW (jW (jW (jW (jW (jW (jW (jW (jW w m 25 ((p : Int) + 1)) (m + 422) 0 (zlt t F (p + 1) - 48)) m 25 ((p + 2 : Nat) : Int)) (m + 422) 0 (zlt t F (p + 1) - 48)) (m + 422) 1 (zlt t F (p + 2) - 48)) m 25 ((p + 3 : Nat) : Int)) (m + 422) 1 (zlt t F (p + 2) - 48)) m 25 ((p + 4 : Nat) : Int)) (m + 422) 2 (zlt t F (p + 4) - 48)) m 25 ((p + 5 : Nat) : Int)) _
                              refine ⟨rfl, ?_⟩
                              refine jWp.getR (pc' := 80) (o := (m + 422)) mt rfl rfl (jtg hW.K0) hW.R26 ?_
                              show jWp 202 80 [some (jO m), some (jI (zlt t F p)), some (jI 3), some (jI 1), some (jI 2), some (jI 1)] [jO (m + 422)] 0 0 (jW (jW (jW (jW (jW (jW (jW (jW (jW (jW w m 25 ((p : Int) + 1)) (m + 422) 0 (zlt t F (p + 1) - 48)) m 25 ((p + 2 : Nat) : Int)) (m + 422) 0 (zlt t F (p + 1) - 48)) (m + 422) 1 (zlt t F (p + 2) - 48)) m 25 ((p + 3 : Nat) : Int)) (m + 422) 1 (zlt t F (p + 2) - 48)) m 25 ((p + 4 : Nat) : Int)) (m + 422) 2 (zlt t F (p + 4) - 48)) m 25 ((p + 5 : Nat) : Int)) _
                              refine jWp.blk mt 2 ?_
                              show jWp 202 84 [some (jO m), some (jI (zlt t F p)), some (jI 3), some (jI 1), some (jI 2), some (jI 1)] [jI 1, jI 2, jO (m + 422)] 0 0 (jW (jW (jW (jW (jW (jW (jW (jW (jW (jW w m 25 ((p : Int) + 1)) (m + 422) 0 (zlt t F (p + 1) - 48)) m 25 ((p + 2 : Nat) : Int)) (m + 422) 0 (zlt t F (p + 1) - 48)) (m + 422) 1 (zlt t F (p + 2) - 48)) m 25 ((p + 3 : Nat) : Int)) (m + 422) 1 (zlt t F (p + 2) - 48)) m 25 ((p + 4 : Nat) : Int)) (m + 422) 2 (zlt t F (p + 4) - 48)) m 25 ((p + 5 : Nat) : Int)) _
                              refine jWp.ifc (b := false) mt rfl (by decide) rfl ?_
                              show jWp 202 87 [some (jO m), some (jI (zlt t F p)), some (jI 3), some (jI 1), some (jI 2), some (jI 1)] [jI 2, jO (m + 422)] 0 0 (jW (jW (jW (jW (jW (jW (jW (jW (jW (jW w m 25 ((p : Int) + 1)) (m + 422) 0 (zlt t F (p + 1) - 48)) m 25 ((p + 2 : Nat) : Int)) (m + 422) 0 (zlt t F (p + 1) - 48)) (m + 422) 1 (zlt t F (p + 2) - 48)) m 25 ((p + 3 : Nat) : Int)) (m + 422) 1 (zlt t F (p + 2) - 48)) m 25 ((p + 4 : Nat) : Int)) (m + 422) 2 (zlt t F (p + 4) - 48)) m 25 ((p + 5 : Nat) : Int)) _
                              refine jWp.blk mt 1 ?_
                              show _ ∧ jWp 202 88 [some (jO m), some (jI (zlt t F p)), some (jI 3), some (jI 1), some (jI 2), some (jI 1)] [jO m, jI 2, jO (m + 422)] 0 0 (jW (jW (jW (jW (jW (jW (jW (jW (jW (jW w m 25 ((p : Int) + 1)) (m + 422) 0 (zlt t F (p + 1) - 48)) m 25 ((p + 2 : Nat) : Int)) (m + 422) 0 (zlt t F (p + 1) - 48)) (m + 422) 1 (zlt t F (p + 2) - 48)) m 25 ((p + 3 : Nat) : Int)) (m + 422) 1 (zlt t F (p + 2) - 48)) m 25 ((p + 4 : Nat) : Int)) (m + 422) 2 (zlt t F (p + 4) - 48)) m 25 ((p + 5 : Nat) : Int)) _
                              refine ⟨rfl, ?_⟩
                              refine jWp.getR (pc' := 91) (o := (m + 422)) mt rfl rfl (jtg hW.K0) hW.R26 ?_
                              show jWp 202 91 [some (jO m), some (jI (zlt t F p)), some (jI 3), some (jI 1), some (jI 2), some (jI 1)] [jO (m + 422), jI 2, jO (m + 422)] 0 0 (jW (jW (jW (jW (jW (jW (jW (jW (jW (jW w m 25 ((p : Int) + 1)) (m + 422) 0 (zlt t F (p + 1) - 48)) m 25 ((p + 2 : Nat) : Int)) (m + 422) 0 (zlt t F (p + 1) - 48)) (m + 422) 1 (zlt t F (p + 2) - 48)) m 25 ((p + 3 : Nat) : Int)) (m + 422) 1 (zlt t F (p + 2) - 48)) m 25 ((p + 4 : Nat) : Int)) (m + 422) 2 (zlt t F (p + 4) - 48)) m 25 ((p + 5 : Nat) : Int)) _
                              refine jWp.blk mt 1 ?_
                              show jWp 202 93 [some (jO m), some (jI (zlt t F p)), some (jI 3), some (jI 1), some (jI 2), some (jI 1)] [jI 2, jO (m + 422), jI 2, jO (m + 422)] 0 0 (jW (jW (jW (jW (jW (jW (jW (jW (jW (jW w m 25 ((p : Int) + 1)) (m + 422) 0 (zlt t F (p + 1) - 48)) m 25 ((p + 2 : Nat) : Int)) (m + 422) 0 (zlt t F (p + 1) - 48)) (m + 422) 1 (zlt t F (p + 2) - 48)) m 25 ((p + 3 : Nat) : Int)) (m + 422) 1 (zlt t F (p + 2) - 48)) m 25 ((p + 4 : Nat) : Int)) (m + 422) 2 (zlt t F (p + 4) - 48)) m 25 ((p + 5 : Nat) : Int)) _
                              refine jWp.iald (pc' := 94) (j := 2) mt rfl rfl (jird_of hW.K422) (by decide) (jlt hW.K422 (by decide)) ?_
                              rw [show ((jW (jW (jW (jW (jW (jW (jW (jW (jW (jW w m 25 ((p : Int) + 1)) (m + 422) 0 (zlt t F (p + 1) - 48)) m 25 ((p + 2 : Nat) : Int)) (m + 422) 0 (zlt t F (p + 1) - 48)) (m + 422) 1 (zlt t F (p + 2) - 48)) m 25 ((p + 3 : Nat) : Int)) (m + 422) 1 (zlt t F (p + 2) - 48)) m 25 ((p + 4 : Nat) : Int)) (m + 422) 2 (zlt t F (p + 4) - 48)) m 25 ((p + 5 : Nat) : Int)).1 (m + 422) 2) = (zlt t F (p + 4) - 48) from ((jW_a (by omega)).trans jW_s)]
                              show jWp 202 94 [some (jO m), some (jI (zlt t F p)), some (jI 3), some (jI 1), some (jI 2), some (jI 1)] [jI (zlt t F (p + 4) - 48), jI 2, jO (m + 422)] 0 0 (jW (jW (jW (jW (jW (jW (jW (jW (jW (jW w m 25 ((p : Int) + 1)) (m + 422) 0 (zlt t F (p + 1) - 48)) m 25 ((p + 2 : Nat) : Int)) (m + 422) 0 (zlt t F (p + 1) - 48)) (m + 422) 1 (zlt t F (p + 2) - 48)) m 25 ((p + 3 : Nat) : Int)) (m + 422) 1 (zlt t F (p + 2) - 48)) m 25 ((p + 4 : Nat) : Int)) (m + 422) 2 (zlt t F (p + 4) - 48)) m 25 ((p + 5 : Nat) : Int)) _
                              refine jWp.blk mt 2 ?_
                              show jWp 202 105 [some (jO m), some (jI (zlt t F p)), some (jI 3), some (jI 1), some (jI 2), some (jI 1)] [jI (-(zlt t F (p + 4) - 48)), jI 2, jO (m + 422)] 0 0 (jW (jW (jW (jW (jW (jW (jW (jW (jW (jW w m 25 ((p : Int) + 1)) (m + 422) 0 (zlt t F (p + 1) - 48)) m 25 ((p + 2 : Nat) : Int)) (m + 422) 0 (zlt t F (p + 1) - 48)) (m + 422) 1 (zlt t F (p + 2) - 48)) m 25 ((p + 3 : Nat) : Int)) (m + 422) 1 (zlt t F (p + 2) - 48)) m 25 ((p + 4 : Nat) : Int)) (m + 422) 2 (zlt t F (p + 4) - 48)) m 25 ((p + 5 : Nat) : Int)) _
                              refine jWp.iast (pc' := 106) (j := 2) mt rfl rfl (jtg hW.K422) (by decide) (jlt hW.K422 (by decide)) ?_
                              show jWp 202 106 [some (jO m), some (jI (zlt t F p)), some (jI 3), some (jI 1), some (jI 2), some (jI 1)] [] 0 0 (jW (jW (jW (jW (jW (jW (jW (jW (jW (jW (jW w m 25 ((p : Int) + 1)) (m + 422) 0 (zlt t F (p + 1) - 48)) m 25 ((p + 2 : Nat) : Int)) (m + 422) 0 (zlt t F (p + 1) - 48)) (m + 422) 1 (zlt t F (p + 2) - 48)) m 25 ((p + 3 : Nat) : Int)) (m + 422) 1 (zlt t F (p + 2) - 48)) m 25 ((p + 4 : Nat) : Int)) (m + 422) 2 (zlt t F (p + 4) - 48)) m 25 ((p + 5 : Nat) : Int)) (m + 422) 2 (-(zlt t F (p + 4) - 48))) _
                              refine jWp.blk mt 4 ?_
                              show jWp 202 34 [some (jO m), some (jI (zlt t F p)), some (jI 3), some (jI 1), some (jI 3), some (jI 1)] [jI 3, jI 3] 0 0 (jW (jW (jW (jW (jW (jW (jW (jW (jW (jW (jW w m 25 ((p : Int) + 1)) (m + 422) 0 (zlt t F (p + 1) - 48)) m 25 ((p + 2 : Nat) : Int)) (m + 422) 0 (zlt t F (p + 1) - 48)) (m + 422) 1 (zlt t F (p + 2) - 48)) m 25 ((p + 3 : Nat) : Int)) (m + 422) 1 (zlt t F (p + 2) - 48)) m 25 ((p + 4 : Nat) : Int)) (m + 422) 2 (zlt t F (p + 4) - 48)) m 25 ((p + 5 : Nat) : Int)) (m + 422) 2 (-(zlt t F (p + 4) - 48))) _
                              refine jWp.icmp (pc' := 37) mt rfl rfl (show b32 3 = 3 by decide) (show b32 3 = 3 by decide) (fun h31 => ?_) (fun h31 => ?_)
                              · have h31 := h31
                                refine jWp.blk mt 1 ?_
                                show jWp 202 113 [some (jO m), some (jI (zlt t F p)), some (jI 3), some (jI 1), some (jI 3), some (jI 1)] [jI 1] 0 0 (jW (jW (jW (jW (jW (jW (jW (jW (jW (jW (jW w m 25 ((p : Int) + 1)) (m + 422) 0 (zlt t F (p + 1) - 48)) m 25 ((p + 2 : Nat) : Int)) (m + 422) 0 (zlt t F (p + 1) - 48)) (m + 422) 1 (zlt t F (p + 2) - 48)) m 25 ((p + 3 : Nat) : Int)) (m + 422) 1 (zlt t F (p + 2) - 48)) m 25 ((p + 4 : Nat) : Int)) (m + 422) 2 (zlt t F (p + 4) - 48)) m 25 ((p + 5 : Nat) : Int)) (m + 422) 2 (-(zlt t F (p + 4) - 48))) _
                                refine jWp.ifc (b := false) mt rfl (by decide) rfl ?_
                                show jWp 202 116 [some (jO m), some (jI (zlt t F p)), some (jI 3), some (jI 1), some (jI 3), some (jI 1)] [] 0 0 (jW (jW (jW (jW (jW (jW (jW (jW (jW (jW (jW w m 25 ((p : Int) + 1)) (m + 422) 0 (zlt t F (p + 1) - 48)) m 25 ((p + 2 : Nat) : Int)) (m + 422) 0 (zlt t F (p + 1) - 48)) (m + 422) 1 (zlt t F (p + 2) - 48)) m 25 ((p + 3 : Nat) : Int)) (m + 422) 1 (zlt t F (p + 2) - 48)) m 25 ((p + 4 : Nat) : Int)) (m + 422) 2 (zlt t F (p + 4) - 48)) m 25 ((p + 5 : Nat) : Int)) (m + 422) 2 (-(zlt t F (p + 4) - 48))) _
                                refine jWp.blk mt 2 ?_
                                show _ ∧ jWp 202 119 [some (jO m), some (jI (zlt t F p)), some (jI 3), some (jI 1), some (jI 3), some (jI 1)] [jI 59, jO m] 0 0 (jW (jW (jW (jW (jW (jW (jW (jW (jW (jW (jW w m 25 ((p : Int) + 1)) (m + 422) 0 (zlt t F (p + 1) - 48)) m 25 ((p + 2 : Nat) : Int)) (m + 422) 0 (zlt t F (p + 1) - 48)) (m + 422) 1 (zlt t F (p + 2) - 48)) m 25 ((p + 3 : Nat) : Int)) (m + 422) 1 (zlt t F (p + 2) - 48)) m 25 ((p + 4 : Nat) : Int)) (m + 422) 2 (zlt t F (p + 4) - 48)) m 25 ((p + 5 : Nat) : Int)) (m + 422) 2 (-(zlt t F (p + 4) - 48))) _
                                refine ⟨rfl, ?_⟩
                                refine jWp.callv (as := [jO m, jI 59]) (rest := []) mt rfl rfl rfl ⟨rfl, jtg hW.K0⟩ ?_
                                refine jCall.mono (E_takes (w := (jW (jW (jW (jW (jW (jW (jW (jW (jW (jW (jW w m 25 ((p : Int) + 1)) (m + 422) 0 (zlt t F (p + 1) - 48)) m 25 ((p + 2 : Nat) : Int)) (m + 422) 0 (zlt t F (p + 1) - 48)) (m + 422) 1 (zlt t F (p + 2) - 48)) m 25 ((p + 3 : Nat) : Int)) (m + 422) 1 (zlt t F (p + 2) - 48)) m 25 ((p + 4 : Nat) : Int)) (m + 422) 2 (zlt t F (p + 4) - 48)) m 25 ((p + 5 : Nat) : Int)) (m + 422) 2 (-(zlt t F (p + 4) - 48)))) (F := F) (p := (p + 5)) (t := t) hW (((jW_a (by omega)).trans ((jW_k (by decide)).trans ((jW_a (by omega)).trans ((jW_k (by decide)).trans ((jW_a (by omega)).trans ((jW_k (by decide)).trans ((jW_a (by omega)).trans ((jW_a (by omega)).trans ((jW_k (by decide)).trans ((jW_a (by omega)).trans ((jW_k (by decide)).trans rfl))))))))))).trans hF) hF72 (((jW_a (by omega)).trans jW_s).trans (by omega)) (by omega) (((jW_f (by omega)).trans ((jW_f (by omega)).trans ((jW_f (by omega)).trans ((jW_f (by omega)).trans ((jW_f (by omega)).trans ((jW_f (by omega)).trans ((jW_f (by omega)).trans ((jW_f (by omega)).trans ((jW_f (by omega)).trans ((jW_f (by omega)).trans ((jW_f (by omega)).trans rfl))))))))))).trans ht) hL (c := 59) (by unfold r32; decide)) (fun v9 w9 h9 => ?_)
                                rcases h9 with ⟨rfl, h9, h32⟩ | ⟨rfl, h9, h32⟩ <;> subst h9
                                · have h32' := h32
                                  show jWp 202 122 [some (jO m), some (jI (zlt t F p)), some (jI 3), some (jI 1), some (jI 3), some (jI 1)] [jI 1] 0 0 (jW (jW (jW (jW (jW (jW (jW (jW (jW (jW (jW (jW w m 25 ((p : Int) + 1)) (m + 422) 0 (zlt t F (p + 1) - 48)) m 25 ((p + 2 : Nat) : Int)) (m + 422) 0 (zlt t F (p + 1) - 48)) (m + 422) 1 (zlt t F (p + 2) - 48)) m 25 ((p + 3 : Nat) : Int)) (m + 422) 1 (zlt t F (p + 2) - 48)) m 25 ((p + 4 : Nat) : Int)) (m + 422) 2 (zlt t F (p + 4) - 48)) m 25 ((p + 5 : Nat) : Int)) (m + 422) 2 (-(zlt t F (p + 4) - 48))) m 25 ((p + 6 : Nat) : Int)) _
                                  refine jWp.ifc (b := false) mt rfl (by decide) rfl ?_
                                  show jWp 202 125 [some (jO m), some (jI (zlt t F p)), some (jI 3), some (jI 1), some (jI 3), some (jI 1)] [] 0 0 (jW (jW (jW (jW (jW (jW (jW (jW (jW (jW (jW (jW w m 25 ((p : Int) + 1)) (m + 422) 0 (zlt t F (p + 1) - 48)) m 25 ((p + 2 : Nat) : Int)) (m + 422) 0 (zlt t F (p + 1) - 48)) (m + 422) 1 (zlt t F (p + 2) - 48)) m 25 ((p + 3 : Nat) : Int)) (m + 422) 1 (zlt t F (p + 2) - 48)) m 25 ((p + 4 : Nat) : Int)) (m + 422) 2 (zlt t F (p + 4) - 48)) m 25 ((p + 5 : Nat) : Int)) (m + 422) 2 (-(zlt t F (p + 4) - 48))) m 25 ((p + 6 : Nat) : Int)) _
                                  refine jWp.blk mt 2 ?_
                                  show jWp 202 130 [some (jO m), some (jI (zlt t F p)), some (jI 3), some (jI 1), some (jI 3), some (jI 1)] [jI 1] 0 0 (jW (jW (jW (jW (jW (jW (jW (jW (jW (jW (jW (jW w m 25 ((p : Int) + 1)) (m + 422) 0 (zlt t F (p + 1) - 48)) m 25 ((p + 2 : Nat) : Int)) (m + 422) 0 (zlt t F (p + 1) - 48)) (m + 422) 1 (zlt t F (p + 2) - 48)) m 25 ((p + 3 : Nat) : Int)) (m + 422) 1 (zlt t F (p + 2) - 48)) m 25 ((p + 4 : Nat) : Int)) (m + 422) 2 (zlt t F (p + 4) - 48)) m 25 ((p + 5 : Nat) : Int)) (m + 422) 2 (-(zlt t F (p + 4) - 48))) m 25 ((p + 6 : Nat) : Int)) _
                                  refine jWp.iretz mt rfl ⟨rfl, rfl⟩ rfl (Or.inr rfl) ?_
                                  have hl9 := zlt_l (t := t) (F := F) (by assumption : zlt t F (p + 5) = 59) (by decide)
                                  refine ⟨(p + 6), ⟨rfl, fun a ga gb => ((jW_f (by omega)).trans ((jW_f (by omega)).trans ((jW_f (by omega)).trans ((jW_f (by omega)).trans ((jW_f (by omega)).trans ((jW_f (by omega)).trans ((jW_f (by omega)).trans ((jW_f (by omega)).trans ((jW_f (by omega)).trans ((jW_f (by omega)).trans ((jW_f (by omega)).trans ((jW_f (by omega)).trans rfl)))))))))))), fun j gj => ((jW_k (by omega)).trans ((jW_a (by omega)).trans ((jW_k (by omega)).trans ((jW_a (by omega)).trans ((jW_k (by omega)).trans ((jW_a (by omega)).trans ((jW_k (by omega)).trans ((jW_a (by omega)).trans ((jW_a (by omega)).trans ((jW_k (by omega)).trans ((jW_a (by omega)).trans ((jW_k (by omega)).trans rfl))))))))))))⟩, jW_s, Or.inl ⟨rfl, ?_, by omega, by omega, by omega, by omega, ⟨((jW_a (by omega)).trans ((jW_k (by decide)).trans ((jW_a (by omega)).trans ((jW_k (by decide)).trans ((jW_a (by omega)).trans ((jW_k (by decide)).trans ((jW_a (by omega)).trans ((jW_k (by decide)).trans jW_s)))))))).trans ?_, by rw [((jW_a (by omega)).trans ((jW_k (by decide)).trans ((jW_a (by omega)).trans ((jW_k (by decide)).trans ((jW_a (by omega)).trans ((jW_k (by decide)).trans ((jW_a (by omega)).trans ((jW_k (by decide)).trans jW_s))))))))]; omega, by rw [((jW_a (by omega)).trans ((jW_k (by decide)).trans ((jW_a (by omega)).trans ((jW_k (by decide)).trans ((jW_a (by omega)).trans ((jW_k (by decide)).trans ((jW_a (by omega)).trans ((jW_k (by decide)).trans jW_s))))))))]; omega⟩, ?_, ?_⟩⟩
                                  · unfold zbh zfn
                                    (repeat' split) <;> omega
                                  · unfold zfg
                                    split <;> omega
                                  · intro hc9
                                    first
                                    | (exfalso; omega)
                                    | (rw [((jW_a (by omega)).trans ((jW_k (by decide)).trans ((jW_a (by omega)).trans ((jW_k (by decide)).trans ((jW_a (by omega)).trans jW_s)))))]
                                       refine ⟨?_, by omega, by omega⟩
                                       unfold zfg
                                       split <;> omega)
                                  · intro hc9
                                    first
                                    | (exfalso; omega)
                                    | (rw [((jW_a (by omega)).trans jW_s)]
                                       refine ⟨?_, by omega, by omega⟩
                                       unfold znm zfg
                                       try rw [show p + 3 + 1 = p + 4 from rfl]
                                       (repeat' split) <;> omega)
                                · have h32' := h32
                                  show jWp 202 122 [some (jO m), some (jI (zlt t F p)), some (jI 3), some (jI 1), some (jI 3), some (jI 1)] [jI 0] 0 0 (jW (jW (jW (jW (jW (jW (jW (jW (jW (jW (jW w m 25 ((p : Int) + 1)) (m + 422) 0 (zlt t F (p + 1) - 48)) m 25 ((p + 2 : Nat) : Int)) (m + 422) 0 (zlt t F (p + 1) - 48)) (m + 422) 1 (zlt t F (p + 2) - 48)) m 25 ((p + 3 : Nat) : Int)) (m + 422) 1 (zlt t F (p + 2) - 48)) m 25 ((p + 4 : Nat) : Int)) (m + 422) 2 (zlt t F (p + 4) - 48)) m 25 ((p + 5 : Nat) : Int)) (m + 422) 2 (-(zlt t F (p + 4) - 48))) _
                                  refine jWp.ifc (b := true) mt rfl (by decide) rfl ?_
                                  show jWp 202 129 [some (jO m), some (jI (zlt t F p)), some (jI 3), some (jI 1), some (jI 3), some (jI 1)] [] 0 0 (jW (jW (jW (jW (jW (jW (jW (jW (jW (jW (jW w m 25 ((p : Int) + 1)) (m + 422) 0 (zlt t F (p + 1) - 48)) m 25 ((p + 2 : Nat) : Int)) (m + 422) 0 (zlt t F (p + 1) - 48)) (m + 422) 1 (zlt t F (p + 2) - 48)) m 25 ((p + 3 : Nat) : Int)) (m + 422) 1 (zlt t F (p + 2) - 48)) m 25 ((p + 4 : Nat) : Int)) (m + 422) 2 (zlt t F (p + 4) - 48)) m 25 ((p + 5 : Nat) : Int)) (m + 422) 2 (-(zlt t F (p + 4) - 48))) _
                                  refine jWp.blk mt 1 ?_
                                  show jWp 202 130 [some (jO m), some (jI (zlt t F p)), some (jI 3), some (jI 1), some (jI 3), some (jI 1)] [jI 0] 0 0 (jW (jW (jW (jW (jW (jW (jW (jW (jW (jW (jW w m 25 ((p : Int) + 1)) (m + 422) 0 (zlt t F (p + 1) - 48)) m 25 ((p + 2 : Nat) : Int)) (m + 422) 0 (zlt t F (p + 1) - 48)) (m + 422) 1 (zlt t F (p + 2) - 48)) m 25 ((p + 3 : Nat) : Int)) (m + 422) 1 (zlt t F (p + 2) - 48)) m 25 ((p + 4 : Nat) : Int)) (m + 422) 2 (zlt t F (p + 4) - 48)) m 25 ((p + 5 : Nat) : Int)) (m + 422) 2 (-(zlt t F (p + 4) - 48))) _
                                  refine jWp.iretz mt rfl ⟨rfl, rfl⟩ rfl (Or.inl rfl) ?_
                                  refine ⟨(p + 5), ⟨rfl, fun a ga gb => ((jW_f (by omega)).trans ((jW_f (by omega)).trans ((jW_f (by omega)).trans ((jW_f (by omega)).trans ((jW_f (by omega)).trans ((jW_f (by omega)).trans ((jW_f (by omega)).trans ((jW_f (by omega)).trans ((jW_f (by omega)).trans ((jW_f (by omega)).trans ((jW_f (by omega)).trans rfl))))))))))), fun j gj => ((jW_a (by omega)).trans ((jW_k (by omega)).trans ((jW_a (by omega)).trans ((jW_k (by omega)).trans ((jW_a (by omega)).trans ((jW_k (by omega)).trans ((jW_a (by omega)).trans ((jW_a (by omega)).trans ((jW_k (by omega)).trans ((jW_a (by omega)).trans ((jW_k (by omega)).trans rfl)))))))))))⟩, ((jW_a (by omega)).trans jW_s).trans (by omega), Or.inr ⟨rfl, ?_, by omega, by omega⟩⟩
                                  unfold zbh zfn
                                  (repeat' split) <;> omega
                              · exact absurd (show (3 : Int) < 3 from h31) (by decide)
                            · have h30' := h30
                              show jWp 202 75 [some (jO m), some (jI (zlt t F p)), some (jI 3), some (jI 1), some (jI 2), some (jI 1)] [jI 0] 0 0 (jW (jW (jW (jW (jW (jW (jW (jW (jW w m 25 ((p : Int) + 1)) (m + 422) 0 (zlt t F (p + 1) - 48)) m 25 ((p + 2 : Nat) : Int)) (m + 422) 0 (zlt t F (p + 1) - 48)) (m + 422) 1 (zlt t F (p + 2) - 48)) m 25 ((p + 3 : Nat) : Int)) (m + 422) 1 (zlt t F (p + 2) - 48)) m 25 ((p + 4 : Nat) : Int)) (m + 422) 2 0) _
                              refine jWp.blk mt 2 ?_
                              show _ ∧ jWp 202 77 [some (jO m), some (jI (zlt t F p)), some (jI 3), some (jI 0), some (jI 2), some (jI 1)] [jO m] 0 0 (jW (jW (jW (jW (jW (jW (jW (jW (jW w m 25 ((p : Int) + 1)) (m + 422) 0 (zlt t F (p + 1) - 48)) m 25 ((p + 2 : Nat) : Int)) (m + 422) 0 (zlt t F (p + 1) - 48)) (m + 422) 1 (zlt t F (p + 2) - 48)) m 25 ((p + 3 : Nat) : Int)) (m + 422) 1 (zlt t F (p + 2) - 48)) m 25 ((p + 4 : Nat) : Int)) (m + 422) 2 0) _
                              refine ⟨rfl, ?_⟩
                              refine jWp.getR (pc' := 80) (o := (m + 422)) mt rfl rfl (jtg hW.K0) hW.R26 ?_
                              show jWp 202 80 [some (jO m), some (jI (zlt t F p)), some (jI 3), some (jI 0), some (jI 2), some (jI 1)] [jO (m + 422)] 0 0 (jW (jW (jW (jW (jW (jW (jW (jW (jW w m 25 ((p : Int) + 1)) (m + 422) 0 (zlt t F (p + 1) - 48)) m 25 ((p + 2 : Nat) : Int)) (m + 422) 0 (zlt t F (p + 1) - 48)) (m + 422) 1 (zlt t F (p + 2) - 48)) m 25 ((p + 3 : Nat) : Int)) (m + 422) 1 (zlt t F (p + 2) - 48)) m 25 ((p + 4 : Nat) : Int)) (m + 422) 2 0) _
                              refine jWp.blk mt 2 ?_
                              show jWp 202 84 [some (jO m), some (jI (zlt t F p)), some (jI 3), some (jI 0), some (jI 2), some (jI 1)] [jI 1, jI 2, jO (m + 422)] 0 0 (jW (jW (jW (jW (jW (jW (jW (jW (jW w m 25 ((p : Int) + 1)) (m + 422) 0 (zlt t F (p + 1) - 48)) m 25 ((p + 2 : Nat) : Int)) (m + 422) 0 (zlt t F (p + 1) - 48)) (m + 422) 1 (zlt t F (p + 2) - 48)) m 25 ((p + 3 : Nat) : Int)) (m + 422) 1 (zlt t F (p + 2) - 48)) m 25 ((p + 4 : Nat) : Int)) (m + 422) 2 0) _
                              refine jWp.ifc (b := false) mt rfl (by decide) rfl ?_
                              show jWp 202 87 [some (jO m), some (jI (zlt t F p)), some (jI 3), some (jI 0), some (jI 2), some (jI 1)] [jI 2, jO (m + 422)] 0 0 (jW (jW (jW (jW (jW (jW (jW (jW (jW w m 25 ((p : Int) + 1)) (m + 422) 0 (zlt t F (p + 1) - 48)) m 25 ((p + 2 : Nat) : Int)) (m + 422) 0 (zlt t F (p + 1) - 48)) (m + 422) 1 (zlt t F (p + 2) - 48)) m 25 ((p + 3 : Nat) : Int)) (m + 422) 1 (zlt t F (p + 2) - 48)) m 25 ((p + 4 : Nat) : Int)) (m + 422) 2 0) _
                              refine jWp.blk mt 1 ?_
                              show _ ∧ jWp 202 88 [some (jO m), some (jI (zlt t F p)), some (jI 3), some (jI 0), some (jI 2), some (jI 1)] [jO m, jI 2, jO (m + 422)] 0 0 (jW (jW (jW (jW (jW (jW (jW (jW (jW w m 25 ((p : Int) + 1)) (m + 422) 0 (zlt t F (p + 1) - 48)) m 25 ((p + 2 : Nat) : Int)) (m + 422) 0 (zlt t F (p + 1) - 48)) (m + 422) 1 (zlt t F (p + 2) - 48)) m 25 ((p + 3 : Nat) : Int)) (m + 422) 1 (zlt t F (p + 2) - 48)) m 25 ((p + 4 : Nat) : Int)) (m + 422) 2 0) _
                              refine ⟨rfl, ?_⟩
                              refine jWp.getR (pc' := 91) (o := (m + 422)) mt rfl rfl (jtg hW.K0) hW.R26 ?_
                              show jWp 202 91 [some (jO m), some (jI (zlt t F p)), some (jI 3), some (jI 0), some (jI 2), some (jI 1)] [jO (m + 422), jI 2, jO (m + 422)] 0 0 (jW (jW (jW (jW (jW (jW (jW (jW (jW w m 25 ((p : Int) + 1)) (m + 422) 0 (zlt t F (p + 1) - 48)) m 25 ((p + 2 : Nat) : Int)) (m + 422) 0 (zlt t F (p + 1) - 48)) (m + 422) 1 (zlt t F (p + 2) - 48)) m 25 ((p + 3 : Nat) : Int)) (m + 422) 1 (zlt t F (p + 2) - 48)) m 25 ((p + 4 : Nat) : Int)) (m + 422) 2 0) _
                              refine jWp.blk mt 1 ?_
                              show jWp 202 93 [some (jO m), some (jI (zlt t F p)), some (jI 3), some (jI 0), some (jI 2), some (jI 1)] [jI 2, jO (m + 422), jI 2, jO (m + 422)] 0 0 (jW (jW (jW (jW (jW (jW (jW (jW (jW w m 25 ((p : Int) + 1)) (m + 422) 0 (zlt t F (p + 1) - 48)) m 25 ((p + 2 : Nat) : Int)) (m + 422) 0 (zlt t F (p + 1) - 48)) (m + 422) 1 (zlt t F (p + 2) - 48)) m 25 ((p + 3 : Nat) : Int)) (m + 422) 1 (zlt t F (p + 2) - 48)) m 25 ((p + 4 : Nat) : Int)) (m + 422) 2 0) _
                              refine jWp.iald (pc' := 94) (j := 2) mt rfl rfl (jird_of hW.K422) (by decide) (jlt hW.K422 (by decide)) ?_
                              rw [show ((jW (jW (jW (jW (jW (jW (jW (jW (jW w m 25 ((p : Int) + 1)) (m + 422) 0 (zlt t F (p + 1) - 48)) m 25 ((p + 2 : Nat) : Int)) (m + 422) 0 (zlt t F (p + 1) - 48)) (m + 422) 1 (zlt t F (p + 2) - 48)) m 25 ((p + 3 : Nat) : Int)) (m + 422) 1 (zlt t F (p + 2) - 48)) m 25 ((p + 4 : Nat) : Int)) (m + 422) 2 0).1 (m + 422) 2) = 0 from jW_s]
                              show jWp 202 94 [some (jO m), some (jI (zlt t F p)), some (jI 3), some (jI 0), some (jI 2), some (jI 1)] [jI 0, jI 2, jO (m + 422)] 0 0 (jW (jW (jW (jW (jW (jW (jW (jW (jW w m 25 ((p : Int) + 1)) (m + 422) 0 (zlt t F (p + 1) - 48)) m 25 ((p + 2 : Nat) : Int)) (m + 422) 0 (zlt t F (p + 1) - 48)) (m + 422) 1 (zlt t F (p + 2) - 48)) m 25 ((p + 3 : Nat) : Int)) (m + 422) 1 (zlt t F (p + 2) - 48)) m 25 ((p + 4 : Nat) : Int)) (m + 422) 2 0) _
                              refine jWp.blk mt 2 ?_
                              show jWp 202 105 [some (jO m), some (jI (zlt t F p)), some (jI 3), some (jI 0), some (jI 2), some (jI 1)] [jI (-0), jI 2, jO (m + 422)] 0 0 (jW (jW (jW (jW (jW (jW (jW (jW (jW w m 25 ((p : Int) + 1)) (m + 422) 0 (zlt t F (p + 1) - 48)) m 25 ((p + 2 : Nat) : Int)) (m + 422) 0 (zlt t F (p + 1) - 48)) (m + 422) 1 (zlt t F (p + 2) - 48)) m 25 ((p + 3 : Nat) : Int)) (m + 422) 1 (zlt t F (p + 2) - 48)) m 25 ((p + 4 : Nat) : Int)) (m + 422) 2 0) _
                              refine jWp.iast (pc' := 106) (j := 2) mt rfl rfl (jtg hW.K422) (by decide) (jlt hW.K422 (by decide)) ?_
                              show jWp 202 106 [some (jO m), some (jI (zlt t F p)), some (jI 3), some (jI 0), some (jI 2), some (jI 1)] [] 0 0 (jW (jW (jW (jW (jW (jW (jW (jW (jW (jW w m 25 ((p : Int) + 1)) (m + 422) 0 (zlt t F (p + 1) - 48)) m 25 ((p + 2 : Nat) : Int)) (m + 422) 0 (zlt t F (p + 1) - 48)) (m + 422) 1 (zlt t F (p + 2) - 48)) m 25 ((p + 3 : Nat) : Int)) (m + 422) 1 (zlt t F (p + 2) - 48)) m 25 ((p + 4 : Nat) : Int)) (m + 422) 2 0) (m + 422) 2 (-0)) _
                              refine jWp.blk mt 4 ?_
                              show jWp 202 34 [some (jO m), some (jI (zlt t F p)), some (jI 3), some (jI 0), some (jI 3), some (jI 1)] [jI 3, jI 3] 0 0 (jW (jW (jW (jW (jW (jW (jW (jW (jW (jW w m 25 ((p : Int) + 1)) (m + 422) 0 (zlt t F (p + 1) - 48)) m 25 ((p + 2 : Nat) : Int)) (m + 422) 0 (zlt t F (p + 1) - 48)) (m + 422) 1 (zlt t F (p + 2) - 48)) m 25 ((p + 3 : Nat) : Int)) (m + 422) 1 (zlt t F (p + 2) - 48)) m 25 ((p + 4 : Nat) : Int)) (m + 422) 2 0) (m + 422) 2 (-0)) _
                              refine jWp.icmp (pc' := 37) mt rfl rfl (show b32 3 = 3 by decide) (show b32 3 = 3 by decide) (fun h33 => ?_) (fun h33 => ?_)
                              · have h33 := h33
                                refine jWp.blk mt 1 ?_
                                show jWp 202 113 [some (jO m), some (jI (zlt t F p)), some (jI 3), some (jI 0), some (jI 3), some (jI 1)] [jI 0] 0 0 (jW (jW (jW (jW (jW (jW (jW (jW (jW (jW w m 25 ((p : Int) + 1)) (m + 422) 0 (zlt t F (p + 1) - 48)) m 25 ((p + 2 : Nat) : Int)) (m + 422) 0 (zlt t F (p + 1) - 48)) (m + 422) 1 (zlt t F (p + 2) - 48)) m 25 ((p + 3 : Nat) : Int)) (m + 422) 1 (zlt t F (p + 2) - 48)) m 25 ((p + 4 : Nat) : Int)) (m + 422) 2 0) (m + 422) 2 (-0)) _
                                refine jWp.ifc (b := true) mt rfl (by decide) rfl ?_
                                show jWp 202 129 [some (jO m), some (jI (zlt t F p)), some (jI 3), some (jI 0), some (jI 3), some (jI 1)] [] 0 0 (jW (jW (jW (jW (jW (jW (jW (jW (jW (jW w m 25 ((p : Int) + 1)) (m + 422) 0 (zlt t F (p + 1) - 48)) m 25 ((p + 2 : Nat) : Int)) (m + 422) 0 (zlt t F (p + 1) - 48)) (m + 422) 1 (zlt t F (p + 2) - 48)) m 25 ((p + 3 : Nat) : Int)) (m + 422) 1 (zlt t F (p + 2) - 48)) m 25 ((p + 4 : Nat) : Int)) (m + 422) 2 0) (m + 422) 2 (-0)) _
                                refine jWp.blk mt 1 ?_
                                show jWp 202 130 [some (jO m), some (jI (zlt t F p)), some (jI 3), some (jI 0), some (jI 3), some (jI 1)] [jI 0] 0 0 (jW (jW (jW (jW (jW (jW (jW (jW (jW (jW w m 25 ((p : Int) + 1)) (m + 422) 0 (zlt t F (p + 1) - 48)) m 25 ((p + 2 : Nat) : Int)) (m + 422) 0 (zlt t F (p + 1) - 48)) (m + 422) 1 (zlt t F (p + 2) - 48)) m 25 ((p + 3 : Nat) : Int)) (m + 422) 1 (zlt t F (p + 2) - 48)) m 25 ((p + 4 : Nat) : Int)) (m + 422) 2 0) (m + 422) 2 (-0)) _
                                refine jWp.iretz mt rfl ⟨rfl, rfl⟩ rfl (Or.inl rfl) ?_
                                refine ⟨(p + 4), ⟨rfl, fun a ga gb => ((jW_f (by omega)).trans ((jW_f (by omega)).trans ((jW_f (by omega)).trans ((jW_f (by omega)).trans ((jW_f (by omega)).trans ((jW_f (by omega)).trans ((jW_f (by omega)).trans ((jW_f (by omega)).trans ((jW_f (by omega)).trans ((jW_f (by omega)).trans rfl)))))))))), fun j gj => ((jW_a (by omega)).trans ((jW_a (by omega)).trans ((jW_k (by omega)).trans ((jW_a (by omega)).trans ((jW_k (by omega)).trans ((jW_a (by omega)).trans ((jW_a (by omega)).trans ((jW_k (by omega)).trans ((jW_a (by omega)).trans ((jW_k (by omega)).trans rfl))))))))))⟩, ((jW_a (by omega)).trans ((jW_a (by omega)).trans jW_s)).trans (by omega), Or.inr ⟨rfl, ?_, by omega, by omega⟩⟩
                                unfold zbh zfn
                                (repeat' split) <;> omega
                              · exact absurd (show (3 : Int) < 3 from h33) (by decide)
                          · have h29' := h29
                            show jWp 202 59 [some (jO m), some (jI (zlt t F p)), some (jI 3), some (jI 1), some (jI 2), some (jI 0)] [jI 0] 0 0 (jW (jW (jW (jW (jW (jW (jW w m 25 ((p : Int) + 1)) (m + 422) 0 (zlt t F (p + 1) - 48)) m 25 ((p + 2 : Nat) : Int)) (m + 422) 0 (zlt t F (p + 1) - 48)) (m + 422) 1 (zlt t F (p + 2) - 48)) m 25 ((p + 3 : Nat) : Int)) (m + 422) 1 (zlt t F (p + 2) - 48)) _
                            refine jWp.ifc (b := true) mt rfl (by decide) rfl ?_
                            show jWp 202 66 [some (jO m), some (jI (zlt t F p)), some (jI 3), some (jI 1), some (jI 2), some (jI 0)] [] 0 0 (jW (jW (jW (jW (jW (jW (jW w m 25 ((p : Int) + 1)) (m + 422) 0 (zlt t F (p + 1) - 48)) m 25 ((p + 2 : Nat) : Int)) (m + 422) 0 (zlt t F (p + 1) - 48)) (m + 422) 1 (zlt t F (p + 2) - 48)) m 25 ((p + 3 : Nat) : Int)) (m + 422) 1 (zlt t F (p + 2) - 48)) _
                            refine jWp.blk mt 4 ?_
                            show _ ∧ jWp 202 72 [some (jO m), some (jI (zlt t F p)), some (jI 3), some (jI 1), some (jI 2), some (jI 0)] [jI 2, jO m] 0 0 (jW (jW (jW (jW (jW (jW (jW w m 25 ((p : Int) + 1)) (m + 422) 0 (zlt t F (p + 1) - 48)) m 25 ((p + 2 : Nat) : Int)) (m + 422) 0 (zlt t F (p + 1) - 48)) (m + 422) 1 (zlt t F (p + 2) - 48)) m 25 ((p + 3 : Nat) : Int)) (m + 422) 1 (zlt t F (p + 2) - 48)) _
                            refine ⟨rfl, ?_⟩
                            refine jWp.callv (as := [jO m, jI 2]) (rest := []) mt rfl rfl rfl ⟨rfl, jtg hW.K0⟩ ?_
                            refine jCall.mono (E_hasFigure (w := (jW (jW (jW (jW (jW (jW (jW w m 25 ((p : Int) + 1)) (m + 422) 0 (zlt t F (p + 1) - 48)) m 25 ((p + 2 : Nat) : Int)) (m + 422) 0 (zlt t F (p + 1) - 48)) (m + 422) 1 (zlt t F (p + 2) - 48)) m 25 ((p + 3 : Nat) : Int)) (m + 422) 1 (zlt t F (p + 2) - 48))) (F := F) (p := (p + 3)) (t := t) hW (((jW_a (by omega)).trans ((jW_k (by decide)).trans ((jW_a (by omega)).trans ((jW_a (by omega)).trans ((jW_k (by decide)).trans ((jW_a (by omega)).trans ((jW_k (by decide)).trans rfl))))))).trans hF) hF72 (((jW_a (by omega)).trans jW_s).trans (by omega)) (by omega) (((jW_f (by omega)).trans ((jW_f (by omega)).trans ((jW_f (by omega)).trans ((jW_f (by omega)).trans ((jW_f (by omega)).trans ((jW_f (by omega)).trans ((jW_f (by omega)).trans rfl))))))).trans ht) hL (k := 2) (by decide)) (fun v9 w9 h9 => ?_)
                            rcases h9 with ⟨rfl, h9, h34⟩ | ⟨rfl, h9, h34⟩ <;> subst h9
                            · have h34' := h34
                              show jWp 202 75 [some (jO m), some (jI (zlt t F p)), some (jI 3), some (jI 1), some (jI 2), some (jI 0)] [jI 1] 0 0 (jW (jW (jW (jW (jW (jW (jW (jW (jW w m 25 ((p : Int) + 1)) (m + 422) 0 (zlt t F (p + 1) - 48)) m 25 ((p + 2 : Nat) : Int)) (m + 422) 0 (zlt t F (p + 1) - 48)) (m + 422) 1 (zlt t F (p + 2) - 48)) m 25 ((p + 3 : Nat) : Int)) (m + 422) 1 (zlt t F (p + 2) - 48)) (m + 422) 2 (zlt t F (p + 3) - 48)) m 25 ((p + 4 : Nat) : Int)) _
                              refine jWp.blk mt 2 ?_
                              show _ ∧ jWp 202 77 [some (jO m), some (jI (zlt t F p)), some (jI 3), some (jI 1), some (jI 2), some (jI 0)] [jO m] 0 0 (jW (jW (jW (jW (jW (jW (jW (jW (jW w m 25 ((p : Int) + 1)) (m + 422) 0 (zlt t F (p + 1) - 48)) m 25 ((p + 2 : Nat) : Int)) (m + 422) 0 (zlt t F (p + 1) - 48)) (m + 422) 1 (zlt t F (p + 2) - 48)) m 25 ((p + 3 : Nat) : Int)) (m + 422) 1 (zlt t F (p + 2) - 48)) (m + 422) 2 (zlt t F (p + 3) - 48)) m 25 ((p + 4 : Nat) : Int)) _
                              refine ⟨rfl, ?_⟩
                              refine jWp.getR (pc' := 80) (o := (m + 422)) mt rfl rfl (jtg hW.K0) hW.R26 ?_
                              show jWp 202 80 [some (jO m), some (jI (zlt t F p)), some (jI 3), some (jI 1), some (jI 2), some (jI 0)] [jO (m + 422)] 0 0 (jW (jW (jW (jW (jW (jW (jW (jW (jW w m 25 ((p : Int) + 1)) (m + 422) 0 (zlt t F (p + 1) - 48)) m 25 ((p + 2 : Nat) : Int)) (m + 422) 0 (zlt t F (p + 1) - 48)) (m + 422) 1 (zlt t F (p + 2) - 48)) m 25 ((p + 3 : Nat) : Int)) (m + 422) 1 (zlt t F (p + 2) - 48)) (m + 422) 2 (zlt t F (p + 3) - 48)) m 25 ((p + 4 : Nat) : Int)) _
                              refine jWp.blk mt 2 ?_
                              show jWp 202 84 [some (jO m), some (jI (zlt t F p)), some (jI 3), some (jI 1), some (jI 2), some (jI 0)] [jI 0, jI 2, jO (m + 422)] 0 0 (jW (jW (jW (jW (jW (jW (jW (jW (jW w m 25 ((p : Int) + 1)) (m + 422) 0 (zlt t F (p + 1) - 48)) m 25 ((p + 2 : Nat) : Int)) (m + 422) 0 (zlt t F (p + 1) - 48)) (m + 422) 1 (zlt t F (p + 2) - 48)) m 25 ((p + 3 : Nat) : Int)) (m + 422) 1 (zlt t F (p + 2) - 48)) (m + 422) 2 (zlt t F (p + 3) - 48)) m 25 ((p + 4 : Nat) : Int)) _
                              refine jWp.ifc (b := true) mt rfl (by decide) rfl ?_
                              show jWp 202 98 [some (jO m), some (jI (zlt t F p)), some (jI 3), some (jI 1), some (jI 2), some (jI 0)] [jI 2, jO (m + 422)] 0 0 (jW (jW (jW (jW (jW (jW (jW (jW (jW w m 25 ((p : Int) + 1)) (m + 422) 0 (zlt t F (p + 1) - 48)) m 25 ((p + 2 : Nat) : Int)) (m + 422) 0 (zlt t F (p + 1) - 48)) (m + 422) 1 (zlt t F (p + 2) - 48)) m 25 ((p + 3 : Nat) : Int)) (m + 422) 1 (zlt t F (p + 2) - 48)) (m + 422) 2 (zlt t F (p + 3) - 48)) m 25 ((p + 4 : Nat) : Int)) _
                              refine jWp.blk mt 1 ?_
                              show _ ∧ jWp 202 99 [some (jO m), some (jI (zlt t F p)), some (jI 3), some (jI 1), some (jI 2), some (jI 0)] [jO m, jI 2, jO (m + 422)] 0 0 (jW (jW (jW (jW (jW (jW (jW (jW (jW w m 25 ((p : Int) + 1)) (m + 422) 0 (zlt t F (p + 1) - 48)) m 25 ((p + 2 : Nat) : Int)) (m + 422) 0 (zlt t F (p + 1) - 48)) (m + 422) 1 (zlt t F (p + 2) - 48)) m 25 ((p + 3 : Nat) : Int)) (m + 422) 1 (zlt t F (p + 2) - 48)) (m + 422) 2 (zlt t F (p + 3) - 48)) m 25 ((p + 4 : Nat) : Int)) _
                              refine ⟨rfl, ?_⟩
                              refine jWp.getR (pc' := 102) (o := (m + 422)) mt rfl rfl (jtg hW.K0) hW.R26 ?_
                              show jWp 202 102 [some (jO m), some (jI (zlt t F p)), some (jI 3), some (jI 1), some (jI 2), some (jI 0)] [jO (m + 422), jI 2, jO (m + 422)] 0 0 (jW (jW (jW (jW (jW (jW (jW (jW (jW w m 25 ((p : Int) + 1)) (m + 422) 0 (zlt t F (p + 1) - 48)) m 25 ((p + 2 : Nat) : Int)) (m + 422) 0 (zlt t F (p + 1) - 48)) (m + 422) 1 (zlt t F (p + 2) - 48)) m 25 ((p + 3 : Nat) : Int)) (m + 422) 1 (zlt t F (p + 2) - 48)) (m + 422) 2 (zlt t F (p + 3) - 48)) m 25 ((p + 4 : Nat) : Int)) _
                              refine jWp.blk mt 1 ?_
                              show jWp 202 104 [some (jO m), some (jI (zlt t F p)), some (jI 3), some (jI 1), some (jI 2), some (jI 0)] [jI 2, jO (m + 422), jI 2, jO (m + 422)] 0 0 (jW (jW (jW (jW (jW (jW (jW (jW (jW w m 25 ((p : Int) + 1)) (m + 422) 0 (zlt t F (p + 1) - 48)) m 25 ((p + 2 : Nat) : Int)) (m + 422) 0 (zlt t F (p + 1) - 48)) (m + 422) 1 (zlt t F (p + 2) - 48)) m 25 ((p + 3 : Nat) : Int)) (m + 422) 1 (zlt t F (p + 2) - 48)) (m + 422) 2 (zlt t F (p + 3) - 48)) m 25 ((p + 4 : Nat) : Int)) _
                              refine jWp.iald (pc' := 105) (j := 2) mt rfl rfl (jird_of hW.K422) (by decide) (jlt hW.K422 (by decide)) ?_
                              rw [show ((jW (jW (jW (jW (jW (jW (jW (jW (jW w m 25 ((p : Int) + 1)) (m + 422) 0 (zlt t F (p + 1) - 48)) m 25 ((p + 2 : Nat) : Int)) (m + 422) 0 (zlt t F (p + 1) - 48)) (m + 422) 1 (zlt t F (p + 2) - 48)) m 25 ((p + 3 : Nat) : Int)) (m + 422) 1 (zlt t F (p + 2) - 48)) (m + 422) 2 (zlt t F (p + 3) - 48)) m 25 ((p + 4 : Nat) : Int)).1 (m + 422) 2) = (zlt t F (p + 3) - 48) from ((jW_a (by omega)).trans jW_s)]
                              show jWp 202 105 [some (jO m), some (jI (zlt t F p)), some (jI 3), some (jI 1), some (jI 2), some (jI 0)] [jI (zlt t F (p + 3) - 48), jI 2, jO (m + 422)] 0 0 (jW (jW (jW (jW (jW (jW (jW (jW (jW w m 25 ((p : Int) + 1)) (m + 422) 0 (zlt t F (p + 1) - 48)) m 25 ((p + 2 : Nat) : Int)) (m + 422) 0 (zlt t F (p + 1) - 48)) (m + 422) 1 (zlt t F (p + 2) - 48)) m 25 ((p + 3 : Nat) : Int)) (m + 422) 1 (zlt t F (p + 2) - 48)) (m + 422) 2 (zlt t F (p + 3) - 48)) m 25 ((p + 4 : Nat) : Int)) _
                              refine jWp.iast (pc' := 106) (j := 2) mt rfl rfl (jtg hW.K422) (by decide) (jlt hW.K422 (by decide)) ?_
                              show jWp 202 106 [some (jO m), some (jI (zlt t F p)), some (jI 3), some (jI 1), some (jI 2), some (jI 0)] [] 0 0 (jW (jW (jW (jW (jW (jW (jW (jW (jW (jW w m 25 ((p : Int) + 1)) (m + 422) 0 (zlt t F (p + 1) - 48)) m 25 ((p + 2 : Nat) : Int)) (m + 422) 0 (zlt t F (p + 1) - 48)) (m + 422) 1 (zlt t F (p + 2) - 48)) m 25 ((p + 3 : Nat) : Int)) (m + 422) 1 (zlt t F (p + 2) - 48)) (m + 422) 2 (zlt t F (p + 3) - 48)) m 25 ((p + 4 : Nat) : Int)) (m + 422) 2 (zlt t F (p + 3) - 48)) _
                              refine jWp.blk mt 4 ?_
                              show jWp 202 34 [some (jO m), some (jI (zlt t F p)), some (jI 3), some (jI 1), some (jI 3), some (jI 0)] [jI 3, jI 3] 0 0 (jW (jW (jW (jW (jW (jW (jW (jW (jW (jW w m 25 ((p : Int) + 1)) (m + 422) 0 (zlt t F (p + 1) - 48)) m 25 ((p + 2 : Nat) : Int)) (m + 422) 0 (zlt t F (p + 1) - 48)) (m + 422) 1 (zlt t F (p + 2) - 48)) m 25 ((p + 3 : Nat) : Int)) (m + 422) 1 (zlt t F (p + 2) - 48)) (m + 422) 2 (zlt t F (p + 3) - 48)) m 25 ((p + 4 : Nat) : Int)) (m + 422) 2 (zlt t F (p + 3) - 48)) _
                              refine jWp.icmp (pc' := 37) mt rfl rfl (show b32 3 = 3 by decide) (show b32 3 = 3 by decide) (fun h35 => ?_) (fun h35 => ?_)
                              · have h35 := h35
                                refine jWp.blk mt 1 ?_
                                show jWp 202 113 [some (jO m), some (jI (zlt t F p)), some (jI 3), some (jI 1), some (jI 3), some (jI 0)] [jI 1] 0 0 (jW (jW (jW (jW (jW (jW (jW (jW (jW (jW w m 25 ((p : Int) + 1)) (m + 422) 0 (zlt t F (p + 1) - 48)) m 25 ((p + 2 : Nat) : Int)) (m + 422) 0 (zlt t F (p + 1) - 48)) (m + 422) 1 (zlt t F (p + 2) - 48)) m 25 ((p + 3 : Nat) : Int)) (m + 422) 1 (zlt t F (p + 2) - 48)) (m + 422) 2 (zlt t F (p + 3) - 48)) m 25 ((p + 4 : Nat) : Int)) (m + 422) 2 (zlt t F (p + 3) - 48)) _
                                refine jWp.ifc (b := false) mt rfl (by decide) rfl ?_
                                show jWp 202 116 [some (jO m), some (jI (zlt t F p)), some (jI 3), some (jI 1), some (jI 3), some (jI 0)] [] 0 0 (jW (jW (jW (jW (jW (jW (jW (jW (jW (jW w m 25 ((p : Int) + 1)) (m + 422) 0 (zlt t F (p + 1) - 48)) m 25 ((p + 2 : Nat) : Int)) (m + 422) 0 (zlt t F (p + 1) - 48)) (m + 422) 1 (zlt t F (p + 2) - 48)) m 25 ((p + 3 : Nat) : Int)) (m + 422) 1 (zlt t F (p + 2) - 48)) (m + 422) 2 (zlt t F (p + 3) - 48)) m 25 ((p + 4 : Nat) : Int)) (m + 422) 2 (zlt t F (p + 3) - 48)) _
                                refine jWp.blk mt 2 ?_
                                show _ ∧ jWp 202 119 [some (jO m), some (jI (zlt t F p)), some (jI 3), some (jI 1), some (jI 3), some (jI 0)] [jI 59, jO m] 0 0 (jW (jW (jW (jW (jW (jW (jW (jW (jW (jW w m 25 ((p : Int) + 1)) (m + 422) 0 (zlt t F (p + 1) - 48)) m 25 ((p + 2 : Nat) : Int)) (m + 422) 0 (zlt t F (p + 1) - 48)) (m + 422) 1 (zlt t F (p + 2) - 48)) m 25 ((p + 3 : Nat) : Int)) (m + 422) 1 (zlt t F (p + 2) - 48)) (m + 422) 2 (zlt t F (p + 3) - 48)) m 25 ((p + 4 : Nat) : Int)) (m + 422) 2 (zlt t F (p + 3) - 48)) _
                                refine ⟨rfl, ?_⟩
                                refine jWp.callv (as := [jO m, jI 59]) (rest := []) mt rfl rfl rfl ⟨rfl, jtg hW.K0⟩ ?_
                                refine jCall.mono (E_takes (w := (jW (jW (jW (jW (jW (jW (jW (jW (jW (jW w m 25 ((p : Int) + 1)) (m + 422) 0 (zlt t F (p + 1) - 48)) m 25 ((p + 2 : Nat) : Int)) (m + 422) 0 (zlt t F (p + 1) - 48)) (m + 422) 1 (zlt t F (p + 2) - 48)) m 25 ((p + 3 : Nat) : Int)) (m + 422) 1 (zlt t F (p + 2) - 48)) (m + 422) 2 (zlt t F (p + 3) - 48)) m 25 ((p + 4 : Nat) : Int)) (m + 422) 2 (zlt t F (p + 3) - 48))) (F := F) (p := (p + 4)) (t := t) hW (((jW_a (by omega)).trans ((jW_k (by decide)).trans ((jW_a (by omega)).trans ((jW_a (by omega)).trans ((jW_k (by decide)).trans ((jW_a (by omega)).trans ((jW_a (by omega)).trans ((jW_k (by decide)).trans ((jW_a (by omega)).trans ((jW_k (by decide)).trans rfl)))))))))).trans hF) hF72 (((jW_a (by omega)).trans jW_s).trans (by omega)) (by omega) (((jW_f (by omega)).trans ((jW_f (by omega)).trans ((jW_f (by omega)).trans ((jW_f (by omega)).trans ((jW_f (by omega)).trans ((jW_f (by omega)).trans ((jW_f (by omega)).trans ((jW_f (by omega)).trans ((jW_f (by omega)).trans ((jW_f (by omega)).trans rfl)))))))))).trans ht) hL (c := 59) (by unfold r32; decide)) (fun v9 w9 h9 => ?_)
                                rcases h9 with ⟨rfl, h9, h36⟩ | ⟨rfl, h9, h36⟩ <;> subst h9
                                · have h36' := h36
                                  show jWp 202 122 [some (jO m), some (jI (zlt t F p)), some (jI 3), some (jI 1), some (jI 3), some (jI 0)] [jI 1] 0 0 (jW (jW (jW (jW (jW (jW (jW (jW (jW (jW (jW w m 25 ((p : Int) + 1)) (m + 422) 0 (zlt t F (p + 1) - 48)) m 25 ((p + 2 : Nat) : Int)) (m + 422) 0 (zlt t F (p + 1) - 48)) (m + 422) 1 (zlt t F (p + 2) - 48)) m 25 ((p + 3 : Nat) : Int)) (m + 422) 1 (zlt t F (p + 2) - 48)) (m + 422) 2 (zlt t F (p + 3) - 48)) m 25 ((p + 4 : Nat) : Int)) (m + 422) 2 (zlt t F (p + 3) - 48)) m 25 ((p + 5 : Nat) : Int)) _
                                  refine jWp.ifc (b := false) mt rfl (by decide) rfl ?_
                                  show jWp 202 125 [some (jO m), some (jI (zlt t F p)), some (jI 3), some (jI 1), some (jI 3), some (jI 0)] [] 0 0 (jW (jW (jW (jW (jW (jW (jW (jW (jW (jW (jW w m 25 ((p : Int) + 1)) (m + 422) 0 (zlt t F (p + 1) - 48)) m 25 ((p + 2 : Nat) : Int)) (m + 422) 0 (zlt t F (p + 1) - 48)) (m + 422) 1 (zlt t F (p + 2) - 48)) m 25 ((p + 3 : Nat) : Int)) (m + 422) 1 (zlt t F (p + 2) - 48)) (m + 422) 2 (zlt t F (p + 3) - 48)) m 25 ((p + 4 : Nat) : Int)) (m + 422) 2 (zlt t F (p + 3) - 48)) m 25 ((p + 5 : Nat) : Int)) _
                                  refine jWp.blk mt 2 ?_
                                  show jWp 202 130 [some (jO m), some (jI (zlt t F p)), some (jI 3), some (jI 1), some (jI 3), some (jI 0)] [jI 1] 0 0 (jW (jW (jW (jW (jW (jW (jW (jW (jW (jW (jW w m 25 ((p : Int) + 1)) (m + 422) 0 (zlt t F (p + 1) - 48)) m 25 ((p + 2 : Nat) : Int)) (m + 422) 0 (zlt t F (p + 1) - 48)) (m + 422) 1 (zlt t F (p + 2) - 48)) m 25 ((p + 3 : Nat) : Int)) (m + 422) 1 (zlt t F (p + 2) - 48)) (m + 422) 2 (zlt t F (p + 3) - 48)) m 25 ((p + 4 : Nat) : Int)) (m + 422) 2 (zlt t F (p + 3) - 48)) m 25 ((p + 5 : Nat) : Int)) _
                                  refine jWp.iretz mt rfl ⟨rfl, rfl⟩ rfl (Or.inr rfl) ?_
                                  have hl9 := zlt_l (t := t) (F := F) (by assumption : zlt t F (p + 4) = 59) (by decide)
                                  refine ⟨(p + 5), ⟨rfl, fun a ga gb => ((jW_f (by omega)).trans ((jW_f (by omega)).trans ((jW_f (by omega)).trans ((jW_f (by omega)).trans ((jW_f (by omega)).trans ((jW_f (by omega)).trans ((jW_f (by omega)).trans ((jW_f (by omega)).trans ((jW_f (by omega)).trans ((jW_f (by omega)).trans ((jW_f (by omega)).trans rfl))))))))))), fun j gj => ((jW_k (by omega)).trans ((jW_a (by omega)).trans ((jW_k (by omega)).trans ((jW_a (by omega)).trans ((jW_a (by omega)).trans ((jW_k (by omega)).trans ((jW_a (by omega)).trans ((jW_a (by omega)).trans ((jW_k (by omega)).trans ((jW_a (by omega)).trans ((jW_k (by omega)).trans rfl)))))))))))⟩, jW_s, Or.inl ⟨rfl, ?_, by omega, by omega, by omega, by omega, ⟨((jW_a (by omega)).trans ((jW_k (by decide)).trans ((jW_a (by omega)).trans ((jW_k (by decide)).trans ((jW_k (by decide)).trans ((jW_a (by omega)).trans ((jW_k (by decide)).trans jW_s))))))).trans ?_, by rw [((jW_a (by omega)).trans ((jW_k (by decide)).trans ((jW_a (by omega)).trans ((jW_k (by decide)).trans ((jW_k (by decide)).trans ((jW_a (by omega)).trans ((jW_k (by decide)).trans jW_s)))))))]; omega, by rw [((jW_a (by omega)).trans ((jW_k (by decide)).trans ((jW_a (by omega)).trans ((jW_k (by decide)).trans ((jW_k (by decide)).trans ((jW_a (by omega)).trans ((jW_k (by decide)).trans jW_s)))))))]; omega⟩, ?_, ?_⟩⟩
                                  · unfold zbh zfn
                                    (repeat' split) <;> omega
                                  · unfold zfg
                                    split <;> omega
                                  · intro hc9
                                    first
                                    | (exfalso; omega)
                                    | (rw [((jW_a (by omega)).trans ((jW_k (by decide)).trans ((jW_a (by omega)).trans ((jW_k (by decide)).trans jW_s))))]
                                       refine ⟨?_, by omega, by omega⟩
                                       unfold zfg
                                       split <;> omega)
                                  · intro hc9
                                    first
                                    | (exfalso; omega)
                                    | (rw [((jW_a (by omega)).trans jW_s)]
                                       refine ⟨?_, by omega, by omega⟩
                                       unfold znm zfg
                                       try rw [show p + 3 + 1 = p + 4 from rfl]
                                       (repeat' split) <;> omega)
                                · have h36' := h36
                                  show jWp 202 122 [some (jO m), some (jI (zlt t F p)), some (jI 3), some (jI 1), some (jI 3), some (jI 0)] [jI 0] 0 0 (jW (jW (jW (jW (jW (jW (jW (jW (jW (jW w m 25 ((p : Int) + 1)) (m + 422) 0 (zlt t F (p + 1) - 48)) m 25 ((p + 2 : Nat) : Int)) (m + 422) 0 (zlt t F (p + 1) - 48)) (m + 422) 1 (zlt t F (p + 2) - 48)) m 25 ((p + 3 : Nat) : Int)) (m + 422) 1 (zlt t F (p + 2) - 48)) (m + 422) 2 (zlt t F (p + 3) - 48)) m 25 ((p + 4 : Nat) : Int)) (m + 422) 2 (zlt t F (p + 3) - 48)) _
                                  refine jWp.ifc (b := true) mt rfl (by decide) rfl ?_
                                  show jWp 202 129 [some (jO m), some (jI (zlt t F p)), some (jI 3), some (jI 1), some (jI 3), some (jI 0)] [] 0 0 (jW (jW (jW (jW (jW (jW (jW (jW (jW (jW w m 25 ((p : Int) + 1)) (m + 422) 0 (zlt t F (p + 1) - 48)) m 25 ((p + 2 : Nat) : Int)) (m + 422) 0 (zlt t F (p + 1) - 48)) (m + 422) 1 (zlt t F (p + 2) - 48)) m 25 ((p + 3 : Nat) : Int)) (m + 422) 1 (zlt t F (p + 2) - 48)) (m + 422) 2 (zlt t F (p + 3) - 48)) m 25 ((p + 4 : Nat) : Int)) (m + 422) 2 (zlt t F (p + 3) - 48)) _
                                  refine jWp.blk mt 1 ?_
                                  show jWp 202 130 [some (jO m), some (jI (zlt t F p)), some (jI 3), some (jI 1), some (jI 3), some (jI 0)] [jI 0] 0 0 (jW (jW (jW (jW (jW (jW (jW (jW (jW (jW w m 25 ((p : Int) + 1)) (m + 422) 0 (zlt t F (p + 1) - 48)) m 25 ((p + 2 : Nat) : Int)) (m + 422) 0 (zlt t F (p + 1) - 48)) (m + 422) 1 (zlt t F (p + 2) - 48)) m 25 ((p + 3 : Nat) : Int)) (m + 422) 1 (zlt t F (p + 2) - 48)) (m + 422) 2 (zlt t F (p + 3) - 48)) m 25 ((p + 4 : Nat) : Int)) (m + 422) 2 (zlt t F (p + 3) - 48)) _
                                  refine jWp.iretz mt rfl ⟨rfl, rfl⟩ rfl (Or.inl rfl) ?_
                                  refine ⟨(p + 4), ⟨rfl, fun a ga gb => ((jW_f (by omega)).trans ((jW_f (by omega)).trans ((jW_f (by omega)).trans ((jW_f (by omega)).trans ((jW_f (by omega)).trans ((jW_f (by omega)).trans ((jW_f (by omega)).trans ((jW_f (by omega)).trans ((jW_f (by omega)).trans ((jW_f (by omega)).trans rfl)))))))))), fun j gj => ((jW_a (by omega)).trans ((jW_k (by omega)).trans ((jW_a (by omega)).trans ((jW_a (by omega)).trans ((jW_k (by omega)).trans ((jW_a (by omega)).trans ((jW_a (by omega)).trans ((jW_k (by omega)).trans ((jW_a (by omega)).trans ((jW_k (by omega)).trans rfl))))))))))⟩, ((jW_a (by omega)).trans jW_s).trans (by omega), Or.inr ⟨rfl, ?_, by omega, by omega⟩⟩
                                  unfold zbh zfn
                                  (repeat' split) <;> omega
                              · exact absurd (show (3 : Int) < 3 from h35) (by decide)
                            · have h34' := h34
                              show jWp 202 75 [some (jO m), some (jI (zlt t F p)), some (jI 3), some (jI 1), some (jI 2), some (jI 0)] [jI 0] 0 0 (jW (jW (jW (jW (jW (jW (jW (jW w m 25 ((p : Int) + 1)) (m + 422) 0 (zlt t F (p + 1) - 48)) m 25 ((p + 2 : Nat) : Int)) (m + 422) 0 (zlt t F (p + 1) - 48)) (m + 422) 1 (zlt t F (p + 2) - 48)) m 25 ((p + 3 : Nat) : Int)) (m + 422) 1 (zlt t F (p + 2) - 48)) (m + 422) 2 0) _
                              refine jWp.blk mt 2 ?_
                              show _ ∧ jWp 202 77 [some (jO m), some (jI (zlt t F p)), some (jI 3), some (jI 0), some (jI 2), some (jI 0)] [jO m] 0 0 (jW (jW (jW (jW (jW (jW (jW (jW w m 25 ((p : Int) + 1)) (m + 422) 0 (zlt t F (p + 1) - 48)) m 25 ((p + 2 : Nat) : Int)) (m + 422) 0 (zlt t F (p + 1) - 48)) (m + 422) 1 (zlt t F (p + 2) - 48)) m 25 ((p + 3 : Nat) : Int)) (m + 422) 1 (zlt t F (p + 2) - 48)) (m + 422) 2 0) _
                              refine ⟨rfl, ?_⟩
                              refine jWp.getR (pc' := 80) (o := (m + 422)) mt rfl rfl (jtg hW.K0) hW.R26 ?_
                              show jWp 202 80 [some (jO m), some (jI (zlt t F p)), some (jI 3), some (jI 0), some (jI 2), some (jI 0)] [jO (m + 422)] 0 0 (jW (jW (jW (jW (jW (jW (jW (jW w m 25 ((p : Int) + 1)) (m + 422) 0 (zlt t F (p + 1) - 48)) m 25 ((p + 2 : Nat) : Int)) (m + 422) 0 (zlt t F (p + 1) - 48)) (m + 422) 1 (zlt t F (p + 2) - 48)) m 25 ((p + 3 : Nat) : Int)) (m + 422) 1 (zlt t F (p + 2) - 48)) (m + 422) 2 0) _
                              refine jWp.blk mt 2 ?_
                              show jWp 202 84 [some (jO m), some (jI (zlt t F p)), some (jI 3), some (jI 0), some (jI 2), some (jI 0)] [jI 0, jI 2, jO (m + 422)] 0 0 (jW (jW (jW (jW (jW (jW (jW (jW w m 25 ((p : Int) + 1)) (m + 422) 0 (zlt t F (p + 1) - 48)) m 25 ((p + 2 : Nat) : Int)) (m + 422) 0 (zlt t F (p + 1) - 48)) (m + 422) 1 (zlt t F (p + 2) - 48)) m 25 ((p + 3 : Nat) : Int)) (m + 422) 1 (zlt t F (p + 2) - 48)) (m + 422) 2 0) _
                              refine jWp.ifc (b := true) mt rfl (by decide) rfl ?_
                              show jWp 202 98 [some (jO m), some (jI (zlt t F p)), some (jI 3), some (jI 0), some (jI 2), some (jI 0)] [jI 2, jO (m + 422)] 0 0 (jW (jW (jW (jW (jW (jW (jW (jW w m 25 ((p : Int) + 1)) (m + 422) 0 (zlt t F (p + 1) - 48)) m 25 ((p + 2 : Nat) : Int)) (m + 422) 0 (zlt t F (p + 1) - 48)) (m + 422) 1 (zlt t F (p + 2) - 48)) m 25 ((p + 3 : Nat) : Int)) (m + 422) 1 (zlt t F (p + 2) - 48)) (m + 422) 2 0) _
                              refine jWp.blk mt 1 ?_
                              show _ ∧ jWp 202 99 [some (jO m), some (jI (zlt t F p)), some (jI 3), some (jI 0), some (jI 2), some (jI 0)] [jO m, jI 2, jO (m + 422)] 0 0 (jW (jW (jW (jW (jW (jW (jW (jW w m 25 ((p : Int) + 1)) (m + 422) 0 (zlt t F (p + 1) - 48)) m 25 ((p + 2 : Nat) : Int)) (m + 422) 0 (zlt t F (p + 1) - 48)) (m + 422) 1 (zlt t F (p + 2) - 48)) m 25 ((p + 3 : Nat) : Int)) (m + 422) 1 (zlt t F (p + 2) - 48)) (m + 422) 2 0) _
                              refine ⟨rfl, ?_⟩
                              refine jWp.getR (pc' := 102) (o := (m + 422)) mt rfl rfl (jtg hW.K0) hW.R26 ?_
                              show jWp 202 102 [some (jO m), some (jI (zlt t F p)), some (jI 3), some (jI 0), some (jI 2), some (jI 0)] [jO (m + 422), jI 2, jO (m + 422)] 0 0 (jW (jW (jW (jW (jW (jW (jW (jW w m 25 ((p : Int) + 1)) (m + 422) 0 (zlt t F (p + 1) - 48)) m 25 ((p + 2 : Nat) : Int)) (m + 422) 0 (zlt t F (p + 1) - 48)) (m + 422) 1 (zlt t F (p + 2) - 48)) m 25 ((p + 3 : Nat) : Int)) (m + 422) 1 (zlt t F (p + 2) - 48)) (m + 422) 2 0) _
                              refine jWp.blk mt 1 ?_
                              show jWp 202 104 [some (jO m), some (jI (zlt t F p)), some (jI 3), some (jI 0), some (jI 2), some (jI 0)] [jI 2, jO (m + 422), jI 2, jO (m + 422)] 0 0 (jW (jW (jW (jW (jW (jW (jW (jW w m 25 ((p : Int) + 1)) (m + 422) 0 (zlt t F (p + 1) - 48)) m 25 ((p + 2 : Nat) : Int)) (m + 422) 0 (zlt t F (p + 1) - 48)) (m + 422) 1 (zlt t F (p + 2) - 48)) m 25 ((p + 3 : Nat) : Int)) (m + 422) 1 (zlt t F (p + 2) - 48)) (m + 422) 2 0) _
                              refine jWp.iald (pc' := 105) (j := 2) mt rfl rfl (jird_of hW.K422) (by decide) (jlt hW.K422 (by decide)) ?_
                              rw [show ((jW (jW (jW (jW (jW (jW (jW (jW w m 25 ((p : Int) + 1)) (m + 422) 0 (zlt t F (p + 1) - 48)) m 25 ((p + 2 : Nat) : Int)) (m + 422) 0 (zlt t F (p + 1) - 48)) (m + 422) 1 (zlt t F (p + 2) - 48)) m 25 ((p + 3 : Nat) : Int)) (m + 422) 1 (zlt t F (p + 2) - 48)) (m + 422) 2 0).1 (m + 422) 2) = 0 from jW_s]
                              show jWp 202 105 [some (jO m), some (jI (zlt t F p)), some (jI 3), some (jI 0), some (jI 2), some (jI 0)] [jI 0, jI 2, jO (m + 422)] 0 0 (jW (jW (jW (jW (jW (jW (jW (jW w m 25 ((p : Int) + 1)) (m + 422) 0 (zlt t F (p + 1) - 48)) m 25 ((p + 2 : Nat) : Int)) (m + 422) 0 (zlt t F (p + 1) - 48)) (m + 422) 1 (zlt t F (p + 2) - 48)) m 25 ((p + 3 : Nat) : Int)) (m + 422) 1 (zlt t F (p + 2) - 48)) (m + 422) 2 0) _
                              refine jWp.iast (pc' := 106) (j := 2) mt rfl rfl (jtg hW.K422) (by decide) (jlt hW.K422 (by decide)) ?_
                              show jWp 202 106 [some (jO m), some (jI (zlt t F p)), some (jI 3), some (jI 0), some (jI 2), some (jI 0)] [] 0 0 (jW (jW (jW (jW (jW (jW (jW (jW (jW w m 25 ((p : Int) + 1)) (m + 422) 0 (zlt t F (p + 1) - 48)) m 25 ((p + 2 : Nat) : Int)) (m + 422) 0 (zlt t F (p + 1) - 48)) (m + 422) 1 (zlt t F (p + 2) - 48)) m 25 ((p + 3 : Nat) : Int)) (m + 422) 1 (zlt t F (p + 2) - 48)) (m + 422) 2 0) (m + 422) 2 0) _
                              refine jWp.blk mt 4 ?_
                              show jWp 202 34 [some (jO m), some (jI (zlt t F p)), some (jI 3), some (jI 0), some (jI 3), some (jI 0)] [jI 3, jI 3] 0 0 (jW (jW (jW (jW (jW (jW (jW (jW (jW w m 25 ((p : Int) + 1)) (m + 422) 0 (zlt t F (p + 1) - 48)) m 25 ((p + 2 : Nat) : Int)) (m + 422) 0 (zlt t F (p + 1) - 48)) (m + 422) 1 (zlt t F (p + 2) - 48)) m 25 ((p + 3 : Nat) : Int)) (m + 422) 1 (zlt t F (p + 2) - 48)) (m + 422) 2 0) (m + 422) 2 0) _
                              refine jWp.icmp (pc' := 37) mt rfl rfl (show b32 3 = 3 by decide) (show b32 3 = 3 by decide) (fun h37 => ?_) (fun h37 => ?_)
                              · have h37 := h37
                                refine jWp.blk mt 1 ?_
                                show jWp 202 113 [some (jO m), some (jI (zlt t F p)), some (jI 3), some (jI 0), some (jI 3), some (jI 0)] [jI 0] 0 0 (jW (jW (jW (jW (jW (jW (jW (jW (jW w m 25 ((p : Int) + 1)) (m + 422) 0 (zlt t F (p + 1) - 48)) m 25 ((p + 2 : Nat) : Int)) (m + 422) 0 (zlt t F (p + 1) - 48)) (m + 422) 1 (zlt t F (p + 2) - 48)) m 25 ((p + 3 : Nat) : Int)) (m + 422) 1 (zlt t F (p + 2) - 48)) (m + 422) 2 0) (m + 422) 2 0) _
                                refine jWp.ifc (b := true) mt rfl (by decide) rfl ?_
                                show jWp 202 129 [some (jO m), some (jI (zlt t F p)), some (jI 3), some (jI 0), some (jI 3), some (jI 0)] [] 0 0 (jW (jW (jW (jW (jW (jW (jW (jW (jW w m 25 ((p : Int) + 1)) (m + 422) 0 (zlt t F (p + 1) - 48)) m 25 ((p + 2 : Nat) : Int)) (m + 422) 0 (zlt t F (p + 1) - 48)) (m + 422) 1 (zlt t F (p + 2) - 48)) m 25 ((p + 3 : Nat) : Int)) (m + 422) 1 (zlt t F (p + 2) - 48)) (m + 422) 2 0) (m + 422) 2 0) _
                                refine jWp.blk mt 1 ?_
                                show jWp 202 130 [some (jO m), some (jI (zlt t F p)), some (jI 3), some (jI 0), some (jI 3), some (jI 0)] [jI 0] 0 0 (jW (jW (jW (jW (jW (jW (jW (jW (jW w m 25 ((p : Int) + 1)) (m + 422) 0 (zlt t F (p + 1) - 48)) m 25 ((p + 2 : Nat) : Int)) (m + 422) 0 (zlt t F (p + 1) - 48)) (m + 422) 1 (zlt t F (p + 2) - 48)) m 25 ((p + 3 : Nat) : Int)) (m + 422) 1 (zlt t F (p + 2) - 48)) (m + 422) 2 0) (m + 422) 2 0) _
                                refine jWp.iretz mt rfl ⟨rfl, rfl⟩ rfl (Or.inl rfl) ?_
                                refine ⟨(p + 3), ⟨rfl, fun a ga gb => ((jW_f (by omega)).trans ((jW_f (by omega)).trans ((jW_f (by omega)).trans ((jW_f (by omega)).trans ((jW_f (by omega)).trans ((jW_f (by omega)).trans ((jW_f (by omega)).trans ((jW_f (by omega)).trans ((jW_f (by omega)).trans rfl))))))))), fun j gj => ((jW_a (by omega)).trans ((jW_a (by omega)).trans ((jW_a (by omega)).trans ((jW_k (by omega)).trans ((jW_a (by omega)).trans ((jW_a (by omega)).trans ((jW_k (by omega)).trans ((jW_a (by omega)).trans ((jW_k (by omega)).trans rfl)))))))))⟩, ((jW_a (by omega)).trans ((jW_a (by omega)).trans ((jW_a (by omega)).trans jW_s))).trans (by omega), Or.inr ⟨rfl, ?_, by omega, by omega⟩⟩
                                unfold zbh zfn
                                (repeat' split) <;> omega
                              · exact absurd (show (3 : Int) < 3 from h37) (by decide)
                  · have h25' := h25
                    show jWp 202 75 [some (jO m), some (jI (zlt t F p)), some (jI 3), some (jI 1), some (jI 1), some (jI 0)] [jI 0] 0 0 (jW (jW (jW (jW (jW w m 25 ((p : Int) + 1)) (m + 422) 0 (zlt t F (p + 1) - 48)) m 25 ((p + 2 : Nat) : Int)) (m + 422) 0 (zlt t F (p + 1) - 48)) (m + 422) 1 0) _
                    refine jWp.blk mt 2 ?_
                    show _ ∧ jWp 202 77 [some (jO m), some (jI (zlt t F p)), some (jI 3), some (jI 0), some (jI 1), some (jI 0)] [jO m] 0 0 (jW (jW (jW (jW (jW w m 25 ((p : Int) + 1)) (m + 422) 0 (zlt t F (p + 1) - 48)) m 25 ((p + 2 : Nat) : Int)) (m + 422) 0 (zlt t F (p + 1) - 48)) (m + 422) 1 0) _
                    refine ⟨rfl, ?_⟩
                    refine jWp.getR (pc' := 80) (o := (m + 422)) mt rfl rfl (jtg hW.K0) hW.R26 ?_
                    show jWp 202 80 [some (jO m), some (jI (zlt t F p)), some (jI 3), some (jI 0), some (jI 1), some (jI 0)] [jO (m + 422)] 0 0 (jW (jW (jW (jW (jW w m 25 ((p : Int) + 1)) (m + 422) 0 (zlt t F (p + 1) - 48)) m 25 ((p + 2 : Nat) : Int)) (m + 422) 0 (zlt t F (p + 1) - 48)) (m + 422) 1 0) _
                    refine jWp.blk mt 2 ?_
                    show jWp 202 84 [some (jO m), some (jI (zlt t F p)), some (jI 3), some (jI 0), some (jI 1), some (jI 0)] [jI 0, jI 1, jO (m + 422)] 0 0 (jW (jW (jW (jW (jW w m 25 ((p : Int) + 1)) (m + 422) 0 (zlt t F (p + 1) - 48)) m 25 ((p + 2 : Nat) : Int)) (m + 422) 0 (zlt t F (p + 1) - 48)) (m + 422) 1 0) _
                    refine jWp.ifc (b := true) mt rfl (by decide) rfl ?_
                    show jWp 202 98 [some (jO m), some (jI (zlt t F p)), some (jI 3), some (jI 0), some (jI 1), some (jI 0)] [jI 1, jO (m + 422)] 0 0 (jW (jW (jW (jW (jW w m 25 ((p : Int) + 1)) (m + 422) 0 (zlt t F (p + 1) - 48)) m 25 ((p + 2 : Nat) : Int)) (m + 422) 0 (zlt t F (p + 1) - 48)) (m + 422) 1 0) _
                    refine jWp.blk mt 1 ?_
                    show _ ∧ jWp 202 99 [some (jO m), some (jI (zlt t F p)), some (jI 3), some (jI 0), some (jI 1), some (jI 0)] [jO m, jI 1, jO (m + 422)] 0 0 (jW (jW (jW (jW (jW w m 25 ((p : Int) + 1)) (m + 422) 0 (zlt t F (p + 1) - 48)) m 25 ((p + 2 : Nat) : Int)) (m + 422) 0 (zlt t F (p + 1) - 48)) (m + 422) 1 0) _
                    refine ⟨rfl, ?_⟩
                    refine jWp.getR (pc' := 102) (o := (m + 422)) mt rfl rfl (jtg hW.K0) hW.R26 ?_
                    show jWp 202 102 [some (jO m), some (jI (zlt t F p)), some (jI 3), some (jI 0), some (jI 1), some (jI 0)] [jO (m + 422), jI 1, jO (m + 422)] 0 0 (jW (jW (jW (jW (jW w m 25 ((p : Int) + 1)) (m + 422) 0 (zlt t F (p + 1) - 48)) m 25 ((p + 2 : Nat) : Int)) (m + 422) 0 (zlt t F (p + 1) - 48)) (m + 422) 1 0) _
                    refine jWp.blk mt 1 ?_
                    show jWp 202 104 [some (jO m), some (jI (zlt t F p)), some (jI 3), some (jI 0), some (jI 1), some (jI 0)] [jI 1, jO (m + 422), jI 1, jO (m + 422)] 0 0 (jW (jW (jW (jW (jW w m 25 ((p : Int) + 1)) (m + 422) 0 (zlt t F (p + 1) - 48)) m 25 ((p + 2 : Nat) : Int)) (m + 422) 0 (zlt t F (p + 1) - 48)) (m + 422) 1 0) _
                    refine jWp.iald (pc' := 105) (j := 1) mt rfl rfl (jird_of hW.K422) (by decide) (jlt hW.K422 (by decide)) ?_
                    rw [show ((jW (jW (jW (jW (jW w m 25 ((p : Int) + 1)) (m + 422) 0 (zlt t F (p + 1) - 48)) m 25 ((p + 2 : Nat) : Int)) (m + 422) 0 (zlt t F (p + 1) - 48)) (m + 422) 1 0).1 (m + 422) 1) = 0 from jW_s]
                    show jWp 202 105 [some (jO m), some (jI (zlt t F p)), some (jI 3), some (jI 0), some (jI 1), some (jI 0)] [jI 0, jI 1, jO (m + 422)] 0 0 (jW (jW (jW (jW (jW w m 25 ((p : Int) + 1)) (m + 422) 0 (zlt t F (p + 1) - 48)) m 25 ((p + 2 : Nat) : Int)) (m + 422) 0 (zlt t F (p + 1) - 48)) (m + 422) 1 0) _
                    refine jWp.iast (pc' := 106) (j := 1) mt rfl rfl (jtg hW.K422) (by decide) (jlt hW.K422 (by decide)) ?_
                    show jWp 202 106 [some (jO m), some (jI (zlt t F p)), some (jI 3), some (jI 0), some (jI 1), some (jI 0)] [] 0 0 (jW (jW (jW (jW (jW (jW w m 25 ((p : Int) + 1)) (m + 422) 0 (zlt t F (p + 1) - 48)) m 25 ((p + 2 : Nat) : Int)) (m + 422) 0 (zlt t F (p + 1) - 48)) (m + 422) 1 0) (m + 422) 1 0) _
                    refine jWp.blk mt 4 ?_
                    show jWp 202 34 [some (jO m), some (jI (zlt t F p)), some (jI 3), some (jI 0), some (jI 2), some (jI 0)] [jI 3, jI 2] 0 0 (jW (jW (jW (jW (jW (jW w m 25 ((p : Int) + 1)) (m + 422) 0 (zlt t F (p + 1) - 48)) m 25 ((p + 2 : Nat) : Int)) (m + 422) 0 (zlt t F (p + 1) - 48)) (m + 422) 1 0) (m + 422) 1 0) _
                    refine jWp.icmp (pc' := 37) mt rfl rfl (show b32 2 = 2 by decide) (show b32 3 = 3 by decide) (fun h38 => ?_) (fun h38 => ?_)
                    · exact absurd (show 3 ≤ (2 : Int) from h38) (by decide)
                    · have h38 := h38
                      refine jWp.blk mt 1 ?_
                      show jWp 202 38 [some (jO m), some (jI (zlt t F p)), some (jI 3), some (jI 0), some (jI 2), some (jI 0)] [jI 0] 0 0 (jW (jW (jW (jW (jW (jW w m 25 ((p : Int) + 1)) (m + 422) 0 (zlt t F (p + 1) - 48)) m 25 ((p + 2 : Nat) : Int)) (m + 422) 0 (zlt t F (p + 1) - 48)) (m + 422) 1 0) (m + 422) 1 0) _
                      refine jWp.ifc (b := true) mt rfl (by decide) rfl ?_
                      show jWp 202 112 [some (jO m), some (jI (zlt t F p)), some (jI 3), some (jI 0), some (jI 2), some (jI 0)] [] 0 0 (jW (jW (jW (jW (jW (jW w m 25 ((p : Int) + 1)) (m + 422) 0 (zlt t F (p + 1) - 48)) m 25 ((p + 2 : Nat) : Int)) (m + 422) 0 (zlt t F (p + 1) - 48)) (m + 422) 1 0) (m + 422) 1 0) _
                      refine jWp.blk mt 1 ?_
                      show jWp 202 113 [some (jO m), some (jI (zlt t F p)), some (jI 3), some (jI 0), some (jI 2), some (jI 0)] [jI 0] 0 0 (jW (jW (jW (jW (jW (jW w m 25 ((p : Int) + 1)) (m + 422) 0 (zlt t F (p + 1) - 48)) m 25 ((p + 2 : Nat) : Int)) (m + 422) 0 (zlt t F (p + 1) - 48)) (m + 422) 1 0) (m + 422) 1 0) _
                      refine jWp.ifc (b := true) mt rfl (by decide) rfl ?_
                      show jWp 202 129 [some (jO m), some (jI (zlt t F p)), some (jI 3), some (jI 0), some (jI 2), some (jI 0)] [] 0 0 (jW (jW (jW (jW (jW (jW w m 25 ((p : Int) + 1)) (m + 422) 0 (zlt t F (p + 1) - 48)) m 25 ((p + 2 : Nat) : Int)) (m + 422) 0 (zlt t F (p + 1) - 48)) (m + 422) 1 0) (m + 422) 1 0) _
                      refine jWp.blk mt 1 ?_
                      show jWp 202 130 [some (jO m), some (jI (zlt t F p)), some (jI 3), some (jI 0), some (jI 2), some (jI 0)] [jI 0] 0 0 (jW (jW (jW (jW (jW (jW w m 25 ((p : Int) + 1)) (m + 422) 0 (zlt t F (p + 1) - 48)) m 25 ((p + 2 : Nat) : Int)) (m + 422) 0 (zlt t F (p + 1) - 48)) (m + 422) 1 0) (m + 422) 1 0) _
                      refine jWp.iretz mt rfl ⟨rfl, rfl⟩ rfl (Or.inl rfl) ?_
                      refine ⟨(p + 2), ⟨rfl, fun a ga gb => ((jW_f (by omega)).trans ((jW_f (by omega)).trans ((jW_f (by omega)).trans ((jW_f (by omega)).trans ((jW_f (by omega)).trans ((jW_f (by omega)).trans rfl)))))), fun j gj => ((jW_a (by omega)).trans ((jW_a (by omega)).trans ((jW_a (by omega)).trans ((jW_k (by omega)).trans ((jW_a (by omega)).trans ((jW_k (by omega)).trans rfl))))))⟩, ((jW_a (by omega)).trans ((jW_a (by omega)).trans ((jW_a (by omega)).trans jW_s))).trans (by omega), Or.inr ⟨rfl, ?_, by omega, by omega⟩⟩
                      unfold zbh zfn
                      (repeat' split) <;> omega
                · exact absurd (show (1 : Int) = 2 from h24) (by decide)
          · have h21' := h21
            show jWp 202 75 [some (jO m), some (jI (zlt t F p)), some (jI 3), some (jI 1), some (jI 0), some (jI 0)] [jI 0] 0 0 (jW (jW w m 25 ((p : Int) + 1)) (m + 422) 0 0) _
            refine jWp.blk mt 2 ?_
            show _ ∧ jWp 202 77 [some (jO m), some (jI (zlt t F p)), some (jI 3), some (jI 0), some (jI 0), some (jI 0)] [jO m] 0 0 (jW (jW w m 25 ((p : Int) + 1)) (m + 422) 0 0) _
            refine ⟨rfl, ?_⟩
            refine jWp.getR (pc' := 80) (o := (m + 422)) mt rfl rfl (jtg hW.K0) hW.R26 ?_
            show jWp 202 80 [some (jO m), some (jI (zlt t F p)), some (jI 3), some (jI 0), some (jI 0), some (jI 0)] [jO (m + 422)] 0 0 (jW (jW w m 25 ((p : Int) + 1)) (m + 422) 0 0) _
            refine jWp.blk mt 2 ?_
            show jWp 202 84 [some (jO m), some (jI (zlt t F p)), some (jI 3), some (jI 0), some (jI 0), some (jI 0)] [jI 0, jI 0, jO (m + 422)] 0 0 (jW (jW w m 25 ((p : Int) + 1)) (m + 422) 0 0) _
            refine jWp.ifc (b := true) mt rfl (by decide) rfl ?_
            show jWp 202 98 [some (jO m), some (jI (zlt t F p)), some (jI 3), some (jI 0), some (jI 0), some (jI 0)] [jI 0, jO (m + 422)] 0 0 (jW (jW w m 25 ((p : Int) + 1)) (m + 422) 0 0) _
            refine jWp.blk mt 1 ?_
            show _ ∧ jWp 202 99 [some (jO m), some (jI (zlt t F p)), some (jI 3), some (jI 0), some (jI 0), some (jI 0)] [jO m, jI 0, jO (m + 422)] 0 0 (jW (jW w m 25 ((p : Int) + 1)) (m + 422) 0 0) _
            refine ⟨rfl, ?_⟩
            refine jWp.getR (pc' := 102) (o := (m + 422)) mt rfl rfl (jtg hW.K0) hW.R26 ?_
            show jWp 202 102 [some (jO m), some (jI (zlt t F p)), some (jI 3), some (jI 0), some (jI 0), some (jI 0)] [jO (m + 422), jI 0, jO (m + 422)] 0 0 (jW (jW w m 25 ((p : Int) + 1)) (m + 422) 0 0) _
            refine jWp.blk mt 1 ?_
            show jWp 202 104 [some (jO m), some (jI (zlt t F p)), some (jI 3), some (jI 0), some (jI 0), some (jI 0)] [jI 0, jO (m + 422), jI 0, jO (m + 422)] 0 0 (jW (jW w m 25 ((p : Int) + 1)) (m + 422) 0 0) _
            refine jWp.iald (pc' := 105) (j := 0) mt rfl rfl (jird_of hW.K422) (by decide) (jlt hW.K422 (by decide)) ?_
            rw [show ((jW (jW w m 25 ((p : Int) + 1)) (m + 422) 0 0).1 (m + 422) 0) = 0 from jW_s]
            show jWp 202 105 [some (jO m), some (jI (zlt t F p)), some (jI 3), some (jI 0), some (jI 0), some (jI 0)] [jI 0, jI 0, jO (m + 422)] 0 0 (jW (jW w m 25 ((p : Int) + 1)) (m + 422) 0 0) _
            refine jWp.iast (pc' := 106) (j := 0) mt rfl rfl (jtg hW.K422) (by decide) (jlt hW.K422 (by decide)) ?_
            show jWp 202 106 [some (jO m), some (jI (zlt t F p)), some (jI 3), some (jI 0), some (jI 0), some (jI 0)] [] 0 0 (jW (jW (jW w m 25 ((p : Int) + 1)) (m + 422) 0 0) (m + 422) 0 0) _
            refine jWp.blk mt 4 ?_
            show jWp 202 34 [some (jO m), some (jI (zlt t F p)), some (jI 3), some (jI 0), some (jI 1), some (jI 0)] [jI 3, jI 1] 0 0 (jW (jW (jW w m 25 ((p : Int) + 1)) (m + 422) 0 0) (m + 422) 0 0) _
            refine jWp.icmp (pc' := 37) mt rfl rfl (show b32 1 = 1 by decide) (show b32 3 = 3 by decide) (fun h39 => ?_) (fun h39 => ?_)
            · exact absurd (show 3 ≤ (1 : Int) from h39) (by decide)
            · have h39 := h39
              refine jWp.blk mt 1 ?_
              show jWp 202 38 [some (jO m), some (jI (zlt t F p)), some (jI 3), some (jI 0), some (jI 1), some (jI 0)] [jI 0] 0 0 (jW (jW (jW w m 25 ((p : Int) + 1)) (m + 422) 0 0) (m + 422) 0 0) _
              refine jWp.ifc (b := true) mt rfl (by decide) rfl ?_
              show jWp 202 112 [some (jO m), some (jI (zlt t F p)), some (jI 3), some (jI 0), some (jI 1), some (jI 0)] [] 0 0 (jW (jW (jW w m 25 ((p : Int) + 1)) (m + 422) 0 0) (m + 422) 0 0) _
              refine jWp.blk mt 1 ?_
              show jWp 202 113 [some (jO m), some (jI (zlt t F p)), some (jI 3), some (jI 0), some (jI 1), some (jI 0)] [jI 0] 0 0 (jW (jW (jW w m 25 ((p : Int) + 1)) (m + 422) 0 0) (m + 422) 0 0) _
              refine jWp.ifc (b := true) mt rfl (by decide) rfl ?_
              show jWp 202 129 [some (jO m), some (jI (zlt t F p)), some (jI 3), some (jI 0), some (jI 1), some (jI 0)] [] 0 0 (jW (jW (jW w m 25 ((p : Int) + 1)) (m + 422) 0 0) (m + 422) 0 0) _
              refine jWp.blk mt 1 ?_
              show jWp 202 130 [some (jO m), some (jI (zlt t F p)), some (jI 3), some (jI 0), some (jI 1), some (jI 0)] [jI 0] 0 0 (jW (jW (jW w m 25 ((p : Int) + 1)) (m + 422) 0 0) (m + 422) 0 0) _
              refine jWp.iretz mt rfl ⟨rfl, rfl⟩ rfl (Or.inl rfl) ?_
              refine ⟨(p + 1), ⟨rfl, fun a ga gb => ((jW_f (by omega)).trans ((jW_f (by omega)).trans ((jW_f (by omega)).trans rfl))), fun j gj => ((jW_a (by omega)).trans ((jW_a (by omega)).trans ((jW_k (by omega)).trans rfl)))⟩, ((jW_a (by omega)).trans ((jW_a (by omega)).trans jW_s)).trans (by omega), Or.inr ⟨rfl, ?_, by omega, by omega⟩⟩
              unfold zbh zfn
              (repeat' split) <;> omega
        · exact absurd (show (0 : Int) = 2 from h20) (by decide)
  · rw [show zdc (zlt t F p) = 0 by unfold zdc; rw [if_neg (by omega), if_neg (by omega), if_neg (by omega)]]
    show jWp 202 9 [some (jO m), some (jI (zlt t F p)), none, none, none, none] [jI 0] 0 0 w _
    refine jWp.blk mt 2 ?_
    show jWp 202 11 [some (jO m), some (jI (zlt t F p)), some (jI 0), none, none, none] [jI 0] 0 0 w _
    refine jWp.ifc (b := false) mt rfl (by decide) rfl ?_
    show jWp 202 14 [some (jO m), some (jI (zlt t F p)), some (jI 0), none, none, none] [] 0 0 w _
    refine jWp.blk mt 1 ?_
    show jWp 202 15 [some (jO m), some (jI (zlt t F p)), some (jI 0), none, none, none] [jI 0] 0 0 w _
    refine jWp.iretz mt rfl ⟨rfl, rfl⟩ rfl (Or.inl rfl) ?_
    refine ⟨p, ⟨rfl, fun a ga gb => rfl, fun j gj => rfl⟩, hp, Or.inr ⟨rfl, ?_, by omega, by omega⟩⟩
    unfold zbh zfn
    (repeat' split) <;> omega
end
