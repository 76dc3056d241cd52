theorem E_keepsW {W : jS} {m len x n : Nat} {law f : Int} {T : Nat → Int} {g} (hW : MW g m) (hg : W.2 = g) (e4 : W.1 (m + 4) = T) (hl : W.1 m 4 = (len : Int)) (hl60 : len ≤ 60) (hb : ∀ j, j < len → -100000000 ≤ T j ∧ T j ≤ 100000000) (hx : x < 4) (hlaw : W.1 (m + 2) (1 + 10 * x) = law) (hfig : W.1 (m + 2) (2 + 10 * x) = f) (hl0 : 0 ≤ law) (hl6 : law ≤ 6) (hf : 0 ≤ f ∧ f ≤ 9) (hn : n < 2147483648) : jCall 153 [jO m, jI (x : Int), jI (n : Int)] W (fun v w1 => (v = some (jI 1) ∧ zkp law T len n ∧ w1 = jW (jW W m 8 (zu (zku law f T n) (zkd law T n))) m 9 (zv (zku law f T n) (zkd law T n)) ∧ (-200000000000000000 ≤ (zu (zku law f T n) (zkd law T n)) ∧ (zu (zku law f T n) (zkd law T n)) ≤ 200000000000000000) ∧ 1 ≤ (zv (zku law f T n) (zkd law T n)) ∧ (zv (zku law f T n) (zkd law T n)) ≤ 200000000000000000) ∨ (v = some (jI 0) ∧ ¬ zkp law T len n ∧ w1 = W)) := by
  subst hg
  subst e4
  exact E_keeps hW hl hl60 hb hx hlaw hfig hl0 hl6 hf hn
set_option maxHeartbeats 4000000 in
set_option maxRecDepth 20000 in
theorem E_kept {w : jS} {m : Nat} (hW : MW w.2 m) {c : Nat} (hR : zRw (w.1 (m + 2)) c) {r n a : Int} (hrr : r32 r) (hrn : r32 n) (hra : r32 a) : jCall 154 [jO m, jI r, jI n, jI a] w (fun v w1 => ((¬ (0 ≤ r ∧ r < (c : Int))) → jno w m 1 (jJ (4000000000000000000 - (-1))) v w1) ∧ (¬ (¬ (0 ≤ r ∧ r < (c : Int))) → (¬ (0 ≤ a ∧ a ≤ 1)) → jno w m 2 (jJ (4000000000000000000 - (-2))) v w1) ∧ (¬ (¬ (0 ≤ r ∧ r < (c : Int))) → ¬ (¬ (0 ≤ a ∧ a ≤ 1)) → (n < 0) → jno w m 4 (jJ (4000000000000000000 - (-4))) v w1) ∧ (¬ (¬ (0 ≤ r ∧ r < (c : Int))) → ¬ (¬ (0 ≤ a ∧ a ≤ 1)) → ¬ (n < 0) → ∃ (t : Nat → Int) (len : Nat) (why left : Int), zTR (w.1 (m + 2)) r.toNat t len why left ∧ ((zkp (w.1 (m + 2) (1 + 10 * r.toNat)) t len n.toNat ∧ v = some (jJ (if a = 0 then (zu (zku (w.1 (m + 2) (1 + 10 * r.toNat)) (w.1 (m + 2) (2 + 10 * r.toNat)) t n.toNat) (zkd (w.1 (m + 2) (1 + 10 * r.toNat)) t n.toNat)) else (zv (zku (w.1 (m + 2) (1 + 10 * r.toNat)) (w.1 (m + 2) (2 + 10 * r.toNat)) t n.toNat) (zkd (w.1 (m + 2) (1 + 10 * r.toNat)) t n.toNat)))) ∧ mq w m w1) ∨ (¬ zkp (w.1 (m + 2) (1 + 10 * r.toNat)) t len n.toNat ∧ jnq w m 3 (jJ (4000000000000000000 - (-3))) v w1)))) := by
  have mt : jtb 154 = jT154 := rfl
  have hc4 := hR.2.1
  have hrr1 : -2147483648 ≤ r ∧ r < 2147483648 := hrr
  have hrn1 : -2147483648 ≤ n ∧ n < 2147483648 := hrn
  have hra1 : -2147483648 ≤ a ∧ a < 2147483648 := hra
  show jWp 154 0 [some (jO m), some (jI r), some (jI n), some (jI a)] [] 0 0 w _
  refine jWp.blk mt 2 ?_
  show _ ∧ jWp 154 2 [some (jO m), some (jI r), some (jI n), some (jI a)] [jI r, jO m] 0 0 w _
  refine ⟨rfl, ?_⟩
  refine jWp.callv (as := [jO m, jI r]) (rest := []) mt rfl rfl rfl ⟨rfl, jtg hW.K0⟩ ?_
  refine jCall.mono (E_isRow hW hR hrr) (fun v9 w9 h9 => ?_)
  rcases h9 with ⟨rfl, h9, h1⟩ | ⟨rfl, h9, h1⟩ <;> subst w9
  · have h1 : 0 ≤ r ∧ r < (c : Int) := h1
    show jWp 154 5 [some (jO m), some (jI r), some (jI n), some (jI a)] [jI 1] 0 0 w _
    obtain ⟨r1, rfl⟩ : ∃ r1 : Nat, r = (r1 : Int) := ⟨r.toNat, by omega⟩
    show jWp 154 5 [some (jO m), some (jI (r1 : Int)), some (jI n), some (jI a)] [jI 1] 0 0 w _
    have hRr := hR.2.2 r1 (by omega)
    have hRo := zO_b hRr.1.1 hRr.1.2
    refine jWp.ifc (b := true) mt rfl (by decide) rfl ?_
    show jWp 154 14 [some (jO m), some (jI (r1 : Int)), some (jI n), some (jI a)] [] 0 0 w _
    refine jWp.blk mt 1 ?_
    show jWp 154 15 [some (jO m), some (jI (r1 : Int)), some (jI n), some (jI a)] [jI a] 0 0 w _
    refine jWp.i2l (pc' := 16) mt rfl rfl (b32_id (by omega) (by omega)) ?_
    show jWp 154 16 [some (jO m), some (jI (r1 : Int)), some (jI n), some (jI a)] [jJ a] 0 0 w _
    refine jWp.blk mt 2 ?_
    show jWp 154 18 [some (jO m), some (jI (r1 : Int)), some (jI n), some (jI a)] [jJ 1, jJ 0, jJ a] 0 0 w _
    refine jWp.calls (as := [jJ a, jJ 0, jJ 1]) (rest := []) mt rfl rfl rfl rfl ?_
    refine jCall.mono (E_in (b64_id (by omega) (by omega)) (show b64 0 = 0 by decide) (show b64 1 = 1 by decide)) (fun v9 w9 h9 => ?_)
    rcases h9 with ⟨rfl, h9, h2⟩ | ⟨rfl, h9, h2⟩ <;> subst w9
    · have h2 : 0 ≤ a ∧ a ≤ 1 := h2
      show jWp 154 21 [some (jO m), some (jI (r1 : Int)), some (jI n), some (jI a)] [jI 1] 0 0 w _
      refine jWp.ifc (b := true) mt rfl (by decide) rfl ?_
      show jWp 154 31 [some (jO m), some (jI (r1 : Int)), some (jI n), some (jI a)] [] 0 0 w _
      refine jWp.blk mt 1 ?_
      show jWp 154 32 [some (jO m), some (jI (r1 : Int)), some (jI n), some (jI a)] [jI n] 0 0 w _
      refine jWp.ifz (pc' := 35) mt rfl rfl (b32_id (by omega) (by omega)) (fun h3 => ?_) (fun h3 => ?_)
      · have h3 : 0 ≤ n := h3
        obtain ⟨n1, rfl⟩ : ∃ n1 : Nat, n = (n1 : Int) := ⟨n.toNat, by omega⟩
        show jWp 154 42 [some (jO m), some (jI (r1 : Int)), some (jI (n1 : Int)), some (jI a)] [] 0 0 w _
        refine jWp.blk mt 2 ?_
        show _ ∧ jWp 154 44 [some (jO m), some (jI (r1 : Int)), some (jI (n1 : Int)), some (jI a)] [jI (r1 : Int), jO m] 0 0 w _
        refine ⟨rfl, ?_⟩
        refine jWp.callv (as := [jO m, jI (r1 : Int)]) (rest := []) mt rfl rfl rfl ⟨rfl, jtg hW.K0⟩ ?_
        refine jCall.mono (E_termsW (w := w) (W := w) (x := r1) hW hR (by omega) mq_0) (fun v9 w9 h9 => ?_)
        obtain ⟨rfl, hF, hmq, len, why, left, k4, k5, k6, hTR⟩ := h9
        obtain ⟨M1, G9⟩ := w9
        have hg : G9 = w.2 := hmq.1
        subst hg
        have k4 : M1 m 4 = (len : Int) := k4
        have hTR : zTR (w.1 (m + 2)) r1 (M1 (m + 4)) len why left := hTR
        have hTb := zTR_b hR (by omega) hTR
        have hM2 : M1 (m + 2) = w.1 (m + 2) := hmq.2.1 _ (by omega)
        show jWp 154 47 [some (jO m), some (jI (r1 : Int)), some (jI (n1 : Int)), some (jI a)] [] 0 0 (M1, w.2) _
        refine jWp.blk mt 3 ?_
        show _ ∧ jWp 154 50 [some (jO m), some (jI (r1 : Int)), some (jI (n1 : Int)), some (jI a)] [jI (n1 : Int), jI (r1 : Int), jO m] 0 0 (M1, w.2) _
        refine ⟨rfl, ?_⟩
        refine jWp.callv (as := [jO m, jI (r1 : Int), jI (n1 : Int)]) (rest := []) mt rfl rfl rfl ⟨rfl, jtg hW.K0⟩ ?_
        refine jCall.mono (E_keepsW (W := (M1, w.2)) (T := M1 (m + 4)) (len := len) (x := r1) (n := n1) (law := (w.1 (m + 2) (1 + 10 * r1))) (f := (w.1 (m + 2) (2 + 10 * r1))) hW rfl rfl ( k4) hTb.1 hTb.2.2 (by omega) (congrFun ( hM2) _) (congrFun ( hM2) _) hRr.1.1 hRr.1.2 hRr.2.1 (by omega)) (fun v9 w9 h9 => ?_)
        rcases h9 with ⟨rfl, hk5, h9, hub, hdb⟩ | ⟨rfl, hk5, h9⟩ <;> subst h9
        · have hk5' := hk5
          show jWp 154 53 [some (jO m), some (jI (r1 : Int)), some (jI (n1 : Int)), some (jI a)] [jI 1] 0 0 (jW (jW (M1, w.2) m 8 (zu (zku (w.1 (m + 2) (1 + 10 * r1)) (w.1 (m + 2) (2 + 10 * r1)) (M1 (m + 4)) n1) (zkd (w.1 (m + 2) (1 + 10 * r1)) (M1 (m + 4)) n1))) m 9 (zv (zku (w.1 (m + 2) (1 + 10 * r1)) (w.1 (m + 2) (2 + 10 * r1)) (M1 (m + 4)) n1) (zkd (w.1 (m + 2) (1 + 10 * r1)) (M1 (m + 4)) n1))) _
          refine jWp.ifc (b := true) mt rfl (by decide) rfl ?_
          show jWp 154 63 [some (jO m), some (jI (r1 : Int)), some (jI (n1 : Int)), some (jI a)] [] 0 0 (jW (jW (M1, w.2) m 8 (zu (zku (w.1 (m + 2) (1 + 10 * r1)) (w.1 (m + 2) (2 + 10 * r1)) (M1 (m + 4)) n1) (zkd (w.1 (m + 2) (1 + 10 * r1)) (M1 (m + 4)) n1))) m 9 (zv (zku (w.1 (m + 2) (1 + 10 * r1)) (w.1 (m + 2) (2 + 10 * r1)) (M1 (m + 4)) n1) (zkd (w.1 (m + 2) (1 + 10 * r1)) (M1 (m + 4)) n1))) _
          refine jWp.blk mt 1 ?_
          show jWp 154 64 [some (jO m), some (jI (r1 : Int)), some (jI (n1 : Int)), some (jI a)] [jI a] 0 0 (jW (jW (M1, w.2) m 8 (zu (zku (w.1 (m + 2) (1 + 10 * r1)) (w.1 (m + 2) (2 + 10 * r1)) (M1 (m + 4)) n1) (zkd (w.1 (m + 2) (1 + 10 * r1)) (M1 (m + 4)) n1))) m 9 (zv (zku (w.1 (m + 2) (1 + 10 * r1)) (w.1 (m + 2) (2 + 10 * r1)) (M1 (m + 4)) n1) (zkd (w.1 (m + 2) (1 + 10 * r1)) (M1 (m + 4)) n1))) _
          refine jWp.ifz (pc' := 67) mt rfl rfl (b32_id (by omega) (by omega)) (fun h6 => ?_) (fun h6 => ?_)
          · have h6 : a ≠ 0 := h6
            refine jWp.blk mt 1 ?_
            show _ ∧ jWp 154 75 [some (jO m), some (jI (r1 : Int)), some (jI (n1 : Int)), some (jI a)] [jO m] 0 0 (jW (jW (M1, w.2) m 8 (zu (zku (w.1 (m + 2) (1 + 10 * r1)) (w.1 (m + 2) (2 + 10 * r1)) (M1 (m + 4)) n1) (zkd (w.1 (m + 2) (1 + 10 * r1)) (M1 (m + 4)) n1))) m 9 (zv (zku (w.1 (m + 2) (1 + 10 * r1)) (w.1 (m + 2) (2 + 10 * r1)) (M1 (m + 4)) n1) (zkd (w.1 (m + 2) (1 + 10 * r1)) (M1 (m + 4)) n1))) _
            refine ⟨rfl, ?_⟩
            refine jWp.getJ (pc' := 78) mt rfl rfl (jtg hW.K0) ?_
            rw [show ((jW (jW (M1, w.2) m 8 (zu (zku (w.1 (m + 2) (1 + 10 * r1)) (w.1 (m + 2) (2 + 10 * r1)) (M1 (m + 4)) n1) (zkd (w.1 (m + 2) (1 + 10 * r1)) (M1 (m + 4)) n1))) m 9 (zv (zku (w.1 (m + 2) (1 + 10 * r1)) (w.1 (m + 2) (2 + 10 * r1)) (M1 (m + 4)) n1) (zkd (w.1 (m + 2) (1 + 10 * r1)) (M1 (m + 4)) n1))).1 m 9) = (zv (zku (w.1 (m + 2) (1 + 10 * r1)) (w.1 (m + 2) (2 + 10 * r1)) (M1 (m + 4)) n1) (zkd (w.1 (m + 2) (1 + 10 * r1)) (M1 (m + 4)) n1)) from jW_s]
            show jWp 154 78 [some (jO m), some (jI (r1 : Int)), some (jI (n1 : Int)), some (jI a)] [jJ (zv (zku (w.1 (m + 2) (1 + 10 * r1)) (w.1 (m + 2) (2 + 10 * r1)) (M1 (m + 4)) n1) (zkd (w.1 (m + 2) (1 + 10 * r1)) (M1 (m + 4)) n1))] 0 0 (jW (jW (M1, w.2) m 8 (zu (zku (w.1 (m + 2) (1 + 10 * r1)) (w.1 (m + 2) (2 + 10 * r1)) (M1 (m + 4)) n1) (zkd (w.1 (m + 2) (1 + 10 * r1)) (M1 (m + 4)) n1))) m 9 (zv (zku (w.1 (m + 2) (1 + 10 * r1)) (w.1 (m + 2) (2 + 10 * r1)) (M1 (m + 4)) n1) (zkd (w.1 (m + 2) (1 + 10 * r1)) (M1 (m + 4)) n1))) _
            refine jWp.lret mt rfl ⟨rfl, rfl⟩ rfl ?_
            try rw [show ((r1 : Nat) : Int).toNat = r1 from rfl]
            try rw [show ((n1 : Nat) : Int).toNat = n1 from rfl]
            refine ⟨fun c0 => ?_, fun c0 c1 => ?_, fun c0 c1 c2 => ?_, fun c0 c1 c2 => ?_⟩
            all_goals first
            | (exfalso; omega)
            | exact ⟨rfl, rfl⟩
            | exact ⟨M1 (m + 4), len, why, left, hTR, Or.inl ⟨by assumption, by first | (rw [if_pos (by omega)]; done) | (rw [if_neg (by omega)]; done), (mq_S (mq_S hmq (by decide)) (by decide))⟩⟩
            | exact ⟨M1 (m + 4), len, why, left, hTR, Or.inr ⟨by assumption, jnq_2 hmq⟩⟩
          · have h6 : a = 0 := h6
            refine jWp.blk mt 1 ?_
            show _ ∧ jWp 154 68 [some (jO m), some (jI (r1 : Int)), some (jI (n1 : Int)), some (jI a)] [jO m] 0 0 (jW (jW (M1, w.2) m 8 (zu (zku (w.1 (m + 2) (1 + 10 * r1)) (w.1 (m + 2) (2 + 10 * r1)) (M1 (m + 4)) n1) (zkd (w.1 (m + 2) (1 + 10 * r1)) (M1 (m + 4)) n1))) m 9 (zv (zku (w.1 (m + 2) (1 + 10 * r1)) (w.1 (m + 2) (2 + 10 * r1)) (M1 (m + 4)) n1) (zkd (w.1 (m + 2) (1 + 10 * r1)) (M1 (m + 4)) n1))) _
            refine ⟨rfl, ?_⟩
            refine jWp.getJ (pc' := 71) mt rfl rfl (jtg hW.K0) ?_
            rw [show ((jW (jW (M1, w.2) m 8 (zu (zku (w.1 (m + 2) (1 + 10 * r1)) (w.1 (m + 2) (2 + 10 * r1)) (M1 (m + 4)) n1) (zkd (w.1 (m + 2) (1 + 10 * r1)) (M1 (m + 4)) n1))) m 9 (zv (zku (w.1 (m + 2) (1 + 10 * r1)) (w.1 (m + 2) (2 + 10 * r1)) (M1 (m + 4)) n1) (zkd (w.1 (m + 2) (1 + 10 * r1)) (M1 (m + 4)) n1))).1 m 8) = (zu (zku (w.1 (m + 2) (1 + 10 * r1)) (w.1 (m + 2) (2 + 10 * r1)) (M1 (m + 4)) n1) (zkd (w.1 (m + 2) (1 + 10 * r1)) (M1 (m + 4)) n1)) from ((jW_k (by decide)).trans jW_s)]
            show jWp 154 71 [some (jO m), some (jI (r1 : Int)), some (jI (n1 : Int)), some (jI a)] [jJ (zu (zku (w.1 (m + 2) (1 + 10 * r1)) (w.1 (m + 2) (2 + 10 * r1)) (M1 (m + 4)) n1) (zkd (w.1 (m + 2) (1 + 10 * r1)) (M1 (m + 4)) n1))] 0 0 (jW (jW (M1, w.2) m 8 (zu (zku (w.1 (m + 2) (1 + 10 * r1)) (w.1 (m + 2) (2 + 10 * r1)) (M1 (m + 4)) n1) (zkd (w.1 (m + 2) (1 + 10 * r1)) (M1 (m + 4)) n1))) m 9 (zv (zku (w.1 (m + 2) (1 + 10 * r1)) (w.1 (m + 2) (2 + 10 * r1)) (M1 (m + 4)) n1) (zkd (w.1 (m + 2) (1 + 10 * r1)) (M1 (m + 4)) n1))) _
            refine jWp.blk mt 1 ?_
            show jWp 154 78 [some (jO m), some (jI (r1 : Int)), some (jI (n1 : Int)), some (jI a)] [jJ (zu (zku (w.1 (m + 2) (1 + 10 * r1)) (w.1 (m + 2) (2 + 10 * r1)) (M1 (m + 4)) n1) (zkd (w.1 (m + 2) (1 + 10 * r1)) (M1 (m + 4)) n1))] 0 0 (jW (jW (M1, w.2) m 8 (zu (zku (w.1 (m + 2) (1 + 10 * r1)) (w.1 (m + 2) (2 + 10 * r1)) (M1 (m + 4)) n1) (zkd (w.1 (m + 2) (1 + 10 * r1)) (M1 (m + 4)) n1))) m 9 (zv (zku (w.1 (m + 2) (1 + 10 * r1)) (w.1 (m + 2) (2 + 10 * r1)) (M1 (m + 4)) n1) (zkd (w.1 (m + 2) (1 + 10 * r1)) (M1 (m + 4)) n1))) _
            refine jWp.lret mt rfl ⟨rfl, rfl⟩ rfl ?_
            try rw [show ((r1 : Nat) : Int).toNat = r1 from rfl]
            try rw [show ((n1 : Nat) : Int).toNat = n1 from rfl]
            refine ⟨fun c0 => ?_, fun c0 c1 => ?_, fun c0 c1 c2 => ?_, fun c0 c1 c2 => ?_⟩
            all_goals first
            | (exfalso; omega)
            | exact ⟨rfl, rfl⟩
            | exact ⟨M1 (m + 4), len, why, left, hTR, Or.inl ⟨by assumption, by first | (rw [if_pos (by omega)]; done) | (rw [if_neg (by omega)]; done), (mq_S (mq_S hmq (by decide)) (by decide))⟩⟩
            | exact ⟨M1 (m + 4), len, why, left, hTR, Or.inr ⟨by assumption, jnq_2 hmq⟩⟩
        · have hk5' := hk5
          show jWp 154 53 [some (jO m), some (jI (r1 : Int)), some (jI (n1 : Int)), some (jI a)] [jI 0] 0 0 (M1, w.2) _
          refine jWp.ifc (b := false) mt rfl (by decide) rfl ?_
          show jWp 154 56 [some (jO m), some (jI (r1 : Int)), some (jI (n1 : Int)), some (jI a)] [] 0 0 (M1, w.2) _
          refine jWp.blk mt 2 ?_
          show _ ∧ jWp 154 59 [some (jO m), some (jI (r1 : Int)), some (jI (n1 : Int)), some (jI a)] [jI (-3), jO m] 0 0 (M1, w.2) _
          refine ⟨rfl, ?_⟩
          refine jWp.callv (as := [jO m, jI (-3)]) (rest := []) mt rfl rfl rfl ⟨rfl, jtg hW.K0⟩ ?_
          refine jCall.mono (E_farther (w := (M1, w.2)) (j := 3) hW (by decide) (by decide)) (fun v9 w9 h9 => ?_)
          obtain ⟨rfl, h9⟩ := h9
          subst h9
          show jWp 154 62 [some (jO m), some (jI (r1 : Int)), some (jI (n1 : Int)), some (jI a)] [jJ (4000000000000000000 - (-3))] 0 0 (jW (M1, w.2) (m + 3) 3 (((M1, w.2).1 (m + 3) 3) + 1)) _
          refine jWp.lret mt rfl ⟨rfl, rfl⟩ rfl ?_
          try rw [show ((r1 : Nat) : Int).toNat = r1 from rfl]
          try rw [show ((n1 : Nat) : Int).toNat = n1 from rfl]
          refine ⟨fun c0 => ?_, fun c0 c1 => ?_, fun c0 c1 c2 => ?_, fun c0 c1 c2 => ?_⟩
          all_goals first
          | (exfalso; omega)
          | exact ⟨rfl, rfl⟩
          | exact ⟨M1 (m + 4), len, why, left, hTR, Or.inl ⟨by assumption, by first | (rw [if_pos (by omega)]; done) | (rw [if_neg (by omega)]; done), mq_0⟩⟩
          | exact ⟨M1 (m + 4), len, why, left, hTR, Or.inr ⟨by assumption, jnq_2 hmq⟩⟩
      · have h3 : n < 0 := h3
        refine jWp.blk mt 2 ?_
        show _ ∧ jWp 154 38 [some (jO m), some (jI (r1 : Int)), some (jI n), some (jI a)] [jI (-4), jO m] 0 0 w _
        refine ⟨rfl, ?_⟩
        refine jWp.callv (as := [jO m, jI (-4)]) (rest := []) mt rfl rfl rfl ⟨rfl, jtg hW.K0⟩ ?_
        refine jCall.mono (E_farther (w := w) (j := 4) hW (by decide) (by decide)) (fun v9 w9 h9 => ?_)
        obtain ⟨rfl, h9⟩ := h9
        subst h9
        show jWp 154 41 [some (jO m), some (jI (r1 : Int)), some (jI n), some (jI a)] [jJ (4000000000000000000 - (-4))] 0 0 (jW w (m + 3) 4 ((w.1 (m + 3) 4) + 1)) _
        refine jWp.lret mt rfl ⟨rfl, rfl⟩ rfl ?_
        try rw [show ((r1 : Nat) : Int).toNat = r1 from rfl]
        try rw [show ((n1 : Nat) : Int).toNat = n1 from rfl]
        refine ⟨fun c0 => ?_, fun c0 c1 => ?_, fun c0 c1 c2 => ?_, fun c0 c1 c2 => ?_⟩
        all_goals first
        | (exfalso; omega)
        | exact ⟨rfl, rfl⟩
        | exact ⟨M1 (m + 4), len, why, left, hTR, Or.inl ⟨by assumption, by first | (rw [if_pos (by omega)]; done) | (rw [if_neg (by omega)]; done), mq_0⟩⟩
        | exact ⟨M1 (m + 4), len, why, left, hTR, Or.inr ⟨by assumption, jnq_2 hmq⟩⟩
    · have h2 : ¬ (0 ≤ a ∧ a ≤ 1) := h2
      show jWp 154 21 [some (jO m), some (jI (r1 : Int)), some (jI n), some (jI a)] [jI 0] 0 0 w _
      refine jWp.ifc (b := false) mt rfl (by decide) rfl ?_
      show jWp 154 24 [some (jO m), some (jI (r1 : Int)), some (jI n), some (jI a)] [] 0 0 w _
      refine jWp.blk mt 2 ?_
      show _ ∧ jWp 154 27 [some (jO m), some (jI (r1 : Int)), some (jI n), some (jI a)] [jI (-2), jO m] 0 0 w _
      refine ⟨rfl, ?_⟩
      refine jWp.callv (as := [jO m, jI (-2)]) (rest := []) mt rfl rfl rfl ⟨rfl, jtg hW.K0⟩ ?_
      refine jCall.mono (E_farther (w := w) (j := 2) hW (by decide) (by decide)) (fun v9 w9 h9 => ?_)
      obtain ⟨rfl, h9⟩ := h9
      subst h9
      show jWp 154 30 [some (jO m), some (jI (r1 : Int)), some (jI n), some (jI a)] [jJ (4000000000000000000 - (-2))] 0 0 (jW w (m + 3) 2 ((w.1 (m + 3) 2) + 1)) _
      refine jWp.lret mt rfl ⟨rfl, rfl⟩ rfl ?_
      try rw [show ((r1 : Nat) : Int).toNat = r1 from rfl]
      try rw [show ((n1 : Nat) : Int).toNat = n1 from rfl]
      refine ⟨fun c0 => ?_, fun c0 c1 => ?_, fun c0 c1 c2 => ?_, fun c0 c1 c2 => ?_⟩
      all_goals first
      | (exfalso; omega)
      | exact ⟨rfl, rfl⟩
      | exact ⟨M1 (m + 4), len, why, left, hTR, Or.inl ⟨by assumption, by first | (rw [if_pos (by omega)]; done) | (rw [if_neg (by omega)]; done), mq_0⟩⟩
      | exact ⟨M1 (m + 4), len, why, left, hTR, Or.inr ⟨by assumption, jnq_2 hmq⟩⟩
  · have h1 : ¬ (0 ≤ r ∧ r < (c : Int)) := h1
    show jWp 154 5 [some (jO m), some (jI r), some (jI n), some (jI a)] [jI 0] 0 0 w _
    refine jWp.ifc (b := false) mt rfl (by decide) rfl ?_
    show jWp 154 8 [some (jO m), some (jI r), some (jI n), some (jI a)] [] 0 0 w _
    refine jWp.blk mt 2 ?_
    show _ ∧ jWp 154 10 [some (jO m), some (jI r), some (jI n), some (jI a)] [jI (-1), jO m] 0 0 w _
    refine ⟨rfl, ?_⟩
    refine jWp.callv (as := [jO m, jI (-1)]) (rest := []) mt rfl rfl rfl ⟨rfl, jtg hW.K0⟩ ?_
    refine jCall.mono (E_farther (w := w) (j := 1) hW (by decide) (by decide)) (fun v9 w9 h9 => ?_)
    obtain ⟨rfl, h9⟩ := h9
    subst h9
    show jWp 154 13 [some (jO m), some (jI r), some (jI n), some (jI a)] [jJ (4000000000000000000 - (-1))] 0 0 (jW w (m + 3) 1 ((w.1 (m + 3) 1) + 1)) _
    refine jWp.lret mt rfl ⟨rfl, rfl⟩ rfl ?_
    try rw [show ((r1 : Nat) : Int).toNat = r1 from rfl]
    try rw [show ((n1 : Nat) : Int).toNat = n1 from rfl]
    refine ⟨fun c0 => ?_, fun c0 c1 => ?_, fun c0 c1 c2 => ?_, fun c0 c1 c2 => ?_⟩
    all_goals first
    | (exfalso; omega)
    | exact ⟨rfl, rfl⟩
    | exact ⟨M1 (m + 4), len, why, left, hTR, Or.inl ⟨by assumption, by first | (rw [if_pos (by omega)]; done) | (rw [if_neg (by omega)]; done), mq_0⟩⟩
    | exact ⟨M1 (m + 4), len, why, left, hTR, Or.inr ⟨by assumption, jnq_2 hmq⟩⟩
set_option maxHeartbeats 4000000 in
set_option maxRecDepth 20000 in
theorem E_stays {w : jS} {m : Nat} (hW : MW w.2 m) {c : Nat} (hR : zRw (w.1 (m + 2)) c) {r : Int} (hrr : r32 r) : jCall 155 [jO m, jI r] w (fun v w1 => ((¬ (0 ≤ r ∧ r < (c : Int))) → jno w m 1 (jI (-1)) v w1) ∧ (¬ (¬ (0 ≤ r ∧ r < (c : Int))) → ∃ (t : Nat → Int) (len : Nat) (why left : Int), zTR (w.1 (m + 2)) r.toNat t len why left ∧ ((zkp (w.1 (m + 2) (1 + 10 * r.toNat)) t len 0 ∧ v = some (jI (zfs (fun k => zkp (w.1 (m + 2) (1 + 10 * r.toNat)) t len k) (fun k => (zu (zku (w.1 (m + 2) (1 + 10 * r.toNat)) (w.1 (m + 2) (2 + 10 * r.toNat)) t k) (zkd (w.1 (m + 2) (1 + 10 * r.toNat)) t k)) ≠ (zu (zku (w.1 (m + 2) (1 + 10 * r.toNat)) (w.1 (m + 2) (2 + 10 * r.toNat)) t 0) (zkd (w.1 (m + 2) (1 + 10 * r.toNat)) t 0)) ∨ (zv (zku (w.1 (m + 2) (1 + 10 * r.toNat)) (w.1 (m + 2) (2 + 10 * r.toNat)) t k) (zkd (w.1 (m + 2) (1 + 10 * r.toNat)) t k)) ≠ (zv (zku (w.1 (m + 2) (1 + 10 * r.toNat)) (w.1 (m + 2) (2 + 10 * r.toNat)) t 0) (zkd (w.1 (m + 2) (1 + 10 * r.toNat)) t 0))) 59 1)) ∧ mq w m w1) ∨ (¬ zkp (w.1 (m + 2) (1 + 10 * r.toNat)) t len 0 ∧ jnq w m 3 (jI (-3)) v w1)))) := by
  have mt : jtb 155 = jT155 := rfl
  have hc4 := hR.2.1
  have hrr1 : -2147483648 ≤ r ∧ r < 2147483648 := hrr
  show jWp 155 0 [some (jO m), some (jI r), none, none, none, none, none] [] 0 0 w _
  refine jWp.blk mt 2 ?_
  show _ ∧ jWp 155 2 [some (jO m), some (jI r), none, none, none, none, none] [jI r, jO m] 0 0 w _
  refine ⟨rfl, ?_⟩
  refine jWp.callv (as := [jO m, jI r]) (rest := []) mt rfl rfl rfl ⟨rfl, jtg hW.K0⟩ ?_
  refine jCall.mono (E_isRow hW hR hrr) (fun v9 w9 h9 => ?_)
  rcases h9 with ⟨rfl, h9, h1⟩ | ⟨rfl, h9, h1⟩ <;> subst w9
  · have h1 : 0 ≤ r ∧ r < (c : Int) := h1
    show jWp 155 5 [some (jO m), some (jI r), none, none, none, none, none] [jI 1] 0 0 w _
    obtain ⟨r1, rfl⟩ : ∃ r1 : Nat, r = (r1 : Int) := ⟨r.toNat, by omega⟩
    show jWp 155 5 [some (jO m), some (jI (r1 : Int)), none, none, none, none, none] [jI 1] 0 0 w _
    have hRr := hR.2.2 r1 (by omega)
    have hRo := zO_b hRr.1.1 hRr.1.2
    refine jWp.ifc (b := true) mt rfl (by decide) rfl ?_
    show jWp 155 14 [some (jO m), some (jI (r1 : Int)), none, none, none, none, none] [] 0 0 w _
    refine jWp.blk mt 2 ?_
    show _ ∧ jWp 155 16 [some (jO m), some (jI (r1 : Int)), none, none, none, none, none] [jI (r1 : Int), jO m] 0 0 w _
    refine ⟨rfl, ?_⟩
    refine jWp.callv (as := [jO m, jI (r1 : Int)]) (rest := []) mt rfl rfl rfl ⟨rfl, jtg hW.K0⟩ ?_
    refine jCall.mono (E_termsW (w := w) (W := w) (x := r1) hW hR (by omega) mq_0) (fun v9 w9 h9 => ?_)
    obtain ⟨rfl, hF, hmq, len, why, left, k4, k5, k6, hTR⟩ := h9
    obtain ⟨M1, G9⟩ := w9
    have hg : G9 = w.2 := hmq.1
    subst hg
    have k4 : M1 m 4 = (len : Int) := k4
    have hTR : zTR (w.1 (m + 2)) r1 (M1 (m + 4)) len why left := hTR
    have hTb := zTR_b hR (by omega) hTR
    have hM2 : M1 (m + 2) = w.1 (m + 2) := hmq.2.1 _ (by omega)
    show jWp 155 19 [some (jO m), some (jI (r1 : Int)), none, none, none, none, none] [] 0 0 (M1, w.2) _
    refine jWp.blk mt 3 ?_
    show _ ∧ jWp 155 22 [some (jO m), some (jI (r1 : Int)), none, none, none, none, none] [jI 0, jI (r1 : Int), jO m] 0 0 (M1, w.2) _
    refine ⟨rfl, ?_⟩
    refine jWp.callv (as := [jO m, jI (r1 : Int), jI 0]) (rest := []) mt rfl rfl rfl ⟨rfl, jtg hW.K0⟩ ?_
    refine jCall.mono (E_keepsW (W := (M1, w.2)) (T := M1 (m + 4)) (len := len) (x := r1) (n := 0) (law := (w.1 (m + 2) (1 + 10 * r1))) (f := (w.1 (m + 2) (2 + 10 * r1))) hW rfl rfl ( k4) hTb.1 hTb.2.2 (by omega) (congrFun ( hM2) _) (congrFun ( hM2) _) hRr.1.1 hRr.1.2 hRr.2.1 (by omega)) (fun v9 w9 h9 => ?_)
    rcases h9 with ⟨rfl, hk3, h9, hub, hdb⟩ | ⟨rfl, hk3, h9⟩ <;> subst h9
    · have hk3' := hk3
      have hkz := hk3
      have hub0 := hub
      have hdb0 := hdb
      show jWp 155 25 [some (jO m), some (jI (r1 : Int)), none, none, none, none, none] [jI 1] 0 0 (jW (jW (M1, w.2) m 8 (zu (zku (w.1 (m + 2) (1 + 10 * r1)) (w.1 (m + 2) (2 + 10 * r1)) (M1 (m + 4)) 0) (zkd (w.1 (m + 2) (1 + 10 * r1)) (M1 (m + 4)) 0))) m 9 (zv (zku (w.1 (m + 2) (1 + 10 * r1)) (w.1 (m + 2) (2 + 10 * r1)) (M1 (m + 4)) 0) (zkd (w.1 (m + 2) (1 + 10 * r1)) (M1 (m + 4)) 0))) _
      refine jWp.ifc (b := true) mt rfl (by decide) rfl ?_
      show jWp 155 35 [some (jO m), some (jI (r1 : Int)), none, none, none, none, none] [] 0 0 (jW (jW (M1, w.2) m 8 (zu (zku (w.1 (m + 2) (1 + 10 * r1)) (w.1 (m + 2) (2 + 10 * r1)) (M1 (m + 4)) 0) (zkd (w.1 (m + 2) (1 + 10 * r1)) (M1 (m + 4)) 0))) m 9 (zv (zku (w.1 (m + 2) (1 + 10 * r1)) (w.1 (m + 2) (2 + 10 * r1)) (M1 (m + 4)) 0) (zkd (w.1 (m + 2) (1 + 10 * r1)) (M1 (m + 4)) 0))) _
      refine jWp.blk mt 1 ?_
      show _ ∧ jWp 155 36 [some (jO m), some (jI (r1 : Int)), none, none, none, none, none] [jO m] 0 0 (jW (jW (M1, w.2) m 8 (zu (zku (w.1 (m + 2) (1 + 10 * r1)) (w.1 (m + 2) (2 + 10 * r1)) (M1 (m + 4)) 0) (zkd (w.1 (m + 2) (1 + 10 * r1)) (M1 (m + 4)) 0))) m 9 (zv (zku (w.1 (m + 2) (1 + 10 * r1)) (w.1 (m + 2) (2 + 10 * r1)) (M1 (m + 4)) 0) (zkd (w.1 (m + 2) (1 + 10 * r1)) (M1 (m + 4)) 0))) _
      refine ⟨rfl, ?_⟩
      refine jWp.getJ (pc' := 39) mt rfl rfl (jtg hW.K0) ?_
      rw [show ((jW (jW (M1, w.2) m 8 (zu (zku (w.1 (m + 2) (1 + 10 * r1)) (w.1 (m + 2) (2 + 10 * r1)) (M1 (m + 4)) 0) (zkd (w.1 (m + 2) (1 + 10 * r1)) (M1 (m + 4)) 0))) m 9 (zv (zku (w.1 (m + 2) (1 + 10 * r1)) (w.1 (m + 2) (2 + 10 * r1)) (M1 (m + 4)) 0) (zkd (w.1 (m + 2) (1 + 10 * r1)) (M1 (m + 4)) 0))).1 m 8) = (zu (zku (w.1 (m + 2) (1 + 10 * r1)) (w.1 (m + 2) (2 + 10 * r1)) (M1 (m + 4)) 0) (zkd (w.1 (m + 2) (1 + 10 * r1)) (M1 (m + 4)) 0)) from ((jW_k (by decide)).trans jW_s)]
      show jWp 155 39 [some (jO m), some (jI (r1 : Int)), none, none, none, none, none] [jJ (zu (zku (w.1 (m + 2) (1 + 10 * r1)) (w.1 (m + 2) (2 + 10 * r1)) (M1 (m + 4)) 0) (zkd (w.1 (m + 2) (1 + 10 * r1)) (M1 (m + 4)) 0))] 0 0 (jW (jW (M1, w.2) m 8 (zu (zku (w.1 (m + 2) (1 + 10 * r1)) (w.1 (m + 2) (2 + 10 * r1)) (M1 (m + 4)) 0) (zkd (w.1 (m + 2) (1 + 10 * r1)) (M1 (m + 4)) 0))) m 9 (zv (zku (w.1 (m + 2) (1 + 10 * r1)) (w.1 (m + 2) (2 + 10 * r1)) (M1 (m + 4)) 0) (zkd (w.1 (m + 2) (1 + 10 * r1)) (M1 (m + 4)) 0))) _
      refine jWp.blk mt 2 ?_
      show _ ∧ jWp 155 41 [some (jO m), some (jI (r1 : Int)), some (jJ (zu (zku (w.1 (m + 2) (1 + 10 * r1)) (w.1 (m + 2) (2 + 10 * r1)) (M1 (m + 4)) 0) (zkd (w.1 (m + 2) (1 + 10 * r1)) (M1 (m + 4)) 0))), none, none, none, none] [jO m] 0 0 (jW (jW (M1, w.2) m 8 (zu (zku (w.1 (m + 2) (1 + 10 * r1)) (w.1 (m + 2) (2 + 10 * r1)) (M1 (m + 4)) 0) (zkd (w.1 (m + 2) (1 + 10 * r1)) (M1 (m + 4)) 0))) m 9 (zv (zku (w.1 (m + 2) (1 + 10 * r1)) (w.1 (m + 2) (2 + 10 * r1)) (M1 (m + 4)) 0) (zkd (w.1 (m + 2) (1 + 10 * r1)) (M1 (m + 4)) 0))) _
      refine ⟨rfl, ?_⟩
      refine jWp.getJ (pc' := 44) mt rfl rfl (jtg hW.K0) ?_
      rw [show ((jW (jW (M1, w.2) m 8 (zu (zku (w.1 (m + 2) (1 + 10 * r1)) (w.1 (m + 2) (2 + 10 * r1)) (M1 (m + 4)) 0) (zkd (w.1 (m + 2) (1 + 10 * r1)) (M1 (m + 4)) 0))) m 9 (zv (zku (w.1 (m + 2) (1 + 10 * r1)) (w.1 (m + 2) (2 + 10 * r1)) (M1 (m + 4)) 0) (zkd (w.1 (m + 2) (1 + 10 * r1)) (M1 (m + 4)) 0))).1 m 9) = (zv (zku (w.1 (m + 2) (1 + 10 * r1)) (w.1 (m + 2) (2 + 10 * r1)) (M1 (m + 4)) 0) (zkd (w.1 (m + 2) (1 + 10 * r1)) (M1 (m + 4)) 0)) from jW_s]
      show jWp 155 44 [some (jO m), some (jI (r1 : Int)), some (jJ (zu (zku (w.1 (m + 2) (1 + 10 * r1)) (w.1 (m + 2) (2 + 10 * r1)) (M1 (m + 4)) 0) (zkd (w.1 (m + 2) (1 + 10 * r1)) (M1 (m + 4)) 0))), none, none, none, none] [jJ (zv (zku (w.1 (m + 2) (1 + 10 * r1)) (w.1 (m + 2) (2 + 10 * r1)) (M1 (m + 4)) 0) (zkd (w.1 (m + 2) (1 + 10 * r1)) (M1 (m + 4)) 0))] 0 0 (jW (jW (M1, w.2) m 8 (zu (zku (w.1 (m + 2) (1 + 10 * r1)) (w.1 (m + 2) (2 + 10 * r1)) (M1 (m + 4)) 0) (zkd (w.1 (m + 2) (1 + 10 * r1)) (M1 (m + 4)) 0))) m 9 (zv (zku (w.1 (m + 2) (1 + 10 * r1)) (w.1 (m + 2) (2 + 10 * r1)) (M1 (m + 4)) 0) (zkd (w.1 (m + 2) (1 + 10 * r1)) (M1 (m + 4)) 0))) _
      refine jWp.blk mt 3 ?_
      show jWp 155 49 [some (jO m), some (jI (r1 : Int)), some (jJ (zu (zku (w.1 (m + 2) (1 + 10 * r1)) (w.1 (m + 2) (2 + 10 * r1)) (M1 (m + 4)) 0) (zkd (w.1 (m + 2) (1 + 10 * r1)) (M1 (m + 4)) 0))), none, some (jJ (zv (zku (w.1 (m + 2) (1 + 10 * r1)) (w.1 (m + 2) (2 + 10 * r1)) (M1 (m + 4)) 0) (zkd (w.1 (m + 2) (1 + 10 * r1)) (M1 (m + 4)) 0))), none, some (jI 1)] [] 0 0 (jW (jW (M1, w.2) m 8 (zu (zku (w.1 (m + 2) (1 + 10 * r1)) (w.1 (m + 2) (2 + 10 * r1)) (M1 (m + 4)) 0) (zkd (w.1 (m + 2) (1 + 10 * r1)) (M1 (m + 4)) 0))) m 9 (zv (zku (w.1 (m + 2) (1 + 10 * r1)) (w.1 (m + 2) (2 + 10 * r1)) (M1 (m + 4)) 0) (zkd (w.1 (m + 2) (1 + 10 * r1)) (M1 (m + 4)) 0))) _
      have lp4 : ∀ (N : Nat) (n : Nat) (x8 x9 : Int) (hn1 : 1 ≤ n ∧ n ≤ 60) (hr : zfs (fun k => zkp (w.1 (m + 2) (1 + 10 * r1)) (M1 (m + 4)) len k) (fun k => ((zu (zku (w.1 (m + 2) (1 + 10 * r1)) (w.1 (m + 2) (2 + 10 * r1)) (M1 (m + 4)) k) (zkd (w.1 (m + 2) (1 + 10 * r1)) (M1 (m + 4)) k)) ≠ (zu (zku (w.1 (m + 2) (1 + 10 * r1)) (w.1 (m + 2) (2 + 10 * r1)) (M1 (m + 4)) 0) (zkd (w.1 (m + 2) (1 + 10 * r1)) (M1 (m + 4)) 0)) ∨ (zv (zku (w.1 (m + 2) (1 + 10 * r1)) (w.1 (m + 2) (2 + 10 * r1)) (M1 (m + 4)) k) (zkd (w.1 (m + 2) (1 + 10 * r1)) (M1 (m + 4)) k)) ≠ (zv (zku (w.1 (m + 2) (1 + 10 * r1)) (w.1 (m + 2) (2 + 10 * r1)) (M1 (m + 4)) 0) (zkd (w.1 (m + 2) (1 + 10 * r1)) (M1 (m + 4)) 0)))) (60 - n) n = zfs (fun k => zkp (w.1 (m + 2) (1 + 10 * r1)) (M1 (m + 4)) len k) (fun k => ((zu (zku (w.1 (m + 2) (1 + 10 * r1)) (w.1 (m + 2) (2 + 10 * r1)) (M1 (m + 4)) k) (zkd (w.1 (m + 2) (1 + 10 * r1)) (M1 (m + 4)) k)) ≠ (zu (zku (w.1 (m + 2) (1 + 10 * r1)) (w.1 (m + 2) (2 + 10 * r1)) (M1 (m + 4)) 0) (zkd (w.1 (m + 2) (1 + 10 * r1)) (M1 (m + 4)) 0)) ∨ (zv (zku (w.1 (m + 2) (1 + 10 * r1)) (w.1 (m + 2) (2 + 10 * r1)) (M1 (m + 4)) k) (zkd (w.1 (m + 2) (1 + 10 * r1)) (M1 (m + 4)) k)) ≠ (zv (zku (w.1 (m + 2) (1 + 10 * r1)) (w.1 (m + 2) (2 + 10 * r1)) (M1 (m + 4)) 0) (zkd (w.1 (m + 2) (1 + 10 * r1)) (M1 (m + 4)) 0)))) 59 1), 60 - n < N → jWp 155 49 [some (jO m), some (jI (r1 : Int)), some (jJ (zu (zku (w.1 (m + 2) (1 + 10 * r1)) (w.1 (m + 2) (2 + 10 * r1)) (M1 (m + 4)) 0) (zkd (w.1 (m + 2) (1 + 10 * r1)) (M1 (m + 4)) 0))), none, some (jJ (zv (zku (w.1 (m + 2) (1 + 10 * r1)) (w.1 (m + 2) (2 + 10 * r1)) (M1 (m + 4)) 0) (zkd (w.1 (m + 2) (1 + 10 * r1)) (M1 (m + 4)) 0))), none, some (jI (n : Int))] [] 0 0 (jW (jW (M1, w.2) m 8 x8) m 9 x9) (fun v w1 => ((¬ (0 ≤ (r1 : Int) ∧ (r1 : Int) < (c : Int))) → jno w m 1 (jI (-1)) v w1) ∧ (¬ (¬ (0 ≤ (r1 : Int) ∧ (r1 : Int) < (c : Int))) → ∃ (t : Nat → Int) (len : Nat) (why left : Int), zTR (w.1 (m + 2)) (r1 : Int).toNat t len why left ∧ ((zkp (w.1 (m + 2) (1 + 10 * (r1 : Int).toNat)) t len 0 ∧ v = some (jI (zfs (fun k => zkp (w.1 (m + 2) (1 + 10 * (r1 : Int).toNat)) t len k) (fun k => (zu (zku (w.1 (m + 2) (1 + 10 * (r1 : Int).toNat)) (w.1 (m + 2) (2 + 10 * (r1 : Int).toNat)) t k) (zkd (w.1 (m + 2) (1 + 10 * (r1 : Int).toNat)) t k)) ≠ (zu (zku (w.1 (m + 2) (1 + 10 * (r1 : Int).toNat)) (w.1 (m + 2) (2 + 10 * (r1 : Int).toNat)) t 0) (zkd (w.1 (m + 2) (1 + 10 * (r1 : Int).toNat)) t 0)) ∨ (zv (zku (w.1 (m + 2) (1 + 10 * (r1 : Int).toNat)) (w.1 (m + 2) (2 + 10 * (r1 : Int).toNat)) t k) (zkd (w.1 (m + 2) (1 + 10 * (r1 : Int).toNat)) t k)) ≠ (zv (zku (w.1 (m + 2) (1 + 10 * (r1 : Int).toNat)) (w.1 (m + 2) (2 + 10 * (r1 : Int).toNat)) t 0) (zkd (w.1 (m + 2) (1 + 10 * (r1 : Int).toNat)) t 0))) 59 1)) ∧ mq w m w1) ∨ (¬ zkp (w.1 (m + 2) (1 + 10 * (r1 : Int).toNat)) t len 0 ∧ jnq w m 3 (jI (-3)) v w1)))) := by
        intro N
        induction N with
        | zero => intro n x8 x9 hn1 hr hm; omega
        | succ N ih5 =>
          intro n x8 x9 hn1 hr hm
          refine jWp.blk mt 3 ?_
          show _ ∧ jWp 155 53 [some (jO m), some (jI (r1 : Int)), some (jJ (zu (zku (w.1 (m + 2) (1 + 10 * r1)) (w.1 (m + 2) (2 + 10 * r1)) (M1 (m + 4)) 0) (zkd (w.1 (m + 2) (1 + 10 * r1)) (M1 (m + 4)) 0))), none, some (jJ (zv (zku (w.1 (m + 2) (1 + 10 * r1)) (w.1 (m + 2) (2 + 10 * r1)) (M1 (m + 4)) 0) (zkd (w.1 (m + 2) (1 + 10 * r1)) (M1 (m + 4)) 0))), none, some (jI (n : Int))] [jI (n : Int), jI (r1 : Int), jO m] 0 0 (jW (jW (M1, w.2) m 8 x8) m 9 x9) _
          refine ⟨rfl, ?_⟩
          refine jWp.callv (as := [jO m, jI (r1 : Int), jI (n : Int)]) (rest := []) mt rfl rfl rfl ⟨rfl, jtg hW.K0⟩ ?_
          refine jCall.mono (E_keepsW (W := (jW (jW (M1, w.2) m 8 x8) m 9 x9)) (T := M1 (m + 4)) (len := len) (x := r1) (n := n) (law := (w.1 (m + 2) (1 + 10 * r1))) (f := (w.1 (m + 2) (2 + 10 * r1))) hW rfl ((jW_f (by omega)).trans ((jW_f (by omega)).trans rfl)) (((jW_k (by decide)).trans ((jW_k (by decide)).trans rfl)).trans k4) hTb.1 hTb.2.2 (by omega) (congrFun (((jW_f (by omega)).trans ((jW_f (by omega)).trans rfl)).trans hM2) _) (congrFun (((jW_f (by omega)).trans ((jW_f (by omega)).trans rfl)).trans hM2) _) hRr.1.1 hRr.1.2 hRr.2.1 (by omega)) (fun v9 w9 h9 => ?_)
          rcases h9 with ⟨rfl, hk6, h9, hub, hdb⟩ | ⟨rfl, hk6, h9⟩ <;> subst h9
          · rw [show jW (jW (jW (jW (M1, w.2) m 8 x8) m 9 x9) m 8 (zu (zku (w.1 (m + 2) (1 + 10 * r1)) (w.1 (m + 2) (2 + 10 * r1)) (M1 (m + 4)) n) (zkd (w.1 (m + 2) (1 + 10 * r1)) (M1 (m + 4)) n))) m 9 (zv (zku (w.1 (m + 2) (1 + 10 * r1)) (w.1 (m + 2) (2 + 10 * r1)) (M1 (m + 4)) n) (zkd (w.1 (m + 2) (1 + 10 * r1)) (M1 (m + 4)) n)) = jW (jW (M1, w.2) m 8 (zu (zku (w.1 (m + 2) (1 + 10 * r1)) (w.1 (m + 2) (2 + 10 * r1)) (M1 (m + 4)) n) (zkd (w.1 (m + 2) (1 + 10 * r1)) (M1 (m + 4)) n))) m 9 (zv (zku (w.1 (m + 2) (1 + 10 * r1)) (w.1 (m + 2) (2 + 10 * r1)) (M1 (m + 4)) n) (zkd (w.1 (m + 2) (1 + 10 * r1)) (M1 (m + 4)) n)) from jW4]
            show jWp 155 56 [some (jO m), some (jI (r1 : Int)), some (jJ (zu (zku (w.1 (m + 2) (1 + 10 * r1)) (w.1 (m + 2) (2 + 10 * r1)) (M1 (m + 4)) 0) (zkd (w.1 (m + 2) (1 + 10 * r1)) (M1 (m + 4)) 0))), none, some (jJ (zv (zku (w.1 (m + 2) (1 + 10 * r1)) (w.1 (m + 2) (2 + 10 * r1)) (M1 (m + 4)) 0) (zkd (w.1 (m + 2) (1 + 10 * r1)) (M1 (m + 4)) 0))), none, some (jI (n : Int))] [jI 1] 0 0 (jW (jW (M1, w.2) m 8 (zu (zku (w.1 (m + 2) (1 + 10 * r1)) (w.1 (m + 2) (2 + 10 * r1)) (M1 (m + 4)) n) (zkd (w.1 (m + 2) (1 + 10 * r1)) (M1 (m + 4)) n))) m 9 (zv (zku (w.1 (m + 2) (1 + 10 * r1)) (w.1 (m + 2) (2 + 10 * r1)) (M1 (m + 4)) n) (zkd (w.1 (m + 2) (1 + 10 * r1)) (M1 (m + 4)) n))) _
            refine jWp.ifc (b := false) mt rfl (by decide) rfl ?_
            show jWp 155 59 [some (jO m), some (jI (r1 : Int)), some (jJ (zu (zku (w.1 (m + 2) (1 + 10 * r1)) (w.1 (m + 2) (2 + 10 * r1)) (M1 (m + 4)) 0) (zkd (w.1 (m + 2) (1 + 10 * r1)) (M1 (m + 4)) 0))), none, some (jJ (zv (zku (w.1 (m + 2) (1 + 10 * r1)) (w.1 (m + 2) (2 + 10 * r1)) (M1 (m + 4)) 0) (zkd (w.1 (m + 2) (1 + 10 * r1)) (M1 (m + 4)) 0))), none, some (jI (n : Int))] [] 0 0 (jW (jW (M1, w.2) m 8 (zu (zku (w.1 (m + 2) (1 + 10 * r1)) (w.1 (m + 2) (2 + 10 * r1)) (M1 (m + 4)) n) (zkd (w.1 (m + 2) (1 + 10 * r1)) (M1 (m + 4)) n))) m 9 (zv (zku (w.1 (m + 2) (1 + 10 * r1)) (w.1 (m + 2) (2 + 10 * r1)) (M1 (m + 4)) n) (zkd (w.1 (m + 2) (1 + 10 * r1)) (M1 (m + 4)) n))) _
            refine jWp.blk mt 1 ?_
            show _ ∧ jWp 155 60 [some (jO m), some (jI (r1 : Int)), some (jJ (zu (zku (w.1 (m + 2) (1 + 10 * r1)) (w.1 (m + 2) (2 + 10 * r1)) (M1 (m + 4)) 0) (zkd (w.1 (m + 2) (1 + 10 * r1)) (M1 (m + 4)) 0))), none, some (jJ (zv (zku (w.1 (m + 2) (1 + 10 * r1)) (w.1 (m + 2) (2 + 10 * r1)) (M1 (m + 4)) 0) (zkd (w.1 (m + 2) (1 + 10 * r1)) (M1 (m + 4)) 0))), none, some (jI (n : Int))] [jO m] 0 0 (jW (jW (M1, w.2) m 8 (zu (zku (w.1 (m + 2) (1 + 10 * r1)) (w.1 (m + 2) (2 + 10 * r1)) (M1 (m + 4)) n) (zkd (w.1 (m + 2) (1 + 10 * r1)) (M1 (m + 4)) n))) m 9 (zv (zku (w.1 (m + 2) (1 + 10 * r1)) (w.1 (m + 2) (2 + 10 * r1)) (M1 (m + 4)) n) (zkd (w.1 (m + 2) (1 + 10 * r1)) (M1 (m + 4)) n))) _
            refine ⟨rfl, ?_⟩
            refine jWp.getJ (pc' := 63) mt rfl rfl (jtg hW.K0) ?_
            rw [show ((jW (jW (M1, w.2) m 8 (zu (zku (w.1 (m + 2) (1 + 10 * r1)) (w.1 (m + 2) (2 + 10 * r1)) (M1 (m + 4)) n) (zkd (w.1 (m + 2) (1 + 10 * r1)) (M1 (m + 4)) n))) m 9 (zv (zku (w.1 (m + 2) (1 + 10 * r1)) (w.1 (m + 2) (2 + 10 * r1)) (M1 (m + 4)) n) (zkd (w.1 (m + 2) (1 + 10 * r1)) (M1 (m + 4)) n))).1 m 8) = (zu (zku (w.1 (m + 2) (1 + 10 * r1)) (w.1 (m + 2) (2 + 10 * r1)) (M1 (m + 4)) n) (zkd (w.1 (m + 2) (1 + 10 * r1)) (M1 (m + 4)) n)) from ((jW_k (by decide)).trans jW_s)]
            show jWp 155 63 [some (jO m), some (jI (r1 : Int)), some (jJ (zu (zku (w.1 (m + 2) (1 + 10 * r1)) (w.1 (m + 2) (2 + 10 * r1)) (M1 (m + 4)) 0) (zkd (w.1 (m + 2) (1 + 10 * r1)) (M1 (m + 4)) 0))), none, some (jJ (zv (zku (w.1 (m + 2) (1 + 10 * r1)) (w.1 (m + 2) (2 + 10 * r1)) (M1 (m + 4)) 0) (zkd (w.1 (m + 2) (1 + 10 * r1)) (M1 (m + 4)) 0))), none, some (jI (n : Int))] [jJ (zu (zku (w.1 (m + 2) (1 + 10 * r1)) (w.1 (m + 2) (2 + 10 * r1)) (M1 (m + 4)) n) (zkd (w.1 (m + 2) (1 + 10 * r1)) (M1 (m + 4)) n))] 0 0 (jW (jW (M1, w.2) m 8 (zu (zku (w.1 (m + 2) (1 + 10 * r1)) (w.1 (m + 2) (2 + 10 * r1)) (M1 (m + 4)) n) (zkd (w.1 (m + 2) (1 + 10 * r1)) (M1 (m + 4)) n))) m 9 (zv (zku (w.1 (m + 2) (1 + 10 * r1)) (w.1 (m + 2) (2 + 10 * r1)) (M1 (m + 4)) n) (zkd (w.1 (m + 2) (1 + 10 * r1)) (M1 (m + 4)) n))) _
            refine jWp.blk mt 1 ?_
            show jWp 155 64 [some (jO m), some (jI (r1 : Int)), some (jJ (zu (zku (w.1 (m + 2) (1 + 10 * r1)) (w.1 (m + 2) (2 + 10 * r1)) (M1 (m + 4)) 0) (zkd (w.1 (m + 2) (1 + 10 * r1)) (M1 (m + 4)) 0))), none, some (jJ (zv (zku (w.1 (m + 2) (1 + 10 * r1)) (w.1 (m + 2) (2 + 10 * r1)) (M1 (m + 4)) 0) (zkd (w.1 (m + 2) (1 + 10 * r1)) (M1 (m + 4)) 0))), none, some (jI (n : Int))] [jJ (zu (zku (w.1 (m + 2) (1 + 10 * r1)) (w.1 (m + 2) (2 + 10 * r1)) (M1 (m + 4)) 0) (zkd (w.1 (m + 2) (1 + 10 * r1)) (M1 (m + 4)) 0)), jJ (zu (zku (w.1 (m + 2) (1 + 10 * r1)) (w.1 (m + 2) (2 + 10 * r1)) (M1 (m + 4)) n) (zkd (w.1 (m + 2) (1 + 10 * r1)) (M1 (m + 4)) n))] 0 0 (jW (jW (M1, w.2) m 8 (zu (zku (w.1 (m + 2) (1 + 10 * r1)) (w.1 (m + 2) (2 + 10 * r1)) (M1 (m + 4)) n) (zkd (w.1 (m + 2) (1 + 10 * r1)) (M1 (m + 4)) n))) m 9 (zv (zku (w.1 (m + 2) (1 + 10 * r1)) (w.1 (m + 2) (2 + 10 * r1)) (M1 (m + 4)) n) (zkd (w.1 (m + 2) (1 + 10 * r1)) (M1 (m + 4)) n))) _
            refine jWp.lcmp (pc' := 68) mt rfl rfl rfl (b64_id (by omega) (by omega)) (b64_id (by omega) (by omega)) (fun h7 => ?_) (fun h7 => ?_)
            · have h7 : (zu (zku (w.1 (m + 2) (1 + 10 * r1)) (w.1 (m + 2) (2 + 10 * r1)) (M1 (m + 4)) n) (zkd (w.1 (m + 2) (1 + 10 * r1)) (M1 (m + 4)) n)) ≠ (zu (zku (w.1 (m + 2) (1 + 10 * r1)) (w.1 (m + 2) (2 + 10 * r1)) (M1 (m + 4)) 0) (zkd (w.1 (m + 2) (1 + 10 * r1)) (M1 (m + 4)) 0)) := h7
              refine jWp.blk mt 1 ?_
              show jWp 155 80 [some (jO m), some (jI (r1 : Int)), some (jJ (zu (zku (w.1 (m + 2) (1 + 10 * r1)) (w.1 (m + 2) (2 + 10 * r1)) (M1 (m + 4)) 0) (zkd (w.1 (m + 2) (1 + 10 * r1)) (M1 (m + 4)) 0))), none, some (jJ (zv (zku (w.1 (m + 2) (1 + 10 * r1)) (w.1 (m + 2) (2 + 10 * r1)) (M1 (m + 4)) 0) (zkd (w.1 (m + 2) (1 + 10 * r1)) (M1 (m + 4)) 0))), none, some (jI (n : Int))] [jI (n : Int)] 0 0 (jW (jW (M1, w.2) m 8 (zu (zku (w.1 (m + 2) (1 + 10 * r1)) (w.1 (m + 2) (2 + 10 * r1)) (M1 (m + 4)) n) (zkd (w.1 (m + 2) (1 + 10 * r1)) (M1 (m + 4)) n))) m 9 (zv (zku (w.1 (m + 2) (1 + 10 * r1)) (w.1 (m + 2) (2 + 10 * r1)) (M1 (m + 4)) n) (zkd (w.1 (m + 2) (1 + 10 * r1)) (M1 (m + 4)) n))) _
              refine jWp.ireti mt rfl ⟨rfl, rfl⟩ rfl ?_
              try rw [show ((r1 : Nat) : Int).toNat = r1 from rfl]
              refine ⟨fun c0 => ?_, fun c0 => ?_⟩
              all_goals first
              | (exfalso; omega)
              | exact ⟨rfl, rfl⟩
              | exact ⟨M1 (m + 4), len, why, left, hTR, Or.inl ⟨hkz, by have hq9 := zkp_l hk6; rw [← hr, show 60 - n = (60 - (n + 1)) + 1 by omega, zfs_t hk6 (by omega)], (mq_S (mq_S hmq (by decide)) (by decide))⟩⟩
            · have h7 : (zu (zku (w.1 (m + 2) (1 + 10 * r1)) (w.1 (m + 2) (2 + 10 * r1)) (M1 (m + 4)) n) (zkd (w.1 (m + 2) (1 + 10 * r1)) (M1 (m + 4)) n)) = (zu (zku (w.1 (m + 2) (1 + 10 * r1)) (w.1 (m + 2) (2 + 10 * r1)) (M1 (m + 4)) 0) (zkd (w.1 (m + 2) (1 + 10 * r1)) (M1 (m + 4)) 0)) := h7
              refine jWp.blk mt 1 ?_
              show _ ∧ jWp 155 69 [some (jO m), some (jI (r1 : Int)), some (jJ (zu (zku (w.1 (m + 2) (1 + 10 * r1)) (w.1 (m + 2) (2 + 10 * r1)) (M1 (m + 4)) 0) (zkd (w.1 (m + 2) (1 + 10 * r1)) (M1 (m + 4)) 0))), none, some (jJ (zv (zku (w.1 (m + 2) (1 + 10 * r1)) (w.1 (m + 2) (2 + 10 * r1)) (M1 (m + 4)) 0) (zkd (w.1 (m + 2) (1 + 10 * r1)) (M1 (m + 4)) 0))), none, some (jI (n : Int))] [jO m] 0 0 (jW (jW (M1, w.2) m 8 (zu (zku (w.1 (m + 2) (1 + 10 * r1)) (w.1 (m + 2) (2 + 10 * r1)) (M1 (m + 4)) n) (zkd (w.1 (m + 2) (1 + 10 * r1)) (M1 (m + 4)) n))) m 9 (zv (zku (w.1 (m + 2) (1 + 10 * r1)) (w.1 (m + 2) (2 + 10 * r1)) (M1 (m + 4)) n) (zkd (w.1 (m + 2) (1 + 10 * r1)) (M1 (m + 4)) n))) _
              refine ⟨rfl, ?_⟩
              refine jWp.getJ (pc' := 72) mt rfl rfl (jtg hW.K0) ?_
              rw [show ((jW (jW (M1, w.2) m 8 (zu (zku (w.1 (m + 2) (1 + 10 * r1)) (w.1 (m + 2) (2 + 10 * r1)) (M1 (m + 4)) n) (zkd (w.1 (m + 2) (1 + 10 * r1)) (M1 (m + 4)) n))) m 9 (zv (zku (w.1 (m + 2) (1 + 10 * r1)) (w.1 (m + 2) (2 + 10 * r1)) (M1 (m + 4)) n) (zkd (w.1 (m + 2) (1 + 10 * r1)) (M1 (m + 4)) n))).1 m 9) = (zv (zku (w.1 (m + 2) (1 + 10 * r1)) (w.1 (m + 2) (2 + 10 * r1)) (M1 (m + 4)) n) (zkd (w.1 (m + 2) (1 + 10 * r1)) (M1 (m + 4)) n)) from jW_s]
              show jWp 155 72 [some (jO m), some (jI (r1 : Int)), some (jJ (zu (zku (w.1 (m + 2) (1 + 10 * r1)) (w.1 (m + 2) (2 + 10 * r1)) (M1 (m + 4)) 0) (zkd (w.1 (m + 2) (1 + 10 * r1)) (M1 (m + 4)) 0))), none, some (jJ (zv (zku (w.1 (m + 2) (1 + 10 * r1)) (w.1 (m + 2) (2 + 10 * r1)) (M1 (m + 4)) 0) (zkd (w.1 (m + 2) (1 + 10 * r1)) (M1 (m + 4)) 0))), none, some (jI (n : Int))] [jJ (zv (zku (w.1 (m + 2) (1 + 10 * r1)) (w.1 (m + 2) (2 + 10 * r1)) (M1 (m + 4)) n) (zkd (w.1 (m + 2) (1 + 10 * r1)) (M1 (m + 4)) n))] 0 0 (jW (jW (M1, w.2) m 8 (zu (zku (w.1 (m + 2) (1 + 10 * r1)) (w.1 (m + 2) (2 + 10 * r1)) (M1 (m + 4)) n) (zkd (w.1 (m + 2) (1 + 10 * r1)) (M1 (m + 4)) n))) m 9 (zv (zku (w.1 (m + 2) (1 + 10 * r1)) (w.1 (m + 2) (2 + 10 * r1)) (M1 (m + 4)) n) (zkd (w.1 (m + 2) (1 + 10 * r1)) (M1 (m + 4)) n))) _
              refine jWp.blk mt 1 ?_
              show jWp 155 74 [some (jO m), some (jI (r1 : Int)), some (jJ (zu (zku (w.1 (m + 2) (1 + 10 * r1)) (w.1 (m + 2) (2 + 10 * r1)) (M1 (m + 4)) 0) (zkd (w.1 (m + 2) (1 + 10 * r1)) (M1 (m + 4)) 0))), none, some (jJ (zv (zku (w.1 (m + 2) (1 + 10 * r1)) (w.1 (m + 2) (2 + 10 * r1)) (M1 (m + 4)) 0) (zkd (w.1 (m + 2) (1 + 10 * r1)) (M1 (m + 4)) 0))), none, some (jI (n : Int))] [jJ (zv (zku (w.1 (m + 2) (1 + 10 * r1)) (w.1 (m + 2) (2 + 10 * r1)) (M1 (m + 4)) 0) (zkd (w.1 (m + 2) (1 + 10 * r1)) (M1 (m + 4)) 0)), jJ (zv (zku (w.1 (m + 2) (1 + 10 * r1)) (w.1 (m + 2) (2 + 10 * r1)) (M1 (m + 4)) n) (zkd (w.1 (m + 2) (1 + 10 * r1)) (M1 (m + 4)) n))] 0 0 (jW (jW (M1, w.2) m 8 (zu (zku (w.1 (m + 2) (1 + 10 * r1)) (w.1 (m + 2) (2 + 10 * r1)) (M1 (m + 4)) n) (zkd (w.1 (m + 2) (1 + 10 * r1)) (M1 (m + 4)) n))) m 9 (zv (zku (w.1 (m + 2) (1 + 10 * r1)) (w.1 (m + 2) (2 + 10 * r1)) (M1 (m + 4)) n) (zkd (w.1 (m + 2) (1 + 10 * r1)) (M1 (m + 4)) n))) _
              refine jWp.lcmp (pc' := 78) mt rfl rfl rfl (b64_id (by omega) (by omega)) (b64_id (by omega) (by omega)) (fun h8 => ?_) (fun h8 => ?_)
              · have h8 : (zv (zku (w.1 (m + 2) (1 + 10 * r1)) (w.1 (m + 2) (2 + 10 * r1)) (M1 (m + 4)) n) (zkd (w.1 (m + 2) (1 + 10 * r1)) (M1 (m + 4)) n)) = (zv (zku (w.1 (m + 2) (1 + 10 * r1)) (w.1 (m + 2) (2 + 10 * r1)) (M1 (m + 4)) 0) (zkd (w.1 (m + 2) (1 + 10 * r1)) (M1 (m + 4)) 0)) := h8
                refine jWp.blk mt 2 ?_
                show jWp 155 49 [some (jO m), some (jI (r1 : Int)), some (jJ (zu (zku (w.1 (m + 2) (1 + 10 * r1)) (w.1 (m + 2) (2 + 10 * r1)) (M1 (m + 4)) 0) (zkd (w.1 (m + 2) (1 + 10 * r1)) (M1 (m + 4)) 0))), none, some (jJ (zv (zku (w.1 (m + 2) (1 + 10 * r1)) (w.1 (m + 2) (2 + 10 * r1)) (M1 (m + 4)) 0) (zkd (w.1 (m + 2) (1 + 10 * r1)) (M1 (m + 4)) 0))), none, some (jI ((n : Int) + 1))] [] 0 0 (jW (jW (M1, w.2) m 8 (zu (zku (w.1 (m + 2) (1 + 10 * r1)) (w.1 (m + 2) (2 + 10 * r1)) (M1 (m + 4)) n) (zkd (w.1 (m + 2) (1 + 10 * r1)) (M1 (m + 4)) n))) m 9 (zv (zku (w.1 (m + 2) (1 + 10 * r1)) (w.1 (m + 2) (2 + 10 * r1)) (M1 (m + 4)) n) (zkd (w.1 (m + 2) (1 + 10 * r1)) (M1 (m + 4)) n))) _
                refine jWp.le (l := [some (jO m), some (jI (r1 : Int)), some (jJ (zu (zku (w.1 (m + 2) (1 + 10 * r1)) (w.1 (m + 2) (2 + 10 * r1)) (M1 (m + 4)) 0) (zkd (w.1 (m + 2) (1 + 10 * r1)) (M1 (m + 4)) 0))), none, some (jJ (zv (zku (w.1 (m + 2) (1 + 10 * r1)) (w.1 (m + 2) (2 + 10 * r1)) (M1 (m + 4)) 0) (zkd (w.1 (m + 2) (1 + 10 * r1)) (M1 (m + 4)) 0))), none, some (jI ((n : Int) + 1))]) (by exact ⟨rfl, rfl, rfl, rfl, rfl, trivial⟩) ?_
                exact ih5 (n + 1) _ _ (by have hq9 := zkp_l hk6; omega) (by have hq9 := zkp_l hk6; rw [← hr, show 60 - n = (60 - (n + 1)) + 1 by omega, zfs_f hk6 (by omega)]) (by have hq9 := zkp_l hk6; omega)
              · have h8 : (zv (zku (w.1 (m + 2) (1 + 10 * r1)) (w.1 (m + 2) (2 + 10 * r1)) (M1 (m + 4)) n) (zkd (w.1 (m + 2) (1 + 10 * r1)) (M1 (m + 4)) n)) ≠ (zv (zku (w.1 (m + 2) (1 + 10 * r1)) (w.1 (m + 2) (2 + 10 * r1)) (M1 (m + 4)) 0) (zkd (w.1 (m + 2) (1 + 10 * r1)) (M1 (m + 4)) 0)) := h8
                refine jWp.blk mt 1 ?_
                show jWp 155 80 [some (jO m), some (jI (r1 : Int)), some (jJ (zu (zku (w.1 (m + 2) (1 + 10 * r1)) (w.1 (m + 2) (2 + 10 * r1)) (M1 (m + 4)) 0) (zkd (w.1 (m + 2) (1 + 10 * r1)) (M1 (m + 4)) 0))), none, some (jJ (zv (zku (w.1 (m + 2) (1 + 10 * r1)) (w.1 (m + 2) (2 + 10 * r1)) (M1 (m + 4)) 0) (zkd (w.1 (m + 2) (1 + 10 * r1)) (M1 (m + 4)) 0))), none, some (jI (n : Int))] [jI (n : Int)] 0 0 (jW (jW (M1, w.2) m 8 (zu (zku (w.1 (m + 2) (1 + 10 * r1)) (w.1 (m + 2) (2 + 10 * r1)) (M1 (m + 4)) n) (zkd (w.1 (m + 2) (1 + 10 * r1)) (M1 (m + 4)) n))) m 9 (zv (zku (w.1 (m + 2) (1 + 10 * r1)) (w.1 (m + 2) (2 + 10 * r1)) (M1 (m + 4)) n) (zkd (w.1 (m + 2) (1 + 10 * r1)) (M1 (m + 4)) n))) _
                refine jWp.ireti mt rfl ⟨rfl, rfl⟩ rfl ?_
                try rw [show ((r1 : Nat) : Int).toNat = r1 from rfl]
                refine ⟨fun c0 => ?_, fun c0 => ?_⟩
                all_goals first
                | (exfalso; omega)
                | exact ⟨rfl, rfl⟩
                | exact ⟨M1 (m + 4), len, why, left, hTR, Or.inl ⟨hkz, by have hq9 := zkp_l hk6; rw [← hr, show 60 - n = (60 - (n + 1)) + 1 by omega, zfs_t hk6 (by omega)], (mq_S (mq_S hmq (by decide)) (by decide))⟩⟩
          · have hk6' := hk6
            show jWp 155 56 [some (jO m), some (jI (r1 : Int)), some (jJ (zu (zku (w.1 (m + 2) (1 + 10 * r1)) (w.1 (m + 2) (2 + 10 * r1)) (M1 (m + 4)) 0) (zkd (w.1 (m + 2) (1 + 10 * r1)) (M1 (m + 4)) 0))), none, some (jJ (zv (zku (w.1 (m + 2) (1 + 10 * r1)) (w.1 (m + 2) (2 + 10 * r1)) (M1 (m + 4)) 0) (zkd (w.1 (m + 2) (1 + 10 * r1)) (M1 (m + 4)) 0))), none, some (jI (n : Int))] [jI 0] 0 0 (jW (jW (M1, w.2) m 8 x8) m 9 x9) _
            refine jWp.ifc (b := true) mt rfl (by decide) rfl ?_
            show jWp 155 87 [some (jO m), some (jI (r1 : Int)), some (jJ (zu (zku (w.1 (m + 2) (1 + 10 * r1)) (w.1 (m + 2) (2 + 10 * r1)) (M1 (m + 4)) 0) (zkd (w.1 (m + 2) (1 + 10 * r1)) (M1 (m + 4)) 0))), none, some (jJ (zv (zku (w.1 (m + 2) (1 + 10 * r1)) (w.1 (m + 2) (2 + 10 * r1)) (M1 (m + 4)) 0) (zkd (w.1 (m + 2) (1 + 10 * r1)) (M1 (m + 4)) 0))), none, some (jI (n : Int))] [] 0 0 (jW (jW (M1, w.2) m 8 x8) m 9 x9) _
            refine jWp.blk mt 1 ?_
            show jWp 155 89 [some (jO m), some (jI (r1 : Int)), some (jJ (zu (zku (w.1 (m + 2) (1 + 10 * r1)) (w.1 (m + 2) (2 + 10 * r1)) (M1 (m + 4)) 0) (zkd (w.1 (m + 2) (1 + 10 * r1)) (M1 (m + 4)) 0))), none, some (jJ (zv (zku (w.1 (m + 2) (1 + 10 * r1)) (w.1 (m + 2) (2 + 10 * r1)) (M1 (m + 4)) 0) (zkd (w.1 (m + 2) (1 + 10 * r1)) (M1 (m + 4)) 0))), none, some (jI (n : Int))] [jI (-9)] 0 0 (jW (jW (M1, w.2) m 8 x8) m 9 x9) _
            refine jWp.ireti mt rfl ⟨rfl, rfl⟩ rfl ?_
            try rw [show ((r1 : Nat) : Int).toNat = r1 from rfl]
            refine ⟨fun c0 => ?_, fun c0 => ?_⟩
            all_goals first
            | (exfalso; omega)
            | exact ⟨rfl, rfl⟩
            | exact ⟨M1 (m + 4), len, why, left, hTR, Or.inl ⟨hkz, by rw [← hr, zfs_n (by assumption)], (mq_S (mq_S hmq (by decide)) (by decide))⟩⟩
      refine jWp.le (l := [some (jO m), some (jI (r1 : Int)), some (jJ (zu (zku (w.1 (m + 2) (1 + 10 * r1)) (w.1 (m + 2) (2 + 10 * r1)) (M1 (m + 4)) 0) (zkd (w.1 (m + 2) (1 + 10 * r1)) (M1 (m + 4)) 0))), none, some (jJ (zv (zku (w.1 (m + 2) (1 + 10 * r1)) (w.1 (m + 2) (2 + 10 * r1)) (M1 (m + 4)) 0) (zkd (w.1 (m + 2) (1 + 10 * r1)) (M1 (m + 4)) 0))), none, some (jI 1)]) (by exact ⟨rfl, rfl, rfl, rfl, rfl, trivial⟩) ?_
      exact lp4 _ 1 _ _ (by omega) rfl (Nat.lt_succ_self _)
    · have hk3' := hk3
      show jWp 155 25 [some (jO m), some (jI (r1 : Int)), none, none, none, none, none] [jI 0] 0 0 (M1, w.2) _
      refine jWp.ifc (b := false) mt rfl (by decide) rfl ?_
      show jWp 155 28 [some (jO m), some (jI (r1 : Int)), none, none, none, none, none] [] 0 0 (M1, w.2) _
      refine jWp.blk mt 2 ?_
      show _ ∧ jWp 155 31 [some (jO m), some (jI (r1 : Int)), none, none, none, none, none] [jI (-3), jO m] 0 0 (M1, w.2) _
      refine ⟨rfl, ?_⟩
      refine jWp.callv (as := [jO m, jI (-3)]) (rest := []) mt rfl rfl rfl ⟨rfl, jtg hW.K0⟩ ?_
      refine jCall.mono (E_refuses (w := (M1, w.2)) (j := 3) hW (by decide) (by decide)) (fun v9 w9 h9 => ?_)
      obtain ⟨rfl, h9⟩ := h9
      subst h9
      show jWp 155 34 [some (jO m), some (jI (r1 : Int)), none, none, none, none, none] [jI (-3)] 0 0 (jW (M1, w.2) (m + 3) 3 (((M1, w.2).1 (m + 3) 3) + 1)) _
      refine jWp.ireti mt rfl ⟨rfl, rfl⟩ rfl ?_
      try rw [show ((r1 : Nat) : Int).toNat = r1 from rfl]
      refine ⟨fun c0 => ?_, fun c0 => ?_⟩
      all_goals first
      | (exfalso; omega)
      | exact ⟨rfl, rfl⟩
      | exact ⟨M1 (m + 4), len, why, left, hTR, Or.inr ⟨by assumption, jnq_2 hmq⟩⟩
  · have h1 : ¬ (0 ≤ r ∧ r < (c : Int)) := h1
    show jWp 155 5 [some (jO m), some (jI r), none, none, none, none, none] [jI 0] 0 0 w _
    refine jWp.ifc (b := false) mt rfl (by decide) rfl ?_
    show jWp 155 8 [some (jO m), some (jI r), none, none, none, none, none] [] 0 0 w _
    refine jWp.blk mt 2 ?_
    show _ ∧ jWp 155 10 [some (jO m), some (jI r), none, none, none, none, none] [jI (-1), jO m] 0 0 w _
    refine ⟨rfl, ?_⟩
    refine jWp.callv (as := [jO m, jI (-1)]) (rest := []) mt rfl rfl rfl ⟨rfl, jtg hW.K0⟩ ?_
    refine jCall.mono (E_refuses (w := w) (j := 1) hW (by decide) (by decide)) (fun v9 w9 h9 => ?_)
    obtain ⟨rfl, h9⟩ := h9
    subst h9
    show jWp 155 13 [some (jO m), some (jI r), none, none, none, none, none] [jI (-1)] 0 0 (jW w (m + 3) 1 ((w.1 (m + 3) 1) + 1)) _
    refine jWp.ireti mt rfl ⟨rfl, rfl⟩ rfl ?_
    try rw [show ((r1 : Nat) : Int).toNat = r1 from rfl]
    refine ⟨fun c0 => ?_, fun c0 => ?_⟩
    all_goals first
    | (exfalso; omega)
    | exact ⟨rfl, rfl⟩
set_option maxHeartbeats 4000000 in
set_option maxRecDepth 20000 in
theorem E_common {w : jS} {m : Nat} (hW : MW w.2 m) {c : Nat} (hR : zRw (w.1 (m + 2)) c) {r : Int} (hrr : r32 r) : jCall 156 [jO m, jI r] w (fun v w1 => ((¬ (0 ≤ r ∧ r < (c : Int))) → jno w m 1 (jI (-1)) v w1) ∧ (¬ (¬ (0 ≤ r ∧ r < (c : Int))) → ∃ (t : Nat → Int) (len : Nat) (why left : Int), zTR (w.1 (m + 2)) r.toNat t len why left ∧ v = some (jI (zff (fun k => zg (t k) (t (k + 1)) ≠ 1) (len - 1) 0)) ∧ mq w m w1)) := by
  have mt : jtb 156 = jT156 := rfl
  have hc4 := hR.2.1
  have hrr1 : -2147483648 ≤ r ∧ r < 2147483648 := hrr
  show jWp 156 0 [some (jO m), some (jI r), none] [] 0 0 w _
  refine jWp.blk mt 2 ?_
  show _ ∧ jWp 156 2 [some (jO m), some (jI r), none] [jI r, jO m] 0 0 w _
  refine ⟨rfl, ?_⟩
  refine jWp.callv (as := [jO m, jI r]) (rest := []) mt rfl rfl rfl ⟨rfl, jtg hW.K0⟩ ?_
  refine jCall.mono (E_isRow hW hR hrr) (fun v9 w9 h9 => ?_)
  rcases h9 with ⟨rfl, h9, h1⟩ | ⟨rfl, h9, h1⟩ <;> subst w9
  · have h1 : 0 ≤ r ∧ r < (c : Int) := h1
    show jWp 156 5 [some (jO m), some (jI r), none] [jI 1] 0 0 w _
    obtain ⟨r1, rfl⟩ : ∃ r1 : Nat, r = (r1 : Int) := ⟨r.toNat, by omega⟩
    show jWp 156 5 [some (jO m), some (jI (r1 : Int)), none] [jI 1] 0 0 w _
    have hRr := hR.2.2 r1 (by omega)
    have hRo := zO_b hRr.1.1 hRr.1.2
    refine jWp.ifc (b := true) mt rfl (by decide) rfl ?_
    show jWp 156 14 [some (jO m), some (jI (r1 : Int)), none] [] 0 0 w _
    refine jWp.blk mt 2 ?_
    show _ ∧ jWp 156 16 [some (jO m), some (jI (r1 : Int)), none] [jI (r1 : Int), jO m] 0 0 w _
    refine ⟨rfl, ?_⟩
    refine jWp.callv (as := [jO m, jI (r1 : Int)]) (rest := []) mt rfl rfl rfl ⟨rfl, jtg hW.K0⟩ ?_
    refine jCall.mono (E_termsW (w := w) (W := w) (x := r1) hW hR (by omega) mq_0) (fun v9 w9 h9 => ?_)
    obtain ⟨rfl, hF, hmq, len, why, left, k4, k5, k6, hTR⟩ := h9
    obtain ⟨M1, G9⟩ := w9
    have hg : G9 = w.2 := hmq.1
    subst hg
    have k4 : M1 m 4 = (len : Int) := k4
    have hTR : zTR (w.1 (m + 2)) r1 (M1 (m + 4)) len why left := hTR
    have hTb := zTR_b hR (by omega) hTR
    have hM2 : M1 (m + 2) = w.1 (m + 2) := hmq.2.1 _ (by omega)
    show jWp 156 19 [some (jO m), some (jI (r1 : Int)), none] [] 0 0 (M1, w.2) _
    refine jWp.blk mt 2 ?_
    show jWp 156 21 [some (jO m), some (jI (r1 : Int)), some (jI 0)] [] 0 0 (M1, w.2) _
    have lp3 : ∀ (N : Nat) (k : Nat) (hk : k ≤ len - 1) (hr : zff (fun k => zg (M1 (m + 4) k) (M1 (m + 4) (k + 1)) ≠ 1) (len - 1 - k) k = zff (fun k => zg (M1 (m + 4) k) (M1 (m + 4) (k + 1)) ≠ 1) (len - 1) 0), len - k < N → jWp 156 21 [some (jO m), some (jI (r1 : Int)), some (jI (k : Int))] [] 0 0 (M1, w.2) (fun v w1 => ((¬ (0 ≤ (r1 : Int) ∧ (r1 : Int) < (c : Int))) → jno w m 1 (jI (-1)) v w1) ∧ (¬ (¬ (0 ≤ (r1 : Int) ∧ (r1 : Int) < (c : Int))) → ∃ (t : Nat → Int) (len : Nat) (why left : Int), zTR (w.1 (m + 2)) (r1 : Int).toNat t len why left ∧ v = some (jI (zff (fun k => zg (t k) (t (k + 1)) ≠ 1) (len - 1) 0)) ∧ mq w m w1)) := by
      intro N
      induction N with
      | zero => intro k hk hr hm; omega
      | succ N ih4 =>
        intro k hk hr hm
        have hf : k < len → _ := fun h => hTb.2.2 k h
        have hf1 : k + 1 < len → _ := fun h => hTb.2.2 (k + 1) h
        have hl2 := hTb.2.1
        have hl60 := hTb.1
        refine jWp.blk mt 4 ?_
        show _ ∧ jWp 156 25 [some (jO m), some (jI (r1 : Int)), some (jI (k : Int))] [jO m, jI ((k : Int) + 1)] 0 0 (M1, w.2) _
        refine ⟨rfl, ?_⟩
        refine jWp.getI (pc' := 28) mt rfl rfl (jtg hW.K0) ?_
        rw [show ((M1, w.2).1 m 4) = (len : Int) from k4]
        show jWp 156 28 [some (jO m), some (jI (r1 : Int)), some (jI (k : Int))] [jI (len : Int), jI ((k : Int) + 1)] 0 0 (M1, w.2) _
        refine jWp.icmp (pc' := 31) mt rfl rfl (b32_id (by omega) (by omega)) (b32_id (by omega) (by omega)) (fun h5 => ?_) (fun h5 => ?_)
        · have h5 : (len : Int) ≤ ((k : Int) + 1) := h5
          refine jWp.blk mt 1 ?_
          show jWp 156 63 [some (jO m), some (jI (r1 : Int)), some (jI (k : Int))] [jI (-9)] 0 0 (M1, w.2) _
          refine jWp.ireti mt rfl ⟨rfl, rfl⟩ rfl ?_
          try rw [show ((r1 : Nat) : Int).toNat = r1 from rfl]
          refine ⟨fun c0 => ?_, fun c0 => ?_⟩
          all_goals first
          | (exfalso; omega)
          | exact ⟨rfl, rfl⟩
          | exact ⟨M1 (m + 4), len, why, left, hTR, by rw [← hr, show len - 1 - k = 0 by omega]; rfl, hmq⟩
        · have h5 : ((k : Int) + 1) < (len : Int) := h5
          refine jWp.blk mt 1 ?_
          show _ ∧ jWp 156 32 [some (jO m), some (jI (r1 : Int)), some (jI (k : Int))] [jO m] 0 0 (M1, w.2) _
          refine ⟨rfl, ?_⟩
          refine jWp.getR (pc' := 35) (o := (m + 4)) mt rfl rfl (jtg hW.K0) hW.R3 ?_
          show jWp 156 35 [some (jO m), some (jI (r1 : Int)), some (jI (k : Int))] [jO (m + 4)] 0 0 (M1, w.2) _
          refine jWp.blk mt 1 ?_
          show jWp 156 36 [some (jO m), some (jI (r1 : Int)), some (jI (k : Int))] [jI (k : Int), jO (m + 4)] 0 0 (M1, w.2) _
          refine jWp.lald (pc' := 37) (j := k) mt rfl rfl (jtg hW.K4) (b32_id (by omega) (by omega)) (jlt hW.K4 (by omega)) ?_
          rw [show ((M1, w.2).1 (m + 4) k) = (M1 (m + 4) k) from rfl]
          show jWp 156 37 [some (jO m), some (jI (r1 : Int)), some (jI (k : Int))] [jJ (M1 (m + 4) k)] 0 0 (M1, w.2) _
          refine jWp.blk mt 1 ?_
          show _ ∧ jWp 156 38 [some (jO m), some (jI (r1 : Int)), some (jI (k : Int))] [jO m, jJ (M1 (m + 4) k)] 0 0 (M1, w.2) _
          refine ⟨rfl, ?_⟩
          refine jWp.getR (pc' := 41) (o := (m + 4)) mt rfl rfl (jtg hW.K0) hW.R3 ?_
          show jWp 156 41 [some (jO m), some (jI (r1 : Int)), some (jI (k : Int))] [jO (m + 4), jJ (M1 (m + 4) k)] 0 0 (M1, w.2) _
          refine jWp.blk mt 3 ?_
          show jWp 156 44 [some (jO m), some (jI (r1 : Int)), some (jI (k : Int))] [jI ((k : Int) + 1), jO (m + 4), jJ (M1 (m + 4) k)] 0 0 (M1, w.2) _
          refine jWp.lald (pc' := 45) (j := (k + 1)) mt rfl rfl (jtg hW.K4) (by rw [b32_id (by omega) (by omega)]; omega) (jlt hW.K4 (by omega)) ?_
          rw [show ((M1, w.2).1 (m + 4) (k + 1)) = (M1 (m + 4) (k + 1)) from rfl]
          show jWp 156 45 [some (jO m), some (jI (r1 : Int)), some (jI (k : Int))] [jJ (M1 (m + 4) (k + 1)), jJ (M1 (m + 4) k)] 0 0 (M1, w.2) _
          refine jWp.calls (as := [jJ (M1 (m + 4) k), jJ (M1 (m + 4) (k + 1))]) (rest := []) mt rfl rfl rfl rfl ?_
          refine jCall.mono (E_div (by omega) (by omega)) (fun v9 w9 h9 => ?_)
          obtain ⟨rfl, h9⟩ := h9
          subst w9
          show jWp 156 48 [some (jO m), some (jI (r1 : Int)), some (jI (k : Int))] [jJ (zg (M1 (m + 4) k) (M1 (m + 4) (k + 1)))] 0 0 (M1, w.2) _
          have hgr := zg_r (a := (M1 (m + 4) k)) (b := (M1 (m + 4) (k + 1))) (by omega) (by omega)
          refine jWp.blk mt 1 ?_
          show jWp 156 49 [some (jO m), some (jI (r1 : Int)), some (jI (k : Int))] [jJ 1, jJ (zg (M1 (m + 4) k) (M1 (m + 4) (k + 1)))] 0 0 (M1, w.2) _
          refine jWp.lcmp (pc' := 53) mt rfl rfl rfl (b64_id (by omega) (by omega)) (show b64 1 = 1 by decide) (fun h6 => ?_) (fun h6 => ?_)
          · have h6 : (zg (M1 (m + 4) k) (M1 (m + 4) (k + 1))) = 1 := h6
            refine jWp.blk mt 2 ?_
            show jWp 156 21 [some (jO m), some (jI (r1 : Int)), some (jI ((k : Int) + 1))] [] 0 0 (M1, w.2) _
            refine jWp.le (l := [some (jO m), some (jI (r1 : Int)), some (jI ((k : Int) + 1))]) (by exact ⟨rfl, rfl, rfl, trivial⟩) ?_
            exact ih4 (k + 1) (by omega) (by rw [← hr, show len - 1 - k = (len - 1 - (k + 1)) + 1 by omega, zff_f (fun g => by omega)]) (by omega)
          · have h6 : (zg (M1 (m + 4) k) (M1 (m + 4) (k + 1))) ≠ 1 := h6
            refine jWp.blk mt 1 ?_
            show jWp 156 54 [some (jO m), some (jI (r1 : Int)), some (jI (k : Int))] [jI (k : Int)] 0 0 (M1, w.2) _
            refine jWp.ireti mt rfl ⟨rfl, rfl⟩ rfl ?_
            try rw [show ((r1 : Nat) : Int).toNat = r1 from rfl]
            refine ⟨fun c0 => ?_, fun c0 => ?_⟩
            all_goals first
            | (exfalso; omega)
            | exact ⟨rfl, rfl⟩
            | exact ⟨M1 (m + 4), len, why, left, hTR, by rw [← hr, show len - 1 - k = (len - 1 - (k + 1)) + 1 by omega, zff_t (by assumption)], hmq⟩
    refine jWp.le (l := [some (jO m), some (jI (r1 : Int)), some (jI 0)]) (by exact ⟨rfl, rfl, rfl, trivial⟩) ?_
    exact lp3 _ 0 (by omega) (by rw [Nat.sub_zero]) (Nat.lt_succ_self _)
  · have h1 : ¬ (0 ≤ r ∧ r < (c : Int)) := h1
    show jWp 156 5 [some (jO m), some (jI r), none] [jI 0] 0 0 w _
    refine jWp.ifc (b := false) mt rfl (by decide) rfl ?_
    show jWp 156 8 [some (jO m), some (jI r), none] [] 0 0 w _
    refine jWp.blk mt 2 ?_
    show _ ∧ jWp 156 10 [some (jO m), some (jI r), none] [jI (-1), jO m] 0 0 w _
    refine ⟨rfl, ?_⟩
    refine jWp.callv (as := [jO m, jI (-1)]) (rest := []) mt rfl rfl rfl ⟨rfl, jtg hW.K0⟩ ?_
    refine jCall.mono (E_refuses (w := w) (j := 1) hW (by decide) (by decide)) (fun v9 w9 h9 => ?_)
    obtain ⟨rfl, h9⟩ := h9
    subst h9
    show jWp 156 13 [some (jO m), some (jI r), none] [jI (-1)] 0 0 (jW w (m + 3) 1 ((w.1 (m + 3) 1) + 1)) _
    refine jWp.ireti mt rfl ⟨rfl, rfl⟩ rfl ?_
    try rw [show ((r1 : Nat) : Int).toNat = r1 from rfl]
    refine ⟨fun c0 => ?_, fun c0 => ?_⟩
    all_goals first
    | (exfalso; omega)
    | exact ⟨rfl, rfl⟩
    | exact ⟨M1 (m + 4), len, why, left, hTR, by rw [← hr, show len - 1 - k = 0 by omega]; rfl, hmq⟩
theorem zmodA {x d : Int} (hd : 2 ≤ d ∧ d ≤ 9999) : -10000 ≤ Int.tmod x d ∧ Int.tmod x d ≤ 10000 := by
  have h1 : (Int.tmod x d).natAbs = x.natAbs % d.natAbs := Int.natAbs_tmod _ _
  have h3 : x.natAbs % d.natAbs < d.natAbs := Nat.mod_lt _ (by omega)
  omega
set_option maxHeartbeats 4000000 in
set_option maxRecDepth 20000 in
theorem E_divided {w : jS} {m : Nat} (hW : MW w.2 m) {c : Nat} (hR : zRw (w.1 (m + 2)) c) {r d : Int} (hrr : r32 r) (hrd : r32 d) : jCall 157 [jO m, jI r, jI d] w (fun v w1 => ((¬ (0 ≤ r ∧ r < (c : Int))) → jno w m 1 (jI (-1)) v w1) ∧ (¬ (¬ (0 ≤ r ∧ r < (c : Int))) → (d < 2) → jno w m 4 (jI (-4)) v w1) ∧ (¬ (¬ (0 ≤ r ∧ r < (c : Int))) → ¬ (d < 2) → (9999 < d) → jno w m 6 (jI (-6)) v w1) ∧ (¬ (¬ (0 ≤ r ∧ r < (c : Int))) → ¬ (d < 2) → ¬ (9999 < d) → ∃ (t : Nat → Int) (len : Nat) (why left : Int), zTR (w.1 (m + 2)) r.toNat t len why left ∧ v = some (jI (zff (fun k => Int.tmod (t k) d = 0) len 0)) ∧ mq w m w1)) := by
  have mt : jtb 157 = jT157 := rfl
  have hc4 := hR.2.1
  have hrr1 : -2147483648 ≤ r ∧ r < 2147483648 := hrr
  have hrd1 : -2147483648 ≤ d ∧ d < 2147483648 := hrd
  show jWp 157 0 [some (jO m), some (jI r), some (jI d), none] [] 0 0 w _
  refine jWp.blk mt 2 ?_
  show _ ∧ jWp 157 2 [some (jO m), some (jI r), some (jI d), none] [jI r, jO m] 0 0 w _
  refine ⟨rfl, ?_⟩
  refine jWp.callv (as := [jO m, jI r]) (rest := []) mt rfl rfl rfl ⟨rfl, jtg hW.K0⟩ ?_
  refine jCall.mono (E_isRow hW hR hrr) (fun v9 w9 h9 => ?_)
  rcases h9 with ⟨rfl, h9, h1⟩ | ⟨rfl, h9, h1⟩ <;> subst w9
  · have h1 : 0 ≤ r ∧ r < (c : Int) := h1
    show jWp 157 5 [some (jO m), some (jI r), some (jI d), none] [jI 1] 0 0 w _
    obtain ⟨r1, rfl⟩ : ∃ r1 : Nat, r = (r1 : Int) := ⟨r.toNat, by omega⟩
    show jWp 157 5 [some (jO m), some (jI (r1 : Int)), some (jI d), none] [jI 1] 0 0 w _
    have hRr := hR.2.2 r1 (by omega)
    have hRo := zO_b hRr.1.1 hRr.1.2
    refine jWp.ifc (b := true) mt rfl (by decide) rfl ?_
    show jWp 157 14 [some (jO m), some (jI (r1 : Int)), some (jI d), none] [] 0 0 w _
    refine jWp.blk mt 2 ?_
    show jWp 157 16 [some (jO m), some (jI (r1 : Int)), some (jI d), none] [jI 2, jI d] 0 0 w _
    refine jWp.icmp (pc' := 19) mt rfl rfl (b32_id (by omega) (by omega)) (show b32 2 = 2 by decide) (fun h2 => ?_) (fun h2 => ?_)
    · have h2 : 2 ≤ d := h2
      refine jWp.blk mt 2 ?_
      show jWp 157 30 [some (jO m), some (jI (r1 : Int)), some (jI d), none] [jI 9999, jI d] 0 0 w _
      refine jWp.icmp (pc' := 33) mt rfl rfl (b32_id (by omega) (by omega)) (show b32 9999 = 9999 by decide) (fun h3 => ?_) (fun h3 => ?_)
      · have h3 : d ≤ 9999 := h3
        refine jWp.blk mt 2 ?_
        show _ ∧ jWp 157 42 [some (jO m), some (jI (r1 : Int)), some (jI d), none] [jI (r1 : Int), jO m] 0 0 w _
        refine ⟨rfl, ?_⟩
        refine jWp.callv (as := [jO m, jI (r1 : Int)]) (rest := []) mt rfl rfl rfl ⟨rfl, jtg hW.K0⟩ ?_
        refine jCall.mono (E_termsW (w := w) (W := w) (x := r1) hW hR (by omega) mq_0) (fun v9 w9 h9 => ?_)
        obtain ⟨rfl, hF, hmq, len, why, left, k4, k5, k6, hTR⟩ := h9
        obtain ⟨M1, G9⟩ := w9
        have hg : G9 = w.2 := hmq.1
        subst hg
        have k4 : M1 m 4 = (len : Int) := k4
        have hTR : zTR (w.1 (m + 2)) r1 (M1 (m + 4)) len why left := hTR
        have hTb := zTR_b hR (by omega) hTR
        have hM2 : M1 (m + 2) = w.1 (m + 2) := hmq.2.1 _ (by omega)
        show jWp 157 45 [some (jO m), some (jI (r1 : Int)), some (jI d), none] [] 0 0 (M1, w.2) _
        refine jWp.blk mt 2 ?_
        show jWp 157 47 [some (jO m), some (jI (r1 : Int)), some (jI d), some (jI 0)] [] 0 0 (M1, w.2) _
        have lp5 : ∀ (N : Nat) (k : Nat) (hk : k ≤ len) (hr : zff (fun k => Int.tmod (M1 (m + 4) k) d = 0) (len - k) k = zff (fun k => Int.tmod (M1 (m + 4) k) d = 0) len 0), len - k < N → jWp 157 47 [some (jO m), some (jI (r1 : Int)), some (jI d), some (jI (k : Int))] [] 0 0 (M1, w.2) (fun v w1 => ((¬ (0 ≤ (r1 : Int) ∧ (r1 : Int) < (c : Int))) → jno w m 1 (jI (-1)) v w1) ∧ (¬ (¬ (0 ≤ (r1 : Int) ∧ (r1 : Int) < (c : Int))) → (d < 2) → jno w m 4 (jI (-4)) v w1) ∧ (¬ (¬ (0 ≤ (r1 : Int) ∧ (r1 : Int) < (c : Int))) → ¬ (d < 2) → (9999 < d) → jno w m 6 (jI (-6)) v w1) ∧ (¬ (¬ (0 ≤ (r1 : Int) ∧ (r1 : Int) < (c : Int))) → ¬ (d < 2) → ¬ (9999 < d) → ∃ (t : Nat → Int) (len : Nat) (why left : Int), zTR (w.1 (m + 2)) (r1 : Int).toNat t len why left ∧ v = some (jI (zff (fun k => Int.tmod (t k) d = 0) len 0)) ∧ mq w m w1)) := by
          intro N
          induction N with
          | zero => intro k hk hr hm; omega
          | succ N ih6 =>
            intro k hk hr hm
            have hf : k < len → _ := fun h => hTb.2.2 k h
            have hl60 := hTb.1
            have hmo := zmodA (x := M1 (m + 4) k) (d := d) (by omega)
            refine jWp.blk mt 2 ?_
            show _ ∧ jWp 157 49 [some (jO m), some (jI (r1 : Int)), some (jI d), some (jI (k : Int))] [jO m, jI (k : Int)] 0 0 (M1, w.2) _
            refine ⟨rfl, ?_⟩
            refine jWp.getI (pc' := 52) mt rfl rfl (jtg hW.K0) ?_
            rw [show ((M1, w.2).1 m 4) = (len : Int) from k4]
            show jWp 157 52 [some (jO m), some (jI (r1 : Int)), some (jI d), some (jI (k : Int))] [jI (len : Int), jI (k : Int)] 0 0 (M1, w.2) _
            refine jWp.icmp (pc' := 55) mt rfl rfl (b32_id (by omega) (by omega)) (b32_id (by omega) (by omega)) (fun h7 => ?_) (fun h7 => ?_)
            · have h7 : (len : Int) ≤ (k : Int) := h7
              refine jWp.blk mt 1 ?_
              show jWp 157 79 [some (jO m), some (jI (r1 : Int)), some (jI d), some (jI (k : Int))] [jI (-9)] 0 0 (M1, w.2) _
              refine jWp.ireti mt rfl ⟨rfl, rfl⟩ rfl ?_
              try rw [show ((r1 : Nat) : Int).toNat = r1 from rfl]
              refine ⟨fun c0 => ?_, fun c0 c1 => ?_, fun c0 c1 c2 => ?_, fun c0 c1 c2 => ?_⟩
              all_goals first
              | (exfalso; omega)
              | exact ⟨rfl, rfl⟩
              | exact ⟨M1 (m + 4), len, why, left, hTR, by rw [← hr, show len - k = 0 by omega]; rfl, hmq⟩
            · have h7 : (k : Int) < (len : Int) := h7
              refine jWp.blk mt 1 ?_
              show _ ∧ jWp 157 56 [some (jO m), some (jI (r1 : Int)), some (jI d), some (jI (k : Int))] [jO m] 0 0 (M1, w.2) _
              refine ⟨rfl, ?_⟩
              refine jWp.getR (pc' := 59) (o := (m + 4)) mt rfl rfl (jtg hW.K0) hW.R3 ?_
              show jWp 157 59 [some (jO m), some (jI (r1 : Int)), some (jI d), some (jI (k : Int))] [jO (m + 4)] 0 0 (M1, w.2) _
              refine jWp.blk mt 1 ?_
              show jWp 157 60 [some (jO m), some (jI (r1 : Int)), some (jI d), some (jI (k : Int))] [jI (k : Int), jO (m + 4)] 0 0 (M1, w.2) _
              refine jWp.lald (pc' := 61) (j := k) mt rfl rfl (jtg hW.K4) (b32_id (by omega) (by omega)) (jlt hW.K4 (by omega)) ?_
              rw [show ((M1, w.2).1 (m + 4) k) = (M1 (m + 4) k) from rfl]
              show jWp 157 61 [some (jO m), some (jI (r1 : Int)), some (jI d), some (jI (k : Int))] [jJ (M1 (m + 4) k)] 0 0 (M1, w.2) _
              refine jWp.blk mt 1 ?_
              show jWp 157 62 [some (jO m), some (jI (r1 : Int)), some (jI d), some (jI (k : Int))] [jI d, jJ (M1 (m + 4) k)] 0 0 (M1, w.2) _
              refine jWp.i2l (pc' := 63) mt rfl rfl (b32_id (by omega) (by omega)) ?_
              show jWp 157 63 [some (jO m), some (jI (r1 : Int)), some (jI d), some (jI (k : Int))] [jJ d, jJ (M1 (m + 4) k)] 0 0 (M1, w.2) _
              refine jWp.lrem (pc' := 64) mt rfl rfl (b64_id (by omega) (by omega)) (b64_id (by omega) (by omega)) (by omega) ?_
              show jWp 157 64 [some (jO m), some (jI (r1 : Int)), some (jI d), some (jI (k : Int))] [jJ (Int.tmod (M1 (m + 4) k) d)] 0 0 (M1, w.2) _
              refine jWp.blk mt 1 ?_
              show jWp 157 65 [some (jO m), some (jI (r1 : Int)), some (jI d), some (jI (k : Int))] [jJ 0, jJ (Int.tmod (M1 (m + 4) k) d)] 0 0 (M1, w.2) _
              refine jWp.lcmp (pc' := 69) mt rfl rfl rfl (b64_id (by omega) (by omega)) (show b64 0 = 0 by decide) (fun h8 => ?_) (fun h8 => ?_)
              · have h8 : (Int.tmod (M1 (m + 4) k) d) ≠ 0 := h8
                refine jWp.blk mt 2 ?_
                show jWp 157 47 [some (jO m), some (jI (r1 : Int)), some (jI d), some (jI ((k : Int) + 1))] [] 0 0 (M1, w.2) _
                refine jWp.le (l := [some (jO m), some (jI (r1 : Int)), some (jI d), some (jI ((k : Int) + 1))]) (by exact ⟨rfl, rfl, rfl, rfl, trivial⟩) ?_
                exact ih6 (k + 1) (by omega) (by rw [← hr, show len - k = (len - (k + 1)) + 1 by omega, zff_f (by assumption)]) (by omega)
              · have h8 : (Int.tmod (M1 (m + 4) k) d) = 0 := h8
                refine jWp.blk mt 1 ?_
                show jWp 157 70 [some (jO m), some (jI (r1 : Int)), some (jI d), some (jI (k : Int))] [jI (k : Int)] 0 0 (M1, w.2) _
                refine jWp.ireti mt rfl ⟨rfl, rfl⟩ rfl ?_
                try rw [show ((r1 : Nat) : Int).toNat = r1 from rfl]
                refine ⟨fun c0 => ?_, fun c0 c1 => ?_, fun c0 c1 c2 => ?_, fun c0 c1 c2 => ?_⟩
                all_goals first
                | (exfalso; omega)
                | exact ⟨rfl, rfl⟩
                | exact ⟨M1 (m + 4), len, why, left, hTR, by rw [← hr, show len - k = (len - (k + 1)) + 1 by omega, zff_t (by assumption)], hmq⟩
        refine jWp.le (l := [some (jO m), some (jI (r1 : Int)), some (jI d), some (jI 0)]) (by exact ⟨rfl, rfl, rfl, rfl, trivial⟩) ?_
        exact lp5 _ 0 (by omega) rfl (Nat.lt_succ_self _)
      · have h3 : 9999 < d := h3
        refine jWp.blk mt 2 ?_
        show _ ∧ jWp 157 36 [some (jO m), some (jI (r1 : Int)), some (jI d), none] [jI (-6), jO m] 0 0 w _
        refine ⟨rfl, ?_⟩
        refine jWp.callv (as := [jO m, jI (-6)]) (rest := []) mt rfl rfl rfl ⟨rfl, jtg hW.K0⟩ ?_
        refine jCall.mono (E_refuses (w := w) (j := 6) hW (by decide) (by decide)) (fun v9 w9 h9 => ?_)
        obtain ⟨rfl, h9⟩ := h9
        subst h9
        show jWp 157 39 [some (jO m), some (jI (r1 : Int)), some (jI d), none] [jI (-6)] 0 0 (jW w (m + 3) 6 ((w.1 (m + 3) 6) + 1)) _
        refine jWp.ireti mt rfl ⟨rfl, rfl⟩ rfl ?_
        try rw [show ((r1 : Nat) : Int).toNat = r1 from rfl]
        refine ⟨fun c0 => ?_, fun c0 c1 => ?_, fun c0 c1 c2 => ?_, fun c0 c1 c2 => ?_⟩
        all_goals first
        | (exfalso; omega)
        | exact ⟨rfl, rfl⟩
        | exact ⟨M1 (m + 4), len, why, left, hTR, by rw [← hr, show len - k = 0 by omega]; rfl, hmq⟩
    · have h2 : d < 2 := h2
      refine jWp.blk mt 2 ?_
      show _ ∧ jWp 157 22 [some (jO m), some (jI (r1 : Int)), some (jI d), none] [jI (-4), jO m] 0 0 w _
      refine ⟨rfl, ?_⟩
      refine jWp.callv (as := [jO m, jI (-4)]) (rest := []) mt rfl rfl rfl ⟨rfl, jtg hW.K0⟩ ?_
      refine jCall.mono (E_refuses (w := w) (j := 4) hW (by decide) (by decide)) (fun v9 w9 h9 => ?_)
      obtain ⟨rfl, h9⟩ := h9
      subst h9
      show jWp 157 25 [some (jO m), some (jI (r1 : Int)), some (jI d), none] [jI (-4)] 0 0 (jW w (m + 3) 4 ((w.1 (m + 3) 4) + 1)) _
      refine jWp.ireti mt rfl ⟨rfl, rfl⟩ rfl ?_
      try rw [show ((r1 : Nat) : Int).toNat = r1 from rfl]
      refine ⟨fun c0 => ?_, fun c0 c1 => ?_, fun c0 c1 c2 => ?_, fun c0 c1 c2 => ?_⟩
      all_goals first
      | (exfalso; omega)
      | exact ⟨rfl, rfl⟩
      | exact ⟨M1 (m + 4), len, why, left, hTR, by rw [← hr, show len - k = 0 by omega]; rfl, hmq⟩
  · have h1 : ¬ (0 ≤ r ∧ r < (c : Int)) := h1
    show jWp 157 5 [some (jO m), some (jI r), some (jI d), none] [jI 0] 0 0 w _
    refine jWp.ifc (b := false) mt rfl (by decide) rfl ?_
    show jWp 157 8 [some (jO m), some (jI r), some (jI d), none] [] 0 0 w _
    refine jWp.blk mt 2 ?_
    show _ ∧ jWp 157 10 [some (jO m), some (jI r), some (jI d), none] [jI (-1), jO m] 0 0 w _
    refine ⟨rfl, ?_⟩
    refine jWp.callv (as := [jO m, jI (-1)]) (rest := []) mt rfl rfl rfl ⟨rfl, jtg hW.K0⟩ ?_
    refine jCall.mono (E_refuses (w := w) (j := 1) hW (by decide) (by decide)) (fun v9 w9 h9 => ?_)
    obtain ⟨rfl, h9⟩ := h9
    subst h9
    show jWp 157 13 [some (jO m), some (jI r), some (jI d), none] [jI (-1)] 0 0 (jW w (m + 3) 1 ((w.1 (m + 3) 1) + 1)) _
    refine jWp.ireti mt rfl ⟨rfl, rfl⟩ rfl ?_
    try rw [show ((r1 : Nat) : Int).toNat = r1 from rfl]
    refine ⟨fun c0 => ?_, fun c0 c1 => ?_, fun c0 c1 c2 => ?_, fun c0 c1 c2 => ?_⟩
    all_goals first
    | (exfalso; omega)
    | exact ⟨rfl, rfl⟩
    | exact ⟨M1 (m + 4), len, why, left, hTR, by rw [← hr, show len - k = 0 by omega]; rfl, hmq⟩
