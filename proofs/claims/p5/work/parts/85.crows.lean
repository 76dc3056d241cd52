theorem cRo_k {w w' : jS} {r rs rt : Nat} {law f : Int} {s : Nat → Int} (h0 : w'.1 r = w.1 r) (h1 : w'.1 rs = w.1 rs) (h2 : w'.1 rt = w.1 rt) (h : cRo w r rs rt law f s) : cRo w' r rs rt law f s := by
  unfold cRo
  rw [h0, h1, h2]
  exact h
set_option maxHeartbeats 4000000 in
set_option maxRecDepth 20000 in
theorem C_fsame {w : jS} {a b : Nat} {u t u2 t2 : Int} (ha : w.2.1 a = (2, 0)) (hb : w.2.1 b = (2, 0)) (hu : w.1 a 0 = u) (ht : w.1 a 1 = t) (hu2 : w.1 b 0 = u2) (ht2 : w.1 b 1 = t2) (ru : -200000000000000000 ≤ u ∧ u ≤ 200000000000000000) (rt : -200000000000000000 ≤ t ∧ t ≤ 200000000000000000) (ru2 : -200000000000000000 ≤ u2 ∧ u2 ≤ 200000000000000000) (rt2 : -200000000000000000 ≤ t2 ∧ t2 ≤ 200000000000000000) : jCall 5 [jO a, jO b] w (jvb (u = u2 ∧ t = t2) w) := by
  have mt : jtb 5 = jT5 := rfl
  show jWp 5 0 [some (jO a), some (jO b)] [] 0 0 w _
  refine jWp.blk mt 1 ?_
  show _ ∧ jWp 5 1 [some (jO a), some (jO b)] [jO a] 0 0 w _
  refine ⟨rfl, ?_⟩
  refine jWp.getJ (pc' := 4) mt rfl rfl (jtg ha) ?_
  rw [show (w.1 a 0) = u from hu]
  show jWp 5 4 [some (jO a), some (jO b)] [jJ u] 0 0 w _
  refine jWp.blk mt 1 ?_
  show _ ∧ jWp 5 5 [some (jO a), some (jO b)] [jO b, jJ u] 0 0 w _
  refine ⟨rfl, ?_⟩
  refine jWp.getJ (pc' := 8) mt rfl rfl (jtg hb) ?_
  rw [show (w.1 b 0) = u2 from hu2]
  show jWp 5 8 [some (jO a), some (jO b)] [jJ u2, jJ u] 0 0 w _
  refine jWp.lcmp (pc' := 12) mt rfl rfl rfl (b64_id (by omega) (by omega)) (b64_id (by omega) (by omega)) (fun h1 => ?_) (fun h1 => ?_)
  · have h1 : u ≠ u2 := h1
    refine jWp.blk mt 1 ?_
    show jWp 5 29 [some (jO a), some (jO b)] [jI 0] 0 0 w _
    refine jWp.iretz mt rfl ⟨rfl, rfl⟩ rfl (Or.inl rfl) ?_
    first
    | exact Or.inl ⟨rfl, rfl, by assumption, by assumption⟩
    | exact Or.inr ⟨rfl, rfl, fun g => absurd g.1 (by assumption)⟩
    | exact Or.inr ⟨rfl, rfl, fun g => absurd g.2 (by assumption)⟩
  · have h1 : u = u2 := h1
    refine jWp.blk mt 1 ?_
    show _ ∧ jWp 5 13 [some (jO a), some (jO b)] [jO a] 0 0 w _
    refine ⟨rfl, ?_⟩
    refine jWp.getJ (pc' := 16) mt rfl rfl (jtg ha) ?_
    rw [show (w.1 a 1) = t from ht]
    show jWp 5 16 [some (jO a), some (jO b)] [jJ t] 0 0 w _
    refine jWp.blk mt 1 ?_
    show _ ∧ jWp 5 17 [some (jO a), some (jO b)] [jO b, jJ t] 0 0 w _
    refine ⟨rfl, ?_⟩
    refine jWp.getJ (pc' := 20) mt rfl rfl (jtg hb) ?_
    rw [show (w.1 b 1) = t2 from ht2]
    show jWp 5 20 [some (jO a), some (jO b)] [jJ t2, jJ t] 0 0 w _
    refine jWp.lcmp (pc' := 24) mt rfl rfl rfl (b64_id (by omega) (by omega)) (b64_id (by omega) (by omega)) (fun h2 => ?_) (fun h2 => ?_)
    · have h2 : t ≠ t2 := h2
      refine jWp.blk mt 1 ?_
      show jWp 5 29 [some (jO a), some (jO b)] [jI 0] 0 0 w _
      refine jWp.iretz mt rfl ⟨rfl, rfl⟩ rfl (Or.inl rfl) ?_
      first
      | exact Or.inl ⟨rfl, rfl, by assumption, by assumption⟩
      | exact Or.inr ⟨rfl, rfl, fun g => absurd g.1 (by assumption)⟩
      | exact Or.inr ⟨rfl, rfl, fun g => absurd g.2 (by assumption)⟩
    · have h2 : t = t2 := h2
      refine jWp.blk mt 2 ?_
      show jWp 5 29 [some (jO a), some (jO b)] [jI 1] 0 0 w _
      refine jWp.iretz mt rfl ⟨rfl, rfl⟩ rfl (Or.inr rfl) ?_
      first
      | exact Or.inl ⟨rfl, rfl, by assumption, by assumption⟩
      | exact Or.inr ⟨rfl, rfl, fun g => absurd g.1 (by assumption)⟩
      | exact Or.inr ⟨rfl, rfl, fun g => absurd g.2 (by assumption)⟩
theorem and_no {a b : Prop} (h : a ∧ b) : ¬ (¬ a ∨ ¬ b) := fun g => g.elim (fun z => z h.1) (fun z => z h.2)
theorem cq_t {w w1 w2 : jS} {x : Nat} (h : cq w x w1) (g : cq w1 x w2) : cq w x w2 := ⟨g.1.trans h.1, fun b h1 h2 h3 => (g.2 b h1 h2 h3).trans (h.2 b h1 h2 h3)⟩
set_option maxHeartbeats 4000000 in
set_option maxRecDepth 20000 in
theorem C_stays {w : jS} {x : Nat} (hX : CW w.2 x) {c : Nat} {R : Nat → Int} (hR : zRw R c) (hRW : cRW w x R c) {a : Int} (hra : r32 a) : jCall 97 [jO x, jI a] w (fun v w1 => ((¬ (0 ≤ a ∧ a < (c : Int))) → cno w x 0 (jI (-1)) v w1) ∧ (¬ (¬ (0 ≤ a ∧ a < (c : Int))) → ∃ (t : Nat → Int) (len : Nat) (why left : Int), zTR R a.toNat t len why left ∧ ((zkp (R (1 + 10 * a.toNat)) t len 0 ∧ v = some (jI (zfs (fun k => zkp (R (1 + 10 * a.toNat)) (t) len k) (fun k => (zu (zku (R (1 + 10 * a.toNat)) (R (2 + 10 * a.toNat)) (t) k) (zkd (R (1 + 10 * a.toNat)) (t) k)) ≠ (zu (zku (R (1 + 10 * a.toNat)) (R (2 + 10 * a.toNat)) (t) 0) (zkd (R (1 + 10 * a.toNat)) (t) 0)) ∨ (zv (zku (R (1 + 10 * a.toNat)) (R (2 + 10 * a.toNat)) (t) k) (zkd (R (1 + 10 * a.toNat)) (t) k)) ≠ (zv (zku (R (1 + 10 * a.toNat)) (R (2 + 10 * a.toNat)) (t) 0) (zkd (R (1 + 10 * a.toNat)) (t) 0))) 59 1)) ∧ cq w x w1) ∨ (¬ zkp (R (1 + 10 * a.toNat)) t len 0 ∧ cno w x 2 (jI (-3)) v w1)))) := by
  have mt : jtb 97 = jT97 := rfl
  have hc4 := hR.2.1
  have hra1 : -2147483648 ≤ a ∧ a < 2147483648 := hra
  show jWp 97 0 [some (jO x), some (jI a), none] [] 0 0 w _
  refine jWp.blk mt 2 ?_
  show _ ∧ jWp 97 2 [some (jO x), some (jI a), none] [jI a, jO x] 0 0 w _
  refine ⟨rfl, ?_⟩
  refine jWp.callv (as := [jO x, jI a]) (rest := []) mt rfl rfl rfl ⟨rfl, jtg hX.X0⟩ ?_
  refine jCall.mono (C_isRow (w := w) hX hRW.1 hR.2.1 hra) (fun v9 w9 h9 => ?_)
  rcases h9 with ⟨rfl, h9, h1⟩ | ⟨rfl, h9, h1⟩ <;> subst w9
  · have h1 : 0 ≤ a ∧ a < (c : Int) := h1
    show jWp 97 5 [some (jO x), some (jI a), none] [jI 1] 0 0 w _
    obtain ⟨a1, rfl⟩ : ∃ a1 : Nat, a = (a1 : Int) := ⟨a.toNat, by omega⟩
    show jWp 97 5 [some (jO x), some (jI (a1 : Int)), none] [jI 1] 0 0 w _
    obtain ⟨hlaw, hfig, hst, len, why, left, hlen, hwhy, hleft, hgr, hen⟩ := hRW.2 a1 (by omega)
    have hTR : zTR R a1 (w.1 (x + (365 + 6 * a1))) len why left := ⟨hgr, hen⟩
    have hTb := zTR_b hR (by omega) hTR
    have hRl := hR.2.2 a1 (by omega)
    show jWp 97 5 [some (jO x), some (jI (a1 : Int)), none] [jI 1] 0 0 w _
    refine jWp.ifc (b := true) mt rfl (by decide) rfl ?_
    show jWp 97 14 [some (jO x), some (jI (a1 : Int)), none] [] 0 0 w _
    refine jWp.blk mt 1 ?_
    show _ ∧ jWp 97 15 [some (jO x), some (jI (a1 : Int)), none] [jO x] 0 0 w _
    refine ⟨rfl, ?_⟩
    refine jWp.getR (pc' := 18) (o := (x + 1)) mt rfl rfl (jtg hX.X0) hX.R0 ?_
    show jWp 97 18 [some (jO x), some (jI (a1 : Int)), none] [jO (x + 1)] 0 0 w _
    refine jWp.blk mt 1 ?_
    show jWp 97 19 [some (jO x), some (jI (a1 : Int)), none] [jI (a1 : Int), jO (x + 1)] 0 0 w _
    refine jWp.aald (pc' := 20) (j := a1) (o := (x + (363 + 6 * a1))) mt rfl rfl (jrg hX.X1 (by decide) (by decide)) (by rw [b32_id (by omega) (by omega)] <;> omega) (jlt hX.X1 (by omega)) (hX.RR a1 (by omega)) ?_
    show jWp 97 20 [some (jO x), some (jI (a1 : Int)), none] [jO (x + (363 + 6 * a1))] 0 0 w _
    refine jWp.blk mt 2 ?_
    show _ ∧ jWp 97 22 [some (jO x), some (jI (a1 : Int)), none] [jO x, jI 0, jO (x + (363 + 6 * a1))] 0 0 w _
    refine ⟨rfl, ?_⟩
    refine jWp.getR (pc' := 25) (o := (x + 361)) mt rfl rfl (jtg hX.X0) hX.R13 ?_
    show jWp 97 25 [some (jO x), some (jI (a1 : Int)), none] [jO (x + 361), jI 0, jO (x + (363 + 6 * a1))] 0 0 w _
    refine jWp.callv (as := [jO (x + (363 + 6 * a1)), jI 0, jO (x + 361)]) (rest := []) mt rfl rfl rfl ⟨rfl, jtg (hX.KR a1 (by omega))⟩ ?_
    refine jCall.mono (C_keep (w := w) (r := x + (363 + 6 * a1)) (rt := x + (365 + 6 * a1)) (len := len) (hX.KR a1 (by omega)) (hX.KRt a1 (by omega)) (hX.RRt a1 (by omega)) hlen (by omega) hTb.2.2 (fk := x + 361) (n := 0) hX.X361 hlaw hfig hRl.1.1 hRl.1.2 hRl.2.1 (by omega)) (fun v9 w9 h9 => ?_)
    rcases h9 with ⟨rfl, hk0, hw9, hub0, hvb0⟩ | ⟨rfl, hk0, hw9⟩ <;> subst w9
    · have hk9' := hk0
      show jWp 97 28 [some (jO x), some (jI (a1 : Int)), none] [jI 1] 0 0 (jW (jW w (x + 361) 0 (zu (zku (R (1 + 10 * a1)) (R (2 + 10 * a1)) (w.1 (x + (365 + 6 * a1))) 0) (zkd (R (1 + 10 * a1)) (w.1 (x + (365 + 6 * a1))) 0))) (x + 361) 1 (zv (zku (R (1 + 10 * a1)) (R (2 + 10 * a1)) (w.1 (x + (365 + 6 * a1))) 0) (zkd (R (1 + 10 * a1)) (w.1 (x + (365 + 6 * a1))) 0))) _
      refine jWp.ifc (b := true) mt rfl (by decide) rfl ?_
      show jWp 97 38 [some (jO x), some (jI (a1 : Int)), none] [] 0 0 (jW (jW w (x + 361) 0 (zu (zku (R (1 + 10 * a1)) (R (2 + 10 * a1)) (w.1 (x + (365 + 6 * a1))) 0) (zkd (R (1 + 10 * a1)) (w.1 (x + (365 + 6 * a1))) 0))) (x + 361) 1 (zv (zku (R (1 + 10 * a1)) (R (2 + 10 * a1)) (w.1 (x + (365 + 6 * a1))) 0) (zkd (R (1 + 10 * a1)) (w.1 (x + (365 + 6 * a1))) 0))) _
      refine jWp.blk mt 2 ?_
      show jWp 97 40 [some (jO x), some (jI (a1 : Int)), some (jI 1)] [] 0 0 (jW (jW w (x + 361) 0 (zu (zku (R (1 + 10 * a1)) (R (2 + 10 * a1)) (w.1 (x + (365 + 6 * a1))) 0) (zkd (R (1 + 10 * a1)) (w.1 (x + (365 + 6 * a1))) 0))) (x + 361) 1 (zv (zku (R (1 + 10 * a1)) (R (2 + 10 * a1)) (w.1 (x + (365 + 6 * a1))) 0) (zkd (R (1 + 10 * a1)) (w.1 (x + (365 + 6 * a1))) 0))) _
      have lp2 : ∀ (N : Nat) (n : Nat) (M1 : Nat → Nat → Int) (hn : 1 ≤ n ∧ n ≤ 60) (hcq : cq w x ((M1, w.2) : jS)) (hro : M1 (x + (363 + 6 * a1)) = w.1 (x + (363 + 6 * a1))) (hrt : M1 (x + (365 + 6 * a1)) = w.1 (x + (365 + 6 * a1))) (hm0 : M1 (x + 361) 0 = (zu (zku (R (1 + 10 * a1)) (R (2 + 10 * a1)) (w.1 (x + (365 + 6 * a1))) 0) (zkd (R (1 + 10 * a1)) (w.1 (x + (365 + 6 * a1))) 0))) (hm1 : M1 (x + 361) 1 = (zv (zku (R (1 + 10 * a1)) (R (2 + 10 * a1)) (w.1 (x + (365 + 6 * a1))) 0) (zkd (R (1 + 10 * a1)) (w.1 (x + (365 + 6 * a1))) 0))) (hz : zfs (fun k => zkp (R (1 + 10 * a1)) (w.1 (x + (365 + 6 * a1))) len k) (fun k => (zu (zku (R (1 + 10 * a1)) (R (2 + 10 * a1)) (w.1 (x + (365 + 6 * a1))) k) (zkd (R (1 + 10 * a1)) (w.1 (x + (365 + 6 * a1))) k)) ≠ (zu (zku (R (1 + 10 * a1)) (R (2 + 10 * a1)) (w.1 (x + (365 + 6 * a1))) 0) (zkd (R (1 + 10 * a1)) (w.1 (x + (365 + 6 * a1))) 0)) ∨ (zv (zku (R (1 + 10 * a1)) (R (2 + 10 * a1)) (w.1 (x + (365 + 6 * a1))) k) (zkd (R (1 + 10 * a1)) (w.1 (x + (365 + 6 * a1))) k)) ≠ (zv (zku (R (1 + 10 * a1)) (R (2 + 10 * a1)) (w.1 (x + (365 + 6 * a1))) 0) (zkd (R (1 + 10 * a1)) (w.1 (x + (365 + 6 * a1))) 0))) (60 - n) n = zfs (fun k => zkp (R (1 + 10 * a1)) (w.1 (x + (365 + 6 * a1))) len k) (fun k => (zu (zku (R (1 + 10 * a1)) (R (2 + 10 * a1)) (w.1 (x + (365 + 6 * a1))) k) (zkd (R (1 + 10 * a1)) (w.1 (x + (365 + 6 * a1))) k)) ≠ (zu (zku (R (1 + 10 * a1)) (R (2 + 10 * a1)) (w.1 (x + (365 + 6 * a1))) 0) (zkd (R (1 + 10 * a1)) (w.1 (x + (365 + 6 * a1))) 0)) ∨ (zv (zku (R (1 + 10 * a1)) (R (2 + 10 * a1)) (w.1 (x + (365 + 6 * a1))) k) (zkd (R (1 + 10 * a1)) (w.1 (x + (365 + 6 * a1))) k)) ≠ (zv (zku (R (1 + 10 * a1)) (R (2 + 10 * a1)) (w.1 (x + (365 + 6 * a1))) 0) (zkd (R (1 + 10 * a1)) (w.1 (x + (365 + 6 * a1))) 0))) 59 1), 60 - n < N → jWp 97 40 [some (jO x), some (jI (a1 : Int)), some (jI (n : Int))] [] 0 0 (M1, w.2) (fun v w1 => ((¬ (0 ≤ (a1 : Int) ∧ (a1 : Int) < (c : Int))) → cno w x 0 (jI (-1)) v w1) ∧ (¬ (¬ (0 ≤ (a1 : Int) ∧ (a1 : Int) < (c : Int))) → ∃ (t : Nat → Int) (len : Nat) (why left : Int), zTR R (a1 : Int).toNat t len why left ∧ ((zkp (R (1 + 10 * (a1 : Int).toNat)) t len 0 ∧ v = some (jI (zfs (fun k => zkp (R (1 + 10 * (a1 : Int).toNat)) (t) len k) (fun k => (zu (zku (R (1 + 10 * (a1 : Int).toNat)) (R (2 + 10 * (a1 : Int).toNat)) (t) k) (zkd (R (1 + 10 * (a1 : Int).toNat)) (t) k)) ≠ (zu (zku (R (1 + 10 * (a1 : Int).toNat)) (R (2 + 10 * (a1 : Int).toNat)) (t) 0) (zkd (R (1 + 10 * (a1 : Int).toNat)) (t) 0)) ∨ (zv (zku (R (1 + 10 * (a1 : Int).toNat)) (R (2 + 10 * (a1 : Int).toNat)) (t) k) (zkd (R (1 + 10 * (a1 : Int).toNat)) (t) k)) ≠ (zv (zku (R (1 + 10 * (a1 : Int).toNat)) (R (2 + 10 * (a1 : Int).toNat)) (t) 0) (zkd (R (1 + 10 * (a1 : Int).toNat)) (t) 0))) 59 1)) ∧ cq w x w1) ∨ (¬ zkp (R (1 + 10 * (a1 : Int).toNat)) t len 0 ∧ cno w x 2 (jI (-3)) v w1)))) := by
        intro N
        induction N with
        | zero => intro n M1 hn hcq hro hrt hm0 hm1 hz hm; omega
        | succ N ih3 =>
          intro n M1 hn hcq hro hrt hm0 hm1 hz hm
          refine jWp.blk mt 2 ?_
          show jWp 97 43 [some (jO x), some (jI (a1 : Int)), some (jI (n : Int))] [jI 60, jI (n : Int)] 0 0 (M1, w.2) _
          refine jWp.icmp (pc' := 46) mt rfl rfl (b32_id (by omega) (by omega)) (show b32 60 = 60 by decide) (fun h4 => ?_) (fun h4 => ?_)
          · have h4 : 60 ≤ (n : Int) := h4
            refine jWp.blk mt 1 ?_
            show jWp 97 87 [some (jO x), some (jI (a1 : Int)), some (jI (n : Int))] [jI (-9)] 0 0 (M1, w.2) _
            refine jWp.ireti mt rfl ⟨rfl, rfl⟩ rfl ?_
            refine ⟨fun c0 => ?_, fun c0 => ?_⟩
            · exfalso; omega
            · exact ⟨_, len, why, left, hTR, Or.inl ⟨hk0, congrArg (fun z => some (jI z)) ((show (-9 : Int) = (zfs (fun k => zkp (R (1 + 10 * a1)) (w.1 (x + (365 + 6 * a1))) len k) (fun k => (zu (zku (R (1 + 10 * a1)) (R (2 + 10 * a1)) (w.1 (x + (365 + 6 * a1))) k) (zkd (R (1 + 10 * a1)) (w.1 (x + (365 + 6 * a1))) k)) ≠ (zu (zku (R (1 + 10 * a1)) (R (2 + 10 * a1)) (w.1 (x + (365 + 6 * a1))) 0) (zkd (R (1 + 10 * a1)) (w.1 (x + (365 + 6 * a1))) 0)) ∨ (zv (zku (R (1 + 10 * a1)) (R (2 + 10 * a1)) (w.1 (x + (365 + 6 * a1))) k) (zkd (R (1 + 10 * a1)) (w.1 (x + (365 + 6 * a1))) k)) ≠ (zv (zku (R (1 + 10 * a1)) (R (2 + 10 * a1)) (w.1 (x + (365 + 6 * a1))) 0) (zkd (R (1 + 10 * a1)) (w.1 (x + (365 + 6 * a1))) 0))) (60 - n) n) from by first | (rw [show 60 - n = 0 by omega]; rfl) | exact (zfs_n hk9).symm).trans hz), hcq⟩⟩
          · have h4 : (n : Int) < 60 := h4
            refine jWp.blk mt 1 ?_
            show _ ∧ jWp 97 47 [some (jO x), some (jI (a1 : Int)), some (jI (n : Int))] [jO x] 0 0 (M1, w.2) _
            refine ⟨rfl, ?_⟩
            refine jWp.getR (pc' := 50) (o := (x + 1)) mt rfl rfl (jtg hX.X0) hX.R0 ?_
            show jWp 97 50 [some (jO x), some (jI (a1 : Int)), some (jI (n : Int))] [jO (x + 1)] 0 0 (M1, w.2) _
            refine jWp.blk mt 1 ?_
            show jWp 97 51 [some (jO x), some (jI (a1 : Int)), some (jI (n : Int))] [jI (a1 : Int), jO (x + 1)] 0 0 (M1, w.2) _
            refine jWp.aald (pc' := 52) (j := a1) (o := (x + (363 + 6 * a1))) mt rfl rfl (jrg hX.X1 (by decide) (by decide)) (by rw [b32_id (by omega) (by omega)] <;> omega) (jlt hX.X1 (by omega)) (hX.RR a1 (by omega)) ?_
            show jWp 97 52 [some (jO x), some (jI (a1 : Int)), some (jI (n : Int))] [jO (x + (363 + 6 * a1))] 0 0 (M1, w.2) _
            refine jWp.blk mt 2 ?_
            show _ ∧ jWp 97 54 [some (jO x), some (jI (a1 : Int)), some (jI (n : Int))] [jO x, jI (n : Int), jO (x + (363 + 6 * a1))] 0 0 (M1, w.2) _
            refine ⟨rfl, ?_⟩
            refine jWp.getR (pc' := 57) (o := (x + 360)) mt rfl rfl (jtg hX.X0) hX.R12 ?_
            show jWp 97 57 [some (jO x), some (jI (a1 : Int)), some (jI (n : Int))] [jO (x + 360), jI (n : Int), jO (x + (363 + 6 * a1))] 0 0 (M1, w.2) _
            refine jWp.callv (as := [jO (x + (363 + 6 * a1)), jI (n : Int), jO (x + 360)]) (rest := []) mt rfl rfl rfl ⟨rfl, jtg (hX.KR a1 (by omega))⟩ ?_
            refine jCall.mono ((by have h := C_keep (w := (M1, w.2)) (r := x + (363 + 6 * a1)) (rt := x + (365 + 6 * a1)) (len := len) (hX.KR a1 (by omega)) (hX.KRt a1 (by omega)) (hX.RRt a1 (by omega)) ((congrFun hro 2).trans hlen) (by omega) (fun j hj => by rw [show ((M1, w.2) : jS).1 (x + (365 + 6 * a1)) = w.1 (x + (365 + 6 * a1)) from hrt]; exact hTb.2.2 j hj) (fk := x + 360) (n := n) hX.X360 ((congrFun hro 0).trans hlaw) ((congrFun hro 1).trans hfig) hRl.1.1 hRl.1.2 hRl.2.1 (by omega); rw [show ((M1, w.2) : jS).1 (x + (365 + 6 * a1)) = w.1 (x + (365 + 6 * a1)) from hrt] at h; exact h)) (fun v9 w9 h9 => ?_)
            rcases h9 with ⟨rfl, hk9, hw9, hub, hvb⟩ | ⟨rfl, hk9, hw9⟩ <;> subst w9
            · have hk9' := hk9
              show jWp 97 60 [some (jO x), some (jI (a1 : Int)), some (jI (n : Int))] [jI 1] 0 0 (jW (jW (M1, w.2) (x + 360) 0 (zu (zku (R (1 + 10 * a1)) (R (2 + 10 * a1)) (w.1 (x + (365 + 6 * a1))) n) (zkd (R (1 + 10 * a1)) (w.1 (x + (365 + 6 * a1))) n))) (x + 360) 1 (zv (zku (R (1 + 10 * a1)) (R (2 + 10 * a1)) (w.1 (x + (365 + 6 * a1))) n) (zkd (R (1 + 10 * a1)) (w.1 (x + (365 + 6 * a1))) n))) _
              refine jWp.ifc (b := false) mt rfl (by decide) rfl ?_
              show jWp 97 63 [some (jO x), some (jI (a1 : Int)), some (jI (n : Int))] [] 0 0 (jW (jW (M1, w.2) (x + 360) 0 (zu (zku (R (1 + 10 * a1)) (R (2 + 10 * a1)) (w.1 (x + (365 + 6 * a1))) n) (zkd (R (1 + 10 * a1)) (w.1 (x + (365 + 6 * a1))) n))) (x + 360) 1 (zv (zku (R (1 + 10 * a1)) (R (2 + 10 * a1)) (w.1 (x + (365 + 6 * a1))) n) (zkd (R (1 + 10 * a1)) (w.1 (x + (365 + 6 * a1))) n))) _
              refine jWp.blk mt 1 ?_
              show _ ∧ jWp 97 64 [some (jO x), some (jI (a1 : Int)), some (jI (n : Int))] [jO x] 0 0 (jW (jW (M1, w.2) (x + 360) 0 (zu (zku (R (1 + 10 * a1)) (R (2 + 10 * a1)) (w.1 (x + (365 + 6 * a1))) n) (zkd (R (1 + 10 * a1)) (w.1 (x + (365 + 6 * a1))) n))) (x + 360) 1 (zv (zku (R (1 + 10 * a1)) (R (2 + 10 * a1)) (w.1 (x + (365 + 6 * a1))) n) (zkd (R (1 + 10 * a1)) (w.1 (x + (365 + 6 * a1))) n))) _
              refine ⟨rfl, ?_⟩
              refine jWp.getR (pc' := 67) (o := (x + 360)) mt rfl rfl (jtg hX.X0) hX.R12 ?_
              show jWp 97 67 [some (jO x), some (jI (a1 : Int)), some (jI (n : Int))] [jO (x + 360)] 0 0 (jW (jW (M1, w.2) (x + 360) 0 (zu (zku (R (1 + 10 * a1)) (R (2 + 10 * a1)) (w.1 (x + (365 + 6 * a1))) n) (zkd (R (1 + 10 * a1)) (w.1 (x + (365 + 6 * a1))) n))) (x + 360) 1 (zv (zku (R (1 + 10 * a1)) (R (2 + 10 * a1)) (w.1 (x + (365 + 6 * a1))) n) (zkd (R (1 + 10 * a1)) (w.1 (x + (365 + 6 * a1))) n))) _
              refine jWp.blk mt 1 ?_
              show _ ∧ jWp 97 68 [some (jO x), some (jI (a1 : Int)), some (jI (n : Int))] [jO x, jO (x + 360)] 0 0 (jW (jW (M1, w.2) (x + 360) 0 (zu (zku (R (1 + 10 * a1)) (R (2 + 10 * a1)) (w.1 (x + (365 + 6 * a1))) n) (zkd (R (1 + 10 * a1)) (w.1 (x + (365 + 6 * a1))) n))) (x + 360) 1 (zv (zku (R (1 + 10 * a1)) (R (2 + 10 * a1)) (w.1 (x + (365 + 6 * a1))) n) (zkd (R (1 + 10 * a1)) (w.1 (x + (365 + 6 * a1))) n))) _
              refine ⟨rfl, ?_⟩
              refine jWp.getR (pc' := 71) (o := (x + 361)) mt rfl rfl (jtg hX.X0) hX.R13 ?_
              show jWp 97 71 [some (jO x), some (jI (a1 : Int)), some (jI (n : Int))] [jO (x + 361), jO (x + 360)] 0 0 (jW (jW (M1, w.2) (x + 360) 0 (zu (zku (R (1 + 10 * a1)) (R (2 + 10 * a1)) (w.1 (x + (365 + 6 * a1))) n) (zkd (R (1 + 10 * a1)) (w.1 (x + (365 + 6 * a1))) n))) (x + 360) 1 (zv (zku (R (1 + 10 * a1)) (R (2 + 10 * a1)) (w.1 (x + (365 + 6 * a1))) n) (zkd (R (1 + 10 * a1)) (w.1 (x + (365 + 6 * a1))) n))) _
              refine jWp.callv (as := [jO (x + 360), jO (x + 361)]) (rest := []) mt rfl rfl rfl ⟨rfl, jtg hX.X360⟩ ?_
              refine jCall.mono (C_fsame (w := (jW (jW (M1, w.2) (x + 360) 0 (zu (zku (R (1 + 10 * a1)) (R (2 + 10 * a1)) (w.1 (x + (365 + 6 * a1))) n) (zkd (R (1 + 10 * a1)) (w.1 (x + (365 + 6 * a1))) n))) (x + 360) 1 (zv (zku (R (1 + 10 * a1)) (R (2 + 10 * a1)) (w.1 (x + (365 + 6 * a1))) n) (zkd (R (1 + 10 * a1)) (w.1 (x + (365 + 6 * a1))) n)))) (a := x + 360) (b := x + 361) hX.X360 hX.X361 ((jW_k (by decide)).trans jW_s) jW_s ((jW_a (by omega)).trans ((jW_a (by omega)).trans hm0)) ((jW_a (by omega)).trans ((jW_a (by omega)).trans hm1)) hub ⟨by omega, hvb.2⟩ hub0 ⟨by omega, hvb0.2⟩) (fun v9 w9 h9 => ?_)
              rcases h9 with ⟨rfl, h9, h5⟩ | ⟨rfl, h9, h5⟩ <;> subst w9
              · have h5 : (zu (zku (R (1 + 10 * a1)) (R (2 + 10 * a1)) (w.1 (x + (365 + 6 * a1))) n) (zkd (R (1 + 10 * a1)) (w.1 (x + (365 + 6 * a1))) n)) = (zu (zku (R (1 + 10 * a1)) (R (2 + 10 * a1)) (w.1 (x + (365 + 6 * a1))) 0) (zkd (R (1 + 10 * a1)) (w.1 (x + (365 + 6 * a1))) 0)) ∧ (zv (zku (R (1 + 10 * a1)) (R (2 + 10 * a1)) (w.1 (x + (365 + 6 * a1))) n) (zkd (R (1 + 10 * a1)) (w.1 (x + (365 + 6 * a1))) n)) = (zv (zku (R (1 + 10 * a1)) (R (2 + 10 * a1)) (w.1 (x + (365 + 6 * a1))) 0) (zkd (R (1 + 10 * a1)) (w.1 (x + (365 + 6 * a1))) 0)) := h5
                show jWp 97 74 [some (jO x), some (jI (a1 : Int)), some (jI (n : Int))] [jI 1] 0 0 (jW (jW (M1, w.2) (x + 360) 0 (zu (zku (R (1 + 10 * a1)) (R (2 + 10 * a1)) (w.1 (x + (365 + 6 * a1))) n) (zkd (R (1 + 10 * a1)) (w.1 (x + (365 + 6 * a1))) n))) (x + 360) 1 (zv (zku (R (1 + 10 * a1)) (R (2 + 10 * a1)) (w.1 (x + (365 + 6 * a1))) n) (zkd (R (1 + 10 * a1)) (w.1 (x + (365 + 6 * a1))) n))) _
                refine jWp.ifc (b := true) mt rfl (by decide) rfl ?_
                show jWp 97 79 [some (jO x), some (jI (a1 : Int)), some (jI (n : Int))] [] 0 0 (jW (jW (M1, w.2) (x + 360) 0 (zu (zku (R (1 + 10 * a1)) (R (2 + 10 * a1)) (w.1 (x + (365 + 6 * a1))) n) (zkd (R (1 + 10 * a1)) (w.1 (x + (365 + 6 * a1))) n))) (x + 360) 1 (zv (zku (R (1 + 10 * a1)) (R (2 + 10 * a1)) (w.1 (x + (365 + 6 * a1))) n) (zkd (R (1 + 10 * a1)) (w.1 (x + (365 + 6 * a1))) n))) _
                refine jWp.blk mt 2 ?_
                show jWp 97 40 [some (jO x), some (jI (a1 : Int)), some (jI ((n : Int) + 1))] [] 0 0 (jW (jW (M1, w.2) (x + 360) 0 (zu (zku (R (1 + 10 * a1)) (R (2 + 10 * a1)) (w.1 (x + (365 + 6 * a1))) n) (zkd (R (1 + 10 * a1)) (w.1 (x + (365 + 6 * a1))) n))) (x + 360) 1 (zv (zku (R (1 + 10 * a1)) (R (2 + 10 * a1)) (w.1 (x + (365 + 6 * a1))) n) (zkd (R (1 + 10 * a1)) (w.1 (x + (365 + 6 * a1))) n))) _
                refine jWp.le (l := [some (jO x), some (jI (a1 : Int)), some (jI ((n : Int) + 1))]) (by exact ⟨rfl, rfl, rfl, trivial⟩) ?_
                exact ih3 (n + 1) (jW (jW (M1, w.2) (x + 360) 0 (zu (zku (R (1 + 10 * a1)) (R (2 + 10 * a1)) (w.1 (x + (365 + 6 * a1))) n) (zkd (R (1 + 10 * a1)) (w.1 (x + (365 + 6 * a1))) n))) (x + 360) 1 (zv (zku (R (1 + 10 * a1)) (R (2 + 10 * a1)) (w.1 (x + (365 + 6 * a1))) n) (zkd (R (1 + 10 * a1)) (w.1 (x + (365 + 6 * a1))) n))).1 (by omega) (cq_t hcq ⟨rfl, fun z g1 g2 g3 => (jW_f g2).trans (jW_f g2)⟩) ((jW_f (by omega)).trans ((jW_f (by omega)).trans hro)) ((jW_f (by omega)).trans ((jW_f (by omega)).trans hrt)) ((jW_a (by omega)).trans ((jW_a (by omega)).trans hm0)) ((jW_a (by omega)).trans ((jW_a (by omega)).trans hm1)) (by rw [← hz, show 60 - n = (60 - (n + 1)) + 1 by omega, zfs_f hk9 (and_no (by assumption))]) (by omega)
              · have h5 : ¬ ((zu (zku (R (1 + 10 * a1)) (R (2 + 10 * a1)) (w.1 (x + (365 + 6 * a1))) n) (zkd (R (1 + 10 * a1)) (w.1 (x + (365 + 6 * a1))) n)) = (zu (zku (R (1 + 10 * a1)) (R (2 + 10 * a1)) (w.1 (x + (365 + 6 * a1))) 0) (zkd (R (1 + 10 * a1)) (w.1 (x + (365 + 6 * a1))) 0)) ∧ (zv (zku (R (1 + 10 * a1)) (R (2 + 10 * a1)) (w.1 (x + (365 + 6 * a1))) n) (zkd (R (1 + 10 * a1)) (w.1 (x + (365 + 6 * a1))) n)) = (zv (zku (R (1 + 10 * a1)) (R (2 + 10 * a1)) (w.1 (x + (365 + 6 * a1))) 0) (zkd (R (1 + 10 * a1)) (w.1 (x + (365 + 6 * a1))) 0))) := h5
                show jWp 97 74 [some (jO x), some (jI (a1 : Int)), some (jI (n : Int))] [jI 0] 0 0 (jW (jW (M1, w.2) (x + 360) 0 (zu (zku (R (1 + 10 * a1)) (R (2 + 10 * a1)) (w.1 (x + (365 + 6 * a1))) n) (zkd (R (1 + 10 * a1)) (w.1 (x + (365 + 6 * a1))) n))) (x + 360) 1 (zv (zku (R (1 + 10 * a1)) (R (2 + 10 * a1)) (w.1 (x + (365 + 6 * a1))) n) (zkd (R (1 + 10 * a1)) (w.1 (x + (365 + 6 * a1))) n))) _
                refine jWp.ifc (b := false) mt rfl (by decide) rfl ?_
                show jWp 97 77 [some (jO x), some (jI (a1 : Int)), some (jI (n : Int))] [] 0 0 (jW (jW (M1, w.2) (x + 360) 0 (zu (zku (R (1 + 10 * a1)) (R (2 + 10 * a1)) (w.1 (x + (365 + 6 * a1))) n) (zkd (R (1 + 10 * a1)) (w.1 (x + (365 + 6 * a1))) n))) (x + 360) 1 (zv (zku (R (1 + 10 * a1)) (R (2 + 10 * a1)) (w.1 (x + (365 + 6 * a1))) n) (zkd (R (1 + 10 * a1)) (w.1 (x + (365 + 6 * a1))) n))) _
                refine jWp.blk mt 1 ?_
                show jWp 97 78 [some (jO x), some (jI (a1 : Int)), some (jI (n : Int))] [jI (n : Int)] 0 0 (jW (jW (M1, w.2) (x + 360) 0 (zu (zku (R (1 + 10 * a1)) (R (2 + 10 * a1)) (w.1 (x + (365 + 6 * a1))) n) (zkd (R (1 + 10 * a1)) (w.1 (x + (365 + 6 * a1))) n))) (x + 360) 1 (zv (zku (R (1 + 10 * a1)) (R (2 + 10 * a1)) (w.1 (x + (365 + 6 * a1))) n) (zkd (R (1 + 10 * a1)) (w.1 (x + (365 + 6 * a1))) n))) _
                refine jWp.ireti mt rfl ⟨rfl, rfl⟩ rfl ?_
                refine ⟨fun c0 => ?_, fun c0 => ?_⟩
                · exfalso; omega
                · exact ⟨_, len, why, left, hTR, Or.inl ⟨hk0, congrArg (fun z => some (jI z)) ((show (n : Int) = (zfs (fun k => zkp (R (1 + 10 * a1)) (w.1 (x + (365 + 6 * a1))) len k) (fun k => (zu (zku (R (1 + 10 * a1)) (R (2 + 10 * a1)) (w.1 (x + (365 + 6 * a1))) k) (zkd (R (1 + 10 * a1)) (w.1 (x + (365 + 6 * a1))) k)) ≠ (zu (zku (R (1 + 10 * a1)) (R (2 + 10 * a1)) (w.1 (x + (365 + 6 * a1))) 0) (zkd (R (1 + 10 * a1)) (w.1 (x + (365 + 6 * a1))) 0)) ∨ (zv (zku (R (1 + 10 * a1)) (R (2 + 10 * a1)) (w.1 (x + (365 + 6 * a1))) k) (zkd (R (1 + 10 * a1)) (w.1 (x + (365 + 6 * a1))) k)) ≠ (zv (zku (R (1 + 10 * a1)) (R (2 + 10 * a1)) (w.1 (x + (365 + 6 * a1))) 0) (zkd (R (1 + 10 * a1)) (w.1 (x + (365 + 6 * a1))) 0))) (60 - n) n) from by rw [show 60 - n = (59 - n) + 1 by omega]; exact (zfs_t hk9 (Classical.not_and_iff_not_or_not.mp (by assumption))).symm).trans hz), cq_t hcq ⟨rfl, fun z g1 g2 g3 => (jW_f g2).trans (jW_f g2)⟩⟩⟩
            · have hk9' := hk9
              show jWp 97 60 [some (jO x), some (jI (a1 : Int)), some (jI (n : Int))] [jI 0] 0 0 (M1, w.2) _
              refine jWp.ifc (b := true) mt rfl (by decide) rfl ?_
              show jWp 97 85 [some (jO x), some (jI (a1 : Int)), some (jI (n : Int))] [] 0 0 (M1, w.2) _
              refine jWp.blk mt 1 ?_
              show jWp 97 87 [some (jO x), some (jI (a1 : Int)), some (jI (n : Int))] [jI (-9)] 0 0 (M1, w.2) _
              refine jWp.ireti mt rfl ⟨rfl, rfl⟩ rfl ?_
              refine ⟨fun c0 => ?_, fun c0 => ?_⟩
              · exfalso; omega
              · exact ⟨_, len, why, left, hTR, Or.inl ⟨hk0, congrArg (fun z => some (jI z)) ((show (-9 : Int) = (zfs (fun k => zkp (R (1 + 10 * a1)) (w.1 (x + (365 + 6 * a1))) len k) (fun k => (zu (zku (R (1 + 10 * a1)) (R (2 + 10 * a1)) (w.1 (x + (365 + 6 * a1))) k) (zkd (R (1 + 10 * a1)) (w.1 (x + (365 + 6 * a1))) k)) ≠ (zu (zku (R (1 + 10 * a1)) (R (2 + 10 * a1)) (w.1 (x + (365 + 6 * a1))) 0) (zkd (R (1 + 10 * a1)) (w.1 (x + (365 + 6 * a1))) 0)) ∨ (zv (zku (R (1 + 10 * a1)) (R (2 + 10 * a1)) (w.1 (x + (365 + 6 * a1))) k) (zkd (R (1 + 10 * a1)) (w.1 (x + (365 + 6 * a1))) k)) ≠ (zv (zku (R (1 + 10 * a1)) (R (2 + 10 * a1)) (w.1 (x + (365 + 6 * a1))) 0) (zkd (R (1 + 10 * a1)) (w.1 (x + (365 + 6 * a1))) 0))) (60 - n) n) from by first | (rw [show 60 - n = 0 by omega]; rfl) | exact (zfs_n hk9).symm).trans hz), hcq⟩⟩
      refine jWp.le (l := [some (jO x), some (jI (a1 : Int)), some (jI 1)]) (by exact ⟨rfl, rfl, rfl, trivial⟩) ?_
      exact lp2 _ 1 (jW (jW w (x + 361) 0 (zu (zku (R (1 + 10 * a1)) (R (2 + 10 * a1)) (w.1 (x + (365 + 6 * a1))) 0) (zkd (R (1 + 10 * a1)) (w.1 (x + (365 + 6 * a1))) 0))) (x + 361) 1 (zv (zku (R (1 + 10 * a1)) (R (2 + 10 * a1)) (w.1 (x + (365 + 6 * a1))) 0) (zkd (R (1 + 10 * a1)) (w.1 (x + (365 + 6 * a1))) 0))).1 (by omega) ⟨rfl, fun z g1 g2 g3 => (jW_f g3).trans (jW_f g3)⟩ ((jW_f (by omega)).trans (jW_f (by omega))) ((jW_f (by omega)).trans (jW_f (by omega))) ((jW_k (by decide)).trans jW_s) jW_s rfl (Nat.lt_succ_self _)
    · have hk9' := hk0
      show jWp 97 28 [some (jO x), some (jI (a1 : Int)), none] [jI 0] 0 0 w _
      refine jWp.ifc (b := false) mt rfl (by decide) rfl ?_
      show jWp 97 31 [some (jO x), some (jI (a1 : Int)), none] [] 0 0 w _
      refine jWp.blk mt 2 ?_
      show _ ∧ jWp 97 34 [some (jO x), some (jI (a1 : Int)), none] [jI (-3), jO x] 0 0 w _
      refine ⟨rfl, ?_⟩
      refine jWp.callv (as := [jO x, jI (-3)]) (rest := []) mt rfl rfl rfl ⟨rfl, jtg hX.X0⟩ ?_
      refine jCall.mono (C_refuse (w := w) (j := 2) hX (by decide) (by decide)) (fun v9 w9 h9 => ?_)
      obtain ⟨rfl, h9⟩ := h9
      subst h9
      show jWp 97 37 [some (jO x), some (jI (a1 : Int)), none] [jI (-3)] 0 0 (jW w (x + 362) 2 ((w.1 (x + 362) 2) + 1)) _
      refine jWp.ireti mt rfl ⟨rfl, rfl⟩ rfl ?_
      refine ⟨fun c0 => ?_, fun c0 => ?_⟩
      all_goals first
      | (exfalso; omega)
      | exact ⟨rfl, rfl⟩
      | exact ⟨_, len, why, left, hTR, Or.inr ⟨hk0, rfl, rfl⟩⟩
  · have h1 : ¬ (0 ≤ a ∧ a < (c : Int)) := h1
    show jWp 97 5 [some (jO x), some (jI a), none] [jI 0] 0 0 w _
    refine jWp.ifc (b := false) mt rfl (by decide) rfl ?_
    show jWp 97 8 [some (jO x), some (jI a), none] [] 0 0 w _
    refine jWp.blk mt 2 ?_
    show _ ∧ jWp 97 10 [some (jO x), some (jI a), none] [jI (-1), jO x] 0 0 w _
    refine ⟨rfl, ?_⟩
    refine jWp.callv (as := [jO x, jI (-1)]) (rest := []) mt rfl rfl rfl ⟨rfl, jtg hX.X0⟩ ?_
    refine jCall.mono (C_refuse (w := w) (j := 0) hX (by decide) (by decide)) (fun v9 w9 h9 => ?_)
    obtain ⟨rfl, h9⟩ := h9
    subst h9
    show jWp 97 13 [some (jO x), some (jI a), none] [jI (-1)] 0 0 (jW w (x + 362) 0 ((w.1 (x + 362) 0) + 1)) _
    refine jWp.ireti mt rfl ⟨rfl, rfl⟩ rfl ?_
    refine ⟨fun c0 => ?_, fun c0 => ?_⟩
    all_goals first
    | (exfalso; omega)
    | exact ⟨rfl, rfl⟩
    | exact ⟨_, len, why, left, hTR, Or.inr ⟨hk0, rfl, rfl⟩⟩
