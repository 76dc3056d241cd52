theorem jOK_W {w : jS} {a k : Nat} {x : Int} (h : jOK w) (ha : a ≠ w.2.2.2.2) : jOK (jW w a k x) := ⟨h.1, fun j => (jW_a (Ne.symm ha)).trans (h.2 j)⟩
theorem jOK_A {w : jS} {a : Nat} {T : Nat → Int} (h : jOK w) (ha : a ≠ w.2.2.2.2) : jOK (kA w a T) := ⟨h.1, fun j => (kA_a (Ne.symm ha)).trans (h.2 j)⟩
theorem jOK_M {w : jS} {N : Nat → Nat → Int} (h : jOK w) (ha : N w.2.2.2.2 = w.1 w.2.2.2.2) : jOK (N, w.2) := ⟨h.1, fun j => (congrFun ha j).trans (h.2 j)⟩
set_option maxHeartbeats 4000000 in
set_option maxRecDepth 20000 in
theorem E_ord {w : jS} {r : Nat} (hkr : w.2.1 r = (4, 0)) (hO : jOK w) {law : Int} (hlaw : w.1 r 0 = law) (hl0 : 0 ≤ law) (hl6 : law ≤ 6) : jCall 18 [jO r] w (jvi (zO law) w) := by
  have mt : jtb 18 = jT18 := rfl
  show jWp 18 0 [some (jO r)] [] 0 0 w _
  refine jWp.blk mt 1 ?_
  show _ ∧ jWp 18 1 [some (jO r)] [jO r] 0 0 w _
  refine ⟨rfl, ?_⟩
  refine jWp.getI (pc' := 4) mt rfl rfl (jtg hkr) ?_
  rw [show (w.1 r 0) = law from hlaw]
  show jWp 18 4 [some (jO r)] [jI law] 0 0 w _
  refine jWp.calls (as := [jI law]) (rest := []) mt rfl rfl rfl rfl ?_
  refine jCall.mono (E_orderOf hO hl0 hl6) (fun v9 w9 h9 => ?_)
  obtain ⟨rfl, h9⟩ := h9
  subst w9
  show jWp 18 7 [some (jO r)] [jI (zO law)] 0 0 w _
  refine jWp.ireti mt rfl ⟨rfl, rfl⟩ rfl ?_
  exact ⟨rfl, rfl⟩
theorem zGr_tm {law f : Int} {s t : Nat → Int} {len : Nat} (h0 : 0 ≤ law) (h6 : law ≤ 6) (hf : 0 ≤ f ∧ f ≤ 9) (hs : ∀ y, y < 8 → 1 ≤ s y ∧ s y ≤ 9) (h : zGr law f s t len) : 0 ≤ Int.tmod (zP law f t len) (zD law t len) := by
  by_cases e : law = 0
  · unfold zD
    rw [if_pos e, Int.tmod_one]
    exact Int.le_refl 0
  · have p := zP_p (t := t) (n := len) (by omega : 1 ≤ law) h6 hf.1 h.1 (fun j hj => zGr_p (by omega) h6 hf.1 hs h (j + 1) j (by omega) hj)
    exact Int.tmod_nonneg _ (by omega)
set_option maxHeartbeats 4000000 in
set_option maxRecDepth 20000 in
theorem C_extend {w : jS} {r rs rt : Nat} (hkr : w.2.1 r = (4, 0)) (hks : w.2.1 rs = (100, 8)) (hkt : w.2.1 rt = (100, 60)) (hrs : w.2.2.1 r 5 = some rs) (hrt : w.2.2.1 r 6 = some rt) (hO : jOK w) {law f : Int} (hlaw : w.1 r 0 = law) (hl0 : 0 ≤ law) (hl6 : law ≤ 6) (hfig : w.1 r 1 = f) (hf : 0 ≤ f ∧ f ≤ 9) {s : Nat → Int} {len : Nat} (hs : ∀ y, y < 8 → 1 ≤ s y ∧ s y ≤ 9) (hG : zGr law f s (w.1 rt) len) (hl60 : len < 60) : jCall 21 [jO r, jI (len : Int)] w (fun v w1 => (v = some (jI 1) ∧ w1 = jW w rt len (Int.tdiv (zP law f (w.1 rt) len) (zD law (w.1 rt) len)) ∧ (Int.tmod (zP law f (w.1 rt) len) (zD law (w.1 rt) len)) = 0 ∧ -100000000 ≤ (Int.tdiv (zP law f (w.1 rt) len) (zD law (w.1 rt) len)) ∧ (Int.tdiv (zP law f (w.1 rt) len) (zD law (w.1 rt) len)) ≤ 100000000) ∨ (v = some (jI 0) ∧ w1 = jW (jW w r 3 1) r 4 (Int.tmod (zP law f (w.1 rt) len) (zD law (w.1 rt) len)) ∧ (Int.tmod (zP law f (w.1 rt) len) (zD law (w.1 rt) len)) ≠ 0) ∨ (v = some (jI 0) ∧ w1 = jW w r 3 2 ∧ (Int.tmod (zP law f (w.1 rt) len) (zD law (w.1 rt) len)) = 0 ∧ ¬ (-100000000 ≤ (Int.tdiv (zP law f (w.1 rt) len) (zD law (w.1 rt) len)) ∧ (Int.tdiv (zP law f (w.1 rt) len) (zD law (w.1 rt) len)) ≤ 100000000))) := by
  have mt : jtb 21 = jT21 := rfl
  have hnr1 : r ≠ rs := kne hkr hks (by decide)
  have hnr2 : r ≠ rt := kne hkr hkt (by decide)
  have hnr3 : rs ≠ rt := kne2 hks hkt (by decide)
  have hao1 : r ≠ w.2.2.2.2 := kne hkr hO.1 (by decide)
  have hao2 : rs ≠ w.2.2.2.2 := kne hks hO.1 (by decide)
  have hao3 : rt ≠ w.2.2.2.2 := kne hkt hO.1 (by decide)
  have hgb := zGr_b hl0 hl6 hs hG
  have hst := zGr_s hl0 hl6 hf hs hG
  have hdm := zdm hst.1 hst.2
  have htm := zGr_tm hl0 hl6 hf hs hG
  have hjt : jabs (Int.tmod (zP law f (w.1 rt) len) (zD law (w.1 rt) len)) = (Int.tmod (zP law f (w.1 rt) len) (zD law (w.1 rt) len)) := by unfold jabs; rw [if_pos htm]
  have hja : jabs (Int.tdiv (zP law f (w.1 rt) len) (zD law (w.1 rt) len)) = if 0 ≤ (Int.tdiv (zP law f (w.1 rt) len) (zD law (w.1 rt) len)) then (Int.tdiv (zP law f (w.1 rt) len) (zD law (w.1 rt) len)) else 0 - (Int.tdiv (zP law f (w.1 rt) len) (zD law (w.1 rt) len)) := rfl
  show jWp 21 0 [some (jO r), some (jI (len : Int)), none, none, none, none, none, none] [] 0 0 w _
  refine jWp.blk mt 1 ?_
  show _ ∧ jWp 21 1 [some (jO r), some (jI (len : Int)), none, none, none, none, none, none] [jO r] 0 0 w _
  refine ⟨rfl, ?_⟩
  refine jWp.getI (pc' := 4) mt rfl rfl (jtg hkr) ?_
  rw [show (w.1 r 0) = law from hlaw]
  show jWp 21 4 [some (jO r), some (jI (len : Int)), none, none, none, none, none, none] [jI law] 0 0 w _
  refine jWp.blk mt 1 ?_
  show _ ∧ jWp 21 5 [some (jO r), some (jI (len : Int)), none, none, none, none, none, none] [jO r, jI law] 0 0 w _
  refine ⟨rfl, ?_⟩
  refine jWp.getI (pc' := 8) mt rfl rfl (jtg hkr) ?_
  rw [show (w.1 r 1) = f from hfig]
  show jWp 21 8 [some (jO r), some (jI (len : Int)), none, none, none, none, none, none] [jI f, jI law] 0 0 w _
  refine jWp.blk mt 1 ?_
  show _ ∧ jWp 21 9 [some (jO r), some (jI (len : Int)), none, none, none, none, none, none] [jO r, jI f, jI law] 0 0 w _
  refine ⟨rfl, ?_⟩
  refine jWp.getR (pc' := 12) (o := rt) mt rfl rfl (jtg hkr) hrt ?_
  show jWp 21 12 [some (jO r), some (jI (len : Int)), none, none, none, none, none, none] [jO rt, jI f, jI law] 0 0 w _
  refine jWp.blk mt 1 ?_
  show jWp 21 13 [some (jO r), some (jI (len : Int)), none, none, none, none, none, none] [jI (len : Int), jO rt, jI f, jI law] 0 0 w _
  refine jWp.calls (as := [jI law, jI f, jO rt, jI (len : Int)]) (rest := []) mt rfl rfl rfl rfl ?_
  refine jCall.mono (E_product (n := len) hkt hl0 hl6 hG.1 (by omega) (by decide) (by constructor <;> omega) (fun j hj => by have := hgb j hj; constructor <;> omega)) (fun v9 w9 h9 => ?_)
  obtain ⟨rfl, h9⟩ := h9
  subst w9
  show jWp 21 16 [some (jO r), some (jI (len : Int)), none, none, none, none, none, none] [jJ (zP law f (w.1 rt) len)] 0 0 w _
  refine jWp.blk mt 2 ?_
  show _ ∧ jWp 21 18 [some (jO r), some (jI (len : Int)), some (jJ (zP law f (w.1 rt) len)), none, none, none, none, none] [jO r] 0 0 w _
  refine ⟨rfl, ?_⟩
  refine jWp.getI (pc' := 21) mt rfl rfl (jtg hkr) ?_
  rw [show (w.1 r 0) = law from hlaw]
  show jWp 21 21 [some (jO r), some (jI (len : Int)), some (jJ (zP law f (w.1 rt) len)), none, none, none, none, none] [jI law] 0 0 w _
  refine jWp.blk mt 1 ?_
  show _ ∧ jWp 21 22 [some (jO r), some (jI (len : Int)), some (jJ (zP law f (w.1 rt) len)), none, none, none, none, none] [jO r, jI law] 0 0 w _
  refine ⟨rfl, ?_⟩
  refine jWp.getR (pc' := 25) (o := rt) mt rfl rfl (jtg hkr) hrt ?_
  show jWp 21 25 [some (jO r), some (jI (len : Int)), some (jJ (zP law f (w.1 rt) len)), none, none, none, none, none] [jO rt, jI law] 0 0 w _
  refine jWp.blk mt 1 ?_
  show jWp 21 26 [some (jO r), some (jI (len : Int)), some (jJ (zP law f (w.1 rt) len)), none, none, none, none, none] [jI (len : Int), jO rt, jI law] 0 0 w _
  refine jWp.calls (as := [jI law, jO rt, jI (len : Int)]) (rest := []) mt rfl rfl rfl rfl ?_
  refine jCall.mono (E_divisor (n := len) hO hkt hl0 hl6 hG.1 (by omega) (by decide) (fun j hj => by have := hgb j hj; constructor <;> omega)) (fun v9 w9 h9 => ?_)
  obtain ⟨rfl, h9⟩ := h9
  subst w9
  show jWp 21 29 [some (jO r), some (jI (len : Int)), some (jJ (zP law f (w.1 rt) len)), none, none, none, none, none] [jJ (zD law (w.1 rt) len)] 0 0 w _
  refine jWp.blk mt 3 ?_
  show jWp 21 34 [some (jO r), some (jI (len : Int)), some (jJ (zP law f (w.1 rt) len)), none, some (jJ (zD law (w.1 rt) len)), none, none, none] [jJ 0, jJ (zD law (w.1 rt) len)] 0 0 w _
  refine jWp.lcmp (pc' := 38) mt rfl rfl rfl (b64_id (by omega) (by omega)) (show b64 0 = 0 by decide) (fun h1 => ?_) (fun h1 => ?_)
  · have h1 : (zD law (w.1 rt) len) = 0 := h1
    refine jWp.blk mt 1 ?_
    show jWp 21 49 [some (jO r), some (jI (len : Int)), some (jJ (zP law f (w.1 rt) len)), none, some (jJ (zD law (w.1 rt) len)), none, none, none] [jI 0] 0 0 w _
    refine jWp.iretz mt rfl ⟨rfl, rfl⟩ rfl (Or.inl rfl) ?_
    exfalso; omega
  · have h1 : (zD law (w.1 rt) len) ≠ 0 := h1
    refine jWp.blk mt 1 ?_
    show jWp 21 39 [some (jO r), some (jI (len : Int)), some (jJ (zP law f (w.1 rt) len)), none, some (jJ (zD law (w.1 rt) len)), none, none, none] [jI (len : Int)] 0 0 w _
    refine jWp.ifz (pc' := 42) mt rfl rfl (b32_id (by omega) (by omega)) (fun h2 => ?_) (fun h2 => ?_)
    · have h2 : (len : Int) < 0 := h2
      refine jWp.blk mt 1 ?_
      show jWp 21 49 [some (jO r), some (jI (len : Int)), some (jJ (zP law f (w.1 rt) len)), none, some (jJ (zD law (w.1 rt) len)), none, none, none] [jI 0] 0 0 w _
      refine jWp.iretz mt rfl ⟨rfl, rfl⟩ rfl (Or.inl rfl) ?_
      exfalso; omega
    · have h2 : 0 ≤ (len : Int) := h2
      refine jWp.blk mt 2 ?_
      show jWp 21 45 [some (jO r), some (jI (len : Int)), some (jJ (zP law f (w.1 rt) len)), none, some (jJ (zD law (w.1 rt) len)), none, none, none] [jI 60, jI (len : Int)] 0 0 w _
      refine jWp.icmp (pc' := 48) mt rfl rfl (b32_id (by omega) (by omega)) (show b32 60 = 60 by decide) (fun h3 => ?_) (fun h3 => ?_)
      · have h3 : (len : Int) < 60 := h3
        refine jWp.blk mt 2 ?_
        show jWp 21 53 [some (jO r), some (jI (len : Int)), some (jJ (zP law f (w.1 rt) len)), none, some (jJ (zD law (w.1 rt) len)), none, none, none] [jJ (zD law (w.1 rt) len), jJ (zP law f (w.1 rt) len)] 0 0 w _
        refine jWp.lrem (pc' := 54) mt rfl rfl (b64_id (by omega) (by omega)) (b64_id (by omega) (by omega)) (by omega) ?_
        show jWp 21 54 [some (jO r), some (jI (len : Int)), some (jJ (zP law f (w.1 rt) len)), none, some (jJ (zD law (w.1 rt) len)), none, none, none] [jJ (Int.tmod (zP law f (w.1 rt) len) (zD law (w.1 rt) len))] 0 0 w _
        refine jWp.blk mt 1 ?_
        show jWp 21 55 [some (jO r), some (jI (len : Int)), some (jJ (zP law f (w.1 rt) len)), none, some (jJ (zD law (w.1 rt) len)), none, none, none] [jJ 0, jJ (Int.tmod (zP law f (w.1 rt) len) (zD law (w.1 rt) len))] 0 0 w _
        refine jWp.lcmp (pc' := 59) mt rfl rfl rfl (b64_id (by omega) (by omega)) (show b64 0 = 0 by decide) (fun h4 => ?_) (fun h4 => ?_)
        · have h4 : (Int.tmod (zP law f (w.1 rt) len) (zD law (w.1 rt) len)) = 0 := h4
          refine jWp.blk mt 2 ?_
          show jWp 21 81 [some (jO r), some (jI (len : Int)), some (jJ (zP law f (w.1 rt) len)), none, some (jJ (zD law (w.1 rt) len)), none, none, none] [jJ (zD law (w.1 rt) len), jJ (zP law f (w.1 rt) len)] 0 0 w _
          refine jWp.ldiv (pc' := 82) mt rfl rfl (b64_id (by omega) (by omega)) (b64_id (by omega) (by omega)) (by omega) ?_
          show jWp 21 82 [some (jO r), some (jI (len : Int)), some (jJ (zP law f (w.1 rt) len)), none, some (jJ (zD law (w.1 rt) len)), none, none, none] [jJ (Int.tdiv (zP law f (w.1 rt) len) (zD law (w.1 rt) len))] 0 0 w _
          refine jWp.blk mt 2 ?_
          show jWp 21 86 [some (jO r), some (jI (len : Int)), some (jJ (zP law f (w.1 rt) len)), none, some (jJ (zD law (w.1 rt) len)), none, some (jJ (Int.tdiv (zP law f (w.1 rt) len) (zD law (w.1 rt) len))), none] [jJ (Int.tdiv (zP law f (w.1 rt) len) (zD law (w.1 rt) len))] 0 0 w _
          refine jWp.absJ (pc' := 89) mt rfl rfl rfl (b64_id (by omega) (by omega)) ?_
          show jWp 21 89 [some (jO r), some (jI (len : Int)), some (jJ (zP law f (w.1 rt) len)), none, some (jJ (zD law (w.1 rt) len)), none, some (jJ (Int.tdiv (zP law f (w.1 rt) len) (zD law (w.1 rt) len))), none] [jJ (jabs (Int.tdiv (zP law f (w.1 rt) len) (zD law (w.1 rt) len)))] 0 0 w _
          refine jWp.blk mt 1 ?_
          show jWp 21 92 [some (jO r), some (jI (len : Int)), some (jJ (zP law f (w.1 rt) len)), none, some (jJ (zD law (w.1 rt) len)), none, some (jJ (Int.tdiv (zP law f (w.1 rt) len) (zD law (w.1 rt) len))), none] [jJ 100000000, jJ (jabs (Int.tdiv (zP law f (w.1 rt) len) (zD law (w.1 rt) len)))] 0 0 w _
          refine jWp.lcmp (pc' := 96) mt rfl rfl rfl (b64_id (by rw [hja]; split <;> omega) (by rw [hja]; split <;> omega)) (show b64 100000000 = 100000000 by decide) (fun h5 => ?_) (fun h5 => ?_)
          · have h5 : (jabs (Int.tdiv (zP law f (w.1 rt) len) (zD law (w.1 rt) len))) ≤ 100000000 := h5
            refine jWp.blk mt 1 ?_
            show _ ∧ jWp 21 104 [some (jO r), some (jI (len : Int)), some (jJ (zP law f (w.1 rt) len)), none, some (jJ (zD law (w.1 rt) len)), none, some (jJ (Int.tdiv (zP law f (w.1 rt) len) (zD law (w.1 rt) len))), none] [jO r] 0 0 w _
            refine ⟨rfl, ?_⟩
            refine jWp.getR (pc' := 107) (o := rt) mt rfl rfl (jtg hkr) hrt ?_
            show jWp 21 107 [some (jO r), some (jI (len : Int)), some (jJ (zP law f (w.1 rt) len)), none, some (jJ (zD law (w.1 rt) len)), none, some (jJ (Int.tdiv (zP law f (w.1 rt) len) (zD law (w.1 rt) len))), none] [jO rt] 0 0 w _
            refine jWp.blk mt 3 ?_
            show jWp 21 111 [some (jO r), some (jI (len : Int)), some (jJ (zP law f (w.1 rt) len)), none, some (jJ (zD law (w.1 rt) len)), none, some (jJ (Int.tdiv (zP law f (w.1 rt) len) (zD law (w.1 rt) len))), none] [jI (Int.tdiv (zP law f (w.1 rt) len) (zD law (w.1 rt) len)), jI (len : Int), jO rt] 0 0 w _
            refine jWp.iast (pc' := 112) (j := len) mt rfl rfl (jtg hkt) (b32_id (by omega) (by omega)) (jlt hkt (by omega)) ?_
            show jWp 21 112 [some (jO r), some (jI (len : Int)), some (jJ (zP law f (w.1 rt) len)), none, some (jJ (zD law (w.1 rt) len)), none, some (jJ (Int.tdiv (zP law f (w.1 rt) len) (zD law (w.1 rt) len))), none] [] 0 0 (jW w rt len (Int.tdiv (zP law f (w.1 rt) len) (zD law (w.1 rt) len))) _
            refine jWp.blk mt 1 ?_
            show jWp 21 113 [some (jO r), some (jI (len : Int)), some (jJ (zP law f (w.1 rt) len)), none, some (jJ (zD law (w.1 rt) len)), none, some (jJ (Int.tdiv (zP law f (w.1 rt) len) (zD law (w.1 rt) len))), none] [jI 1] 0 0 (jW w rt len (Int.tdiv (zP law f (w.1 rt) len) (zD law (w.1 rt) len))) _
            refine jWp.iretz mt rfl ⟨rfl, rfl⟩ rfl (Or.inr rfl) ?_
            exact Or.inl ⟨rfl, rfl, by assumption, by have e := hja; omega⟩
          · have h5 : 100000000 < (jabs (Int.tdiv (zP law f (w.1 rt) len) (zD law (w.1 rt) len))) := h5
            refine jWp.blk mt 2 ?_
            show _ ∧ jWp 21 98 [some (jO r), some (jI (len : Int)), some (jJ (zP law f (w.1 rt) len)), none, some (jJ (zD law (w.1 rt) len)), none, some (jJ (Int.tdiv (zP law f (w.1 rt) len) (zD law (w.1 rt) len))), none] [jI 2, jO r] 0 0 w _
            refine ⟨rfl, ?_⟩
            refine jWp.putI (pc' := 101) mt rfl rfl (jtg hkr) ?_
            show jWp 21 101 [some (jO r), some (jI (len : Int)), some (jJ (zP law f (w.1 rt) len)), none, some (jJ (zD law (w.1 rt) len)), none, some (jJ (Int.tdiv (zP law f (w.1 rt) len) (zD law (w.1 rt) len))), none] [] 0 0 (jW w r 3 2) _
            refine jWp.blk mt 1 ?_
            show jWp 21 102 [some (jO r), some (jI (len : Int)), some (jJ (zP law f (w.1 rt) len)), none, some (jJ (zD law (w.1 rt) len)), none, some (jJ (Int.tdiv (zP law f (w.1 rt) len) (zD law (w.1 rt) len))), none] [jI 0] 0 0 (jW w r 3 2) _
            refine jWp.iretz mt rfl ⟨rfl, rfl⟩ rfl (Or.inl rfl) ?_
            exact Or.inr (Or.inr ⟨rfl, rfl, by assumption, by have e := hja; omega⟩)
        · have h4 : (Int.tmod (zP law f (w.1 rt) len) (zD law (w.1 rt) len)) ≠ 0 := h4
          refine jWp.blk mt 2 ?_
          show _ ∧ jWp 21 61 [some (jO r), some (jI (len : Int)), some (jJ (zP law f (w.1 rt) len)), none, some (jJ (zD law (w.1 rt) len)), none, none, none] [jI 1, jO r] 0 0 w _
          refine ⟨rfl, ?_⟩
          refine jWp.putI (pc' := 64) mt rfl rfl (jtg hkr) ?_
          show jWp 21 64 [some (jO r), some (jI (len : Int)), some (jJ (zP law f (w.1 rt) len)), none, some (jJ (zD law (w.1 rt) len)), none, none, none] [] 0 0 (jW w r 3 1) _
          refine jWp.blk mt 3 ?_
          show _ ∧ jWp 21 68 [some (jO r), some (jI (len : Int)), some (jJ (zP law f (w.1 rt) len)), none, some (jJ (zD law (w.1 rt) len)), none, none, none] [jJ (zD law (w.1 rt) len), jJ (zP law f (w.1 rt) len), jO r] 0 0 (jW w r 3 1) _
          refine ⟨rfl, ?_⟩
          refine jWp.lrem (pc' := 69) mt rfl rfl (b64_id (by omega) (by omega)) (b64_id (by omega) (by omega)) (by omega) ?_
          show jWp 21 69 [some (jO r), some (jI (len : Int)), some (jJ (zP law f (w.1 rt) len)), none, some (jJ (zD law (w.1 rt) len)), none, none, none] [jJ (Int.tmod (zP law f (w.1 rt) len) (zD law (w.1 rt) len)), jO r] 0 0 (jW w r 3 1) _
          refine jWp.absJ (pc' := 72) mt rfl rfl rfl (b64_id (by omega) (by omega)) ?_
          show jWp 21 72 [some (jO r), some (jI (len : Int)), some (jJ (zP law f (w.1 rt) len)), none, some (jJ (zD law (w.1 rt) len)), none, none, none] [jJ (jabs (Int.tmod (zP law f (w.1 rt) len) (zD law (w.1 rt) len))), jO r] 0 0 (jW w r 3 1) _
          refine jWp.blk mt 1 ?_
          show jWp 21 73 [some (jO r), some (jI (len : Int)), some (jJ (zP law f (w.1 rt) len)), none, some (jJ (zD law (w.1 rt) len)), none, none, none] [jI (jabs (Int.tmod (zP law f (w.1 rt) len) (zD law (w.1 rt) len))), jO r] 0 0 (jW w r 3 1) _
          refine jWp.putI (pc' := 76) mt rfl rfl (jtg hkr) ?_
          show jWp 21 76 [some (jO r), some (jI (len : Int)), some (jJ (zP law f (w.1 rt) len)), none, some (jJ (zD law (w.1 rt) len)), none, none, none] [] 0 0 (jW (jW w r 3 1) r 4 (jabs (Int.tmod (zP law f (w.1 rt) len) (zD law (w.1 rt) len)))) _
          refine jWp.blk mt 1 ?_
          show jWp 21 77 [some (jO r), some (jI (len : Int)), some (jJ (zP law f (w.1 rt) len)), none, some (jJ (zD law (w.1 rt) len)), none, none, none] [jI 0] 0 0 (jW (jW w r 3 1) r 4 (jabs (Int.tmod (zP law f (w.1 rt) len) (zD law (w.1 rt) len)))) _
          refine jWp.iretz mt rfl ⟨rfl, rfl⟩ rfl (Or.inl rfl) ?_
          exact Or.inr (Or.inl ⟨rfl, by rw [hjt], by assumption⟩)
      · have h3 : 60 ≤ (len : Int) := h3
        refine jWp.blk mt 1 ?_
        show jWp 21 49 [some (jO r), some (jI (len : Int)), some (jJ (zP law f (w.1 rt) len)), none, some (jJ (zD law (w.1 rt) len)), none, none, none] [jI 0] 0 0 w _
        refine jWp.iretz mt rfl ⟨rfl, rfl⟩ rfl (Or.inl rfl) ?_
        exfalso; omega
