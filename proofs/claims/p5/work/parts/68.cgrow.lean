def grF (w : jS) (r rt : Nat) (w1 : jS) : Prop := w1.2 = w.2 ∧ (∀ a, a ≠ r → a ≠ rt → w1.1 a = w.1 a) ∧ ∀ j, j < 2 ∨ 4 < j → w1.1 r j = w.1 r j
set_option maxHeartbeats 4000000 in
set_option maxRecDepth 20000 in
theorem C_grow {w : jS} {r rs rt : Nat} (hkr : w.2.1 r = (4, 0)) (hks : w.2.1 rs = (100, 8)) (hkt : w.2.1 rt = (100, 60)) (hrs : w.2.2.1 r 5 = some rs) (hrt : w.2.2.1 r 6 = some rt) (hO : jOK w) {law f : Int} (hlaw : w.1 r 0 = law) (hl0 : 0 ≤ law) (hl6 : law ≤ 6) (hfig : w.1 r 1 = f) (hf : 0 ≤ f ∧ f ≤ 9) {s : Nat → Int} (hst : ∀ y, y < 8 → w.1 rs y = s y) (hs : ∀ y, y < 8 → 1 ≤ s y ∧ s y ≤ 9) : jCall 20 [jO r] w (fun v w1 => v = none ∧ grF w r rt w1 ∧ ∃ (len : Nat) (why left : Int), w1.1 r 2 = (len : Int) ∧ w1.1 r 3 = why ∧ w1.1 r 4 = left ∧ zGr law f s (w1.1 rt) len ∧ zEn law f (w1.1 rt) len why left) := by
  have mt : jtb 20 = jT20 := rfl
  have hnr1 : r ≠ rs := kne hkr hks (by decide)
  have hnr2 : r ≠ rt := kne hkr hkt (by decide)
  have hnr3 : rs ≠ rt := kne2 hks hkt (by decide)
  have hao1 : r ≠ w.2.2.2.2 := kne hkr hO.1 (by decide)
  have hao2 : rs ≠ w.2.2.2.2 := kne hks hO.1 (by decide)
  have hao3 : rt ≠ w.2.2.2.2 := kne hkt hO.1 (by decide)
  have hob := zO_b hl0 hl6
  show jWp 20 0 [some (jO r), none] [] 0 0 w _
  refine jWp.blk mt 2 ?_
  show jWp 20 2 [some (jO r), some (jI 0)] [] 0 0 w _
  have lp1 : ∀ (N : Nat) (i : Nat) (T : Nat → Int) (hi : (i : Int) ≤ zO law) (hT : ∀ y, y < i → T y = s y), 9 - i < N → jWp 20 2 [some (jO r), some (jI (i : Int))] [] 0 0 (kA w rt T) (fun v w1 => v = none ∧ grF w r rt w1 ∧ ∃ (len : Nat) (why left : Int), w1.1 r 2 = (len : Int) ∧ w1.1 r 3 = why ∧ w1.1 r 4 = left ∧ zGr law f s (w1.1 rt) len ∧ zEn law f (w1.1 rt) len why left) := by
    intro N
    induction N with
    | zero => intro i T hi hT hm; omega
    | succ N ih2 =>
      intro i T hi hT hm
      refine jWp.blk mt 2 ?_
      show _ ∧ jWp 20 4 [some (jO r), some (jI (i : Int))] [jO r, jI (i : Int)] 0 0 (kA w rt T) _
      refine ⟨rfl, ?_⟩
      refine jWp.callv (as := [jO r]) (rest := [jI (i : Int)]) mt rfl rfl rfl ⟨rfl, jtg hkr⟩ ?_
      refine jCall.mono (E_ord (w := (kA w rt T)) hkr (jOK_A hO hao3) (((kA_a (by omega)).trans rfl).trans hlaw) hl0 hl6) (fun v9 w9 h9 => ?_)
      obtain ⟨rfl, h9⟩ := h9
      subst w9
      show jWp 20 7 [some (jO r), some (jI (i : Int))] [jI (zO law), jI (i : Int)] 0 0 (kA w rt T) _
      refine jWp.icmp (pc' := 10) mt rfl rfl (b32_id (by omega) (by omega)) (b32_id (by omega) (by omega)) (fun h3 => ?_) (fun h3 => ?_)
      · have h3 : (zO law) ≤ (i : Int) := h3
        refine jWp.blk mt 2 ?_
        show _ ∧ _ ∧ jWp 20 36 [some (jO r), some (jI (i : Int))] [jO r, jO r] 0 0 (kA w rt T) _
        refine ⟨rfl, rfl, ?_⟩
        refine jWp.callv (as := [jO r]) (rest := [jO r]) mt rfl rfl rfl ⟨rfl, jtg hkr⟩ ?_
        refine jCall.mono (E_ord (w := (kA w rt T)) hkr (jOK_A hO hao3) (((kA_a (by omega)).trans rfl).trans hlaw) hl0 hl6) (fun v9 w9 h9 => ?_)
        obtain ⟨rfl, h9⟩ := h9
        subst w9
        show jWp 20 39 [some (jO r), some (jI (i : Int))] [jI (zO law), jO r] 0 0 (kA w rt T) _
        refine jWp.putI (pc' := 42) mt rfl rfl (jtg hkr) ?_
        show jWp 20 42 [some (jO r), some (jI (i : Int))] [] 0 0 (jW (kA w rt T) r 2 (zO law)) _
        refine jWp.blk mt 2 ?_
        show _ ∧ jWp 20 44 [some (jO r), some (jI (i : Int))] [jI 0, jO r] 0 0 (jW (kA w rt T) r 2 (zO law)) _
        refine ⟨rfl, ?_⟩
        refine jWp.putI (pc' := 47) mt rfl rfl (jtg hkr) ?_
        show jWp 20 47 [some (jO r), some (jI (i : Int))] [] 0 0 (jW (jW (kA w rt T) r 2 (zO law)) r 3 0) _
        refine jWp.blk mt 2 ?_
        show _ ∧ jWp 20 49 [some (jO r), some (jI (i : Int))] [jI 0, jO r] 0 0 (jW (jW (kA w rt T) r 2 (zO law)) r 3 0) _
        refine ⟨rfl, ?_⟩
        refine jWp.putI (pc' := 52) mt rfl rfl (jtg hkr) ?_
        show jWp 20 52 [some (jO r), some (jI (i : Int))] [] 0 0 (jW (jW (jW (kA w rt T) r 2 (zO law)) r 3 0) r 4 0) _
        refine jWp.blk mt 1 ?_
        show _ ∧ jWp 20 53 [some (jO r), some (jI (i : Int))] [jO r] 0 0 (jW (jW (jW (kA w rt T) r 2 (zO law)) r 3 0) r 4 0) _
        refine ⟨rfl, ?_⟩
        refine jWp.callv (as := [jO r]) (rest := []) mt rfl rfl rfl ⟨rfl, jtg hkr⟩ ?_
        refine jCall.mono (E_ord (w := (jW (jW (jW (kA w rt T) r 2 (zO law)) r 3 0) r 4 0)) hkr (jOK_W (jOK_W (jOK_W (jOK_A hO hao3) hao1) hao1) hao1) (((jW_k (by decide)).trans ((jW_k (by decide)).trans ((jW_k (by decide)).trans ((kA_a (by omega)).trans rfl)))).trans hlaw) hl0 hl6) (fun v9 w9 h9 => ?_)
        obtain ⟨rfl, h9⟩ := h9
        subst w9
        show jWp 20 56 [some (jO r), some (jI (i : Int))] [jI (zO law)] 0 0 (jW (jW (jW (kA w rt T) r 2 (zO law)) r 3 0) r 4 0) _
        refine jWp.blk mt 1 ?_
        show jWp 20 57 [some (jO r), some (jI (zO law))] [] 0 0 (jW (jW (jW (kA w rt T) r 2 (zO law)) r 3 0) r 4 0) _
        have lp4 : ∀ (N : Nat) (len : Nat) (M1 : Nat → Nat → Int) (hF : grF w r rt (M1, w.2)) (k2 : M1 r 2 = (len : Int)) (k3 : M1 r 3 = 0) (k4 : M1 r 4 = 0) (hG : zGr law f s (M1 rt) len), 60 - len < N → jWp 20 57 [some (jO r), some (jI (len : Int))] [] 0 0 (M1, w.2) (fun v w1 => v = none ∧ grF w r rt w1 ∧ ∃ (len : Nat) (why left : Int), w1.1 r 2 = (len : Int) ∧ w1.1 r 3 = why ∧ w1.1 r 4 = left ∧ zGr law f s (w1.1 rt) len ∧ zEn law f (w1.1 rt) len why left) := by
          intro N
          induction N with
          | zero => intro len M1 hF k2 k3 k4 hG hm; omega
          | succ N ih5 =>
            intro len M1 hF k2 k3 k4 hG hm
            have hl60 := hG.2.1
            have hO1 : jOK (M1, w.2) := jOK_M hO (hF.2.1 _ hao1.symm hao3.symm)
            have hlaw1 : M1 r 0 = law := (hF.2.2 0 (by omega)).trans hlaw
            refine jWp.blk mt 2 ?_
            show jWp 20 60 [some (jO r), some (jI (len : Int))] [jI 60, jI (len : Int)] 0 0 (M1, w.2) _
            refine jWp.icmp (pc' := 63) mt rfl rfl (b32_id (by omega) (by omega)) (show b32 60 = 60 by decide) (fun h6 => ?_) (fun h6 => ?_)
            · have h6 : 60 ≤ (len : Int) := h6
              refine jWp.vret mt rfl ⟨rfl, rfl⟩ rfl ?_
              exact ⟨rfl, hF, len, 0, 0, k2, k3, k4, hG, Or.inl ⟨rfl, by have := hG.2.1; omega, rfl⟩⟩
            · have h6 : (len : Int) < 60 := h6
              refine jWp.blk mt 2 ?_
              show _ ∧ jWp 20 65 [some (jO r), some (jI (len : Int))] [jI (len : Int), jO r] 0 0 (M1, w.2) _
              refine ⟨rfl, ?_⟩
              refine jWp.callv (as := [jO r, jI (len : Int)]) (rest := []) mt rfl rfl rfl ⟨rfl, jtg hkr⟩ ?_
              refine jCall.mono (C_extend (w := (M1, w.2)) (r := r) (rs := rs) (rt := rt) (s := s) (len := len) hkr hks hkt hrs hrt hO1 hlaw1 hl0 hl6 ((hF.2.2 1 (by omega)).trans hfig) hf hs hG (by omega)) (fun v9 w9 h9 => ?_)
              rcases h9 with ⟨rfl, h9, hx1, hx2⟩ | ⟨rfl, h9, hx1⟩ | ⟨rfl, h9, hx1, hx2⟩ <;> subst h9
              · have hx1' := hx1
                show jWp 20 68 [some (jO r), some (jI (len : Int))] [jI 1] 0 0 (jW (M1, w.2) rt len (Int.tdiv (zP law f (M1 rt) len) (zD law (M1 rt) len))) _
                refine jWp.ifc (b := false) mt rfl (by decide) rfl ?_
                show jWp 20 71 [some (jO r), some (jI (len : Int))] [] 0 0 (jW (M1, w.2) rt len (Int.tdiv (zP law f (M1 rt) len) (zD law (M1 rt) len))) _
                refine jWp.blk mt 4 ?_
                show _ ∧ jWp 20 75 [some (jO r), some (jI (len : Int))] [jI ((len : Int) + 1), jO r] 0 0 (jW (M1, w.2) rt len (Int.tdiv (zP law f (M1 rt) len) (zD law (M1 rt) len))) _
                refine ⟨rfl, ?_⟩
                refine jWp.putI (pc' := 78) mt rfl rfl (jtg hkr) ?_
                show jWp 20 78 [some (jO r), some (jI (len : Int))] [] 0 0 (jW (jW (M1, w.2) rt len (Int.tdiv (zP law f (M1 rt) len) (zD law (M1 rt) len))) r 2 ((len : Int) + 1)) _
                refine jWp.blk mt 2 ?_
                show jWp 20 57 [some (jO r), some (jI ((len : Int) + 1))] [] 0 0 (jW (jW (M1, w.2) rt len (Int.tdiv (zP law f (M1 rt) len) (zD law (M1 rt) len))) r 2 ((len : Int) + 1)) _
                refine jWp.le (l := [some (jO r), some (jI ((len : Int) + 1))]) (by exact ⟨rfl, rfl, trivial⟩) ?_
                exact ih5 (len + 1) (jW (jW (M1, w.2) rt len (Int.tdiv (zP law f (M1 rt) len) (zD law (M1 rt) len))) r 2 ((len : Int) + 1)).1 (⟨rfl, fun a ga gb => ((jW_f (by omega)).trans ((jW_f (by omega)).trans rfl)).trans (hF.2.1 a ga gb), fun j gj => ((jW_k (by omega)).trans ((jW_a (by omega)).trans rfl)).trans (hF.2.2 j gj)⟩ : grF w r rt (jW (jW (M1, w.2) rt len (Int.tdiv (zP law f (M1 rt) len) (zD law (M1 rt) len))) r 2 ((len : Int) + 1))) (jW_s.trans (by omega)) (((jW_k (by decide)).trans ((jW_a (by omega)).trans rfl)).trans k3) (((jW_k (by decide)).trans ((jW_a (by omega)).trans rfl)).trans k4) (zGr_n hl0 hl6 hG (by omega) hx1 hx2 (((jW_a (by omega)).trans jW_s)) (fun j hj => ((jW_a (by omega)).trans ((jW_k (by omega)).trans rfl)))) (by omega)
              · have hx1' := hx1
                show jWp 20 68 [some (jO r), some (jI (len : Int))] [jI 0] 0 0 (jW (jW (M1, w.2) r 3 1) r 4 (Int.tmod (zP law f (M1 rt) len) (zD law (M1 rt) len))) _
                refine jWp.ifc (b := true) mt rfl (by decide) rfl ?_
                show jWp 20 84 [some (jO r), some (jI (len : Int))] [] 0 0 (jW (jW (M1, w.2) r 3 1) r 4 (Int.tmod (zP law f (M1 rt) len) (zD law (M1 rt) len))) _
                refine jWp.vret mt rfl ⟨rfl, rfl⟩ rfl ?_
                refine ⟨rfl, (⟨rfl, fun a ga gb => ((jW_f (by omega)).trans ((jW_f (by omega)).trans rfl)).trans (hF.2.1 a ga gb), fun j gj => ((jW_k (by omega)).trans ((jW_k (by omega)).trans rfl)).trans (hF.2.2 j gj)⟩ : grF w r rt (jW (jW (M1, w.2) r 3 1) r 4 (Int.tmod (zP law f (M1 rt) len) (zD law (M1 rt) len)))), len, 1, _, (((jW_k (by decide)).trans ((jW_k (by decide)).trans rfl)).trans k2), ((jW_k (by decide)).trans jW_s), jW_s, by rw [show (jW (jW (M1, w.2) r 3 1) r 4 (Int.tmod (zP law f (M1 rt) len) (zD law (M1 rt) len))).1 rt = M1 rt from ((jW_f (by omega)).trans ((jW_f (by omega)).trans rfl))]; exact hG, Or.inr (Or.inl ⟨rfl, by omega, ?_, ?_⟩)⟩
                · rw [show (jW (jW (M1, w.2) r 3 1) r 4 (Int.tmod (zP law f (M1 rt) len) (zD law (M1 rt) len))).1 rt = M1 rt from ((jW_f (by omega)).trans ((jW_f (by omega)).trans rfl))]; exact hx1
                · rw [show (jW (jW (M1, w.2) r 3 1) r 4 (Int.tmod (zP law f (M1 rt) len) (zD law (M1 rt) len))).1 rt = M1 rt from ((jW_f (by omega)).trans ((jW_f (by omega)).trans rfl))]
              · have hx1' := hx1
                show jWp 20 68 [some (jO r), some (jI (len : Int))] [jI 0] 0 0 (jW (M1, w.2) r 3 2) _
                refine jWp.ifc (b := true) mt rfl (by decide) rfl ?_
                show jWp 20 84 [some (jO r), some (jI (len : Int))] [] 0 0 (jW (M1, w.2) r 3 2) _
                refine jWp.vret mt rfl ⟨rfl, rfl⟩ rfl ?_
                refine ⟨rfl, (⟨rfl, fun a ga gb => ((jW_f (by omega)).trans rfl).trans (hF.2.1 a ga gb), fun j gj => ((jW_k (by omega)).trans rfl).trans (hF.2.2 j gj)⟩ : grF w r rt (jW (M1, w.2) r 3 2)), len, 2, 0, (((jW_k (by decide)).trans rfl).trans k2), jW_s, (((jW_k (by decide)).trans rfl).trans k4), by rw [show (jW (M1, w.2) r 3 2).1 rt = M1 rt from ((jW_f (by omega)).trans rfl)]; exact hG, Or.inr (Or.inr ⟨rfl, by omega, ?_, ?_, rfl⟩)⟩
                · rw [show (jW (M1, w.2) r 3 2).1 rt = M1 rt from ((jW_f (by omega)).trans rfl)]; exact hx1
                · rw [show (jW (M1, w.2) r 3 2).1 rt = M1 rt from ((jW_f (by omega)).trans rfl)]; exact hx2
        refine jWp.le (l := [some (jO r), some (jI (zO law))]) (by exact ⟨rfl, rfl, trivial⟩) ?_
        obtain ⟨o9, ho9⟩ : ∃ o : Nat, zO law = (o : Int) := ⟨(zO law).toNat, by omega⟩
        have ho8 : (zO law).toNat = o9 := by omega
        rw [show (some (jI (zO law)) : Option jV) = some (jI (((zO law).toNat : Nat) : Int)) by rw [show (((zO law).toNat : Nat) : Int) = zO law by omega]]
        exact lp4 _ (zO law).toNat (jW (jW (jW (kA w rt T) r 2 (zO law)) r 3 0) r 4 0).1 (⟨rfl, fun a ga gb => ((jW_f (by omega)).trans ((jW_f (by omega)).trans ((jW_f (by omega)).trans ((kA_f (by omega)).trans rfl)))), fun j gj => ((jW_k (by omega)).trans ((jW_k (by omega)).trans ((jW_k (by omega)).trans ((kA_a (by omega)).trans rfl))))⟩ : grF w r rt (jW (jW (jW (kA w rt T) r 2 (zO law)) r 3 0) r 4 0)) (((jW_k (by decide)).trans ((jW_k (by decide)).trans jW_s)).trans (by omega)) ((jW_k (by decide)).trans jW_s) jW_s (by rw [show (jW (jW (jW (kA w rt T) r 2 (zO law)) r 3 0) r 4 0).1 rt = T from ((jW_f (by omega)).trans ((jW_f (by omega)).trans ((jW_f (by omega)).trans kA_fs)))]; exact ⟨Nat.le_refl _, by omega, fun y hy => hT y (by omega), fun n g1 g2 => absurd g1 (by omega)⟩) (Nat.lt_succ_self _)
      · have h3 : (i : Int) < (zO law) := h3
        refine jWp.blk mt 2 ?_
        show jWp 20 13 [some (jO r), some (jI (i : Int))] [jI 8, jI (i : Int)] 0 0 (kA w rt T) _
        refine jWp.icmp (pc' := 16) mt rfl rfl (b32_id (by omega) (by omega)) (show b32 8 = 8 by decide) (fun h7 => ?_) (fun h7 => ?_)
        · have h7 : 8 ≤ (i : Int) := h7
          refine jWp.blk mt 2 ?_
          show _ ∧ _ ∧ jWp 20 36 [some (jO r), some (jI (i : Int))] [jO r, jO r] 0 0 (kA w rt T) _
          refine ⟨rfl, rfl, ?_⟩
          refine jWp.callv (as := [jO r]) (rest := [jO r]) mt rfl rfl rfl ⟨rfl, jtg hkr⟩ ?_
          refine jCall.mono (E_ord (w := (kA w rt T)) hkr (jOK_A hO hao3) (((kA_a (by omega)).trans rfl).trans hlaw) hl0 hl6) (fun v9 w9 h9 => ?_)
          obtain ⟨rfl, h9⟩ := h9
          subst w9
          show jWp 20 39 [some (jO r), some (jI (i : Int))] [jI (zO law), jO r] 0 0 (kA w rt T) _
          refine jWp.putI (pc' := 42) mt rfl rfl (jtg hkr) ?_
          show jWp 20 42 [some (jO r), some (jI (i : Int))] [] 0 0 (jW (kA w rt T) r 2 (zO law)) _
          refine jWp.blk mt 2 ?_
          show _ ∧ jWp 20 44 [some (jO r), some (jI (i : Int))] [jI 0, jO r] 0 0 (jW (kA w rt T) r 2 (zO law)) _
          refine ⟨rfl, ?_⟩
          refine jWp.putI (pc' := 47) mt rfl rfl (jtg hkr) ?_
          show jWp 20 47 [some (jO r), some (jI (i : Int))] [] 0 0 (jW (jW (kA w rt T) r 2 (zO law)) r 3 0) _
          refine jWp.blk mt 2 ?_
          show _ ∧ jWp 20 49 [some (jO r), some (jI (i : Int))] [jI 0, jO r] 0 0 (jW (jW (kA w rt T) r 2 (zO law)) r 3 0) _
          refine ⟨rfl, ?_⟩
          refine jWp.putI (pc' := 52) mt rfl rfl (jtg hkr) ?_
          show jWp 20 52 [some (jO r), some (jI (i : Int))] [] 0 0 (jW (jW (jW (kA w rt T) r 2 (zO law)) r 3 0) r 4 0) _
          refine jWp.blk mt 1 ?_
          show _ ∧ jWp 20 53 [some (jO r), some (jI (i : Int))] [jO r] 0 0 (jW (jW (jW (kA w rt T) r 2 (zO law)) r 3 0) r 4 0) _
          refine ⟨rfl, ?_⟩
          refine jWp.callv (as := [jO r]) (rest := []) mt rfl rfl rfl ⟨rfl, jtg hkr⟩ ?_
          refine jCall.mono (E_ord (w := (jW (jW (jW (kA w rt T) r 2 (zO law)) r 3 0) r 4 0)) hkr (jOK_W (jOK_W (jOK_W (jOK_A hO hao3) hao1) hao1) hao1) (((jW_k (by decide)).trans ((jW_k (by decide)).trans ((jW_k (by decide)).trans ((kA_a (by omega)).trans rfl)))).trans hlaw) hl0 hl6) (fun v9 w9 h9 => ?_)
          obtain ⟨rfl, h9⟩ := h9
          subst w9
          show jWp 20 56 [some (jO r), some (jI (i : Int))] [jI (zO law)] 0 0 (jW (jW (jW (kA w rt T) r 2 (zO law)) r 3 0) r 4 0) _
          refine jWp.blk mt 1 ?_
          show jWp 20 57 [some (jO r), some (jI (zO law))] [] 0 0 (jW (jW (jW (kA w rt T) r 2 (zO law)) r 3 0) r 4 0) _
          have lp8 : ∀ (N : Nat) (len : Nat) (M1 : Nat → Nat → Int) (hF : grF w r rt (M1, w.2)) (k2 : M1 r 2 = (len : Int)) (k3 : M1 r 3 = 0) (k4 : M1 r 4 = 0) (hG : zGr law f s (M1 rt) len), 60 - len < N → jWp 20 57 [some (jO r), some (jI (len : Int))] [] 0 0 (M1, w.2) (fun v w1 => v = none ∧ grF w r rt w1 ∧ ∃ (len : Nat) (why left : Int), w1.1 r 2 = (len : Int) ∧ w1.1 r 3 = why ∧ w1.1 r 4 = left ∧ zGr law f s (w1.1 rt) len ∧ zEn law f (w1.1 rt) len why left) := by
            intro N
            induction N with
            | zero => intro len M1 hF k2 k3 k4 hG hm; omega
            | succ N ih9 =>
              intro len M1 hF k2 k3 k4 hG hm
              have hl60 := hG.2.1
              have hO1 : jOK (M1, w.2) := jOK_M hO (hF.2.1 _ hao1.symm hao3.symm)
              have hlaw1 : M1 r 0 = law := (hF.2.2 0 (by omega)).trans hlaw
              refine jWp.blk mt 2 ?_
              show jWp 20 60 [some (jO r), some (jI (len : Int))] [jI 60, jI (len : Int)] 0 0 (M1, w.2) _
              refine jWp.icmp (pc' := 63) mt rfl rfl (b32_id (by omega) (by omega)) (show b32 60 = 60 by decide) (fun h10 => ?_) (fun h10 => ?_)
              · have h10 : 60 ≤ (len : Int) := h10
                refine jWp.vret mt rfl ⟨rfl, rfl⟩ rfl ?_
                exact ⟨rfl, hF, len, 0, 0, k2, k3, k4, hG, Or.inl ⟨rfl, by have := hG.2.1; omega, rfl⟩⟩
              · have h10 : (len : Int) < 60 := h10
                refine jWp.blk mt 2 ?_
                show _ ∧ jWp 20 65 [some (jO r), some (jI (len : Int))] [jI (len : Int), jO r] 0 0 (M1, w.2) _
                refine ⟨rfl, ?_⟩
                refine jWp.callv (as := [jO r, jI (len : Int)]) (rest := []) mt rfl rfl rfl ⟨rfl, jtg hkr⟩ ?_
                refine jCall.mono (C_extend (w := (M1, w.2)) (r := r) (rs := rs) (rt := rt) (s := s) (len := len) hkr hks hkt hrs hrt hO1 hlaw1 hl0 hl6 ((hF.2.2 1 (by omega)).trans hfig) hf hs hG (by omega)) (fun v9 w9 h9 => ?_)
                rcases h9 with ⟨rfl, h9, hx1, hx2⟩ | ⟨rfl, h9, hx1⟩ | ⟨rfl, h9, hx1, hx2⟩ <;> subst h9
                · have hx1' := hx1
                  show jWp 20 68 [some (jO r), some (jI (len : Int))] [jI 1] 0 0 (jW (M1, w.2) rt len (Int.tdiv (zP law f (M1 rt) len) (zD law (M1 rt) len))) _
                  refine jWp.ifc (b := false) mt rfl (by decide) rfl ?_
                  show jWp 20 71 [some (jO r), some (jI (len : Int))] [] 0 0 (jW (M1, w.2) rt len (Int.tdiv (zP law f (M1 rt) len) (zD law (M1 rt) len))) _
                  refine jWp.blk mt 4 ?_
                  show _ ∧ jWp 20 75 [some (jO r), some (jI (len : Int))] [jI ((len : Int) + 1), jO r] 0 0 (jW (M1, w.2) rt len (Int.tdiv (zP law f (M1 rt) len) (zD law (M1 rt) len))) _
                  refine ⟨rfl, ?_⟩
                  refine jWp.putI (pc' := 78) mt rfl rfl (jtg hkr) ?_
                  show jWp 20 78 [some (jO r), some (jI (len : Int))] [] 0 0 (jW (jW (M1, w.2) rt len (Int.tdiv (zP law f (M1 rt) len) (zD law (M1 rt) len))) r 2 ((len : Int) + 1)) _
                  refine jWp.blk mt 2 ?_
                  show jWp 20 57 [some (jO r), some (jI ((len : Int) + 1))] [] 0 0 (jW (jW (M1, w.2) rt len (Int.tdiv (zP law f (M1 rt) len) (zD law (M1 rt) len))) r 2 ((len : Int) + 1)) _
                  refine jWp.le (l := [some (jO r), some (jI ((len : Int) + 1))]) (by exact ⟨rfl, rfl, trivial⟩) ?_
                  exact ih9 (len + 1) (jW (jW (M1, w.2) rt len (Int.tdiv (zP law f (M1 rt) len) (zD law (M1 rt) len))) r 2 ((len : Int) + 1)).1 (⟨rfl, fun a ga gb => ((jW_f (by omega)).trans ((jW_f (by omega)).trans rfl)).trans (hF.2.1 a ga gb), fun j gj => ((jW_k (by omega)).trans ((jW_a (by omega)).trans rfl)).trans (hF.2.2 j gj)⟩ : grF w r rt (jW (jW (M1, w.2) rt len (Int.tdiv (zP law f (M1 rt) len) (zD law (M1 rt) len))) r 2 ((len : Int) + 1))) (jW_s.trans (by omega)) (((jW_k (by decide)).trans ((jW_a (by omega)).trans rfl)).trans k3) (((jW_k (by decide)).trans ((jW_a (by omega)).trans rfl)).trans k4) (zGr_n hl0 hl6 hG (by omega) hx1 hx2 (((jW_a (by omega)).trans jW_s)) (fun j hj => ((jW_a (by omega)).trans ((jW_k (by omega)).trans rfl)))) (by omega)
                · have hx1' := hx1
                  show jWp 20 68 [some (jO r), some (jI (len : Int))] [jI 0] 0 0 (jW (jW (M1, w.2) r 3 1) r 4 (Int.tmod (zP law f (M1 rt) len) (zD law (M1 rt) len))) _
                  refine jWp.ifc (b := true) mt rfl (by decide) rfl ?_
                  show jWp 20 84 [some (jO r), some (jI (len : Int))] [] 0 0 (jW (jW (M1, w.2) r 3 1) r 4 (Int.tmod (zP law f (M1 rt) len) (zD law (M1 rt) len))) _
                  refine jWp.vret mt rfl ⟨rfl, rfl⟩ rfl ?_
                  refine ⟨rfl, (⟨rfl, fun a ga gb => ((jW_f (by omega)).trans ((jW_f (by omega)).trans rfl)).trans (hF.2.1 a ga gb), fun j gj => ((jW_k (by omega)).trans ((jW_k (by omega)).trans rfl)).trans (hF.2.2 j gj)⟩ : grF w r rt (jW (jW (M1, w.2) r 3 1) r 4 (Int.tmod (zP law f (M1 rt) len) (zD law (M1 rt) len)))), len, 1, _, (((jW_k (by decide)).trans ((jW_k (by decide)).trans rfl)).trans k2), ((jW_k (by decide)).trans jW_s), jW_s, by rw [show (jW (jW (M1, w.2) r 3 1) r 4 (Int.tmod (zP law f (M1 rt) len) (zD law (M1 rt) len))).1 rt = M1 rt from ((jW_f (by omega)).trans ((jW_f (by omega)).trans rfl))]; exact hG, Or.inr (Or.inl ⟨rfl, by omega, ?_, ?_⟩)⟩
                  · rw [show (jW (jW (M1, w.2) r 3 1) r 4 (Int.tmod (zP law f (M1 rt) len) (zD law (M1 rt) len))).1 rt = M1 rt from ((jW_f (by omega)).trans ((jW_f (by omega)).trans rfl))]; exact hx1
                  · rw [show (jW (jW (M1, w.2) r 3 1) r 4 (Int.tmod (zP law f (M1 rt) len) (zD law (M1 rt) len))).1 rt = M1 rt from ((jW_f (by omega)).trans ((jW_f (by omega)).trans rfl))]
                · have hx1' := hx1
                  show jWp 20 68 [some (jO r), some (jI (len : Int))] [jI 0] 0 0 (jW (M1, w.2) r 3 2) _
                  refine jWp.ifc (b := true) mt rfl (by decide) rfl ?_
                  show jWp 20 84 [some (jO r), some (jI (len : Int))] [] 0 0 (jW (M1, w.2) r 3 2) _
                  refine jWp.vret mt rfl ⟨rfl, rfl⟩ rfl ?_
                  refine ⟨rfl, (⟨rfl, fun a ga gb => ((jW_f (by omega)).trans rfl).trans (hF.2.1 a ga gb), fun j gj => ((jW_k (by omega)).trans rfl).trans (hF.2.2 j gj)⟩ : grF w r rt (jW (M1, w.2) r 3 2)), len, 2, 0, (((jW_k (by decide)).trans rfl).trans k2), jW_s, (((jW_k (by decide)).trans rfl).trans k4), by rw [show (jW (M1, w.2) r 3 2).1 rt = M1 rt from ((jW_f (by omega)).trans rfl)]; exact hG, Or.inr (Or.inr ⟨rfl, by omega, ?_, ?_, rfl⟩)⟩
                  · rw [show (jW (M1, w.2) r 3 2).1 rt = M1 rt from ((jW_f (by omega)).trans rfl)]; exact hx1
                  · rw [show (jW (M1, w.2) r 3 2).1 rt = M1 rt from ((jW_f (by omega)).trans rfl)]; exact hx2
          refine jWp.le (l := [some (jO r), some (jI (zO law))]) (by exact ⟨rfl, rfl, trivial⟩) ?_
          obtain ⟨o9, ho9⟩ : ∃ o : Nat, zO law = (o : Int) := ⟨(zO law).toNat, by omega⟩
          have ho8 : (zO law).toNat = o9 := by omega
          rw [show (some (jI (zO law)) : Option jV) = some (jI (((zO law).toNat : Nat) : Int)) by rw [show (((zO law).toNat : Nat) : Int) = zO law by omega]]
          exact lp8 _ (zO law).toNat (jW (jW (jW (kA w rt T) r 2 (zO law)) r 3 0) r 4 0).1 (⟨rfl, fun a ga gb => ((jW_f (by omega)).trans ((jW_f (by omega)).trans ((jW_f (by omega)).trans ((kA_f (by omega)).trans rfl)))), fun j gj => ((jW_k (by omega)).trans ((jW_k (by omega)).trans ((jW_k (by omega)).trans ((kA_a (by omega)).trans rfl))))⟩ : grF w r rt (jW (jW (jW (kA w rt T) r 2 (zO law)) r 3 0) r 4 0)) (((jW_k (by decide)).trans ((jW_k (by decide)).trans jW_s)).trans (by omega)) ((jW_k (by decide)).trans jW_s) jW_s (by rw [show (jW (jW (jW (kA w rt T) r 2 (zO law)) r 3 0) r 4 0).1 rt = T from ((jW_f (by omega)).trans ((jW_f (by omega)).trans ((jW_f (by omega)).trans kA_fs)))]; exact ⟨Nat.le_refl _, by omega, fun y hy => hT y (by omega), fun n g1 g2 => absurd g1 (by omega)⟩) (Nat.lt_succ_self _)
        · have h7 : (i : Int) < 8 := h7
          refine jWp.blk mt 1 ?_
          show _ ∧ jWp 20 17 [some (jO r), some (jI (i : Int))] [jO r] 0 0 (kA w rt T) _
          refine ⟨rfl, ?_⟩
          refine jWp.getR (pc' := 20) (o := rt) mt rfl rfl (jtg hkr) hrt ?_
          show jWp 20 20 [some (jO r), some (jI (i : Int))] [jO rt] 0 0 (kA w rt T) _
          refine jWp.blk mt 2 ?_
          show _ ∧ jWp 20 22 [some (jO r), some (jI (i : Int))] [jO r, jI (i : Int), jO rt] 0 0 (kA w rt T) _
          refine ⟨rfl, ?_⟩
          refine jWp.getR (pc' := 25) (o := rs) mt rfl rfl (jtg hkr) hrs ?_
          show jWp 20 25 [some (jO r), some (jI (i : Int))] [jO rs, jI (i : Int), jO rt] 0 0 (kA w rt T) _
          refine jWp.blk mt 1 ?_
          show jWp 20 26 [some (jO r), some (jI (i : Int))] [jI (i : Int), jO rs, jI (i : Int), jO rt] 0 0 (kA w rt T) _
          refine jWp.iald (pc' := 27) (j := i) mt rfl rfl (jird_of hks) (b32_id (by omega) (by omega)) (jlt hks (by omega)) ?_
          rw [show ((kA w rt T).1 rs i) = (s i) from (((kA_a (by omega)).trans rfl).trans (hst i (by omega)))]
          show jWp 20 27 [some (jO r), some (jI (i : Int))] [jI (s i), jI (i : Int), jO rt] 0 0 (kA w rt T) _
          refine jWp.iast (pc' := 28) (j := i) mt rfl rfl (jtg hkt) (b32_id (by omega) (by omega)) (jlt hkt (by omega)) ?_
          rw [show jW (kA w rt T) rt i (s i) = (kA w rt (zset T i (s i))) from kA_W]
          show jWp 20 28 [some (jO r), some (jI (i : Int))] [] 0 0 (kA w rt (zset T i (s i))) _
          refine jWp.blk mt 2 ?_
          show jWp 20 2 [some (jO r), some (jI ((i : Int) + 1))] [] 0 0 (kA w rt (zset T i (s i))) _
          refine jWp.le (l := [some (jO r), some (jI ((i : Int) + 1))]) (by exact ⟨rfl, rfl, trivial⟩) ?_
          exact ih2 (i + 1) _ (by omega) (fun y hy => by rcases Nat.lt_or_ge y i with e | e; rw [zset_n (by omega)]; exact hT y e; rw [show y = i by omega, zset_s]) (by omega)
  refine jWp.le (l := [some (jO r), some (jI 0)]) (by exact ⟨rfl, rfl, trivial⟩) ?_
  have key := lp1 _ 0 (w.1 rt) (by omega) (fun y hy => absurd hy (by omega)) (Nat.lt_succ_self _)
  rw [kA_self] at key
  exact key
def cRo (w : jS) (r rs rt : Nat) (law f : Int) (s : Nat → Int) : Prop := w.1 r 0 = law ∧ w.1 r 1 = f ∧ (∀ y, y < 8 → w.1 rs y = s y) ∧ ∃ (len : Nat) (why left : Int), w.1 r 2 = (len : Int) ∧ w.1 r 3 = why ∧ w.1 r 4 = left ∧ zGr law f s (w.1 rt) len ∧ zEn law f (w.1 rt) len why left
set_option maxHeartbeats 4000000 in
set_option maxRecDepth 20000 in
theorem C_found {w : jS} {r rs rt : Nat} (hkr : w.2.1 r = (4, 0)) (hks : w.2.1 rs = (100, 8)) (hkt : w.2.1 rt = (100, 60)) (hrs : w.2.2.1 r 5 = some rs) (hrt : w.2.2.1 r 6 = some rt) (hO : jOK w) {law f : Int} (hl0 : 0 ≤ law) (hl6 : law ≤ 6) (hf : 0 ≤ f ∧ f ≤ 9) : jCall 16 [jO r, jI law, jI f] w (fun v w1 => v = none ∧ (w1.2 = w.2 ∧ ∀ a, a ≠ r → a ≠ rs → a ≠ rt → w1.1 a = w.1 a) ∧ cRo w1 r rs rt law f (fun _ => 1)) := by
  have mt : jtb 16 = jT16 := rfl
  have hnr1 : r ≠ rs := kne hkr hks (by decide)
  have hnr2 : r ≠ rt := kne hkr hkt (by decide)
  have hnr3 : rs ≠ rt := kne2 hks hkt (by decide)
  have hao1 : r ≠ w.2.2.2.2 := kne hkr hO.1 (by decide)
  have hao2 : rs ≠ w.2.2.2.2 := kne hks hO.1 (by decide)
  have hao3 : rt ≠ w.2.2.2.2 := kne hkt hO.1 (by decide)
  show jWp 16 0 [some (jO r), some (jI law), some (jI f)] [] 0 0 w _
  refine jWp.blk mt 2 ?_
  show _ ∧ jWp 16 2 [some (jO r), some (jI law), some (jI f)] [jI law, jO r] 0 0 w _
  refine ⟨rfl, ?_⟩
  refine jWp.putI (pc' := 5) mt rfl rfl (jtg hkr) ?_
  show jWp 16 5 [some (jO r), some (jI law), some (jI f)] [] 0 0 (jW w r 0 law) _
  refine jWp.blk mt 2 ?_
  show _ ∧ jWp 16 7 [some (jO r), some (jI law), some (jI f)] [jI f, jO r] 0 0 (jW w r 0 law) _
  refine ⟨rfl, ?_⟩
  refine jWp.putI (pc' := 10) mt rfl rfl (jtg hkr) ?_
  show jWp 16 10 [some (jO r), some (jI law), some (jI f)] [] 0 0 (jW (jW w r 0 law) r 1 f) _
  refine jWp.blk mt 1 ?_
  show _ ∧ jWp 16 11 [some (jO r), some (jI law), some (jI f)] [jO r] 0 0 (jW (jW w r 0 law) r 1 f) _
  refine ⟨rfl, ?_⟩
  refine jWp.getR (pc' := 14) (o := rs) mt rfl rfl (jtg hkr) hrs ?_
  show jWp 16 14 [some (jO r), some (jI law), some (jI f)] [jO rs] 0 0 (jW (jW w r 0 law) r 1 f) _
  refine jWp.blk mt 1 ?_
  show jWp 16 15 [some (jO r), some (jI law), some (jI f)] [jI 1, jO rs] 0 0 (jW (jW w r 0 law) r 1 f) _
  refine jWp.calls (as := [jO rs, jI 1]) (rest := []) mt rfl rfl rfl rfl ?_
  refine jCall.mono (E_fill (w := (jW (jW w r 0 law) r 1 f)) hks (by decide)) (fun v9 w9 h9 => ?_)
  obtain ⟨rfl, T, h9, hT⟩ := h9
  subst h9
  have hT : ∀ e, e < 8 → T e = 1 := fun e he => (hT e).trans (if_pos he)
  show jWp 16 18 [some (jO r), some (jI law), some (jI f)] [] 0 0 (kA (jW (jW w r 0 law) r 1 f) rs T) _
  refine jWp.blk mt 1 ?_
  show _ ∧ jWp 16 19 [some (jO r), some (jI law), some (jI f)] [jO r] 0 0 (kA (jW (jW w r 0 law) r 1 f) rs T) _
  refine ⟨rfl, ?_⟩
  refine jWp.callv (as := [jO r]) (rest := []) mt rfl rfl rfl ⟨rfl, jtg hkr⟩ ?_
  refine jCall.mono (C_grow (w := (kA (jW (jW w r 0 law) r 1 f) rs T)) (r := r) (rs := rs) (rt := rt) (law := law) (f := f) (s := (fun _ => 1)) hkr hks hkt hrs hrt (jOK_A (jOK_W (jOK_W hO hao1) hao1) hao2) (((kA_a (by omega)).trans ((jW_k (by decide)).trans jW_s))) hl0 hl6 (((kA_a (by omega)).trans jW_s)) hf (fun y hy => kA_s.trans (hT y hy)) (fun _ _ => by decide)) (fun v9 w9 h9 => ?_)
  obtain ⟨rfl, hF, hE⟩ := h9
  obtain ⟨M1, G9⟩ := w9
  have hg : G9 = w.2 := hF.1
  subst hg
  show jWp 16 22 [some (jO r), some (jI law), some (jI f)] [] 0 0 (M1, w.2) _
  refine jWp.vret mt rfl ⟨rfl, rfl⟩ rfl ?_
  refine ⟨rfl, ⟨rfl, fun a ga gb gc => (hF.2.1 a ga gc).trans ((kA_f (by omega)).trans ((jW_f (by omega)).trans ((jW_f (by omega)).trans rfl)))⟩, ?_, ?_, fun y hy => ?_, hE⟩
  · exact (hF.2.2 0 (by omega)).trans (((kA_a (by omega)).trans ((jW_k (by decide)).trans jW_s)))
  · exact (hF.2.2 1 (by omega)).trans (((kA_a (by omega)).trans jW_s))
  · exact (congrFun (hF.2.1 rs hnr1.symm hnr3) y).trans (kA_s.trans (hT y hy))
set_option maxHeartbeats 4000000 in
set_option maxRecDepth 20000 in
theorem C_rbecome {w : jS} {r rs rt : Nat} (hkr : w.2.1 r = (4, 0)) (hks : w.2.1 rs = (100, 8)) (hkt : w.2.1 rt = (100, 60)) (hrs : w.2.2.1 r 5 = some rs) (hrt : w.2.2.1 r 6 = some rt) (hO : jOK w) {r2 rs2 rt2 : Nat} {law f : Int} {s : Nat → Int} (hkr2 : w.2.1 r2 = (4, 0)) (hks2 : w.2.1 rs2 = (100, 8)) (hrs2 : w.2.2.1 r2 5 = some rs2) (hl0 : 0 ≤ law) (hl6 : law ≤ 6) (hf : 0 ≤ f ∧ f ≤ 9) (hs : ∀ y, y < 8 → 1 ≤ s y ∧ s y ≤ 9) (hn2 : r2 ≠ r) (hc0 : w.1 r2 0 = law) (hc1 : w.1 r2 1 = f) (hcs : ∀ y, y < 8 → w.1 rs2 y = s y) : jCall 17 [jO r, jO r2] w (fun v w1 => v = none ∧ (w1.2 = w.2 ∧ ∀ a, a ≠ r → a ≠ rs → a ≠ rt → w1.1 a = w.1 a) ∧ cRo w1 r rs rt law f s) := by
  have mt : jtb 17 = jT17 := rfl
  have hnr1 : r ≠ rs := kne hkr hks (by decide)
  have hnr2 : r ≠ rt := kne hkr hkt (by decide)
  have hnr3 : rs ≠ rt := kne2 hks hkt (by decide)
  have hao1 : r ≠ w.2.2.2.2 := kne hkr hO.1 (by decide)
  have hao2 : rs ≠ w.2.2.2.2 := kne hks hO.1 (by decide)
  have hao3 : rt ≠ w.2.2.2.2 := kne hkt hO.1 (by decide)
  have hnr4 : rs2 ≠ r := kne hks2 hkr (by decide)
  show jWp 17 0 [some (jO r), some (jO r2)] [] 0 0 w _
  refine jWp.blk mt 2 ?_
  show _ ∧ _ ∧ jWp 17 2 [some (jO r), some (jO r2)] [jO r2, jO r] 0 0 w _
  refine ⟨rfl, rfl, ?_⟩
  refine jWp.getI (pc' := 5) mt rfl rfl (jtg hkr2) ?_
  rw [show (w.1 r2 0) = law from hc0]
  show jWp 17 5 [some (jO r), some (jO r2)] [jI law, jO r] 0 0 w _
  refine jWp.putI (pc' := 8) mt rfl rfl (jtg hkr) ?_
  show jWp 17 8 [some (jO r), some (jO r2)] [] 0 0 (jW w r 0 law) _
  refine jWp.blk mt 2 ?_
  show _ ∧ _ ∧ jWp 17 10 [some (jO r), some (jO r2)] [jO r2, jO r] 0 0 (jW w r 0 law) _
  refine ⟨rfl, rfl, ?_⟩
  refine jWp.getI (pc' := 13) mt rfl rfl (jtg hkr2) ?_
  rw [show ((jW w r 0 law).1 r2 1) = f from (((jW_a (by omega)).trans rfl).trans hc1)]
  show jWp 17 13 [some (jO r), some (jO r2)] [jI f, jO r] 0 0 (jW w r 0 law) _
  refine jWp.putI (pc' := 16) mt rfl rfl (jtg hkr) ?_
  show jWp 17 16 [some (jO r), some (jO r2)] [] 0 0 (jW (jW w r 0 law) r 1 f) _
  refine jWp.blk mt 1 ?_
  show _ ∧ jWp 17 17 [some (jO r), some (jO r2)] [jO r2] 0 0 (jW (jW w r 0 law) r 1 f) _
  refine ⟨rfl, ?_⟩
  refine jWp.getR (pc' := 20) (o := rs2) mt rfl rfl (jtg hkr2) hrs2 ?_
  show jWp 17 20 [some (jO r), some (jO r2)] [jO rs2] 0 0 (jW (jW w r 0 law) r 1 f) _
  refine jWp.blk mt 2 ?_
  show _ ∧ jWp 17 22 [some (jO r), some (jO r2)] [jO r, jI 0, jO rs2] 0 0 (jW (jW w r 0 law) r 1 f) _
  refine ⟨rfl, ?_⟩
  refine jWp.getR (pc' := 25) (o := rs) mt rfl rfl (jtg hkr) hrs ?_
  show jWp 17 25 [some (jO r), some (jO r2)] [jO rs, jI 0, jO rs2] 0 0 (jW (jW w r 0 law) r 1 f) _
  refine jWp.blk mt 2 ?_
  show jWp 17 28 [some (jO r), some (jO r2)] [jI 8, jI 0, jO rs, jI 0, jO rs2] 0 0 (jW (jW w r 0 law) r 1 f) _
  refine jWp.copy (pc' := 31) (jm := 8) (jd := 0) (js := 0) mt rfl rfl rfl (jtg hks) (jtg hks2) (by decide) (by decide) (by decide) (by rw [hks2]; decide) (by rw [hks]; decide) ?_
  show jWp 17 31 [some (jO r), some (jO r2)] [] 0 0 (jcpy (jW (jW w r 0 law) r 1 f).1 rs2 0 rs 0 8, (jW (jW w r 0 law) r 1 f).2) _
  refine jWp.blk mt 1 ?_
  show _ ∧ jWp 17 32 [some (jO r), some (jO r2)] [jO r] 0 0 (jcpy (jW (jW w r 0 law) r 1 f).1 rs2 0 rs 0 8, (jW (jW w r 0 law) r 1 f).2) _
  refine ⟨rfl, ?_⟩
  refine jWp.callv (as := [jO r]) (rest := []) mt rfl rfl rfl ⟨rfl, jtg hkr⟩ ?_
  refine jCall.mono (C_grow (w := (jcpy (jW (jW w r 0 law) r 1 f).1 rs2 0 rs 0 8, (jW (jW w r 0 law) r 1 f).2)) (r := r) (rs := rs) (rt := rt) (law := law) (f := f) (s := s) hkr hks hkt hrs hrt ⟨hO.1, fun j => (if_neg (fun e => hao2 e.1.symm)).trans ((jW_a hao1.symm).trans ((jW_a hao1.symm).trans (hO.2 j)))⟩ (((if_neg (fun e => hnr1 e.1)).trans ((jW_k (by decide)).trans jW_s))) hl0 hl6 (((if_neg (fun e => hnr1 e.1)).trans jW_s)) hf (fun y hy => ((if_pos ⟨rfl, by omega, by omega⟩).trans (by rw [show 0 + (y - 0) = y by omega]; exact ((jW_a (by omega)).trans ((jW_a (by omega)).trans rfl)).trans (hcs y hy)))) hs) (fun v9 w9 h9 => ?_)
  obtain ⟨rfl, hF, hE⟩ := h9
  obtain ⟨M1, G9⟩ := w9
  have hg : G9 = w.2 := hF.1
  subst hg
  show jWp 17 35 [some (jO r), some (jO r2)] [] 0 0 (M1, w.2) _
  refine jWp.vret mt rfl ⟨rfl, rfl⟩ rfl ?_
  refine ⟨rfl, ⟨rfl, fun a ga gb gc => (hF.2.1 a ga gc).trans (funext fun j => (if_neg (fun e => gb e.1)).trans ((jW_a ga).trans (jW_a ga)))⟩, ?_, ?_, fun y hy => ?_, hE⟩
  · exact (hF.2.2 0 (by omega)).trans ((if_neg (fun e => hnr1 e.1)).trans ((jW_k (by decide)).trans jW_s))
  · exact (hF.2.2 1 (by omega)).trans ((if_neg (fun e => hnr1 e.1)).trans jW_s)
  · exact (congrFun (hF.2.1 rs hnr1.symm hnr3) y).trans ((if_pos ⟨rfl, by omega, by omega⟩).trans (by rw [show 0 + (y - 0) = y by omega]; exact ((jW_a (by omega)).trans ((jW_a (by omega)).trans rfl)).trans (hcs y hy)))
set_option maxHeartbeats 4000000 in
set_option maxRecDepth 20000 in
theorem C_tellStart {w : jS} {r rs rt : Nat} (hkr : w.2.1 r = (4, 0)) (hks : w.2.1 rs = (100, 8)) (hkt : w.2.1 rt = (100, 60)) (hrs : w.2.2.1 r 5 = some rs) (hrt : w.2.2.1 r 6 = some rt) (hO : jOK w) {law f : Int} (hlaw : w.1 r 0 = law) (hl0 : 0 ≤ law) (hl6 : law ≤ 6) (hfig : w.1 r 1 = f) (hf : 0 ≤ f ∧ f ≤ 9) {s : Nat → Int} (hst : ∀ y, y < 8 → w.1 rs y = s y) (hs : ∀ y, y < 8 → 1 ≤ s y ∧ s y ≤ 9) {i : Nat} {v : Int} (hi : i < 8) (hv : 1 ≤ v ∧ v ≤ 9) : jCall 19 [jO r, jI (i : Int), jI v] w (fun x w1 => x = some (jI (s i)) ∧ (w1.2 = w.2 ∧ ∀ a, a ≠ r → a ≠ rs → a ≠ rt → w1.1 a = w.1 a) ∧ cRo w1 r rs rt law f (zset s i v)) := by
  have mt : jtb 19 = jT19 := rfl
  have hnr1 : r ≠ rs := kne hkr hks (by decide)
  have hnr2 : r ≠ rt := kne hkr hkt (by decide)
  have hnr3 : rs ≠ rt := kne2 hks hkt (by decide)
  have hao1 : r ≠ w.2.2.2.2 := kne hkr hO.1 (by decide)
  have hao2 : rs ≠ w.2.2.2.2 := kne hks hO.1 (by decide)
  have hao3 : rt ≠ w.2.2.2.2 := kne hkt hO.1 (by decide)
  show jWp 19 0 [some (jO r), some (jI (i : Int)), some (jI v), none] [] 0 0 w _
  refine jWp.blk mt 1 ?_
  show jWp 19 1 [some (jO r), some (jI (i : Int)), some (jI v), none] [jI (i : Int)] 0 0 w _
  refine jWp.ifz (pc' := 4) mt rfl rfl (b32_id (by omega) (by omega)) (fun h1 => ?_) (fun h1 => ?_)
  · have h1 : (i : Int) < 0 := h1
    exfalso; omega
  · have h1 : 0 ≤ (i : Int) := h1
    refine jWp.blk mt 2 ?_
    show jWp 19 7 [some (jO r), some (jI (i : Int)), some (jI v), none] [jI 8, jI (i : Int)] 0 0 w _
    refine jWp.icmp (pc' := 10) mt rfl rfl (b32_id (by omega) (by omega)) (show b32 8 = 8 by decide) (fun h2 => ?_) (fun h2 => ?_)
    · have h2 : (i : Int) < 8 := h2
      refine jWp.blk mt 1 ?_
      show _ ∧ jWp 19 13 [some (jO r), some (jI (i : Int)), some (jI v), none] [jO r] 0 0 w _
      refine ⟨rfl, ?_⟩
      refine jWp.getR (pc' := 16) (o := rs) mt rfl rfl (jtg hkr) hrs ?_
      show jWp 19 16 [some (jO r), some (jI (i : Int)), some (jI v), none] [jO rs] 0 0 w _
      refine jWp.blk mt 1 ?_
      show jWp 19 17 [some (jO r), some (jI (i : Int)), some (jI v), none] [jI (i : Int), jO rs] 0 0 w _
      refine jWp.iald (pc' := 18) (j := i) mt rfl rfl (jird_of hks) (b32_id (by omega) (by omega)) (jlt hks (by omega)) ?_
      rw [show (w.1 rs i) = (s i) from (hst i (by omega))]
      show jWp 19 18 [some (jO r), some (jI (i : Int)), some (jI v), none] [jI (s i)] 0 0 w _
      refine jWp.blk mt 2 ?_
      show _ ∧ jWp 19 20 [some (jO r), some (jI (i : Int)), some (jI v), some (jI (s i))] [jO r] 0 0 w _
      refine ⟨rfl, ?_⟩
      refine jWp.getR (pc' := 23) (o := rs) mt rfl rfl (jtg hkr) hrs ?_
      show jWp 19 23 [some (jO r), some (jI (i : Int)), some (jI v), some (jI (s i))] [jO rs] 0 0 w _
      refine jWp.blk mt 2 ?_
      show jWp 19 25 [some (jO r), some (jI (i : Int)), some (jI v), some (jI (s i))] [jI v, jI (i : Int), jO rs] 0 0 w _
      refine jWp.iast (pc' := 26) (j := i) mt rfl rfl (jtg hks) (b32_id (by omega) (by omega)) (jlt hks (by omega)) ?_
      show jWp 19 26 [some (jO r), some (jI (i : Int)), some (jI v), some (jI (s i))] [] 0 0 (jW w rs i v) _
      refine jWp.blk mt 1 ?_
      show _ ∧ jWp 19 27 [some (jO r), some (jI (i : Int)), some (jI v), some (jI (s i))] [jO r] 0 0 (jW w rs i v) _
      refine ⟨rfl, ?_⟩
      refine jWp.callv (as := [jO r]) (rest := []) mt rfl rfl rfl ⟨rfl, jtg hkr⟩ ?_
      refine jCall.mono (C_grow (w := (jW w rs i v)) (r := r) (rs := rs) (rt := rt) (law := law) (f := f) (s := zset s i v) hkr hks hkt hrs hrt (jOK_W hO hao2) ((jW_a hnr1).trans hlaw) hl0 hl6 ((jW_a hnr1).trans hfig) hf (fun y hy => by by_cases e : y = i; rw [e, zset_s]; exact jW_s; rw [zset_n e]; exact (jW_k e).trans (hst y hy)) (fun y hy => by by_cases e : y = i; rw [e, zset_s]; exact hv; rw [zset_n e]; exact hs y hy)) (fun v9 w9 h9 => ?_)
      obtain ⟨rfl, hF, hE⟩ := h9
      obtain ⟨M1, G9⟩ := w9
      have hg : G9 = w.2 := hF.1
      subst hg
      show jWp 19 30 [some (jO r), some (jI (i : Int)), some (jI v), some (jI (s i))] [] 0 0 (M1, w.2) _
      refine jWp.blk mt 1 ?_
      show jWp 19 31 [some (jO r), some (jI (i : Int)), some (jI v), some (jI (s i))] [jI (s i)] 0 0 (M1, w.2) _
      refine jWp.ireti mt rfl ⟨rfl, rfl⟩ rfl ?_
      refine ⟨rfl, ⟨rfl, fun a ga gb gc => (hF.2.1 a ga gc).trans (jW_f gb)⟩, ?_, ?_, fun y hy => ?_, hE⟩
      · exact (hF.2.2 0 (by omega)).trans ((jW_a hnr1).trans hlaw)
      · exact (hF.2.2 1 (by omega)).trans ((jW_a hnr1).trans hfig)
      · refine (congrFun (hF.2.1 rs hnr1.symm hnr3) y).trans ?_
        by_cases e : y = i
        · rw [e, zset_s]; exact jW_s
        · rw [zset_n e]; exact (jW_k e).trans (hst y hy)
    · have h2 : 8 ≤ (i : Int) := h2
      exfalso; omega
