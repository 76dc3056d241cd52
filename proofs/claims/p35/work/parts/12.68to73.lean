section
def grF (w : jS) (r rt : Nat) (w1 : jS) : Prop := w1.2 = w.2 ∧ (∀ a, a ≠ r → a ≠ rt → w1.1 a = w.1 a) ∧ ∀ j, j < 2 ∨ 4 < j → w1.1 r j = w.1 r j
set_option maxHeartbeats 4000000 in
set_option maxRecDepth 20000 in
theorem C_grow {w : jS} {r rs rt : Nat} (hkr : w.2.1 r = (4, 0)) (hks : w.2.1 rs = (100, 8)) (hkt : w.2.1 rt = (100, 60)) (hrs : w.2.2.1 r 5 = some rs) (hrt : w.2.2.1 r 6 = some rt) (hO : jOK w) {law f : Int} (hlaw : w.1 r 0 = law) (hl0 : 0 ≤ law) (hl6 : law ≤ 6) (hfig : w.1 r 1 = f) (hf : 0 ≤ f ∧ f ≤ 9) {s : Nat → Int} (hst : ∀ y, y < 8 → w.1 rs y = s y) (hs : ∀ y, y < 8 → 1 ≤ s y ∧ s y ≤ 9) : jCall 20 [jO r] w (fun v w1 => v = none ∧ grF w r rt w1 ∧ ∃ (len : Nat) (why left : Int), w1.1 r 2 = (len : Int) ∧ w1.1 r 3 = why ∧ w1.1 r 4 = left ∧ zGr law f s (w1.1 rt) len ∧ zEn law f (w1.1 rt) len why left) := by
  have mt : jtb 20 = jT20 := rfl
  have hnr1 : r ≠ rs := kne hkr hks (by decide)
  have hnr2 : r ≠ rt := kne hkr hkt (by decide)
  have hnr3 : rs ≠ rt := kne2 hks hkt (by decide)
  have hao1 : r ≠ w.2.2.2.2 := kne hkr hO.1 (by decide)
  have hao2 : rs ≠ w.2.2.2.2 := kne hks hO.1 (by decide)
  have hao3 : rt ≠ w.2.2.2.2 := kne hkt hO.1 (by decide)
  have hob := zO_b hl0 hl6
  show jWp 20 0 [some (jO r), none] [] 0 0 w _
  refine jWp.blk mt 2 ?_
  show jWp 20 2 [some (jO r), some (jI 0)] [] 0 0 w _
  have lp1 : ∀ (N : Nat) (i : Nat) (T : Nat → Int) (hi : (i : Int) ≤ zO law) (hT : ∀ y, y < i → T y = s y), 9 - i < N → jWp 20 2 [some (jO r), some (jI (i : Int))] [] 0 0 (kA w rt T) (fun v w1 => v = none ∧ grF w r rt w1 ∧ ∃ (len : Nat) (why left : Int), w1.1 r 2 = (len : Int) ∧ w1.1 r 3 = why ∧ w1.1 r 4 = left ∧ zGr law f s (w1.1 rt) len ∧ zEn law f (w1.1 rt) len why left) := by
    intro N
    induction N with
    | zero => intro i T hi hT hm; omega
    | succ N ih2 =>
      intro i T hi hT hm
      refine jWp.blk mt 2 ?_
      show _ ∧ jWp 20 4 [some (jO r), some (jI (i : Int))] [jO r, jI (i : Int)] 0 0 (kA w rt T) _
      refine ⟨rfl, ?_⟩
      refine jWp.callv (as := [jO r]) (rest := [jI (i : Int)]) mt rfl rfl rfl ⟨rfl, jtg hkr⟩ ?_
      refine jCall.mono (E_ord (w := (kA w rt T)) hkr (jOK_A hO hao3) (((kA_a (by omega)).trans rfl).trans hlaw) hl0 hl6) (fun v9 w9 h9 => ?_)
      obtain ⟨rfl, h9⟩ := h9
      subst w9
      show jWp 20 7 [some (jO r), some (jI (i : Int))] [jI (zO law), jI (i : Int)] 0 0 (kA w rt T) _
      refine jWp.icmp (pc' := 10) mt rfl rfl (b32_id (by omega) (by omega)) (b32_id (by omega) (by omega)) (fun h3 => ?_) (fun h3 => ?_)
      · have h3 : (zO law) ≤ (i : Int) := h3
        refine jWp.blk mt 2 ?_
        show _ ∧ _ ∧ jWp 20 36 [some (jO r), some (jI (i : Int))] [jO r, jO r] 0 0 (kA w rt T) _
        refine ⟨rfl, rfl, ?_⟩
        refine jWp.callv (as := [jO r]) (rest := [jO r]) mt rfl rfl rfl ⟨rfl, jtg hkr⟩ ?_
        refine jCall.mono (E_ord (w := (kA w rt T)) hkr (jOK_A hO hao3) (((kA_a (by omega)).trans rfl).trans hlaw) hl0 hl6) (fun v9 w9 h9 => ?_)
        obtain ⟨rfl, h9⟩ := h9
        subst w9
        show jWp 20 39 [some (jO r), some (jI (i : Int))] [jI (zO law), jO r] 0 0 (kA w rt T) _
        refine jWp.putI (pc' := 42) mt rfl rfl (jtg hkr) ?_
        show jWp 20 42 [some (jO r), some (jI (i : Int))] [] 0 0 (jW (kA w rt T) r 2 (zO law)) _
        refine jWp.blk mt 2 ?_
        show _ ∧ jWp 20 44 [some (jO r), some (jI (i : Int))] [jI 0, jO r] 0 0 (jW (kA w rt T) r 2 (zO law)) _
        refine ⟨rfl, ?_⟩
        refine jWp.putI (pc' := 47) mt rfl rfl (jtg hkr) ?_
        show jWp 20 47 [some (jO r), some (jI (i : Int))] [] 0 0 (jW (jW (kA w rt T) r 2 (zO law)) r 3 0) _
        refine jWp.blk mt 2 ?_
        show _ ∧ jWp 20 49 [some (jO r), some (jI (i : Int))] [jI 0, jO r] 0 0 (jW (jW (kA w rt T) r 2 (zO law)) r 3 0) _
        refine ⟨rfl, ?_⟩
        refine jWp.putI (pc' := 52) mt rfl rfl (jtg hkr) ?_
        show jWp 20 52 [some (jO r), some (jI (i : Int))] [] 0 0 (jW (jW (jW (kA w rt T) r 2 (zO law)) r 3 0) r 4 0) _
        refine jWp.blk mt 1 ?_
        show _ ∧ jWp 20 53 [some (jO r), some (jI (i : Int))] [jO r] 0 0 (jW (jW (jW (kA w rt T) r 2 (zO law)) r 3 0) r 4 0) _
        refine ⟨rfl, ?_⟩
        refine jWp.callv (as := [jO r]) (rest := []) mt rfl rfl rfl ⟨rfl, jtg hkr⟩ ?_
        refine jCall.mono (E_ord (w := (jW (jW (jW (kA w rt T) r 2 (zO law)) r 3 0) r 4 0)) hkr (jOK_W (jOK_W (jOK_W (jOK_A hO hao3) hao1) hao1) hao1) (((jW_k (by decide)).trans ((jW_k (by decide)).trans ((jW_k (by decide)).trans ((kA_a (by omega)).trans rfl)))).trans hlaw) hl0 hl6) (fun v9 w9 h9 => ?_)
        obtain ⟨rfl, h9⟩ := h9
        subst w9
        show jWp 20 56 [some (jO r), some (jI (i : Int))] [jI (zO law)] 0 0 (jW (jW (jW (kA w rt T) r 2 (zO law)) r 3 0) r 4 0) _
        refine jWp.blk mt 1 ?_
        show jWp 20 57 [some (jO r), some (jI (zO law))] [] 0 0 (jW (jW (jW (kA w rt T) r 2 (zO law)) r 3 0) r 4 0) _
        have lp4 : ∀ (N : Nat) (len : Nat) (M1 : Nat → Nat → Int) (hF : grF w r rt (M1, w.2)) (k2 : M1 r 2 = (len : Int)) (k3 : M1 r 3 = 0) (k4 : M1 r 4 = 0) (hG : zGr law f s (M1 rt) len), 60 - len < N → jWp 20 57 [some (jO r), some (jI (len : Int))] [] 0 0 (M1, w.2) (fun v w1 => v = none ∧ grF w r rt w1 ∧ ∃ (len : Nat) (why left : Int), w1.1 r 2 = (len : Int) ∧ w1.1 r 3 = why ∧ w1.1 r 4 = left ∧ zGr law f s (w1.1 rt) len ∧ zEn law f (w1.1 rt) len why left) := by
          intro N
          induction N with
          | zero => intro len M1 hF k2 k3 k4 hG hm; omega
          | succ N ih5 =>
            intro len M1 hF k2 k3 k4 hG hm
            have hl60 := hG.2.1
            have hO1 : jOK (M1, w.2) := jOK_M hO (hF.2.1 _ hao1.symm hao3.symm)
            have hlaw1 : M1 r 0 = law := (hF.2.2 0 (by omega)).trans hlaw
            refine jWp.blk mt 2 ?_
            show jWp 20 60 [some (jO r), some (jI (len : Int))] [jI 60, jI (len : Int)] 0 0 (M1, w.2) _
            refine jWp.icmp (pc' := 63) mt rfl rfl (b32_id (by omega) (by omega)) (show b32 60 = 60 by decide) (fun h6 => ?_) (fun h6 => ?_)
            · have h6 : 60 ≤ (len : Int) := h6
              refine jWp.vret mt rfl ⟨rfl, rfl⟩ rfl ?_
              exact ⟨rfl, hF, len, 0, 0, k2, k3, k4, hG, Or.inl ⟨rfl, by have := hG.2.1; omega, rfl⟩⟩
            · have h6 : (len : Int) < 60 := h6
              refine jWp.blk mt 2 ?_
              show _ ∧ jWp 20 65 [some (jO r), some (jI (len : Int))] [jI (len : Int), jO r] 0 0 (M1, w.2) _
              refine ⟨rfl, ?_⟩
              refine jWp.callv (as := [jO r, jI (len : Int)]) (rest := []) mt rfl rfl rfl ⟨rfl, jtg hkr⟩ ?_
              refine jCall.mono (C_extend (w := (M1, w.2)) (r := r) (rs := rs) (rt := rt) (s := s) (len := len) hkr hks hkt hrs hrt hO1 hlaw1 hl0 hl6 ((hF.2.2 1 (by omega)).trans hfig) hf hs hG (by omega)) (fun v9 w9 h9 => ?_)
              rcases h9 with ⟨rfl, h9, hx1, hx2⟩ | ⟨rfl, h9, hx1⟩ | ⟨rfl, h9, hx1, hx2⟩ <;> subst h9
              · have hx1' := hx1
                show jWp 20 68 [some (jO r), some (jI (len : Int))] [jI 1] 0 0 (jW (M1, w.2) rt len (Int.tdiv (zP law f (M1 rt) len) (zD law (M1 rt) len))) _
                refine jWp.ifc (b := false) mt rfl (by decide) rfl ?_
                show jWp 20 71 [some (jO r), some (jI (len : Int))] [] 0 0 (jW (M1, w.2) rt len (Int.tdiv (zP law f (M1 rt) len) (zD law (M1 rt) len))) _
                refine jWp.blk mt 4 ?_
                show _ ∧ jWp 20 75 [some (jO r), some (jI (len : Int))] [jI ((len : Int) + 1), jO r] 0 0 (jW (M1, w.2) rt len (Int.tdiv (zP law f (M1 rt) len) (zD law (M1 rt) len))) _
                refine ⟨rfl, ?_⟩
                refine jWp.putI (pc' := 78) mt rfl rfl (jtg hkr) ?_
                show jWp 20 78 [some (jO r), some (jI (len : Int))] [] 0 0 (jW (jW (M1, w.2) rt len (Int.tdiv (zP law f (M1 rt) len) (zD law (M1 rt) len))) r 2 ((len : Int) + 1)) _
                refine jWp.blk mt 2 ?_
                show jWp 20 57 [some (jO r), some (jI ((len : Int) + 1))] [] 0 0 (jW (jW (M1, w.2) rt len (Int.tdiv (zP law f (M1 rt) len) (zD law (M1 rt) len))) r 2 ((len : Int) + 1)) _
                refine jWp.le (l := [some (jO r), some (jI ((len : Int) + 1))]) (by exact ⟨rfl, rfl, trivial⟩) ?_
                exact ih5 (len + 1) (jW (jW (M1, w.2) rt len (Int.tdiv (zP law f (M1 rt) len) (zD law (M1 rt) len))) r 2 ((len : Int) + 1)).1 (⟨rfl, fun a ga gb => ((jW_f (by omega)).trans ((jW_f (by omega)).trans rfl)).trans (hF.2.1 a ga gb), fun j gj => ((jW_k (by omega)).trans ((jW_a (by omega)).trans rfl)).trans (hF.2.2 j gj)⟩ : grF w r rt (jW (jW (M1, w.2) rt len (Int.tdiv (zP law f (M1 rt) len) (zD law (M1 rt) len))) r 2 ((len : Int) + 1))) (jW_s.trans (by omega)) (((jW_k (by decide)).trans ((jW_a (by omega)).trans rfl)).trans k3) (((jW_k (by decide)).trans ((jW_a (by omega)).trans rfl)).trans k4) (zGr_n hl0 hl6 hG (by omega) hx1 hx2 (((jW_a (by omega)).trans jW_s)) (fun j hj => ((jW_a (by omega)).trans ((jW_k (by omega)).trans rfl)))) (by omega)
              · have hx1' := hx1
                show jWp 20 68 [some (jO r), some (jI (len : Int))] [jI 0] 0 0 (jW (jW (M1, w.2) r 3 1) r 4 (Int.tmod (zP law f (M1 rt) len) (zD law (M1 rt) len))) _
                refine jWp.ifc (b := true) mt rfl (by decide) rfl ?_
                show jWp 20 84 [some (jO r), some (jI (len : Int))] [] 0 0 (jW (jW (M1, w.2) r 3 1) r 4 (Int.tmod (zP law f (M1 rt) len) (zD law (M1 rt) len))) _
                refine jWp.vret mt rfl ⟨rfl, rfl⟩ rfl ?_
                refine ⟨rfl, (⟨rfl, fun a ga gb => ((jW_f (by omega)).trans ((jW_f (by omega)).trans rfl)).trans (hF.2.1 a ga gb), fun j gj => ((jW_k (by omega)).trans ((jW_k (by omega)).trans rfl)).trans (hF.2.2 j gj)⟩ : grF w r rt (jW (jW (M1, w.2) r 3 1) r 4 (Int.tmod (zP law f (M1 rt) len) (zD law (M1 rt) len)))), len, 1, _, (((jW_k (by decide)).trans ((jW_k (by decide)).trans rfl)).trans k2), ((jW_k (by decide)).trans jW_s), jW_s, by rw [show (jW (jW (M1, w.2) r 3 1) r 4 (Int.tmod (zP law f (M1 rt) len) (zD law (M1 rt) len))).1 rt = M1 rt from ((jW_f (by omega)).trans ((jW_f (by omega)).trans rfl))]; exact hG, Or.inr (Or.inl ⟨rfl, by omega, ?_, ?_⟩)⟩
                · rw [show (jW (jW (M1, w.2) r 3 1) r 4 (Int.tmod (zP law f (M1 rt) len) (zD law (M1 rt) len))).1 rt = M1 rt from ((jW_f (by omega)).trans ((jW_f (by omega)).trans rfl))]; exact hx1
                · rw [show (jW (jW (M1, w.2) r 3 1) r 4 (Int.tmod (zP law f (M1 rt) len) (zD law (M1 rt) len))).1 rt = M1 rt from ((jW_f (by omega)).trans ((jW_f (by omega)).trans rfl))]
              · have hx1' := hx1
                show jWp 20 68 [some (jO r), some (jI (len : Int))] [jI 0] 0 0 (jW (M1, w.2) r 3 2) _
                refine jWp.ifc (b := true) mt rfl (by decide) rfl ?_
                show jWp 20 84 [some (jO r), some (jI (len : Int))] [] 0 0 (jW (M1, w.2) r 3 2) _
                refine jWp.vret mt rfl ⟨rfl, rfl⟩ rfl ?_
                refine ⟨rfl, (⟨rfl, fun a ga gb => ((jW_f (by omega)).trans rfl).trans (hF.2.1 a ga gb), fun j gj => ((jW_k (by omega)).trans rfl).trans (hF.2.2 j gj)⟩ : grF w r rt (jW (M1, w.2) r 3 2)), len, 2, 0, (((jW_k (by decide)).trans rfl).trans k2), jW_s, (((jW_k (by decide)).trans rfl).trans k4), by rw [show (jW (M1, w.2) r 3 2).1 rt = M1 rt from ((jW_f (by omega)).trans rfl)]; exact hG, Or.inr (Or.inr ⟨rfl, by omega, ?_, ?_, rfl⟩)⟩
                · rw [show (jW (M1, w.2) r 3 2).1 rt = M1 rt from ((jW_f (by omega)).trans rfl)]; exact hx1
                · rw [show (jW (M1, w.2) r 3 2).1 rt = M1 rt from ((jW_f (by omega)).trans rfl)]; exact hx2
        refine jWp.le (l := [some (jO r), some (jI (zO law))]) (by exact ⟨rfl, rfl, trivial⟩) ?_
        obtain ⟨o9, ho9⟩ : ∃ o : Nat, zO law = (o : Int) := ⟨(zO law).toNat, by omega⟩
        have ho8 : (zO law).toNat = o9 := by omega
        rw [show (some (jI (zO law)) : Option jV) = some (jI (((zO law).toNat : Nat) : Int)) by rw [show (((zO law).toNat : Nat) : Int) = zO law by omega]]
        exact lp4 _ (zO law).toNat (jW (jW (jW (kA w rt T) r 2 (zO law)) r 3 0) r 4 0).1 (⟨rfl, fun a ga gb => ((jW_f (by omega)).trans ((jW_f (by omega)).trans ((jW_f (by omega)).trans ((kA_f (by omega)).trans rfl)))), fun j gj => ((jW_k (by omega)).trans ((jW_k (by omega)).trans ((jW_k (by omega)).trans ((kA_a (by omega)).trans rfl))))⟩ : grF w r rt (jW (jW (jW (kA w rt T) r 2 (zO law)) r 3 0) r 4 0)) (((jW_k (by decide)).trans ((jW_k (by decide)).trans jW_s)).trans (by omega)) ((jW_k (by decide)).trans jW_s) jW_s (by rw [show (jW (jW (jW (kA w rt T) r 2 (zO law)) r 3 0) r 4 0).1 rt = T from ((jW_f (by omega)).trans ((jW_f (by omega)).trans ((jW_f (by omega)).trans kA_fs)))]; exact ⟨Nat.le_refl _, by omega, fun y hy => hT y (by omega), fun n g1 g2 => absurd g1 (by omega)⟩) (Nat.lt_succ_self _)
      · have h3 : (i : Int) < (zO law) := h3
        refine jWp.blk mt 2 ?_
        show jWp 20 13 [some (jO r), some (jI (i : Int))] [jI 8, jI (i : Int)] 0 0 (kA w rt T) _
        refine jWp.icmp (pc' := 16) mt rfl rfl (b32_id (by omega) (by omega)) (show b32 8 = 8 by decide) (fun h7 => ?_) (fun h7 => ?_)
        · have h7 : 8 ≤ (i : Int) := h7
          refine jWp.blk mt 2 ?_
          show _ ∧ _ ∧ jWp 20 36 [some (jO r), some (jI (i : Int))] [jO r, jO r] 0 0 (kA w rt T) _
          refine ⟨rfl, rfl, ?_⟩
          refine jWp.callv (as := [jO r]) (rest := [jO r]) mt rfl rfl rfl ⟨rfl, jtg hkr⟩ ?_
          refine jCall.mono (E_ord (w := (kA w rt T)) hkr (jOK_A hO hao3) (((kA_a (by omega)).trans rfl).trans hlaw) hl0 hl6) (fun v9 w9 h9 => ?_)
          obtain ⟨rfl, h9⟩ := h9
          subst w9
          show jWp 20 39 [some (jO r), some (jI (i : Int))] [jI (zO law), jO r] 0 0 (kA w rt T) _
          refine jWp.putI (pc' := 42) mt rfl rfl (jtg hkr) ?_
          show jWp 20 42 [some (jO r), some (jI (i : Int))] [] 0 0 (jW (kA w rt T) r 2 (zO law)) _
          refine jWp.blk mt 2 ?_
          show _ ∧ jWp 20 44 [some (jO r), some (jI (i : Int))] [jI 0, jO r] 0 0 (jW (kA w rt T) r 2 (zO law)) _
          refine ⟨rfl, ?_⟩
          refine jWp.putI (pc' := 47) mt rfl rfl (jtg hkr) ?_
          show jWp 20 47 [some (jO r), some (jI (i : Int))] [] 0 0 (jW (jW (kA w rt T) r 2 (zO law)) r 3 0) _
          refine jWp.blk mt 2 ?_
          show _ ∧ jWp 20 49 [some (jO r), some (jI (i : Int))] [jI 0, jO r] 0 0 (jW (jW (kA w rt T) r 2 (zO law)) r 3 0) _
          refine ⟨rfl, ?_⟩
          refine jWp.putI (pc' := 52) mt rfl rfl (jtg hkr) ?_
          show jWp 20 52 [some (jO r), some (jI (i : Int))] [] 0 0 (jW (jW (jW (kA w rt T) r 2 (zO law)) r 3 0) r 4 0) _
          refine jWp.blk mt 1 ?_
          show _ ∧ jWp 20 53 [some (jO r), some (jI (i : Int))] [jO r] 0 0 (jW (jW (jW (kA w rt T) r 2 (zO law)) r 3 0) r 4 0) _
          refine ⟨rfl, ?_⟩
          refine jWp.callv (as := [jO r]) (rest := []) mt rfl rfl rfl ⟨rfl, jtg hkr⟩ ?_
          refine jCall.mono (E_ord (w := (jW (jW (jW (kA w rt T) r 2 (zO law)) r 3 0) r 4 0)) hkr (jOK_W (jOK_W (jOK_W (jOK_A hO hao3) hao1) hao1) hao1) (((jW_k (by decide)).trans ((jW_k (by decide)).trans ((jW_k (by decide)).trans ((kA_a (by omega)).trans rfl)))).trans hlaw) hl0 hl6) (fun v9 w9 h9 => ?_)
          obtain ⟨rfl, h9⟩ := h9
          subst w9
          show jWp 20 56 [some (jO r), some (jI (i : Int))] [jI (zO law)] 0 0 (jW (jW (jW (kA w rt T) r 2 (zO law)) r 3 0) r 4 0) _
          refine jWp.blk mt 1 ?_
          show jWp 20 57 [some (jO r), some (jI (zO law))] [] 0 0 (jW (jW (jW (kA w rt T) r 2 (zO law)) r 3 0) r 4 0) _
          have lp8 : ∀ (N : Nat) (len : Nat) (M1 : Nat → Nat → Int) (hF : grF w r rt (M1, w.2)) (k2 : M1 r 2 = (len : Int)) (k3 : M1 r 3 = 0) (k4 : M1 r 4 = 0) (hG : zGr law f s (M1 rt) len), 60 - len < N → jWp 20 57 [some (jO r), some (jI (len : Int))] [] 0 0 (M1, w.2) (fun v w1 => v = none ∧ grF w r rt w1 ∧ ∃ (len : Nat) (why left : Int), w1.1 r 2 = (len : Int) ∧ w1.1 r 3 = why ∧ w1.1 r 4 = left ∧ zGr law f s (w1.1 rt) len ∧ zEn law f (w1.1 rt) len why left) := by
            intro N
            induction N with
            | zero => intro len M1 hF k2 k3 k4 hG hm; omega
            | succ N ih9 =>
              intro len M1 hF k2 k3 k4 hG hm
              have hl60 := hG.2.1
              have hO1 : jOK (M1, w.2) := jOK_M hO (hF.2.1 _ hao1.symm hao3.symm)
              have hlaw1 : M1 r 0 = law := (hF.2.2 0 (by omega)).trans hlaw
              refine jWp.blk mt 2 ?_
              show jWp 20 60 [some (jO r), some (jI (len : Int))] [jI 60, jI (len : Int)] 0 0 (M1, w.2) _
              refine jWp.icmp (pc' := 63) mt rfl rfl (b32_id (by omega) (by omega)) (show b32 60 = 60 by decide) (fun h10 => ?_) (fun h10 => ?_)
              · have h10 : 60 ≤ (len : Int) := h10
                refine jWp.vret mt rfl ⟨rfl, rfl⟩ rfl ?_
                exact ⟨rfl, hF, len, 0, 0, k2, k3, k4, hG, Or.inl ⟨rfl, by have := hG.2.1; omega, rfl⟩⟩
              · have h10 : (len : Int) < 60 := h10
                refine jWp.blk mt 2 ?_
                show _ ∧ jWp 20 65 [some (jO r), some (jI (len : Int))] [jI (len : Int), jO r] 0 0 (M1, w.2) _
                refine ⟨rfl, ?_⟩
                refine jWp.callv (as := [jO r, jI (len : Int)]) (rest := []) mt rfl rfl rfl ⟨rfl, jtg hkr⟩ ?_
                refine jCall.mono (C_extend (w := (M1, w.2)) (r := r) (rs := rs) (rt := rt) (s := s) (len := len) hkr hks hkt hrs hrt hO1 hlaw1 hl0 hl6 ((hF.2.2 1 (by omega)).trans hfig) hf hs hG (by omega)) (fun v9 w9 h9 => ?_)
                rcases h9 with ⟨rfl, h9, hx1, hx2⟩ | ⟨rfl, h9, hx1⟩ | ⟨rfl, h9, hx1, hx2⟩ <;> subst h9
                · have hx1' := hx1
                  show jWp 20 68 [some (jO r), some (jI (len : Int))] [jI 1] 0 0 (jW (M1, w.2) rt len (Int.tdiv (zP law f (M1 rt) len) (zD law (M1 rt) len))) _
                  refine jWp.ifc (b := false) mt rfl (by decide) rfl ?_
                  show jWp 20 71 [some (jO r), some (jI (len : Int))] [] 0 0 (jW (M1, w.2) rt len (Int.tdiv (zP law f (M1 rt) len) (zD law (M1 rt) len))) _
                  refine jWp.blk mt 4 ?_
                  show _ ∧ jWp 20 75 [some (jO r), some (jI (len : Int))] [jI ((len : Int) + 1), jO r] 0 0 (jW (M1, w.2) rt len (Int.tdiv (zP law f (M1 rt) len) (zD law (M1 rt) len))) _
                  refine ⟨rfl, ?_⟩
                  refine jWp.putI (pc' := 78) mt rfl rfl (jtg hkr) ?_
                  show jWp 20 78 [some (jO r), some (jI (len : Int))] [] 0 0 (jW (jW (M1, w.2) rt len (Int.tdiv (zP law f (M1 rt) len) (zD law (M1 rt) len))) r 2 ((len : Int) + 1)) _
                  refine jWp.blk mt 2 ?_
                  show jWp 20 57 [some (jO r), some (jI ((len : Int) + 1))] [] 0 0 (jW (jW (M1, w.2) rt len (Int.tdiv (zP law f (M1 rt) len) (zD law (M1 rt) len))) r 2 ((len : Int) + 1)) _
                  refine jWp.le (l := [some (jO r), some (jI ((len : Int) + 1))]) (by exact ⟨rfl, rfl, trivial⟩) ?_
                  exact ih9 (len + 1) (jW (jW (M1, w.2) rt len (Int.tdiv (zP law f (M1 rt) len) (zD law (M1 rt) len))) r 2 ((len : Int) + 1)).1 (⟨rfl, fun a ga gb => ((jW_f (by omega)).trans ((jW_f (by omega)).trans rfl)).trans (hF.2.1 a ga gb), fun j gj => ((jW_k (by omega)).trans ((jW_a (by omega)).trans rfl)).trans (hF.2.2 j gj)⟩ : grF w r rt (jW (jW (M1, w.2) rt len (Int.tdiv (zP law f (M1 rt) len) (zD law (M1 rt) len))) r 2 ((len : Int) + 1))) (jW_s.trans (by omega)) (((jW_k (by decide)).trans ((jW_a (by omega)).trans rfl)).trans k3) (((jW_k (by decide)).trans ((jW_a (by omega)).trans rfl)).trans k4) (zGr_n hl0 hl6 hG (by omega) hx1 hx2 (((jW_a (by omega)).trans jW_s)) (fun j hj => ((jW_a (by omega)).trans ((jW_k (by omega)).trans rfl)))) (by omega)
                · have hx1' := hx1
                  show jWp 20 68 [some (jO r), some (jI (len : Int))] [jI 0] 0 0 (jW (jW (M1, w.2) r 3 1) r 4 (Int.tmod (zP law f (M1 rt) len) (zD law (M1 rt) len))) _
                  refine jWp.ifc (b := true) mt rfl (by decide) rfl ?_
                  show jWp 20 84 [some (jO r), some (jI (len : Int))] [] 0 0 (jW (jW (M1, w.2) r 3 1) r 4 (Int.tmod (zP law f (M1 rt) len) (zD law (M1 rt) len))) _
                  refine jWp.vret mt rfl ⟨rfl, rfl⟩ rfl ?_
                  refine ⟨rfl, (⟨rfl, fun a ga gb => ((jW_f (by omega)).trans ((jW_f (by omega)).trans rfl)).trans (hF.2.1 a ga gb), fun j gj => ((jW_k (by omega)).trans ((jW_k (by omega)).trans rfl)).trans (hF.2.2 j gj)⟩ : grF w r rt (jW (jW (M1, w.2) r 3 1) r 4 (Int.tmod (zP law f (M1 rt) len) (zD law (M1 rt) len)))), len, 1, _, (((jW_k (by decide)).trans ((jW_k (by decide)).trans rfl)).trans k2), ((jW_k (by decide)).trans jW_s), jW_s, by rw [show (jW (jW (M1, w.2) r 3 1) r 4 (Int.tmod (zP law f (M1 rt) len) (zD law (M1 rt) len))).1 rt = M1 rt from ((jW_f (by omega)).trans ((jW_f (by omega)).trans rfl))]; exact hG, Or.inr (Or.inl ⟨rfl, by omega, ?_, ?_⟩)⟩
                  · rw [show (jW (jW (M1, w.2) r 3 1) r 4 (Int.tmod (zP law f (M1 rt) len) (zD law (M1 rt) len))).1 rt = M1 rt from ((jW_f (by omega)).trans ((jW_f (by omega)).trans rfl))]; exact hx1
                  · rw [show (jW (jW (M1, w.2) r 3 1) r 4 (Int.tmod (zP law f (M1 rt) len) (zD law (M1 rt) len))).1 rt = M1 rt from ((jW_f (by omega)).trans ((jW_f (by omega)).trans rfl))]
                · have hx1' := hx1
                  show jWp 20 68 [some (jO r), some (jI (len : Int))] [jI 0] 0 0 (jW (M1, w.2) r 3 2) _
                  refine jWp.ifc (b := true) mt rfl (by decide) rfl ?_
                  show jWp 20 84 [some (jO r), some (jI (len : Int))] [] 0 0 (jW (M1, w.2) r 3 2) _
                  refine jWp.vret mt rfl ⟨rfl, rfl⟩ rfl ?_
                  refine ⟨rfl, (⟨rfl, fun a ga gb => ((jW_f (by omega)).trans rfl).trans (hF.2.1 a ga gb), fun j gj => ((jW_k (by omega)).trans rfl).trans (hF.2.2 j gj)⟩ : grF w r rt (jW (M1, w.2) r 3 2)), len, 2, 0, (((jW_k (by decide)).trans rfl).trans k2), jW_s, (((jW_k (by decide)).trans rfl).trans k4), by rw [show (jW (M1, w.2) r 3 2).1 rt = M1 rt from ((jW_f (by omega)).trans rfl)]; exact hG, Or.inr (Or.inr ⟨rfl, by omega, ?_, ?_, rfl⟩)⟩
                  · rw [show (jW (M1, w.2) r 3 2).1 rt = M1 rt from ((jW_f (by omega)).trans rfl)]; exact hx1
                  · rw [show (jW (M1, w.2) r 3 2).1 rt = M1 rt from ((jW_f (by omega)).trans rfl)]; exact hx2
          refine jWp.le (l := [some (jO r), some (jI (zO law))]) (by exact ⟨rfl, rfl, trivial⟩) ?_
          obtain ⟨o9, ho9⟩ : ∃ o : Nat, zO law = (o : Int) := ⟨(zO law).toNat, by omega⟩
          have ho8 : (zO law).toNat = o9 := by omega
          rw [show (some (jI (zO law)) : Option jV) = some (jI (((zO law).toNat : Nat) : Int)) by rw [show (((zO law).toNat : Nat) : Int) = zO law by omega]]
          exact lp8 _ (zO law).toNat (jW (jW (jW (kA w rt T) r 2 (zO law)) r 3 0) r 4 0).1 (⟨rfl, fun a ga gb => ((jW_f (by omega)).trans ((jW_f (by omega)).trans ((jW_f (by omega)).trans ((kA_f (by omega)).trans rfl)))), fun j gj => ((jW_k (by omega)).trans ((jW_k (by omega)).trans ((jW_k (by omega)).trans ((kA_a (by omega)).trans rfl))))⟩ : grF w r rt (jW (jW (jW (kA w rt T) r 2 (zO law)) r 3 0) r 4 0)) (((jW_k (by decide)).trans ((jW_k (by decide)).trans jW_s)).trans (by omega)) ((jW_k (by decide)).trans jW_s) jW_s (by rw [show (jW (jW (jW (kA w rt T) r 2 (zO law)) r 3 0) r 4 0).1 rt = T from ((jW_f (by omega)).trans ((jW_f (by omega)).trans ((jW_f (by omega)).trans kA_fs)))]; exact ⟨Nat.le_refl _, by omega, fun y hy => hT y (by omega), fun n g1 g2 => absurd g1 (by omega)⟩) (Nat.lt_succ_self _)
        · have h7 : (i : Int) < 8 := h7
          refine jWp.blk mt 1 ?_
          show _ ∧ jWp 20 17 [some (jO r), some (jI (i : Int))] [jO r] 0 0 (kA w rt T) _
          refine ⟨rfl, ?_⟩
          refine jWp.getR (pc' := 20) (o := rt) mt rfl rfl (jtg hkr) hrt ?_
          show jWp 20 20 [some (jO r), some (jI (i : Int))] [jO rt] 0 0 (kA w rt T) _
          refine jWp.blk mt 2 ?_
          show _ ∧ jWp 20 22 [some (jO r), some (jI (i : Int))] [jO r, jI (i : Int), jO rt] 0 0 (kA w rt T) _
          refine ⟨rfl, ?_⟩
          refine jWp.getR (pc' := 25) (o := rs) mt rfl rfl (jtg hkr) hrs ?_
          show jWp 20 25 [some (jO r), some (jI (i : Int))] [jO rs, jI (i : Int), jO rt] 0 0 (kA w rt T) _
          refine jWp.blk mt 1 ?_
          show jWp 20 26 [some (jO r), some (jI (i : Int))] [jI (i : Int), jO rs, jI (i : Int), jO rt] 0 0 (kA w rt T) _
          refine jWp.iald (pc' := 27) (j := i) mt rfl rfl (jird_of hks) (b32_id (by omega) (by omega)) (jlt hks (by omega)) ?_
          rw [show ((kA w rt T).1 rs i) = (s i) from (((kA_a (by omega)).trans rfl).trans (hst i (by omega)))]
          show jWp 20 27 [some (jO r), some (jI (i : Int))] [jI (s i), jI (i : Int), jO rt] 0 0 (kA w rt T) _
          refine jWp.iast (pc' := 28) (j := i) mt rfl rfl (jtg hkt) (b32_id (by omega) (by omega)) (jlt hkt (by omega)) ?_
          rw [show jW (kA w rt T) rt i (s i) = (kA w rt (zset T i (s i))) from kA_W]
          show jWp 20 28 [some (jO r), some (jI (i : Int))] [] 0 0 (kA w rt (zset T i (s i))) _
          refine jWp.blk mt 2 ?_
          show jWp 20 2 [some (jO r), some (jI ((i : Int) + 1))] [] 0 0 (kA w rt (zset T i (s i))) _
          refine jWp.le (l := [some (jO r), some (jI ((i : Int) + 1))]) (by exact ⟨rfl, rfl, trivial⟩) ?_
          exact ih2 (i + 1) _ (by omega) (fun y hy => by rcases Nat.lt_or_ge y i with e | e; rw [zset_n (by omega)]; exact hT y e; rw [show y = i by omega, zset_s]) (by omega)
  refine jWp.le (l := [some (jO r), some (jI 0)]) (by exact ⟨rfl, rfl, trivial⟩) ?_
  have key := lp1 _ 0 (w.1 rt) (by omega) (fun y hy => absurd hy (by omega)) (Nat.lt_succ_self _)
  rw [kA_self] at key
  exact key
def cRo (w : jS) (r rs rt : Nat) (law f : Int) (s : Nat → Int) : Prop := w.1 r 0 = law ∧ w.1 r 1 = f ∧ (∀ y, y < 8 → w.1 rs y = s y) ∧ ∃ (len : Nat) (why left : Int), w.1 r 2 = (len : Int) ∧ w.1 r 3 = why ∧ w.1 r 4 = left ∧ zGr law f s (w.1 rt) len ∧ zEn law f (w.1 rt) len why left
set_option maxHeartbeats 4000000 in
set_option maxRecDepth 20000 in
theorem C_found {w : jS} {r rs rt : Nat} (hkr : w.2.1 r = (4, 0)) (hks : w.2.1 rs = (100, 8)) (hkt : w.2.1 rt = (100, 60)) (hrs : w.2.2.1 r 5 = some rs) (hrt : w.2.2.1 r 6 = some rt) (hO : jOK w) {law f : Int} (hl0 : 0 ≤ law) (hl6 : law ≤ 6) (hf : 0 ≤ f ∧ f ≤ 9) : jCall 16 [jO r, jI law, jI f] w (fun v w1 => v = none ∧ (w1.2 = w.2 ∧ ∀ a, a ≠ r → a ≠ rs → a ≠ rt → w1.1 a = w.1 a) ∧ cRo w1 r rs rt law f (fun _ => 1)) := by
  have mt : jtb 16 = jT16 := rfl
  have hnr1 : r ≠ rs := kne hkr hks (by decide)
  have hnr2 : r ≠ rt := kne hkr hkt (by decide)
  have hnr3 : rs ≠ rt := kne2 hks hkt (by decide)
  have hao1 : r ≠ w.2.2.2.2 := kne hkr hO.1 (by decide)
  have hao2 : rs ≠ w.2.2.2.2 := kne hks hO.1 (by decide)
  have hao3 : rt ≠ w.2.2.2.2 := kne hkt hO.1 (by decide)
  show jWp 16 0 [some (jO r), some (jI law), some (jI f)] [] 0 0 w _
  refine jWp.blk mt 2 ?_
  show _ ∧ jWp 16 2 [some (jO r), some (jI law), some (jI f)] [jI law, jO r] 0 0 w _
  refine ⟨rfl, ?_⟩
  refine jWp.putI (pc' := 5) mt rfl rfl (jtg hkr) ?_
  show jWp 16 5 [some (jO r), some (jI law), some (jI f)] [] 0 0 (jW w r 0 law) _
  refine jWp.blk mt 2 ?_
  show _ ∧ jWp 16 7 [some (jO r), some (jI law), some (jI f)] [jI f, jO r] 0 0 (jW w r 0 law) _
  refine ⟨rfl, ?_⟩
  refine jWp.putI (pc' := 10) mt rfl rfl (jtg hkr) ?_
  show jWp 16 10 [some (jO r), some (jI law), some (jI f)] [] 0 0 (jW (jW w r 0 law) r 1 f) _
  refine jWp.blk mt 1 ?_
  show _ ∧ jWp 16 11 [some (jO r), some (jI law), some (jI f)] [jO r] 0 0 (jW (jW w r 0 law) r 1 f) _
  refine ⟨rfl, ?_⟩
  refine jWp.getR (pc' := 14) (o := rs) mt rfl rfl (jtg hkr) hrs ?_
  show jWp 16 14 [some (jO r), some (jI law), some (jI f)] [jO rs] 0 0 (jW (jW w r 0 law) r 1 f) _
  refine jWp.blk mt 1 ?_
  show jWp 16 15 [some (jO r), some (jI law), some (jI f)] [jI 1, jO rs] 0 0 (jW (jW w r 0 law) r 1 f) _
  refine jWp.calls (as := [jO rs, jI 1]) (rest := []) mt rfl rfl rfl rfl ?_
  refine jCall.mono (E_fill (w := (jW (jW w r 0 law) r 1 f)) hks (by decide)) (fun v9 w9 h9 => ?_)
  obtain ⟨rfl, T, h9, hT⟩ := h9
  subst h9
  have hT : ∀ e, e < 8 → T e = 1 := fun e he => (hT e).trans (if_pos he)
  show jWp 16 18 [some (jO r), some (jI law), some (jI f)] [] 0 0 (kA (jW (jW w r 0 law) r 1 f) rs T) _
  refine jWp.blk mt 1 ?_
  show _ ∧ jWp 16 19 [some (jO r), some (jI law), some (jI f)] [jO r] 0 0 (kA (jW (jW w r 0 law) r 1 f) rs T) _
  refine ⟨rfl, ?_⟩
  refine jWp.callv (as := [jO r]) (rest := []) mt rfl rfl rfl ⟨rfl, jtg hkr⟩ ?_
  refine jCall.mono (C_grow (w := (kA (jW (jW w r 0 law) r 1 f) rs T)) (r := r) (rs := rs) (rt := rt) (law := law) (f := f) (s := (fun _ => 1)) hkr hks hkt hrs hrt (jOK_A (jOK_W (jOK_W hO hao1) hao1) hao2) (((kA_a (by omega)).trans ((jW_k (by decide)).trans jW_s))) hl0 hl6 (((kA_a (by omega)).trans jW_s)) hf (fun y hy => kA_s.trans (hT y hy)) (fun _ _ => by decide)) (fun v9 w9 h9 => ?_)
  obtain ⟨rfl, hF, hE⟩ := h9
  obtain ⟨M1, G9⟩ := w9
  have hg : G9 = w.2 := hF.1
  subst hg
  show jWp 16 22 [some (jO r), some (jI law), some (jI f)] [] 0 0 (M1, w.2) _
  refine jWp.vret mt rfl ⟨rfl, rfl⟩ rfl ?_
  refine ⟨rfl, ⟨rfl, fun a ga gb gc => (hF.2.1 a ga gc).trans ((kA_f (by omega)).trans ((jW_f (by omega)).trans ((jW_f (by omega)).trans rfl)))⟩, ?_, ?_, fun y hy => ?_, hE⟩
  · exact (hF.2.2 0 (by omega)).trans (((kA_a (by omega)).trans ((jW_k (by decide)).trans jW_s)))
  · exact (hF.2.2 1 (by omega)).trans (((kA_a (by omega)).trans jW_s))
  · exact (congrFun (hF.2.1 rs hnr1.symm hnr3) y).trans (kA_s.trans (hT y hy))
set_option maxHeartbeats 4000000 in
set_option maxRecDepth 20000 in
theorem C_rbecome {w : jS} {r rs rt : Nat} (hkr : w.2.1 r = (4, 0)) (hks : w.2.1 rs = (100, 8)) (hkt : w.2.1 rt = (100, 60)) (hrs : w.2.2.1 r 5 = some rs) (hrt : w.2.2.1 r 6 = some rt) (hO : jOK w) {r2 rs2 rt2 : Nat} {law f : Int} {s : Nat → Int} (hkr2 : w.2.1 r2 = (4, 0)) (hks2 : w.2.1 rs2 = (100, 8)) (hrs2 : w.2.2.1 r2 5 = some rs2) (hl0 : 0 ≤ law) (hl6 : law ≤ 6) (hf : 0 ≤ f ∧ f ≤ 9) (hs : ∀ y, y < 8 → 1 ≤ s y ∧ s y ≤ 9) (hn2 : r2 ≠ r) (hc0 : w.1 r2 0 = law) (hc1 : w.1 r2 1 = f) (hcs : ∀ y, y < 8 → w.1 rs2 y = s y) : jCall 17 [jO r, jO r2] w (fun v w1 => v = none ∧ (w1.2 = w.2 ∧ ∀ a, a ≠ r → a ≠ rs → a ≠ rt → w1.1 a = w.1 a) ∧ cRo w1 r rs rt law f s) := by
  have mt : jtb 17 = jT17 := rfl
  have hnr1 : r ≠ rs := kne hkr hks (by decide)
  have hnr2 : r ≠ rt := kne hkr hkt (by decide)
  have hnr3 : rs ≠ rt := kne2 hks hkt (by decide)
  have hao1 : r ≠ w.2.2.2.2 := kne hkr hO.1 (by decide)
  have hao2 : rs ≠ w.2.2.2.2 := kne hks hO.1 (by decide)
  have hao3 : rt ≠ w.2.2.2.2 := kne hkt hO.1 (by decide)
  have hnr4 : rs2 ≠ r := kne hks2 hkr (by decide)
  show jWp 17 0 [some (jO r), some (jO r2)] [] 0 0 w _
  refine jWp.blk mt 2 ?_
  show _ ∧ _ ∧ jWp 17 2 [some (jO r), some (jO r2)] [jO r2, jO r] 0 0 w _
  refine ⟨rfl, rfl, ?_⟩
  refine jWp.getI (pc' := 5) mt rfl rfl (jtg hkr2) ?_
  rw [show (w.1 r2 0) = law from hc0]
  show jWp 17 5 [some (jO r), some (jO r2)] [jI law, jO r] 0 0 w _
  refine jWp.putI (pc' := 8) mt rfl rfl (jtg hkr) ?_
  show jWp 17 8 [some (jO r), some (jO r2)] [] 0 0 (jW w r 0 law) _
  refine jWp.blk mt 2 ?_
  show _ ∧ _ ∧ jWp 17 10 [some (jO r), some (jO r2)] [jO r2, jO r] 0 0 (jW w r 0 law) _
  refine ⟨rfl, rfl, ?_⟩
  refine jWp.getI (pc' := 13) mt rfl rfl (jtg hkr2) ?_
  rw [show ((jW w r 0 law).1 r2 1) = f from (((jW_a (by omega)).trans rfl).trans hc1)]
  show jWp 17 13 [some (jO r), some (jO r2)] [jI f, jO r] 0 0 (jW w r 0 law) _
  refine jWp.putI (pc' := 16) mt rfl rfl (jtg hkr) ?_
  show jWp 17 16 [some (jO r), some (jO r2)] [] 0 0 (jW (jW w r 0 law) r 1 f) _
  refine jWp.blk mt 1 ?_
  show _ ∧ jWp 17 17 [some (jO r), some (jO r2)] [jO r2] 0 0 (jW (jW w r 0 law) r 1 f) _
  refine ⟨rfl, ?_⟩
  refine jWp.getR (pc' := 20) (o := rs2) mt rfl rfl (jtg hkr2) hrs2 ?_
  show jWp 17 20 [some (jO r), some (jO r2)] [jO rs2] 0 0 (jW (jW w r 0 law) r 1 f) _
  refine jWp.blk mt 2 ?_
  show _ ∧ jWp 17 22 [some (jO r), some (jO r2)] [jO r, jI 0, jO rs2] 0 0 (jW (jW w r 0 law) r 1 f) _
  refine ⟨rfl, ?_⟩
  refine jWp.getR (pc' := 25) (o := rs) mt rfl rfl (jtg hkr) hrs ?_
  show jWp 17 25 [some (jO r), some (jO r2)] [jO rs, jI 0, jO rs2] 0 0 (jW (jW w r 0 law) r 1 f) _
  refine jWp.blk mt 2 ?_
  show jWp 17 28 [some (jO r), some (jO r2)] [jI 8, jI 0, jO rs, jI 0, jO rs2] 0 0 (jW (jW w r 0 law) r 1 f) _
  refine jWp.copy (pc' := 31) (jm := 8) (jd := 0) (js := 0) mt rfl rfl rfl (jtg hks) (jtg hks2) (by decide) (by decide) (by decide) (by rw [hks2]; decide) (by rw [hks]; decide) ?_
  show jWp 17 31 [some (jO r), some (jO r2)] [] 0 0 (jcpy (jW (jW w r 0 law) r 1 f).1 rs2 0 rs 0 8, (jW (jW w r 0 law) r 1 f).2) _
  refine jWp.blk mt 1 ?_
  show _ ∧ jWp 17 32 [some (jO r), some (jO r2)] [jO r] 0 0 (jcpy (jW (jW w r 0 law) r 1 f).1 rs2 0 rs 0 8, (jW (jW w r 0 law) r 1 f).2) _
  refine ⟨rfl, ?_⟩
  refine jWp.callv (as := [jO r]) (rest := []) mt rfl rfl rfl ⟨rfl, jtg hkr⟩ ?_
  refine jCall.mono (C_grow (w := (jcpy (jW (jW w r 0 law) r 1 f).1 rs2 0 rs 0 8, (jW (jW w r 0 law) r 1 f).2)) (r := r) (rs := rs) (rt := rt) (law := law) (f := f) (s := s) hkr hks hkt hrs hrt ⟨hO.1, fun j => (if_neg (fun e => hao2 e.1.symm)).trans ((jW_a hao1.symm).trans ((jW_a hao1.symm).trans (hO.2 j)))⟩ (((if_neg (fun e => hnr1 e.1)).trans ((jW_k (by decide)).trans jW_s))) hl0 hl6 (((if_neg (fun e => hnr1 e.1)).trans jW_s)) hf (fun y hy => ((if_pos ⟨rfl, by omega, by omega⟩).trans (by rw [show 0 + (y - 0) = y by omega]; exact ((jW_a (by omega)).trans ((jW_a (by omega)).trans rfl)).trans (hcs y hy)))) hs) (fun v9 w9 h9 => ?_)
  obtain ⟨rfl, hF, hE⟩ := h9
  obtain ⟨M1, G9⟩ := w9
  have hg : G9 = w.2 := hF.1
  subst hg
  show jWp 17 35 [some (jO r), some (jO r2)] [] 0 0 (M1, w.2) _
  refine jWp.vret mt rfl ⟨rfl, rfl⟩ rfl ?_
  refine ⟨rfl, ⟨rfl, fun a ga gb gc => (hF.2.1 a ga gc).trans (funext fun j => (if_neg (fun e => gb e.1)).trans ((jW_a ga).trans (jW_a ga)))⟩, ?_, ?_, fun y hy => ?_, hE⟩
  · exact (hF.2.2 0 (by omega)).trans ((if_neg (fun e => hnr1 e.1)).trans ((jW_k (by decide)).trans jW_s))
  · exact (hF.2.2 1 (by omega)).trans ((if_neg (fun e => hnr1 e.1)).trans jW_s)
  · exact (congrFun (hF.2.1 rs hnr1.symm hnr3) y).trans ((if_pos ⟨rfl, by omega, by omega⟩).trans (by rw [show 0 + (y - 0) = y by omega]; exact ((jW_a (by omega)).trans ((jW_a (by omega)).trans rfl)).trans (hcs y hy)))
set_option maxHeartbeats 4000000 in
set_option maxRecDepth 20000 in
theorem C_tellStart {w : jS} {r rs rt : Nat} (hkr : w.2.1 r = (4, 0)) (hks : w.2.1 rs = (100, 8)) (hkt : w.2.1 rt = (100, 60)) (hrs : w.2.2.1 r 5 = some rs) (hrt : w.2.2.1 r 6 = some rt) (hO : jOK w) {law f : Int} (hlaw : w.1 r 0 = law) (hl0 : 0 ≤ law) (hl6 : law ≤ 6) (hfig : w.1 r 1 = f) (hf : 0 ≤ f ∧ f ≤ 9) {s : Nat → Int} (hst : ∀ y, y < 8 → w.1 rs y = s y) (hs : ∀ y, y < 8 → 1 ≤ s y ∧ s y ≤ 9) {i : Nat} {v : Int} (hi : i < 8) (hv : 1 ≤ v ∧ v ≤ 9) : jCall 19 [jO r, jI (i : Int), jI v] w (fun x w1 => x = some (jI (s i)) ∧ (w1.2 = w.2 ∧ ∀ a, a ≠ r → a ≠ rs → a ≠ rt → w1.1 a = w.1 a) ∧ cRo w1 r rs rt law f (zset s i v)) := by
  have mt : jtb 19 = jT19 := rfl
  have hnr1 : r ≠ rs := kne hkr hks (by decide)
  have hnr2 : r ≠ rt := kne hkr hkt (by decide)
  have hnr3 : rs ≠ rt := kne2 hks hkt (by decide)
  have hao1 : r ≠ w.2.2.2.2 := kne hkr hO.1 (by decide)
  have hao2 : rs ≠ w.2.2.2.2 := kne hks hO.1 (by decide)
  have hao3 : rt ≠ w.2.2.2.2 := kne hkt hO.1 (by decide)
  show jWp 19 0 [some (jO r), some (jI (i : Int)), some (jI v), none] [] 0 0 w _
  refine jWp.blk mt 1 ?_
  show jWp 19 1 [some (jO r), some (jI (i : Int)), some (jI v), none] [jI (i : Int)] 0 0 w _
  refine jWp.ifz (pc' := 4) mt rfl rfl (b32_id (by omega) (by omega)) (fun h1 => ?_) (fun h1 => ?_)
  · have h1 : (i : Int) < 0 := h1
    exfalso; omega
  · have h1 : 0 ≤ (i : Int) := h1
    refine jWp.blk mt 2 ?_
    show jWp 19 7 [some (jO r), some (jI (i : Int)), some (jI v), none] [jI 8, jI (i : Int)] 0 0 w _
    refine jWp.icmp (pc' := 10) mt rfl rfl (b32_id (by omega) (by omega)) (show b32 8 = 8 by decide) (fun h2 => ?_) (fun h2 => ?_)
    · have h2 : (i : Int) < 8 := h2
      refine jWp.blk mt 1 ?_
      show _ ∧ jWp 19 13 [some (jO r), some (jI (i : Int)), some (jI v), none] [jO r] 0 0 w _
      refine ⟨rfl, ?_⟩
      refine jWp.getR (pc' := 16) (o := rs) mt rfl rfl (jtg hkr) hrs ?_
      show jWp 19 16 [some (jO r), some (jI (i : Int)), some (jI v), none] [jO rs] 0 0 w _
      refine jWp.blk mt 1 ?_
      show jWp 19 17 [some (jO r), some (jI (i : Int)), some (jI v), none] [jI (i : Int), jO rs] 0 0 w _
      refine jWp.iald (pc' := 18) (j := i) mt rfl rfl (jird_of hks) (b32_id (by omega) (by omega)) (jlt hks (by omega)) ?_
      rw [show (w.1 rs i) = (s i) from (hst i (by omega))]
      show jWp 19 18 [some (jO r), some (jI (i : Int)), some (jI v), none] [jI (s i)] 0 0 w _
      refine jWp.blk mt 2 ?_
      show _ ∧ jWp 19 20 [some (jO r), some (jI (i : Int)), some (jI v), some (jI (s i))] [jO r] 0 0 w _
      refine ⟨rfl, ?_⟩
      refine jWp.getR (pc' := 23) (o := rs) mt rfl rfl (jtg hkr) hrs ?_
      show jWp 19 23 [some (jO r), some (jI (i : Int)), some (jI v), some (jI (s i))] [jO rs] 0 0 w _
      refine jWp.blk mt 2 ?_
      show jWp 19 25 [some (jO r), some (jI (i : Int)), some (jI v), some (jI (s i))] [jI v, jI (i : Int), jO rs] 0 0 w _
      refine jWp.iast (pc' := 26) (j := i) mt rfl rfl (jtg hks) (b32_id (by omega) (by omega)) (jlt hks (by omega)) ?_
      show jWp 19 26 [some (jO r), some (jI (i : Int)), some (jI v), some (jI (s i))] [] 0 0 (jW w rs i v) _
      refine jWp.blk mt 1 ?_
      show _ ∧ jWp 19 27 [some (jO r), some (jI (i : Int)), some (jI v), some (jI (s i))] [jO r] 0 0 (jW w rs i v) _
      refine ⟨rfl, ?_⟩
      refine jWp.callv (as := [jO r]) (rest := []) mt rfl rfl rfl ⟨rfl, jtg hkr⟩ ?_
      refine jCall.mono (C_grow (w := (jW w rs i v)) (r := r) (rs := rs) (rt := rt) (law := law) (f := f) (s := zset s i v) hkr hks hkt hrs hrt (jOK_W hO hao2) ((jW_a hnr1).trans hlaw) hl0 hl6 ((jW_a hnr1).trans hfig) hf (fun y hy => by by_cases e : y = i; rw [e, zset_s]; exact jW_s; rw [zset_n e]; exact (jW_k e).trans (hst y hy)) (fun y hy => by by_cases e : y = i; rw [e, zset_s]; exact hv; rw [zset_n e]; exact hs y hy)) (fun v9 w9 h9 => ?_)
      obtain ⟨rfl, hF, hE⟩ := h9
      obtain ⟨M1, G9⟩ := w9
      have hg : G9 = w.2 := hF.1
      subst hg
      show jWp 19 30 [some (jO r), some (jI (i : Int)), some (jI v), some (jI (s i))] [] 0 0 (M1, w.2) _
      refine jWp.blk mt 1 ?_
      show jWp 19 31 [some (jO r), some (jI (i : Int)), some (jI v), some (jI (s i))] [jI (s i)] 0 0 (M1, w.2) _
      refine jWp.ireti mt rfl ⟨rfl, rfl⟩ rfl ?_
      refine ⟨rfl, ⟨rfl, fun a ga gb gc => (hF.2.1 a ga gc).trans (jW_f gb)⟩, ?_, ?_, fun y hy => ?_, hE⟩
      · exact (hF.2.2 0 (by omega)).trans ((jW_a hnr1).trans hlaw)
      · exact (hF.2.2 1 (by omega)).trans ((jW_a hnr1).trans hfig)
      · refine (congrFun (hF.2.1 rs hnr1.symm hnr3) y).trans ?_
        by_cases e : y = i
        · rw [e, zset_s]; exact jW_s
        · rw [zset_n e]; exact (jW_k e).trans (hst y hy)
    · have h2 : 8 ≤ (i : Int) := h2
      exfalso; omega
end
section
set_option maxHeartbeats 4000000 in
set_option maxRecDepth 20000 in
theorem C_reaches {w : jS} {r rt len : Nat} (hkr : w.2.1 r = (4, 0)) (hkt : w.2.1 rt = (100, 60)) (hrt : w.2.2.1 r 6 = some rt) (hlen : w.1 r 2 = (len : Int)) (hl60 : len ≤ 60) (hgb : ∀ j, j < len → -100000000 ≤ w.1 rt j ∧ w.1 rt j ≤ 100000000) {n : Int} (hrn : r32 n) : jCall 22 [jO r, jI n] w (jvb (0 ≤ n ∧ n < (len : Int)) w) := by
  have mt : jtb 22 = jT22 := rfl
  have hrn1 : -2147483648 ≤ n ∧ n < 2147483648 := hrn
  show jWp 22 0 [some (jO r), some (jI n)] [] 0 0 w _
  refine jWp.blk mt 1 ?_
  show jWp 22 1 [some (jO r), some (jI n)] [jI n] 0 0 w _
  refine jWp.ifz (pc' := 4) mt rfl rfl (b32_id (by omega) (by omega)) (fun h1 => ?_) (fun h1 => ?_)
  · have h1 : n < 0 := h1
    refine jWp.blk mt 1 ?_
    show jWp 22 23 [some (jO r), some (jI n)] [jI 0] 0 0 w _
    refine jWp.iretz mt rfl ⟨rfl, rfl⟩ rfl (Or.inl rfl) ?_
    exact Or.inr ⟨rfl, rfl, by omega⟩
  · have h1 : 0 ≤ n := h1
    refine jWp.blk mt 2 ?_
    show _ ∧ jWp 22 6 [some (jO r), some (jI n)] [jO r, jI n] 0 0 w _
    refine ⟨rfl, ?_⟩
    refine jWp.getI (pc' := 9) mt rfl rfl (jtg hkr) ?_
    rw [show (w.1 r 2) = (len : Int) from hlen]
    show jWp 22 9 [some (jO r), some (jI n)] [jI (len : Int), jI n] 0 0 w _
    refine jWp.icmp (pc' := 12) mt rfl rfl (b32_id (by omega) (by omega)) (b32_id (by omega) (by omega)) (fun h2 => ?_) (fun h2 => ?_)
    · have h2 : (len : Int) ≤ n := h2
      refine jWp.blk mt 1 ?_
      show jWp 22 23 [some (jO r), some (jI n)] [jI 0] 0 0 w _
      refine jWp.iretz mt rfl ⟨rfl, rfl⟩ rfl (Or.inl rfl) ?_
      exact Or.inr ⟨rfl, rfl, by omega⟩
    · have h2 : n < (len : Int) := h2
      refine jWp.blk mt 2 ?_
      show jWp 22 15 [some (jO r), some (jI n)] [jI 60, jI n] 0 0 w _
      refine jWp.icmp (pc' := 18) mt rfl rfl (b32_id (by omega) (by omega)) (show b32 60 = 60 by decide) (fun h3 => ?_) (fun h3 => ?_)
      · have h3 : 60 ≤ n := h3
        refine jWp.blk mt 1 ?_
        show jWp 22 23 [some (jO r), some (jI n)] [jI 0] 0 0 w _
        refine jWp.iretz mt rfl ⟨rfl, rfl⟩ rfl (Or.inl rfl) ?_
        exact Or.inr ⟨rfl, rfl, by omega⟩
      · have h3 : n < 60 := h3
        refine jWp.blk mt 2 ?_
        show jWp 22 23 [some (jO r), some (jI n)] [jI 1] 0 0 w _
        refine jWp.iretz mt rfl ⟨rfl, rfl⟩ rfl (Or.inr rfl) ?_
        exact Or.inl ⟨rfl, rfl, by omega⟩
def zta (t : Nat → Int) (len n : Nat) : Int := if n < len then t n else 0
theorem zta_t {t : Nat → Int} {len n : Nat} (h : n < len) : zta t len n = t n := if_pos h
theorem zta_f {t : Nat → Int} {len n : Nat} (h : ¬ n < len) : zta t len n = 0 := if_neg h
theorem zta_b {t : Nat → Int} {len n : Nat} (h : ∀ j, j < len → -100000000 ≤ t j ∧ t j ≤ 100000000) : -100000000 ≤ zta t len n ∧ zta t len n ≤ 100000000 := by
  unfold zta
  split
  · exact h _ (by assumption)
  · decide
set_option maxHeartbeats 4000000 in
set_option maxRecDepth 20000 in
theorem C_termAt {w : jS} {r rt len : Nat} (hkr : w.2.1 r = (4, 0)) (hkt : w.2.1 rt = (100, 60)) (hrt : w.2.2.1 r 6 = some rt) (hlen : w.1 r 2 = (len : Int)) (hl60 : len ≤ 60) (hgb : ∀ j, j < len → -100000000 ≤ w.1 rt j ∧ w.1 rt j ≤ 100000000) {n : Nat} (hn : n < 2147483648) : jCall 23 [jO r, jI (n : Int)] w (jvi (zta (w.1 rt) len n) w) := by
  have mt : jtb 23 = jT23 := rfl
  show jWp 23 0 [some (jO r), some (jI (n : Int))] [] 0 0 w _
  refine jWp.blk mt 2 ?_
  show _ ∧ jWp 23 2 [some (jO r), some (jI (n : Int))] [jI (n : Int), jO r] 0 0 w _
  refine ⟨rfl, ?_⟩
  refine jWp.callv (as := [jO r, jI (n : Int)]) (rest := []) mt rfl rfl rfl ⟨rfl, jtg hkr⟩ ?_
  refine jCall.mono (C_reaches (w := w) (r := r) (rt := rt) (len := len) hkr hkt hrt hlen hl60 hgb (n := (n : Int)) (by constructor <;> omega)) (fun v9 w9 h9 => ?_)
  rcases h9 with ⟨rfl, h9, h1⟩ | ⟨rfl, h9, h1⟩ <;> subst w9
  · have h1 : 0 ≤ (n : Int) ∧ (n : Int) < (len : Int) := h1
    show jWp 23 5 [some (jO r), some (jI (n : Int))] [jI 1] 0 0 w _
    refine jWp.ifc (b := false) mt rfl (by decide) rfl ?_
    show jWp 23 8 [some (jO r), some (jI (n : Int))] [] 0 0 w _
    refine jWp.blk mt 1 ?_
    show _ ∧ jWp 23 9 [some (jO r), some (jI (n : Int))] [jO r] 0 0 w _
    refine ⟨rfl, ?_⟩
    refine jWp.getR (pc' := 12) (o := rt) mt rfl rfl (jtg hkr) hrt ?_
    show jWp 23 12 [some (jO r), some (jI (n : Int))] [jO rt] 0 0 w _
    refine jWp.blk mt 1 ?_
    show jWp 23 13 [some (jO r), some (jI (n : Int))] [jI (n : Int), jO rt] 0 0 w _
    refine jWp.iald (pc' := 14) (j := n) mt rfl rfl (jird_of hkt) (b32_id (by omega) (by omega)) (jlt hkt (by omega)) ?_
    show jWp 23 14 [some (jO r), some (jI (n : Int))] [jI (w.1 rt n)] 0 0 w _
    refine jWp.blk mt 1 ?_
    show jWp 23 18 [some (jO r), some (jI (n : Int))] [jI (w.1 rt n)] 0 0 w _
    refine jWp.ireti mt rfl ⟨rfl, rfl⟩ rfl ?_
    exact ⟨by rw [zta_t (by omega)], rfl⟩
  · have h1 : ¬ (0 ≤ (n : Int) ∧ (n : Int) < (len : Int)) := h1
    show jWp 23 5 [some (jO r), some (jI (n : Int))] [jI 0] 0 0 w _
    refine jWp.ifc (b := true) mt rfl (by decide) rfl ?_
    show jWp 23 17 [some (jO r), some (jI (n : Int))] [] 0 0 w _
    refine jWp.blk mt 1 ?_
    show jWp 23 18 [some (jO r), some (jI (n : Int))] [jI 0] 0 0 w _
    refine jWp.ireti mt rfl ⟨rfl, rfl⟩ rfl ?_
    exact ⟨by rw [zta_f (by omega)], rfl⟩
set_option maxHeartbeats 4000000 in
set_option maxRecDepth 20000 in
theorem C_firstBelow {w : jS} {r rt len : Nat} (hkr : w.2.1 r = (4, 0)) (hkt : w.2.1 rt = (100, 60)) (hrt : w.2.2.1 r 6 = some rt) (hlen : w.1 r 2 = (len : Int)) (hl60 : len ≤ 60) (hgb : ∀ j, j < len → -100000000 ≤ w.1 rt j ∧ w.1 rt j ≤ 100000000) : jCall 24 [jO r] w (jvi (zff (fun k => w.1 rt k < 1) len 0) w) := by
  have mt : jtb 24 = jT24 := rfl
  show jWp 24 0 [some (jO r), none] [] 0 0 w _
  refine jWp.blk mt 2 ?_
  show jWp 24 2 [some (jO r), some (jI 0)] [] 0 0 w _
  have lp1 : ∀ (N : Nat) (k : Nat) (hk : k ≤ len) (hr : zff (fun k => w.1 rt k < 1) (len - k) k = zff (fun k => w.1 rt k < 1) (len) 0), len - k < N → jWp 24 2 [some (jO r), some (jI (k : Int))] [] 0 0 w (jvi (zff (fun k => w.1 rt k < 1) len 0) w) := by
    intro N
    induction N with
    | zero => intro k hk hr hm; omega
    | succ N ih2 =>
      intro k hk hr hm
      have hf : k < len → _ := fun h => hgb k h
      refine jWp.blk mt 2 ?_
      show _ ∧ jWp 24 4 [some (jO r), some (jI (k : Int))] [jO r, jI (k : Int)] 0 0 w _
      refine ⟨rfl, ?_⟩
      refine jWp.getI (pc' := 7) mt rfl rfl (jtg hkr) ?_
      rw [show (w.1 r 2) = (len : Int) from hlen]
      show jWp 24 7 [some (jO r), some (jI (k : Int))] [jI (len : Int), jI (k : Int)] 0 0 w _
      refine jWp.icmp (pc' := 10) mt rfl rfl (b32_id (by omega) (by omega)) (b32_id (by omega) (by omega)) (fun h3 => ?_) (fun h3 => ?_)
      · have h3 : (len : Int) ≤ (k : Int) := h3
        refine jWp.blk mt 1 ?_
        show jWp 24 29 [some (jO r), some (jI (k : Int))] [jI (-9)] 0 0 w _
        refine jWp.ireti mt rfl ⟨rfl, rfl⟩ rfl ?_
        refine ⟨?_, rfl⟩
        rw [← hr, show len - k = 0 by omega]; rfl
      · have h3 : (k : Int) < (len : Int) := h3
        refine jWp.blk mt 2 ?_
        show _ ∧ jWp 24 12 [some (jO r), some (jI (k : Int))] [jI (k : Int), jO r] 0 0 w _
        refine ⟨rfl, ?_⟩
        refine jWp.callv (as := [jO r, jI (k : Int)]) (rest := []) mt rfl rfl rfl ⟨rfl, jtg hkr⟩ ?_
        refine jCall.mono (C_termAt (w := w) (r := r) (rt := rt) (len := len) hkr hkt hrt hlen hl60 hgb (n := k) (by omega)) (fun v9 w9 h9 => ?_)
        obtain ⟨rfl, h9⟩ := h9
        subst w9
        show jWp 24 15 [some (jO r), some (jI (k : Int))] [jI (zta (w.1 rt) len k)] 0 0 w _
        have := zta_b (n := k) hgb
        have : k < len → (zta (w.1 rt) len k) = w.1 rt k := fun h => zta_t h
        have : ¬ k < len → (zta (w.1 rt) len k) = 0 := fun h => zta_f h
        refine jWp.blk mt 1 ?_
        show jWp 24 16 [some (jO r), some (jI (k : Int))] [jI 1, jI (zta (w.1 rt) len k)] 0 0 w _
        refine jWp.icmp (pc' := 19) mt rfl rfl (b32_id (by omega) (by omega)) (show b32 1 = 1 by decide) (fun h4 => ?_) (fun h4 => ?_)
        · have h4 : 1 ≤ (zta (w.1 rt) len k) := h4
          refine jWp.blk mt 2 ?_
          show jWp 24 2 [some (jO r), some (jI ((k : Int) + 1))] [] 0 0 w _
          refine jWp.le (l := [some (jO r), some (jI ((k : Int) + 1))]) (by exact ⟨rfl, rfl, trivial⟩) ?_
          exact ih2 (k + 1) (by omega) (by rw [← hr, show len - k = (len - (k + 1)) + 1 by omega, zff_f (by omega)]) (by omega)
        · have h4 : (zta (w.1 rt) len k) < 1 := h4
          refine jWp.blk mt 1 ?_
          show jWp 24 20 [some (jO r), some (jI (k : Int))] [jI (k : Int)] 0 0 w _
          refine jWp.ireti mt rfl ⟨rfl, rfl⟩ rfl ?_
          refine ⟨?_, rfl⟩
          rw [← hr, show len - k = (len - (k + 1)) + 1 by omega, zff_t (by omega)]
  refine jWp.le (l := [some (jO r), some (jI 0)]) (by exact ⟨rfl, rfl, trivial⟩) ?_
  exact lp1 _ 0 (by omega) (by rw [Nat.sub_zero]) (Nat.lt_succ_self _)
set_option maxHeartbeats 4000000 in
set_option maxRecDepth 20000 in
theorem C_firstCommon {w : jS} {r rt len : Nat} (hkr : w.2.1 r = (4, 0)) (hkt : w.2.1 rt = (100, 60)) (hrt : w.2.2.1 r 6 = some rt) (hlen : w.1 r 2 = (len : Int)) (hl60 : len ≤ 60) (hgb : ∀ j, j < len → -100000000 ≤ w.1 rt j ∧ w.1 rt j ≤ 100000000) (hl2 : 2 ≤ len) : jCall 25 [jO r] w (jvi (zff (fun k => zg (w.1 rt k) (w.1 rt (k + 1)) ≠ 1) (len - 1) 0) w) := by
  have mt : jtb 25 = jT25 := rfl
  show jWp 25 0 [some (jO r), none] [] 0 0 w _
  refine jWp.blk mt 2 ?_
  show jWp 25 2 [some (jO r), some (jI 0)] [] 0 0 w _
  have lp1 : ∀ (N : Nat) (k : Nat) (hk : k ≤ (len - 1)) (hr : zff (fun k => zg (w.1 rt k) (w.1 rt (k + 1)) ≠ 1) ((len - 1) - k) k = zff (fun k => zg (w.1 rt k) (w.1 rt (k + 1)) ≠ 1) ((len - 1)) 0), (len - 1) - k < N → jWp 25 2 [some (jO r), some (jI (k : Int))] [] 0 0 w (jvi (zff (fun k => zg (w.1 rt k) (w.1 rt (k + 1)) ≠ 1) (len - 1) 0) w) := by
    intro N
    induction N with
    | zero => intro k hk hr hm; omega
    | succ N ih2 =>
      intro k hk hr hm
      have hf : k < len → _ := fun h => hgb k h
      refine jWp.blk mt 4 ?_
      show _ ∧ jWp 25 6 [some (jO r), some (jI (k : Int))] [jO r, jI ((k : Int) + 1)] 0 0 w _
      refine ⟨rfl, ?_⟩
      refine jWp.getI (pc' := 9) mt rfl rfl (jtg hkr) ?_
      rw [show (w.1 r 2) = (len : Int) from hlen]
      show jWp 25 9 [some (jO r), some (jI (k : Int))] [jI (len : Int), jI ((k : Int) + 1)] 0 0 w _
      refine jWp.icmp (pc' := 12) mt rfl rfl (b32_id (by omega) (by omega)) (b32_id (by omega) (by omega)) (fun h3 => ?_) (fun h3 => ?_)
      · have h3 : (len : Int) ≤ ((k : Int) + 1) := h3
        refine jWp.blk mt 1 ?_
        show jWp 25 44 [some (jO r), some (jI (k : Int))] [jI (-9)] 0 0 w _
        refine jWp.ireti mt rfl ⟨rfl, rfl⟩ rfl ?_
        refine ⟨?_, rfl⟩
        rw [← hr, show (len - 1) - k = 0 by omega]; rfl
      · have h3 : ((k : Int) + 1) < (len : Int) := h3
        refine jWp.blk mt 2 ?_
        show _ ∧ jWp 25 14 [some (jO r), some (jI (k : Int))] [jI (k : Int), jO r] 0 0 w _
        refine ⟨rfl, ?_⟩
        refine jWp.callv (as := [jO r, jI (k : Int)]) (rest := []) mt rfl rfl rfl ⟨rfl, jtg hkr⟩ ?_
        refine jCall.mono (C_termAt (w := w) (r := r) (rt := rt) (len := len) hkr hkt hrt hlen hl60 hgb (n := k) (by omega)) (fun v9 w9 h9 => ?_)
        obtain ⟨rfl, h9⟩ := h9
        subst w9
        show jWp 25 17 [some (jO r), some (jI (k : Int))] [jI (zta (w.1 rt) len k)] 0 0 w _
        have := zta_b (n := k) hgb
        have : k < len → (zta (w.1 rt) len k) = w.1 rt k := fun h => zta_t h
        have : ¬ k < len → (zta (w.1 rt) len k) = 0 := fun h => zta_f h
        refine jWp.i2l (pc' := 18) mt rfl rfl (b32_id (by omega) (by omega)) ?_
        show jWp 25 18 [some (jO r), some (jI (k : Int))] [jJ (zta (w.1 rt) len k)] 0 0 w _
        refine jWp.blk mt 4 ?_
        show _ ∧ jWp 25 22 [some (jO r), some (jI (k : Int))] [jI ((k : Int) + 1), jO r, jJ (zta (w.1 rt) len k)] 0 0 w _
        refine ⟨rfl, ?_⟩
        refine jWp.callv (as := [jO r, jI ((k : Int) + 1)]) (rest := [jJ (zta (w.1 rt) len k)]) mt rfl rfl rfl ⟨rfl, jtg hkr⟩ ?_
        refine jCall.mono (C_termAt (w := w) (r := r) (rt := rt) (len := len) hkr hkt hrt hlen hl60 hgb (n := (k + 1)) (by omega)) (fun v9 w9 h9 => ?_)
        obtain ⟨rfl, h9⟩ := h9
        subst w9
        show jWp 25 25 [some (jO r), some (jI (k : Int))] [jI (zta (w.1 rt) len (k + 1)), jJ (zta (w.1 rt) len k)] 0 0 w _
        have := zta_b (n := (k + 1)) hgb
        have : (k + 1) < len → (zta (w.1 rt) len (k + 1)) = w.1 rt (k + 1) := fun h => zta_t h
        have : ¬ (k + 1) < len → (zta (w.1 rt) len (k + 1)) = 0 := fun h => zta_f h
        refine jWp.i2l (pc' := 26) mt rfl rfl (b32_id (by omega) (by omega)) ?_
        show jWp 25 26 [some (jO r), some (jI (k : Int))] [jJ (zta (w.1 rt) len (k + 1)), jJ (zta (w.1 rt) len k)] 0 0 w _
        refine jWp.calls (as := [jJ (zta (w.1 rt) len k), jJ (zta (w.1 rt) len (k + 1))]) (rest := []) mt rfl rfl rfl rfl ?_
        refine jCall.mono (E_gcd (by omega) (by omega)) (fun v9 w9 h9 => ?_)
        obtain ⟨rfl, h9⟩ := h9
        subst w9
        show jWp 25 29 [some (jO r), some (jI (k : Int))] [jJ (zg (zta (w.1 rt) len k) (zta (w.1 rt) len (k + 1)))] 0 0 w _
        have hgr := zg_r (a := (zta (w.1 rt) len k)) (b := (zta (w.1 rt) len (k + 1))) (by omega) (by omega)
        have hge : zg (zta (w.1 rt) len k) (zta (w.1 rt) len (k + 1)) = zg (w.1 rt k) (w.1 rt (k + 1)) := by rw [zta_t (by omega), zta_t (by omega)]
        refine jWp.blk mt 1 ?_
        show jWp 25 30 [some (jO r), some (jI (k : Int))] [jJ 1, jJ (zg (zta (w.1 rt) len k) (zta (w.1 rt) len (k + 1)))] 0 0 w _
        refine jWp.lcmp (pc' := 34) mt rfl rfl rfl (b64_id (by omega) (by omega)) (show b64 1 = 1 by decide) (fun h4 => ?_) (fun h4 => ?_)
        · have h4 : (zg (zta (w.1 rt) len k) (zta (w.1 rt) len (k + 1))) = 1 := h4
          refine jWp.blk mt 2 ?_
          show jWp 25 2 [some (jO r), some (jI ((k : Int) + 1))] [] 0 0 w _
          refine jWp.le (l := [some (jO r), some (jI ((k : Int) + 1))]) (by exact ⟨rfl, rfl, trivial⟩) ?_
          exact ih2 (k + 1) (by omega) (by rw [← hr, show (len - 1) - k = ((len - 1) - (k + 1)) + 1 by omega, zff_f (by omega)]) (by omega)
        · have h4 : (zg (zta (w.1 rt) len k) (zta (w.1 rt) len (k + 1))) ≠ 1 := h4
          refine jWp.blk mt 1 ?_
          show jWp 25 35 [some (jO r), some (jI (k : Int))] [jI (k : Int)] 0 0 w _
          refine jWp.ireti mt rfl ⟨rfl, rfl⟩ rfl ?_
          refine ⟨?_, rfl⟩
          rw [← hr, show (len - 1) - k = ((len - 1) - (k + 1)) + 1 by omega, zff_t (fun g => by omega)]
  refine jWp.le (l := [some (jO r), some (jI 0)]) (by exact ⟨rfl, rfl, trivial⟩) ?_
  exact lp1 _ 0 (by omega) (by rw [Nat.sub_zero]) (Nat.lt_succ_self _)
set_option maxHeartbeats 4000000 in
set_option maxRecDepth 20000 in
theorem C_firstMultiple {w : jS} {r rt len : Nat} (hkr : w.2.1 r = (4, 0)) (hkt : w.2.1 rt = (100, 60)) (hrt : w.2.2.1 r 6 = some rt) (hlen : w.1 r 2 = (len : Int)) (hl60 : len ≤ 60) (hgb : ∀ j, j < len → -100000000 ≤ w.1 rt j ∧ w.1 rt j ≤ 100000000) {d : Int} (hd : 2 ≤ d ∧ d ≤ 9999) : jCall 26 [jO r, jI d] w (jvi (zff (fun k => Int.tmod (w.1 rt k) d = 0) len 0) w) := by
  have mt : jtb 26 = jT26 := rfl
  show jWp 26 0 [some (jO r), some (jI d), none] [] 0 0 w _
  refine jWp.blk mt 2 ?_
  show jWp 26 2 [some (jO r), some (jI d), some (jI 0)] [] 0 0 w _
  have lp1 : ∀ (N : Nat) (k : Nat) (hk : k ≤ len) (hr : zff (fun k => Int.tmod (w.1 rt k) d = 0) (len - k) k = zff (fun k => Int.tmod (w.1 rt k) d = 0) (len) 0), len - k < N → jWp 26 2 [some (jO r), some (jI d), some (jI (k : Int))] [] 0 0 w (jvi (zff (fun k => Int.tmod (w.1 rt k) d = 0) len 0) w) := by
    intro N
    induction N with
    | zero => intro k hk hr hm; omega
    | succ N ih2 =>
      intro k hk hr hm
      have hf : k < len → _ := fun h => hgb k h
      have hmo := zmodA (x := zta (w.1 rt) len k) hd
      have hme : k < len → Int.tmod (zta (w.1 rt) len k) d = Int.tmod (w.1 rt k) d := fun h => by rw [zta_t h]
      refine jWp.blk mt 2 ?_
      show _ ∧ jWp 26 4 [some (jO r), some (jI d), some (jI (k : Int))] [jO r, jI (k : Int)] 0 0 w _
      refine ⟨rfl, ?_⟩
      refine jWp.getI (pc' := 7) mt rfl rfl (jtg hkr) ?_
      rw [show (w.1 r 2) = (len : Int) from hlen]
      show jWp 26 7 [some (jO r), some (jI d), some (jI (k : Int))] [jI (len : Int), jI (k : Int)] 0 0 w _
      refine jWp.icmp (pc' := 10) mt rfl rfl (b32_id (by omega) (by omega)) (b32_id (by omega) (by omega)) (fun h3 => ?_) (fun h3 => ?_)
      · have h3 : (len : Int) ≤ (k : Int) := h3
        refine jWp.blk mt 1 ?_
        show jWp 26 34 [some (jO r), some (jI d), some (jI (k : Int))] [jI (-9)] 0 0 w _
        refine jWp.ireti mt rfl ⟨rfl, rfl⟩ rfl ?_
        refine ⟨?_, rfl⟩
        rw [← hr, show len - k = 0 by omega]; rfl
      · have h3 : (k : Int) < (len : Int) := h3
        refine jWp.blk mt 1 ?_
        show jWp 26 11 [some (jO r), some (jI d), some (jI (k : Int))] [jI d] 0 0 w _
        refine jWp.ifz (pc' := 14) mt rfl rfl (b32_id (by omega) (by omega)) (fun h4 => ?_) (fun h4 => ?_)
        · have h4 : d = 0 := h4
          exfalso; omega
        · have h4 : d ≠ 0 := h4
          refine jWp.blk mt 2 ?_
          show _ ∧ jWp 26 16 [some (jO r), some (jI d), some (jI (k : Int))] [jI (k : Int), jO r] 0 0 w _
          refine ⟨rfl, ?_⟩
          refine jWp.callv (as := [jO r, jI (k : Int)]) (rest := []) mt rfl rfl rfl ⟨rfl, jtg hkr⟩ ?_
          refine jCall.mono (C_termAt (w := w) (r := r) (rt := rt) (len := len) hkr hkt hrt hlen hl60 hgb (n := k) (by omega)) (fun v9 w9 h9 => ?_)
          obtain ⟨rfl, h9⟩ := h9
          subst w9
          show jWp 26 19 [some (jO r), some (jI d), some (jI (k : Int))] [jI (zta (w.1 rt) len k)] 0 0 w _
          have := zta_b (n := k) hgb
          have : k < len → (zta (w.1 rt) len k) = w.1 rt k := fun h => zta_t h
          have : ¬ k < len → (zta (w.1 rt) len k) = 0 := fun h => zta_f h
          refine jWp.blk mt 1 ?_
          show jWp 26 20 [some (jO r), some (jI d), some (jI (k : Int))] [jI d, jI (zta (w.1 rt) len k)] 0 0 w _
          refine jWp.irem (pc' := 21) mt rfl rfl (b32_id (by omega) (by omega)) (b32_id (by omega) (by omega)) (by omega) ?_
          show jWp 26 21 [some (jO r), some (jI d), some (jI (k : Int))] [jI (Int.tmod (zta (w.1 rt) len k) d)] 0 0 w _
          refine jWp.ifz (pc' := 24) mt rfl rfl (b32_id (by omega) (by omega)) (fun h5 => ?_) (fun h5 => ?_)
          · have h5 : (Int.tmod (zta (w.1 rt) len k) d) ≠ 0 := h5
            refine jWp.blk mt 2 ?_
            show jWp 26 2 [some (jO r), some (jI d), some (jI ((k : Int) + 1))] [] 0 0 w _
            refine jWp.le (l := [some (jO r), some (jI d), some (jI ((k : Int) + 1))]) (by exact ⟨rfl, rfl, rfl, trivial⟩) ?_
            exact ih2 (k + 1) (by omega) (by rw [← hr, show len - k = (len - (k + 1)) + 1 by omega, zff_f (by omega)]) (by omega)
          · have h5 : (Int.tmod (zta (w.1 rt) len k) d) = 0 := h5
            refine jWp.blk mt 1 ?_
            show jWp 26 25 [some (jO r), some (jI d), some (jI (k : Int))] [jI (k : Int)] 0 0 w _
            refine jWp.ireti mt rfl ⟨rfl, rfl⟩ rfl ?_
            refine ⟨?_, rfl⟩
            rw [← hr, show len - k = (len - (k + 1)) + 1 by omega, zff_t (by omega)]
  refine jWp.le (l := [some (jO r), some (jI d), some (jI 0)]) (by exact ⟨rfl, rfl, rfl, trivial⟩) ?_
  exact lp1 _ 0 (by omega) (by rw [Nat.sub_zero]) (Nat.lt_succ_self _)
set_option maxHeartbeats 4000000 in
set_option maxRecDepth 20000 in
theorem C_firstUnlike {w : jS} {r rt len : Nat} (hkr : w.2.1 r = (4, 0)) (hkt : w.2.1 rt = (100, 60)) (hrt : w.2.2.1 r 6 = some rt) (hlen : w.1 r 2 = (len : Int)) (hl60 : len ≤ 60) (hgb : ∀ j, j < len → -100000000 ≤ w.1 rt j ∧ w.1 rt j ≤ 100000000) {r2 rt2 len2 : Nat} (hkr2 : w.2.1 r2 = (4, 0)) (hkt2 : w.2.1 rt2 = (100, 60)) (hrt2 : w.2.2.1 r2 6 = some rt2) (hlen2 : w.1 r2 2 = (len2 : Int)) (hl602 : len2 ≤ 60) (hgb2 : ∀ j, j < len2 → -100000000 ≤ w.1 rt2 j ∧ w.1 rt2 j ≤ 100000000) : jCall 27 [jO r, jO r2] w (jvi (zff (fun k => ¬ (k < len ↔ k < len2) ∨ (k < len ∧ w.1 rt k ≠ w.1 rt2 k)) 60 0) w) := by
  have mt : jtb 27 = jT27 := rfl
  show jWp 27 0 [some (jO r), some (jO r2), none] [] 0 0 w _
  refine jWp.blk mt 2 ?_
  show jWp 27 2 [some (jO r), some (jO r2), some (jI 0)] [] 0 0 w _
  have lp1 : ∀ (N : Nat) (k : Nat) (hk : k ≤ 60) (hr : zff (fun k => ¬ (k < len ↔ k < len2) ∨ (k < len ∧ w.1 rt k ≠ w.1 rt2 k)) (60 - k) k = zff (fun k => ¬ (k < len ↔ k < len2) ∨ (k < len ∧ w.1 rt k ≠ w.1 rt2 k)) (60) 0), 60 - k < N → jWp 27 2 [some (jO r), some (jO r2), some (jI (k : Int))] [] 0 0 w (jvi (zff (fun k => ¬ (k < len ↔ k < len2) ∨ (k < len ∧ w.1 rt k ≠ w.1 rt2 k)) 60 0) w) := by
    intro N
    induction N with
    | zero => intro k hk hr hm; omega
    | succ N ih2 =>
      intro k hk hr hm
      have hf : k < len → _ := fun h => hgb k h
      refine jWp.blk mt 2 ?_
      show jWp 27 5 [some (jO r), some (jO r2), some (jI (k : Int))] [jI 60, jI (k : Int)] 0 0 w _
      refine jWp.icmp (pc' := 8) mt rfl rfl (b32_id (by omega) (by omega)) (show b32 60 = 60 by decide) (fun h3 => ?_) (fun h3 => ?_)
      · have h3 : 60 ≤ (k : Int) := h3
        refine jWp.blk mt 1 ?_
        show jWp 27 44 [some (jO r), some (jO r2), some (jI (k : Int))] [jI (-9)] 0 0 w _
        refine jWp.ireti mt rfl ⟨rfl, rfl⟩ rfl ?_
        refine ⟨?_, rfl⟩
        rw [← hr, show 60 - k = 0 by omega]; rfl
      · have h3 : (k : Int) < 60 := h3
        refine jWp.blk mt 2 ?_
        show _ ∧ jWp 27 10 [some (jO r), some (jO r2), some (jI (k : Int))] [jI (k : Int), jO r] 0 0 w _
        refine ⟨rfl, ?_⟩
        refine jWp.callv (as := [jO r, jI (k : Int)]) (rest := []) mt rfl rfl rfl ⟨rfl, jtg hkr⟩ ?_
        refine jCall.mono (C_reaches (w := w) (r := r) (rt := rt) (len := len) hkr hkt hrt hlen hl60 hgb (n := (k : Int)) (by constructor <;> omega)) (fun v9 w9 h9 => ?_)
        rcases h9 with ⟨rfl, h9, h4⟩ | ⟨rfl, h9, h4⟩ <;> subst w9
        · have h4 : 0 ≤ (k : Int) ∧ (k : Int) < (len : Int) := h4
          show jWp 27 13 [some (jO r), some (jO r2), some (jI (k : Int))] [jI 1] 0 0 w _
          refine jWp.blk mt 2 ?_
          show _ ∧ jWp 27 15 [some (jO r), some (jO r2), some (jI (k : Int))] [jI (k : Int), jO r2, jI 1] 0 0 w _
          refine ⟨rfl, ?_⟩
          refine jWp.callv (as := [jO r2, jI (k : Int)]) (rest := [jI 1]) mt rfl rfl rfl ⟨rfl, jtg hkr2⟩ ?_
          refine jCall.mono (C_reaches (w := w) (r := r2) (rt := rt2) (len := len2) hkr2 hkt2 hrt2 hlen2 hl602 hgb2 (n := (k : Int)) (by constructor <;> omega)) (fun v9 w9 h9 => ?_)
          rcases h9 with ⟨rfl, h9, h5⟩ | ⟨rfl, h9, h5⟩ <;> subst w9
          · have h5 : 0 ≤ (k : Int) ∧ (k : Int) < (len2 : Int) := h5
            show jWp 27 18 [some (jO r), some (jO r2), some (jI (k : Int))] [jI 1, jI 1] 0 0 w _
            refine jWp.icmp (pc' := 21) mt rfl rfl (show b32 1 = 1 by decide) (show b32 1 = 1 by decide) (fun h6 => ?_) (fun h6 => ?_)
            · exact absurd (show (1 : Int) ≠ 1 from h6) (by decide)
            · have h6 := h6
              refine jWp.blk mt 2 ?_
              show _ ∧ jWp 27 23 [some (jO r), some (jO r2), some (jI (k : Int))] [jI (k : Int), jO r] 0 0 w _
              refine ⟨rfl, ?_⟩
              refine jWp.callv (as := [jO r, jI (k : Int)]) (rest := []) mt rfl rfl rfl ⟨rfl, jtg hkr⟩ ?_
              refine jCall.mono (C_termAt (w := w) (r := r) (rt := rt) (len := len) hkr hkt hrt hlen hl60 hgb (n := k) (by omega)) (fun v9 w9 h9 => ?_)
              obtain ⟨rfl, h9⟩ := h9
              subst w9
              show jWp 27 26 [some (jO r), some (jO r2), some (jI (k : Int))] [jI (zta (w.1 rt) len k)] 0 0 w _
              have := zta_b (n := k) hgb
              have : k < len → (zta (w.1 rt) len k) = w.1 rt k := fun h => zta_t h
              have : ¬ k < len → (zta (w.1 rt) len k) = 0 := fun h => zta_f h
              refine jWp.blk mt 2 ?_
              show _ ∧ jWp 27 28 [some (jO r), some (jO r2), some (jI (k : Int))] [jI (k : Int), jO r2, jI (zta (w.1 rt) len k)] 0 0 w _
              refine ⟨rfl, ?_⟩
              refine jWp.callv (as := [jO r2, jI (k : Int)]) (rest := [jI (zta (w.1 rt) len k)]) mt rfl rfl rfl ⟨rfl, jtg hkr2⟩ ?_
              refine jCall.mono (C_termAt (w := w) (r := r2) (rt := rt2) (len := len2) hkr2 hkt2 hrt2 hlen2 hl602 hgb2 (n := k) (by omega)) (fun v9 w9 h9 => ?_)
              obtain ⟨rfl, h9⟩ := h9
              subst w9
              show jWp 27 31 [some (jO r), some (jO r2), some (jI (k : Int))] [jI (zta (w.1 rt2) len2 k), jI (zta (w.1 rt) len k)] 0 0 w _
              have := zta_b (n := k) hgb2
              have : k < len2 → (zta (w.1 rt2) len2 k) = w.1 rt2 k := fun h => zta_t h
              have : ¬ k < len2 → (zta (w.1 rt2) len2 k) = 0 := fun h => zta_f h
              refine jWp.icmp (pc' := 34) mt rfl rfl (b32_id (by omega) (by omega)) (b32_id (by omega) (by omega)) (fun h7 => ?_) (fun h7 => ?_)
              · have h7 : (zta (w.1 rt) len k) = (zta (w.1 rt2) len2 k) := h7
                refine jWp.blk mt 2 ?_
                show jWp 27 2 [some (jO r), some (jO r2), some (jI ((k : Int) + 1))] [] 0 0 w _
                refine jWp.le (l := [some (jO r), some (jO r2), some (jI ((k : Int) + 1))]) (by exact ⟨rfl, rfl, rfl, trivial⟩) ?_
                exact ih2 (k + 1) (by omega) (by rw [← hr, show 60 - k = (60 - (k + 1)) + 1 by omega, zff_f (by omega)]) (by omega)
              · have h7 : (zta (w.1 rt) len k) ≠ (zta (w.1 rt2) len2 k) := h7
                refine jWp.blk mt 1 ?_
                show jWp 27 35 [some (jO r), some (jO r2), some (jI (k : Int))] [jI (k : Int)] 0 0 w _
                refine jWp.ireti mt rfl ⟨rfl, rfl⟩ rfl ?_
                refine ⟨?_, rfl⟩
                rw [← hr, show 60 - k = (60 - (k + 1)) + 1 by omega, zff_t (by omega)]
          · have h5 : ¬ (0 ≤ (k : Int) ∧ (k : Int) < (len2 : Int)) := h5
            show jWp 27 18 [some (jO r), some (jO r2), some (jI (k : Int))] [jI 0, jI 1] 0 0 w _
            refine jWp.icmp (pc' := 21) mt rfl rfl (show b32 1 = 1 by decide) (show b32 0 = 0 by decide) (fun h8 => ?_) (fun h8 => ?_)
            · have h8 := h8
              refine jWp.blk mt 1 ?_
              show jWp 27 35 [some (jO r), some (jO r2), some (jI (k : Int))] [jI (k : Int)] 0 0 w _
              refine jWp.ireti mt rfl ⟨rfl, rfl⟩ rfl ?_
              refine ⟨?_, rfl⟩
              rw [← hr, show 60 - k = (60 - (k + 1)) + 1 by omega, zff_t (by omega)]
            · exact absurd (show (1 : Int) = 0 from h8) (by decide)
        · have h4 : ¬ (0 ≤ (k : Int) ∧ (k : Int) < (len : Int)) := h4
          show jWp 27 13 [some (jO r), some (jO r2), some (jI (k : Int))] [jI 0] 0 0 w _
          refine jWp.blk mt 2 ?_
          show _ ∧ jWp 27 15 [some (jO r), some (jO r2), some (jI (k : Int))] [jI (k : Int), jO r2, jI 0] 0 0 w _
          refine ⟨rfl, ?_⟩
          refine jWp.callv (as := [jO r2, jI (k : Int)]) (rest := [jI 0]) mt rfl rfl rfl ⟨rfl, jtg hkr2⟩ ?_
          refine jCall.mono (C_reaches (w := w) (r := r2) (rt := rt2) (len := len2) hkr2 hkt2 hrt2 hlen2 hl602 hgb2 (n := (k : Int)) (by constructor <;> omega)) (fun v9 w9 h9 => ?_)
          rcases h9 with ⟨rfl, h9, h9⟩ | ⟨rfl, h9, h9⟩ <;> subst w9
          · have h9 : 0 ≤ (k : Int) ∧ (k : Int) < (len2 : Int) := h9
            show jWp 27 18 [some (jO r), some (jO r2), some (jI (k : Int))] [jI 1, jI 0] 0 0 w _
            refine jWp.icmp (pc' := 21) mt rfl rfl (show b32 0 = 0 by decide) (show b32 1 = 1 by decide) (fun h10 => ?_) (fun h10 => ?_)
            · have h10 := h10
              refine jWp.blk mt 1 ?_
              show jWp 27 35 [some (jO r), some (jO r2), some (jI (k : Int))] [jI (k : Int)] 0 0 w _
              refine jWp.ireti mt rfl ⟨rfl, rfl⟩ rfl ?_
              refine ⟨?_, rfl⟩
              rw [← hr, show 60 - k = (60 - (k + 1)) + 1 by omega, zff_t (by omega)]
            · exact absurd (show (0 : Int) = 1 from h10) (by decide)
          · have h9 : ¬ (0 ≤ (k : Int) ∧ (k : Int) < (len2 : Int)) := h9
            show jWp 27 18 [some (jO r), some (jO r2), some (jI (k : Int))] [jI 0, jI 0] 0 0 w _
            refine jWp.icmp (pc' := 21) mt rfl rfl (show b32 0 = 0 by decide) (show b32 0 = 0 by decide) (fun h11 => ?_) (fun h11 => ?_)
            · exact absurd (show (0 : Int) ≠ 0 from h11) (by decide)
            · have h11 := h11
              refine jWp.blk mt 2 ?_
              show _ ∧ jWp 27 23 [some (jO r), some (jO r2), some (jI (k : Int))] [jI (k : Int), jO r] 0 0 w _
              refine ⟨rfl, ?_⟩
              refine jWp.callv (as := [jO r, jI (k : Int)]) (rest := []) mt rfl rfl rfl ⟨rfl, jtg hkr⟩ ?_
              refine jCall.mono (C_termAt (w := w) (r := r) (rt := rt) (len := len) hkr hkt hrt hlen hl60 hgb (n := k) (by omega)) (fun v9 w9 h9 => ?_)
              obtain ⟨rfl, h9⟩ := h9
              subst w9
              show jWp 27 26 [some (jO r), some (jO r2), some (jI (k : Int))] [jI (zta (w.1 rt) len k)] 0 0 w _
              have := zta_b (n := k) hgb
              have : k < len → (zta (w.1 rt) len k) = w.1 rt k := fun h => zta_t h
              have : ¬ k < len → (zta (w.1 rt) len k) = 0 := fun h => zta_f h
              refine jWp.blk mt 2 ?_
              show _ ∧ jWp 27 28 [some (jO r), some (jO r2), some (jI (k : Int))] [jI (k : Int), jO r2, jI (zta (w.1 rt) len k)] 0 0 w _
              refine ⟨rfl, ?_⟩
              refine jWp.callv (as := [jO r2, jI (k : Int)]) (rest := [jI (zta (w.1 rt) len k)]) mt rfl rfl rfl ⟨rfl, jtg hkr2⟩ ?_
              refine jCall.mono (C_termAt (w := w) (r := r2) (rt := rt2) (len := len2) hkr2 hkt2 hrt2 hlen2 hl602 hgb2 (n := k) (by omega)) (fun v9 w9 h9 => ?_)
              obtain ⟨rfl, h9⟩ := h9
              subst w9
              show jWp 27 31 [some (jO r), some (jO r2), some (jI (k : Int))] [jI (zta (w.1 rt2) len2 k), jI (zta (w.1 rt) len k)] 0 0 w _
              have := zta_b (n := k) hgb2
              have : k < len2 → (zta (w.1 rt2) len2 k) = w.1 rt2 k := fun h => zta_t h
              have : ¬ k < len2 → (zta (w.1 rt2) len2 k) = 0 := fun h => zta_f h
              refine jWp.icmp (pc' := 34) mt rfl rfl (b32_id (by omega) (by omega)) (b32_id (by omega) (by omega)) (fun h12 => ?_) (fun h12 => ?_)
              · have h12 : (zta (w.1 rt) len k) = (zta (w.1 rt2) len2 k) := h12
                refine jWp.blk mt 2 ?_
                show jWp 27 2 [some (jO r), some (jO r2), some (jI ((k : Int) + 1))] [] 0 0 w _
                refine jWp.le (l := [some (jO r), some (jO r2), some (jI ((k : Int) + 1))]) (by exact ⟨rfl, rfl, rfl, trivial⟩) ?_
                exact ih2 (k + 1) (by omega) (by rw [← hr, show 60 - k = (60 - (k + 1)) + 1 by omega, zff_f (by omega)]) (by omega)
              · have h12 : (zta (w.1 rt) len k) ≠ (zta (w.1 rt2) len2 k) := h12
                refine jWp.blk mt 1 ?_
                show jWp 27 35 [some (jO r), some (jO r2), some (jI (k : Int))] [jI (k : Int)] 0 0 w _
                refine jWp.ireti mt rfl ⟨rfl, rfl⟩ rfl ?_
                refine ⟨?_, rfl⟩
                rw [← hr, show 60 - k = (60 - (k + 1)) + 1 by omega, zff_t (by omega)]
  refine jWp.le (l := [some (jO r), some (jO r2), some (jI 0)]) (by exact ⟨rfl, rfl, rfl, trivial⟩) ?_
  exact lp1 _ 0 (by omega) (by rw [Nat.sub_zero]) (Nat.lt_succ_self _)
set_option maxHeartbeats 4000000 in
set_option maxRecDepth 20000 in
theorem C_isPlain {w : jS} {r rt len : Nat} (hkr : w.2.1 r = (4, 0)) (hkt : w.2.1 rt = (100, 60)) (hrt : w.2.2.1 r 6 = some rt) (hlen : w.1 r 2 = (len : Int)) (hl60 : len ≤ 60) (hgb : ∀ j, j < len → -100000000 ≤ w.1 rt j ∧ w.1 rt j ≤ 100000000) {n q : Nat} (hn : n < 2147483648) (hq : 1 ≤ q ∧ q ≤ 4) : jCall 30 [jO r, jI (n : Int), jI (q : Int)] w (jvb (∀ k, n ≤ k → k < n + q → k < len ∧ 1 ≤ w.1 rt k ∧ w.1 rt k ≤ 9999) w) := by
  have mt : jtb 30 = jT30 := rfl
  show jWp 30 0 [some (jO r), some (jI (n : Int)), some (jI (q : Int)), none] [] 0 0 w _
  refine jWp.blk mt 1 ?_
  show jWp 30 1 [some (jO r), some (jI (n : Int)), some (jI (q : Int)), none] [jI (n : Int)] 0 0 w _
  refine jWp.ifz (pc' := 4) mt rfl rfl (b32_id (by omega) (by omega)) (fun h1 => ?_) (fun h1 => ?_)
  · have h1 : (n : Int) < 0 := h1
    refine jWp.blk mt 1 ?_
    show jWp 30 15 [some (jO r), some (jI (n : Int)), some (jI (q : Int)), none] [jI 0] 0 0 w _
    refine jWp.iretz mt rfl ⟨rfl, rfl⟩ rfl (Or.inl rfl) ?_
    first
    | exact Or.inr ⟨rfl, rfl, fun g => by have g := g k (by omega) (by omega); omega⟩
    | exact Or.inr ⟨rfl, rfl, fun g => by rcases Nat.eq_zero_or_pos q with e | e; omega; have g := g (n + (q - 1)) (by omega) (by omega); omega⟩
  · have h1 : 0 ≤ (n : Int) := h1
    refine jWp.blk mt 2 ?_
    show _ ∧ jWp 30 6 [some (jO r), some (jI (n : Int)), some (jI (q : Int)), none] [jO r, jI (n : Int)] 0 0 w _
    refine ⟨rfl, ?_⟩
    refine jWp.getI (pc' := 9) mt rfl rfl (jtg hkr) ?_
    rw [show (w.1 r 2) = (len : Int) from hlen]
    show jWp 30 9 [some (jO r), some (jI (n : Int)), some (jI (q : Int)), none] [jI (len : Int), jI (n : Int)] 0 0 w _
    refine jWp.blk mt 2 ?_
    show jWp 30 11 [some (jO r), some (jI (n : Int)), some (jI (q : Int)), none] [jI ((len : Int) - (q : Int)), jI (n : Int)] 0 0 w _
    refine jWp.icmp (pc' := 14) mt rfl rfl (b32_id (by omega) (by omega)) (b32_id (by omega) (by omega)) (fun h2 => ?_) (fun h2 => ?_)
    · have h2 : (n : Int) ≤ ((len : Int) - (q : Int)) := h2
      refine jWp.blk mt 2 ?_
      show jWp 30 18 [some (jO r), some (jI (n : Int)), some (jI (q : Int)), some (jI (n : Int))] [] 0 0 w _
      have lp3 : ∀ (N : Nat) (k : Nat) (hk : n ≤ k ∧ k ≤ n + q) (hA : ∀ x, n ≤ x → x < k → x < len ∧ 1 ≤ w.1 rt x ∧ w.1 rt x ≤ 9999), n + q - k < N → jWp 30 18 [some (jO r), some (jI (n : Int)), some (jI (q : Int)), some (jI (k : Int))] [] 0 0 w (jvb (∀ k, n ≤ k → k < n + q → k < len ∧ 1 ≤ w.1 rt k ∧ w.1 rt k ≤ 9999) w) := by
        intro N
        induction N with
        | zero => intro k hk hA hm; omega
        | succ N ih4 =>
          intro k hk hA hm
          have hf : k < len → _ := fun h => hgb k h
          refine jWp.blk mt 4 ?_
          show jWp 30 22 [some (jO r), some (jI (n : Int)), some (jI (q : Int)), some (jI (k : Int))] [jI ((n : Int) + (q : Int)), jI (k : Int)] 0 0 w _
          refine jWp.icmp (pc' := 25) mt rfl rfl (b32_id (by omega) (by omega)) (b32_id (by omega) (by omega)) (fun h5 => ?_) (fun h5 => ?_)
          · have h5 : ((n : Int) + (q : Int)) ≤ (k : Int) := h5
            refine jWp.blk mt 1 ?_
            show jWp 30 54 [some (jO r), some (jI (n : Int)), some (jI (q : Int)), some (jI (k : Int))] [jI 1] 0 0 w _
            refine jWp.iretz mt rfl ⟨rfl, rfl⟩ rfl (Or.inr rfl) ?_
            exact Or.inl ⟨rfl, rfl, fun x h1 h2 => hA x h1 (by omega)⟩
          · have h5 : (k : Int) < ((n : Int) + (q : Int)) := h5
            refine jWp.blk mt 2 ?_
            show _ ∧ jWp 30 27 [some (jO r), some (jI (n : Int)), some (jI (q : Int)), some (jI (k : Int))] [jI (k : Int), jO r] 0 0 w _
            refine ⟨rfl, ?_⟩
            refine jWp.callv (as := [jO r, jI (k : Int)]) (rest := []) mt rfl rfl rfl ⟨rfl, jtg hkr⟩ ?_
            refine jCall.mono (C_termAt (w := w) (r := r) (rt := rt) (len := len) hkr hkt hrt hlen hl60 hgb (n := k) (by omega)) (fun v9 w9 h9 => ?_)
            obtain ⟨rfl, h9⟩ := h9
            subst w9
            show jWp 30 30 [some (jO r), some (jI (n : Int)), some (jI (q : Int)), some (jI (k : Int))] [jI (zta (w.1 rt) len k)] 0 0 w _
            have := zta_b (n := k) hgb
            have : k < len → (zta (w.1 rt) len k) = w.1 rt k := fun h => zta_t h
            have : ¬ k < len → (zta (w.1 rt) len k) = 0 := fun h => zta_f h
            refine jWp.blk mt 1 ?_
            show jWp 30 31 [some (jO r), some (jI (n : Int)), some (jI (q : Int)), some (jI (k : Int))] [jI 1, jI (zta (w.1 rt) len k)] 0 0 w _
            refine jWp.icmp (pc' := 34) mt rfl rfl (b32_id (by omega) (by omega)) (show b32 1 = 1 by decide) (fun h6 => ?_) (fun h6 => ?_)
            · have h6 : (zta (w.1 rt) len k) < 1 := h6
              refine jWp.blk mt 1 ?_
              show jWp 30 46 [some (jO r), some (jI (n : Int)), some (jI (q : Int)), some (jI (k : Int))] [jI 0] 0 0 w _
              refine jWp.iretz mt rfl ⟨rfl, rfl⟩ rfl (Or.inl rfl) ?_
              first
              | exact Or.inr ⟨rfl, rfl, fun g => by have g := g k (by omega) (by omega); omega⟩
              | exact Or.inr ⟨rfl, rfl, fun g => by rcases Nat.eq_zero_or_pos q with e | e; omega; have g := g (n + (q - 1)) (by omega) (by omega); omega⟩
            · have h6 : 1 ≤ (zta (w.1 rt) len k) := h6
              refine jWp.blk mt 2 ?_
              show _ ∧ jWp 30 36 [some (jO r), some (jI (n : Int)), some (jI (q : Int)), some (jI (k : Int))] [jI (k : Int), jO r] 0 0 w _
              refine ⟨rfl, ?_⟩
              refine jWp.callv (as := [jO r, jI (k : Int)]) (rest := []) mt rfl rfl rfl ⟨rfl, jtg hkr⟩ ?_
              refine jCall.mono (C_termAt (w := w) (r := r) (rt := rt) (len := len) hkr hkt hrt hlen hl60 hgb (n := k) (by omega)) (fun v9 w9 h9 => ?_)
              obtain ⟨rfl, h9⟩ := h9
              subst w9
              show jWp 30 39 [some (jO r), some (jI (n : Int)), some (jI (q : Int)), some (jI (k : Int))] [jI (zta (w.1 rt) len k)] 0 0 w _
              have := zta_b (n := k) hgb
              have : k < len → (zta (w.1 rt) len k) = w.1 rt k := fun h => zta_t h
              have : ¬ k < len → (zta (w.1 rt) len k) = 0 := fun h => zta_f h
              refine jWp.blk mt 1 ?_
              show jWp 30 42 [some (jO r), some (jI (n : Int)), some (jI (q : Int)), some (jI (k : Int))] [jI 9999, jI (zta (w.1 rt) len k)] 0 0 w _
              refine jWp.icmp (pc' := 45) mt rfl rfl (b32_id (by omega) (by omega)) (show b32 9999 = 9999 by decide) (fun h7 => ?_) (fun h7 => ?_)
              · have h7 : (zta (w.1 rt) len k) ≤ 9999 := h7
                refine jWp.blk mt 2 ?_
                show jWp 30 18 [some (jO r), some (jI (n : Int)), some (jI (q : Int)), some (jI ((k : Int) + 1))] [] 0 0 w _
                refine jWp.le (l := [some (jO r), some (jI (n : Int)), some (jI (q : Int)), some (jI ((k : Int) + 1))]) (by exact ⟨rfl, rfl, rfl, rfl, trivial⟩) ?_
                exact ih4 (k + 1) (by omega) (fun x h1 h2 => by rcases Nat.lt_or_ge x k with e | e; exact hA x h1 e; rw [show x = k by omega]; omega) (by omega)
              · have h7 : 9999 < (zta (w.1 rt) len k) := h7
                refine jWp.blk mt 1 ?_
                show jWp 30 46 [some (jO r), some (jI (n : Int)), some (jI (q : Int)), some (jI (k : Int))] [jI 0] 0 0 w _
                refine jWp.iretz mt rfl ⟨rfl, rfl⟩ rfl (Or.inl rfl) ?_
                first
                | exact Or.inr ⟨rfl, rfl, fun g => by have g := g k (by omega) (by omega); omega⟩
                | exact Or.inr ⟨rfl, rfl, fun g => by rcases Nat.eq_zero_or_pos q with e | e; omega; have g := g (n + (q - 1)) (by omega) (by omega); omega⟩
      refine jWp.le (l := [some (jO r), some (jI (n : Int)), some (jI (q : Int)), some (jI (n : Int))]) (by exact ⟨rfl, rfl, rfl, rfl, trivial⟩) ?_
      exact lp3 _ n (by omega) (fun x h1 h2 => absurd h1 (by omega)) (Nat.lt_succ_self _)
    · have h2 : ((len : Int) - (q : Int)) < (n : Int) := h2
      refine jWp.blk mt 1 ?_
      show jWp 30 15 [some (jO r), some (jI (n : Int)), some (jI (q : Int)), none] [jI 0] 0 0 w _
      refine jWp.iretz mt rfl ⟨rfl, rfl⟩ rfl (Or.inl rfl) ?_
      first
      | exact Or.inr ⟨rfl, rfl, fun g => by have g := g k (by omega) (by omega); omega⟩
      | exact Or.inr ⟨rfl, rfl, fun g => by rcases Nat.eq_zero_or_pos q with e | e; omega; have g := g (n + (q - 1)) (by omega) (by omega); omega⟩
set_option maxHeartbeats 4000000 in
set_option maxRecDepth 20000 in
theorem C_setn {w : jS} {m L : Nat} {a b : Int} (hm : w.2.1 m = (2, L)) (ha : -4000000000000000000 < a ∧ a < 4000000000000000000) (hb : 0 < b ∧ b < 4000000000000000000) : jCall 4 [jO m, jJ a, jJ b] w (fun v w1 => ∃ y, v = some (jI y) ∧ w1 = jF1 w m (zu a b) (zv a b)) := by
  have mt : jtb 4 = jT4 := rfl
  have hg := zg_pos (a := a) hb.1
  have hl := zg_le (a := a) hb.1
  have hu := zuA (a := a) hb.1
  have hv := zv_b (a := a) hb.1
  unfold zu at hu
  unfold zv at hv
  have hja : jabs (Int.tdiv a (zg a b)) = if 0 ≤ Int.tdiv a (zg a b) then Int.tdiv a (zg a b) else 0 - Int.tdiv a (zg a b) := rfl
  show jWp 4 0 [some (jO m), some (jJ a), none, some (jJ b), none, none, none] [] 0 0 w _
  refine jWp.blk mt 2 ?_
  show jWp 4 2 [some (jO m), some (jJ a), none, some (jJ b), none, none, none] [jJ b, jJ a] 0 0 w _
  refine jWp.calls (as := [jJ a, jJ b]) (rest := []) mt rfl rfl rfl rfl ?_
  refine jCall.mono (E_gcd (by omega) (by omega)) (fun v9 w9 h9 => ?_)
  obtain ⟨rfl, h9⟩ := h9
  subst w9
  show jWp 4 5 [some (jO m), some (jJ a), none, some (jJ b), none, none, none] [jJ (zg a b)] 0 0 w _
  refine jWp.blk mt 3 ?_
  show jWp 4 10 [some (jO m), some (jJ a), none, some (jJ b), none, some (jJ (zg a b)), none] [jJ 0, jJ (zg a b)] 0 0 w _
  refine jWp.lcmp (pc' := 14) mt rfl rfl rfl (b64_id (by omega) (by omega)) (show b64 0 = 0 by decide) (fun h1 => ?_) (fun h1 => ?_)
  · have h1 : (zg a b) ≠ 0 := h1
    refine jWp.blk mt 3 ?_
    show _ ∧ jWp 4 30 [some (jO m), some (jJ a), none, some (jJ b), none, some (jJ (zg a b)), none] [jJ (zg a b), jJ a, jO m] 0 0 w _
    refine ⟨rfl, ?_⟩
    refine jWp.ldiv (pc' := 31) mt rfl rfl (b64_id (by omega) (by omega)) (b64_id (by omega) (by omega)) (by omega) ?_
    show jWp 4 31 [some (jO m), some (jJ a), none, some (jJ b), none, some (jJ (zg a b)), none] [jJ (Int.tdiv a (zg a b)), jO m] 0 0 w _
    refine jWp.putJ (pc' := 34) mt rfl rfl (jtg hm) ?_
    show jWp 4 34 [some (jO m), some (jJ a), none, some (jJ b), none, some (jJ (zg a b)), none] [] 0 0 (jW w m 0 (Int.tdiv a (zg a b))) _
    refine jWp.blk mt 3 ?_
    show _ ∧ jWp 4 38 [some (jO m), some (jJ a), none, some (jJ b), none, some (jJ (zg a b)), none] [jJ (zg a b), jJ b, jO m] 0 0 (jW w m 0 (Int.tdiv a (zg a b))) _
    refine ⟨rfl, ?_⟩
    refine jWp.ldiv (pc' := 39) mt rfl rfl (b64_id (by omega) (by omega)) (b64_id (by omega) (by omega)) (by omega) ?_
    show jWp 4 39 [some (jO m), some (jJ a), none, some (jJ b), none, some (jJ (zg a b)), none] [jJ (Int.tdiv b (zg a b)), jO m] 0 0 (jW w m 0 (Int.tdiv a (zg a b))) _
    refine jWp.putJ (pc' := 42) mt rfl rfl (jtg hm) ?_
    show jWp 4 42 [some (jO m), some (jJ a), none, some (jJ b), none, some (jJ (zg a b)), none] [] 0 0 (jW (jW w m 0 (Int.tdiv a (zg a b))) m 1 (Int.tdiv b (zg a b))) _
    refine jWp.blk mt 1 ?_
    show _ ∧ jWp 4 43 [some (jO m), some (jJ a), none, some (jJ b), none, some (jJ (zg a b)), none] [jO m] 0 0 (jW (jW w m 0 (Int.tdiv a (zg a b))) m 1 (Int.tdiv b (zg a b))) _
    refine ⟨rfl, ?_⟩
    refine jWp.getJ (pc' := 46) mt rfl rfl (jtg hm) ?_
    rw [show ((jW (jW w m 0 (Int.tdiv a (zg a b))) m 1 (Int.tdiv b (zg a b))).1 m 0) = (Int.tdiv a (zg a b)) from ((jW_k (by decide)).trans jW_s)]
    show jWp 4 46 [some (jO m), some (jJ a), none, some (jJ b), none, some (jJ (zg a b)), none] [jJ (Int.tdiv a (zg a b))] 0 0 (jW (jW w m 0 (Int.tdiv a (zg a b))) m 1 (Int.tdiv b (zg a b))) _
    refine jWp.absJ (pc' := 49) mt rfl rfl rfl (b64_id (by omega) (by omega)) ?_
    show jWp 4 49 [some (jO m), some (jJ a), none, some (jJ b), none, some (jJ (zg a b)), none] [jJ (jabs (Int.tdiv a (zg a b)))] 0 0 (jW (jW w m 0 (Int.tdiv a (zg a b))) m 1 (Int.tdiv b (zg a b))) _
    refine jWp.blk mt 1 ?_
    show jWp 4 52 [some (jO m), some (jJ a), none, some (jJ b), none, some (jJ (zg a b)), none] [jJ 1000000000, jJ (jabs (Int.tdiv a (zg a b)))] 0 0 (jW (jW w m 0 (Int.tdiv a (zg a b))) m 1 (Int.tdiv b (zg a b))) _
    refine jWp.lcmp (pc' := 56) mt rfl rfl rfl (b64_id (by rw [hja]; split <;> omega) (by rw [hja]; split <;> omega)) (show b64 1000000000 = 1000000000 by decide) (fun h2 => ?_) (fun h2 => ?_)
    · have h2 : 1000000000 < (jabs (Int.tdiv a (zg a b))) := h2
      refine jWp.blk mt 1 ?_
      show jWp 4 72 [some (jO m), some (jJ a), none, some (jJ b), none, some (jJ (zg a b)), none] [jI 0] 0 0 (jW (jW w m 0 (Int.tdiv a (zg a b))) m 1 (Int.tdiv b (zg a b))) _
      refine jWp.iretz mt rfl ⟨rfl, rfl⟩ rfl (Or.inl rfl) ?_
      first
      | (exfalso; omega)
      | exact ⟨_, rfl, rfl⟩
    · have h2 : (jabs (Int.tdiv a (zg a b))) ≤ 1000000000 := h2
      refine jWp.blk mt 1 ?_
      show _ ∧ jWp 4 57 [some (jO m), some (jJ a), none, some (jJ b), none, some (jJ (zg a b)), none] [jO m] 0 0 (jW (jW w m 0 (Int.tdiv a (zg a b))) m 1 (Int.tdiv b (zg a b))) _
      refine ⟨rfl, ?_⟩
      refine jWp.getJ (pc' := 60) mt rfl rfl (jtg hm) ?_
      rw [show ((jW (jW w m 0 (Int.tdiv a (zg a b))) m 1 (Int.tdiv b (zg a b))).1 m 1) = (Int.tdiv b (zg a b)) from jW_s]
      show jWp 4 60 [some (jO m), some (jJ a), none, some (jJ b), none, some (jJ (zg a b)), none] [jJ (Int.tdiv b (zg a b))] 0 0 (jW (jW w m 0 (Int.tdiv a (zg a b))) m 1 (Int.tdiv b (zg a b))) _
      refine jWp.blk mt 1 ?_
      show jWp 4 63 [some (jO m), some (jJ a), none, some (jJ b), none, some (jJ (zg a b)), none] [jJ 1000000000, jJ (Int.tdiv b (zg a b))] 0 0 (jW (jW w m 0 (Int.tdiv a (zg a b))) m 1 (Int.tdiv b (zg a b))) _
      refine jWp.lcmp (pc' := 67) mt rfl rfl rfl (b64_id (by omega) (by omega)) (show b64 1000000000 = 1000000000 by decide) (fun h3 => ?_) (fun h3 => ?_)
      · have h3 : 1000000000 < (Int.tdiv b (zg a b)) := h3
        refine jWp.blk mt 1 ?_
        show jWp 4 72 [some (jO m), some (jJ a), none, some (jJ b), none, some (jJ (zg a b)), none] [jI 0] 0 0 (jW (jW w m 0 (Int.tdiv a (zg a b))) m 1 (Int.tdiv b (zg a b))) _
        refine jWp.iretz mt rfl ⟨rfl, rfl⟩ rfl (Or.inl rfl) ?_
        first
        | (exfalso; omega)
        | exact ⟨_, rfl, rfl⟩
      · have h3 : (Int.tdiv b (zg a b)) ≤ 1000000000 := h3
        refine jWp.blk mt 2 ?_
        show jWp 4 72 [some (jO m), some (jJ a), none, some (jJ b), none, some (jJ (zg a b)), none] [jI 1] 0 0 (jW (jW w m 0 (Int.tdiv a (zg a b))) m 1 (Int.tdiv b (zg a b))) _
        refine jWp.iretz mt rfl ⟨rfl, rfl⟩ rfl (Or.inr rfl) ?_
        first
        | (exfalso; omega)
        | exact ⟨_, rfl, rfl⟩
  · have h1 : (zg a b) = 0 := h1
    refine jWp.blk mt 2 ?_
    show _ ∧ jWp 4 16 [some (jO m), some (jJ a), none, some (jJ b), none, some (jJ (zg a b)), none] [jJ 0, jO m] 0 0 w _
    refine ⟨rfl, ?_⟩
    refine jWp.putJ (pc' := 19) mt rfl rfl (jtg hm) ?_
    show jWp 4 19 [some (jO m), some (jJ a), none, some (jJ b), none, some (jJ (zg a b)), none] [] 0 0 (jW w m 0 0) _
    refine jWp.blk mt 2 ?_
    show _ ∧ jWp 4 21 [some (jO m), some (jJ a), none, some (jJ b), none, some (jJ (zg a b)), none] [jJ 1, jO m] 0 0 (jW w m 0 0) _
    refine ⟨rfl, ?_⟩
    refine jWp.putJ (pc' := 24) mt rfl rfl (jtg hm) ?_
    show jWp 4 24 [some (jO m), some (jJ a), none, some (jJ b), none, some (jJ (zg a b)), none] [] 0 0 (jW (jW w m 0 0) m 1 1) _
    refine jWp.blk mt 1 ?_
    show jWp 4 25 [some (jO m), some (jJ a), none, some (jJ b), none, some (jJ (zg a b)), none] [jI 1] 0 0 (jW (jW w m 0 0) m 1 1) _
    refine jWp.iretz mt rfl ⟨rfl, rfl⟩ rfl (Or.inr rfl) ?_
    first
    | (exfalso; omega)
    | exact ⟨_, rfl, rfl⟩
theorem zk4 {f a b c d : Int} : a * a * d * d + b * b * b * d + c * c * c * a + f * b * b * c * c = (a * d) * (a * d) + b * b * b * d + c * c * a * c + f * (b * c) * (b * c) := by
  have e1 : a * a * d * d = (a * d) * (a * d) := by simp only [Int.mul_comm, Int.mul_left_comm, Int.mul_assoc]
  have e2 : c * c * c * a = c * c * a * c := by simp only [Int.mul_comm, Int.mul_left_comm, Int.mul_assoc]
  have e3 : f * b * b * c * c = f * (b * c) * (b * c) := by simp only [Int.mul_comm, Int.mul_left_comm, Int.mul_assoc]
  rw [e1, e2, e3]
theorem zk4d {a b c d : Int} : a * b * c * d = (a * d) * (b * c) := by simp only [Int.mul_comm, Int.mul_left_comm, Int.mul_assoc]
set_option maxHeartbeats 4000000 in
set_option maxRecDepth 20000 in
theorem C_keepOfFour {w : jS} {r fk : Nat} {f a b c d : Int} (hkr : w.2.1 r = (4, 0)) (hkf : w.2.1 fk = (2, 0)) (hfig : w.1 r 1 = f) (hf : 0 ≤ f ∧ f ≤ 9) (ha : 1 ≤ a ∧ a ≤ 9999) (hb : 1 ≤ b ∧ b ≤ 9999) (hc : 1 ≤ c ∧ c ≤ 9999) (hd : 1 ≤ d ∧ d ≤ 9999) : jCall 29 [jO r, jJ a, jJ b, jJ c, jJ d, jO fk] w (fun v w1 => v = none ∧ w1 = jF1 w fk (zu ((a * d) * (a * d) + b * b * b * d + c * c * a * c + f * (b * c) * (b * c)) ((a * d) * (b * c))) (zv ((a * d) * (a * d) + b * b * b * d + c * c * a * c + f * (b * c) * (b * c)) ((a * d) * (b * c)))) := by
  have mt : jtb 29 = jT29 := rfl
  have hU := zkU3 hf ha hb hc hd
  have e4 := zk4 (f := f) (a := a) (b := b) (c := c) (d := d)
  have e5 := zk4d (a := a) (b := b) (c := c) (d := d)
  show jWp 29 0 [some (jO r), some (jJ a), none, some (jJ b), none, some (jJ c), none, some (jJ d), none, some (jO fk), none, none] [] 0 0 w _
  refine jWp.blk mt 24 ?_
  show _ ∧ jWp 29 30 [some (jO r), some (jJ a), none, some (jJ b), none, some (jJ c), none, some (jJ d), none, some (jO fk), none, none] [jO r, jJ (((((a * a) * d) * d) + (((b * b) * b) * d)) + (((c * c) * c) * a))] 0 0 w _
  refine ⟨rfl, ?_⟩
  refine jWp.getI (pc' := 33) mt rfl rfl (jtg hkr) ?_
  rw [show (w.1 r 1) = f from hfig]
  show jWp 29 33 [some (jO r), some (jJ a), none, some (jJ b), none, some (jJ c), none, some (jJ d), none, some (jO fk), none, none] [jI f, jJ (((((a * a) * d) * d) + (((b * b) * b) * d)) + (((c * c) * c) * a))] 0 0 w _
  refine jWp.i2l (pc' := 34) mt rfl rfl (b32_id (by omega) (by omega)) ?_
  show jWp 29 34 [some (jO r), some (jJ a), none, some (jJ b), none, some (jJ c), none, some (jJ d), none, some (jO fk), none, none] [jJ f, jJ (((((a * a) * d) * d) + (((b * b) * b) * d)) + (((c * c) * c) * a))] 0 0 w _
  refine jWp.blk mt 19 ?_
  show _ ∧ jWp 29 60 [some (jO r), some (jJ a), none, some (jJ b), none, some (jJ c), none, some (jJ d), none, some (jO fk), some (jJ ((((((a * a) * d) * d) + (((b * b) * b) * d)) + (((c * c) * c) * a)) + ((((f * b) * b) * c) * c))), none] [jJ (((a * b) * c) * d), jJ ((((((a * a) * d) * d) + (((b * b) * b) * d)) + (((c * c) * c) * a)) + ((((f * b) * b) * c) * c)), jO fk] 0 0 w _
  refine ⟨rfl, ?_⟩
  refine jWp.callv (as := [jO fk, jJ ((((((a * a) * d) * d) + (((b * b) * b) * d)) + (((c * c) * c) * a)) + ((((f * b) * b) * c) * c)), jJ (((a * b) * c) * d)]) (rest := []) mt rfl rfl rfl ⟨rfl, jtg hkf⟩ ?_
  refine jCall.mono (C_setn (w := w) hkf (by omega) (by omega)) (fun v9 w9 h9 => ?_)
  obtain ⟨y9, rfl, h9⟩ := h9
  subst h9
  show jWp 29 63 [some (jO r), some (jJ a), none, some (jJ b), none, some (jJ c), none, some (jJ d), none, some (jO fk), some (jJ ((((((a * a) * d) * d) + (((b * b) * b) * d)) + (((c * c) * c) * a)) + ((((f * b) * b) * c) * c))), none] [jI y9] 0 0 (jF1 w fk (zu ((((((a * a) * d) * d) + (((b * b) * b) * d)) + (((c * c) * c) * a)) + ((((f * b) * b) * c) * c)) (((a * b) * c) * d)) (zv ((((((a * a) * d) * d) + (((b * b) * b) * d)) + (((c * c) * c) * a)) + ((((f * b) * b) * c) * c)) (((a * b) * c) * d))) _
  refine jWp.blk mt 1 ?_
  show jWp 29 64 [some (jO r), some (jJ a), none, some (jJ b), none, some (jJ c), none, some (jJ d), none, some (jO fk), some (jJ ((((((a * a) * d) * d) + (((b * b) * b) * d)) + (((c * c) * c) * a)) + ((((f * b) * b) * c) * c))), none] [] 0 0 (jF1 w fk (zu ((((((a * a) * d) * d) + (((b * b) * b) * d)) + (((c * c) * c) * a)) + ((((f * b) * b) * c) * c)) (((a * b) * c) * d)) (zv ((((((a * a) * d) * d) + (((b * b) * b) * d)) + (((c * c) * c) * a)) + ((((f * b) * b) * c) * c)) (((a * b) * c) * d))) _
  refine jWp.vret mt rfl ⟨rfl, rfl⟩ rfl ?_
  exact ⟨rfl, by rw [e4, e5]⟩
set_option maxHeartbeats 4000000 in
set_option maxRecDepth 20000 in
theorem C_keep {w : jS} {r rt len : Nat} (hkr : w.2.1 r = (4, 0)) (hkt : w.2.1 rt = (100, 60)) (hrt : w.2.2.1 r 6 = some rt) (hlen : w.1 r 2 = (len : Int)) (hl60 : len ≤ 60) (hgb : ∀ j, j < len → -100000000 ≤ w.1 rt j ∧ w.1 rt j ≤ 100000000) {fk n : Nat} {law f : Int} (hkf : w.2.1 fk = (2, 0)) (hlaw : w.1 r 0 = law) (hfig : w.1 r 1 = f) (hl0 : 0 ≤ law) (hl6 : law ≤ 6) (hf : 0 ≤ f ∧ f ≤ 9) (hn : n < 2147483648) : jCall 28 [jO r, jI (n : Int), jO fk] w (fun v w1 => (v = some (jI 1) ∧ zkp law (w.1 rt) len n ∧ w1 = jF1 w fk (zu (zku law f (w.1 rt) n) (zkd law (w.1 rt) n)) (zv (zku law f (w.1 rt) n) (zkd law (w.1 rt) n)) ∧ (-200000000000000000 ≤ (zu (zku law f (w.1 rt) n) (zkd law (w.1 rt) n)) ∧ (zu (zku law f (w.1 rt) n) (zkd law (w.1 rt) n)) ≤ 200000000000000000) ∧ 1 ≤ (zv (zku law f (w.1 rt) n) (zkd law (w.1 rt) n)) ∧ (zv (zku law f (w.1 rt) n) (zkd law (w.1 rt) n)) ≤ 200000000000000000) ∨ (v = some (jI 0) ∧ ¬ zkp law (w.1 rt) len n ∧ w1 = w)) := by
  have mt : jtb 28 = jT28 := rfl
  show jWp 28 0 [some (jO r), some (jI (n : Int)), some (jO fk), none, none, none, none] [] 0 0 w _
  refine jWp.blk mt 1 ?_
  show _ ∧ jWp 28 1 [some (jO r), some (jI (n : Int)), some (jO fk), none, none, none, none] [jO r] 0 0 w _
  refine ⟨rfl, ?_⟩
  refine jWp.getI (pc' := 4) mt rfl rfl (jtg hkr) ?_
  rw [show (w.1 r 0) = law from hlaw]
  show jWp 28 4 [some (jO r), some (jI (n : Int)), some (jO fk), none, none, none, none] [jI law] 0 0 w _
  refine jWp.ifz (pc' := 7) mt rfl rfl (b32_id (by omega) (by omega)) (fun h1 => ?_) (fun h1 => ?_)
  · have h1 : law ≠ 0 := h1
    refine jWp.blk mt 1 ?_
    show _ ∧ jWp 28 62 [some (jO r), some (jI (n : Int)), some (jO fk), none, none, none, none] [jO r] 0 0 w _
    refine ⟨rfl, ?_⟩
    refine jWp.getI (pc' := 65) mt rfl rfl (jtg hkr) ?_
    rw [show (w.1 r 0) = law from hlaw]
    show jWp 28 65 [some (jO r), some (jI (n : Int)), some (jO fk), none, none, none, none] [jI law] 0 0 w _
    refine jWp.blk mt 1 ?_
    show jWp 28 66 [some (jO r), some (jI (n : Int)), some (jO fk), none, none, none, none] [jI 1, jI law] 0 0 w _
    refine jWp.icmp (pc' := 69) mt rfl rfl (b32_id (by omega) (by omega)) (show b32 1 = 1 by decide) (fun h2 => ?_) (fun h2 => ?_)
    · have h2 : law ≠ 1 := h2
      refine jWp.blk mt 1 ?_
      show _ ∧ jWp 28 109 [some (jO r), some (jI (n : Int)), some (jO fk), none, none, none, none] [jO r] 0 0 w _
      refine ⟨rfl, ?_⟩
      refine jWp.getI (pc' := 112) mt rfl rfl (jtg hkr) ?_
      rw [show (w.1 r 0) = law from hlaw]
      show jWp 28 112 [some (jO r), some (jI (n : Int)), some (jO fk), none, none, none, none] [jI law] 0 0 w _
      refine jWp.blk mt 1 ?_
      show jWp 28 113 [some (jO r), some (jI (n : Int)), some (jO fk), none, none, none, none] [jI 3, jI law] 0 0 w _
      refine jWp.icmp (pc' := 116) mt rfl rfl (b32_id (by omega) (by omega)) (show b32 3 = 3 by decide) (fun h3 => ?_) (fun h3 => ?_)
      · have h3 : law ≠ 3 := h3
        refine jWp.blk mt 1 ?_
        show jWp 28 163 [some (jO r), some (jI (n : Int)), some (jO fk), none, none, none, none] [jI 0] 0 0 w _
        refine jWp.iretz mt rfl ⟨rfl, rfl⟩ rfl (Or.inl rfl) ?_
        refine Or.inr ⟨rfl, fun g => ?_, rfl⟩
        first
        | (exact g.1 (by unfold zkm; rw [if_neg (by omega), if_neg (by omega), if_neg (by omega)]))
        | (have ez : zkm law = 2 := by unfold zkm; rw [if_pos (by omega)]
           have g2 := g.2; rw [ez] at g2; exact absurd g2 (by assumption))
        | (have ez : zkm law = 3 := by unfold zkm; rw [if_neg (by omega), if_pos (by omega)]
           have g2 := g.2; rw [ez] at g2; exact absurd g2 (by assumption))
        | (have ez : zkm law = 4 := by unfold zkm; rw [if_neg (by omega), if_neg (by omega), if_pos (by omega)]
           have g2 := g.2; rw [ez] at g2; exact absurd g2 (by assumption))
      · have h3 : law = 3 := h3
        refine jWp.blk mt 3 ?_
        show _ ∧ jWp 28 119 [some (jO r), some (jI (n : Int)), some (jO fk), none, none, none, none] [jI 4, jI (n : Int), jO r] 0 0 w _
        refine ⟨rfl, ?_⟩
        refine jWp.callv (as := [jO r, jI (n : Int), jI 4]) (rest := []) mt rfl rfl rfl ⟨rfl, jtg hkr⟩ ?_
        refine jCall.mono (C_isPlain (w := w) (r := r) (rt := rt) (len := len) hkr hkt hrt hlen hl60 hgb (n := n) (q := 4) hn (by decide)) (fun v9 w9 h9 => ?_)
        rcases h9 with ⟨rfl, h9, h4⟩ | ⟨rfl, h9, h4⟩ <;> subst w9
        · have h4 : ∀ k, n ≤ k → k < n + 4 → k < len ∧ 1 ≤ w.1 rt k ∧ w.1 rt k ≤ 9999 := h4
          show jWp 28 122 [some (jO r), some (jI (n : Int)), some (jO fk), none, none, none, none] [jI 1] 0 0 w _
          have b0 := h4 (n + 0) (by omega) (by omega)
          have b1 := h4 (n + 1) (by omega) (by omega)
          have b2 := h4 (n + 2) (by omega) (by omega)
          have b3 := h4 (n + 3) (by omega) (by omega)
          rw [show n + 0 = n from rfl] at b0
          have hU := zkU3 hf b0.2 b1.2 b2.2 b3.2
          refine jWp.ifc (b := false) mt rfl (by decide) rfl ?_
          show jWp 28 125 [some (jO r), some (jI (n : Int)), some (jO fk), none, none, none, none] [] 0 0 w _
          refine jWp.blk mt 3 ?_
          show _ ∧ _ ∧ jWp 28 128 [some (jO r), some (jI (n : Int)), some (jO fk), none, none, none, none] [jI (n : Int), jO r, jO r] 0 0 w _
          refine ⟨rfl, rfl, ?_⟩
          refine jWp.callv (as := [jO r, jI (n : Int)]) (rest := [jO r]) mt rfl rfl rfl ⟨rfl, jtg hkr⟩ ?_
          refine jCall.mono ((by have h := C_termAt (w := w) (r := r) (rt := rt) (len := len) hkr hkt hrt hlen hl60 hgb (n := n) (by omega); rw [zta_t (by omega)] at h; exact h)) (fun v9 w9 h9 => ?_)
          obtain ⟨rfl, h9⟩ := h9
          subst w9
          show jWp 28 131 [some (jO r), some (jI (n : Int)), some (jO fk), none, none, none, none] [jI (w.1 rt n), jO r] 0 0 w _
          refine jWp.i2l (pc' := 132) mt rfl rfl (b32_id (by omega) (by omega)) ?_
          show jWp 28 132 [some (jO r), some (jI (n : Int)), some (jO fk), none, none, none, none] [jJ (w.1 rt n), jO r] 0 0 w _
          refine jWp.blk mt 4 ?_
          show _ ∧ jWp 28 136 [some (jO r), some (jI (n : Int)), some (jO fk), none, none, none, none] [jI ((n : Int) + 1), jO r, jJ (w.1 rt n), jO r] 0 0 w _
          refine ⟨rfl, ?_⟩
          refine jWp.callv (as := [jO r, jI ((n : Int) + 1)]) (rest := [jJ (w.1 rt n), jO r]) mt rfl rfl rfl ⟨rfl, jtg hkr⟩ ?_
          refine jCall.mono ((by have h := C_termAt (w := w) (r := r) (rt := rt) (len := len) hkr hkt hrt hlen hl60 hgb (n := (n + 1)) (by omega); rw [zta_t (by omega)] at h; exact h)) (fun v9 w9 h9 => ?_)
          obtain ⟨rfl, h9⟩ := h9
          subst w9
          show jWp 28 139 [some (jO r), some (jI (n : Int)), some (jO fk), none, none, none, none] [jI (w.1 rt (n + 1)), jJ (w.1 rt n), jO r] 0 0 w _
          refine jWp.i2l (pc' := 140) mt rfl rfl (b32_id (by omega) (by omega)) ?_
          show jWp 28 140 [some (jO r), some (jI (n : Int)), some (jO fk), none, none, none, none] [jJ (w.1 rt (n + 1)), jJ (w.1 rt n), jO r] 0 0 w _
          refine jWp.blk mt 4 ?_
          show _ ∧ jWp 28 144 [some (jO r), some (jI (n : Int)), some (jO fk), none, none, none, none] [jI ((n : Int) + 2), jO r, jJ (w.1 rt (n + 1)), jJ (w.1 rt n), jO r] 0 0 w _
          refine ⟨rfl, ?_⟩
          refine jWp.callv (as := [jO r, jI ((n : Int) + 2)]) (rest := [jJ (w.1 rt (n + 1)), jJ (w.1 rt n), jO r]) mt rfl rfl rfl ⟨rfl, jtg hkr⟩ ?_
          refine jCall.mono ((by have h := C_termAt (w := w) (r := r) (rt := rt) (len := len) hkr hkt hrt hlen hl60 hgb (n := (n + 2)) (by omega); rw [zta_t (by omega)] at h; exact h)) (fun v9 w9 h9 => ?_)
          obtain ⟨rfl, h9⟩ := h9
          subst w9
          show jWp 28 147 [some (jO r), some (jI (n : Int)), some (jO fk), none, none, none, none] [jI (w.1 rt (n + 2)), jJ (w.1 rt (n + 1)), jJ (w.1 rt n), jO r] 0 0 w _
          refine jWp.i2l (pc' := 148) mt rfl rfl (b32_id (by omega) (by omega)) ?_
          show jWp 28 148 [some (jO r), some (jI (n : Int)), some (jO fk), none, none, none, none] [jJ (w.1 rt (n + 2)), jJ (w.1 rt (n + 1)), jJ (w.1 rt n), jO r] 0 0 w _
          refine jWp.blk mt 4 ?_
          show _ ∧ jWp 28 152 [some (jO r), some (jI (n : Int)), some (jO fk), none, none, none, none] [jI ((n : Int) + 3), jO r, jJ (w.1 rt (n + 2)), jJ (w.1 rt (n + 1)), jJ (w.1 rt n), jO r] 0 0 w _
          refine ⟨rfl, ?_⟩
          refine jWp.callv (as := [jO r, jI ((n : Int) + 3)]) (rest := [jJ (w.1 rt (n + 2)), jJ (w.1 rt (n + 1)), jJ (w.1 rt n), jO r]) mt rfl rfl rfl ⟨rfl, jtg hkr⟩ ?_
          refine jCall.mono ((by have h := C_termAt (w := w) (r := r) (rt := rt) (len := len) hkr hkt hrt hlen hl60 hgb (n := (n + 3)) (by omega); rw [zta_t (by omega)] at h; exact h)) (fun v9 w9 h9 => ?_)
          obtain ⟨rfl, h9⟩ := h9
          subst w9
          show jWp 28 155 [some (jO r), some (jI (n : Int)), some (jO fk), none, none, none, none] [jI (w.1 rt (n + 3)), jJ (w.1 rt (n + 2)), jJ (w.1 rt (n + 1)), jJ (w.1 rt n), jO r] 0 0 w _
          refine jWp.i2l (pc' := 156) mt rfl rfl (b32_id (by omega) (by omega)) ?_
          show jWp 28 156 [some (jO r), some (jI (n : Int)), some (jO fk), none, none, none, none] [jJ (w.1 rt (n + 3)), jJ (w.1 rt (n + 2)), jJ (w.1 rt (n + 1)), jJ (w.1 rt n), jO r] 0 0 w _
          refine jWp.blk mt 1 ?_
          show _ ∧ jWp 28 157 [some (jO r), some (jI (n : Int)), some (jO fk), none, none, none, none] [jO fk, jJ (w.1 rt (n + 3)), jJ (w.1 rt (n + 2)), jJ (w.1 rt (n + 1)), jJ (w.1 rt n), jO r] 0 0 w _
          refine ⟨rfl, ?_⟩
          refine jWp.callv (as := [jO r, jJ (w.1 rt n), jJ (w.1 rt (n + 1)), jJ (w.1 rt (n + 2)), jJ (w.1 rt (n + 3)), jO fk]) (rest := []) mt rfl rfl rfl ⟨rfl, jtg hkr⟩ ?_
          refine jCall.mono (C_keepOfFour (w := w) (r := r) (fk := fk) hkr hkf hfig hf b0.2 b1.2 b2.2 b3.2) (fun v9 w9 h9 => ?_)
          obtain ⟨rfl, h9⟩ := h9
          subst h9
          show jWp 28 160 [some (jO r), some (jI (n : Int)), some (jO fk), none, none, none, none] [] 0 0 (jF1 w fk (zu (((w.1 rt n) * (w.1 rt (n + 3))) * ((w.1 rt n) * (w.1 rt (n + 3))) + (w.1 rt (n + 1)) * (w.1 rt (n + 1)) * (w.1 rt (n + 1)) * (w.1 rt (n + 3)) + (w.1 rt (n + 2)) * (w.1 rt (n + 2)) * (w.1 rt n) * (w.1 rt (n + 2)) + f * ((w.1 rt (n + 1)) * (w.1 rt (n + 2))) * ((w.1 rt (n + 1)) * (w.1 rt (n + 2)))) (((w.1 rt n) * (w.1 rt (n + 3))) * ((w.1 rt (n + 1)) * (w.1 rt (n + 2))))) (zv (((w.1 rt n) * (w.1 rt (n + 3))) * ((w.1 rt n) * (w.1 rt (n + 3))) + (w.1 rt (n + 1)) * (w.1 rt (n + 1)) * (w.1 rt (n + 1)) * (w.1 rt (n + 3)) + (w.1 rt (n + 2)) * (w.1 rt (n + 2)) * (w.1 rt n) * (w.1 rt (n + 2)) + f * ((w.1 rt (n + 1)) * (w.1 rt (n + 2))) * ((w.1 rt (n + 1)) * (w.1 rt (n + 2)))) (((w.1 rt n) * (w.1 rt (n + 3))) * ((w.1 rt (n + 1)) * (w.1 rt (n + 2)))))) _
          refine jWp.blk mt 1 ?_
          show jWp 28 161 [some (jO r), some (jI (n : Int)), some (jO fk), none, none, none, none] [jI 1] 0 0 (jF1 w fk (zu (((w.1 rt n) * (w.1 rt (n + 3))) * ((w.1 rt n) * (w.1 rt (n + 3))) + (w.1 rt (n + 1)) * (w.1 rt (n + 1)) * (w.1 rt (n + 1)) * (w.1 rt (n + 3)) + (w.1 rt (n + 2)) * (w.1 rt (n + 2)) * (w.1 rt n) * (w.1 rt (n + 2)) + f * ((w.1 rt (n + 1)) * (w.1 rt (n + 2))) * ((w.1 rt (n + 1)) * (w.1 rt (n + 2)))) (((w.1 rt n) * (w.1 rt (n + 3))) * ((w.1 rt (n + 1)) * (w.1 rt (n + 2))))) (zv (((w.1 rt n) * (w.1 rt (n + 3))) * ((w.1 rt n) * (w.1 rt (n + 3))) + (w.1 rt (n + 1)) * (w.1 rt (n + 1)) * (w.1 rt (n + 1)) * (w.1 rt (n + 3)) + (w.1 rt (n + 2)) * (w.1 rt (n + 2)) * (w.1 rt n) * (w.1 rt (n + 2)) + f * ((w.1 rt (n + 1)) * (w.1 rt (n + 2))) * ((w.1 rt (n + 1)) * (w.1 rt (n + 2)))) (((w.1 rt n) * (w.1 rt (n + 3))) * ((w.1 rt (n + 1)) * (w.1 rt (n + 2)))))) _
          refine jWp.iretz mt rfl ⟨rfl, rfl⟩ rfl (Or.inr rfl) ?_
          have ez : zkm law = 4 := by unfold zkm; rw [if_neg (by omega), if_neg (by omega), if_pos (by omega)]
          have eu : zku law f (w.1 rt) n = (((w.1 rt n) * (w.1 rt (n + 3))) * ((w.1 rt n) * (w.1 rt (n + 3))) + (w.1 rt (n + 1)) * (w.1 rt (n + 1)) * (w.1 rt (n + 1)) * (w.1 rt (n + 3)) + (w.1 rt (n + 2)) * (w.1 rt (n + 2)) * (w.1 rt n) * (w.1 rt (n + 2)) + f * ((w.1 rt (n + 1)) * (w.1 rt (n + 2))) * ((w.1 rt (n + 1)) * (w.1 rt (n + 2)))) := by unfold zku; rw [if_neg (by omega), if_neg (by omega)]
          have ed : zkd law (w.1 rt) n = (((w.1 rt n) * (w.1 rt (n + 3))) * ((w.1 rt (n + 1)) * (w.1 rt (n + 2)))) := by unfold zkd; rw [if_neg (by omega), if_neg (by omega)]
          have hua := zuA (a := (((w.1 rt n) * (w.1 rt (n + 3))) * ((w.1 rt n) * (w.1 rt (n + 3))) + (w.1 rt (n + 1)) * (w.1 rt (n + 1)) * (w.1 rt (n + 1)) * (w.1 rt (n + 3)) + (w.1 rt (n + 2)) * (w.1 rt (n + 2)) * (w.1 rt n) * (w.1 rt (n + 2)) + f * ((w.1 rt (n + 1)) * (w.1 rt (n + 2))) * ((w.1 rt (n + 1)) * (w.1 rt (n + 2))))) (b := (((w.1 rt n) * (w.1 rt (n + 3))) * ((w.1 rt (n + 1)) * (w.1 rt (n + 2))))) (by omega)
          have hvb := zv_b (a := (((w.1 rt n) * (w.1 rt (n + 3))) * ((w.1 rt n) * (w.1 rt (n + 3))) + (w.1 rt (n + 1)) * (w.1 rt (n + 1)) * (w.1 rt (n + 1)) * (w.1 rt (n + 3)) + (w.1 rt (n + 2)) * (w.1 rt (n + 2)) * (w.1 rt n) * (w.1 rt (n + 2)) + f * ((w.1 rt (n + 1)) * (w.1 rt (n + 2))) * ((w.1 rt (n + 1)) * (w.1 rt (n + 2))))) (b := (((w.1 rt n) * (w.1 rt (n + 3))) * ((w.1 rt (n + 1)) * (w.1 rt (n + 2))))) (by omega)
          refine Or.inl ⟨rfl, ⟨by rw [ez]; decide, by rw [ez]; exact h4⟩, ?_, ?_⟩
          · rw [eu, ed]
          · rw [eu, ed]
            omega
        · have h4 : ¬ (∀ k, n ≤ k → k < n + 4 → k < len ∧ 1 ≤ w.1 rt k ∧ w.1 rt k ≤ 9999) := h4
          show jWp 28 122 [some (jO r), some (jI (n : Int)), some (jO fk), none, none, none, none] [jI 0] 0 0 w _
          refine jWp.ifc (b := true) mt rfl (by decide) rfl ?_
          show jWp 28 162 [some (jO r), some (jI (n : Int)), some (jO fk), none, none, none, none] [] 0 0 w _
          refine jWp.blk mt 1 ?_
          show jWp 28 163 [some (jO r), some (jI (n : Int)), some (jO fk), none, none, none, none] [jI 0] 0 0 w _
          refine jWp.iretz mt rfl ⟨rfl, rfl⟩ rfl (Or.inl rfl) ?_
          refine Or.inr ⟨rfl, fun g => ?_, rfl⟩
          first
          | (exact g.1 (by unfold zkm; rw [if_neg (by omega), if_neg (by omega), if_neg (by omega)]))
          | (have ez : zkm law = 2 := by unfold zkm; rw [if_pos (by omega)]
             have g2 := g.2; rw [ez] at g2; exact absurd g2 (by assumption))
          | (have ez : zkm law = 3 := by unfold zkm; rw [if_neg (by omega), if_pos (by omega)]
             have g2 := g.2; rw [ez] at g2; exact absurd g2 (by assumption))
          | (have ez : zkm law = 4 := by unfold zkm; rw [if_neg (by omega), if_neg (by omega), if_pos (by omega)]
             have g2 := g.2; rw [ez] at g2; exact absurd g2 (by assumption))
    · have h2 : law = 1 := h2
      refine jWp.blk mt 3 ?_
      show _ ∧ jWp 28 72 [some (jO r), some (jI (n : Int)), some (jO fk), none, none, none, none] [jI 3, jI (n : Int), jO r] 0 0 w _
      refine ⟨rfl, ?_⟩
      refine jWp.callv (as := [jO r, jI (n : Int), jI 3]) (rest := []) mt rfl rfl rfl ⟨rfl, jtg hkr⟩ ?_
      refine jCall.mono (C_isPlain (w := w) (r := r) (rt := rt) (len := len) hkr hkt hrt hlen hl60 hgb (n := n) (q := 3) hn (by decide)) (fun v9 w9 h9 => ?_)
      rcases h9 with ⟨rfl, h9, h5⟩ | ⟨rfl, h9, h5⟩ <;> subst w9
      · have h5 : ∀ k, n ≤ k → k < n + 3 → k < len ∧ 1 ≤ w.1 rt k ∧ w.1 rt k ≤ 9999 := h5
        show jWp 28 75 [some (jO r), some (jI (n : Int)), some (jO fk), none, none, none, none] [jI 1] 0 0 w _
        have b0 := h5 (n + 0) (by omega) (by omega)
        have b1 := h5 (n + 1) (by omega) (by omega)
        have b2 := h5 (n + 2) (by omega) (by omega)
        rw [show n + 0 = n from rfl] at b0
        refine jWp.ifc (b := false) mt rfl (by decide) rfl ?_
        show jWp 28 78 [some (jO r), some (jI (n : Int)), some (jO fk), none, none, none, none] [] 0 0 w _
        refine jWp.blk mt 3 ?_
        show _ ∧ _ ∧ jWp 28 81 [some (jO r), some (jI (n : Int)), some (jO fk), none, none, none, none] [jI (n : Int), jO r, jO fk] 0 0 w _
        refine ⟨rfl, rfl, ?_⟩
        refine jWp.callv (as := [jO r, jI (n : Int)]) (rest := [jO fk]) mt rfl rfl rfl ⟨rfl, jtg hkr⟩ ?_
        refine jCall.mono ((by have h := C_termAt (w := w) (r := r) (rt := rt) (len := len) hkr hkt hrt hlen hl60 hgb (n := n) (by omega); rw [zta_t (by omega)] at h; exact h)) (fun v9 w9 h9 => ?_)
        obtain ⟨rfl, h9⟩ := h9
        subst w9
        show jWp 28 84 [some (jO r), some (jI (n : Int)), some (jO fk), none, none, none, none] [jI (w.1 rt n), jO fk] 0 0 w _
        refine jWp.i2l (pc' := 85) mt rfl rfl (b32_id (by omega) (by omega)) ?_
        show jWp 28 85 [some (jO r), some (jI (n : Int)), some (jO fk), none, none, none, none] [jJ (w.1 rt n), jO fk] 0 0 w _
        refine jWp.blk mt 4 ?_
        show _ ∧ jWp 28 89 [some (jO r), some (jI (n : Int)), some (jO fk), none, none, none, none] [jI ((n : Int) + 2), jO r, jJ (w.1 rt n), jO fk] 0 0 w _
        refine ⟨rfl, ?_⟩
        refine jWp.callv (as := [jO r, jI ((n : Int) + 2)]) (rest := [jJ (w.1 rt n), jO fk]) mt rfl rfl rfl ⟨rfl, jtg hkr⟩ ?_
        refine jCall.mono ((by have h := C_termAt (w := w) (r := r) (rt := rt) (len := len) hkr hkt hrt hlen hl60 hgb (n := (n + 2)) (by omega); rw [zta_t (by omega)] at h; exact h)) (fun v9 w9 h9 => ?_)
        obtain ⟨rfl, h9⟩ := h9
        subst w9
        show jWp 28 92 [some (jO r), some (jI (n : Int)), some (jO fk), none, none, none, none] [jI (w.1 rt (n + 2)), jJ (w.1 rt n), jO fk] 0 0 w _
        refine jWp.i2l (pc' := 93) mt rfl rfl (b32_id (by omega) (by omega)) ?_
        show jWp 28 93 [some (jO r), some (jI (n : Int)), some (jO fk), none, none, none, none] [jJ (w.1 rt (n + 2)), jJ (w.1 rt n), jO fk] 0 0 w _
        refine jWp.blk mt 5 ?_
        show _ ∧ jWp 28 98 [some (jO r), some (jI (n : Int)), some (jO fk), none, none, none, none] [jI ((n : Int) + 1), jO r, jJ ((w.1 rt n) + (w.1 rt (n + 2))), jO fk] 0 0 w _
        refine ⟨rfl, ?_⟩
        refine jWp.callv (as := [jO r, jI ((n : Int) + 1)]) (rest := [jJ ((w.1 rt n) + (w.1 rt (n + 2))), jO fk]) mt rfl rfl rfl ⟨rfl, jtg hkr⟩ ?_
        refine jCall.mono ((by have h := C_termAt (w := w) (r := r) (rt := rt) (len := len) hkr hkt hrt hlen hl60 hgb (n := (n + 1)) (by omega); rw [zta_t (by omega)] at h; exact h)) (fun v9 w9 h9 => ?_)
        obtain ⟨rfl, h9⟩ := h9
        subst w9
        show jWp 28 101 [some (jO r), some (jI (n : Int)), some (jO fk), none, none, none, none] [jI (w.1 rt (n + 1)), jJ ((w.1 rt n) + (w.1 rt (n + 2))), jO fk] 0 0 w _
        refine jWp.i2l (pc' := 102) mt rfl rfl (b32_id (by omega) (by omega)) ?_
        show jWp 28 102 [some (jO r), some (jI (n : Int)), some (jO fk), none, none, none, none] [jJ (w.1 rt (n + 1)), jJ ((w.1 rt n) + (w.1 rt (n + 2))), jO fk] 0 0 w _
        refine jWp.callv (as := [jO fk, jJ ((w.1 rt n) + (w.1 rt (n + 2))), jJ (w.1 rt (n + 1))]) (rest := []) mt rfl rfl rfl ⟨rfl, jtg hkf⟩ ?_
        refine jCall.mono (C_setn (w := w) hkf (by omega) (by omega)) (fun v9 w9 h9 => ?_)
        obtain ⟨y9, rfl, h9⟩ := h9
        subst h9
        show jWp 28 105 [some (jO r), some (jI (n : Int)), some (jO fk), none, none, none, none] [jI y9] 0 0 (jF1 w fk (zu ((w.1 rt n) + (w.1 rt (n + 2))) (w.1 rt (n + 1))) (zv ((w.1 rt n) + (w.1 rt (n + 2))) (w.1 rt (n + 1)))) _
        refine jWp.blk mt 2 ?_
        show jWp 28 107 [some (jO r), some (jI (n : Int)), some (jO fk), none, none, none, none] [jI 1] 0 0 (jF1 w fk (zu ((w.1 rt n) + (w.1 rt (n + 2))) (w.1 rt (n + 1))) (zv ((w.1 rt n) + (w.1 rt (n + 2))) (w.1 rt (n + 1)))) _
        refine jWp.iretz mt rfl ⟨rfl, rfl⟩ rfl (Or.inr rfl) ?_
        have ez : zkm law = 3 := by unfold zkm; rw [if_neg (by omega), if_pos (by omega)]
        have eu : zku law f (w.1 rt) n = ((w.1 rt n) + (w.1 rt (n + 2))) := by unfold zku; rw [if_neg (by omega), if_pos (by omega)]
        have ed : zkd law (w.1 rt) n = (w.1 rt (n + 1)) := by unfold zkd; rw [if_neg (by omega), if_pos (by omega)]
        have hua := zuA (a := ((w.1 rt n) + (w.1 rt (n + 2)))) (b := (w.1 rt (n + 1))) (by omega)
        have hvb := zv_b (a := ((w.1 rt n) + (w.1 rt (n + 2)))) (b := (w.1 rt (n + 1))) (by omega)
        refine Or.inl ⟨rfl, ⟨by rw [ez]; decide, by rw [ez]; exact h5⟩, ?_, ?_⟩
        · rw [eu, ed]
        · rw [eu, ed]
          omega
      · have h5 : ¬ (∀ k, n ≤ k → k < n + 3 → k < len ∧ 1 ≤ w.1 rt k ∧ w.1 rt k ≤ 9999) := h5
        show jWp 28 75 [some (jO r), some (jI (n : Int)), some (jO fk), none, none, none, none] [jI 0] 0 0 w _
        refine jWp.ifc (b := true) mt rfl (by decide) rfl ?_
        show jWp 28 108 [some (jO r), some (jI (n : Int)), some (jO fk), none, none, none, none] [] 0 0 w _
        refine jWp.blk mt 1 ?_
        show _ ∧ jWp 28 109 [some (jO r), some (jI (n : Int)), some (jO fk), none, none, none, none] [jO r] 0 0 w _
        refine ⟨rfl, ?_⟩
        refine jWp.getI (pc' := 112) mt rfl rfl (jtg hkr) ?_
        rw [show (w.1 r 0) = law from hlaw]
        show jWp 28 112 [some (jO r), some (jI (n : Int)), some (jO fk), none, none, none, none] [jI law] 0 0 w _
        refine jWp.blk mt 1 ?_
        show jWp 28 113 [some (jO r), some (jI (n : Int)), some (jO fk), none, none, none, none] [jI 3, jI law] 0 0 w _
        refine jWp.icmp (pc' := 116) mt rfl rfl (b32_id (by omega) (by omega)) (show b32 3 = 3 by decide) (fun h6 => ?_) (fun h6 => ?_)
        · have h6 : law ≠ 3 := h6
          refine jWp.blk mt 1 ?_
          show jWp 28 163 [some (jO r), some (jI (n : Int)), some (jO fk), none, none, none, none] [jI 0] 0 0 w _
          refine jWp.iretz mt rfl ⟨rfl, rfl⟩ rfl (Or.inl rfl) ?_
          refine Or.inr ⟨rfl, fun g => ?_, rfl⟩
          first
          | (exact g.1 (by unfold zkm; rw [if_neg (by omega), if_neg (by omega), if_neg (by omega)]))
          | (have ez : zkm law = 2 := by unfold zkm; rw [if_pos (by omega)]
             have g2 := g.2; rw [ez] at g2; exact absurd g2 (by assumption))
          | (have ez : zkm law = 3 := by unfold zkm; rw [if_neg (by omega), if_pos (by omega)]
             have g2 := g.2; rw [ez] at g2; exact absurd g2 (by assumption))
          | (have ez : zkm law = 4 := by unfold zkm; rw [if_neg (by omega), if_neg (by omega), if_pos (by omega)]
             have g2 := g.2; rw [ez] at g2; exact absurd g2 (by assumption))
        · have h6 : law = 3 := h6
          refine jWp.blk mt 3 ?_
          show _ ∧ jWp 28 119 [some (jO r), some (jI (n : Int)), some (jO fk), none, none, none, none] [jI 4, jI (n : Int), jO r] 0 0 w _
          refine ⟨rfl, ?_⟩
          refine jWp.callv (as := [jO r, jI (n : Int), jI 4]) (rest := []) mt rfl rfl rfl ⟨rfl, jtg hkr⟩ ?_
          refine jCall.mono (C_isPlain (w := w) (r := r) (rt := rt) (len := len) hkr hkt hrt hlen hl60 hgb (n := n) (q := 4) hn (by decide)) (fun v9 w9 h9 => ?_)
          rcases h9 with ⟨rfl, h9, h7⟩ | ⟨rfl, h9, h7⟩ <;> subst w9
          · have h7 : ∀ k, n ≤ k → k < n + 4 → k < len ∧ 1 ≤ w.1 rt k ∧ w.1 rt k ≤ 9999 := h7
            show jWp 28 122 [some (jO r), some (jI (n : Int)), some (jO fk), none, none, none, none] [jI 1] 0 0 w _
            have b0 := h7 (n + 0) (by omega) (by omega)
            have b1 := h7 (n + 1) (by omega) (by omega)
            have b2 := h7 (n + 2) (by omega) (by omega)
            have b3 := h7 (n + 3) (by omega) (by omega)
            rw [show n + 0 = n from rfl] at b0
            have hU := zkU3 hf b0.2 b1.2 b2.2 b3.2
            refine jWp.ifc (b := false) mt rfl (by decide) rfl ?_
            show jWp 28 125 [some (jO r), some (jI (n : Int)), some (jO fk), none, none, none, none] [] 0 0 w _
            refine jWp.blk mt 3 ?_
            show _ ∧ _ ∧ jWp 28 128 [some (jO r), some (jI (n : Int)), some (jO fk), none, none, none, none] [jI (n : Int), jO r, jO r] 0 0 w _
            refine ⟨rfl, rfl, ?_⟩
            refine jWp.callv (as := [jO r, jI (n : Int)]) (rest := [jO r]) mt rfl rfl rfl ⟨rfl, jtg hkr⟩ ?_
            refine jCall.mono ((by have h := C_termAt (w := w) (r := r) (rt := rt) (len := len) hkr hkt hrt hlen hl60 hgb (n := n) (by omega); rw [zta_t (by omega)] at h; exact h)) (fun v9 w9 h9 => ?_)
            obtain ⟨rfl, h9⟩ := h9
            subst w9
            show jWp 28 131 [some (jO r), some (jI (n : Int)), some (jO fk), none, none, none, none] [jI (w.1 rt n), jO r] 0 0 w _
            refine jWp.i2l (pc' := 132) mt rfl rfl (b32_id (by omega) (by omega)) ?_
            show jWp 28 132 [some (jO r), some (jI (n : Int)), some (jO fk), none, none, none, none] [jJ (w.1 rt n), jO r] 0 0 w _
            refine jWp.blk mt 4 ?_
            show _ ∧ jWp 28 136 [some (jO r), some (jI (n : Int)), some (jO fk), none, none, none, none] [jI ((n : Int) + 1), jO r, jJ (w.1 rt n), jO r] 0 0 w _
            refine ⟨rfl, ?_⟩
            refine jWp.callv (as := [jO r, jI ((n : Int) + 1)]) (rest := [jJ (w.1 rt n), jO r]) mt rfl rfl rfl ⟨rfl, jtg hkr⟩ ?_
            refine jCall.mono ((by have h := C_termAt (w := w) (r := r) (rt := rt) (len := len) hkr hkt hrt hlen hl60 hgb (n := (n + 1)) (by omega); rw [zta_t (by omega)] at h; exact h)) (fun v9 w9 h9 => ?_)
            obtain ⟨rfl, h9⟩ := h9
            subst w9
            show jWp 28 139 [some (jO r), some (jI (n : Int)), some (jO fk), none, none, none, none] [jI (w.1 rt (n + 1)), jJ (w.1 rt n), jO r] 0 0 w _
            refine jWp.i2l (pc' := 140) mt rfl rfl (b32_id (by omega) (by omega)) ?_
            show jWp 28 140 [some (jO r), some (jI (n : Int)), some (jO fk), none, none, none, none] [jJ (w.1 rt (n + 1)), jJ (w.1 rt n), jO r] 0 0 w _
            refine jWp.blk mt 4 ?_
            show _ ∧ jWp 28 144 [some (jO r), some (jI (n : Int)), some (jO fk), none, none, none, none] [jI ((n : Int) + 2), jO r, jJ (w.1 rt (n + 1)), jJ (w.1 rt n), jO r] 0 0 w _
            refine ⟨rfl, ?_⟩
            refine jWp.callv (as := [jO r, jI ((n : Int) + 2)]) (rest := [jJ (w.1 rt (n + 1)), jJ (w.1 rt n), jO r]) mt rfl rfl rfl ⟨rfl, jtg hkr⟩ ?_
            refine jCall.mono ((by have h := C_termAt (w := w) (r := r) (rt := rt) (len := len) hkr hkt hrt hlen hl60 hgb (n := (n + 2)) (by omega); rw [zta_t (by omega)] at h; exact h)) (fun v9 w9 h9 => ?_)
            obtain ⟨rfl, h9⟩ := h9
            subst w9
            show jWp 28 147 [some (jO r), some (jI (n : Int)), some (jO fk), none, none, none, none] [jI (w.1 rt (n + 2)), jJ (w.1 rt (n + 1)), jJ (w.1 rt n), jO r] 0 0 w _
            refine jWp.i2l (pc' := 148) mt rfl rfl (b32_id (by omega) (by omega)) ?_
            show jWp 28 148 [some (jO r), some (jI (n : Int)), some (jO fk), none, none, none, none] [jJ (w.1 rt (n + 2)), jJ (w.1 rt (n + 1)), jJ (w.1 rt n), jO r] 0 0 w _
            refine jWp.blk mt 4 ?_
            show _ ∧ jWp 28 152 [some (jO r), some (jI (n : Int)), some (jO fk), none, none, none, none] [jI ((n : Int) + 3), jO r, jJ (w.1 rt (n + 2)), jJ (w.1 rt (n + 1)), jJ (w.1 rt n), jO r] 0 0 w _
            refine ⟨rfl, ?_⟩
            refine jWp.callv (as := [jO r, jI ((n : Int) + 3)]) (rest := [jJ (w.1 rt (n + 2)), jJ (w.1 rt (n + 1)), jJ (w.1 rt n), jO r]) mt rfl rfl rfl ⟨rfl, jtg hkr⟩ ?_
            refine jCall.mono ((by have h := C_termAt (w := w) (r := r) (rt := rt) (len := len) hkr hkt hrt hlen hl60 hgb (n := (n + 3)) (by omega); rw [zta_t (by omega)] at h; exact h)) (fun v9 w9 h9 => ?_)
            obtain ⟨rfl, h9⟩ := h9
            subst w9
            show jWp 28 155 [some (jO r), some (jI (n : Int)), some (jO fk), none, none, none, none] [jI (w.1 rt (n + 3)), jJ (w.1 rt (n + 2)), jJ (w.1 rt (n + 1)), jJ (w.1 rt n), jO r] 0 0 w _
            refine jWp.i2l (pc' := 156) mt rfl rfl (b32_id (by omega) (by omega)) ?_
            show jWp 28 156 [some (jO r), some (jI (n : Int)), some (jO fk), none, none, none, none] [jJ (w.1 rt (n + 3)), jJ (w.1 rt (n + 2)), jJ (w.1 rt (n + 1)), jJ (w.1 rt n), jO r] 0 0 w _
            refine jWp.blk mt 1 ?_
            show _ ∧ jWp 28 157 [some (jO r), some (jI (n : Int)), some (jO fk), none, none, none, none] [jO fk, jJ (w.1 rt (n + 3)), jJ (w.1 rt (n + 2)), jJ (w.1 rt (n + 1)), jJ (w.1 rt n), jO r] 0 0 w _
            refine ⟨rfl, ?_⟩
            refine jWp.callv (as := [jO r, jJ (w.1 rt n), jJ (w.1 rt (n + 1)), jJ (w.1 rt (n + 2)), jJ (w.1 rt (n + 3)), jO fk]) (rest := []) mt rfl rfl rfl ⟨rfl, jtg hkr⟩ ?_
            refine jCall.mono (C_keepOfFour (w := w) (r := r) (fk := fk) hkr hkf hfig hf b0.2 b1.2 b2.2 b3.2) (fun v9 w9 h9 => ?_)
            obtain ⟨rfl, h9⟩ := h9
            subst h9
            show jWp 28 160 [some (jO r), some (jI (n : Int)), some (jO fk), none, none, none, none] [] 0 0 (jF1 w fk (zu (((w.1 rt n) * (w.1 rt (n + 3))) * ((w.1 rt n) * (w.1 rt (n + 3))) + (w.1 rt (n + 1)) * (w.1 rt (n + 1)) * (w.1 rt (n + 1)) * (w.1 rt (n + 3)) + (w.1 rt (n + 2)) * (w.1 rt (n + 2)) * (w.1 rt n) * (w.1 rt (n + 2)) + f * ((w.1 rt (n + 1)) * (w.1 rt (n + 2))) * ((w.1 rt (n + 1)) * (w.1 rt (n + 2)))) (((w.1 rt n) * (w.1 rt (n + 3))) * ((w.1 rt (n + 1)) * (w.1 rt (n + 2))))) (zv (((w.1 rt n) * (w.1 rt (n + 3))) * ((w.1 rt n) * (w.1 rt (n + 3))) + (w.1 rt (n + 1)) * (w.1 rt (n + 1)) * (w.1 rt (n + 1)) * (w.1 rt (n + 3)) + (w.1 rt (n + 2)) * (w.1 rt (n + 2)) * (w.1 rt n) * (w.1 rt (n + 2)) + f * ((w.1 rt (n + 1)) * (w.1 rt (n + 2))) * ((w.1 rt (n + 1)) * (w.1 rt (n + 2)))) (((w.1 rt n) * (w.1 rt (n + 3))) * ((w.1 rt (n + 1)) * (w.1 rt (n + 2)))))) _
            refine jWp.blk mt 1 ?_
            show jWp 28 161 [some (jO r), some (jI (n : Int)), some (jO fk), none, none, none, none] [jI 1] 0 0 (jF1 w fk (zu (((w.1 rt n) * (w.1 rt (n + 3))) * ((w.1 rt n) * (w.1 rt (n + 3))) + (w.1 rt (n + 1)) * (w.1 rt (n + 1)) * (w.1 rt (n + 1)) * (w.1 rt (n + 3)) + (w.1 rt (n + 2)) * (w.1 rt (n + 2)) * (w.1 rt n) * (w.1 rt (n + 2)) + f * ((w.1 rt (n + 1)) * (w.1 rt (n + 2))) * ((w.1 rt (n + 1)) * (w.1 rt (n + 2)))) (((w.1 rt n) * (w.1 rt (n + 3))) * ((w.1 rt (n + 1)) * (w.1 rt (n + 2))))) (zv (((w.1 rt n) * (w.1 rt (n + 3))) * ((w.1 rt n) * (w.1 rt (n + 3))) + (w.1 rt (n + 1)) * (w.1 rt (n + 1)) * (w.1 rt (n + 1)) * (w.1 rt (n + 3)) + (w.1 rt (n + 2)) * (w.1 rt (n + 2)) * (w.1 rt n) * (w.1 rt (n + 2)) + f * ((w.1 rt (n + 1)) * (w.1 rt (n + 2))) * ((w.1 rt (n + 1)) * (w.1 rt (n + 2)))) (((w.1 rt n) * (w.1 rt (n + 3))) * ((w.1 rt (n + 1)) * (w.1 rt (n + 2)))))) _
            refine jWp.iretz mt rfl ⟨rfl, rfl⟩ rfl (Or.inr rfl) ?_
            have ez : zkm law = 4 := by unfold zkm; rw [if_neg (by omega), if_neg (by omega), if_pos (by omega)]
            have eu : zku law f (w.1 rt) n = (((w.1 rt n) * (w.1 rt (n + 3))) * ((w.1 rt n) * (w.1 rt (n + 3))) + (w.1 rt (n + 1)) * (w.1 rt (n + 1)) * (w.1 rt (n + 1)) * (w.1 rt (n + 3)) + (w.1 rt (n + 2)) * (w.1 rt (n + 2)) * (w.1 rt n) * (w.1 rt (n + 2)) + f * ((w.1 rt (n + 1)) * (w.1 rt (n + 2))) * ((w.1 rt (n + 1)) * (w.1 rt (n + 2)))) := by unfold zku; rw [if_neg (by omega), if_neg (by omega)]
            have ed : zkd law (w.1 rt) n = (((w.1 rt n) * (w.1 rt (n + 3))) * ((w.1 rt (n + 1)) * (w.1 rt (n + 2)))) := by unfold zkd; rw [if_neg (by omega), if_neg (by omega)]
            have hua := zuA (a := (((w.1 rt n) * (w.1 rt (n + 3))) * ((w.1 rt n) * (w.1 rt (n + 3))) + (w.1 rt (n + 1)) * (w.1 rt (n + 1)) * (w.1 rt (n + 1)) * (w.1 rt (n + 3)) + (w.1 rt (n + 2)) * (w.1 rt (n + 2)) * (w.1 rt n) * (w.1 rt (n + 2)) + f * ((w.1 rt (n + 1)) * (w.1 rt (n + 2))) * ((w.1 rt (n + 1)) * (w.1 rt (n + 2))))) (b := (((w.1 rt n) * (w.1 rt (n + 3))) * ((w.1 rt (n + 1)) * (w.1 rt (n + 2))))) (by omega)
            have hvb := zv_b (a := (((w.1 rt n) * (w.1 rt (n + 3))) * ((w.1 rt n) * (w.1 rt (n + 3))) + (w.1 rt (n + 1)) * (w.1 rt (n + 1)) * (w.1 rt (n + 1)) * (w.1 rt (n + 3)) + (w.1 rt (n + 2)) * (w.1 rt (n + 2)) * (w.1 rt n) * (w.1 rt (n + 2)) + f * ((w.1 rt (n + 1)) * (w.1 rt (n + 2))) * ((w.1 rt (n + 1)) * (w.1 rt (n + 2))))) (b := (((w.1 rt n) * (w.1 rt (n + 3))) * ((w.1 rt (n + 1)) * (w.1 rt (n + 2))))) (by omega)
            refine Or.inl ⟨rfl, ⟨by rw [ez]; decide, by rw [ez]; exact h7⟩, ?_, ?_⟩
            · rw [eu, ed]
            · rw [eu, ed]
              omega
          · have h7 : ¬ (∀ k, n ≤ k → k < n + 4 → k < len ∧ 1 ≤ w.1 rt k ∧ w.1 rt k ≤ 9999) := h7
            show jWp 28 122 [some (jO r), some (jI (n : Int)), some (jO fk), none, none, none, none] [jI 0] 0 0 w _
            refine jWp.ifc (b := true) mt rfl (by decide) rfl ?_
            show jWp 28 162 [some (jO r), some (jI (n : Int)), some (jO fk), none, none, none, none] [] 0 0 w _
            refine jWp.blk mt 1 ?_
            show jWp 28 163 [some (jO r), some (jI (n : Int)), some (jO fk), none, none, none, none] [jI 0] 0 0 w _
            refine jWp.iretz mt rfl ⟨rfl, rfl⟩ rfl (Or.inl rfl) ?_
            refine Or.inr ⟨rfl, fun g => ?_, rfl⟩
            first
            | (exact g.1 (by unfold zkm; rw [if_neg (by omega), if_neg (by omega), if_neg (by omega)]))
            | (have ez : zkm law = 2 := by unfold zkm; rw [if_pos (by omega)]
               have g2 := g.2; rw [ez] at g2; exact absurd g2 (by assumption))
            | (have ez : zkm law = 3 := by unfold zkm; rw [if_neg (by omega), if_pos (by omega)]
               have g2 := g.2; rw [ez] at g2; exact absurd g2 (by assumption))
            | (have ez : zkm law = 4 := by unfold zkm; rw [if_neg (by omega), if_neg (by omega), if_pos (by omega)]
               have g2 := g.2; rw [ez] at g2; exact absurd g2 (by assumption))
  · have h1 : law = 0 := h1
    refine jWp.blk mt 3 ?_
    show _ ∧ jWp 28 10 [some (jO r), some (jI (n : Int)), some (jO fk), none, none, none, none] [jI 2, jI (n : Int), jO r] 0 0 w _
    refine ⟨rfl, ?_⟩
    refine jWp.callv (as := [jO r, jI (n : Int), jI 2]) (rest := []) mt rfl rfl rfl ⟨rfl, jtg hkr⟩ ?_
    refine jCall.mono (C_isPlain (w := w) (r := r) (rt := rt) (len := len) hkr hkt hrt hlen hl60 hgb (n := n) (q := 2) hn (by decide)) (fun v9 w9 h9 => ?_)
    rcases h9 with ⟨rfl, h9, h8⟩ | ⟨rfl, h9, h8⟩ <;> subst w9
    · have h8 : ∀ k, n ≤ k → k < n + 2 → k < len ∧ 1 ≤ w.1 rt k ∧ w.1 rt k ≤ 9999 := h8
      show jWp 28 13 [some (jO r), some (jI (n : Int)), some (jO fk), none, none, none, none] [jI 1] 0 0 w _
      have b0 := h8 (n + 0) (by omega) (by omega)
      have b1 := h8 (n + 1) (by omega) (by omega)
      rw [show n + 0 = n from rfl] at b0
      have hU := zkU0 hf b0.2 b1.2
      refine jWp.ifc (b := false) mt rfl (by decide) rfl ?_
      show jWp 28 16 [some (jO r), some (jI (n : Int)), some (jO fk), none, none, none, none] [] 0 0 w _
      refine jWp.blk mt 2 ?_
      show _ ∧ jWp 28 18 [some (jO r), some (jI (n : Int)), some (jO fk), none, none, none, none] [jI (n : Int), jO r] 0 0 w _
      refine ⟨rfl, ?_⟩
      refine jWp.callv (as := [jO r, jI (n : Int)]) (rest := []) mt rfl rfl rfl ⟨rfl, jtg hkr⟩ ?_
      refine jCall.mono ((by have h := C_termAt (w := w) (r := r) (rt := rt) (len := len) hkr hkt hrt hlen hl60 hgb (n := n) (by omega); rw [zta_t (by omega)] at h; exact h)) (fun v9 w9 h9 => ?_)
      obtain ⟨rfl, h9⟩ := h9
      subst w9
      show jWp 28 21 [some (jO r), some (jI (n : Int)), some (jO fk), none, none, none, none] [jI (w.1 rt n)] 0 0 w _
      refine jWp.i2l (pc' := 22) mt rfl rfl (b32_id (by omega) (by omega)) ?_
      show jWp 28 22 [some (jO r), some (jI (n : Int)), some (jO fk), none, none, none, none] [jJ (w.1 rt n)] 0 0 w _
      refine jWp.blk mt 5 ?_
      show _ ∧ jWp 28 27 [some (jO r), some (jI (n : Int)), some (jO fk), some (jJ (w.1 rt n)), none, none, none] [jI ((n : Int) + 1), jO r] 0 0 w _
      refine ⟨rfl, ?_⟩
      refine jWp.callv (as := [jO r, jI ((n : Int) + 1)]) (rest := []) mt rfl rfl rfl ⟨rfl, jtg hkr⟩ ?_
      refine jCall.mono ((by have h := C_termAt (w := w) (r := r) (rt := rt) (len := len) hkr hkt hrt hlen hl60 hgb (n := (n + 1)) (by omega); rw [zta_t (by omega)] at h; exact h)) (fun v9 w9 h9 => ?_)
      obtain ⟨rfl, h9⟩ := h9
      subst w9
      show jWp 28 30 [some (jO r), some (jI (n : Int)), some (jO fk), some (jJ (w.1 rt n)), none, none, none] [jI (w.1 rt (n + 1))] 0 0 w _
      refine jWp.i2l (pc' := 31) mt rfl rfl (b32_id (by omega) (by omega)) ?_
      show jWp 28 31 [some (jO r), some (jI (n : Int)), some (jO fk), some (jJ (w.1 rt n)), none, none, none] [jJ (w.1 rt (n + 1))] 0 0 w _
      refine jWp.blk mt 10 ?_
      show _ ∧ _ ∧ jWp 28 44 [some (jO r), some (jI (n : Int)), some (jO fk), some (jJ (w.1 rt n)), none, some (jJ (w.1 rt (n + 1))), none] [jO r, jJ (((w.1 rt n) * (w.1 rt n)) + ((w.1 rt (n + 1)) * (w.1 rt (n + 1)))), jO fk] 0 0 w _
      refine ⟨rfl, rfl, ?_⟩
      refine jWp.getI (pc' := 47) mt rfl rfl (jtg hkr) ?_
      rw [show (w.1 r 1) = f from hfig]
      show jWp 28 47 [some (jO r), some (jI (n : Int)), some (jO fk), some (jJ (w.1 rt n)), none, some (jJ (w.1 rt (n + 1))), none] [jI f, jJ (((w.1 rt n) * (w.1 rt n)) + ((w.1 rt (n + 1)) * (w.1 rt (n + 1)))), jO fk] 0 0 w _
      refine jWp.i2l (pc' := 48) mt rfl rfl (b32_id (by omega) (by omega)) ?_
      show jWp 28 48 [some (jO r), some (jI (n : Int)), some (jO fk), some (jJ (w.1 rt n)), none, some (jJ (w.1 rt (n + 1))), none] [jJ f, jJ (((w.1 rt n) * (w.1 rt n)) + ((w.1 rt (n + 1)) * (w.1 rt (n + 1)))), jO fk] 0 0 w _
      refine jWp.blk mt 6 ?_
      show jWp 28 55 [some (jO r), some (jI (n : Int)), some (jO fk), some (jJ (w.1 rt n)), none, some (jJ (w.1 rt (n + 1))), none] [jJ 1, jJ ((((w.1 rt n) * (w.1 rt n)) + ((w.1 rt (n + 1)) * (w.1 rt (n + 1)))) - ((f * (w.1 rt n)) * (w.1 rt (n + 1)))), jO fk] 0 0 w _
      refine jWp.callv (as := [jO fk, jJ ((((w.1 rt n) * (w.1 rt n)) + ((w.1 rt (n + 1)) * (w.1 rt (n + 1)))) - ((f * (w.1 rt n)) * (w.1 rt (n + 1)))), jJ 1]) (rest := []) mt rfl rfl rfl ⟨rfl, jtg hkf⟩ ?_
      refine jCall.mono (C_setn (w := w) hkf (by omega) (by omega)) (fun v9 w9 h9 => ?_)
      obtain ⟨y9, rfl, h9⟩ := h9
      subst h9
      show jWp 28 58 [some (jO r), some (jI (n : Int)), some (jO fk), some (jJ (w.1 rt n)), none, some (jJ (w.1 rt (n + 1))), none] [jI y9] 0 0 (jF1 w fk (zu ((((w.1 rt n) * (w.1 rt n)) + ((w.1 rt (n + 1)) * (w.1 rt (n + 1)))) - ((f * (w.1 rt n)) * (w.1 rt (n + 1)))) 1) (zv ((((w.1 rt n) * (w.1 rt n)) + ((w.1 rt (n + 1)) * (w.1 rt (n + 1)))) - ((f * (w.1 rt n)) * (w.1 rt (n + 1)))) 1)) _
      refine jWp.blk mt 2 ?_
      show jWp 28 60 [some (jO r), some (jI (n : Int)), some (jO fk), some (jJ (w.1 rt n)), none, some (jJ (w.1 rt (n + 1))), none] [jI 1] 0 0 (jF1 w fk (zu ((((w.1 rt n) * (w.1 rt n)) + ((w.1 rt (n + 1)) * (w.1 rt (n + 1)))) - ((f * (w.1 rt n)) * (w.1 rt (n + 1)))) 1) (zv ((((w.1 rt n) * (w.1 rt n)) + ((w.1 rt (n + 1)) * (w.1 rt (n + 1)))) - ((f * (w.1 rt n)) * (w.1 rt (n + 1)))) 1)) _
      refine jWp.iretz mt rfl ⟨rfl, rfl⟩ rfl (Or.inr rfl) ?_
      have ez : zkm law = 2 := by unfold zkm; rw [if_pos (by omega)]
      have eu : zku law f (w.1 rt) n = ((((w.1 rt n) * (w.1 rt n)) + ((w.1 rt (n + 1)) * (w.1 rt (n + 1)))) - ((f * (w.1 rt n)) * (w.1 rt (n + 1)))) := by unfold zku; rw [if_pos (by omega)]
      have ed : zkd law (w.1 rt) n = 1 := by unfold zkd; rw [if_pos (by omega)]
      have hua := zuA (a := ((((w.1 rt n) * (w.1 rt n)) + ((w.1 rt (n + 1)) * (w.1 rt (n + 1)))) - ((f * (w.1 rt n)) * (w.1 rt (n + 1))))) (b := 1) (by omega)
      have hvb := zv_b (a := ((((w.1 rt n) * (w.1 rt n)) + ((w.1 rt (n + 1)) * (w.1 rt (n + 1)))) - ((f * (w.1 rt n)) * (w.1 rt (n + 1))))) (b := 1) (by omega)
      refine Or.inl ⟨rfl, ⟨by rw [ez]; decide, by rw [ez]; exact h8⟩, ?_, ?_⟩
      · rw [eu, ed]
      · rw [eu, ed]
        omega
    · have h8 : ¬ (∀ k, n ≤ k → k < n + 2 → k < len ∧ 1 ≤ w.1 rt k ∧ w.1 rt k ≤ 9999) := h8
      show jWp 28 13 [some (jO r), some (jI (n : Int)), some (jO fk), none, none, none, none] [jI 0] 0 0 w _
      refine jWp.ifc (b := true) mt rfl (by decide) rfl ?_
      show jWp 28 61 [some (jO r), some (jI (n : Int)), some (jO fk), none, none, none, none] [] 0 0 w _
      refine jWp.blk mt 1 ?_
      show _ ∧ jWp 28 62 [some (jO r), some (jI (n : Int)), some (jO fk), none, none, none, none] [jO r] 0 0 w _
      refine ⟨rfl, ?_⟩
      refine jWp.getI (pc' := 65) mt rfl rfl (jtg hkr) ?_
      rw [show (w.1 r 0) = law from hlaw]
      show jWp 28 65 [some (jO r), some (jI (n : Int)), some (jO fk), none, none, none, none] [jI law] 0 0 w _
      refine jWp.blk mt 1 ?_
      show jWp 28 66 [some (jO r), some (jI (n : Int)), some (jO fk), none, none, none, none] [jI 1, jI law] 0 0 w _
      refine jWp.icmp (pc' := 69) mt rfl rfl (b32_id (by omega) (by omega)) (show b32 1 = 1 by decide) (fun h9 => ?_) (fun h9 => ?_)
      · have h9 : law ≠ 1 := h9
        refine jWp.blk mt 1 ?_
        show _ ∧ jWp 28 109 [some (jO r), some (jI (n : Int)), some (jO fk), none, none, none, none] [jO r] 0 0 w _
        refine ⟨rfl, ?_⟩
        refine jWp.getI (pc' := 112) mt rfl rfl (jtg hkr) ?_
        rw [show (w.1 r 0) = law from hlaw]
        show jWp 28 112 [some (jO r), some (jI (n : Int)), some (jO fk), none, none, none, none] [jI law] 0 0 w _
        refine jWp.blk mt 1 ?_
        show jWp 28 113 [some (jO r), some (jI (n : Int)), some (jO fk), none, none, none, none] [jI 3, jI law] 0 0 w _
        refine jWp.icmp (pc' := 116) mt rfl rfl (b32_id (by omega) (by omega)) (show b32 3 = 3 by decide) (fun h10 => ?_) (fun h10 => ?_)
        · have h10 : law ≠ 3 := h10
          refine jWp.blk mt 1 ?_
          show jWp 28 163 [some (jO r), some (jI (n : Int)), some (jO fk), none, none, none, none] [jI 0] 0 0 w _
          refine jWp.iretz mt rfl ⟨rfl, rfl⟩ rfl (Or.inl rfl) ?_
          refine Or.inr ⟨rfl, fun g => ?_, rfl⟩
          first
          | (exact g.1 (by unfold zkm; rw [if_neg (by omega), if_neg (by omega), if_neg (by omega)]))
          | (have ez : zkm law = 2 := by unfold zkm; rw [if_pos (by omega)]
             have g2 := g.2; rw [ez] at g2; exact absurd g2 (by assumption))
          | (have ez : zkm law = 3 := by unfold zkm; rw [if_neg (by omega), if_pos (by omega)]
             have g2 := g.2; rw [ez] at g2; exact absurd g2 (by assumption))
          | (have ez : zkm law = 4 := by unfold zkm; rw [if_neg (by omega), if_neg (by omega), if_pos (by omega)]
             have g2 := g.2; rw [ez] at g2; exact absurd g2 (by assumption))
        · have h10 : law = 3 := h10
          refine jWp.blk mt 3 ?_
          show _ ∧ jWp 28 119 [some (jO r), some (jI (n : Int)), some (jO fk), none, none, none, none] [jI 4, jI (n : Int), jO r] 0 0 w _
          refine ⟨rfl, ?_⟩
          refine jWp.callv (as := [jO r, jI (n : Int), jI 4]) (rest := []) mt rfl rfl rfl ⟨rfl, jtg hkr⟩ ?_
          refine jCall.mono (C_isPlain (w := w) (r := r) (rt := rt) (len := len) hkr hkt hrt hlen hl60 hgb (n := n) (q := 4) hn (by decide)) (fun v9 w9 h9 => ?_)
          rcases h9 with ⟨rfl, h9, h11⟩ | ⟨rfl, h9, h11⟩ <;> subst w9
          · have h11 : ∀ k, n ≤ k → k < n + 4 → k < len ∧ 1 ≤ w.1 rt k ∧ w.1 rt k ≤ 9999 := h11
            show jWp 28 122 [some (jO r), some (jI (n : Int)), some (jO fk), none, none, none, none] [jI 1] 0 0 w _
            have b0 := h11 (n + 0) (by omega) (by omega)
            have b1 := h11 (n + 1) (by omega) (by omega)
            have b2 := h11 (n + 2) (by omega) (by omega)
            have b3 := h11 (n + 3) (by omega) (by omega)
            rw [show n + 0 = n from rfl] at b0
            have hU := zkU3 hf b0.2 b1.2 b2.2 b3.2
            refine jWp.ifc (b := false) mt rfl (by decide) rfl ?_
            show jWp 28 125 [some (jO r), some (jI (n : Int)), some (jO fk), none, none, none, none] [] 0 0 w _
            refine jWp.blk mt 3 ?_
            show _ ∧ _ ∧ jWp 28 128 [some (jO r), some (jI (n : Int)), some (jO fk), none, none, none, none] [jI (n : Int), jO r, jO r] 0 0 w _
            refine ⟨rfl, rfl, ?_⟩
            refine jWp.callv (as := [jO r, jI (n : Int)]) (rest := [jO r]) mt rfl rfl rfl ⟨rfl, jtg hkr⟩ ?_
            refine jCall.mono ((by have h := C_termAt (w := w) (r := r) (rt := rt) (len := len) hkr hkt hrt hlen hl60 hgb (n := n) (by omega); rw [zta_t (by omega)] at h; exact h)) (fun v9 w9 h9 => ?_)
            obtain ⟨rfl, h9⟩ := h9
            subst w9
            show jWp 28 131 [some (jO r), some (jI (n : Int)), some (jO fk), none, none, none, none] [jI (w.1 rt n), jO r] 0 0 w _
            refine jWp.i2l (pc' := 132) mt rfl rfl (b32_id (by omega) (by omega)) ?_
            show jWp 28 132 [some (jO r), some (jI (n : Int)), some (jO fk), none, none, none, none] [jJ (w.1 rt n), jO r] 0 0 w _
            refine jWp.blk mt 4 ?_
            show _ ∧ jWp 28 136 [some (jO r), some (jI (n : Int)), some (jO fk), none, none, none, none] [jI ((n : Int) + 1), jO r, jJ (w.1 rt n), jO r] 0 0 w _
            refine ⟨rfl, ?_⟩
            refine jWp.callv (as := [jO r, jI ((n : Int) + 1)]) (rest := [jJ (w.1 rt n), jO r]) mt rfl rfl rfl ⟨rfl, jtg hkr⟩ ?_
            refine jCall.mono ((by have h := C_termAt (w := w) (r := r) (rt := rt) (len := len) hkr hkt hrt hlen hl60 hgb (n := (n + 1)) (by omega); rw [zta_t (by omega)] at h; exact h)) (fun v9 w9 h9 => ?_)
            obtain ⟨rfl, h9⟩ := h9
            subst w9
            show jWp 28 139 [some (jO r), some (jI (n : Int)), some (jO fk), none, none, none, none] [jI (w.1 rt (n + 1)), jJ (w.1 rt n), jO r] 0 0 w _
            refine jWp.i2l (pc' := 140) mt rfl rfl (b32_id (by omega) (by omega)) ?_
            show jWp 28 140 [some (jO r), some (jI (n : Int)), some (jO fk), none, none, none, none] [jJ (w.1 rt (n + 1)), jJ (w.1 rt n), jO r] 0 0 w _
            refine jWp.blk mt 4 ?_
            show _ ∧ jWp 28 144 [some (jO r), some (jI (n : Int)), some (jO fk), none, none, none, none] [jI ((n : Int) + 2), jO r, jJ (w.1 rt (n + 1)), jJ (w.1 rt n), jO r] 0 0 w _
            refine ⟨rfl, ?_⟩
            refine jWp.callv (as := [jO r, jI ((n : Int) + 2)]) (rest := [jJ (w.1 rt (n + 1)), jJ (w.1 rt n), jO r]) mt rfl rfl rfl ⟨rfl, jtg hkr⟩ ?_
            refine jCall.mono ((by have h := C_termAt (w := w) (r := r) (rt := rt) (len := len) hkr hkt hrt hlen hl60 hgb (n := (n + 2)) (by omega); rw [zta_t (by omega)] at h; exact h)) (fun v9 w9 h9 => ?_)
            obtain ⟨rfl, h9⟩ := h9
            subst w9
            show jWp 28 147 [some (jO r), some (jI (n : Int)), some (jO fk), none, none, none, none] [jI (w.1 rt (n + 2)), jJ (w.1 rt (n + 1)), jJ (w.1 rt n), jO r] 0 0 w _
            refine jWp.i2l (pc' := 148) mt rfl rfl (b32_id (by omega) (by omega)) ?_
            show jWp 28 148 [some (jO r), some (jI (n : Int)), some (jO fk), none, none, none, none] [jJ (w.1 rt (n + 2)), jJ (w.1 rt (n + 1)), jJ (w.1 rt n), jO r] 0 0 w _
            refine jWp.blk mt 4 ?_
            show _ ∧ jWp 28 152 [some (jO r), some (jI (n : Int)), some (jO fk), none, none, none, none] [jI ((n : Int) + 3), jO r, jJ (w.1 rt (n + 2)), jJ (w.1 rt (n + 1)), jJ (w.1 rt n), jO r] 0 0 w _
            refine ⟨rfl, ?_⟩
            refine jWp.callv (as := [jO r, jI ((n : Int) + 3)]) (rest := [jJ (w.1 rt (n + 2)), jJ (w.1 rt (n + 1)), jJ (w.1 rt n), jO r]) mt rfl rfl rfl ⟨rfl, jtg hkr⟩ ?_
            refine jCall.mono ((by have h := C_termAt (w := w) (r := r) (rt := rt) (len := len) hkr hkt hrt hlen hl60 hgb (n := (n + 3)) (by omega); rw [zta_t (by omega)] at h; exact h)) (fun v9 w9 h9 => ?_)
            obtain ⟨rfl, h9⟩ := h9
            subst w9
            show jWp 28 155 [some (jO r), some (jI (n : Int)), some (jO fk), none, none, none, none] [jI (w.1 rt (n + 3)), jJ (w.1 rt (n + 2)), jJ (w.1 rt (n + 1)), jJ (w.1 rt n), jO r] 0 0 w _
            refine jWp.i2l (pc' := 156) mt rfl rfl (b32_id (by omega) (by omega)) ?_
            show jWp 28 156 [some (jO r), some (jI (n : Int)), some (jO fk), none, none, none, none] [jJ (w.1 rt (n + 3)), jJ (w.1 rt (n + 2)), jJ (w.1 rt (n + 1)), jJ (w.1 rt n), jO r] 0 0 w _
            refine jWp.blk mt 1 ?_
            show _ ∧ jWp 28 157 [some (jO r), some (jI (n : Int)), some (jO fk), none, none, none, none] [jO fk, jJ (w.1 rt (n + 3)), jJ (w.1 rt (n + 2)), jJ (w.1 rt (n + 1)), jJ (w.1 rt n), jO r] 0 0 w _
            refine ⟨rfl, ?_⟩
            refine jWp.callv (as := [jO r, jJ (w.1 rt n), jJ (w.1 rt (n + 1)), jJ (w.1 rt (n + 2)), jJ (w.1 rt (n + 3)), jO fk]) (rest := []) mt rfl rfl rfl ⟨rfl, jtg hkr⟩ ?_
            refine jCall.mono (C_keepOfFour (w := w) (r := r) (fk := fk) hkr hkf hfig hf b0.2 b1.2 b2.2 b3.2) (fun v9 w9 h9 => ?_)
            obtain ⟨rfl, h9⟩ := h9
            subst h9
            show jWp 28 160 [some (jO r), some (jI (n : Int)), some (jO fk), none, none, none, none] [] 0 0 (jF1 w fk (zu (((w.1 rt n) * (w.1 rt (n + 3))) * ((w.1 rt n) * (w.1 rt (n + 3))) + (w.1 rt (n + 1)) * (w.1 rt (n + 1)) * (w.1 rt (n + 1)) * (w.1 rt (n + 3)) + (w.1 rt (n + 2)) * (w.1 rt (n + 2)) * (w.1 rt n) * (w.1 rt (n + 2)) + f * ((w.1 rt (n + 1)) * (w.1 rt (n + 2))) * ((w.1 rt (n + 1)) * (w.1 rt (n + 2)))) (((w.1 rt n) * (w.1 rt (n + 3))) * ((w.1 rt (n + 1)) * (w.1 rt (n + 2))))) (zv (((w.1 rt n) * (w.1 rt (n + 3))) * ((w.1 rt n) * (w.1 rt (n + 3))) + (w.1 rt (n + 1)) * (w.1 rt (n + 1)) * (w.1 rt (n + 1)) * (w.1 rt (n + 3)) + (w.1 rt (n + 2)) * (w.1 rt (n + 2)) * (w.1 rt n) * (w.1 rt (n + 2)) + f * ((w.1 rt (n + 1)) * (w.1 rt (n + 2))) * ((w.1 rt (n + 1)) * (w.1 rt (n + 2)))) (((w.1 rt n) * (w.1 rt (n + 3))) * ((w.1 rt (n + 1)) * (w.1 rt (n + 2)))))) _
            refine jWp.blk mt 1 ?_
            show jWp 28 161 [some (jO r), some (jI (n : Int)), some (jO fk), none, none, none, none] [jI 1] 0 0 (jF1 w fk (zu (((w.1 rt n) * (w.1 rt (n + 3))) * ((w.1 rt n) * (w.1 rt (n + 3))) + (w.1 rt (n + 1)) * (w.1 rt (n + 1)) * (w.1 rt (n + 1)) * (w.1 rt (n + 3)) + (w.1 rt (n + 2)) * (w.1 rt (n + 2)) * (w.1 rt n) * (w.1 rt (n + 2)) + f * ((w.1 rt (n + 1)) * (w.1 rt (n + 2))) * ((w.1 rt (n + 1)) * (w.1 rt (n + 2)))) (((w.1 rt n) * (w.1 rt (n + 3))) * ((w.1 rt (n + 1)) * (w.1 rt (n + 2))))) (zv (((w.1 rt n) * (w.1 rt (n + 3))) * ((w.1 rt n) * (w.1 rt (n + 3))) + (w.1 rt (n + 1)) * (w.1 rt (n + 1)) * (w.1 rt (n + 1)) * (w.1 rt (n + 3)) + (w.1 rt (n + 2)) * (w.1 rt (n + 2)) * (w.1 rt n) * (w.1 rt (n + 2)) + f * ((w.1 rt (n + 1)) * (w.1 rt (n + 2))) * ((w.1 rt (n + 1)) * (w.1 rt (n + 2)))) (((w.1 rt n) * (w.1 rt (n + 3))) * ((w.1 rt (n + 1)) * (w.1 rt (n + 2)))))) _
            refine jWp.iretz mt rfl ⟨rfl, rfl⟩ rfl (Or.inr rfl) ?_
            have ez : zkm law = 4 := by unfold zkm; rw [if_neg (by omega), if_neg (by omega), if_pos (by omega)]
            have eu : zku law f (w.1 rt) n = (((w.1 rt n) * (w.1 rt (n + 3))) * ((w.1 rt n) * (w.1 rt (n + 3))) + (w.1 rt (n + 1)) * (w.1 rt (n + 1)) * (w.1 rt (n + 1)) * (w.1 rt (n + 3)) + (w.1 rt (n + 2)) * (w.1 rt (n + 2)) * (w.1 rt n) * (w.1 rt (n + 2)) + f * ((w.1 rt (n + 1)) * (w.1 rt (n + 2))) * ((w.1 rt (n + 1)) * (w.1 rt (n + 2)))) := by unfold zku; rw [if_neg (by omega), if_neg (by omega)]
            have ed : zkd law (w.1 rt) n = (((w.1 rt n) * (w.1 rt (n + 3))) * ((w.1 rt (n + 1)) * (w.1 rt (n + 2)))) := by unfold zkd; rw [if_neg (by omega), if_neg (by omega)]
            have hua := zuA (a := (((w.1 rt n) * (w.1 rt (n + 3))) * ((w.1 rt n) * (w.1 rt (n + 3))) + (w.1 rt (n + 1)) * (w.1 rt (n + 1)) * (w.1 rt (n + 1)) * (w.1 rt (n + 3)) + (w.1 rt (n + 2)) * (w.1 rt (n + 2)) * (w.1 rt n) * (w.1 rt (n + 2)) + f * ((w.1 rt (n + 1)) * (w.1 rt (n + 2))) * ((w.1 rt (n + 1)) * (w.1 rt (n + 2))))) (b := (((w.1 rt n) * (w.1 rt (n + 3))) * ((w.1 rt (n + 1)) * (w.1 rt (n + 2))))) (by omega)
            have hvb := zv_b (a := (((w.1 rt n) * (w.1 rt (n + 3))) * ((w.1 rt n) * (w.1 rt (n + 3))) + (w.1 rt (n + 1)) * (w.1 rt (n + 1)) * (w.1 rt (n + 1)) * (w.1 rt (n + 3)) + (w.1 rt (n + 2)) * (w.1 rt (n + 2)) * (w.1 rt n) * (w.1 rt (n + 2)) + f * ((w.1 rt (n + 1)) * (w.1 rt (n + 2))) * ((w.1 rt (n + 1)) * (w.1 rt (n + 2))))) (b := (((w.1 rt n) * (w.1 rt (n + 3))) * ((w.1 rt (n + 1)) * (w.1 rt (n + 2))))) (by omega)
            refine Or.inl ⟨rfl, ⟨by rw [ez]; decide, by rw [ez]; exact h11⟩, ?_, ?_⟩
            · rw [eu, ed]
            · rw [eu, ed]
              omega
          · have h11 : ¬ (∀ k, n ≤ k → k < n + 4 → k < len ∧ 1 ≤ w.1 rt k ∧ w.1 rt k ≤ 9999) := h11
            show jWp 28 122 [some (jO r), some (jI (n : Int)), some (jO fk), none, none, none, none] [jI 0] 0 0 w _
            refine jWp.ifc (b := true) mt rfl (by decide) rfl ?_
            show jWp 28 162 [some (jO r), some (jI (n : Int)), some (jO fk), none, none, none, none] [] 0 0 w _
            refine jWp.blk mt 1 ?_
            show jWp 28 163 [some (jO r), some (jI (n : Int)), some (jO fk), none, none, none, none] [jI 0] 0 0 w _
            refine jWp.iretz mt rfl ⟨rfl, rfl⟩ rfl (Or.inl rfl) ?_
            refine Or.inr ⟨rfl, fun g => ?_, rfl⟩
            first
            | (exact g.1 (by unfold zkm; rw [if_neg (by omega), if_neg (by omega), if_neg (by omega)]))
            | (have ez : zkm law = 2 := by unfold zkm; rw [if_pos (by omega)]
               have g2 := g.2; rw [ez] at g2; exact absurd g2 (by assumption))
            | (have ez : zkm law = 3 := by unfold zkm; rw [if_neg (by omega), if_pos (by omega)]
               have g2 := g.2; rw [ez] at g2; exact absurd g2 (by assumption))
            | (have ez : zkm law = 4 := by unfold zkm; rw [if_neg (by omega), if_neg (by omega), if_pos (by omega)]
               have g2 := g.2; rw [ez] at g2; exact absurd g2 (by assumption))
      · have h9 : law = 1 := h9
        refine jWp.blk mt 3 ?_
        show _ ∧ jWp 28 72 [some (jO r), some (jI (n : Int)), some (jO fk), none, none, none, none] [jI 3, jI (n : Int), jO r] 0 0 w _
        refine ⟨rfl, ?_⟩
        refine jWp.callv (as := [jO r, jI (n : Int), jI 3]) (rest := []) mt rfl rfl rfl ⟨rfl, jtg hkr⟩ ?_
        refine jCall.mono (C_isPlain (w := w) (r := r) (rt := rt) (len := len) hkr hkt hrt hlen hl60 hgb (n := n) (q := 3) hn (by decide)) (fun v9 w9 h9 => ?_)
        rcases h9 with ⟨rfl, h9, h12⟩ | ⟨rfl, h9, h12⟩ <;> subst w9
        · have h12 : ∀ k, n ≤ k → k < n + 3 → k < len ∧ 1 ≤ w.1 rt k ∧ w.1 rt k ≤ 9999 := h12
          show jWp 28 75 [some (jO r), some (jI (n : Int)), some (jO fk), none, none, none, none] [jI 1] 0 0 w _
          have b0 := h12 (n + 0) (by omega) (by omega)
          have b1 := h12 (n + 1) (by omega) (by omega)
          have b2 := h12 (n + 2) (by omega) (by omega)
          rw [show n + 0 = n from rfl] at b0
          refine jWp.ifc (b := false) mt rfl (by decide) rfl ?_
          show jWp 28 78 [some (jO r), some (jI (n : Int)), some (jO fk), none, none, none, none] [] 0 0 w _
          refine jWp.blk mt 3 ?_
          show _ ∧ _ ∧ jWp 28 81 [some (jO r), some (jI (n : Int)), some (jO fk), none, none, none, none] [jI (n : Int), jO r, jO fk] 0 0 w _
          refine ⟨rfl, rfl, ?_⟩
          refine jWp.callv (as := [jO r, jI (n : Int)]) (rest := [jO fk]) mt rfl rfl rfl ⟨rfl, jtg hkr⟩ ?_
          refine jCall.mono ((by have h := C_termAt (w := w) (r := r) (rt := rt) (len := len) hkr hkt hrt hlen hl60 hgb (n := n) (by omega); rw [zta_t (by omega)] at h; exact h)) (fun v9 w9 h9 => ?_)
          obtain ⟨rfl, h9⟩ := h9
          subst w9
          show jWp 28 84 [some (jO r), some (jI (n : Int)), some (jO fk), none, none, none, none] [jI (w.1 rt n), jO fk] 0 0 w _
          refine jWp.i2l (pc' := 85) mt rfl rfl (b32_id (by omega) (by omega)) ?_
          show jWp 28 85 [some (jO r), some (jI (n : Int)), some (jO fk), none, none, none, none] [jJ (w.1 rt n), jO fk] 0 0 w _
          refine jWp.blk mt 4 ?_
          show _ ∧ jWp 28 89 [some (jO r), some (jI (n : Int)), some (jO fk), none, none, none, none] [jI ((n : Int) + 2), jO r, jJ (w.1 rt n), jO fk] 0 0 w _
          refine ⟨rfl, ?_⟩
          refine jWp.callv (as := [jO r, jI ((n : Int) + 2)]) (rest := [jJ (w.1 rt n), jO fk]) mt rfl rfl rfl ⟨rfl, jtg hkr⟩ ?_
          refine jCall.mono ((by have h := C_termAt (w := w) (r := r) (rt := rt) (len := len) hkr hkt hrt hlen hl60 hgb (n := (n + 2)) (by omega); rw [zta_t (by omega)] at h; exact h)) (fun v9 w9 h9 => ?_)
          obtain ⟨rfl, h9⟩ := h9
          subst w9
          show jWp 28 92 [some (jO r), some (jI (n : Int)), some (jO fk), none, none, none, none] [jI (w.1 rt (n + 2)), jJ (w.1 rt n), jO fk] 0 0 w _
          refine jWp.i2l (pc' := 93) mt rfl rfl (b32_id (by omega) (by omega)) ?_
          show jWp 28 93 [some (jO r), some (jI (n : Int)), some (jO fk), none, none, none, none] [jJ (w.1 rt (n + 2)), jJ (w.1 rt n), jO fk] 0 0 w _
          refine jWp.blk mt 5 ?_
          show _ ∧ jWp 28 98 [some (jO r), some (jI (n : Int)), some (jO fk), none, none, none, none] [jI ((n : Int) + 1), jO r, jJ ((w.1 rt n) + (w.1 rt (n + 2))), jO fk] 0 0 w _
          refine ⟨rfl, ?_⟩
          refine jWp.callv (as := [jO r, jI ((n : Int) + 1)]) (rest := [jJ ((w.1 rt n) + (w.1 rt (n + 2))), jO fk]) mt rfl rfl rfl ⟨rfl, jtg hkr⟩ ?_
          refine jCall.mono ((by have h := C_termAt (w := w) (r := r) (rt := rt) (len := len) hkr hkt hrt hlen hl60 hgb (n := (n + 1)) (by omega); rw [zta_t (by omega)] at h; exact h)) (fun v9 w9 h9 => ?_)
          obtain ⟨rfl, h9⟩ := h9
          subst w9
          show jWp 28 101 [some (jO r), some (jI (n : Int)), some (jO fk), none, none, none, none] [jI (w.1 rt (n + 1)), jJ ((w.1 rt n) + (w.1 rt (n + 2))), jO fk] 0 0 w _
          refine jWp.i2l (pc' := 102) mt rfl rfl (b32_id (by omega) (by omega)) ?_
          show jWp 28 102 [some (jO r), some (jI (n : Int)), some (jO fk), none, none, none, none] [jJ (w.1 rt (n + 1)), jJ ((w.1 rt n) + (w.1 rt (n + 2))), jO fk] 0 0 w _
          refine jWp.callv (as := [jO fk, jJ ((w.1 rt n) + (w.1 rt (n + 2))), jJ (w.1 rt (n + 1))]) (rest := []) mt rfl rfl rfl ⟨rfl, jtg hkf⟩ ?_
          refine jCall.mono (C_setn (w := w) hkf (by omega) (by omega)) (fun v9 w9 h9 => ?_)
          obtain ⟨y9, rfl, h9⟩ := h9
          subst h9
          show jWp 28 105 [some (jO r), some (jI (n : Int)), some (jO fk), none, none, none, none] [jI y9] 0 0 (jF1 w fk (zu ((w.1 rt n) + (w.1 rt (n + 2))) (w.1 rt (n + 1))) (zv ((w.1 rt n) + (w.1 rt (n + 2))) (w.1 rt (n + 1)))) _
          refine jWp.blk mt 2 ?_
          show jWp 28 107 [some (jO r), some (jI (n : Int)), some (jO fk), none, none, none, none] [jI 1] 0 0 (jF1 w fk (zu ((w.1 rt n) + (w.1 rt (n + 2))) (w.1 rt (n + 1))) (zv ((w.1 rt n) + (w.1 rt (n + 2))) (w.1 rt (n + 1)))) _
          refine jWp.iretz mt rfl ⟨rfl, rfl⟩ rfl (Or.inr rfl) ?_
          have ez : zkm law = 3 := by unfold zkm; rw [if_neg (by omega), if_pos (by omega)]
          have eu : zku law f (w.1 rt) n = ((w.1 rt n) + (w.1 rt (n + 2))) := by unfold zku; rw [if_neg (by omega), if_pos (by omega)]
          have ed : zkd law (w.1 rt) n = (w.1 rt (n + 1)) := by unfold zkd; rw [if_neg (by omega), if_pos (by omega)]
          have hua := zuA (a := ((w.1 rt n) + (w.1 rt (n + 2)))) (b := (w.1 rt (n + 1))) (by omega)
          have hvb := zv_b (a := ((w.1 rt n) + (w.1 rt (n + 2)))) (b := (w.1 rt (n + 1))) (by omega)
          refine Or.inl ⟨rfl, ⟨by rw [ez]; decide, by rw [ez]; exact h12⟩, ?_, ?_⟩
          · rw [eu, ed]
          · rw [eu, ed]
            omega
        · have h12 : ¬ (∀ k, n ≤ k → k < n + 3 → k < len ∧ 1 ≤ w.1 rt k ∧ w.1 rt k ≤ 9999) := h12
          show jWp 28 75 [some (jO r), some (jI (n : Int)), some (jO fk), none, none, none, none] [jI 0] 0 0 w _
          refine jWp.ifc (b := true) mt rfl (by decide) rfl ?_
          show jWp 28 108 [some (jO r), some (jI (n : Int)), some (jO fk), none, none, none, none] [] 0 0 w _
          refine jWp.blk mt 1 ?_
          show _ ∧ jWp 28 109 [some (jO r), some (jI (n : Int)), some (jO fk), none, none, none, none] [jO r] 0 0 w _
          refine ⟨rfl, ?_⟩
          refine jWp.getI (pc' := 112) mt rfl rfl (jtg hkr) ?_
          rw [show (w.1 r 0) = law from hlaw]
          show jWp 28 112 [some (jO r), some (jI (n : Int)), some (jO fk), none, none, none, none] [jI law] 0 0 w _
          refine jWp.blk mt 1 ?_
          show jWp 28 113 [some (jO r), some (jI (n : Int)), some (jO fk), none, none, none, none] [jI 3, jI law] 0 0 w _
          refine jWp.icmp (pc' := 116) mt rfl rfl (b32_id (by omega) (by omega)) (show b32 3 = 3 by decide) (fun h13 => ?_) (fun h13 => ?_)
          · have h13 : law ≠ 3 := h13
            refine jWp.blk mt 1 ?_
            show jWp 28 163 [some (jO r), some (jI (n : Int)), some (jO fk), none, none, none, none] [jI 0] 0 0 w _
            refine jWp.iretz mt rfl ⟨rfl, rfl⟩ rfl (Or.inl rfl) ?_
            refine Or.inr ⟨rfl, fun g => ?_, rfl⟩
            first
            | (exact g.1 (by unfold zkm; rw [if_neg (by omega), if_neg (by omega), if_neg (by omega)]))
            | (have ez : zkm law = 2 := by unfold zkm; rw [if_pos (by omega)]
               have g2 := g.2; rw [ez] at g2; exact absurd g2 (by assumption))
            | (have ez : zkm law = 3 := by unfold zkm; rw [if_neg (by omega), if_pos (by omega)]
               have g2 := g.2; rw [ez] at g2; exact absurd g2 (by assumption))
            | (have ez : zkm law = 4 := by unfold zkm; rw [if_neg (by omega), if_neg (by omega), if_pos (by omega)]
               have g2 := g.2; rw [ez] at g2; exact absurd g2 (by assumption))
          · have h13 : law = 3 := h13
            refine jWp.blk mt 3 ?_
            show _ ∧ jWp 28 119 [some (jO r), some (jI (n : Int)), some (jO fk), none, none, none, none] [jI 4, jI (n : Int), jO r] 0 0 w _
            refine ⟨rfl, ?_⟩
            refine jWp.callv (as := [jO r, jI (n : Int), jI 4]) (rest := []) mt rfl rfl rfl ⟨rfl, jtg hkr⟩ ?_
            refine jCall.mono (C_isPlain (w := w) (r := r) (rt := rt) (len := len) hkr hkt hrt hlen hl60 hgb (n := n) (q := 4) hn (by decide)) (fun v9 w9 h9 => ?_)
            rcases h9 with ⟨rfl, h9, h14⟩ | ⟨rfl, h9, h14⟩ <;> subst w9
            · have h14 : ∀ k, n ≤ k → k < n + 4 → k < len ∧ 1 ≤ w.1 rt k ∧ w.1 rt k ≤ 9999 := h14
              show jWp 28 122 [some (jO r), some (jI (n : Int)), some (jO fk), none, none, none, none] [jI 1] 0 0 w _
              have b0 := h14 (n + 0) (by omega) (by omega)
              have b1 := h14 (n + 1) (by omega) (by omega)
              have b2 := h14 (n + 2) (by omega) (by omega)
              have b3 := h14 (n + 3) (by omega) (by omega)
              rw [show n + 0 = n from rfl] at b0
              have hU := zkU3 hf b0.2 b1.2 b2.2 b3.2
              refine jWp.ifc (b := false) mt rfl (by decide) rfl ?_
              show jWp 28 125 [some (jO r), some (jI (n : Int)), some (jO fk), none, none, none, none] [] 0 0 w _
              refine jWp.blk mt 3 ?_
              show _ ∧ _ ∧ jWp 28 128 [some (jO r), some (jI (n : Int)), some (jO fk), none, none, none, none] [jI (n : Int), jO r, jO r] 0 0 w _
              refine ⟨rfl, rfl, ?_⟩
              refine jWp.callv (as := [jO r, jI (n : Int)]) (rest := [jO r]) mt rfl rfl rfl ⟨rfl, jtg hkr⟩ ?_
              refine jCall.mono ((by have h := C_termAt (w := w) (r := r) (rt := rt) (len := len) hkr hkt hrt hlen hl60 hgb (n := n) (by omega); rw [zta_t (by omega)] at h; exact h)) (fun v9 w9 h9 => ?_)
              obtain ⟨rfl, h9⟩ := h9
              subst w9
              show jWp 28 131 [some (jO r), some (jI (n : Int)), some (jO fk), none, none, none, none] [jI (w.1 rt n), jO r] 0 0 w _
              refine jWp.i2l (pc' := 132) mt rfl rfl (b32_id (by omega) (by omega)) ?_
              show jWp 28 132 [some (jO r), some (jI (n : Int)), some (jO fk), none, none, none, none] [jJ (w.1 rt n), jO r] 0 0 w _
              refine jWp.blk mt 4 ?_
              show _ ∧ jWp 28 136 [some (jO r), some (jI (n : Int)), some (jO fk), none, none, none, none] [jI ((n : Int) + 1), jO r, jJ (w.1 rt n), jO r] 0 0 w _
              refine ⟨rfl, ?_⟩
              refine jWp.callv (as := [jO r, jI ((n : Int) + 1)]) (rest := [jJ (w.1 rt n), jO r]) mt rfl rfl rfl ⟨rfl, jtg hkr⟩ ?_
              refine jCall.mono ((by have h := C_termAt (w := w) (r := r) (rt := rt) (len := len) hkr hkt hrt hlen hl60 hgb (n := (n + 1)) (by omega); rw [zta_t (by omega)] at h; exact h)) (fun v9 w9 h9 => ?_)
              obtain ⟨rfl, h9⟩ := h9
              subst w9
              show jWp 28 139 [some (jO r), some (jI (n : Int)), some (jO fk), none, none, none, none] [jI (w.1 rt (n + 1)), jJ (w.1 rt n), jO r] 0 0 w _
              refine jWp.i2l (pc' := 140) mt rfl rfl (b32_id (by omega) (by omega)) ?_
              show jWp 28 140 [some (jO r), some (jI (n : Int)), some (jO fk), none, none, none, none] [jJ (w.1 rt (n + 1)), jJ (w.1 rt n), jO r] 0 0 w _
              refine jWp.blk mt 4 ?_
              show _ ∧ jWp 28 144 [some (jO r), some (jI (n : Int)), some (jO fk), none, none, none, none] [jI ((n : Int) + 2), jO r, jJ (w.1 rt (n + 1)), jJ (w.1 rt n), jO r] 0 0 w _
              refine ⟨rfl, ?_⟩
              refine jWp.callv (as := [jO r, jI ((n : Int) + 2)]) (rest := [jJ (w.1 rt (n + 1)), jJ (w.1 rt n), jO r]) mt rfl rfl rfl ⟨rfl, jtg hkr⟩ ?_
              refine jCall.mono ((by have h := C_termAt (w := w) (r := r) (rt := rt) (len := len) hkr hkt hrt hlen hl60 hgb (n := (n + 2)) (by omega); rw [zta_t (by omega)] at h; exact h)) (fun v9 w9 h9 => ?_)
              obtain ⟨rfl, h9⟩ := h9
              subst w9
              show jWp 28 147 [some (jO r), some (jI (n : Int)), some (jO fk), none, none, none, none] [jI (w.1 rt (n + 2)), jJ (w.1 rt (n + 1)), jJ (w.1 rt n), jO r] 0 0 w _
              refine jWp.i2l (pc' := 148) mt rfl rfl (b32_id (by omega) (by omega)) ?_
              show jWp 28 148 [some (jO r), some (jI (n : Int)), some (jO fk), none, none, none, none] [jJ (w.1 rt (n + 2)), jJ (w.1 rt (n + 1)), jJ (w.1 rt n), jO r] 0 0 w _
              refine jWp.blk mt 4 ?_
              show _ ∧ jWp 28 152 [some (jO r), some (jI (n : Int)), some (jO fk), none, none, none, none] [jI ((n : Int) + 3), jO r, jJ (w.1 rt (n + 2)), jJ (w.1 rt (n + 1)), jJ (w.1 rt n), jO r] 0 0 w _
              refine ⟨rfl, ?_⟩
              refine jWp.callv (as := [jO r, jI ((n : Int) + 3)]) (rest := [jJ (w.1 rt (n + 2)), jJ (w.1 rt (n + 1)), jJ (w.1 rt n), jO r]) mt rfl rfl rfl ⟨rfl, jtg hkr⟩ ?_
              refine jCall.mono ((by have h := C_termAt (w := w) (r := r) (rt := rt) (len := len) hkr hkt hrt hlen hl60 hgb (n := (n + 3)) (by omega); rw [zta_t (by omega)] at h; exact h)) (fun v9 w9 h9 => ?_)
              obtain ⟨rfl, h9⟩ := h9
              subst w9
              show jWp 28 155 [some (jO r), some (jI (n : Int)), some (jO fk), none, none, none, none] [jI (w.1 rt (n + 3)), jJ (w.1 rt (n + 2)), jJ (w.1 rt (n + 1)), jJ (w.1 rt n), jO r] 0 0 w _
              refine jWp.i2l (pc' := 156) mt rfl rfl (b32_id (by omega) (by omega)) ?_
              show jWp 28 156 [some (jO r), some (jI (n : Int)), some (jO fk), none, none, none, none] [jJ (w.1 rt (n + 3)), jJ (w.1 rt (n + 2)), jJ (w.1 rt (n + 1)), jJ (w.1 rt n), jO r] 0 0 w _
              refine jWp.blk mt 1 ?_
              show _ ∧ jWp 28 157 [some (jO r), some (jI (n : Int)), some (jO fk), none, none, none, none] [jO fk, jJ (w.1 rt (n + 3)), jJ (w.1 rt (n + 2)), jJ (w.1 rt (n + 1)), jJ (w.1 rt n), jO r] 0 0 w _
              refine ⟨rfl, ?_⟩
              refine jWp.callv (as := [jO r, jJ (w.1 rt n), jJ (w.1 rt (n + 1)), jJ (w.1 rt (n + 2)), jJ (w.1 rt (n + 3)), jO fk]) (rest := []) mt rfl rfl rfl ⟨rfl, jtg hkr⟩ ?_
              refine jCall.mono (C_keepOfFour (w := w) (r := r) (fk := fk) hkr hkf hfig hf b0.2 b1.2 b2.2 b3.2) (fun v9 w9 h9 => ?_)
              obtain ⟨rfl, h9⟩ := h9
              subst h9
              show jWp 28 160 [some (jO r), some (jI (n : Int)), some (jO fk), none, none, none, none] [] 0 0 (jF1 w fk (zu (((w.1 rt n) * (w.1 rt (n + 3))) * ((w.1 rt n) * (w.1 rt (n + 3))) + (w.1 rt (n + 1)) * (w.1 rt (n + 1)) * (w.1 rt (n + 1)) * (w.1 rt (n + 3)) + (w.1 rt (n + 2)) * (w.1 rt (n + 2)) * (w.1 rt n) * (w.1 rt (n + 2)) + f * ((w.1 rt (n + 1)) * (w.1 rt (n + 2))) * ((w.1 rt (n + 1)) * (w.1 rt (n + 2)))) (((w.1 rt n) * (w.1 rt (n + 3))) * ((w.1 rt (n + 1)) * (w.1 rt (n + 2))))) (zv (((w.1 rt n) * (w.1 rt (n + 3))) * ((w.1 rt n) * (w.1 rt (n + 3))) + (w.1 rt (n + 1)) * (w.1 rt (n + 1)) * (w.1 rt (n + 1)) * (w.1 rt (n + 3)) + (w.1 rt (n + 2)) * (w.1 rt (n + 2)) * (w.1 rt n) * (w.1 rt (n + 2)) + f * ((w.1 rt (n + 1)) * (w.1 rt (n + 2))) * ((w.1 rt (n + 1)) * (w.1 rt (n + 2)))) (((w.1 rt n) * (w.1 rt (n + 3))) * ((w.1 rt (n + 1)) * (w.1 rt (n + 2)))))) _
              refine jWp.blk mt 1 ?_
              show jWp 28 161 [some (jO r), some (jI (n : Int)), some (jO fk), none, none, none, none] [jI 1] 0 0 (jF1 w fk (zu (((w.1 rt n) * (w.1 rt (n + 3))) * ((w.1 rt n) * (w.1 rt (n + 3))) + (w.1 rt (n + 1)) * (w.1 rt (n + 1)) * (w.1 rt (n + 1)) * (w.1 rt (n + 3)) + (w.1 rt (n + 2)) * (w.1 rt (n + 2)) * (w.1 rt n) * (w.1 rt (n + 2)) + f * ((w.1 rt (n + 1)) * (w.1 rt (n + 2))) * ((w.1 rt (n + 1)) * (w.1 rt (n + 2)))) (((w.1 rt n) * (w.1 rt (n + 3))) * ((w.1 rt (n + 1)) * (w.1 rt (n + 2))))) (zv (((w.1 rt n) * (w.1 rt (n + 3))) * ((w.1 rt n) * (w.1 rt (n + 3))) + (w.1 rt (n + 1)) * (w.1 rt (n + 1)) * (w.1 rt (n + 1)) * (w.1 rt (n + 3)) + (w.1 rt (n + 2)) * (w.1 rt (n + 2)) * (w.1 rt n) * (w.1 rt (n + 2)) + f * ((w.1 rt (n + 1)) * (w.1 rt (n + 2))) * ((w.1 rt (n + 1)) * (w.1 rt (n + 2)))) (((w.1 rt n) * (w.1 rt (n + 3))) * ((w.1 rt (n + 1)) * (w.1 rt (n + 2)))))) _
              refine jWp.iretz mt rfl ⟨rfl, rfl⟩ rfl (Or.inr rfl) ?_
              have ez : zkm law = 4 := by unfold zkm; rw [if_neg (by omega), if_neg (by omega), if_pos (by omega)]
              have eu : zku law f (w.1 rt) n = (((w.1 rt n) * (w.1 rt (n + 3))) * ((w.1 rt n) * (w.1 rt (n + 3))) + (w.1 rt (n + 1)) * (w.1 rt (n + 1)) * (w.1 rt (n + 1)) * (w.1 rt (n + 3)) + (w.1 rt (n + 2)) * (w.1 rt (n + 2)) * (w.1 rt n) * (w.1 rt (n + 2)) + f * ((w.1 rt (n + 1)) * (w.1 rt (n + 2))) * ((w.1 rt (n + 1)) * (w.1 rt (n + 2)))) := by unfold zku; rw [if_neg (by omega), if_neg (by omega)]
              have ed : zkd law (w.1 rt) n = (((w.1 rt n) * (w.1 rt (n + 3))) * ((w.1 rt (n + 1)) * (w.1 rt (n + 2)))) := by unfold zkd; rw [if_neg (by omega), if_neg (by omega)]
              have hua := zuA (a := (((w.1 rt n) * (w.1 rt (n + 3))) * ((w.1 rt n) * (w.1 rt (n + 3))) + (w.1 rt (n + 1)) * (w.1 rt (n + 1)) * (w.1 rt (n + 1)) * (w.1 rt (n + 3)) + (w.1 rt (n + 2)) * (w.1 rt (n + 2)) * (w.1 rt n) * (w.1 rt (n + 2)) + f * ((w.1 rt (n + 1)) * (w.1 rt (n + 2))) * ((w.1 rt (n + 1)) * (w.1 rt (n + 2))))) (b := (((w.1 rt n) * (w.1 rt (n + 3))) * ((w.1 rt (n + 1)) * (w.1 rt (n + 2))))) (by omega)
              have hvb := zv_b (a := (((w.1 rt n) * (w.1 rt (n + 3))) * ((w.1 rt n) * (w.1 rt (n + 3))) + (w.1 rt (n + 1)) * (w.1 rt (n + 1)) * (w.1 rt (n + 1)) * (w.1 rt (n + 3)) + (w.1 rt (n + 2)) * (w.1 rt (n + 2)) * (w.1 rt n) * (w.1 rt (n + 2)) + f * ((w.1 rt (n + 1)) * (w.1 rt (n + 2))) * ((w.1 rt (n + 1)) * (w.1 rt (n + 2))))) (b := (((w.1 rt n) * (w.1 rt (n + 3))) * ((w.1 rt (n + 1)) * (w.1 rt (n + 2))))) (by omega)
              refine Or.inl ⟨rfl, ⟨by rw [ez]; decide, by rw [ez]; exact h14⟩, ?_, ?_⟩
              · rw [eu, ed]
              · rw [eu, ed]
                omega
            · have h14 : ¬ (∀ k, n ≤ k → k < n + 4 → k < len ∧ 1 ≤ w.1 rt k ∧ w.1 rt k ≤ 9999) := h14
              show jWp 28 122 [some (jO r), some (jI (n : Int)), some (jO fk), none, none, none, none] [jI 0] 0 0 w _
              refine jWp.ifc (b := true) mt rfl (by decide) rfl ?_
              show jWp 28 162 [some (jO r), some (jI (n : Int)), some (jO fk), none, none, none, none] [] 0 0 w _
              refine jWp.blk mt 1 ?_
              show jWp 28 163 [some (jO r), some (jI (n : Int)), some (jO fk), none, none, none, none] [jI 0] 0 0 w _
              refine jWp.iretz mt rfl ⟨rfl, rfl⟩ rfl (Or.inl rfl) ?_
              refine Or.inr ⟨rfl, fun g => ?_, rfl⟩
              first
              | (exact g.1 (by unfold zkm; rw [if_neg (by omega), if_neg (by omega), if_neg (by omega)]))
              | (have ez : zkm law = 2 := by unfold zkm; rw [if_pos (by omega)]
                 have g2 := g.2; rw [ez] at g2; exact absurd g2 (by assumption))
              | (have ez : zkm law = 3 := by unfold zkm; rw [if_neg (by omega), if_pos (by omega)]
                 have g2 := g.2; rw [ez] at g2; exact absurd g2 (by assumption))
              | (have ez : zkm law = 4 := by unfold zkm; rw [if_neg (by omega), if_neg (by omega), if_pos (by omega)]
                 have g2 := g.2; rw [ez] at g2; exact absurd g2 (by assumption))
end
section
set_option maxHeartbeats 4000000 in
set_option maxRecDepth 20000 in
theorem C_isMissing {w : jS} {t tp : Nat} {z : Int} (hk7 : w.2.1 t = (7, 0)) (hkp : w.2.1 tp = (100, 40)) (hrp : w.2.2.1 t 1 = some tp) (hz : w.1 t 0 = z) (hzb : -1 ≤ z ∧ z ≤ 40) : jCall 70 [jO t] w (jvb (z < 0) w) := by
  have mt : jtb 70 = jT70 := rfl
  show jWp 70 0 [some (jO t)] [] 0 0 w _
  refine jWp.blk mt 1 ?_
  show _ ∧ jWp 70 1 [some (jO t)] [jO t] 0 0 w _
  refine ⟨rfl, ?_⟩
  refine jWp.getI (pc' := 4) mt rfl rfl (jtg hk7) ?_
  rw [show (w.1 t 0) = z from hz]
  show jWp 70 4 [some (jO t)] [jI z] 0 0 w _
  refine jWp.ifz (pc' := 7) mt rfl rfl (b32_id (by omega) (by omega)) (fun h1 => ?_) (fun h1 => ?_)
  · have h1 : 0 ≤ z := h1
    refine jWp.blk mt 1 ?_
    show jWp 70 12 [some (jO t)] [jI 0] 0 0 w _
    refine jWp.iretz mt rfl ⟨rfl, rfl⟩ rfl (Or.inl rfl) ?_
    exact Or.inr ⟨rfl, rfl, by omega⟩
  · have h1 : z < 0 := h1
    refine jWp.blk mt 2 ?_
    show jWp 70 12 [some (jO t)] [jI 1] 0 0 w _
    refine jWp.iretz mt rfl ⟨rfl, rfl⟩ rfl (Or.inr rfl) ?_
    exact Or.inl ⟨rfl, rfl, by omega⟩
set_option maxHeartbeats 4000000 in
set_option maxRecDepth 20000 in
theorem C_thas {w : jS} {t tp : Nat} {z : Int} (hk7 : w.2.1 t = (7, 0)) (hkp : w.2.1 tp = (100, 40)) (hrp : w.2.2.1 t 1 = some tp) (hz : w.1 t 0 = z) (hzb : -1 ≤ z ∧ z ≤ 40) {i : Int} (hri : r32 i) : jCall 71 [jO t, jI i] w (jvb (0 ≤ i ∧ i < z) w) := by
  have mt : jtb 71 = jT71 := rfl
  have hri1 : -2147483648 ≤ i ∧ i < 2147483648 := hri
  show jWp 71 0 [some (jO t), some (jI i)] [] 0 0 w _
  refine jWp.blk mt 1 ?_
  show jWp 71 1 [some (jO t), some (jI i)] [jI i] 0 0 w _
  refine jWp.ifz (pc' := 4) mt rfl rfl (b32_id (by omega) (by omega)) (fun h1 => ?_) (fun h1 => ?_)
  · have h1 : i < 0 := h1
    refine jWp.blk mt 1 ?_
    show jWp 71 23 [some (jO t), some (jI i)] [jI 0] 0 0 w _
    refine jWp.iretz mt rfl ⟨rfl, rfl⟩ rfl (Or.inl rfl) ?_
    exact Or.inr ⟨rfl, rfl, by omega⟩
  · have h1 : 0 ≤ i := h1
    refine jWp.blk mt 2 ?_
    show _ ∧ jWp 71 6 [some (jO t), some (jI i)] [jO t, jI i] 0 0 w _
    refine ⟨rfl, ?_⟩
    refine jWp.getI (pc' := 9) mt rfl rfl (jtg hk7) ?_
    rw [show (w.1 t 0) = z from hz]
    show jWp 71 9 [some (jO t), some (jI i)] [jI z, jI i] 0 0 w _
    refine jWp.icmp (pc' := 12) mt rfl rfl (b32_id (by omega) (by omega)) (b32_id (by omega) (by omega)) (fun h2 => ?_) (fun h2 => ?_)
    · have h2 : z ≤ i := h2
      refine jWp.blk mt 1 ?_
      show jWp 71 23 [some (jO t), some (jI i)] [jI 0] 0 0 w _
      refine jWp.iretz mt rfl ⟨rfl, rfl⟩ rfl (Or.inl rfl) ?_
      exact Or.inr ⟨rfl, rfl, by omega⟩
    · have h2 : i < z := h2
      refine jWp.blk mt 2 ?_
      show jWp 71 15 [some (jO t), some (jI i)] [jI 40, jI i] 0 0 w _
      refine jWp.icmp (pc' := 18) mt rfl rfl (b32_id (by omega) (by omega)) (show b32 40 = 40 by decide) (fun h3 => ?_) (fun h3 => ?_)
      · have h3 : 40 ≤ i := h3
        refine jWp.blk mt 1 ?_
        show jWp 71 23 [some (jO t), some (jI i)] [jI 0] 0 0 w _
        refine jWp.iretz mt rfl ⟨rfl, rfl⟩ rfl (Or.inl rfl) ?_
        exact Or.inr ⟨rfl, rfl, by omega⟩
      · have h3 : i < 40 := h3
        refine jWp.blk mt 2 ?_
        show jWp 71 23 [some (jO t), some (jI i)] [jI 1] 0 0 w _
        refine jWp.iretz mt rfl ⟨rfl, rfl⟩ rfl (Or.inr rfl) ?_
        exact Or.inl ⟨rfl, rfl, by omega⟩
set_option maxHeartbeats 4000000 in
set_option maxRecDepth 20000 in
theorem C_tclear {w : jS} {t tp : Nat} {n : Int} (hk7 : w.2.1 t = (7, 0)) (hkp : w.2.1 tp = (100, 40)) (hrp : w.2.2.1 t 1 = some tp) : jCall 72 [jO t, jI n] w (fun v w1 => v = none ∧ (w1.2 = w.2 ∧ ∀ a, a ≠ t → a ≠ tp → w1.1 a = w.1 a) ∧ w1.1 t 0 = n ∧ ∀ j, j < 40 → w1.1 tp j = 0) := by
  have mt : jtb 72 = jT72 := rfl
  have hnt : t ≠ tp := kne hk7 hkp (by decide)
  show jWp 72 0 [some (jO t), some (jI n)] [] 0 0 w _
  refine jWp.blk mt 2 ?_
  show _ ∧ jWp 72 2 [some (jO t), some (jI n)] [jI n, jO t] 0 0 w _
  refine ⟨rfl, ?_⟩
  refine jWp.putI (pc' := 5) mt rfl rfl (jtg hk7) ?_
  show jWp 72 5 [some (jO t), some (jI n)] [] 0 0 (jW w t 0 n) _
  refine jWp.blk mt 1 ?_
  show _ ∧ jWp 72 6 [some (jO t), some (jI n)] [jO t] 0 0 (jW w t 0 n) _
  refine ⟨rfl, ?_⟩
  refine jWp.getR (pc' := 9) (o := tp) mt rfl rfl (jtg hk7) hrp ?_
  show jWp 72 9 [some (jO t), some (jI n)] [jO tp] 0 0 (jW w t 0 n) _
  refine jWp.blk mt 1 ?_
  show jWp 72 10 [some (jO t), some (jI n)] [jI 0, jO tp] 0 0 (jW w t 0 n) _
  refine jWp.calls (as := [jO tp, jI 0]) (rest := []) mt rfl rfl rfl rfl ?_
  refine jCall.mono (E_fill (w := (jW w t 0 n)) hkp (by decide)) (fun v9 w9 h9 => ?_)
  obtain ⟨rfl, T, h9, hT⟩ := h9
  subst h9
  show jWp 72 13 [some (jO t), some (jI n)] [] 0 0 (kA (jW w t 0 n) tp T) _
  refine jWp.vret mt rfl ⟨rfl, rfl⟩ rfl ?_
  exact ⟨rfl, ⟨rfl, fun a ga gb => (kA_f gb).trans (jW_f ga)⟩, (kA_a hnt).trans jW_s, fun j hj => kA_s.trans ((hT j).trans (if_pos hj))⟩
set_option maxHeartbeats 4000000 in
set_option maxRecDepth 20000 in
theorem C_ttell {w : jS} {t tp : Nat} {z : Int} (hk7 : w.2.1 t = (7, 0)) (hkp : w.2.1 tp = (100, 40)) (hrp : w.2.2.1 t 1 = some tp) (hz : w.1 t 0 = z) (hzb : -1 ≤ z ∧ z ≤ 40) {i : Nat} {v : Int} (hi : (i : Int) < z) : jCall 73 [jO t, jI (i : Int), jI v] w (fun x w1 => x = none ∧ w1 = jW w tp i v) := by
  have mt : jtb 73 = jT73 := rfl
  show jWp 73 0 [some (jO t), some (jI (i : Int)), some (jI v)] [] 0 0 w _
  refine jWp.blk mt 2 ?_
  show _ ∧ jWp 73 2 [some (jO t), some (jI (i : Int)), some (jI v)] [jI (i : Int), jO t] 0 0 w _
  refine ⟨rfl, ?_⟩
  refine jWp.callv (as := [jO t, jI (i : Int)]) (rest := []) mt rfl rfl rfl ⟨rfl, jtg hk7⟩ ?_
  refine jCall.mono (C_thas (w := w) hk7 hkp hrp hz hzb (i := (i : Int)) (by constructor <;> omega)) (fun v9 w9 h9 => ?_)
  rcases h9 with ⟨rfl, h9, h1⟩ | ⟨rfl, h9, h1⟩ <;> subst w9
  · have h1 : 0 ≤ (i : Int) ∧ (i : Int) < z := h1
    show jWp 73 5 [some (jO t), some (jI (i : Int)), some (jI v)] [jI 1] 0 0 w _
    refine jWp.ifc (b := false) mt rfl (by decide) rfl ?_
    show jWp 73 8 [some (jO t), some (jI (i : Int)), some (jI v)] [] 0 0 w _
    refine jWp.blk mt 1 ?_
    show _ ∧ jWp 73 9 [some (jO t), some (jI (i : Int)), some (jI v)] [jO t] 0 0 w _
    refine ⟨rfl, ?_⟩
    refine jWp.getR (pc' := 12) (o := tp) mt rfl rfl (jtg hk7) hrp ?_
    show jWp 73 12 [some (jO t), some (jI (i : Int)), some (jI v)] [jO tp] 0 0 w _
    refine jWp.blk mt 2 ?_
    show jWp 73 14 [some (jO t), some (jI (i : Int)), some (jI v)] [jI v, jI (i : Int), jO tp] 0 0 w _
    refine jWp.iast (pc' := 15) (j := i) mt rfl rfl (jtg hkp) (b32_id (by omega) (by omega)) (jlt hkp (by omega)) ?_
    show jWp 73 15 [some (jO t), some (jI (i : Int)), some (jI v)] [] 0 0 (jW w tp i v) _
    refine jWp.vret mt rfl ⟨rfl, rfl⟩ rfl ?_
    exact ⟨rfl, rfl⟩
  · have h1 : ¬ (0 ≤ (i : Int) ∧ (i : Int) < z) := h1
    exfalso; omega
set_option maxHeartbeats 4000000 in
set_option maxRecDepth 20000 in
theorem C_tat {w : jS} {t tp : Nat} {z : Int} (hk7 : w.2.1 t = (7, 0)) (hkp : w.2.1 tp = (100, 40)) (hrp : w.2.2.1 t 1 = some tp) (hz : w.1 t 0 = z) (hzb : -1 ≤ z ∧ z ≤ 40) {i : Nat} (hi : (i : Int) < z) : jCall 74 [jO t, jI (i : Int)] w (jvi (w.1 tp i) w) := by
  have mt : jtb 74 = jT74 := rfl
  show jWp 74 0 [some (jO t), some (jI (i : Int))] [] 0 0 w _
  refine jWp.blk mt 2 ?_
  show _ ∧ jWp 74 2 [some (jO t), some (jI (i : Int))] [jI (i : Int), jO t] 0 0 w _
  refine ⟨rfl, ?_⟩
  refine jWp.callv (as := [jO t, jI (i : Int)]) (rest := []) mt rfl rfl rfl ⟨rfl, jtg hk7⟩ ?_
  refine jCall.mono (C_thas (w := w) hk7 hkp hrp hz hzb (i := (i : Int)) (by constructor <;> omega)) (fun v9 w9 h9 => ?_)
  rcases h9 with ⟨rfl, h9, h1⟩ | ⟨rfl, h9, h1⟩ <;> subst w9
  · have h1 : 0 ≤ (i : Int) ∧ (i : Int) < z := h1
    show jWp 74 5 [some (jO t), some (jI (i : Int))] [jI 1] 0 0 w _
    refine jWp.ifc (b := false) mt rfl (by decide) rfl ?_
    show jWp 74 8 [some (jO t), some (jI (i : Int))] [] 0 0 w _
    refine jWp.blk mt 1 ?_
    show _ ∧ jWp 74 9 [some (jO t), some (jI (i : Int))] [jO t] 0 0 w _
    refine ⟨rfl, ?_⟩
    refine jWp.getR (pc' := 12) (o := tp) mt rfl rfl (jtg hk7) hrp ?_
    show jWp 74 12 [some (jO t), some (jI (i : Int))] [jO tp] 0 0 w _
    refine jWp.blk mt 1 ?_
    show jWp 74 13 [some (jO t), some (jI (i : Int))] [jI (i : Int), jO tp] 0 0 w _
    refine jWp.iald (pc' := 14) (j := i) mt rfl rfl (jird_of hkp) (b32_id (by omega) (by omega)) (jlt hkp (by omega)) ?_
    show jWp 74 14 [some (jO t), some (jI (i : Int))] [jI (w.1 tp i)] 0 0 w _
    refine jWp.blk mt 1 ?_
    show jWp 74 18 [some (jO t), some (jI (i : Int))] [jI (w.1 tp i)] 0 0 w _
    refine jWp.ireti mt rfl ⟨rfl, rfl⟩ rfl ?_
    exact ⟨rfl, rfl⟩
  · have h1 : ¬ (0 ≤ (i : Int) ∧ (i : Int) < z) := h1
    exfalso; omega
set_option maxHeartbeats 4000000 in
set_option maxRecDepth 20000 in
theorem C_inRange {w : jS} {t tp : Nat} {z : Int} (hk7 : w.2.1 t = (7, 0)) (hkp : w.2.1 tp = (100, 40)) (hrp : w.2.2.1 t 1 = some tp) (hz : w.1 t 0 = z) (hzb : -1 ≤ z ∧ z ≤ 40) (hI : ∀ j, j < 40 → r32 (w.1 tp j)) : jCall 75 [jO t] w (jvb (zsl (w.1 tp) z.toNat) w) := by
  have mt : jtb 75 = jT75 := rfl
  show jWp 75 0 [some (jO t), none] [] 0 0 w _
  refine jWp.blk mt 2 ?_
  show jWp 75 2 [some (jO t), some (jI 0)] [] 0 0 w _
  have lp1 : ∀ (N : Nat) (k : Nat) (hk : k ≤ z.toNat) (hA : ∀ x, x < k → -10000 ≤ w.1 tp x ∧ w.1 tp x ≤ 10000), z.toNat - k < N → jWp 75 2 [some (jO t), some (jI (k : Int))] [] 0 0 w (jvb (zsl (w.1 tp) z.toNat) w) := by
    intro N
    induction N with
    | zero => intro k hk hA hm; omega
    | succ N ih2 =>
      intro k hk hA hm
      have hi9 : k < 40 → -2147483648 ≤ w.1 tp k ∧ w.1 tp k < 2147483648 := fun h => hI k h
      refine jWp.blk mt 2 ?_
      show _ ∧ jWp 75 4 [some (jO t), some (jI (k : Int))] [jO t, jI (k : Int)] 0 0 w _
      refine ⟨rfl, ?_⟩
      refine jWp.getI (pc' := 7) mt rfl rfl (jtg hk7) ?_
      rw [show (w.1 t 0) = z from hz]
      show jWp 75 7 [some (jO t), some (jI (k : Int))] [jI z, jI (k : Int)] 0 0 w _
      refine jWp.icmp (pc' := 10) mt rfl rfl (b32_id (by omega) (by omega)) (b32_id (by omega) (by omega)) (fun h3 => ?_) (fun h3 => ?_)
      · have h3 : z ≤ (k : Int) := h3
        refine jWp.blk mt 1 ?_
        show jWp 75 41 [some (jO t), some (jI (k : Int))] [jI 1] 0 0 w _
        refine jWp.iretz mt rfl ⟨rfl, rfl⟩ rfl (Or.inr rfl) ?_
        exact Or.inl ⟨rfl, rfl, fun x hx => hA x (by omega)⟩
      · have h3 : (k : Int) < z := h3
        refine jWp.blk mt 2 ?_
        show _ ∧ jWp 75 12 [some (jO t), some (jI (k : Int))] [jI (k : Int), jO t] 0 0 w _
        refine ⟨rfl, ?_⟩
        refine jWp.callv (as := [jO t, jI (k : Int)]) (rest := []) mt rfl rfl rfl ⟨rfl, jtg hk7⟩ ?_
        refine jCall.mono (C_tat (w := w) hk7 hkp hrp hz hzb (i := k) (by omega)) (fun v9 w9 h9 => ?_)
        obtain ⟨rfl, h9⟩ := h9
        subst w9
        show jWp 75 15 [some (jO t), some (jI (k : Int))] [jI (w.1 tp k)] 0 0 w _
        refine jWp.blk mt 1 ?_
        show jWp 75 18 [some (jO t), some (jI (k : Int))] [jI (-10000), jI (w.1 tp k)] 0 0 w _
        refine jWp.icmp (pc' := 21) mt rfl rfl (b32_id (by omega) (by omega)) (show b32 (-10000) = (-10000) by decide) (fun h4 => ?_) (fun h4 => ?_)
        · have h4 : (w.1 tp k) < (-10000) := h4
          refine jWp.blk mt 1 ?_
          show jWp 75 33 [some (jO t), some (jI (k : Int))] [jI 0] 0 0 w _
          refine jWp.iretz mt rfl ⟨rfl, rfl⟩ rfl (Or.inl rfl) ?_
          exact Or.inr ⟨rfl, rfl, fun g => by have g := g k (by omega); omega⟩
        · have h4 : (-10000) ≤ (w.1 tp k) := h4
          refine jWp.blk mt 2 ?_
          show _ ∧ jWp 75 23 [some (jO t), some (jI (k : Int))] [jI (k : Int), jO t] 0 0 w _
          refine ⟨rfl, ?_⟩
          refine jWp.callv (as := [jO t, jI (k : Int)]) (rest := []) mt rfl rfl rfl ⟨rfl, jtg hk7⟩ ?_
          refine jCall.mono (C_tat (w := w) hk7 hkp hrp hz hzb (i := k) (by omega)) (fun v9 w9 h9 => ?_)
          obtain ⟨rfl, h9⟩ := h9
          subst w9
          show jWp 75 26 [some (jO t), some (jI (k : Int))] [jI (w.1 tp k)] 0 0 w _
          refine jWp.blk mt 1 ?_
          show jWp 75 29 [some (jO t), some (jI (k : Int))] [jI 10000, jI (w.1 tp k)] 0 0 w _
          refine jWp.icmp (pc' := 32) mt rfl rfl (b32_id (by omega) (by omega)) (show b32 10000 = 10000 by decide) (fun h5 => ?_) (fun h5 => ?_)
          · have h5 : (w.1 tp k) ≤ 10000 := h5
            refine jWp.blk mt 2 ?_
            show jWp 75 2 [some (jO t), some (jI ((k : Int) + 1))] [] 0 0 w _
            refine jWp.le (l := [some (jO t), some (jI ((k : Int) + 1))]) (by exact ⟨rfl, rfl, trivial⟩) ?_
            exact ih2 (k + 1) (by omega) (fun x hx => by rcases Nat.lt_or_ge x k with e | e; exact hA x e; rw [show x = k by omega]; omega) (by omega)
          · have h5 : 10000 < (w.1 tp k) := h5
            refine jWp.blk mt 1 ?_
            show jWp 75 33 [some (jO t), some (jI (k : Int))] [jI 0] 0 0 w _
            refine jWp.iretz mt rfl ⟨rfl, rfl⟩ rfl (Or.inl rfl) ?_
            exact Or.inr ⟨rfl, rfl, fun g => by have g := g k (by omega); omega⟩
  refine jWp.le (l := [some (jO t), some (jI 0)]) (by exact ⟨rfl, rfl, trivial⟩) ?_
  exact lp1 _ 0 (by omega) (fun x hx => absurd hx (by omega)) (Nat.lt_succ_self _)
set_option maxHeartbeats 4000000 in
set_option maxRecDepth 20000 in
theorem C_madeBy {w : jS} {t tp : Nat} {z : Int} (hk7 : w.2.1 t = (7, 0)) (hkp : w.2.1 tp = (100, 40)) (hrp : w.2.2.1 t 1 = some tp) (hz : w.1 t 0 = z) (hzb : -1 ≤ z ∧ z ≤ 40) (hI : ∀ j, j < 40 → r32 (w.1 tp j)) (hO : jOK w) {law f : Int} (hl0 : 0 ≤ law) (hl6 : law ≤ 6) (hf : 0 ≤ f ∧ f ≤ 9) (hs : zsl (w.1 tp) z.toNat) : jCall 76 [jO t, jI law, jI f] w (jvb (zmd law f (w.1 tp) z.toNat) w) := by
  have mt : jtb 76 = jT76 := rfl
  have hob := zO_b hl0 hl6
  show jWp 76 0 [some (jO t), some (jI law), some (jI f), none, none, none] [] 0 0 w _
  refine jWp.blk mt 1 ?_
  show jWp 76 1 [some (jO t), some (jI law), some (jI f), none, none, none] [jI law] 0 0 w _
  refine jWp.calls (as := [jI law]) (rest := []) mt rfl rfl rfl rfl ?_
  refine jCall.mono (E_orderOf hO hl0 hl6) (fun v9 w9 h9 => ?_)
  obtain ⟨rfl, h9⟩ := h9
  subst w9
  show jWp 76 4 [some (jO t), some (jI law), some (jI f), none, none, none] [jI (zO law)] 0 0 w _
  refine jWp.blk mt 1 ?_
  show jWp 76 5 [some (jO t), some (jI law), some (jI f), some (jI (zO law)), none, none] [] 0 0 w _
  have lp1 : ∀ (N : Nat) (n : Nat) (hn : (zO law).toNat ≤ n ∧ n < 50) (hA : ∀ x, (zO law).toNat ≤ x → x < n → zD law (w.1 tp) x ≠ 0 ∧ w.1 tp x * zD law (w.1 tp) x = zP law f (w.1 tp) x), 50 - n < N → jWp 76 5 [some (jO t), some (jI law), some (jI f), some (jI (n : Int)), none, none] [] 0 0 w (jvb (zmd law f (w.1 tp) z.toNat) w) := by
    intro N
    induction N with
    | zero => intro n hn hA hm; omega
    | succ N ih2 =>
      intro n hn hA hm
      have hmb : n < z.toNat → _ := fun h => zmd_b (t := w.1 tp) (n := n) hl0 hl6 hf hs hn.1 h
      have hi9 : n < 40 → -2147483648 ≤ w.1 tp n ∧ w.1 tp n < 2147483648 := fun h => hI n h
      refine jWp.blk mt 2 ?_
      show _ ∧ jWp 76 7 [some (jO t), some (jI law), some (jI f), some (jI (n : Int)), none, none] [jO t, jI (n : Int)] 0 0 w _
      refine ⟨rfl, ?_⟩
      refine jWp.getI (pc' := 10) mt rfl rfl (jtg hk7) ?_
      rw [show (w.1 t 0) = z from hz]
      show jWp 76 10 [some (jO t), some (jI law), some (jI f), some (jI (n : Int)), none, none] [jI z, jI (n : Int)] 0 0 w _
      refine jWp.icmp (pc' := 13) mt rfl rfl (b32_id (by omega) (by omega)) (b32_id (by omega) (by omega)) (fun h3 => ?_) (fun h3 => ?_)
      · have h3 : z ≤ (n : Int) := h3
        refine jWp.blk mt 1 ?_
        show jWp 76 63 [some (jO t), some (jI law), some (jI f), some (jI (n : Int)), none, none] [jI 1] 0 0 w _
        refine jWp.iretz mt rfl ⟨rfl, rfl⟩ rfl (Or.inr rfl) ?_
        exact Or.inl ⟨rfl, rfl, fun x g1 g2 => hA x g1 (by omega)⟩
      · have h3 : (n : Int) < z := h3
        refine jWp.blk mt 2 ?_
        show _ ∧ jWp 76 15 [some (jO t), some (jI law), some (jI f), some (jI (n : Int)), none, none] [jO t, jI law] 0 0 w _
        refine ⟨rfl, ?_⟩
        refine jWp.getR (pc' := 18) (o := tp) mt rfl rfl (jtg hk7) hrp ?_
        show jWp 76 18 [some (jO t), some (jI law), some (jI f), some (jI (n : Int)), none, none] [jO tp, jI law] 0 0 w _
        refine jWp.blk mt 1 ?_
        show jWp 76 19 [some (jO t), some (jI law), some (jI f), some (jI (n : Int)), none, none] [jI (n : Int), jO tp, jI law] 0 0 w _
        refine jWp.calls (as := [jI law, jO tp, jI (n : Int)]) (rest := []) mt rfl rfl rfl rfl ?_
        refine jCall.mono (E_divisor (n := n) hO hkp hl0 hl6 hn.1 (by omega) (by decide) (fun j hj => hI j (by omega))) (fun v9 w9 h9 => ?_)
        obtain ⟨rfl, h9⟩ := h9
        subst w9
        show jWp 76 22 [some (jO t), some (jI law), some (jI f), some (jI (n : Int)), none, none] [jJ (zD law (w.1 tp) n)] 0 0 w _
        refine jWp.blk mt 3 ?_
        show jWp 76 27 [some (jO t), some (jI law), some (jI f), some (jI (n : Int)), some (jJ (zD law (w.1 tp) n)), none] [jJ 0, jJ (zD law (w.1 tp) n)] 0 0 w _
        refine jWp.lcmp (pc' := 31) mt rfl rfl rfl (b64_id (by omega) (by omega)) (show b64 0 = 0 by decide) (fun h4 => ?_) (fun h4 => ?_)
        · have h4 : (zD law (w.1 tp) n) = 0 := h4
          refine jWp.blk mt 1 ?_
          show jWp 76 55 [some (jO t), some (jI law), some (jI f), some (jI (n : Int)), some (jJ (zD law (w.1 tp) n)), none] [jI 0] 0 0 w _
          refine jWp.iretz mt rfl ⟨rfl, rfl⟩ rfl (Or.inl rfl) ?_
          exact Or.inr ⟨rfl, rfl, fun g => by have g := g n hn.1 (by omega); omega⟩
        · have h4 : (zD law (w.1 tp) n) ≠ 0 := h4
          refine jWp.blk mt 2 ?_
          show _ ∧ jWp 76 33 [some (jO t), some (jI law), some (jI f), some (jI (n : Int)), some (jJ (zD law (w.1 tp) n)), none] [jI (n : Int), jO t] 0 0 w _
          refine ⟨rfl, ?_⟩
          refine jWp.callv (as := [jO t, jI (n : Int)]) (rest := []) mt rfl rfl rfl ⟨rfl, jtg hk7⟩ ?_
          refine jCall.mono (C_tat (w := w) hk7 hkp hrp hz hzb (i := n) (by omega)) (fun v9 w9 h9 => ?_)
          obtain ⟨rfl, h9⟩ := h9
          subst w9
          show jWp 76 36 [some (jO t), some (jI law), some (jI f), some (jI (n : Int)), some (jJ (zD law (w.1 tp) n)), none] [jI (w.1 tp n)] 0 0 w _
          refine jWp.i2l (pc' := 37) mt rfl rfl (b32_id (by omega) (by omega)) ?_
          show jWp 76 37 [some (jO t), some (jI law), some (jI f), some (jI (n : Int)), some (jJ (zD law (w.1 tp) n)), none] [jJ (w.1 tp n)] 0 0 w _
          refine jWp.blk mt 5 ?_
          show _ ∧ jWp 76 43 [some (jO t), some (jI law), some (jI f), some (jI (n : Int)), some (jJ (zD law (w.1 tp) n)), none] [jO t, jI f, jI law, jJ ((w.1 tp n) * (zD law (w.1 tp) n))] 0 0 w _
          refine ⟨rfl, ?_⟩
          refine jWp.getR (pc' := 46) (o := tp) mt rfl rfl (jtg hk7) hrp ?_
          show jWp 76 46 [some (jO t), some (jI law), some (jI f), some (jI (n : Int)), some (jJ (zD law (w.1 tp) n)), none] [jO tp, jI f, jI law, jJ ((w.1 tp n) * (zD law (w.1 tp) n))] 0 0 w _
          refine jWp.blk mt 1 ?_
          show jWp 76 47 [some (jO t), some (jI law), some (jI f), some (jI (n : Int)), some (jJ (zD law (w.1 tp) n)), none] [jI (n : Int), jO tp, jI f, jI law, jJ ((w.1 tp n) * (zD law (w.1 tp) n))] 0 0 w _
          refine jWp.calls (as := [jI law, jI f, jO tp, jI (n : Int)]) (rest := [jJ ((w.1 tp n) * (zD law (w.1 tp) n))]) mt rfl rfl rfl rfl ?_
          refine jCall.mono (E_product (n := n) hkp hl0 hl6 hn.1 (by omega) (by decide) (by constructor <;> omega) (fun j hj => hI j (by omega))) (fun v9 w9 h9 => ?_)
          obtain ⟨rfl, h9⟩ := h9
          subst w9
          show jWp 76 50 [some (jO t), some (jI law), some (jI f), some (jI (n : Int)), some (jJ (zD law (w.1 tp) n)), none] [jJ (zP law f (w.1 tp) n), jJ ((w.1 tp n) * (zD law (w.1 tp) n))] 0 0 w _
          refine jWp.lcmp (pc' := 54) mt rfl rfl rfl (b64_id (by omega) (by omega)) (b64_id (by omega) (by omega)) (fun h5 => ?_) (fun h5 => ?_)
          · have h5 : ((w.1 tp n) * (zD law (w.1 tp) n)) = (zP law f (w.1 tp) n) := h5
            refine jWp.blk mt 2 ?_
            show jWp 76 5 [some (jO t), some (jI law), some (jI f), some (jI ((n : Int) + 1)), some (jJ (zD law (w.1 tp) n)), none] [] 0 0 w _
            refine jWp.le (l := [some (jO t), some (jI law), some (jI f), some (jI ((n : Int) + 1)), none, none]) (by exact ⟨rfl, rfl, rfl, rfl, trivial⟩) ?_
            exact ih2 (n + 1) (by omega) (fun x g1 g2 => by rcases Nat.lt_or_ge x n with e | e; exact hA x g1 e; rw [show x = n by omega]; exact ⟨by omega, by omega⟩) (by omega)
          · have h5 : ((w.1 tp n) * (zD law (w.1 tp) n)) ≠ (zP law f (w.1 tp) n) := h5
            refine jWp.blk mt 1 ?_
            show jWp 76 55 [some (jO t), some (jI law), some (jI f), some (jI (n : Int)), some (jJ (zD law (w.1 tp) n)), none] [jI 0] 0 0 w _
            refine jWp.iretz mt rfl ⟨rfl, rfl⟩ rfl (Or.inl rfl) ?_
            exact Or.inr ⟨rfl, rfl, fun g => by have g := g n hn.1 (by omega); omega⟩
  refine jWp.le (l := [some (jO t), some (jI law), some (jI f), some (jI (zO law)), none, none]) (by exact ⟨rfl, rfl, rfl, rfl, trivial⟩) ?_
  obtain ⟨o, ho⟩ : ∃ o : Nat, zO law = (o : Int) := ⟨(zO law).toNat, by omega⟩
  rw [ho]
  exact lp1 _ o (by omega) (fun x g1 g2 => absurd g1 (by omega)) (Nat.lt_succ_self _)
set_option maxHeartbeats 4000000 in
set_option maxRecDepth 20000 in
theorem C_otherwise {w : jS} {t tp : Nat} {z : Int} (hk7 : w.2.1 t = (7, 0)) (hkp : w.2.1 tp = (100, 40)) (hrp : w.2.2.1 t 1 = some tp) (hz : w.1 t 0 = z) (hzb : -1 ≤ z ∧ z ≤ 40) (hI : ∀ j, j < 40 → r32 (w.1 tp j)) {r rt len : Nat} (hkr : w.2.1 r = (4, 0)) (hkt : w.2.1 rt = (100, 60)) (hrt : w.2.2.1 r 6 = some rt) (hlen : w.1 r 2 = (len : Int)) (hl60 : len ≤ 60) (hgb : ∀ j, j < len → -100000000 ≤ w.1 rt j ∧ w.1 rt j ≤ 100000000) : jCall 77 [jO t, jO r] w (jvi (zff (fun k => ¬ k < len ∨ w.1 tp k ≠ w.1 rt k) z.toNat 0) w) := by
  have mt : jtb 77 = jT77 := rfl
  show jWp 77 0 [some (jO t), some (jO r), none] [] 0 0 w _
  refine jWp.blk mt 2 ?_
  show jWp 77 2 [some (jO t), some (jO r), some (jI 0)] [] 0 0 w _
  have lp1 : ∀ (N : Nat) (k : Nat) (hk : k ≤ z.toNat) (hr : zff (fun k => ¬ k < len ∨ w.1 tp k ≠ w.1 rt k) (z.toNat - k) k = zff (fun k => ¬ k < len ∨ w.1 tp k ≠ w.1 rt k) (z.toNat) 0), z.toNat - k < N → jWp 77 2 [some (jO t), some (jO r), some (jI (k : Int))] [] 0 0 w (jvi (zff (fun k => ¬ k < len ∨ w.1 tp k ≠ w.1 rt k) z.toNat 0) w) := by
    intro N
    induction N with
    | zero => intro k hk hr hm; omega
    | succ N ih2 =>
      intro k hk hr hm
      have hf : k < len → _ := fun h => hgb k h
      have hi9 : k < 40 → -2147483648 ≤ w.1 tp k ∧ w.1 tp k < 2147483648 := fun h => hI k h
      refine jWp.blk mt 2 ?_
      show _ ∧ jWp 77 4 [some (jO t), some (jO r), some (jI (k : Int))] [jO t, jI (k : Int)] 0 0 w _
      refine ⟨rfl, ?_⟩
      refine jWp.getI (pc' := 7) mt rfl rfl (jtg hk7) ?_
      rw [show (w.1 t 0) = z from hz]
      show jWp 77 7 [some (jO t), some (jO r), some (jI (k : Int))] [jI z, jI (k : Int)] 0 0 w _
      refine jWp.icmp (pc' := 10) mt rfl rfl (b32_id (by omega) (by omega)) (b32_id (by omega) (by omega)) (fun h3 => ?_) (fun h3 => ?_)
      · have h3 : z ≤ (k : Int) := h3
        refine jWp.blk mt 1 ?_
        show jWp 77 41 [some (jO t), some (jO r), some (jI (k : Int))] [jI (-9)] 0 0 w _
        refine jWp.ireti mt rfl ⟨rfl, rfl⟩ rfl ?_
        refine ⟨?_, rfl⟩
        rw [← hr, show z.toNat - k = 0 by omega]; rfl
      · have h3 : (k : Int) < z := h3
        refine jWp.blk mt 2 ?_
        show _ ∧ jWp 77 12 [some (jO t), some (jO r), some (jI (k : Int))] [jI (k : Int), jO r] 0 0 w _
        refine ⟨rfl, ?_⟩
        refine jWp.callv (as := [jO r, jI (k : Int)]) (rest := []) mt rfl rfl rfl ⟨rfl, jtg hkr⟩ ?_
        refine jCall.mono (C_reaches (w := w) (r := r) (rt := rt) (len := len) hkr hkt hrt hlen hl60 hgb (n := (k : Int)) (by constructor <;> omega)) (fun v9 w9 h9 => ?_)
        rcases h9 with ⟨rfl, h9, h4⟩ | ⟨rfl, h9, h4⟩ <;> subst w9
        · have h4 : 0 ≤ (k : Int) ∧ (k : Int) < (len : Int) := h4
          show jWp 77 15 [some (jO t), some (jO r), some (jI (k : Int))] [jI 1] 0 0 w _
          refine jWp.ifc (b := false) mt rfl (by decide) rfl ?_
          show jWp 77 18 [some (jO t), some (jO r), some (jI (k : Int))] [] 0 0 w _
          refine jWp.blk mt 2 ?_
          show _ ∧ jWp 77 20 [some (jO t), some (jO r), some (jI (k : Int))] [jI (k : Int), jO r] 0 0 w _
          refine ⟨rfl, ?_⟩
          refine jWp.callv (as := [jO r, jI (k : Int)]) (rest := []) mt rfl rfl rfl ⟨rfl, jtg hkr⟩ ?_
          refine jCall.mono (C_termAt (w := w) (r := r) (rt := rt) (len := len) hkr hkt hrt hlen hl60 hgb (n := k) (by omega)) (fun v9 w9 h9 => ?_)
          obtain ⟨rfl, h9⟩ := h9
          subst w9
          show jWp 77 23 [some (jO t), some (jO r), some (jI (k : Int))] [jI (zta (w.1 rt) len k)] 0 0 w _
          have := zta_b (n := k) hgb
          have : k < len → (zta (w.1 rt) len k) = w.1 rt k := fun h => zta_t h
          have : ¬ k < len → (zta (w.1 rt) len k) = 0 := fun h => zta_f h
          refine jWp.blk mt 2 ?_
          show _ ∧ jWp 77 25 [some (jO t), some (jO r), some (jI (k : Int))] [jI (k : Int), jO t, jI (zta (w.1 rt) len k)] 0 0 w _
          refine ⟨rfl, ?_⟩
          refine jWp.callv (as := [jO t, jI (k : Int)]) (rest := [jI (zta (w.1 rt) len k)]) mt rfl rfl rfl ⟨rfl, jtg hk7⟩ ?_
          refine jCall.mono (C_tat (w := w) hk7 hkp hrp hz hzb (i := k) (by omega)) (fun v9 w9 h9 => ?_)
          obtain ⟨rfl, h9⟩ := h9
          subst w9
          show jWp 77 28 [some (jO t), some (jO r), some (jI (k : Int))] [jI (w.1 tp k), jI (zta (w.1 rt) len k)] 0 0 w _
          refine jWp.icmp (pc' := 31) mt rfl rfl (b32_id (by omega) (by omega)) (b32_id (by omega) (by omega)) (fun h5 => ?_) (fun h5 => ?_)
          · have h5 : (zta (w.1 rt) len k) = (w.1 tp k) := h5
            refine jWp.blk mt 2 ?_
            show jWp 77 2 [some (jO t), some (jO r), some (jI ((k : Int) + 1))] [] 0 0 w _
            refine jWp.le (l := [some (jO t), some (jO r), some (jI ((k : Int) + 1))]) (by exact ⟨rfl, rfl, rfl, trivial⟩) ?_
            exact ih2 (k + 1) (by omega) (by rw [← hr, show z.toNat - k = (z.toNat - (k + 1)) + 1 by omega, zff_f (by omega)]) (by omega)
          · have h5 : (zta (w.1 rt) len k) ≠ (w.1 tp k) := h5
            refine jWp.blk mt 1 ?_
            show jWp 77 32 [some (jO t), some (jO r), some (jI (k : Int))] [jI (k : Int)] 0 0 w _
            refine jWp.ireti mt rfl ⟨rfl, rfl⟩ rfl ?_
            refine ⟨?_, rfl⟩
            rw [← hr, show z.toNat - k = (z.toNat - (k + 1)) + 1 by omega, zff_t (by omega)]
        · have h4 : ¬ (0 ≤ (k : Int) ∧ (k : Int) < (len : Int)) := h4
          show jWp 77 15 [some (jO t), some (jO r), some (jI (k : Int))] [jI 0] 0 0 w _
          refine jWp.ifc (b := true) mt rfl (by decide) rfl ?_
          show jWp 77 31 [some (jO t), some (jO r), some (jI (k : Int))] [] 0 0 w _
          refine jWp.blk mt 1 ?_
          show jWp 77 32 [some (jO t), some (jO r), some (jI (k : Int))] [jI (k : Int)] 0 0 w _
          refine jWp.ireti mt rfl ⟨rfl, rfl⟩ rfl ?_
          refine ⟨?_, rfl⟩
          rw [← hr, show z.toNat - k = (z.toNat - (k + 1)) + 1 by omega, zff_t (by omega)]
  refine jWp.le (l := [some (jO t), some (jO r), some (jI 0)]) (by exact ⟨rfl, rfl, rfl, trivial⟩) ?_
  exact lp1 _ 0 (by omega) (by rw [Nat.sub_zero]) (Nat.lt_succ_self _)
set_option maxHeartbeats 4000000 in
set_option maxRecDepth 20000 in
theorem C_takeFrom {w : jS} {t tp : Nat} {z : Int} (hk7 : w.2.1 t = (7, 0)) (hkp : w.2.1 tp = (100, 40)) (hrp : w.2.2.1 t 1 = some tp) (hz : w.1 t 0 = z) (hzb : -1 ≤ z ∧ z ≤ 40) {r rt len : Nat} (hkr : w.2.1 r = (4, 0)) (hkt : w.2.1 rt = (100, 60)) (hrt : w.2.2.1 r 6 = some rt) (hlen : w.1 r 2 = (len : Int)) (hl60 : len ≤ 60) (hgb : ∀ j, j < len → -100000000 ≤ w.1 rt j ∧ w.1 rt j ≤ 100000000) {i : Nat} (hi : (i : Int) < z) : jCall 78 [jO t, jO r, jI (i : Int)] w (fun v w1 => ∃ (n : Nat) (T : Nat → Int), v = some (jI (n : Int)) ∧ (n ≤ len ∧ (i : Int) + (n : Int) ≤ z ∧ (n < len → (i : Int) + (n : Int) = z)) ∧ w1 = kA w tp T ∧ zly (w.1 tp) (w.1 rt) T i n) := by
  have mt : jtb 78 = jT78 := rfl
  have hnt : t ≠ tp := kne hk7 hkp (by decide)
  have hn1 : r ≠ tp := kne hkr hkp (by decide)
  have hn2 : rt ≠ tp := kne2 hkt hkp (by decide)
  show jWp 78 0 [some (jO t), some (jO r), some (jI (i : Int)), none, none] [] 0 0 w _
  refine jWp.blk mt 4 ?_
  show jWp 78 5 [some (jO t), some (jO r), some (jI (i : Int)), some (jI 0), some (jI (i : Int))] [] 0 0 w _
  have lp1 : ∀ (N : Nat) (n : Nat) (T : Nat → Int) (hn : n ≤ len ∧ (i : Int) + (n : Int) ≤ z) (hT : zly (w.1 tp) (w.1 rt) T i n), len - n < N → jWp 78 5 [some (jO t), some (jO r), none, some (jI (n : Int)), some (jI ((i + n : Nat) : Int))] [] 0 0 (kA w tp T) (fun v w1 => ∃ (n : Nat) (T : Nat → Int), v = some (jI (n : Int)) ∧ (n ≤ len ∧ (i : Int) + (n : Int) ≤ z ∧ (n < len → (i : Int) + (n : Int) = z)) ∧ w1 = kA w tp T ∧ zly (w.1 tp) (w.1 rt) T i n) := by
    intro N
    induction N with
    | zero => intro n T hn hT hm; omega
    | succ N ih2 =>
      intro n T hn hT hm
      refine jWp.blk mt 2 ?_
      show _ ∧ jWp 78 8 [some (jO t), some (jO r), none, some (jI (n : Int)), some (jI ((i + n : Nat) : Int))] [jO t, jI ((i + n : Nat) : Int)] 0 0 (kA w tp T) _
      refine ⟨rfl, ?_⟩
      refine jWp.getI (pc' := 11) mt rfl rfl (jtg hk7) ?_
      rw [show ((kA w tp T).1 t 0) = z from (((kA_a (by omega)).trans rfl).trans hz)]
      show jWp 78 11 [some (jO t), some (jO r), none, some (jI (n : Int)), some (jI ((i + n : Nat) : Int))] [jI z, jI ((i + n : Nat) : Int)] 0 0 (kA w tp T) _
      refine jWp.icmp (pc' := 14) mt rfl rfl (b32_id (by omega) (by omega)) (b32_id (by omega) (by omega)) (fun h3 => ?_) (fun h3 => ?_)
      · have h3 : z ≤ ((i + n : Nat) : Int) := h3
        refine jWp.blk mt 1 ?_
        show jWp 78 43 [some (jO t), some (jO r), none, some (jI (n : Int)), some (jI ((i + n : Nat) : Int))] [jI (n : Int)] 0 0 (kA w tp T) _
        refine jWp.ireti mt rfl ⟨rfl, rfl⟩ rfl ?_
        exact ⟨n, T, rfl, by omega, rfl, hT⟩
      · have h3 : ((i + n : Nat) : Int) < z := h3
        refine jWp.blk mt 2 ?_
        show _ ∧ jWp 78 16 [some (jO t), some (jO r), none, some (jI (n : Int)), some (jI ((i + n : Nat) : Int))] [jI (n : Int), jO r] 0 0 (kA w tp T) _
        refine ⟨rfl, ?_⟩
        refine jWp.callv (as := [jO r, jI (n : Int)]) (rest := []) mt rfl rfl rfl ⟨rfl, jtg hkr⟩ ?_
        refine jCall.mono (C_reaches (w := (kA w tp T)) (r := r) (rt := rt) (len := len) hkr hkt hrt (((kA_a (by omega)).trans rfl).trans hlen) hl60 (by rw [show (kA w tp T).1 rt = w.1 rt from ((kA_f (by omega)).trans rfl)]; exact hgb) (n := (n : Int)) (by constructor <;> omega)) (fun v9 w9 h9 => ?_)
        rcases h9 with ⟨rfl, h9, h4⟩ | ⟨rfl, h9, h4⟩ <;> subst w9
        · have h4 : 0 ≤ (n : Int) ∧ (n : Int) < (len : Int) := h4
          show jWp 78 19 [some (jO t), some (jO r), none, some (jI (n : Int)), some (jI ((i + n : Nat) : Int))] [jI 1] 0 0 (kA w tp T) _
          refine jWp.ifc (b := false) mt rfl (by decide) rfl ?_
          show jWp 78 22 [some (jO t), some (jO r), none, some (jI (n : Int)), some (jI ((i + n : Nat) : Int))] [] 0 0 (kA w tp T) _
          refine jWp.blk mt 4 ?_
          show _ ∧ _ ∧ jWp 78 27 [some (jO t), some (jO r), none, some (jI (n : Int)), some (jI ((i + n : Nat) : Int))] [jI (n : Int), jO r, jI ((i + n : Nat) : Int), jO t] 0 0 (kA w tp T) _
          refine ⟨rfl, rfl, ?_⟩
          refine jWp.callv (as := [jO r, jI (n : Int)]) (rest := [jI ((i + n : Nat) : Int), jO t]) mt rfl rfl rfl ⟨rfl, jtg hkr⟩ ?_
          refine jCall.mono ((by have h := C_termAt (w := (kA w tp T)) (r := r) (rt := rt) (len := len) hkr hkt hrt (((kA_a (by omega)).trans rfl).trans hlen) hl60 (by rw [show (kA w tp T).1 rt = w.1 rt from ((kA_f (by omega)).trans rfl)]; exact hgb) (n := n) (by omega); rw [show (kA w tp T).1 rt = w.1 rt from ((kA_f (by omega)).trans rfl), zta_t (by omega)] at h; exact h)) (fun v9 w9 h9 => ?_)
          obtain ⟨rfl, h9⟩ := h9
          subst w9
          show jWp 78 30 [some (jO t), some (jO r), none, some (jI (n : Int)), some (jI ((i + n : Nat) : Int))] [jI (w.1 rt n), jI ((i + n : Nat) : Int), jO t] 0 0 (kA w tp T) _
          refine jWp.callv (as := [jO t, jI ((i + n : Nat) : Int), jI (w.1 rt n)]) (rest := []) mt rfl rfl rfl ⟨rfl, jtg hk7⟩ ?_
          refine jCall.mono (C_ttell (w := (kA w tp T)) hk7 hkp hrp (((kA_a (by omega)).trans rfl).trans hz) hzb (i := i + n) (by omega)) (fun v9 w9 h9 => ?_)
          obtain ⟨rfl, h9⟩ := h9
          subst h9
          rw [show jW (kA w tp T) tp (i + n) (w.1 rt n) = kA w tp (zset T (i + n) (w.1 rt n)) from kA_W]
          show jWp 78 33 [some (jO t), some (jO r), none, some (jI (n : Int)), some (jI ((i + n : Nat) : Int))] [] 0 0 (kA w tp (zset T (i + n) (w.1 rt n))) _
          refine jWp.blk mt 3 ?_
          show jWp 78 5 [some (jO t), some (jO r), none, some (jI ((n : Int) + 1)), some (jI (((i + n : Nat) : Int) + 1))] [] 0 0 (kA w tp (zset T (i + n) (w.1 rt n))) _
          refine jWp.le (l := [some (jO t), some (jO r), none, some (jI ((n : Int) + 1)), some (jI (((i + n : Nat) : Int) + 1))]) (by exact ⟨rfl, rfl, rfl, rfl, trivial⟩) ?_
          exact ih2 (n + 1) _ (by omega) (fun j hj => by rcases Nat.lt_or_ge j (i + n) with g | g; rw [zset_n (by omega), hT j hj]; by_cases e : i ≤ j; rw [if_pos (by omega), if_pos (by omega)]; rw [if_neg (by omega), if_neg (by omega)]; by_cases e : j = i + n; rw [e, zset_s, if_pos (by omega), show i + n - i = n by omega]; rw [zset_n e, hT j hj, if_neg (by omega), if_neg (by omega)]) (by omega)
        · have h4 : ¬ (0 ≤ (n : Int) ∧ (n : Int) < (len : Int)) := h4
          show jWp 78 19 [some (jO t), some (jO r), none, some (jI (n : Int)), some (jI ((i + n : Nat) : Int))] [jI 0] 0 0 (kA w tp T) _
          refine jWp.ifc (b := true) mt rfl (by decide) rfl ?_
          show jWp 78 42 [some (jO t), some (jO r), none, some (jI (n : Int)), some (jI ((i + n : Nat) : Int))] [] 0 0 (kA w tp T) _
          refine jWp.blk mt 1 ?_
          show jWp 78 43 [some (jO t), some (jO r), none, some (jI (n : Int)), some (jI ((i + n : Nat) : Int))] [jI (n : Int)] 0 0 (kA w tp T) _
          refine jWp.ireti mt rfl ⟨rfl, rfl⟩ rfl ?_
          exact ⟨n, T, rfl, by omega, rfl, hT⟩
  refine jWp.le (l := [some (jO t), some (jO r), none, some (jI 0), some (jI (i : Int))]) (by exact ⟨rfl, rfl, rfl, rfl, trivial⟩) ?_
  have key := lp1 _ 0 (w.1 tp) (by omega) (fun j hj => by rw [if_neg (by omega)]) (Nat.lt_succ_self _)
  rw [kA_self] at key
  exact key
end
section
set_option maxHeartbeats 4000000 in
set_option maxRecDepth 20000 in
theorem C_letterAt0 {w : jS} {t tl F : Nat} {τ : Nat → Int} (hk8 : w.2.1 t = (8, 0)) (hkl : w.2.1 tl = (100, 72)) (hrl : w.2.2.1 t 1 = some tl) (hF : w.1 t 0 = (F : Int)) (hF72 : F ≤ 72) (hτ : w.1 tl = τ) (hL : ∀ j, j < F → 0 ≤ τ j ∧ τ j ≤ 255) {p : Nat} (hp : p < 2147483648) : jCall 90 [jO t, jI (p : Int)] w (jvi (zlt τ F p) w) := by
  have mt : jtb 90 = jT90 := rfl
  show jWp 90 0 [some (jO t), some (jI (p : Int))] [] 0 0 w _
  refine jWp.blk mt 1 ?_
  show jWp 90 1 [some (jO t), some (jI (p : Int))] [jI (p : Int)] 0 0 w _
  refine jWp.ifz (pc' := 4) mt rfl rfl (b32_id (by omega) (by omega)) (fun h1 => ?_) (fun h1 => ?_)
  · have h1 : (p : Int) < 0 := h1
    refine jWp.blk mt 1 ?_
    show jWp 90 28 [some (jO t), some (jI (p : Int))] [jI (-1)] 0 0 w _
    refine jWp.ireti mt rfl ⟨rfl, rfl⟩ rfl ?_
    first
    | (exfalso; omega)
    | exact ⟨by unfold zlt; first | (rw [if_pos (by omega)]; done) | (rw [if_neg (by omega)]; done), rfl⟩
  · have h1 : 0 ≤ (p : Int) := h1
    refine jWp.blk mt 2 ?_
    show _ ∧ jWp 90 6 [some (jO t), some (jI (p : Int))] [jO t, jI (p : Int)] 0 0 w _
    refine ⟨rfl, ?_⟩
    refine jWp.getI (pc' := 9) mt rfl rfl (jtg hk8) ?_
    rw [show (w.1 t 0) = (F : Int) from hF]
    show jWp 90 9 [some (jO t), some (jI (p : Int))] [jI (F : Int), jI (p : Int)] 0 0 w _
    refine jWp.icmp (pc' := 12) mt rfl rfl (b32_id (by omega) (by omega)) (b32_id (by omega) (by omega)) (fun h2 => ?_) (fun h2 => ?_)
    · have h2 : (F : Int) ≤ (p : Int) := h2
      refine jWp.blk mt 1 ?_
      show jWp 90 28 [some (jO t), some (jI (p : Int))] [jI (-1)] 0 0 w _
      refine jWp.ireti mt rfl ⟨rfl, rfl⟩ rfl ?_
      first
      | (exfalso; omega)
      | exact ⟨by unfold zlt; first | (rw [if_pos (by omega)]; done) | (rw [if_neg (by omega)]; done), rfl⟩
    · have h2 : (p : Int) < (F : Int) := h2
      refine jWp.blk mt 2 ?_
      show jWp 90 15 [some (jO t), some (jI (p : Int))] [jI 72, jI (p : Int)] 0 0 w _
      refine jWp.icmp (pc' := 18) mt rfl rfl (b32_id (by omega) (by omega)) (show b32 72 = 72 by decide) (fun h3 => ?_) (fun h3 => ?_)
      · have h3 : 72 ≤ (p : Int) := h3
        refine jWp.blk mt 1 ?_
        show jWp 90 28 [some (jO t), some (jI (p : Int))] [jI (-1)] 0 0 w _
        refine jWp.ireti mt rfl ⟨rfl, rfl⟩ rfl ?_
        first
        | (exfalso; omega)
        | exact ⟨by unfold zlt; first | (rw [if_pos (by omega)]; done) | (rw [if_neg (by omega)]; done), rfl⟩
      · have h3 : (p : Int) < 72 := h3
        refine jWp.blk mt 1 ?_
        show _ ∧ jWp 90 19 [some (jO t), some (jI (p : Int))] [jO t] 0 0 w _
        refine ⟨rfl, ?_⟩
        refine jWp.getR (pc' := 22) (o := tl) mt rfl rfl (jtg hk8) hrl ?_
        show jWp 90 22 [some (jO t), some (jI (p : Int))] [jO tl] 0 0 w _
        refine jWp.blk mt 1 ?_
        show jWp 90 23 [some (jO t), some (jI (p : Int))] [jI (p : Int), jO tl] 0 0 w _
        refine jWp.iald (pc' := 24) (j := p) mt rfl rfl (jird_of hkl) (b32_id (by omega) (by omega)) (jlt hkl (by omega)) ?_
        rw [show (w.1 tl p) = (τ p) from (congrFun hτ _)]
        show jWp 90 24 [some (jO t), some (jI (p : Int))] [jI (τ p)] 0 0 w _
        refine jWp.blk mt 1 ?_
        show jWp 90 28 [some (jO t), some (jI (p : Int))] [jI (τ p)] 0 0 w _
        refine jWp.ireti mt rfl ⟨rfl, rfl⟩ rfl ?_
        first
        | (exfalso; omega)
        | exact ⟨by unfold zlt; first | (rw [if_pos (by omega)]; done) | (rw [if_neg (by omega)]; done), rfl⟩
theorem C_letterAt {X : Int} {w : jS} {t tl F : Nat} {τ : Nat → Int} (hk8 : w.2.1 t = (8, 0)) (hkl : w.2.1 tl = (100, 72)) (hrl : w.2.2.1 t 1 = some tl) (hF : w.1 t 0 = (F : Int)) (hF72 : F ≤ 72) (hτ : w.1 tl = τ) (hL : ∀ j, j < F → 0 ≤ τ j ∧ τ j ≤ 255) {p : Nat} (hp : p < 2147483648) (eX : X = (p : Int)) : jCall 90 [jO t, jI X] w (jvi (zlt τ F p) w) := by
  subst eX
  exact C_letterAt0 hk8 hkl hrl hF hF72 hτ hL hp
set_option maxHeartbeats 4000000 in
set_option maxRecDepth 20000 in
theorem C_digitAt0 {w : jS} {t tl F : Nat} {τ : Nat → Int} (hk8 : w.2.1 t = (8, 0)) (hkl : w.2.1 tl = (100, 72)) (hrl : w.2.2.1 t 1 = some tl) (hF : w.1 t 0 = (F : Int)) (hF72 : F ≤ 72) (hτ : w.1 tl = τ) (hL : ∀ j, j < F → 0 ≤ τ j ∧ τ j ≤ 255) {p : Nat} (hp : p < 2147483648) : jCall 89 [jO t, jI (p : Int)] w (jvi (zfg (zlt τ F p)) w) := by
  have mt : jtb 89 = jT89 := rfl
  show jWp 89 0 [some (jO t), some (jI (p : Int)), none] [] 0 0 w _
  refine jWp.blk mt 2 ?_
  show _ ∧ jWp 89 2 [some (jO t), some (jI (p : Int)), none] [jI (p : Int), jO t] 0 0 w _
  refine ⟨rfl, ?_⟩
  refine jWp.callv (as := [jO t, jI (p : Int)]) (rest := []) mt rfl rfl rfl ⟨rfl, jtg hk8⟩ ?_
  refine jCall.mono (C_letterAt (w := w) hk8 hkl hrl hF hF72 hτ hL (p := p) (by omega) (by omega)) (fun v9 w9 h9 => ?_)
  obtain ⟨rfl, h9⟩ := h9
  subst w9
  show jWp 89 5 [some (jO t), some (jI (p : Int)), none] [jI (zlt τ F p)] 0 0 w _
  refine jWp.blk mt 3 ?_
  show jWp 89 9 [some (jO t), some (jI (p : Int)), some (jI (zlt τ F p))] [jI 48, jI (zlt τ F p)] 0 0 w _
  refine jWp.icmp (pc' := 12) mt rfl rfl (b32_id (by have := zlt_b hL p; omega) (by have := zlt_b hL p; omega)) (show b32 48 = 48 by decide) (fun h1 => ?_) (fun h1 => ?_)
  · have h1 : (zlt τ F p) < 48 := h1
    refine jWp.blk mt 1 ?_
    show jWp 89 26 [some (jO t), some (jI (p : Int)), some (jI (zlt τ F p))] [jI (-1)] 0 0 w _
    refine jWp.ireti mt rfl ⟨rfl, rfl⟩ rfl ?_
    exact ⟨by unfold zfg; first | (rw [if_pos (by omega)]; done) | (rw [if_neg (by omega)]; done), rfl⟩
  · have h1 : 48 ≤ (zlt τ F p) := h1
    refine jWp.blk mt 2 ?_
    show jWp 89 15 [some (jO t), some (jI (p : Int)), some (jI (zlt τ F p))] [jI 57, jI (zlt τ F p)] 0 0 w _
    refine jWp.icmp (pc' := 18) mt rfl rfl (b32_id (by have := zlt_b hL p; omega) (by have := zlt_b hL p; omega)) (show b32 57 = 57 by decide) (fun h2 => ?_) (fun h2 => ?_)
    · have h2 : 57 < (zlt τ F p) := h2
      refine jWp.blk mt 1 ?_
      show jWp 89 26 [some (jO t), some (jI (p : Int)), some (jI (zlt τ F p))] [jI (-1)] 0 0 w _
      refine jWp.ireti mt rfl ⟨rfl, rfl⟩ rfl ?_
      exact ⟨by unfold zfg; first | (rw [if_pos (by omega)]; done) | (rw [if_neg (by omega)]; done), rfl⟩
    · have h2 : (zlt τ F p) ≤ 57 := h2
      refine jWp.blk mt 4 ?_
      show jWp 89 26 [some (jO t), some (jI (p : Int)), some (jI (zlt τ F p))] [jI ((zlt τ F p) - 48)] 0 0 w _
      refine jWp.ireti mt rfl ⟨rfl, rfl⟩ rfl ?_
      exact ⟨by unfold zfg; first | (rw [if_pos (by omega)]; done) | (rw [if_neg (by omega)]; done), rfl⟩
theorem C_digitAt {X : Int} {w : jS} {t tl F : Nat} {τ : Nat → Int} (hk8 : w.2.1 t = (8, 0)) (hkl : w.2.1 tl = (100, 72)) (hrl : w.2.2.1 t 1 = some tl) (hF : w.1 t 0 = (F : Int)) (hF72 : F ≤ 72) (hτ : w.1 tl = τ) (hL : ∀ j, j < F → 0 ≤ τ j ∧ τ j ≤ 255) {p : Nat} (hp : p < 2147483648) (eX : X = (p : Int)) : jCall 89 [jO t, jI X] w (jvi (zfg (zlt τ F p)) w) := by
  subst eX
  exact C_digitAt0 hk8 hkl hrl hF hF72 hτ hL hp
set_option maxHeartbeats 4000000 in
set_option maxRecDepth 20000 in
theorem C_numberAt0 {w : jS} {t tl F : Nat} {τ : Nat → Int} (hk8 : w.2.1 t = (8, 0)) (hkl : w.2.1 tl = (100, 72)) (hrl : w.2.2.1 t 1 = some tl) (hF : w.1 t 0 = (F : Int)) (hF72 : F ≤ 72) (hτ : w.1 tl = τ) (hL : ∀ j, j < F → 0 ≤ τ j ∧ τ j ≤ 255) {p : Nat} (hp : p < 2000000000) : jCall 88 [jO t, jI (p : Int)] w (jvi (znm τ F p) w) := by
  have mt : jtb 88 = jT88 := rfl
  show jWp 88 0 [some (jO t), some (jI (p : Int))] [] 0 0 w _
  refine jWp.blk mt 2 ?_
  show _ ∧ jWp 88 2 [some (jO t), some (jI (p : Int))] [jI (p : Int), jO t] 0 0 w _
  refine ⟨rfl, ?_⟩
  refine jWp.callv (as := [jO t, jI (p : Int)]) (rest := []) mt rfl rfl rfl ⟨rfl, jtg hk8⟩ ?_
  refine jCall.mono (C_letterAt (w := w) hk8 hkl hrl hF hF72 hτ hL (p := p) (by omega) (by omega)) (fun v9 w9 h9 => ?_)
  obtain ⟨rfl, h9⟩ := h9
  subst w9
  show jWp 88 5 [some (jO t), some (jI (p : Int))] [jI (zlt τ F p)] 0 0 w _
  refine jWp.blk mt 1 ?_
  show jWp 88 7 [some (jO t), some (jI (p : Int))] [jI 45, jI (zlt τ F p)] 0 0 w _
  refine jWp.icmp (pc' := 10) mt rfl rfl (b32_id (by have := zlt_b hL p; omega) (by have := zlt_b hL p; omega)) (show b32 45 = 45 by decide) (fun h1 => ?_) (fun h1 => ?_)
  · have h1 : (zlt τ F p) ≠ 45 := h1
    refine jWp.blk mt 2 ?_
    show _ ∧ jWp 88 23 [some (jO t), some (jI (p : Int))] [jI (p : Int), jO t] 0 0 w _
    refine ⟨rfl, ?_⟩
    refine jWp.callv (as := [jO t, jI (p : Int)]) (rest := []) mt rfl rfl rfl ⟨rfl, jtg hk8⟩ ?_
    refine jCall.mono (C_digitAt (w := w) hk8 hkl hrl hF hF72 hτ hL (p := p) (by omega) (by omega)) (fun v9 w9 h9 => ?_)
    obtain ⟨rfl, h9⟩ := h9
    subst w9
    show jWp 88 26 [some (jO t), some (jI (p : Int))] [jI (zfg (zlt τ F p))] 0 0 w _
    refine jWp.ireti mt rfl ⟨rfl, rfl⟩ rfl ?_
    exact ⟨by unfold znm; first | (rw [if_pos (by omega)]; done) | (rw [if_neg (by omega)]; done), rfl⟩
  · have h1 : (zlt τ F p) = 45 := h1
    refine jWp.blk mt 4 ?_
    show _ ∧ jWp 88 14 [some (jO t), some (jI (p : Int))] [jI ((p : Int) + 1), jO t] 0 0 w _
    refine ⟨rfl, ?_⟩
    refine jWp.callv (as := [jO t, jI ((p : Int) + 1)]) (rest := []) mt rfl rfl rfl ⟨rfl, jtg hk8⟩ ?_
    refine jCall.mono (C_digitAt (w := w) hk8 hkl hrl hF hF72 hτ hL (p := (p + 1)) (by omega) (by omega)) (fun v9 w9 h9 => ?_)
    obtain ⟨rfl, h9⟩ := h9
    subst w9
    show jWp 88 17 [some (jO t), some (jI (p : Int))] [jI (zfg (zlt τ F (p + 1)))] 0 0 w _
    refine jWp.blk mt 2 ?_
    show jWp 88 26 [some (jO t), some (jI (p : Int))] [jI (-(zfg (zlt τ F (p + 1))))] 0 0 w _
    refine jWp.ireti mt rfl ⟨rfl, rfl⟩ rfl ?_
    exact ⟨by unfold znm; first | (rw [if_pos (by omega)]; done) | (rw [if_neg (by omega)]; done), rfl⟩
theorem C_numberAt {X : Int} {w : jS} {t tl F : Nat} {τ : Nat → Int} (hk8 : w.2.1 t = (8, 0)) (hkl : w.2.1 tl = (100, 72)) (hrl : w.2.2.1 t 1 = some tl) (hF : w.1 t 0 = (F : Int)) (hF72 : F ≤ 72) (hτ : w.1 tl = τ) (hL : ∀ j, j < F → 0 ≤ τ j ∧ τ j ≤ 255) {p : Nat} (hp : p < 2000000000) (eX : X = (p : Int)) : jCall 88 [jO t, jI X] w (jvi (znm τ F p) w) := by
  subst eX
  exact C_numberAt0 hk8 hkl hrl hF hF72 hτ hL hp
set_option maxHeartbeats 4000000 in
set_option maxRecDepth 20000 in
theorem C_digitsOf {w : jS} {t : Nat} {c : Int} (hc : r32 c) : jCall 86 [jO t, jI c] w (jvi (zdc c) w) := by
  have mt : jtb 86 = jT86 := rfl
  have hc1 : -2147483648 ≤ c ∧ c < 2147483648 := hc
  show jWp 86 0 [some (jO t), some (jI c)] [] 0 0 w _
  refine jWp.blk mt 1 ?_
  show jWp 86 1 [some (jO t), some (jI c)] [jI c] 0 0 w _
  refine jWp.sw mt rfl (Or.inr ⟨_, _, rfl⟩) (b32_id (by omega) (by omega)) ?_
  show jWp 86 (jsw [(98, 56), (109, 52), (110, 52), (115, 54), (119, 54)] 58 c) [some (jO t), some (jI c)] [] 0 0 w _
  unfold jsw; by_cases h1 : 98 = c
  · rw [if_pos h1]
    refine jWp.blk mt 1 ?_
    show jWp 86 57 [some (jO t), some (jI c)] [jI 3] 0 0 w _
    refine jWp.ireti mt rfl ⟨rfl, rfl⟩ rfl ?_
    refine ⟨?_, rfl⟩
    unfold zdc
    first
    | (rw [if_pos (by omega)]; done)
    | (rw [if_neg (by omega), if_pos (by omega)]; done)
    | (rw [if_neg (by omega), if_neg (by omega), if_pos (by omega)]; done)
    | (rw [if_neg (by omega), if_neg (by omega), if_neg (by omega)]; done)
  · rw [if_neg h1]
    unfold jsw; by_cases h2 : 109 = c
    · rw [if_pos h2]
      refine jWp.blk mt 1 ?_
      show jWp 86 53 [some (jO t), some (jI c)] [jI 1] 0 0 w _
      refine jWp.ireti mt rfl ⟨rfl, rfl⟩ rfl ?_
      refine ⟨?_, rfl⟩
      unfold zdc
      first
      | (rw [if_pos (by omega)]; done)
      | (rw [if_neg (by omega), if_pos (by omega)]; done)
      | (rw [if_neg (by omega), if_neg (by omega), if_pos (by omega)]; done)
      | (rw [if_neg (by omega), if_neg (by omega), if_neg (by omega)]; done)
    · rw [if_neg h2]
      unfold jsw; by_cases h3 : 110 = c
      · rw [if_pos h3]
        refine jWp.blk mt 1 ?_
        show jWp 86 53 [some (jO t), some (jI c)] [jI 1] 0 0 w _
        refine jWp.ireti mt rfl ⟨rfl, rfl⟩ rfl ?_
        refine ⟨?_, rfl⟩
        unfold zdc
        first
        | (rw [if_pos (by omega)]; done)
        | (rw [if_neg (by omega), if_pos (by omega)]; done)
        | (rw [if_neg (by omega), if_neg (by omega), if_pos (by omega)]; done)
        | (rw [if_neg (by omega), if_neg (by omega), if_neg (by omega)]; done)
      · rw [if_neg h3]
        unfold jsw; by_cases h4 : 115 = c
        · rw [if_pos h4]
          refine jWp.blk mt 1 ?_
          show jWp 86 55 [some (jO t), some (jI c)] [jI 2] 0 0 w _
          refine jWp.ireti mt rfl ⟨rfl, rfl⟩ rfl ?_
          refine ⟨?_, rfl⟩
          unfold zdc
          first
          | (rw [if_pos (by omega)]; done)
          | (rw [if_neg (by omega), if_pos (by omega)]; done)
          | (rw [if_neg (by omega), if_neg (by omega), if_pos (by omega)]; done)
          | (rw [if_neg (by omega), if_neg (by omega), if_neg (by omega)]; done)
        · rw [if_neg h4]
          unfold jsw; by_cases h5 : 119 = c
          · rw [if_pos h5]
            refine jWp.blk mt 1 ?_
            show jWp 86 55 [some (jO t), some (jI c)] [jI 2] 0 0 w _
            refine jWp.ireti mt rfl ⟨rfl, rfl⟩ rfl ?_
            refine ⟨?_, rfl⟩
            unfold zdc
            first
            | (rw [if_pos (by omega)]; done)
            | (rw [if_neg (by omega), if_pos (by omega)]; done)
            | (rw [if_neg (by omega), if_neg (by omega), if_pos (by omega)]; done)
            | (rw [if_neg (by omega), if_neg (by omega), if_neg (by omega)]; done)
          · rw [if_neg h5]
            unfold jsw
            refine jWp.blk mt 1 ?_
            show jWp 86 59 [some (jO t), some (jI c)] [jI 0] 0 0 w _
            refine jWp.ireti mt rfl ⟨rfl, rfl⟩ rfl ?_
            refine ⟨?_, rfl⟩
            unfold zdc
            first
            | (rw [if_pos (by omega)]; done)
            | (rw [if_neg (by omega), if_pos (by omega)]; done)
            | (rw [if_neg (by omega), if_neg (by omega), if_pos (by omega)]; done)
            | (rw [if_neg (by omega), if_neg (by omega), if_neg (by omega)]; done)
set_option maxHeartbeats 4000000 in
set_option maxRecDepth 20000 in
theorem C_behind {w : jS} {t tl F : Nat} {τ : Nat → Int} (hk8 : w.2.1 t = (8, 0)) (hkl : w.2.1 tl = (100, 72)) (hrl : w.2.2.1 t 1 = some tl) (hF : w.1 t 0 = (F : Int)) (hF72 : F ≤ 72) (hτ : w.1 tl = τ) (hL : ∀ j, j < F → 0 ≤ τ j ∧ τ j ≤ 255) {p : Nat} (hp : p ≤ 100) : jCall 85 [jO t, jI (p : Int)] w (jvi (zbh τ F p) w) := by
  have mt : jtb 85 = jT85 := rfl
  show jWp 85 0 [some (jO t), some (jI (p : Int)), none, none, none] [] 0 0 w _
  refine jWp.blk mt 3 ?_
  show _ ∧ _ ∧ jWp 85 3 [some (jO t), some (jI (p : Int)), none, none, none] [jI (p : Int), jO t, jO t] 0 0 w _
  refine ⟨rfl, rfl, ?_⟩
  refine jWp.callv (as := [jO t, jI (p : Int)]) (rest := [jO t]) mt rfl rfl rfl ⟨rfl, jtg hk8⟩ ?_
  refine jCall.mono (C_letterAt (w := w) hk8 hkl hrl hF hF72 hτ hL (p := p) (by omega) (by omega)) (fun v9 w9 h9 => ?_)
  obtain ⟨rfl, h9⟩ := h9
  subst w9
  show jWp 85 6 [some (jO t), some (jI (p : Int)), none, none, none] [jI (zlt τ F p), jO t] 0 0 w _
  refine jWp.callv (as := [jO t, jI (zlt τ F p)]) (rest := []) mt rfl rfl rfl ⟨rfl, jtg hk8⟩ ?_
  refine jCall.mono (C_digitsOf (c := zlt τ F p) (by have := zlt_b hL p; exact ⟨by omega, by omega⟩)) (fun v9 w9 h9 => ?_)
  obtain ⟨rfl, h9⟩ := h9
  subst w9
  rcases (show (zlt τ F p = 110 ∨ zlt τ F p = 109) ∨ (zlt τ F p = 115 ∨ zlt τ F p = 119) ∨ zlt τ F p = 98 ∨ (zlt τ F p ≠ 110 ∧ zlt τ F p ≠ 109 ∧ zlt τ F p ≠ 115 ∧ zlt τ F p ≠ 119 ∧ zlt τ F p ≠ 98) by omega) with h1 | h1 | h1 | h1
  · rw [show zdc (zlt τ F p) = 1 by unfold zdc; rw [if_pos (by omega)]]
    show jWp 85 9 [some (jO t), some (jI (p : Int)), none, none, none] [jI 1] 0 0 w _
    refine jWp.blk mt 2 ?_
    show jWp 85 11 [some (jO t), some (jI (p : Int)), some (jI 1), none, none] [jI 1] 0 0 w _
    refine jWp.ifc (b := true) mt rfl (by decide) rfl ?_
    show jWp 85 18 [some (jO t), some (jI (p : Int)), some (jI 1), none, none] [] 0 0 w _
    refine jWp.blk mt 8 ?_
    show jWp 85 28 [some (jO t), some (jI (p : Int)), some (jI 1), some (jI ((p : Int) + 1)), some (jI 0)] [jI 1, jI 0] 0 0 w _
    refine jWp.icmp (pc' := 31) mt rfl rfl (show b32 0 = 0 by decide) (show b32 1 = 1 by decide) (fun h2 => ?_) (fun h2 => ?_)
    · exact absurd (show 1 ≤ (0 : Int) from h2) (by decide)
    · have h2 := h2
      refine jWp.blk mt 2 ?_
      show jWp 85 34 [some (jO t), some (jI (p : Int)), some (jI 1), some (jI ((p : Int) + 1)), some (jI 0)] [jI 2, jI 0] 0 0 w _
      refine jWp.icmp (pc' := 37) mt rfl rfl (show b32 0 = 0 by decide) (show b32 2 = 2 by decide) (fun h3 => ?_) (fun h3 => ?_)
      · have h3 := h3
        refine jWp.blk mt 2 ?_
        show _ ∧ jWp 85 52 [some (jO t), some (jI (p : Int)), some (jI 1), some (jI ((p : Int) + 1)), some (jI 0)] [jI ((p : Int) + 1), jO t] 0 0 w _
        refine ⟨rfl, ?_⟩
        refine jWp.callv (as := [jO t, jI ((p : Int) + 1)]) (rest := []) mt rfl rfl rfl ⟨rfl, jtg hk8⟩ ?_
        refine jCall.mono (C_digitAt (w := w) hk8 hkl hrl hF hF72 hτ hL (p := (p + 1)) (by omega) (by omega)) (fun v9 w9 h9 => ?_)
        obtain ⟨rfl, h9⟩ := h9
        subst w9
        show jWp 85 55 [some (jO t), some (jI (p : Int)), some (jI 1), some (jI ((p : Int) + 1)), some (jI 0)] [jI (zfg (zlt τ F (p + 1)))] 0 0 w _
        refine jWp.ifz (pc' := 58) mt rfl rfl (b32_id (by have := zfg_b (zlt τ F (p + 1)); omega) (by have := zfg_b (zlt τ F (p + 1)); omega)) (fun h4 => ?_) (fun h4 => ?_)
        · have h4 : 0 ≤ (zfg (zlt τ F (p + 1))) := h4
          refine jWp.blk mt 5 ?_
          show jWp 85 28 [some (jO t), some (jI (p : Int)), some (jI 1), some (jI (((p : Int) + 1) + 1)), some (jI 1)] [jI 1, jI 1] 0 0 w _
          refine jWp.icmp (pc' := 31) mt rfl rfl (show b32 1 = 1 by decide) (show b32 1 = 1 by decide) (fun h5 => ?_) (fun h5 => ?_)
          · have h5 := h5
            refine jWp.blk mt 2 ?_
            show _ ∧ jWp 85 73 [some (jO t), some (jI (p : Int)), some (jI 1), some (jI (((p : Int) + 1) + 1)), some (jI 1)] [jI (((p : Int) + 1) + 1), jO t] 0 0 w _
            refine ⟨rfl, ?_⟩
            refine jWp.callv (as := [jO t, jI (((p : Int) + 1) + 1)]) (rest := []) mt rfl rfl rfl ⟨rfl, jtg hk8⟩ ?_
            refine jCall.mono (C_letterAt (w := w) hk8 hkl hrl hF hF72 hτ hL (p := (p + 2)) (by omega) (by omega)) (fun v9 w9 h9 => ?_)
            obtain ⟨rfl, h9⟩ := h9
            subst w9
            show jWp 85 76 [some (jO t), some (jI (p : Int)), some (jI 1), some (jI (((p : Int) + 1) + 1)), some (jI 1)] [jI (zlt τ F (p + 2))] 0 0 w _
            refine jWp.blk mt 1 ?_
            show jWp 85 78 [some (jO t), some (jI (p : Int)), some (jI 1), some (jI (((p : Int) + 1) + 1)), some (jI 1)] [jI 59, jI (zlt τ F (p + 2))] 0 0 w _
            refine jWp.icmp (pc' := 81) mt rfl rfl (b32_id (by have := zlt_b hL (p + 2); omega) (by have := zlt_b hL (p + 2); omega)) (show b32 59 = 59 by decide) (fun h6 => ?_) (fun h6 => ?_)
            · have h6 : (zlt τ F (p + 2)) ≠ 59 := h6
              refine jWp.blk mt 3 ?_
              show jWp 85 90 [some (jO t), some (jI (p : Int)), some (jI 1), some (jI (((p : Int) + 1) + 1)), some (jI 1)] [jI ((-1) - (((p : Int) + 1) + 1))] 0 0 w _
              refine jWp.ireti mt rfl ⟨rfl, rfl⟩ rfl ?_
              refine ⟨?_, rfl⟩
              have hz9 : ∀ x, zfg x = if 48 ≤ x ∧ x ≤ 57 then x - 48 else -1 := fun _ => rfl
              refine congrArg (fun z => some (jI z)) ?_
              unfold zbh zfn
              simp only [hz9] at *
              (repeat' split) <;> first | omega | (exfalso; omega)
            · have h6 : (zlt τ F (p + 2)) = 59 := h6
              refine jWp.blk mt 4 ?_
              show jWp 85 90 [some (jO t), some (jI (p : Int)), some (jI 1), some (jI (((p : Int) + 1) + 1)), some (jI 1)] [jI ((((p : Int) + 1) + 1) + 1)] 0 0 w _
              refine jWp.ireti mt rfl ⟨rfl, rfl⟩ rfl ?_
              refine ⟨?_, rfl⟩
              have hz9 : ∀ x, zfg x = if 48 ≤ x ∧ x ≤ 57 then x - 48 else -1 := fun _ => rfl
              refine congrArg (fun z => some (jI z)) ?_
              unfold zbh zfn
              simp only [hz9] at *
              (repeat' split) <;> first | omega | (exfalso; omega)
          · exact absurd (show (1 : Int) < 1 from h5) (by decide)
        · have h4 : (zfg (zlt τ F (p + 1))) < 0 := h4
          refine jWp.blk mt 3 ?_
          show jWp 85 61 [some (jO t), some (jI (p : Int)), some (jI 1), some (jI ((p : Int) + 1)), some (jI 0)] [jI ((-1) - ((p : Int) + 1))] 0 0 w _
          refine jWp.ireti mt rfl ⟨rfl, rfl⟩ rfl ?_
          refine ⟨?_, rfl⟩
          have hz9 : ∀ x, zfg x = if 48 ≤ x ∧ x ≤ 57 then x - 48 else -1 := fun _ => rfl
          refine congrArg (fun z => some (jI z)) ?_
          unfold zbh zfn
          simp only [hz9] at *
          (repeat' split) <;> first | omega | (exfalso; omega)
      · exact absurd (show (0 : Int) = 2 from h3) (by decide)
  · rw [show zdc (zlt τ F p) = 2 by unfold zdc; rw [if_neg (by omega), if_pos (by omega)]]
    show jWp 85 9 [some (jO t), some (jI (p : Int)), none, none, none] [jI 2] 0 0 w _
    refine jWp.blk mt 2 ?_
    show jWp 85 11 [some (jO t), some (jI (p : Int)), some (jI 2), none, none] [jI 2] 0 0 w _
    refine jWp.ifc (b := true) mt rfl (by decide) rfl ?_
    show jWp 85 18 [some (jO t), some (jI (p : Int)), some (jI 2), none, none] [] 0 0 w _
    refine jWp.blk mt 8 ?_
    show jWp 85 28 [some (jO t), some (jI (p : Int)), some (jI 2), some (jI ((p : Int) + 1)), some (jI 0)] [jI 2, jI 0] 0 0 w _
    refine jWp.icmp (pc' := 31) mt rfl rfl (show b32 0 = 0 by decide) (show b32 2 = 2 by decide) (fun h7 => ?_) (fun h7 => ?_)
    · exact absurd (show 2 ≤ (0 : Int) from h7) (by decide)
    · have h7 := h7
      refine jWp.blk mt 2 ?_
      show jWp 85 34 [some (jO t), some (jI (p : Int)), some (jI 2), some (jI ((p : Int) + 1)), some (jI 0)] [jI 2, jI 0] 0 0 w _
      refine jWp.icmp (pc' := 37) mt rfl rfl (show b32 0 = 0 by decide) (show b32 2 = 2 by decide) (fun h8 => ?_) (fun h8 => ?_)
      · have h8 := h8
        refine jWp.blk mt 2 ?_
        show _ ∧ jWp 85 52 [some (jO t), some (jI (p : Int)), some (jI 2), some (jI ((p : Int) + 1)), some (jI 0)] [jI ((p : Int) + 1), jO t] 0 0 w _
        refine ⟨rfl, ?_⟩
        refine jWp.callv (as := [jO t, jI ((p : Int) + 1)]) (rest := []) mt rfl rfl rfl ⟨rfl, jtg hk8⟩ ?_
        refine jCall.mono (C_digitAt (w := w) hk8 hkl hrl hF hF72 hτ hL (p := (p + 1)) (by omega) (by omega)) (fun v9 w9 h9 => ?_)
        obtain ⟨rfl, h9⟩ := h9
        subst w9
        show jWp 85 55 [some (jO t), some (jI (p : Int)), some (jI 2), some (jI ((p : Int) + 1)), some (jI 0)] [jI (zfg (zlt τ F (p + 1)))] 0 0 w _
        refine jWp.ifz (pc' := 58) mt rfl rfl (b32_id (by have := zfg_b (zlt τ F (p + 1)); omega) (by have := zfg_b (zlt τ F (p + 1)); omega)) (fun h9 => ?_) (fun h9 => ?_)
        · have h9 : 0 ≤ (zfg (zlt τ F (p + 1))) := h9
          refine jWp.blk mt 5 ?_
          show jWp 85 28 [some (jO t), some (jI (p : Int)), some (jI 2), some (jI (((p : Int) + 1) + 1)), some (jI 1)] [jI 2, jI 1] 0 0 w _
          refine jWp.icmp (pc' := 31) mt rfl rfl (show b32 1 = 1 by decide) (show b32 2 = 2 by decide) (fun h10 => ?_) (fun h10 => ?_)
          · exact absurd (show 2 ≤ (1 : Int) from h10) (by decide)
          · have h10 := h10
            refine jWp.blk mt 2 ?_
            show jWp 85 34 [some (jO t), some (jI (p : Int)), some (jI 2), some (jI (((p : Int) + 1) + 1)), some (jI 1)] [jI 2, jI 1] 0 0 w _
            refine jWp.icmp (pc' := 37) mt rfl rfl (show b32 1 = 1 by decide) (show b32 2 = 2 by decide) (fun h11 => ?_) (fun h11 => ?_)
            · have h11 := h11
              refine jWp.blk mt 2 ?_
              show _ ∧ jWp 85 52 [some (jO t), some (jI (p : Int)), some (jI 2), some (jI (((p : Int) + 1) + 1)), some (jI 1)] [jI (((p : Int) + 1) + 1), jO t] 0 0 w _
              refine ⟨rfl, ?_⟩
              refine jWp.callv (as := [jO t, jI (((p : Int) + 1) + 1)]) (rest := []) mt rfl rfl rfl ⟨rfl, jtg hk8⟩ ?_
              refine jCall.mono (C_digitAt (w := w) hk8 hkl hrl hF hF72 hτ hL (p := (p + 2)) (by omega) (by omega)) (fun v9 w9 h9 => ?_)
              obtain ⟨rfl, h9⟩ := h9
              subst w9
              show jWp 85 55 [some (jO t), some (jI (p : Int)), some (jI 2), some (jI (((p : Int) + 1) + 1)), some (jI 1)] [jI (zfg (zlt τ F (p + 2)))] 0 0 w _
              refine jWp.ifz (pc' := 58) mt rfl rfl (b32_id (by have := zfg_b (zlt τ F (p + 2)); omega) (by have := zfg_b (zlt τ F (p + 2)); omega)) (fun h12 => ?_) (fun h12 => ?_)
              · have h12 : 0 ≤ (zfg (zlt τ F (p + 2))) := h12
                refine jWp.blk mt 5 ?_
                show jWp 85 28 [some (jO t), some (jI (p : Int)), some (jI 2), some (jI ((((p : Int) + 1) + 1) + 1)), some (jI 2)] [jI 2, jI 2] 0 0 w _
                refine jWp.icmp (pc' := 31) mt rfl rfl (show b32 2 = 2 by decide) (show b32 2 = 2 by decide) (fun h13 => ?_) (fun h13 => ?_)
                · have h13 := h13
                  refine jWp.blk mt 2 ?_
                  show _ ∧ jWp 85 73 [some (jO t), some (jI (p : Int)), some (jI 2), some (jI ((((p : Int) + 1) + 1) + 1)), some (jI 2)] [jI ((((p : Int) + 1) + 1) + 1), jO t] 0 0 w _
                  refine ⟨rfl, ?_⟩
                  refine jWp.callv (as := [jO t, jI ((((p : Int) + 1) + 1) + 1)]) (rest := []) mt rfl rfl rfl ⟨rfl, jtg hk8⟩ ?_
                  refine jCall.mono (C_letterAt (w := w) hk8 hkl hrl hF hF72 hτ hL (p := (p + 3)) (by omega) (by omega)) (fun v9 w9 h9 => ?_)
                  obtain ⟨rfl, h9⟩ := h9
                  subst w9
                  show jWp 85 76 [some (jO t), some (jI (p : Int)), some (jI 2), some (jI ((((p : Int) + 1) + 1) + 1)), some (jI 2)] [jI (zlt τ F (p + 3))] 0 0 w _
                  refine jWp.blk mt 1 ?_
                  show jWp 85 78 [some (jO t), some (jI (p : Int)), some (jI 2), some (jI ((((p : Int) + 1) + 1) + 1)), some (jI 2)] [jI 59, jI (zlt τ F (p + 3))] 0 0 w _
                  refine jWp.icmp (pc' := 81) mt rfl rfl (b32_id (by have := zlt_b hL (p + 3); omega) (by have := zlt_b hL (p + 3); omega)) (show b32 59 = 59 by decide) (fun h14 => ?_) (fun h14 => ?_)
                  · have h14 : (zlt τ F (p + 3)) ≠ 59 := h14
                    refine jWp.blk mt 3 ?_
                    show jWp 85 90 [some (jO t), some (jI (p : Int)), some (jI 2), some (jI ((((p : Int) + 1) + 1) + 1)), some (jI 2)] [jI ((-1) - ((((p : Int) + 1) + 1) + 1))] 0 0 w _
                    refine jWp.ireti mt rfl ⟨rfl, rfl⟩ rfl ?_
                    refine ⟨?_, rfl⟩
                    have hz9 : ∀ x, zfg x = if 48 ≤ x ∧ x ≤ 57 then x - 48 else -1 := fun _ => rfl
                    refine congrArg (fun z => some (jI z)) ?_
                    unfold zbh zfn
                    simp only [hz9] at *
                    (repeat' split) <;> first | omega | (exfalso; omega)
                  · have h14 : (zlt τ F (p + 3)) = 59 := h14
                    refine jWp.blk mt 4 ?_
                    show jWp 85 90 [some (jO t), some (jI (p : Int)), some (jI 2), some (jI ((((p : Int) + 1) + 1) + 1)), some (jI 2)] [jI (((((p : Int) + 1) + 1) + 1) + 1)] 0 0 w _
                    refine jWp.ireti mt rfl ⟨rfl, rfl⟩ rfl ?_
                    refine ⟨?_, rfl⟩
                    have hz9 : ∀ x, zfg x = if 48 ≤ x ∧ x ≤ 57 then x - 48 else -1 := fun _ => rfl
                    refine congrArg (fun z => some (jI z)) ?_
                    unfold zbh zfn
                    simp only [hz9] at *
                    (repeat' split) <;> first | omega | (exfalso; omega)
                · exact absurd (show (2 : Int) < 2 from h13) (by decide)
              · have h12 : (zfg (zlt τ F (p + 2))) < 0 := h12
                refine jWp.blk mt 3 ?_
                show jWp 85 61 [some (jO t), some (jI (p : Int)), some (jI 2), some (jI (((p : Int) + 1) + 1)), some (jI 1)] [jI ((-1) - (((p : Int) + 1) + 1))] 0 0 w _
                refine jWp.ireti mt rfl ⟨rfl, rfl⟩ rfl ?_
                refine ⟨?_, rfl⟩
                have hz9 : ∀ x, zfg x = if 48 ≤ x ∧ x ≤ 57 then x - 48 else -1 := fun _ => rfl
                refine congrArg (fun z => some (jI z)) ?_
                unfold zbh zfn
                simp only [hz9] at *
                (repeat' split) <;> first | omega | (exfalso; omega)
            · exact absurd (show (1 : Int) = 2 from h11) (by decide)
        · have h9 : (zfg (zlt τ F (p + 1))) < 0 := h9
          refine jWp.blk mt 3 ?_
          show jWp 85 61 [some (jO t), some (jI (p : Int)), some (jI 2), some (jI ((p : Int) + 1)), some (jI 0)] [jI ((-1) - ((p : Int) + 1))] 0 0 w _
          refine jWp.ireti mt rfl ⟨rfl, rfl⟩ rfl ?_
          refine ⟨?_, rfl⟩
          have hz9 : ∀ x, zfg x = if 48 ≤ x ∧ x ≤ 57 then x - 48 else -1 := fun _ => rfl
          refine congrArg (fun z => some (jI z)) ?_
          unfold zbh zfn
          simp only [hz9] at *
          (repeat' split) <;> first | omega | (exfalso; omega)
      · exact absurd (show (0 : Int) = 2 from h8) (by decide)
  · rw [show zdc (zlt τ F p) = 3 by unfold zdc; rw [if_neg (by omega), if_neg (by omega), if_pos (by omega)]]
    show jWp 85 9 [some (jO t), some (jI (p : Int)), none, none, none] [jI 3] 0 0 w _
    refine jWp.blk mt 2 ?_
    show jWp 85 11 [some (jO t), some (jI (p : Int)), some (jI 3), none, none] [jI 3] 0 0 w _
    refine jWp.ifc (b := true) mt rfl (by decide) rfl ?_
    show jWp 85 18 [some (jO t), some (jI (p : Int)), some (jI 3), none, none] [] 0 0 w _
    refine jWp.blk mt 8 ?_
    show jWp 85 28 [some (jO t), some (jI (p : Int)), some (jI 3), some (jI ((p : Int) + 1)), some (jI 0)] [jI 3, jI 0] 0 0 w _
    refine jWp.icmp (pc' := 31) mt rfl rfl (show b32 0 = 0 by decide) (show b32 3 = 3 by decide) (fun h15 => ?_) (fun h15 => ?_)
    · exact absurd (show 3 ≤ (0 : Int) from h15) (by decide)
    · have h15 := h15
      refine jWp.blk mt 2 ?_
      show jWp 85 34 [some (jO t), some (jI (p : Int)), some (jI 3), some (jI ((p : Int) + 1)), some (jI 0)] [jI 2, jI 0] 0 0 w _
      refine jWp.icmp (pc' := 37) mt rfl rfl (show b32 0 = 0 by decide) (show b32 2 = 2 by decide) (fun h16 => ?_) (fun h16 => ?_)
      · have h16 := h16
        refine jWp.blk mt 2 ?_
        show _ ∧ jWp 85 52 [some (jO t), some (jI (p : Int)), some (jI 3), some (jI ((p : Int) + 1)), some (jI 0)] [jI ((p : Int) + 1), jO t] 0 0 w _
        refine ⟨rfl, ?_⟩
        refine jWp.callv (as := [jO t, jI ((p : Int) + 1)]) (rest := []) mt rfl rfl rfl ⟨rfl, jtg hk8⟩ ?_
        refine jCall.mono (C_digitAt (w := w) hk8 hkl hrl hF hF72 hτ hL (p := (p + 1)) (by omega) (by omega)) (fun v9 w9 h9 => ?_)
        obtain ⟨rfl, h9⟩ := h9
        subst w9
        show jWp 85 55 [some (jO t), some (jI (p : Int)), some (jI 3), some (jI ((p : Int) + 1)), some (jI 0)] [jI (zfg (zlt τ F (p + 1)))] 0 0 w _
        refine jWp.ifz (pc' := 58) mt rfl rfl (b32_id (by have := zfg_b (zlt τ F (p + 1)); omega) (by have := zfg_b (zlt τ F (p + 1)); omega)) (fun h17 => ?_) (fun h17 => ?_)
        · have h17 : 0 ≤ (zfg (zlt τ F (p + 1))) := h17
          refine jWp.blk mt 5 ?_
          show jWp 85 28 [some (jO t), some (jI (p : Int)), some (jI 3), some (jI (((p : Int) + 1) + 1)), some (jI 1)] [jI 3, jI 1] 0 0 w _
          refine jWp.icmp (pc' := 31) mt rfl rfl (show b32 1 = 1 by decide) (show b32 3 = 3 by decide) (fun h18 => ?_) (fun h18 => ?_)
          · exact absurd (show 3 ≤ (1 : Int) from h18) (by decide)
          · have h18 := h18
            refine jWp.blk mt 2 ?_
            show jWp 85 34 [some (jO t), some (jI (p : Int)), some (jI 3), some (jI (((p : Int) + 1) + 1)), some (jI 1)] [jI 2, jI 1] 0 0 w _
            refine jWp.icmp (pc' := 37) mt rfl rfl (show b32 1 = 1 by decide) (show b32 2 = 2 by decide) (fun h19 => ?_) (fun h19 => ?_)
            · have h19 := h19
              refine jWp.blk mt 2 ?_
              show _ ∧ jWp 85 52 [some (jO t), some (jI (p : Int)), some (jI 3), some (jI (((p : Int) + 1) + 1)), some (jI 1)] [jI (((p : Int) + 1) + 1), jO t] 0 0 w _
              refine ⟨rfl, ?_⟩
              refine jWp.callv (as := [jO t, jI (((p : Int) + 1) + 1)]) (rest := []) mt rfl rfl rfl ⟨rfl, jtg hk8⟩ ?_
              refine jCall.mono (C_digitAt (w := w) hk8 hkl hrl hF hF72 hτ hL (p := (p + 2)) (by omega) (by omega)) (fun v9 w9 h9 => ?_)
              obtain ⟨rfl, h9⟩ := h9
              subst w9
              show jWp 85 55 [some (jO t), some (jI (p : Int)), some (jI 3), some (jI (((p : Int) + 1) + 1)), some (jI 1)] [jI (zfg (zlt τ F (p + 2)))] 0 0 w _
              refine jWp.ifz (pc' := 58) mt rfl rfl (b32_id (by have := zfg_b (zlt τ F (p + 2)); omega) (by have := zfg_b (zlt τ F (p + 2)); omega)) (fun h20 => ?_) (fun h20 => ?_)
              · have h20 : 0 ≤ (zfg (zlt τ F (p + 2))) := h20
                refine jWp.blk mt 5 ?_
                show jWp 85 28 [some (jO t), some (jI (p : Int)), some (jI 3), some (jI ((((p : Int) + 1) + 1) + 1)), some (jI 2)] [jI 3, jI 2] 0 0 w _
                refine jWp.icmp (pc' := 31) mt rfl rfl (show b32 2 = 2 by decide) (show b32 3 = 3 by decide) (fun h21 => ?_) (fun h21 => ?_)
                · exact absurd (show 3 ≤ (2 : Int) from h21) (by decide)
                · have h21 := h21
                  refine jWp.blk mt 2 ?_
                  show jWp 85 34 [some (jO t), some (jI (p : Int)), some (jI 3), some (jI ((((p : Int) + 1) + 1) + 1)), some (jI 2)] [jI 2, jI 2] 0 0 w _
                  refine jWp.icmp (pc' := 37) mt rfl rfl (show b32 2 = 2 by decide) (show b32 2 = 2 by decide) (fun h22 => ?_) (fun h22 => ?_)
                  · exact absurd (show (2 : Int) ≠ 2 from h22) (by decide)
                  · have h22 := h22
                    refine jWp.blk mt 2 ?_
                    show _ ∧ jWp 85 39 [some (jO t), some (jI (p : Int)), some (jI 3), some (jI ((((p : Int) + 1) + 1) + 1)), some (jI 2)] [jI ((((p : Int) + 1) + 1) + 1), jO t] 0 0 w _
                    refine ⟨rfl, ?_⟩
                    refine jWp.callv (as := [jO t, jI ((((p : Int) + 1) + 1) + 1)]) (rest := []) mt rfl rfl rfl ⟨rfl, jtg hk8⟩ ?_
                    refine jCall.mono (C_letterAt (w := w) hk8 hkl hrl hF hF72 hτ hL (p := (p + 3)) (by omega) (by omega)) (fun v9 w9 h9 => ?_)
                    obtain ⟨rfl, h9⟩ := h9
                    subst w9
                    show jWp 85 42 [some (jO t), some (jI (p : Int)), some (jI 3), some (jI ((((p : Int) + 1) + 1) + 1)), some (jI 2)] [jI (zlt τ F (p + 3))] 0 0 w _
                    refine jWp.blk mt 1 ?_
                    show jWp 85 44 [some (jO t), some (jI (p : Int)), some (jI 3), some (jI ((((p : Int) + 1) + 1) + 1)), some (jI 2)] [jI 45, jI (zlt τ F (p + 3))] 0 0 w _
                    refine jWp.icmp (pc' := 47) mt rfl rfl (b32_id (by have := zlt_b hL (p + 3); omega) (by have := zlt_b hL (p + 3); omega)) (show b32 45 = 45 by decide) (fun h23 => ?_) (fun h23 => ?_)
                    · have h23 : (zlt τ F (p + 3)) ≠ 45 := h23
                      refine jWp.blk mt 2 ?_
                      show _ ∧ jWp 85 52 [some (jO t), some (jI (p : Int)), some (jI 3), some (jI ((((p : Int) + 1) + 1) + 1)), some (jI 2)] [jI ((((p : Int) + 1) + 1) + 1), jO t] 0 0 w _
                      refine ⟨rfl, ?_⟩
                      refine jWp.callv (as := [jO t, jI ((((p : Int) + 1) + 1) + 1)]) (rest := []) mt rfl rfl rfl ⟨rfl, jtg hk8⟩ ?_
                      refine jCall.mono (C_digitAt (w := w) hk8 hkl hrl hF hF72 hτ hL (p := (p + 3)) (by omega) (by omega)) (fun v9 w9 h9 => ?_)
                      obtain ⟨rfl, h9⟩ := h9
                      subst w9
                      show jWp 85 55 [some (jO t), some (jI (p : Int)), some (jI 3), some (jI ((((p : Int) + 1) + 1) + 1)), some (jI 2)] [jI (zfg (zlt τ F (p + 3)))] 0 0 w _
                      refine jWp.ifz (pc' := 58) mt rfl rfl (b32_id (by have := zfg_b (zlt τ F (p + 3)); omega) (by have := zfg_b (zlt τ F (p + 3)); omega)) (fun h24 => ?_) (fun h24 => ?_)
                      · have h24 : 0 ≤ (zfg (zlt τ F (p + 3))) := h24
                        refine jWp.blk mt 5 ?_
                        show jWp 85 28 [some (jO t), some (jI (p : Int)), some (jI 3), some (jI (((((p : Int) + 1) + 1) + 1) + 1)), some (jI 3)] [jI 3, jI 3] 0 0 w _
                        refine jWp.icmp (pc' := 31) mt rfl rfl (show b32 3 = 3 by decide) (show b32 3 = 3 by decide) (fun h25 => ?_) (fun h25 => ?_)
                        · have h25 := h25
                          refine jWp.blk mt 2 ?_
                          show _ ∧ jWp 85 73 [some (jO t), some (jI (p : Int)), some (jI 3), some (jI (((((p : Int) + 1) + 1) + 1) + 1)), some (jI 3)] [jI (((((p : Int) + 1) + 1) + 1) + 1), jO t] 0 0 w _
                          refine ⟨rfl, ?_⟩
                          refine jWp.callv (as := [jO t, jI (((((p : Int) + 1) + 1) + 1) + 1)]) (rest := []) mt rfl rfl rfl ⟨rfl, jtg hk8⟩ ?_
                          refine jCall.mono (C_letterAt (w := w) hk8 hkl hrl hF hF72 hτ hL (p := (p + 4)) (by omega) (by omega)) (fun v9 w9 h9 => ?_)
                          obtain ⟨rfl, h9⟩ := h9
                          subst w9
                          show jWp 85 76 [some (jO t), some (jI (p : Int)), some (jI 3), some (jI (((((p : Int) + 1) + 1) + 1) + 1)), some (jI 3)] [jI (zlt τ F (p + 4))] 0 0 w _
                          refine jWp.blk mt 1 ?_
                          show jWp 85 78 [some (jO t), some (jI (p : Int)), some (jI 3), some (jI (((((p : Int) + 1) + 1) + 1) + 1)), some (jI 3)] [jI 59, jI (zlt τ F (p + 4))] 0 0 w _
                          refine jWp.icmp (pc' := 81) mt rfl rfl (b32_id (by have := zlt_b hL (p + 4); omega) (by have := zlt_b hL (p + 4); omega)) (show b32 59 = 59 by decide) (fun h26 => ?_) (fun h26 => ?_)
                          · have h26 : (zlt τ F (p + 4)) ≠ 59 := h26
                            refine jWp.blk mt 3 ?_
                            show jWp 85 90 [some (jO t), some (jI (p : Int)), some (jI 3), some (jI (((((p : Int) + 1) + 1) + 1) + 1)), some (jI 3)] [jI ((-1) - (((((p : Int) + 1) + 1) + 1) + 1))] 0 0 w _
                            refine jWp.ireti mt rfl ⟨rfl, rfl⟩ rfl ?_
                            refine ⟨?_, rfl⟩
                            have hz9 : ∀ x, zfg x = if 48 ≤ x ∧ x ≤ 57 then x - 48 else -1 := fun _ => rfl
                            refine congrArg (fun z => some (jI z)) ?_
                            unfold zbh zfn
                            simp only [hz9] at *
                            (repeat' split) <;> first | omega | (exfalso; omega)
                          · have h26 : (zlt τ F (p + 4)) = 59 := h26
                            refine jWp.blk mt 4 ?_
                            show jWp 85 90 [some (jO t), some (jI (p : Int)), some (jI 3), some (jI (((((p : Int) + 1) + 1) + 1) + 1)), some (jI 3)] [jI ((((((p : Int) + 1) + 1) + 1) + 1) + 1)] 0 0 w _
                            refine jWp.ireti mt rfl ⟨rfl, rfl⟩ rfl ?_
                            refine ⟨?_, rfl⟩
                            have hz9 : ∀ x, zfg x = if 48 ≤ x ∧ x ≤ 57 then x - 48 else -1 := fun _ => rfl
                            refine congrArg (fun z => some (jI z)) ?_
                            unfold zbh zfn
                            simp only [hz9] at *
                            (repeat' split) <;> first | omega | (exfalso; omega)
                        · exact absurd (show (3 : Int) < 3 from h25) (by decide)
                      · have h24 : (zfg (zlt τ F (p + 3))) < 0 := h24
                        refine jWp.blk mt 3 ?_
                        show jWp 85 61 [some (jO t), some (jI (p : Int)), some (jI 3), some (jI ((((p : Int) + 1) + 1) + 1)), some (jI 2)] [jI ((-1) - ((((p : Int) + 1) + 1) + 1))] 0 0 w _
                        refine jWp.ireti mt rfl ⟨rfl, rfl⟩ rfl ?_
                        refine ⟨?_, rfl⟩
                        have hz9 : ∀ x, zfg x = if 48 ≤ x ∧ x ≤ 57 then x - 48 else -1 := fun _ => rfl
                        refine congrArg (fun z => some (jI z)) ?_
                        unfold zbh zfn
                        simp only [hz9] at *
                        (repeat' split) <;> first | omega | (exfalso; omega)
                    · have h23 : (zlt τ F (p + 3)) = 45 := h23
                      refine jWp.blk mt 3 ?_
                      show _ ∧ jWp 85 52 [some (jO t), some (jI (p : Int)), some (jI 3), some (jI (((((p : Int) + 1) + 1) + 1) + 1)), some (jI 2)] [jI (((((p : Int) + 1) + 1) + 1) + 1), jO t] 0 0 w _
                      refine ⟨rfl, ?_⟩
                      refine jWp.callv (as := [jO t, jI (((((p : Int) + 1) + 1) + 1) + 1)]) (rest := []) mt rfl rfl rfl ⟨rfl, jtg hk8⟩ ?_
                      refine jCall.mono (C_digitAt (w := w) hk8 hkl hrl hF hF72 hτ hL (p := (p + 4)) (by omega) (by omega)) (fun v9 w9 h9 => ?_)
                      obtain ⟨rfl, h9⟩ := h9
                      subst w9
                      show jWp 85 55 [some (jO t), some (jI (p : Int)), some (jI 3), some (jI (((((p : Int) + 1) + 1) + 1) + 1)), some (jI 2)] [jI (zfg (zlt τ F (p + 4)))] 0 0 w _
                      refine jWp.ifz (pc' := 58) mt rfl rfl (b32_id (by have := zfg_b (zlt τ F (p + 4)); omega) (by have := zfg_b (zlt τ F (p + 4)); omega)) (fun h27 => ?_) (fun h27 => ?_)
                      · have h27 : 0 ≤ (zfg (zlt τ F (p + 4))) := h27
                        refine jWp.blk mt 5 ?_
                        show jWp 85 28 [some (jO t), some (jI (p : Int)), some (jI 3), some (jI ((((((p : Int) + 1) + 1) + 1) + 1) + 1)), some (jI 3)] [jI 3, jI 3] 0 0 w _
                        refine jWp.icmp (pc' := 31) mt rfl rfl (show b32 3 = 3 by decide) (show b32 3 = 3 by decide) (fun h28 => ?_) (fun h28 => ?_)
                        · have h28 := h28
                          refine jWp.blk mt 2 ?_
                          show _ ∧ jWp 85 73 [some (jO t), some (jI (p : Int)), some (jI 3), some (jI ((((((p : Int) + 1) + 1) + 1) + 1) + 1)), some (jI 3)] [jI ((((((p : Int) + 1) + 1) + 1) + 1) + 1), jO t] 0 0 w _
                          refine ⟨rfl, ?_⟩
                          refine jWp.callv (as := [jO t, jI ((((((p : Int) + 1) + 1) + 1) + 1) + 1)]) (rest := []) mt rfl rfl rfl ⟨rfl, jtg hk8⟩ ?_
                          refine jCall.mono (C_letterAt (w := w) hk8 hkl hrl hF hF72 hτ hL (p := (p + 5)) (by omega) (by omega)) (fun v9 w9 h9 => ?_)
                          obtain ⟨rfl, h9⟩ := h9
                          subst w9
                          show jWp 85 76 [some (jO t), some (jI (p : Int)), some (jI 3), some (jI ((((((p : Int) + 1) + 1) + 1) + 1) + 1)), some (jI 3)] [jI (zlt τ F (p + 5))] 0 0 w _
                          refine jWp.blk mt 1 ?_
                          show jWp 85 78 [some (jO t), some (jI (p : Int)), some (jI 3), some (jI ((((((p : Int) + 1) + 1) + 1) + 1) + 1)), some (jI 3)] [jI 59, jI (zlt τ F (p + 5))] 0 0 w _
                          refine jWp.icmp (pc' := 81) mt rfl rfl (b32_id (by have := zlt_b hL (p + 5); omega) (by have := zlt_b hL (p + 5); omega)) (show b32 59 = 59 by decide) (fun h29 => ?_) (fun h29 => ?_)
                          · have h29 : (zlt τ F (p + 5)) ≠ 59 := h29
                            refine jWp.blk mt 3 ?_
                            show jWp 85 90 [some (jO t), some (jI (p : Int)), some (jI 3), some (jI ((((((p : Int) + 1) + 1) + 1) + 1) + 1)), some (jI 3)] [jI ((-1) - ((((((p : Int) + 1) + 1) + 1) + 1) + 1))] 0 0 w _
                            refine jWp.ireti mt rfl ⟨rfl, rfl⟩ rfl ?_
                            refine ⟨?_, rfl⟩
                            have hz9 : ∀ x, zfg x = if 48 ≤ x ∧ x ≤ 57 then x - 48 else -1 := fun _ => rfl
                            refine congrArg (fun z => some (jI z)) ?_
                            unfold zbh zfn
                            simp only [hz9] at *
                            (repeat' split) <;> first | omega | (exfalso; omega)
                          · have h29 : (zlt τ F (p + 5)) = 59 := h29
                            refine jWp.blk mt 4 ?_
                            show jWp 85 90 [some (jO t), some (jI (p : Int)), some (jI 3), some (jI ((((((p : Int) + 1) + 1) + 1) + 1) + 1)), some (jI 3)] [jI (((((((p : Int) + 1) + 1) + 1) + 1) + 1) + 1)] 0 0 w _
                            refine jWp.ireti mt rfl ⟨rfl, rfl⟩ rfl ?_
                            refine ⟨?_, rfl⟩
                            have hz9 : ∀ x, zfg x = if 48 ≤ x ∧ x ≤ 57 then x - 48 else -1 := fun _ => rfl
                            refine congrArg (fun z => some (jI z)) ?_
                            unfold zbh zfn
                            simp only [hz9] at *
                            (repeat' split) <;> first | omega | (exfalso; omega)
                        · exact absurd (show (3 : Int) < 3 from h28) (by decide)
                      · have h27 : (zfg (zlt τ F (p + 4))) < 0 := h27
                        refine jWp.blk mt 3 ?_
                        show jWp 85 61 [some (jO t), some (jI (p : Int)), some (jI 3), some (jI (((((p : Int) + 1) + 1) + 1) + 1)), some (jI 2)] [jI ((-1) - (((((p : Int) + 1) + 1) + 1) + 1))] 0 0 w _
                        refine jWp.ireti mt rfl ⟨rfl, rfl⟩ rfl ?_
                        refine ⟨?_, rfl⟩
                        have hz9 : ∀ x, zfg x = if 48 ≤ x ∧ x ≤ 57 then x - 48 else -1 := fun _ => rfl
                        refine congrArg (fun z => some (jI z)) ?_
                        unfold zbh zfn
                        simp only [hz9] at *
                        (repeat' split) <;> first | omega | (exfalso; omega)
              · have h20 : (zfg (zlt τ F (p + 2))) < 0 := h20
                refine jWp.blk mt 3 ?_
                show jWp 85 61 [some (jO t), some (jI (p : Int)), some (jI 3), some (jI (((p : Int) + 1) + 1)), some (jI 1)] [jI ((-1) - (((p : Int) + 1) + 1))] 0 0 w _
                refine jWp.ireti mt rfl ⟨rfl, rfl⟩ rfl ?_
                refine ⟨?_, rfl⟩
                have hz9 : ∀ x, zfg x = if 48 ≤ x ∧ x ≤ 57 then x - 48 else -1 := fun _ => rfl
                refine congrArg (fun z => some (jI z)) ?_
                unfold zbh zfn
                simp only [hz9] at *
                (repeat' split) <;> first | omega | (exfalso; omega)
            · exact absurd (show (1 : Int) = 2 from h19) (by decide)
        · have h17 : (zfg (zlt τ F (p + 1))) < 0 := h17
          refine jWp.blk mt 3 ?_
          show jWp 85 61 [some (jO t), some (jI (p : Int)), some (jI 3), some (jI ((p : Int) + 1)), some (jI 0)] [jI ((-1) - ((p : Int) + 1))] 0 0 w _
          refine jWp.ireti mt rfl ⟨rfl, rfl⟩ rfl ?_
          refine ⟨?_, rfl⟩
          have hz9 : ∀ x, zfg x = if 48 ≤ x ∧ x ≤ 57 then x - 48 else -1 := fun _ => rfl
          refine congrArg (fun z => some (jI z)) ?_
          unfold zbh zfn
          simp only [hz9] at *
          (repeat' split) <;> first | omega | (exfalso; omega)
      · exact absurd (show (0 : Int) = 2 from h16) (by decide)
  · rw [show zdc (zlt τ F p) = 0 by unfold zdc; rw [if_neg (by omega), if_neg (by omega), if_neg (by omega)]]
    show jWp 85 9 [some (jO t), some (jI (p : Int)), none, none, none] [jI 0] 0 0 w _
    refine jWp.blk mt 2 ?_
    show jWp 85 11 [some (jO t), some (jI (p : Int)), some (jI 0), none, none] [jI 0] 0 0 w _
    refine jWp.ifc (b := false) mt rfl (by decide) rfl ?_
    show jWp 85 14 [some (jO t), some (jI (p : Int)), some (jI 0), none, none] [] 0 0 w _
    refine jWp.blk mt 3 ?_
    show jWp 85 17 [some (jO t), some (jI (p : Int)), some (jI 0), none, none] [jI ((-1) - (p : Int))] 0 0 w _
    refine jWp.ireti mt rfl ⟨rfl, rfl⟩ rfl ?_
    refine ⟨?_, rfl⟩
    have hz9 : ∀ x, zfg x = if 48 ≤ x ∧ x ≤ 57 then x - 48 else -1 := fun _ => rfl
    refine congrArg (fun z => some (jI z)) ?_
    unfold zbh zfn
    simp only [hz9] at *
    (repeat' split) <;> first | omega | (exfalso; omega)
end
section
/-- how many statements end in the first letters -/
def zct (τ : Nat → Int) : Nat → Int
  | 0 => 0
  | j + 1 => zct τ j + if τ j = 59 then 1 else 0
theorem zct_t {τ : Nat → Int} {j : Nat} (h : τ j = 59) : zct τ (j + 1) = zct τ j + 1 := by
  show _ + (if _ then _ else _) = _
  rw [if_pos h]
theorem zct_f {τ : Nat → Int} {j : Nat} (h : τ j ≠ 59) : zct τ (j + 1) = zct τ j + 0 := by
  show _ + (if _ then _ else _) = _
  rw [if_neg h]
theorem zlt_in {τ : Nat → Int} {F p : Nat} (h : p < F) : zlt τ F p = τ p := if_pos h
theorem zbh_c {τ : Nat → Int} {F p b : Nat} (h : zbh τ F p = (b : Int)) : p < b ∧ b ≤ F ∧ b ≤ p + 6 ∧ zct τ b = zct τ p + 1 := by
  have fin : ∀ q c : Nat, zfn τ F q = (c : Int) → c = q + 1 ∧ q < F ∧ τ q = 59 := by
    intro q c hq
    unfold zfn at hq
    split at hq
    · rename_i e
      have := zlt_l e (by decide)
      rw [zlt_in this] at e
      exact ⟨by omega, this, e⟩
    · omega
  have one : ∀ q, q < F → zlt τ F q ≠ 59 → zct τ (q + 1) = zct τ q := fun q hq hn => by
    rw [zlt_in hq] at hn
    rw [zct_f hn, Int.add_zero]
  unfold zbh at h
  split at h
  · rename_i h0
    split at h
    · rename_i h1
      have f := fin _ _ h
      rw [f.1]
      refine ⟨by omega, by omega, by omega, ?_⟩
      rw [zct_t f.2.2, one (p + 1) (by omega) (by omega), one p (by omega) (by omega)]
    · omega
  · split at h
    · rename_i h0
      split at h
      · rename_i h1
        split at h
        · rename_i h2
          have f := fin _ _ h
          rw [f.1]
          refine ⟨by omega, by omega, by omega, ?_⟩
          rw [zct_t f.2.2, one (p + 2) (by omega) (by omega), one (p + 1) (by omega) (by omega), one p (by omega) (by omega)]
        · omega
      · omega
    · split at h
      · rename_i h0
        split at h
        · rename_i h1
          split at h
          · rename_i h2
            split at h
            · rename_i h3
              split at h
              · rename_i h5
                have f := fin _ _ h
                rw [f.1]
                refine ⟨by omega, by omega, by omega, ?_⟩
                rw [zct_t f.2.2, one (p + 4) (by omega) (by omega), one (p + 3) (by omega) (by omega), one (p + 2) (by omega) (by omega), one (p + 1) (by omega) (by omega), one p (by omega) (by omega)]
              · omega
            · rename_i h3
              split at h
              · rename_i h5
                have f := fin _ _ h
                rw [f.1]
                refine ⟨by omega, by omega, by omega, ?_⟩
                rw [zct_t f.2.2, one (p + 3) (by omega) (by omega), one (p + 2) (by omega) (by omega), one (p + 1) (by omega) (by omega), one p (by omega) (by omega)]
              · omega
          · omega
        · omega
      · omega
theorem zw1_c {τ : Nat → Int} {F : Nat} : ∀ f p k, p ≤ F → F < p + f → 0 ≤ zw1 τ F f p k → zw1 τ F f p k = (k : Int) + zct τ F - zct τ p
  | 0, p, k, hp, hf, _ => by omega
  | f + 1, p, k, hp, hf, h => by
    by_cases e : zbh τ F p < 0
    · rw [zw1_n e] at h
      omega
    · obtain ⟨b, hb⟩ : ∃ b : Nat, zbh τ F p = (b : Int) := ⟨(zbh τ F p).toNat, by omega⟩
      have c := zbh_c hb
      by_cases g : F ≤ b
      · rw [zw1_e hb g]
        have : b = F := by omega
        rw [this] at c
        omega
      · rw [zw1_g hb (by omega)] at h ⊢
        have := zw1_c f b (k + 1) (by omega) (by omega) h
        omega
theorem zw1_k {τ : Nat → Int} {F f p k : Nat} (h : 0 ≤ zw1 τ F (f + 1) p k) : ∃ b : Nat, zbh τ F p = (b : Int) ∧ (b < F → 0 ≤ zw1 τ F f b (k + 1)) := by
  by_cases e : zbh τ F p < 0
  · rw [zw1_n e] at h
    omega
  · obtain ⟨b, hb⟩ : ∃ b : Nat, zbh τ F p = (b : Int) := ⟨(zbh τ F p).toNat, by omega⟩
    exact ⟨b, hb, fun g => by rw [zw1_g hb g] at h; exact h⟩
theorem zbh_p {τ : Nat → Int} {F p : Nat} : -1 - ((p + 5 : Nat) : Int) ≤ zbh τ F p := by
  have fin : ∀ q : Nat, -1 - (q : Int) ≤ zfn τ F q := fun q => by
    unfold zfn
    split <;> omega
  have := fin (p + 2)
  have := fin (p + 3)
  have := fin (p + 4)
  have := fin (p + 5)
  unfold zbh
  (repeat' split) <;> omega
/-- the figures of a statement -/
theorem zbh_f {τ : Nat → Int} {F p : Nat} (h : 0 ≤ zbh τ F p) : (48 ≤ zlt τ F (p + 1) ∧ zlt τ F (p + 1) ≤ 57) ∧ (zlt τ F p = 115 ∨ zlt τ F p = 119 ∨ zlt τ F p = 98 → 48 ≤ zlt τ F (p + 2) ∧ zlt τ F (p + 2) ≤ 57) ∧ (zlt τ F p = 98 → -9 ≤ znm τ F (p + 3) ∧ znm τ F (p + 3) ≤ 9) := by
  have nb := znm_b τ F (p + 3)
  refine ⟨?_, fun g => ?_, fun _ => nb⟩
  · unfold zbh at h
    (repeat' split at h) <;> omega
  · unfold zbh at h
    (repeat' split at h) <;> omega
set_option maxHeartbeats 4000000 in
set_option maxRecDepth 20000 in
theorem C_statements {w : jS} {t tl F : Nat} {τ : Nat → Int} (hk8 : w.2.1 t = (8, 0)) (hkl : w.2.1 tl = (100, 72)) (hrl : w.2.2.1 t 1 = some tl) (hF : w.1 t 0 = (F : Int)) (hF72 : F ≤ 72) (hτ : w.1 tl = τ) (hL : ∀ j, j < F → 0 ≤ τ j ∧ τ j ≤ 255) : jCall 84 [jO t] w (jvi (zct τ F) w) := by
  have mt : jtb 84 = jT84 := rfl
  show jWp 84 0 [some (jO t), none, none] [] 0 0 w _
  refine jWp.blk mt 4 ?_
  show jWp 84 4 [some (jO t), some (jI 0), some (jI 0)] [] 0 0 w _
  have lp1 : ∀ (N : Nat) (j : Nat) (y : Int) (hj : j ≤ F) (hy : y = zct τ j), F - j < N → jWp 84 4 [some (jO t), some (jI y), some (jI (j : Int))] [] 0 0 w (jvi (zct τ F) w) := by
    intro N
    induction N with
    | zero => intro j y hj hy hm; omega
    | succ N ih2 =>
      intro j y hj hy hm
      have hLj := fun h : j < F => hL j h
      refine jWp.blk mt 2 ?_
      show _ ∧ jWp 84 6 [some (jO t), some (jI y), some (jI (j : Int))] [jO t, jI (j : Int)] 0 0 w _
      refine ⟨rfl, ?_⟩
      refine jWp.getI (pc' := 9) mt rfl rfl (jtg hk8) ?_
      rw [show (w.1 t 0) = (F : Int) from hF]
      show jWp 84 9 [some (jO t), some (jI y), some (jI (j : Int))] [jI (F : Int), jI (j : Int)] 0 0 w _
      refine jWp.icmp (pc' := 12) mt rfl rfl (b32_id (by omega) (by omega)) (b32_id (by omega) (by omega)) (fun h3 => ?_) (fun h3 => ?_)
      · have h3 : (F : Int) ≤ (j : Int) := h3
        refine jWp.blk mt 1 ?_
        show jWp 84 39 [some (jO t), some (jI y), some (jI (j : Int))] [jI y] 0 0 w _
        refine jWp.ireti mt rfl ⟨rfl, rfl⟩ rfl ?_
        exact ⟨by rw [hy, show j = F by omega], rfl⟩
      · have h3 : (j : Int) < (F : Int) := h3
        refine jWp.blk mt 2 ?_
        show jWp 84 15 [some (jO t), some (jI y), some (jI (j : Int))] [jI 72, jI (j : Int)] 0 0 w _
        refine jWp.icmp (pc' := 18) mt rfl rfl (b32_id (by omega) (by omega)) (show b32 72 = 72 by decide) (fun h4 => ?_) (fun h4 => ?_)
        · have h4 : 72 ≤ (j : Int) := h4
          refine jWp.blk mt 1 ?_
          show jWp 84 39 [some (jO t), some (jI y), some (jI (j : Int))] [jI y] 0 0 w _
          refine jWp.ireti mt rfl ⟨rfl, rfl⟩ rfl ?_
          exact ⟨by rw [hy, show j = F by omega], rfl⟩
        · have h4 : (j : Int) < 72 := h4
          refine jWp.blk mt 1 ?_
          show _ ∧ jWp 84 19 [some (jO t), some (jI y), some (jI (j : Int))] [jO t] 0 0 w _
          refine ⟨rfl, ?_⟩
          refine jWp.getR (pc' := 22) (o := tl) mt rfl rfl (jtg hk8) hrl ?_
          show jWp 84 22 [some (jO t), some (jI y), some (jI (j : Int))] [jO tl] 0 0 w _
          refine jWp.blk mt 1 ?_
          show jWp 84 23 [some (jO t), some (jI y), some (jI (j : Int))] [jI (j : Int), jO tl] 0 0 w _
          refine jWp.iald (pc' := 24) (j := j) mt rfl rfl (jird_of hkl) (b32_id (by omega) (by omega)) (jlt hkl (by omega)) ?_
          rw [show (w.1 tl j) = (τ j) from (congrFun hτ _)]
          show jWp 84 24 [some (jO t), some (jI y), some (jI (j : Int))] [jI (τ j)] 0 0 w _
          refine jWp.blk mt 1 ?_
          show jWp 84 26 [some (jO t), some (jI y), some (jI (j : Int))] [jI 59, jI (τ j)] 0 0 w _
          refine jWp.icmp (pc' := 29) mt rfl rfl (b32_id (by omega) (by omega)) (show b32 59 = 59 by decide) (fun h5 => ?_) (fun h5 => ?_)
          · have h5 : (τ j) ≠ 59 := h5
            refine jWp.blk mt 2 ?_
            show jWp 84 4 [some (jO t), some (jI y), some (jI ((j : Int) + 1))] [] 0 0 w _
            refine jWp.le (l := [some (jO t), some (jI y), some (jI ((j : Int) + 1))]) (by exact ⟨rfl, rfl, rfl, trivial⟩) ?_
            exact ih2 (j + 1) _ (by omega) (by rw [hy]; first | (rw [zct_t (by omega)]; done) | (rw [zct_f (by omega), Int.add_zero]; done)) (by omega)
          · have h5 : (τ j) = 59 := h5
            refine jWp.blk mt 3 ?_
            show jWp 84 4 [some (jO t), some (jI (y + 1)), some (jI ((j : Int) + 1))] [] 0 0 w _
            refine jWp.le (l := [some (jO t), some (jI (y + 1)), some (jI ((j : Int) + 1))]) (by exact ⟨rfl, rfl, rfl, trivial⟩) ?_
            exact ih2 (j + 1) _ (by omega) (by rw [hy]; first | (rw [zct_t (by omega)]; done) | (rw [zct_f (by omega), Int.add_zero]; done)) (by omega)
  refine jWp.le (l := [some (jO t), some (jI 0), some (jI 0)]) (by exact ⟨rfl, rfl, rfl, trivial⟩) ?_
  exact lp1 _ 0 0 (by omega) rfl (Nat.lt_succ_self _)
theorem zbh_n {τ : Nat → Int} {F p : Nat} : zbh τ F p ≤ ((p + 6 : Nat) : Int) := by
  rcases (show zbh τ F p < 0 ∨ 0 ≤ zbh τ F p by omega) with h | h
  · omega
  · obtain ⟨b, hb⟩ : ∃ b : Nat, zbh τ F p = (b : Int) := ⟨(zbh τ F p).toNat, by omega⟩
    have := zbh_c hb
    omega
set_option maxHeartbeats 4000000 in
set_option maxRecDepth 20000 in
theorem C_misplaced {w : jS} {t tl F : Nat} {τ : Nat → Int} (hk8 : w.2.1 t = (8, 0)) (hkl : w.2.1 tl = (100, 72)) (hrl : w.2.2.1 t 1 = some tl) (hF : w.1 t 0 = (F : Int)) (hF72 : F ≤ 72) (hτ : w.1 tl = τ) (hL : ∀ j, j < F → 0 ≤ τ j ∧ τ j ≤ 255) : jCall 82 [jO t] w (fun v w1 => w1 = w ∧ ((zw1 τ F 73 0 0) < 0 → v = some (jI (-1 - (zw1 τ F 73 0 0)))) ∧ (0 ≤ (zw1 τ F 73 0 0) → v = some (jI (-1)))) := by
  have mt : jtb 82 = jT82 := rfl
  show jWp 82 0 [some (jO t), none, none, none] [] 0 0 w _
  refine jWp.blk mt 4 ?_
  show jWp 82 4 [some (jO t), some (jI 0), some (jI 0), none] [] 0 0 w _
  have lp1 : ∀ (N : Nat) (i p : Nat) (hi : i ≤ p ∧ (p = 0 ∨ p < F)) (hr : zw1 τ F (73 - i) p i = (zw1 τ F 73 0 0)), 80 - i < N → jWp 82 4 [some (jO t), some (jI (p : Int)), some (jI (i : Int)), none] [] 0 0 w (fun v w1 => w1 = w ∧ ((zw1 τ F 73 0 0) < 0 → v = some (jI (-1 - (zw1 τ F 73 0 0)))) ∧ (0 ≤ (zw1 τ F 73 0 0) → v = some (jI (-1)))) := by
    intro N
    induction N with
    | zero => intro i p hi hr hm; omega
    | succ N ih2 =>
      intro i p hi hr hm
      refine jWp.blk mt 2 ?_
      show jWp 82 7 [some (jO t), some (jI (p : Int)), some (jI (i : Int)), none] [jI 72, jI (i : Int)] 0 0 w _
      refine jWp.icmp (pc' := 10) mt rfl rfl (b32_id (by omega) (by omega)) (show b32 72 = 72 by decide) (fun h3 => ?_) (fun h3 => ?_)
      · have h3 : 72 < (i : Int) := h3
        refine jWp.blk mt 1 ?_
        show jWp 82 43 [some (jO t), some (jI (p : Int)), some (jI (i : Int)), none] [jI (p : Int)] 0 0 w _
        refine jWp.ireti mt rfl ⟨rfl, rfl⟩ rfl ?_
        exfalso; omega
      · have h3 : (i : Int) ≤ 72 := h3
        refine jWp.blk mt 2 ?_
        show _ ∧ jWp 82 12 [some (jO t), some (jI (p : Int)), some (jI (i : Int)), none] [jI (p : Int), jO t] 0 0 w _
        refine ⟨rfl, ?_⟩
        refine jWp.callv (as := [jO t, jI (p : Int)]) (rest := []) mt rfl rfl rfl ⟨rfl, jtg hk8⟩ ?_
        refine jCall.mono (C_behind (w := w) hk8 hkl hrl hF hF72 hτ hL (p := p) (by omega)) (fun v9 w9 h9 => ?_)
        obtain ⟨rfl, h9⟩ := h9
        subst w9
        show jWp 82 15 [some (jO t), some (jI (p : Int)), some (jI (i : Int)), none] [jI (zbh τ F p)] 0 0 w _
        refine jWp.blk mt 2 ?_
        show jWp 82 17 [some (jO t), some (jI (p : Int)), some (jI (i : Int)), some (jI (zbh τ F p))] [jI (zbh τ F p)] 0 0 w _
        refine jWp.ifz (pc' := 20) mt rfl rfl (b32_id (by have := zbh_p (τ := τ) (F := F) (p := p); omega) (by have := zbh_n (τ := τ) (F := F) (p := p); omega)) (fun h4 => ?_) (fun h4 => ?_)
        · have h4 : 0 ≤ (zbh τ F p) := h4
          refine jWp.blk mt 2 ?_
          show _ ∧ jWp 82 26 [some (jO t), some (jI (p : Int)), some (jI (i : Int)), some (jI (zbh τ F p))] [jO t, jI (zbh τ F p)] 0 0 w _
          refine ⟨rfl, ?_⟩
          refine jWp.getI (pc' := 29) mt rfl rfl (jtg hk8) ?_
          rw [show (w.1 t 0) = (F : Int) from hF]
          show jWp 82 29 [some (jO t), some (jI (p : Int)), some (jI (i : Int)), some (jI (zbh τ F p))] [jI (F : Int), jI (zbh τ F p)] 0 0 w _
          refine jWp.icmp (pc' := 32) mt rfl rfl (b32_id (by have := zbh_p (τ := τ) (F := F) (p := p); omega) (by have := zbh_n (τ := τ) (F := F) (p := p); omega)) (b32_id (by omega) (by omega)) (fun h5 => ?_) (fun h5 => ?_)
          · have h5 : (zbh τ F p) < (F : Int) := h5
            refine jWp.blk mt 4 ?_
            show jWp 82 4 [some (jO t), some (jI (zbh τ F p)), some (jI ((i : Int) + 1)), some (jI (zbh τ F p))] [] 0 0 w _
            obtain ⟨b8, hb8⟩ : ∃ b : Nat, zbh τ F p = (b : Int) := ⟨(zbh τ F p).toNat, by omega⟩
            have hc8 := zbh_c hb8
            rw [hb8]
            refine jWp.le (l := [some (jO t), some (jI (b8 : Int)), some (jI ((i : Int) + 1)), none]) (by exact ⟨rfl, rfl, rfl, trivial⟩) ?_
            exact ih2 (i + 1) b8 (by omega) (by rw [← hr, show 73 - i = (73 - (i + 1)) + 1 by omega, zw1_g hb8 (by omega)]) (by omega)
          · have h5 : (F : Int) ≤ (zbh τ F p) := h5
            refine jWp.blk mt 1 ?_
            show jWp 82 33 [some (jO t), some (jI (p : Int)), some (jI (i : Int)), some (jI (zbh τ F p))] [jI (-1)] 0 0 w _
            refine jWp.ireti mt rfl ⟨rfl, rfl⟩ rfl ?_
            refine ⟨rfl, fun g => ?_, fun g => rfl⟩
            exfalso
            obtain ⟨b9, hb9⟩ : ∃ b : Nat, zbh τ F p = (b : Int) := ⟨(zbh τ F p).toNat, by omega⟩
            rw [← hr, show 73 - i = (72 - i) + 1 by omega, zw1_e hb9 (by omega)] at g
            omega
        · have h4 : (zbh τ F p) < 0 := h4
          refine jWp.blk mt 3 ?_
          show jWp 82 23 [some (jO t), some (jI (p : Int)), some (jI (i : Int)), some (jI (zbh τ F p))] [jI ((-1) - (zbh τ F p))] 0 0 w _
          refine jWp.ireti mt rfl ⟨rfl, rfl⟩ rfl ?_
          refine ⟨rfl, fun g => ?_, fun g => ?_⟩
          · rw [← hr, show 73 - i = (72 - i) + 1 by omega, zw1_n (by omega)]
          · exfalso
            rw [← hr, show 73 - i = (72 - i) + 1 by omega, zw1_n (by omega)] at g
            omega
  refine jWp.le (l := [some (jO t), some (jI 0), some (jI 0), none]) (by exact ⟨rfl, rfl, rfl, trivial⟩) ?_
  exact lp1 _ 0 0 (by omega) rfl (Nat.lt_succ_self _)
set_option maxHeartbeats 4000000 in
set_option maxRecDepth 20000 in
theorem C_add {w : jS} {t tl F : Nat} (hk8 : w.2.1 t = (8, 0)) (hkl : w.2.1 tl = (100, 72)) (hrl : w.2.2.1 t 1 = some tl) (hF : w.1 t 0 = (F : Int)) (hF72 : F ≤ 72) {c : Int} : jCall 80 [jO t, jI c] w (fun v w1 => (F < 72 → v = some (jI 1) ∧ w1 = jW (jW w tl F c) t 0 ((F : Int) + 1)) ∧ (F = 72 → v = some (jI 0) ∧ w1 = w)) := by
  have mt : jtb 80 = jT80 := rfl
  have hnt : t ≠ tl := kne hk8 hkl (by decide)
  show jWp 80 0 [some (jO t), some (jI c)] [] 0 0 w _
  refine jWp.blk mt 1 ?_
  show _ ∧ jWp 80 1 [some (jO t), some (jI c)] [jO t] 0 0 w _
  refine ⟨rfl, ?_⟩
  refine jWp.getI (pc' := 4) mt rfl rfl (jtg hk8) ?_
  rw [show (w.1 t 0) = (F : Int) from hF]
  show jWp 80 4 [some (jO t), some (jI c)] [jI (F : Int)] 0 0 w _
  refine jWp.ifz (pc' := 7) mt rfl rfl (b32_id (by omega) (by omega)) (fun h1 => ?_) (fun h1 => ?_)
  · have h1 : (F : Int) < 0 := h1
    refine jWp.blk mt 1 ?_
    show jWp 80 17 [some (jO t), some (jI c)] [jI 0] 0 0 w _
    refine jWp.iretz mt rfl ⟨rfl, rfl⟩ rfl (Or.inl rfl) ?_
    exact ⟨fun g => by exfalso; omega, fun g => ⟨rfl, rfl⟩⟩
  · have h1 : 0 ≤ (F : Int) := h1
    refine jWp.blk mt 1 ?_
    show _ ∧ jWp 80 8 [some (jO t), some (jI c)] [jO t] 0 0 w _
    refine ⟨rfl, ?_⟩
    refine jWp.getI (pc' := 11) mt rfl rfl (jtg hk8) ?_
    rw [show (w.1 t 0) = (F : Int) from hF]
    show jWp 80 11 [some (jO t), some (jI c)] [jI (F : Int)] 0 0 w _
    refine jWp.blk mt 1 ?_
    show jWp 80 13 [some (jO t), some (jI c)] [jI 72, jI (F : Int)] 0 0 w _
    refine jWp.icmp (pc' := 16) mt rfl rfl (b32_id (by omega) (by omega)) (show b32 72 = 72 by decide) (fun h2 => ?_) (fun h2 => ?_)
    · have h2 : (F : Int) < 72 := h2
      refine jWp.blk mt 1 ?_
      show _ ∧ jWp 80 19 [some (jO t), some (jI c)] [jO t] 0 0 w _
      refine ⟨rfl, ?_⟩
      refine jWp.getR (pc' := 22) (o := tl) mt rfl rfl (jtg hk8) hrl ?_
      show jWp 80 22 [some (jO t), some (jI c)] [jO tl] 0 0 w _
      refine jWp.blk mt 1 ?_
      show _ ∧ jWp 80 23 [some (jO t), some (jI c)] [jO t, jO tl] 0 0 w _
      refine ⟨rfl, ?_⟩
      refine jWp.getI (pc' := 26) mt rfl rfl (jtg hk8) ?_
      rw [show (w.1 t 0) = (F : Int) from hF]
      show jWp 80 26 [some (jO t), some (jI c)] [jI (F : Int), jO tl] 0 0 w _
      refine jWp.blk mt 1 ?_
      show jWp 80 27 [some (jO t), some (jI c)] [jI c, jI (F : Int), jO tl] 0 0 w _
      refine jWp.iast (pc' := 28) (j := F) mt rfl rfl (jtg hkl) (b32_id (by omega) (by omega)) (jlt hkl (by omega)) ?_
      show jWp 80 28 [some (jO t), some (jI c)] [] 0 0 (jW w tl F c) _
      refine jWp.blk mt 2 ?_
      show _ ∧ _ ∧ jWp 80 30 [some (jO t), some (jI c)] [jO t, jO t] 0 0 (jW w tl F c) _
      refine ⟨rfl, rfl, ?_⟩
      refine jWp.getI (pc' := 33) mt rfl rfl (jtg hk8) ?_
      rw [show ((jW w tl F c).1 t 0) = (F : Int) from (((jW_a (by omega)).trans rfl).trans hF)]
      show jWp 80 33 [some (jO t), some (jI c)] [jI (F : Int), jO t] 0 0 (jW w tl F c) _
      refine jWp.blk mt 2 ?_
      show jWp 80 35 [some (jO t), some (jI c)] [jI ((F : Int) + 1), jO t] 0 0 (jW w tl F c) _
      refine jWp.putI (pc' := 38) mt rfl rfl (jtg hk8) ?_
      show jWp 80 38 [some (jO t), some (jI c)] [] 0 0 (jW (jW w tl F c) t 0 ((F : Int) + 1)) _
      refine jWp.blk mt 1 ?_
      show jWp 80 39 [some (jO t), some (jI c)] [jI 1] 0 0 (jW (jW w tl F c) t 0 ((F : Int) + 1)) _
      refine jWp.iretz mt rfl ⟨rfl, rfl⟩ rfl (Or.inr rfl) ?_
      exact ⟨fun g => ⟨rfl, rfl⟩, fun g => by exfalso; omega⟩
    · have h2 : 72 ≤ (F : Int) := h2
      refine jWp.blk mt 1 ?_
      show jWp 80 17 [some (jO t), some (jI c)] [jI 0] 0 0 w _
      refine jWp.iretz mt rfl ⟨rfl, rfl⟩ rfl (Or.inl rfl) ?_
      exact ⟨fun g => by exfalso; omega, fun g => ⟨rfl, rfl⟩⟩
end
section
def zNo : (Nat → Int) → Prop := fun _ => False
theorem zG_no : zG zNo := ⟨fun _ _ _ h => h.elim, fun _ _ _ _ _ _ h => h.elim, fun _ _ _ h => h.elim, fun _ _ _ h => h.elim, fun _ _ _ h => h.elim⟩
/-- an exchange in a walk: of a letter that may not be there -/
theorem C_makeW {w : jS} {s sc e f1 f2 n : Nat} {q : Nat → Int} (hks : w.2.1 s = (6, 0)) (hkc : w.2.1 sc = (100, 44)) (hrc : w.2.2.1 s 1 = some sc) (hn0 : w.1 s 0 = (n : Int)) (hke : w.2.1 e = (1, 0)) (hr1 : w.2.2.1 e 0 = some f1) (hr2 : w.2.2.1 e 1 = some f2) (hk1 : w.2.1 f1 = (2, 0)) (hk2 : w.2.1 f2 = (2, 0)) (hff : f1 ≠ f2) (hQ : zQ q n) (hRR : cR False (w.1 sc) q n) {k : Int} (hrk : r32 k) : jCall 1 [jO e, jO s, jI k] w (fun v w1 => ((0 ≤ k ∧ k < (n : Int)) ∧ (w1.2 = w.2 ∧ ∀ a, a ≠ f1 → a ≠ f2 → a ≠ sc → w1.1 a = w.1 a) ∧ ((v = some (jI 1) ∧ zcan q n k.toNat ∧ cR False (w1.1 sc) (zxF q n k.toNat) n) ∨ (v = some (jI 0) ∧ ¬ zcan q n k.toNat ∧ w1.1 sc = w.1 sc))) ∨ (¬ (0 ≤ k ∧ k < (n : Int)) ∧ v = some (jI 0) ∧ w1 = w)) := by
  by_cases h : 0 ≤ k ∧ k < (n : Int)
  · have e0 : ((k.toNat : Nat) : Int) = k := by omega
    have g := C_make (w := w) (s := s) (sc := sc) (e := e) (f1 := f1) (f2 := f2) (n := n) (k := k.toNat) (q := q) (g := False) (G := zNo) hks hkc hrc hn0 hQ.S.n4 hke hr1 hr2 hk1 hk2 hff zG_no (fun x => x.elim) hQ hRR (by omega)
    rw [e0] at g
    exact jCall.mono g (fun v w1 x => Or.inl ⟨h, x⟩)
  · exact jCall.mono (C_make_no hks hkc hrc hn0 hQ.S.n4 hke hr1 hr2 hk1 hk2 hff hrk h) (fun v w1 x => Or.inr ⟨h, x⟩)
set_option maxHeartbeats 4000000 in
set_option maxRecDepth 20000 in
theorem C_done {w : jS} {t tl F p : Nat} {τ : Nat → Int} (hk8 : w.2.1 t = (8, 0)) (hkl : w.2.1 tl = (100, 72)) (hrl : w.2.2.1 t 1 = some tl) (hF : w.1 t 0 = (F : Int)) (hF72 : F ≤ 72) (hτ : w.1 tl = τ) (hL : ∀ j, j < F → 0 ≤ τ j ∧ τ j ≤ 255) {s sc e f1 f2 n : Nat} {q : Nat → Int} (hks : w.2.1 s = (6, 0)) (hkc : w.2.1 sc = (100, 44)) (hrc : w.2.2.1 s 1 = some sc) (hn0 : w.1 s 0 = (n : Int)) (hke : w.2.1 e = (1, 0)) (hr1 : w.2.2.1 e 0 = some f1) (hr2 : w.2.2.1 e 1 = some f2) (hk1 : w.2.1 f1 = (2, 0)) (hk2 : w.2.1 f2 = (2, 0)) (hff : f1 ≠ f2) (hQ : zQ q n) (hRR : cR False (w.1 sc) q n) (hb0 : 0 ≤ zbh τ F p) (hp : p ≤ 100) : jCall 87 [jO t, jI (p : Int), jO s, jO e] w (fun v w1 => (w1.2 = w.2 ∧ ∀ a, a ≠ s → a ≠ sc → a ≠ f1 → a ≠ f2 → w1.1 a = w.1 a) ∧ ((v = some (jI 1) ∧ ∃ q2 n2, zdo (zlt τ F p) (zfg (zlt τ F (p + 1))) (zfg (zlt τ F (p + 2))) (znm τ F (p + 3)) q = some q2 ∧ zQ q2 n2 ∧ w1.1 s 0 = ((n2 : Nat) : Int) ∧ cR False (w1.1 sc) q2 n2) ∨ (v = some (jI 0) ∧ zdo (zlt τ F p) (zfg (zlt τ F (p + 1))) (zfg (zlt τ F (p + 2))) (znm τ F (p + 3)) q = none))) := by
  have mt : jtb 87 = jT87 := rfl
  have hsc : s ≠ sc := kne hks hkc (by decide)
  have h1s : f1 ≠ s := kne hk1 hks (by decide)
  have h1c : f1 ≠ sc := kne hk1 hkc (by decide)
  have h2s : f2 ≠ s := kne hk2 hks (by decide)
  have h2c : f2 ≠ sc := kne hk2 hkc (by decide)
  have hn1 := hQ.S.n0
  have hn4 := hQ.S.n4
  have hcd : zlt τ F p = 110 ∨ zlt τ F p = 109 ∨ zlt τ F p = 115 ∨ zlt τ F p = 119 ∨ zlt τ F p = 98 := zbh_cd hb0
  have hfb1 := zfg_b (zlt τ F (p + 1))
  have hfb2 := zfg_b (zlt τ F (p + 2))
  have hnb := znm_b τ F (p + 3)
  show jWp 87 0 [some (jO t), some (jI (p : Int)), some (jO s), some (jO e), none, none] [] 0 0 w _
  refine jWp.blk mt 4 ?_
  show _ ∧ jWp 87 4 [some (jO t), some (jI (p : Int)), some (jO s), some (jO e), none, none] [jI ((p : Int) + 1), jO t] 0 0 w _
  refine ⟨rfl, ?_⟩
  refine jWp.callv (as := [jO t, jI ((p : Int) + 1)]) (rest := []) mt rfl rfl rfl ⟨rfl, jtg hk8⟩ ?_
  refine jCall.mono (C_digitAt (w := w) hk8 hkl hrl hF hF72 hτ hL (p := (p + 1)) (by omega) (by omega)) (fun v9 w9 h9 => ?_)
  obtain ⟨rfl, h9⟩ := h9
  subst w9
  show jWp 87 7 [some (jO t), some (jI (p : Int)), some (jO s), some (jO e), none, none] [jI (zfg (zlt τ F (p + 1)))] 0 0 w _
  refine jWp.blk mt 5 ?_
  show _ ∧ jWp 87 13 [some (jO t), some (jI (p : Int)), some (jO s), some (jO e), some (jI (zfg (zlt τ F (p + 1)))), none] [jI ((p : Int) + 2), jO t] 0 0 w _
  refine ⟨rfl, ?_⟩
  refine jWp.callv (as := [jO t, jI ((p : Int) + 2)]) (rest := []) mt rfl rfl rfl ⟨rfl, jtg hk8⟩ ?_
  refine jCall.mono (C_digitAt (w := w) hk8 hkl hrl hF hF72 hτ hL (p := (p + 2)) (by omega) (by omega)) (fun v9 w9 h9 => ?_)
  obtain ⟨rfl, h9⟩ := h9
  subst w9
  show jWp 87 16 [some (jO t), some (jI (p : Int)), some (jO s), some (jO e), some (jI (zfg (zlt τ F (p + 1)))), none] [jI (zfg (zlt τ F (p + 2)))] 0 0 w _
  refine jWp.blk mt 3 ?_
  show _ ∧ jWp 87 20 [some (jO t), some (jI (p : Int)), some (jO s), some (jO e), some (jI (zfg (zlt τ F (p + 1)))), some (jI (zfg (zlt τ F (p + 2))))] [jI (p : Int), jO t] 0 0 w _
  refine ⟨rfl, ?_⟩
  refine jWp.callv (as := [jO t, jI (p : Int)]) (rest := []) mt rfl rfl rfl ⟨rfl, jtg hk8⟩ ?_
  refine jCall.mono (C_letterAt (w := w) hk8 hkl hrl hF hF72 hτ hL (p := p) (by omega) (by omega)) (fun v9 w9 h9 => ?_)
  obtain ⟨rfl, h9⟩ := h9
  subst w9
  show jWp 87 23 [some (jO t), some (jI (p : Int)), some (jO s), some (jO e), some (jI (zfg (zlt τ F (p + 1)))), some (jI (zfg (zlt τ F (p + 2))))] [jI (zlt τ F p)] 0 0 w _
  refine jWp.sw mt rfl (Or.inr ⟨_, _, rfl⟩) (b32_id (by have := zlt_b hL p; omega) (by have := zlt_b hL p; omega)) ?_
  show jWp 87 (jsw [(109, 71), (110, 64), (115, 79), (119, 88)] 97 (zlt τ F p)) [some (jO t), some (jI (p : Int)), some (jO s), some (jO e), some (jI (zfg (zlt τ F (p + 1)))), some (jI (zfg (zlt τ F (p + 2))))] [] 0 0 w _
  unfold jsw; by_cases h1 : 109 = (zlt τ F p)
  · rw [if_pos h1]
    refine jWp.blk mt 3 ?_
    show _ ∧ _ ∧ jWp 87 75 [some (jO t), some (jI (p : Int)), some (jO s), some (jO e), some (jI (zfg (zlt τ F (p + 1)))), some (jI (zfg (zlt τ F (p + 2))))] [jI (zfg (zlt τ F (p + 1))), jO s, jO e] 0 0 w _
    refine ⟨rfl, rfl, ?_⟩
    refine jWp.callv (as := [jO e, jO s, jI (zfg (zlt τ F (p + 1)))]) (rest := []) mt rfl rfl rfl ⟨rfl, jtg hke⟩ ?_
    refine jCall.mono (C_makeW (w := w) (n := n) (q := q) hks hkc hrc hn0 hke hr1 hr2 hk1 hk2 hff hQ hRR (k := (zfg (zlt τ F (p + 1)))) (by constructor <;> omega)) (fun v9 w9 h9 => ?_)
    rcases h9 with ⟨hk9, hfr, hh⟩ | ⟨hk9, rfl, h9⟩
    · obtain ⟨M1, G9⟩ := w9
      have hg : G9 = w.2 := hfr.1
      subst hg
      rcases hh with ⟨rfl, hcan, hcr⟩ | ⟨rfl, hcan, hcr⟩
      · have hcr' := hcr
        show jWp 87 78 [some (jO t), some (jI (p : Int)), some (jO s), some (jO e), some (jI (zfg (zlt τ F (p + 1)))), some (jI (zfg (zlt τ F (p + 2))))] [jI 1] 0 0 (M1, w.2) _
        refine jWp.iretz mt rfl ⟨rfl, rfl⟩ rfl (Or.inr rfl) ?_
        first
        | (have ec : zlt τ F p = 110 := by omega
           refine ⟨⟨rfl, fun a g1 g2 g3 g4 => hfr.2 a g1 g2⟩, Or.inl ⟨rfl, zNw (zfg (zlt τ F (p + 1))).toNat, (zfg (zlt τ F (p + 1))).toNat, ?_, zQ_new (by omega) (by omega), hz0.trans (by omega), hcr False⟩⟩
           rw [ec]; exact zdo_n.trans (if_pos hc9))
        | (have ec : zlt τ F p = 109 := by omega
           refine ⟨⟨rfl, fun a g1 g2 g3 g4 => hfr.2 a g3 g4 g2⟩, Or.inl ⟨rfl, _, n, ?_, zQ_x hQ (by omega) hcan, (congrFun (hfr.2 s h1s.symm h2s.symm hsc) 0).trans hn0, hcr⟩⟩
           rw [ec, zdo_m (by omega), hn1, show ((n : Int)).toNat = n from rfl]; exact if_pos hcan)
        | (have ec : zlt τ F p = 115 := by omega
           refine ⟨⟨rfl, fun a g1 g2 g3 g4 => hfr.2 a g2⟩, Or.inl ⟨rfl, _, n, ?_, zQ_st hQ (by omega) hc9.2, (congrFun (hfr.2 s hsc) 0).trans hn0, hcr⟩⟩
           rw [ec]; exact (zdo_s (by omega)).trans (if_pos (by omega)))
        | (have ec : zlt τ F p = 119 := by omega
           refine ⟨⟨rfl, fun a g1 g2 g3 g4 => hfr.2 a g2⟩, Or.inl ⟨rfl, _, n, ?_, zQ_sw hQ (by omega) (by omega), (congrFun (hfr.2 s hsc) 0).trans hn0, hcr⟩⟩
           rw [ec]; exact zdo_w (by omega) (by omega))
        | (have ec : zlt τ F p = 98 := by omega
           refine ⟨⟨rfl, fun a g1 g2 g3 g4 => hfr.2 a g2⟩, Or.inl ⟨rfl, _, n, ?_, zQ_tb hQ (by omega) (by omega) (by omega) (by omega), (congrFun (hfr.2 s hsc) 0).trans hn0, hcr⟩⟩
           rw [ec]; exact zdo_b (by omega) (by omega))
      · have hcr' := hcr
        show jWp 87 78 [some (jO t), some (jI (p : Int)), some (jO s), some (jO e), some (jI (zfg (zlt τ F (p + 1)))), some (jI (zfg (zlt τ F (p + 2))))] [jI 0] 0 0 (M1, w.2) _
        refine jWp.iretz mt rfl ⟨rfl, rfl⟩ rfl (Or.inl rfl) ?_
        have ec : zlt τ F p = 109 := by omega
        refine ⟨⟨rfl, fun a g1 g2 g3 g4 => hfr.2 a g3 g4 g2⟩, Or.inr ⟨rfl, ?_⟩⟩
        rw [ec, zdo_m (by omega), hn1, show ((n : Int)).toNat = n from rfl]
        exact if_neg hcan
    · subst w9
      show jWp 87 78 [some (jO t), some (jI (p : Int)), some (jO s), some (jO e), some (jI (zfg (zlt τ F (p + 1)))), some (jI (zfg (zlt τ F (p + 2))))] [jI 0] 0 0 w _
      refine jWp.iretz mt rfl ⟨rfl, rfl⟩ rfl (Or.inl rfl) ?_
      refine ⟨⟨rfl, fun _ _ _ _ _ => rfl⟩, Or.inr ⟨rfl, ?_⟩⟩
      by_cases ei : 0 ≤ (zfg (zlt τ F (p + 1))) ∧ (zfg (zlt τ F (p + 1))) < q 0
      · first
        | (have ec : zlt τ F p = 110 := by omega
           rw [ec]; exact zdo_n.trans (if_neg hc9))
        | (exfalso; omega)
        | (have ec : zlt τ F p = 115 := by omega
           rw [ec]; exact (zdo_s ei).trans (if_neg (by omega)))
        | (have ec : zlt τ F p = 119 := by omega
           rw [ec]; exact zdo_j (by decide) (by decide) (by decide) ei (by omega))
        | (have ec : zlt τ F p = 98 := by omega
           rw [ec]; exact zdo_j (by decide) (by decide) (by decide) ei (by omega))
      · first
        | (have ec : zlt τ F p = 110 := by omega
           rw [ec]; exact zdo_n.trans (if_neg hc9))
        | exact zdo_i (by omega) ei
  · rw [if_neg h1]
    unfold jsw; by_cases h2 : 110 = (zlt τ F p)
    · rw [if_pos h2]
      refine jWp.blk mt 2 ?_
      show _ ∧ jWp 87 67 [some (jO t), some (jI (p : Int)), some (jO s), some (jO e), some (jI (zfg (zlt τ F (p + 1)))), some (jI (zfg (zlt τ F (p + 2))))] [jI (zfg (zlt τ F (p + 1))), jO s] 0 0 w _
      refine ⟨rfl, ?_⟩
      refine jWp.callv (as := [jO s, jI (zfg (zlt τ F (p + 1)))]) (rest := []) mt rfl rfl rfl ⟨rfl, jtg hks⟩ ?_
      refine jCall.mono (C_clear (w := w) hks hkc hrc (l := (zfg (zlt τ F (p + 1)))) (by constructor <;> omega)) (fun v9 w9 h9 => ?_)
      obtain ⟨hA, hB⟩ := h9
      by_cases hc9 : 2 ≤ (zfg (zlt τ F (p + 1))) ∧ (zfg (zlt τ F (p + 1))) ≤ 4
      · obtain ⟨rfl, hfr, hz0, hcr⟩ := hA hc9
        obtain ⟨M1, G9⟩ := w9
        have hg : G9 = w.2 := hfr.1
        subst hg
        show jWp 87 70 [some (jO t), some (jI (p : Int)), some (jO s), some (jO e), some (jI (zfg (zlt τ F (p + 1)))), some (jI (zfg (zlt τ F (p + 2))))] [jI 1] 0 0 (M1, w.2) _
        refine jWp.iretz mt rfl ⟨rfl, rfl⟩ rfl (Or.inr rfl) ?_
        first
        | (have ec : zlt τ F p = 110 := by omega
           refine ⟨⟨rfl, fun a g1 g2 g3 g4 => hfr.2 a g1 g2⟩, Or.inl ⟨rfl, zNw (zfg (zlt τ F (p + 1))).toNat, (zfg (zlt τ F (p + 1))).toNat, ?_, zQ_new (by omega) (by omega), hz0.trans (by omega), hcr False⟩⟩
           rw [ec]; exact zdo_n.trans (if_pos hc9))
        | (have ec : zlt τ F p = 109 := by omega
           refine ⟨⟨rfl, fun a g1 g2 g3 g4 => hfr.2 a g3 g4 g2⟩, Or.inl ⟨rfl, _, n, ?_, zQ_x hQ (by omega) hcan, (congrFun (hfr.2 s h1s.symm h2s.symm hsc) 0).trans hn0, hcr⟩⟩
           rw [ec, zdo_m (by omega), hn1, show ((n : Int)).toNat = n from rfl]; exact if_pos hcan)
        | (have ec : zlt τ F p = 115 := by omega
           refine ⟨⟨rfl, fun a g1 g2 g3 g4 => hfr.2 a g2⟩, Or.inl ⟨rfl, _, n, ?_, zQ_st hQ (by omega) hc9.2, (congrFun (hfr.2 s hsc) 0).trans hn0, hcr⟩⟩
           rw [ec]; exact (zdo_s (by omega)).trans (if_pos (by omega)))
        | (have ec : zlt τ F p = 119 := by omega
           refine ⟨⟨rfl, fun a g1 g2 g3 g4 => hfr.2 a g2⟩, Or.inl ⟨rfl, _, n, ?_, zQ_sw hQ (by omega) (by omega), (congrFun (hfr.2 s hsc) 0).trans hn0, hcr⟩⟩
           rw [ec]; exact zdo_w (by omega) (by omega))
        | (have ec : zlt τ F p = 98 := by omega
           refine ⟨⟨rfl, fun a g1 g2 g3 g4 => hfr.2 a g2⟩, Or.inl ⟨rfl, _, n, ?_, zQ_tb hQ (by omega) (by omega) (by omega) (by omega), (congrFun (hfr.2 s hsc) 0).trans hn0, hcr⟩⟩
           rw [ec]; exact zdo_b (by omega) (by omega))
      · obtain ⟨rfl, h9⟩ := hB hc9
        subst w9
        show jWp 87 70 [some (jO t), some (jI (p : Int)), some (jO s), some (jO e), some (jI (zfg (zlt τ F (p + 1)))), some (jI (zfg (zlt τ F (p + 2))))] [jI 0] 0 0 w _
        refine jWp.iretz mt rfl ⟨rfl, rfl⟩ rfl (Or.inl rfl) ?_
        refine ⟨⟨rfl, fun _ _ _ _ _ => rfl⟩, Or.inr ⟨rfl, ?_⟩⟩
        by_cases ei : 0 ≤ (zfg (zlt τ F (p + 1))) ∧ (zfg (zlt τ F (p + 1))) < q 0
        · first
          | (have ec : zlt τ F p = 110 := by omega
             rw [ec]; exact zdo_n.trans (if_neg hc9))
          | (exfalso; omega)
          | (have ec : zlt τ F p = 115 := by omega
             rw [ec]; exact (zdo_s ei).trans (if_neg (by omega)))
          | (have ec : zlt τ F p = 119 := by omega
             rw [ec]; exact zdo_j (by decide) (by decide) (by decide) ei (by omega))
          | (have ec : zlt τ F p = 98 := by omega
             rw [ec]; exact zdo_j (by decide) (by decide) (by decide) ei (by omega))
        · first
          | (have ec : zlt τ F p = 110 := by omega
             rw [ec]; exact zdo_n.trans (if_neg hc9))
          | exact zdo_i (by omega) ei
    · rw [if_neg h2]
      unfold jsw; by_cases h3 : 115 = (zlt τ F p)
      · rw [if_pos h3]
        refine jWp.blk mt 3 ?_
        show _ ∧ jWp 87 84 [some (jO t), some (jI (p : Int)), some (jO s), some (jO e), some (jI (zfg (zlt τ F (p + 1)))), some (jI (zfg (zlt τ F (p + 2))))] [jI (zfg (zlt τ F (p + 2))), jI (zfg (zlt τ F (p + 1))), jO s] 0 0 w _
        refine ⟨rfl, ?_⟩
        refine jWp.callv (as := [jO s, jI (zfg (zlt τ F (p + 1))), jI (zfg (zlt τ F (p + 2)))]) (rest := []) mt rfl rfl rfl ⟨rfl, jtg hks⟩ ?_
        refine jCall.mono (C_tellFirst (w := w) (n := n) (q := q) (g := False) hks hkc hrc hn0 hQ.S.n4 hRR (i := (zfg (zlt τ F (p + 1)))) (j := (zfg (zlt τ F (p + 2)))) (by constructor <;> omega) (by constructor <;> omega)) (fun v9 w9 h9 => ?_)
        obtain ⟨hA, hB⟩ := h9
        by_cases hc9 : (0 ≤ (zfg (zlt τ F (p + 1))) ∧ (zfg (zlt τ F (p + 1))) < (n : Int)) ∧ 1 ≤ (zfg (zlt τ F (p + 2))) ∧ (zfg (zlt τ F (p + 2))) ≤ 9
        · obtain ⟨rfl, hfr, hcr⟩ := hA hc9
          obtain ⟨M1, G9⟩ := w9
          have hg : G9 = w.2 := hfr.1
          subst hg
          show jWp 87 87 [some (jO t), some (jI (p : Int)), some (jO s), some (jO e), some (jI (zfg (zlt τ F (p + 1)))), some (jI (zfg (zlt τ F (p + 2))))] [jI 1] 0 0 (M1, w.2) _
          refine jWp.iretz mt rfl ⟨rfl, rfl⟩ rfl (Or.inr rfl) ?_
          first
          | (have ec : zlt τ F p = 110 := by omega
             refine ⟨⟨rfl, fun a g1 g2 g3 g4 => hfr.2 a g1 g2⟩, Or.inl ⟨rfl, zNw (zfg (zlt τ F (p + 1))).toNat, (zfg (zlt τ F (p + 1))).toNat, ?_, zQ_new (by omega) (by omega), hz0.trans (by omega), hcr False⟩⟩
             rw [ec]; exact zdo_n.trans (if_pos hc9))
          | (have ec : zlt τ F p = 109 := by omega
             refine ⟨⟨rfl, fun a g1 g2 g3 g4 => hfr.2 a g3 g4 g2⟩, Or.inl ⟨rfl, _, n, ?_, zQ_x hQ (by omega) hcan, (congrFun (hfr.2 s h1s.symm h2s.symm hsc) 0).trans hn0, hcr⟩⟩
             rw [ec, zdo_m (by omega), hn1, show ((n : Int)).toNat = n from rfl]; exact if_pos hcan)
          | (have ec : zlt τ F p = 115 := by omega
             refine ⟨⟨rfl, fun a g1 g2 g3 g4 => hfr.2 a g2⟩, Or.inl ⟨rfl, _, n, ?_, zQ_st hQ (by omega) hc9.2, (congrFun (hfr.2 s hsc) 0).trans hn0, hcr⟩⟩
             rw [ec]; exact (zdo_s (by omega)).trans (if_pos (by omega)))
          | (have ec : zlt τ F p = 119 := by omega
             refine ⟨⟨rfl, fun a g1 g2 g3 g4 => hfr.2 a g2⟩, Or.inl ⟨rfl, _, n, ?_, zQ_sw hQ (by omega) (by omega), (congrFun (hfr.2 s hsc) 0).trans hn0, hcr⟩⟩
             rw [ec]; exact zdo_w (by omega) (by omega))
          | (have ec : zlt τ F p = 98 := by omega
             refine ⟨⟨rfl, fun a g1 g2 g3 g4 => hfr.2 a g2⟩, Or.inl ⟨rfl, _, n, ?_, zQ_tb hQ (by omega) (by omega) (by omega) (by omega), (congrFun (hfr.2 s hsc) 0).trans hn0, hcr⟩⟩
             rw [ec]; exact zdo_b (by omega) (by omega))
        · obtain ⟨rfl, h9⟩ := hB hc9
          subst w9
          show jWp 87 87 [some (jO t), some (jI (p : Int)), some (jO s), some (jO e), some (jI (zfg (zlt τ F (p + 1)))), some (jI (zfg (zlt τ F (p + 2))))] [jI 0] 0 0 w _
          refine jWp.iretz mt rfl ⟨rfl, rfl⟩ rfl (Or.inl rfl) ?_
          refine ⟨⟨rfl, fun _ _ _ _ _ => rfl⟩, Or.inr ⟨rfl, ?_⟩⟩
          by_cases ei : 0 ≤ (zfg (zlt τ F (p + 1))) ∧ (zfg (zlt τ F (p + 1))) < q 0
          · first
            | (have ec : zlt τ F p = 110 := by omega
               rw [ec]; exact zdo_n.trans (if_neg hc9))
            | (exfalso; omega)
            | (have ec : zlt τ F p = 115 := by omega
               rw [ec]; exact (zdo_s ei).trans (if_neg (by omega)))
            | (have ec : zlt τ F p = 119 := by omega
               rw [ec]; exact zdo_j (by decide) (by decide) (by decide) ei (by omega))
            | (have ec : zlt τ F p = 98 := by omega
               rw [ec]; exact zdo_j (by decide) (by decide) (by decide) ei (by omega))
          · first
            | (have ec : zlt τ F p = 110 := by omega
               rw [ec]; exact zdo_n.trans (if_neg hc9))
            | exact zdo_i (by omega) ei
      · rw [if_neg h3]
        unfold jsw; by_cases h4 : 119 = (zlt τ F p)
        · rw [if_pos h4]
          refine jWp.blk mt 3 ?_
          show _ ∧ jWp 87 93 [some (jO t), some (jI (p : Int)), some (jO s), some (jO e), some (jI (zfg (zlt τ F (p + 1)))), some (jI (zfg (zlt τ F (p + 2))))] [jI (zfg (zlt τ F (p + 2))), jI (zfg (zlt τ F (p + 1))), jO s] 0 0 w _
          refine ⟨rfl, ?_⟩
          refine jWp.callv (as := [jO s, jI (zfg (zlt τ F (p + 1))), jI (zfg (zlt τ F (p + 2)))]) (rest := []) mt rfl rfl rfl ⟨rfl, jtg hks⟩ ?_
          refine jCall.mono (C_places (w := w) (n := n) (q := q) (g := False) hks hkc hrc hn0 hQ.S.n4 hRR (i := (zfg (zlt τ F (p + 1)))) (j := (zfg (zlt τ F (p + 2)))) (by constructor <;> omega) (by constructor <;> omega)) (fun v9 w9 h9 => ?_)
          obtain ⟨hA, hB⟩ := h9
          by_cases hc9 : (0 ≤ (zfg (zlt τ F (p + 1))) ∧ (zfg (zlt τ F (p + 1))) < (n : Int)) ∧ (0 ≤ (zfg (zlt τ F (p + 2))) ∧ (zfg (zlt τ F (p + 2))) < (n : Int)) ∧ (zfg (zlt τ F (p + 1))) ≠ (zfg (zlt τ F (p + 2)))
          · obtain ⟨rfl, hfr, hcr⟩ := hA hc9
            obtain ⟨M1, G9⟩ := w9
            have hg : G9 = w.2 := hfr.1
            subst hg
            show jWp 87 96 [some (jO t), some (jI (p : Int)), some (jO s), some (jO e), some (jI (zfg (zlt τ F (p + 1)))), some (jI (zfg (zlt τ F (p + 2))))] [jI 1] 0 0 (M1, w.2) _
            refine jWp.iretz mt rfl ⟨rfl, rfl⟩ rfl (Or.inr rfl) ?_
            first
            | (have ec : zlt τ F p = 110 := by omega
               refine ⟨⟨rfl, fun a g1 g2 g3 g4 => hfr.2 a g1 g2⟩, Or.inl ⟨rfl, zNw (zfg (zlt τ F (p + 1))).toNat, (zfg (zlt τ F (p + 1))).toNat, ?_, zQ_new (by omega) (by omega), hz0.trans (by omega), hcr False⟩⟩
               rw [ec]; exact zdo_n.trans (if_pos hc9))
            | (have ec : zlt τ F p = 109 := by omega
               refine ⟨⟨rfl, fun a g1 g2 g3 g4 => hfr.2 a g3 g4 g2⟩, Or.inl ⟨rfl, _, n, ?_, zQ_x hQ (by omega) hcan, (congrFun (hfr.2 s h1s.symm h2s.symm hsc) 0).trans hn0, hcr⟩⟩
               rw [ec, zdo_m (by omega), hn1, show ((n : Int)).toNat = n from rfl]; exact if_pos hcan)
            | (have ec : zlt τ F p = 115 := by omega
               refine ⟨⟨rfl, fun a g1 g2 g3 g4 => hfr.2 a g2⟩, Or.inl ⟨rfl, _, n, ?_, zQ_st hQ (by omega) hc9.2, (congrFun (hfr.2 s hsc) 0).trans hn0, hcr⟩⟩
               rw [ec]; exact (zdo_s (by omega)).trans (if_pos (by omega)))
            | (have ec : zlt τ F p = 119 := by omega
               refine ⟨⟨rfl, fun a g1 g2 g3 g4 => hfr.2 a g2⟩, Or.inl ⟨rfl, _, n, ?_, zQ_sw hQ (by omega) (by omega), (congrFun (hfr.2 s hsc) 0).trans hn0, hcr⟩⟩
               rw [ec]; exact zdo_w (by omega) (by omega))
            | (have ec : zlt τ F p = 98 := by omega
               refine ⟨⟨rfl, fun a g1 g2 g3 g4 => hfr.2 a g2⟩, Or.inl ⟨rfl, _, n, ?_, zQ_tb hQ (by omega) (by omega) (by omega) (by omega), (congrFun (hfr.2 s hsc) 0).trans hn0, hcr⟩⟩
               rw [ec]; exact zdo_b (by omega) (by omega))
          · obtain ⟨rfl, h9⟩ := hB hc9
            subst w9
            show jWp 87 96 [some (jO t), some (jI (p : Int)), some (jO s), some (jO e), some (jI (zfg (zlt τ F (p + 1)))), some (jI (zfg (zlt τ F (p + 2))))] [jI 0] 0 0 w _
            refine jWp.iretz mt rfl ⟨rfl, rfl⟩ rfl (Or.inl rfl) ?_
            refine ⟨⟨rfl, fun _ _ _ _ _ => rfl⟩, Or.inr ⟨rfl, ?_⟩⟩
            by_cases ei : 0 ≤ (zfg (zlt τ F (p + 1))) ∧ (zfg (zlt τ F (p + 1))) < q 0
            · first
              | (have ec : zlt τ F p = 110 := by omega
                 rw [ec]; exact zdo_n.trans (if_neg hc9))
              | (exfalso; omega)
              | (have ec : zlt τ F p = 115 := by omega
                 rw [ec]; exact (zdo_s ei).trans (if_neg (by omega)))
              | (have ec : zlt τ F p = 119 := by omega
                 rw [ec]; exact zdo_j (by decide) (by decide) (by decide) ei (by omega))
              | (have ec : zlt τ F p = 98 := by omega
                 rw [ec]; exact zdo_j (by decide) (by decide) (by decide) ei (by omega))
            · first
              | (have ec : zlt τ F p = 110 := by omega
                 rw [ec]; exact zdo_n.trans (if_neg hc9))
              | exact zdo_i (by omega) ei
        · rw [if_neg h4]
          unfold jsw
          refine jWp.blk mt 7 ?_
          show _ ∧ _ ∧ jWp 87 106 [some (jO t), some (jI (p : Int)), some (jO s), some (jO e), some (jI (zfg (zlt τ F (p + 1)))), some (jI (zfg (zlt τ F (p + 2))))] [jI ((p : Int) + 3), jO t, jI (zfg (zlt τ F (p + 2))), jI (zfg (zlt τ F (p + 1))), jO s] 0 0 w _
          refine ⟨rfl, rfl, ?_⟩
          refine jWp.callv (as := [jO t, jI ((p : Int) + 3)]) (rest := [jI (zfg (zlt τ F (p + 2))), jI (zfg (zlt τ F (p + 1))), jO s]) mt rfl rfl rfl ⟨rfl, jtg hk8⟩ ?_
          refine jCall.mono (C_numberAt (w := w) hk8 hkl hrl hF hF72 hτ hL (p := (p + 3)) (by omega) (by omega)) (fun v9 w9 h9 => ?_)
          obtain ⟨rfl, h9⟩ := h9
          subst w9
          show jWp 87 109 [some (jO t), some (jI (p : Int)), some (jO s), some (jO e), some (jI (zfg (zlt τ F (p + 1)))), some (jI (zfg (zlt τ F (p + 2))))] [jI (znm τ F (p + 3)), jI (zfg (zlt τ F (p + 2))), jI (zfg (zlt τ F (p + 1))), jO s] 0 0 w _
          refine jWp.callv (as := [jO s, jI (zfg (zlt τ F (p + 1))), jI (zfg (zlt τ F (p + 2))), jI (znm τ F (p + 3))]) (rest := []) mt rfl rfl rfl ⟨rfl, jtg hks⟩ ?_
          refine jCall.mono (C_tellEntry (w := w) (n := n) (q := q) (g := False) hks hkc hrc hn0 hQ.S.n4 hRR (i := (zfg (zlt τ F (p + 1)))) (j := (zfg (zlt τ F (p + 2)))) (v := (znm τ F (p + 3))) (by constructor <;> omega) (by constructor <;> omega) (by constructor <;> omega)) (fun v9 w9 h9 => ?_)
          obtain ⟨hA, hB⟩ := h9
          by_cases hc9 : (0 ≤ (zfg (zlt τ F (p + 1))) ∧ (zfg (zlt τ F (p + 1))) < (n : Int)) ∧ (0 ≤ (zfg (zlt τ F (p + 2))) ∧ (zfg (zlt τ F (p + 2))) < (n : Int)) ∧ (zfg (zlt τ F (p + 1))) ≠ (zfg (zlt τ F (p + 2))) ∧ -9 ≤ (znm τ F (p + 3)) ∧ (znm τ F (p + 3)) ≤ 9
          · obtain ⟨rfl, hfr, hcr⟩ := hA hc9
            obtain ⟨M1, G9⟩ := w9
            have hg : G9 = w.2 := hfr.1
            subst hg
            show jWp 87 112 [some (jO t), some (jI (p : Int)), some (jO s), some (jO e), some (jI (zfg (zlt τ F (p + 1)))), some (jI (zfg (zlt τ F (p + 2))))] [jI 1] 0 0 (M1, w.2) _
            refine jWp.iretz mt rfl ⟨rfl, rfl⟩ rfl (Or.inr rfl) ?_
            first
            | (have ec : zlt τ F p = 110 := by omega
               refine ⟨⟨rfl, fun a g1 g2 g3 g4 => hfr.2 a g1 g2⟩, Or.inl ⟨rfl, zNw (zfg (zlt τ F (p + 1))).toNat, (zfg (zlt τ F (p + 1))).toNat, ?_, zQ_new (by omega) (by omega), hz0.trans (by omega), hcr False⟩⟩
               rw [ec]; exact zdo_n.trans (if_pos hc9))
            | (have ec : zlt τ F p = 109 := by omega
               refine ⟨⟨rfl, fun a g1 g2 g3 g4 => hfr.2 a g3 g4 g2⟩, Or.inl ⟨rfl, _, n, ?_, zQ_x hQ (by omega) hcan, (congrFun (hfr.2 s h1s.symm h2s.symm hsc) 0).trans hn0, hcr⟩⟩
               rw [ec, zdo_m (by omega), hn1, show ((n : Int)).toNat = n from rfl]; exact if_pos hcan)
            | (have ec : zlt τ F p = 115 := by omega
               refine ⟨⟨rfl, fun a g1 g2 g3 g4 => hfr.2 a g2⟩, Or.inl ⟨rfl, _, n, ?_, zQ_st hQ (by omega) hc9.2, (congrFun (hfr.2 s hsc) 0).trans hn0, hcr⟩⟩
               rw [ec]; exact (zdo_s (by omega)).trans (if_pos (by omega)))
            | (have ec : zlt τ F p = 119 := by omega
               refine ⟨⟨rfl, fun a g1 g2 g3 g4 => hfr.2 a g2⟩, Or.inl ⟨rfl, _, n, ?_, zQ_sw hQ (by omega) (by omega), (congrFun (hfr.2 s hsc) 0).trans hn0, hcr⟩⟩
               rw [ec]; exact zdo_w (by omega) (by omega))
            | (have ec : zlt τ F p = 98 := by omega
               refine ⟨⟨rfl, fun a g1 g2 g3 g4 => hfr.2 a g2⟩, Or.inl ⟨rfl, _, n, ?_, zQ_tb hQ (by omega) (by omega) (by omega) (by omega), (congrFun (hfr.2 s hsc) 0).trans hn0, hcr⟩⟩
               rw [ec]; exact zdo_b (by omega) (by omega))
          · obtain ⟨rfl, h9⟩ := hB hc9
            subst w9
            show jWp 87 112 [some (jO t), some (jI (p : Int)), some (jO s), some (jO e), some (jI (zfg (zlt τ F (p + 1)))), some (jI (zfg (zlt τ F (p + 2))))] [jI 0] 0 0 w _
            refine jWp.iretz mt rfl ⟨rfl, rfl⟩ rfl (Or.inl rfl) ?_
            refine ⟨⟨rfl, fun _ _ _ _ _ => rfl⟩, Or.inr ⟨rfl, ?_⟩⟩
            by_cases ei : 0 ≤ (zfg (zlt τ F (p + 1))) ∧ (zfg (zlt τ F (p + 1))) < q 0
            · first
              | (have ec : zlt τ F p = 110 := by omega
                 rw [ec]; exact zdo_n.trans (if_neg hc9))
              | (exfalso; omega)
              | (have ec : zlt τ F p = 115 := by omega
                 rw [ec]; exact (zdo_s ei).trans (if_neg (by omega)))
              | (have ec : zlt τ F p = 119 := by omega
                 rw [ec]; exact zdo_j (by decide) (by decide) (by decide) ei (by omega))
              | (have ec : zlt τ F p = 98 := by omega
                 rw [ec]; exact zdo_j (by decide) (by decide) (by decide) ei (by omega))
            · first
              | (have ec : zlt τ F p = 110 := by omega
                 rw [ec]; exact zdo_n.trans (if_neg hc9))
              | exact zdo_i (by omega) ei
end
