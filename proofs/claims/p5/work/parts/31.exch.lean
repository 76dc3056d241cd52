/-- what an exchange, a walk, an undoing leave of the reference as it was -/
def mfr (w : jS) (m : Nat) (w1 : jS) : Prop := w1.2 = w.2 ∧ (∀ a, a ≠ m → a ≠ m + 1 → a ≠ m + 6 → (a < m + 8 ∨ m + 17 ≤ a) → w1.1 a = w.1 a) ∧ ∀ j, j ≠ 11 → j ≠ 12 → j ≠ 15 → w1.1 m j = w.1 m j
/-- the past behind one more seed q -/
def zpst (w : jS) (m u : Nat) (q : Nat → Int) (w1 : jS) : Prop :=
  (u < 8 ∧ w1.1 m 15 = ((u + 1 : Nat) : Int) ∧ (∀ x, x < u → w1.1 (m + (8 + x)) = w.1 (m + (8 + x))) ∧ ∀ c, c < 45 → w1.1 (m + (8 + u)) c = q c) ∨
   (u = 8 ∧ w1.1 m 15 = ((8 : Nat) : Int) ∧ (∀ x, x < 7 → ∀ c, c < 45 → w1.1 (m + (8 + x)) c = w.1 (m + (8 + (x + 1))) c) ∧ ∀ c, c < 45 → w1.1 (m + (8 + 7)) c = q c)
/-- an exchange of the seed that is tried, which was copied from another -/
theorem E_xtried {w : jS} {m n k : Nat} {q T : Nat → Int} (hW : MW w.2 m) (hS : zS q n) (hk : k < 4) (hT : ∀ j, j < 45 → T j = q j) : jCall 178 [jO m, jO (m + 16), jI (k : Int)] (kA w (m + 16) T) (fun v w1 => ∃ x y T6 S, w1 = kA (kA (jF2 w m x y) (m + 6) T6) (m + 16) S ∧ ((v = some (jI 1) ∧ zxn q S n k) ∨ (v = some (jI 0) ∧ (∀ j, j < 45 → S j = q j) ∧ ¬ zcan q n k))) := by
  have e : (kA w (m + 16) T).1 (m + 16) = T := kA_fs
  have hT9 : ∀ j, j < 29 → T j = q j := fun j hj => hT j (by omega)
  have hn := hS.n4
  refine jCall.mono (E_exchanges (w := kA w (m + 16) T) (q := m + 16) (tb := m + 6) (n := n) hW.K0 hW.R13 hW.K16 hW.K6 (by rw [e]; exact zS_c hT9 hS) hk) (fun v w1 h => ?_)
  obtain ⟨x, y, T6, S, h1, h2⟩ := h
  refine ⟨x, y, T6, S, ?_, ?_⟩
  · rw [h1]
    unfold jX jF2 jW jup kA
    refine Prod.ext (funext fun a => funext fun j => ?_) rfl
    show (if a = m + 16 then _ else if a = m + 6 then _ else if a = m ∧ j = 12 then _ else if a = m ∧ j = 11 then _ else if a = m + 16 then _ else _) = (if a = m + 16 then _ else if a = m + 6 then _ else if a = m ∧ j = 12 then _ else if a = m ∧ j = 11 then _ else _)
    by_cases h : a = m + 16
    · rw [if_pos h, if_pos h]
    · rw [if_neg h, if_neg h, if_neg h]
  · rw [e] at h2
    rcases h2 with ⟨hv, h3, h4, h5, h6, h7, h8, hg⟩ | ⟨hv, h3, h4⟩
    · refine Or.inl ⟨hv, zxn_c hT hn hk ⟨⟨h4, by rw [h3]; rfl⟩, by rw [h3, h6, h7], h5, h8, hg⟩⟩
    · exact Or.inr ⟨hv, fun j hj => by rw [h3]; exact hT j hj, fun hc => h4 ((zcan_c hT9 hn hk).mpr hc)⟩
theorem zxn_c2 {q S T : Nat → Int} {n k : Nat} (h : ∀ j, j < 45 → T j = S j) (hk : k < 4) (hx : zxn q S n k) : zxn q T n k :=
  ⟨hx.1, by rw [h _ (by omega), h _ (by omega)]; exact hx.2.1, fun e he => by rw [h _ (by omega)]; exact hx.2.2.1 e he, fun j hj h1 h2 h3 => by rw [h j (by omega)]; exact hx.2.2.2.1 j hj h1 h2 h3, fun c hc => by rw [h _ (by omega)]; exact hx.2.2.2.2.1 c hc, fun i c hi hc hik => by rw [h _ (by omega)]; exact hx.2.2.2.2.2 i c hi hc hik⟩
/-- what stays: the seed and the past -/
def zkeep (w : jS) (m : Nat) (w1 : jS) : Prop := w1.1 (m + 1) = w.1 (m + 1) ∧ w1.1 m 15 = w.1 m 15 ∧ ∀ x, x < 8 → w1.1 (m + (8 + x)) = w.1 (m + (8 + x))
theorem zfin {w W2 w3 : jS} {m u : Nat} {T : Nat → Int} (h2 : mfr w m W2) (hk : zkeep w m W2) (hc : zcom W2 m u (W2.1 (m + 1)) w3) (hT : ∀ j, j < 45 → T j = w3.1 (m + 16) j) : mfr w m (kA w3 (m + 1) T) ∧ zpst w m u (w.1 (m + 1)) (kA w3 (m + 1) T) ∧ ∀ j, j < 45 → T j = W2.1 (m + 16) j := by
  obtain ⟨f1, f2, hg, hc⟩ := hc
  refine ⟨⟨hg.trans h2.1, fun a h0 h1 h6 hr => ?_, fun j h11 h12 h15 => ?_⟩, ?_, fun j hj => ?_⟩
  · exact (kA_f h1).trans ((f1 a h0 (fun x hx => by omega)).trans (h2.2.1 a h0 h1 h6 hr))
  · exact (kA_a (by omega)).trans ((f2 j h15).trans (h2.2.2 j h11 h12 h15))
  · rcases hc with ⟨a1, a2, a3, a4⟩ | ⟨a1, a2, a3, a4⟩
    · refine Or.inl ⟨a1, (kA_a (by omega)).trans a2, fun x hx => (kA_f (by omega)).trans ((a3 x hx).trans (hk.2.2 x (by omega))), fun c hc => (kA_a (by omega)).trans ((a4 c hc).trans (congrFun hk.1 c))⟩
    · refine Or.inr ⟨a1, (kA_a (by omega)).trans a2, fun x hx c hc => (kA_a (by omega)).trans ((a3 x hx c hc).trans (congrFun (hk.2.2 (x + 1) (by omega)) c)), fun c hc => (kA_a (by omega)).trans ((a4 c hc).trans (congrFun hk.1 c))⟩
  · exact (hT j hj).trans (congrFun (f1 (m + 16) (by omega) (fun x hx => by omega)) j)
set_option maxHeartbeats 4000000 in
set_option maxRecDepth 20000 in
theorem E_exchange {w : jS} {m : Nat} (hW : MW w.2 m) {n : Nat} (hS : zS (w.1 (m + 1)) n) {u : Nat} (hu : w.1 m 15 = (u : Int)) (hu8 : u ≤ 8) {i : Int} (hri : r32 i) : jCall 180 [jO m, jI i] w (fun v w1 => ((¬ (0 ≤ i ∧ i < (n : Int))) → jno w m 1 (jI (-1)) v w1) ∧ (¬ (¬ (0 ≤ i ∧ i < (n : Int))) → (¬ zcan (w.1 (m + 1)) n i.toNat) → v = some (jI (-6)) ∧ ∃ w2, mfr w m w2 ∧ zkeep w m w2 ∧ w1 = jW w2 (m + 3) 6 (w.1 (m + 3) 6 + 1)) ∧ (¬ (¬ (0 ≤ i ∧ i < (n : Int))) → ¬ (¬ zcan (w.1 (m + 1)) n i.toNat) → v = some (jI (w1.1 (m + 1) (21 + i.toNat))) ∧ mfr w m w1 ∧ zxn (w.1 (m + 1)) (w1.1 (m + 1)) n i.toNat ∧ zpst w m u (w.1 (m + 1)) w1)) := by
  have mt : jtb 180 = jT180 := rfl
  have hn2 := hS.n2
  have hn4 := hS.n4
  have hri1 : -2147483648 ≤ i ∧ i < 2147483648 := hri
  show jWp 180 0 [some (jO m), some (jI i)] [] 0 0 w _
  refine jWp.blk mt 2 ?_
  show _ ∧ jWp 180 2 [some (jO m), some (jI i)] [jI i, jO m] 0 0 w _
  refine ⟨rfl, ?_⟩
  refine jWp.callv (as := [jO m, jI i]) (rest := []) mt rfl rfl rfl ⟨rfl, jtg hW.K0⟩ ?_
  refine jCall.mono (E_isLetter hW hS hri) (fun v9 w9 h9 => ?_)
  rcases h9 with ⟨rfl, h9, h1⟩ | ⟨rfl, h9, h1⟩ <;> subst w9
  · have h1 : 0 ≤ i ∧ i < (n : Int) := h1
    show jWp 180 5 [some (jO m), some (jI i)] [jI 1] 0 0 w _
    obtain ⟨i1, rfl⟩ : ∃ i1 : Nat, i = (i1 : Int) := ⟨i.toNat, by omega⟩
    show jWp 180 5 [some (jO m), some (jI (i1 : Int))] [jI 1] 0 0 w _
    refine jWp.ifc (b := true) mt rfl (by decide) rfl ?_
    show jWp 180 14 [some (jO m), some (jI (i1 : Int))] [] 0 0 w _
    refine jWp.blk mt 1 ?_
    show _ ∧ jWp 180 15 [some (jO m), some (jI (i1 : Int))] [jO m] 0 0 w _
    refine ⟨rfl, ?_⟩
    refine jWp.getR (pc' := 18) (o := (m + 1)) mt rfl rfl (jtg hW.K0) hW.R0 ?_
    show jWp 180 18 [some (jO m), some (jI (i1 : Int))] [jO (m + 1)] 0 0 w _
    refine jWp.blk mt 1 ?_
    show _ ∧ jWp 180 19 [some (jO m), some (jI (i1 : Int))] [jO m, jO (m + 1)] 0 0 w _
    refine ⟨rfl, ?_⟩
    refine jWp.getR (pc' := 22) (o := (m + 16)) mt rfl rfl (jtg hW.K0) hW.R16 ?_
    show jWp 180 22 [some (jO m), some (jI (i1 : Int))] [jO (m + 16), jO (m + 1)] 0 0 w _
    refine jWp.calls (as := [jO (m + 1), jO (m + 16)]) (rest := []) mt rfl rfl rfl rfl ?_
    refine jCall.mono (E_copies (w := w) (a := m + 1) (q := m + 16) hW.K1 hW.K16 (by omega)) (fun v9 w9 h9 => ?_)
    obtain ⟨rfl, T2, h9, hT3⟩ := h9
    subst h9
    show jWp 180 25 [some (jO m), some (jI (i1 : Int))] [] 0 0 (kA w (m + 16) T2) _
    refine jWp.blk mt 2 ?_
    show _ ∧ _ ∧ jWp 180 27 [some (jO m), some (jI (i1 : Int))] [jO m, jO m] 0 0 (kA w (m + 16) T2) _
    refine ⟨rfl, rfl, ?_⟩
    refine jWp.getR (pc' := 30) (o := (m + 16)) mt rfl rfl (jtg hW.K0) hW.R16 ?_
    show jWp 180 30 [some (jO m), some (jI (i1 : Int))] [jO (m + 16), jO m] 0 0 (kA w (m + 16) T2) _
    refine jWp.blk mt 1 ?_
    show jWp 180 31 [some (jO m), some (jI (i1 : Int))] [jI (i1 : Int), jO (m + 16), jO m] 0 0 (kA w (m + 16) T2) _
    refine jWp.callv (as := [jO m, jO (m + 16), jI (i1 : Int)]) (rest := []) mt rfl rfl rfl ⟨rfl, jtg hW.K0⟩ ?_
    refine jCall.mono (E_xtried (q := w.1 (m + 1)) hW hS (by omega) hT3) (fun v9 w9 h9 => ?_)
    obtain ⟨x9, y9, T6, S9, h9, hh⟩ := h9
    subst h9
    rcases hh with ⟨rfl, hz⟩ | ⟨rfl, hzS, hz⟩
    · have hz' := hz
      show jWp 180 34 [some (jO m), some (jI (i1 : Int))] [jI 1] 0 0 (kA (kA (jF2 w m x9 y9) (m + 6) T6) (m + 16) S9) _
      refine jWp.ifc (b := true) mt rfl (by decide) rfl ?_
      show jWp 180 44 [some (jO m), some (jI (i1 : Int))] [] 0 0 (kA (kA (jF2 w m x9 y9) (m + 6) T6) (m + 16) S9) _
      refine jWp.blk mt 2 ?_
      show _ ∧ _ ∧ jWp 180 46 [some (jO m), some (jI (i1 : Int))] [jO m, jO m] 0 0 (kA (kA (jF2 w m x9 y9) (m + 6) T6) (m + 16) S9) _
      refine ⟨rfl, rfl, ?_⟩
      refine jWp.getR (pc' := 49) (o := (m + 1)) mt rfl rfl (jtg hW.K0) hW.R0 ?_
      show jWp 180 49 [some (jO m), some (jI (i1 : Int))] [jO (m + 1), jO m] 0 0 (kA (kA (jF2 w m x9 y9) (m + 6) T6) (m + 16) S9) _
      refine jWp.callv (as := [jO m, jO (m + 1)]) (rest := []) mt rfl rfl rfl ⟨rfl, jtg hW.K0⟩ ?_
      refine jCall.mono (E_comes (w := (kA (kA (jF2 w m x9 y9) (m + 6) T6) (m + 16) S9)) (u := u) (b := 1) hW (((kA_a (by omega)).trans ((kA_a (by omega)).trans ((jF2_k (by omega) (by omega)).trans rfl))).trans hu) hu8 hW.K1 (by decide) (Or.inl (by decide))) (fun v9 w9 h9 => ?_)
      obtain ⟨rfl, hzc⟩ := h9
      obtain ⟨M3, G3⟩ := w9
      have hg : G3 = w.2 := hzc.2.2.1
      subst hg
      show jWp 180 52 [some (jO m), some (jI (i1 : Int))] [] 0 0 (M3, w.2) _
      refine jWp.blk mt 1 ?_
      show _ ∧ jWp 180 53 [some (jO m), some (jI (i1 : Int))] [jO m] 0 0 (M3, w.2) _
      refine ⟨rfl, ?_⟩
      refine jWp.getR (pc' := 56) (o := (m + 16)) mt rfl rfl (jtg hW.K0) hW.R16 ?_
      show jWp 180 56 [some (jO m), some (jI (i1 : Int))] [jO (m + 16)] 0 0 (M3, w.2) _
      refine jWp.blk mt 1 ?_
      show _ ∧ jWp 180 57 [some (jO m), some (jI (i1 : Int))] [jO m, jO (m + 16)] 0 0 (M3, w.2) _
      refine ⟨rfl, ?_⟩
      refine jWp.getR (pc' := 60) (o := (m + 1)) mt rfl rfl (jtg hW.K0) hW.R0 ?_
      show jWp 180 60 [some (jO m), some (jI (i1 : Int))] [jO (m + 1), jO (m + 16)] 0 0 (M3, w.2) _
      refine jWp.calls (as := [jO (m + 16), jO (m + 1)]) (rest := []) mt rfl rfl rfl rfl ?_
      refine jCall.mono (E_copies (w := (M3, w.2)) (a := m + 16) (q := m + 1) hW.K16 hW.K1 (by omega)) (fun v9 w9 h9 => ?_)
      obtain ⟨rfl, T4, h9, hT5⟩ := h9
      subst h9
      show jWp 180 63 [some (jO m), some (jI (i1 : Int))] [] 0 0 (kA (M3, w.2) (m + 1) T4) _
      refine jWp.blk mt 1 ?_
      show _ ∧ jWp 180 64 [some (jO m), some (jI (i1 : Int))] [jO m] 0 0 (kA (M3, w.2) (m + 1) T4) _
      refine ⟨rfl, ?_⟩
      refine jWp.getR (pc' := 67) (o := (m + 1)) mt rfl rfl (jtg hW.K0) hW.R0 ?_
      show jWp 180 67 [some (jO m), some (jI (i1 : Int))] [jO (m + 1)] 0 0 (kA (M3, w.2) (m + 1) T4) _
      refine jWp.blk mt 3 ?_
      show jWp 180 71 [some (jO m), some (jI (i1 : Int))] [jI (21 + (i1 : Int)), jO (m + 1)] 0 0 (kA (M3, w.2) (m + 1) T4) _
      refine jWp.lald (pc' := 72) (j := (21 + i1)) mt rfl rfl (jtg hW.K1) (by rw [b32_id (by omega) (by omega)] <;> omega) (jlt hW.K1 (by omega)) ?_
      rw [show ((kA (M3, w.2) (m + 1) T4).1 (m + 1) (21 + i1)) = (T4 (21 + i1)) from kA_s]
      show jWp 180 72 [some (jO m), some (jI (i1 : Int))] [jJ (T4 (21 + i1))] 0 0 (kA (M3, w.2) (m + 1) T4) _
      refine jWp.blk mt 1 ?_
      show jWp 180 73 [some (jO m), some (jI (i1 : Int))] [jI (T4 (21 + i1))] 0 0 (kA (M3, w.2) (m + 1) T4) _
      refine jWp.ireti mt rfl ⟨rfl, rfl⟩ rfl ?_
      have hZ := zfin (⟨rfl, fun a h0 h1 h6 hr => (kA_f (by omega)).trans ((kA_f h6).trans (jF2_f h0)), fun j h11 h12 h15 => (kA_a (by omega)).trans ((kA_a (by omega)).trans (jF2_k h11 h12))⟩ : mfr w m (kA (kA (jF2 w m x9 y9) (m + 6) T6) (m + 16) S9)) (⟨(kA_f (by omega)).trans ((kA_f (by omega)).trans (jF2_f (by omega))), (kA_a (by omega)).trans ((kA_a (by omega)).trans (jF2_k (by decide) (by decide))), fun x hx => (kA_f (by omega)).trans ((kA_f (by omega)).trans (jF2_f (by omega)))⟩ : zkeep w m (kA (kA (jF2 w m x9 y9) (m + 6) T6) (m + 16) S9)) hzc hT5
      refine ⟨fun c0 => ?_, fun c0 c1 => ?_, fun c0 c1 => ?_⟩
      · exfalso; omega
      · exact absurd hz.1 c1
      · exact ⟨by rw [kA_s]; rfl, hZ.1, by rw [kA_fs]; exact zxn_c2 (fun j hj => (hZ.2.2 j hj).trans kA_s) (by omega) hz, hZ.2.1⟩
    · have hz' := hz
      show jWp 180 34 [some (jO m), some (jI (i1 : Int))] [jI 0] 0 0 (kA (kA (jF2 w m x9 y9) (m + 6) T6) (m + 16) S9) _
      refine jWp.ifc (b := false) mt rfl (by decide) rfl ?_
      show jWp 180 37 [some (jO m), some (jI (i1 : Int))] [] 0 0 (kA (kA (jF2 w m x9 y9) (m + 6) T6) (m + 16) S9) _
      refine jWp.blk mt 2 ?_
      show _ ∧ jWp 180 40 [some (jO m), some (jI (i1 : Int))] [jI (-6), jO m] 0 0 (kA (kA (jF2 w m x9 y9) (m + 6) T6) (m + 16) S9) _
      refine ⟨rfl, ?_⟩
      refine jWp.callv (as := [jO m, jI (-6)]) (rest := []) mt rfl rfl rfl ⟨rfl, jtg hW.K0⟩ ?_
      refine jCall.mono (E_refuses (w := (kA (kA (jF2 w m x9 y9) (m + 6) T6) (m + 16) S9)) (j := 6) hW (by decide) (by decide)) (fun v9 w9 h9 => ?_)
      obtain ⟨rfl, h9⟩ := h9
      subst h9
      rw [show (kA (kA (jF2 w m x9 y9) (m + 6) T6) (m + 16) S9).1 (m + 3) 6 = (w.1 (m + 3) 6) from ((kA_a (by omega)).trans ((kA_a (by omega)).trans ((jF2_a (by omega)).trans rfl)))]
      show jWp 180 43 [some (jO m), some (jI (i1 : Int))] [jI (-6)] 0 0 (jW (kA (kA (jF2 w m x9 y9) (m + 6) T6) (m + 16) S9) (m + 3) 6 ((w.1 (m + 3) 6) + 1)) _
      refine jWp.ireti mt rfl ⟨rfl, rfl⟩ rfl ?_
      refine ⟨fun c0 => ?_, fun c0 c1 => ?_, fun c0 c1 => ?_⟩
      · exfalso; omega
      · exact ⟨rfl, (kA (kA (jF2 w m x9 y9) (m + 6) T6) (m + 16) S9), (⟨rfl, fun a h0 h1 h6 hr => (kA_f (by omega)).trans ((kA_f h6).trans (jF2_f h0)), fun j h11 h12 h15 => (kA_a (by omega)).trans ((kA_a (by omega)).trans (jF2_k h11 h12))⟩ : mfr w m (kA (kA (jF2 w m x9 y9) (m + 6) T6) (m + 16) S9)), (⟨(kA_f (by omega)).trans ((kA_f (by omega)).trans (jF2_f (by omega))), (kA_a (by omega)).trans ((kA_a (by omega)).trans (jF2_k (by decide) (by decide))), fun x hx => (kA_f (by omega)).trans ((kA_f (by omega)).trans (jF2_f (by omega)))⟩ : zkeep w m (kA (kA (jF2 w m x9 y9) (m + 6) T6) (m + 16) S9)), rfl⟩
      · exact absurd c1 (fun h => h hz)
  · have h1 : ¬ (0 ≤ i ∧ i < (n : Int)) := h1
    show jWp 180 5 [some (jO m), some (jI i)] [jI 0] 0 0 w _
    refine jWp.ifc (b := false) mt rfl (by decide) rfl ?_
    show jWp 180 8 [some (jO m), some (jI i)] [] 0 0 w _
    refine jWp.blk mt 2 ?_
    show _ ∧ jWp 180 10 [some (jO m), some (jI i)] [jI (-1), jO m] 0 0 w _
    refine ⟨rfl, ?_⟩
    refine jWp.callv (as := [jO m, jI (-1)]) (rest := []) mt rfl rfl rfl ⟨rfl, jtg hW.K0⟩ ?_
    refine jCall.mono (E_refuses (w := w) (j := 1) hW (by decide) (by decide)) (fun v9 w9 h9 => ?_)
    obtain ⟨rfl, h9⟩ := h9
    subst h9
    show jWp 180 13 [some (jO m), some (jI i)] [jI (-1)] 0 0 (jW w (m + 3) 1 ((w.1 (m + 3) 1) + 1)) _
    refine jWp.ireti mt rfl ⟨rfl, rfl⟩ rfl ?_
    refine ⟨fun c0 => ?_, fun c0 c1 => ?_, fun c0 c1 => ?_⟩
    · exact ⟨rfl, rfl⟩
    · exfalso; omega
    · exfalso; omega
