/-- the past of the reference behind one more seed -/
def zcom (w : jS) (m : Nat) (u : Nat) (q : Nat → Int) (w1 : jS) : Prop :=
  (∀ a, a ≠ m → (∀ x, x < 8 → a ≠ m + (8 + x)) → w1.1 a = w.1 a) ∧ (∀ j, j ≠ 15 → w1.1 m j = w.1 m j) ∧ w1.2 = w.2 ∧
  ((u < 8 ∧ w1.1 m 15 = ((u + 1 : Nat) : Int) ∧ (∀ x, x < u → w1.1 (m + (8 + x)) = w.1 (m + (8 + x))) ∧ ∀ c, c < 45 → w1.1 (m + (8 + u)) c = q c) ∨
   (u = 8 ∧ w1.1 m 15 = ((8 : Nat) : Int) ∧ (∀ x, x < 7 → ∀ c, c < 45 → w1.1 (m + (8 + x)) c = w.1 (m + (8 + (x + 1))) c) ∧ ∀ c, c < 45 → w1.1 (m + (8 + 7)) c = q c))
set_option maxHeartbeats 4000000 in
set_option maxRecDepth 20000 in
theorem E_comes {w : jS} {m : Nat} (hW : MW w.2 m) {u b : Nat} (hu : w.1 m 15 = (u : Int)) (hu8 : u ≤ 8) (hb : w.2.1 (m + b) = (101, 45)) (hb0 : b ≠ 0) (hbn : b < 8 ∨ 16 ≤ b) : jCall 179 [jO m, jO (m + b)] w (fun v w1 => v = none ∧ zcom w m u (w.1 (m + b)) w1) := by
  have mt : jtb 179 = jT179 := rfl
  show jWp 179 0 [some (jO m), some (jO (m + b)), none] [] 0 0 w _
  refine jWp.blk mt 1 ?_
  show _ ∧ jWp 179 1 [some (jO m), some (jO (m + b)), none] [jO m] 0 0 w _
  refine ⟨rfl, ?_⟩
  refine jWp.getI (pc' := 4) mt rfl rfl (jtg hW.K0) ?_
  rw [show (w.1 m 15) = (u : Int) from hu]
  show jWp 179 4 [some (jO m), some (jO (m + b)), none] [jI (u : Int)] 0 0 w _
  refine jWp.blk mt 1 ?_
  show jWp 179 6 [some (jO m), some (jO (m + b)), none] [jI 8, jI (u : Int)] 0 0 w _
  refine jWp.icmp (pc' := 9) mt rfl rfl (b32_id (by omega) (by omega)) (show b32 8 = 8 by decide) (fun h1 => ?_) (fun h1 => ?_)
  · have h1 : (u : Int) ≠ 8 := h1
    refine jWp.blk mt 2 ?_
    show _ ∧ _ ∧ jWp 179 52 [some (jO m), some (jO (m + b)), none] [jO m, jO (m + b)] 0 0 w _
    refine ⟨rfl, rfl, ?_⟩
    refine jWp.getR (pc' := 55) (o := (m + 7)) mt rfl rfl (jtg hW.K0) hW.R14 ?_
    show jWp 179 55 [some (jO m), some (jO (m + b)), none] [jO (m + 7), jO (m + b)] 0 0 w _
    refine jWp.blk mt 1 ?_
    show _ ∧ jWp 179 56 [some (jO m), some (jO (m + b)), none] [jO m, jO (m + 7), jO (m + b)] 0 0 w _
    refine ⟨rfl, ?_⟩
    refine jWp.getI (pc' := 59) mt rfl rfl (jtg hW.K0) ?_
    rw [show (w.1 m 15) = (u : Int) from hu]
    show jWp 179 59 [some (jO m), some (jO (m + b)), none] [jI (u : Int), jO (m + 7), jO (m + b)] 0 0 w _
    refine jWp.aald (pc' := 60) (j := u) (o := (m + (8 + u))) mt rfl rfl (jrg hW.K7 (by decide) (by decide)) (by rw [b32_id (by omega) (by omega)] <;> omega) (jlt hW.K7 (by omega)) (hW.RW u (by omega)) ?_
    show jWp 179 60 [some (jO m), some (jO (m + b)), none] [jO (m + (8 + u)), jO (m + b)] 0 0 w _
    refine jWp.calls (as := [jO (m + b), jO (m + (8 + u))]) (rest := []) mt rfl rfl rfl rfl ?_
    refine jCall.mono (E_copies (w := w) (a := m + b) (q := m + (8 + u)) hb (hW.KW _ (by omega)) (by omega)) (fun v9 w9 h9 => ?_)
    obtain ⟨rfl, T2, h9, hT3⟩ := h9
    subst h9
    show jWp 179 63 [some (jO m), some (jO (m + b)), none] [] 0 0 (kA w (m + (8 + u)) T2) _
    refine jWp.blk mt 2 ?_
    show _ ∧ _ ∧ jWp 179 65 [some (jO m), some (jO (m + b)), none] [jO m, jO m] 0 0 (kA w (m + (8 + u)) T2) _
    refine ⟨rfl, rfl, ?_⟩
    refine jWp.getI (pc' := 68) mt rfl rfl (jtg hW.K0) ?_
    rw [show ((kA w (m + (8 + u)) T2).1 m 15) = (u : Int) from (((kA_a (by omega)).trans rfl).trans hu)]
    show jWp 179 68 [some (jO m), some (jO (m + b)), none] [jI (u : Int), jO m] 0 0 (kA w (m + (8 + u)) T2) _
    refine jWp.blk mt 2 ?_
    show jWp 179 70 [some (jO m), some (jO (m + b)), none] [jI ((u : Int) + 1), jO m] 0 0 (kA w (m + (8 + u)) T2) _
    refine jWp.putI (pc' := 73) mt rfl rfl (jtg hW.K0) ?_
    show jWp 179 73 [some (jO m), some (jO (m + b)), none] [] 0 0 (jW (kA w (m + (8 + u)) T2) m 15 ((u : Int) + 1)) _
    refine jWp.vret mt rfl ⟨rfl, rfl⟩ rfl ?_
    refine ⟨rfl, fun a h1 h2 => ?_, fun j hj => ?_, rfl, Or.inl ⟨by omega, ?_, fun x hx => ?_, fun c hc => ?_⟩⟩
    · exact (jW_f h1).trans (kA_f (h2 u (by omega)))
    · exact (jW_k hj).trans (kA_a (by omega))
    · exact jW_s.trans (by omega)
    · exact (jW_f (by omega)).trans (kA_f (by omega))
    · exact (jW_a (by omega)).trans (kA_s.trans (hT3 c hc))
  · have h1 : (u : Int) = 8 := h1
    refine jWp.blk mt 2 ?_
    show jWp 179 11 [some (jO m), some (jO (m + b)), some (jI 1)] [] 0 0 w _
    have lp4 : ∀ (N : Nat) (k : Nat) (M1 : Nat → Nat → Int) (hk : 1 ≤ k ∧ k ≤ 8) (hF : ∀ a, (∀ x, x < 8 → a ≠ m + (8 + x)) → M1 a = w.1 a) (hA : ∀ x, x + 1 < k → ∀ c, c < 45 → M1 (m + (8 + x)) c = w.1 (m + (8 + (x + 1))) c) (hB : ∀ x, k ≤ x + 1 → x < 8 → M1 (m + (8 + x)) = w.1 (m + (8 + x))), 8 - k < N → jWp 179 11 [some (jO m), some (jO (m + b)), some (jI (k : Int))] [] 0 0 (M1, w.2) (fun v w1 => v = none ∧ zcom w m u (w.1 (m + b)) w1) := by
      intro N
      induction N with
      | zero => intro k M1 hk hF hA hB hm; omega
      | succ N ih5 =>
        intro k M1 hk hF hA hB hm
        refine jWp.blk mt 2 ?_
        show jWp 179 14 [some (jO m), some (jO (m + b)), some (jI (k : Int))] [jI 8, jI (k : Int)] 0 0 (M1, w.2) _
        refine jWp.icmp (pc' := 17) mt rfl rfl (b32_id (by omega) (by omega)) (show b32 8 = 8 by decide) (fun h6 => ?_) (fun h6 => ?_)
        · have h6 : 8 ≤ (k : Int) := h6
          refine jWp.blk mt 2 ?_
          show _ ∧ _ ∧ jWp 179 42 [some (jO m), some (jO (m + b)), some (jI (k : Int))] [jO m, jO m] 0 0 (M1, w.2) _
          refine ⟨rfl, rfl, ?_⟩
          refine jWp.getI (pc' := 45) mt rfl rfl (jtg hW.K0) ?_
          rw [show ((M1, w.2).1 m 15) = (u : Int) from ((congrFun (hF m (by omega)) 15).trans hu)]
          show jWp 179 45 [some (jO m), some (jO (m + b)), some (jI (k : Int))] [jI (u : Int), jO m] 0 0 (M1, w.2) _
          refine jWp.blk mt 2 ?_
          show jWp 179 47 [some (jO m), some (jO (m + b)), some (jI (k : Int))] [jI ((u : Int) - 1), jO m] 0 0 (M1, w.2) _
          refine jWp.putI (pc' := 50) mt rfl rfl (jtg hW.K0) ?_
          show jWp 179 50 [some (jO m), some (jO (m + b)), some (jI (k : Int))] [] 0 0 (jW (M1, w.2) m 15 ((u : Int) - 1)) _
          refine jWp.blk mt 2 ?_
          show _ ∧ _ ∧ jWp 179 52 [some (jO m), some (jO (m + b)), some (jI (k : Int))] [jO m, jO (m + b)] 0 0 (jW (M1, w.2) m 15 ((u : Int) - 1)) _
          refine ⟨rfl, rfl, ?_⟩
          refine jWp.getR (pc' := 55) (o := (m + 7)) mt rfl rfl (jtg hW.K0) hW.R14 ?_
          show jWp 179 55 [some (jO m), some (jO (m + b)), some (jI (k : Int))] [jO (m + 7), jO (m + b)] 0 0 (jW (M1, w.2) m 15 ((u : Int) - 1)) _
          refine jWp.blk mt 1 ?_
          show _ ∧ jWp 179 56 [some (jO m), some (jO (m + b)), some (jI (k : Int))] [jO m, jO (m + 7), jO (m + b)] 0 0 (jW (M1, w.2) m 15 ((u : Int) - 1)) _
          refine ⟨rfl, ?_⟩
          refine jWp.getI (pc' := 59) mt rfl rfl (jtg hW.K0) ?_
          rw [show ((jW (M1, w.2) m 15 ((u : Int) - 1)).1 m 15) = ((u : Int) - 1) from jW_s]
          show jWp 179 59 [some (jO m), some (jO (m + b)), some (jI (k : Int))] [jI ((u : Int) - 1), jO (m + 7), jO (m + b)] 0 0 (jW (M1, w.2) m 15 ((u : Int) - 1)) _
          refine jWp.aald (pc' := 60) (j := ((u : Int) - 1).toNat) (o := (m + (8 + ((u : Int) - 1).toNat))) mt rfl rfl (jrg hW.K7 (by decide) (by decide)) (by rw [b32_id (by omega) (by omega)]; omega) (jlt hW.K7 (by omega)) (hW.RW ((u : Int) - 1).toNat (by omega)) ?_
          show jWp 179 60 [some (jO m), some (jO (m + b)), some (jI (k : Int))] [jO (m + (8 + ((u : Int) - 1).toNat)), jO (m + b)] 0 0 (jW (M1, w.2) m 15 ((u : Int) - 1)) _
          refine jWp.calls (as := [jO (m + b), jO (m + (8 + ((u : Int) - 1).toNat))]) (rest := []) mt rfl rfl rfl rfl ?_
          refine jCall.mono (E_copies (w := (jW (M1, w.2) m 15 ((u : Int) - 1))) (a := m + b) (q := m + (8 + ((u : Int) - 1).toNat)) hb (hW.KW _ (by omega)) (by omega)) (fun v9 w9 h9 => ?_)
          obtain ⟨rfl, T7, h9, hT8⟩ := h9
          subst h9
          have hT8b : ∀ j, j < 45 → T7 j = ((M1, w.2).1 (m + b)) j := fun j hj => (hT8 j hj).trans (congrFun ((jW_f (by omega)).trans rfl) j)
          show jWp 179 63 [some (jO m), some (jO (m + b)), some (jI (k : Int))] [] 0 0 (kA (jW (M1, w.2) m 15 ((u : Int) - 1)) (m + (8 + ((u : Int) - 1).toNat)) T7) _
          refine jWp.blk mt 2 ?_
          show _ ∧ _ ∧ jWp 179 65 [some (jO m), some (jO (m + b)), some (jI (k : Int))] [jO m, jO m] 0 0 (kA (jW (M1, w.2) m 15 ((u : Int) - 1)) (m + (8 + ((u : Int) - 1).toNat)) T7) _
          refine ⟨rfl, rfl, ?_⟩
          refine jWp.getI (pc' := 68) mt rfl rfl (jtg hW.K0) ?_
          rw [show ((kA (jW (M1, w.2) m 15 ((u : Int) - 1)) (m + (8 + ((u : Int) - 1).toNat)) T7).1 m 15) = ((u : Int) - 1) from ((kA_a (by omega)).trans jW_s)]
          show jWp 179 68 [some (jO m), some (jO (m + b)), some (jI (k : Int))] [jI ((u : Int) - 1), jO m] 0 0 (kA (jW (M1, w.2) m 15 ((u : Int) - 1)) (m + (8 + ((u : Int) - 1).toNat)) T7) _
          refine jWp.blk mt 2 ?_
          show jWp 179 70 [some (jO m), some (jO (m + b)), some (jI (k : Int))] [jI (((u : Int) - 1) + 1), jO m] 0 0 (kA (jW (M1, w.2) m 15 ((u : Int) - 1)) (m + (8 + ((u : Int) - 1).toNat)) T7) _
          refine jWp.putI (pc' := 73) mt rfl rfl (jtg hW.K0) ?_
          show jWp 179 73 [some (jO m), some (jO (m + b)), some (jI (k : Int))] [] 0 0 (jW (kA (jW (M1, w.2) m 15 ((u : Int) - 1)) (m + (8 + ((u : Int) - 1).toNat)) T7) m 15 (((u : Int) - 1) + 1)) _
          refine jWp.vret mt rfl ⟨rfl, rfl⟩ rfl ?_
          have eu : u = 8 := by omega
          subst eu
          rw [show (((8 : Nat) : Int) - 1).toNat = 7 from by decide]
          refine ⟨rfl, fun a h1 h2 => ?_, fun j hj => ?_, rfl, Or.inr ⟨rfl, ?_, fun x hx c hc => ?_, fun c hc => ?_⟩⟩
          · exact (jW_f h1).trans ((kA_f (h2 7 (by omega))).trans ((jW_f h1).trans (hF a h2)))
          · exact (jW_k hj).trans ((kA_a (by omega)).trans ((jW_k hj).trans (congrFun (hF m (by omega)) j)))
          · exact jW_s.trans (by omega)
          · exact (jW_a (by omega)).trans ((kA_a (by omega)).trans ((jW_a (by omega)).trans (hA x (by omega) c hc)))
          · exact (jW_a (by omega)).trans (kA_s.trans ((hT8b c hc).trans (congrFun (hF (m + b) (by omega)) c)))
        · have h6 : (k : Int) < 8 := h6
          refine jWp.blk mt 1 ?_
          show _ ∧ jWp 179 18 [some (jO m), some (jO (m + b)), some (jI (k : Int))] [jO m] 0 0 (M1, w.2) _
          refine ⟨rfl, ?_⟩
          refine jWp.getR (pc' := 21) (o := (m + 7)) mt rfl rfl (jtg hW.K0) hW.R14 ?_
          show jWp 179 21 [some (jO m), some (jO (m + b)), some (jI (k : Int))] [jO (m + 7)] 0 0 (M1, w.2) _
          refine jWp.blk mt 1 ?_
          show jWp 179 22 [some (jO m), some (jO (m + b)), some (jI (k : Int))] [jI (k : Int), jO (m + 7)] 0 0 (M1, w.2) _
          refine jWp.aald (pc' := 23) (j := k) (o := (m + (8 + k))) mt rfl rfl (jrg hW.K7 (by decide) (by decide)) (b32_id (by omega) (by omega)) (jlt hW.K7 (by omega)) (hW.RW k (by omega)) ?_
          show jWp 179 23 [some (jO m), some (jO (m + b)), some (jI (k : Int))] [jO (m + (8 + k))] 0 0 (M1, w.2) _
          refine jWp.blk mt 1 ?_
          show _ ∧ jWp 179 24 [some (jO m), some (jO (m + b)), some (jI (k : Int))] [jO m, jO (m + (8 + k))] 0 0 (M1, w.2) _
          refine ⟨rfl, ?_⟩
          refine jWp.getR (pc' := 27) (o := (m + 7)) mt rfl rfl (jtg hW.K0) hW.R14 ?_
          show jWp 179 27 [some (jO m), some (jO (m + b)), some (jI (k : Int))] [jO (m + 7), jO (m + (8 + k))] 0 0 (M1, w.2) _
          refine jWp.blk mt 3 ?_
          show jWp 179 30 [some (jO m), some (jO (m + b)), some (jI (k : Int))] [jI ((k : Int) - 1), jO (m + 7), jO (m + (8 + k))] 0 0 (M1, w.2) _
          refine jWp.aald (pc' := 31) (j := (k - 1)) (o := (m + (8 + (k - 1)))) mt rfl rfl (jrg hW.K7 (by decide) (by decide)) (by rw [b32_id (by omega) (by omega)]; omega) (jlt hW.K7 (by omega)) (hW.RW (k - 1) (by omega)) ?_
          show jWp 179 31 [some (jO m), some (jO (m + b)), some (jI (k : Int))] [jO (m + (8 + (k - 1))), jO (m + (8 + k))] 0 0 (M1, w.2) _
          refine jWp.calls (as := [jO (m + (8 + k)), jO (m + (8 + (k - 1)))]) (rest := []) mt rfl rfl rfl rfl ?_
          refine jCall.mono (E_copies (w := (M1, w.2)) (a := m + (8 + k)) (q := m + (8 + (k - 1))) (hW.KW _ (by omega)) (hW.KW _ (by omega)) (by omega)) (fun v9 w9 h9 => ?_)
          obtain ⟨rfl, T9, h9, hT10⟩ := h9
          subst h9
          show jWp 179 34 [some (jO m), some (jO (m + b)), some (jI (k : Int))] [] 0 0 (kA (M1, w.2) (m + (8 + (k - 1))) T9) _
          refine jWp.blk mt 2 ?_
          show jWp 179 11 [some (jO m), some (jO (m + b)), some (jI ((k : Int) + 1))] [] 0 0 (kA (M1, w.2) (m + (8 + (k - 1))) T9) _
          refine jWp.le (l := [some (jO m), some (jO (m + b)), some (jI ((k : Int) + 1))]) (by exact ⟨rfl, rfl, rfl, trivial⟩) ?_
          exact ih5 (k + 1) _ (by omega) (fun a h => (kA_f (h (k - 1) (by omega))).trans (hF a h)) (fun x hx c hc => by rcases Nat.lt_or_ge (x + 1) k with e | e; exact (kA_a (by omega)).trans (hA x e c hc); rw [show x = k - 1 by omega]; exact kA_s.trans ((hT10 c hc).trans (by show M1 (m + (8 + k)) c = _; rw [hB k (by omega) (by omega), show k - 1 + 1 = k by omega]))) (fun x h h2 => (kA_f (by omega)).trans (hB x (by omega) h2)) (by omega)
    refine jWp.le (l := [some (jO m), some (jO (m + b)), some (jI 1)]) (by exact ⟨rfl, rfl, rfl, trivial⟩) ?_
    exact lp4 _ 1 w.1 (by omega) (fun a h => rfl) (fun x hx => absurd hx (by omega)) (fun x h h2 => rfl) (Nat.lt_succ_self _)
