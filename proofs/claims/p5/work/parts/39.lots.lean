theorem jand_31 (x : Int) : 0 ≤ jand x 2147483647 ∧ jand x 2147483647 ≤ 2147483647 := by
  unfold jand
  have h : (Int32.ofInt x &&& Int32.ofInt 2147483647).toBitVec.msb = false := by
    rw [Int32.toBitVec_and, BitVec.msb_and]
    rw [show (Int32.ofInt 2147483647).toBitVec.msb = false by decide, Bool.and_false]
  have h2 : (Int32.ofInt x &&& Int32.ofInt 2147483647).toInt = ((Int32.ofInt x &&& Int32.ofInt 2147483647).toBitVec.toNat : Int) := BitVec.toInt_eq_toNat_of_msb h
  have h3 := Int32.toInt_lt (Int32.ofInt x &&& Int32.ofInt 2147483647)
  omega
/-- the next number of a draw, and the letter that it says -/
def zlz (z : Int) : Int := z * 1664525 + 1013904223
def zlk (z : Int) (n : Nat) : Nat := (Int.tmod (Int.tdiv (jand z 2147483647) 256) (n : Int)).toNat
theorem zlk_b {z : Int} {n : Nat} (hn : 1 ≤ n) : (zlk z n : Int) = Int.tmod (Int.tdiv (jand z 2147483647) 256) (n : Int) ∧ zlk z n < n ∧ (0 ≤ Int.tdiv (jand z 2147483647) 256 ∧ Int.tdiv (jand z 2147483647) 256 ≤ 2147483647) := by
  have h := jand_31 z
  have h1 : Int.tdiv (jand z 2147483647) 256 = jand z 2147483647 / 256 := Int.tdiv_eq_ediv_of_nonneg h.1
  have h2 := zmod_b (x := Int.tdiv (jand z 2147483647) 256) (y := (n : Int)) (by omega) (by omega)
  unfold zlk
  omega
/-- so many draws from a seed: how many are exchanged, and what is then -/
noncomputable def zlF (n : Nat) : Nat → Int → (Nat → Int) → Int × (Nat → Int)
  | 0, _, S => (0, S)
  | f + 1, z, S => @ite (Int × (Nat → Int)) (zcan S n (zlk (zlz z) n)) (Classical.propDecidable _) ((zlF n f (zlz z) (zxF S n (zlk (zlz z) n))).1 + 1, (zlF n f (zlz z) (zxF S n (zlk (zlz z) n))).2) (zlF n f (zlz z) S)
theorem zlF_t {n f : Nat} {z : Int} {S : Nat → Int} (h : zcan S n (zlk (zlz z) n)) : zlF n (f + 1) z S = ((zlF n f (zlz z) (zxF S n (zlk (zlz z) n))).1 + 1, (zlF n f (zlz z) (zxF S n (zlk (zlz z) n))).2) := if_pos h
theorem zlF_f {n f : Nat} {z : Int} {S : Nat → Int} (h : ¬ zcan S n (zlk (zlz z) n)) : zlF n (f + 1) z S = zlF n f (zlz z) S := if_neg h
theorem zlF_c {n : Nat} (h1 : 1 ≤ n) (hn : n ≤ 4) : ∀ (f : Nat) (z : Int) (S q : Nat → Int), zeq S q → (zlF n f z S).1 = (zlF n f z q).1 ∧ zeq (zlF n f z S).2 (zlF n f z q).2
  | 0, _, _, _, h => ⟨rfl, h⟩
  | f + 1, z, S, q, h => by
    have hk : zlk (zlz z) n < 4 := by have := (zlk_b (z := zlz z) h1).2.1; omega
    by_cases hc : zcan S n (zlk (zlz z) n)
    · rw [zlF_t hc, zlF_t ((zcan_q h hn hk).mp hc)]
      have e := zlF_c h1 hn f (zlz z) _ _ (zxF_c h hn hk)
      exact ⟨by rw [e.1], e.2⟩
    · rw [zlF_f hc, zlF_f (fun g => hc ((zcan_q h hn hk).mpr g))]
      exact zlF_c h1 hn f (zlz z) _ _ h
theorem zlF_b {n : Nat} : ∀ (f : Nat) (z : Int) (S : Nat → Int), 0 ≤ (zlF n f z S).1 ∧ (zlF n f z S).1 ≤ (f : Int)
  | 0, _, _ => ⟨Int.le_refl _, Int.le_refl _⟩
  | f + 1, z, S => by
    by_cases hc : zcan S n (zlk (zlz z) n)
    · rw [zlF_t hc]
      have := zlF_b (n := n) f (zlz z) (zxF S n (zlk (zlz z) n))
      dsimp only
      omega
    · rw [zlF_f hc]
      have := zlF_b (n := n) f (zlz z) S
      omega
set_option maxHeartbeats 4000000 in
set_option maxRecDepth 20000 in
theorem E_draws {w : jS} {m : Nat} (hW : MW w.2 m) {n : Nat} (h2 : 2 ≤ n) (h4 : n ≤ 4) : jCall 195 [jO m, jI (n : Int)] w (fun v w1 => v = some (jI ((zlk (zlz (w.1 m 22)) n : Nat) : Int)) ∧ w1 = jW w m 22 (zlz (w.1 m 22))) := by
  have mt : jtb 195 = jT195 := rfl
  have hb1 := zlk_b (z := ((w.1 m 22 * 1664525) + 1013904223)) (n := n) (by omega)
  show jWp 195 0 [some (jO m), some (jI (n : Int))] [] 0 0 w _
  refine jWp.blk mt 2 ?_
  show _ ∧ _ ∧ jWp 195 2 [some (jO m), some (jI (n : Int))] [jO m, jO m] 0 0 w _
  refine ⟨rfl, rfl, ?_⟩
  refine jWp.getI (pc' := 5) mt rfl rfl (jtg hW.K0) ?_
  show jWp 195 5 [some (jO m), some (jI (n : Int))] [jI (w.1 m 22), jO m] 0 0 w _
  refine jWp.blk mt 4 ?_
  show jWp 195 13 [some (jO m), some (jI (n : Int))] [jI (((w.1 m 22) * 1664525) + 1013904223), jO m] 0 0 w _
  refine jWp.putI (pc' := 16) mt rfl rfl (jtg hW.K0) ?_
  show jWp 195 16 [some (jO m), some (jI (n : Int))] [] 0 0 (jW w m 22 (((w.1 m 22) * 1664525) + 1013904223)) _
  refine jWp.blk mt 1 ?_
  show _ ∧ jWp 195 17 [some (jO m), some (jI (n : Int))] [jO m] 0 0 (jW w m 22 (((w.1 m 22) * 1664525) + 1013904223)) _
  refine ⟨rfl, ?_⟩
  refine jWp.getI (pc' := 20) mt rfl rfl (jtg hW.K0) ?_
  rw [show ((jW w m 22 (((w.1 m 22) * 1664525) + 1013904223)).1 m 22) = (((w.1 m 22) * 1664525) + 1013904223) from jW_s]
  show jWp 195 20 [some (jO m), some (jI (n : Int))] [jI (((w.1 m 22) * 1664525) + 1013904223)] 0 0 (jW w m 22 (((w.1 m 22) * 1664525) + 1013904223)) _
  refine jWp.blk mt 3 ?_
  show jWp 195 27 [some (jO m), some (jI (n : Int))] [jI 256, jI (jand (((w.1 m 22) * 1664525) + 1013904223) 2147483647)] 0 0 (jW w m 22 (((w.1 m 22) * 1664525) + 1013904223)) _
  refine jWp.idiv (pc' := 28) mt rfl rfl (b32_i32 _) (show b32 256 = 256 by decide) (by decide) ?_
  show jWp 195 28 [some (jO m), some (jI (n : Int))] [jI (Int.tdiv (jand (((w.1 m 22) * 1664525) + 1013904223) 2147483647) 256)] 0 0 (jW w m 22 (((w.1 m 22) * 1664525) + 1013904223)) _
  refine jWp.blk mt 1 ?_
  show jWp 195 29 [some (jO m), some (jI (n : Int))] [jI (n : Int), jI (Int.tdiv (jand (((w.1 m 22) * 1664525) + 1013904223) 2147483647) 256)] 0 0 (jW w m 22 (((w.1 m 22) * 1664525) + 1013904223)) _
  refine jWp.irem (pc' := 30) mt rfl rfl (b32_id (by omega) (by omega)) (b32_id (by omega) (by omega)) (by omega) ?_
  show jWp 195 30 [some (jO m), some (jI (n : Int))] [jI (Int.tmod (Int.tdiv (jand (((w.1 m 22) * 1664525) + 1013904223) 2147483647) 256) (n : Int))] 0 0 (jW w m 22 (((w.1 m 22) * 1664525) + 1013904223)) _
  refine jWp.ireti mt rfl ⟨rfl, rfl⟩ rfl ?_
  exact ⟨by rw [show zlz (w.1 m 22) = ((w.1 m 22 * 1664525) + 1013904223) from rfl, hb1.1], rfl⟩
set_option maxHeartbeats 4000000 in
set_option maxRecDepth 20000 in
theorem E_lots {w : jS} {m : Nat} (hW : MW w.2 m) {n : Nat} (hS : zS (w.1 (m + 1)) n) {N z a : Int} (hrN : r32 N) (hra : r32 a) : jCall 196 [jO m, jI N, jI z, jI a] w (fun v w1 => ((N < 1) → jno w m 4 (jI (-4)) v w1) ∧ (¬ (N < 1) → (30 < N) → jno w m 6 (jI (-6)) v w1) ∧ (¬ (N < 1) → ¬ (30 < N) → (¬ (0 ≤ a ∧ a ≤ 1)) → jno w m 2 (jI (-2)) v w1) ∧ (¬ (N < 1) → ¬ (30 < N) → ¬ (¬ (0 ≤ a ∧ a ≤ 1)) → (a = 0 → v = some (jI (zlF n N.toNat z (w.1 (m + 1))).1) ∧ mq w m w1) ∧ (a = 1 → v = some (jI (zgo (zlF n N.toNat z (w.1 (m + 1))).2 n n)) ∧ mq w m w1))) := by
  have mt : jtb 196 = jT196 := rfl
  have hn2 := hS.n2
  have hn4 := hS.n4
  have hrN1 : -2147483648 ≤ N ∧ N < 2147483648 := hrN
  have hra1 : -2147483648 ≤ a ∧ a < 2147483648 := hra
  show jWp 196 0 [some (jO m), some (jI N), some (jI z), some (jI a), none, none] [] 0 0 w _
  refine jWp.blk mt 2 ?_
  show jWp 196 2 [some (jO m), some (jI N), some (jI z), some (jI a), none, none] [jI 1, jI N] 0 0 w _
  refine jWp.icmp (pc' := 5) mt rfl rfl (b32_id (by omega) (by omega)) (show b32 1 = 1 by decide) (fun h1 => ?_) (fun h1 => ?_)
  · have h1 : 1 ≤ N := h1
    refine jWp.blk mt 2 ?_
    show jWp 196 15 [some (jO m), some (jI N), some (jI z), some (jI a), none, none] [jI 30, jI N] 0 0 w _
    refine jWp.icmp (pc' := 18) mt rfl rfl (b32_id (by omega) (by omega)) (show b32 30 = 30 by decide) (fun h2 => ?_) (fun h2 => ?_)
    · have h2 : N ≤ 30 := h2
      refine jWp.blk mt 1 ?_
      show jWp 196 26 [some (jO m), some (jI N), some (jI z), some (jI a), none, none] [jI a] 0 0 w _
      refine jWp.i2l (pc' := 27) mt rfl rfl (b32_id (by omega) (by omega)) ?_
      show jWp 196 27 [some (jO m), some (jI N), some (jI z), some (jI a), none, none] [jJ a] 0 0 w _
      refine jWp.blk mt 2 ?_
      show jWp 196 29 [some (jO m), some (jI N), some (jI z), some (jI a), none, none] [jJ 1, jJ 0, jJ a] 0 0 w _
      refine jWp.calls (as := [jJ a, jJ 0, jJ 1]) (rest := []) mt rfl rfl rfl rfl ?_
      refine jCall.mono (E_in (b64_id (by omega) (by omega)) (show b64 0 = 0 by decide) (show b64 1 = 1 by decide)) (fun v9 w9 h9 => ?_)
      rcases h9 with ⟨rfl, h9, h3⟩ | ⟨rfl, h9, h3⟩ <;> subst w9
      · have h3 : 0 ≤ a ∧ a ≤ 1 := h3
        show jWp 196 32 [some (jO m), some (jI N), some (jI z), some (jI a), none, none] [jI 1] 0 0 w _
        refine jWp.ifc (b := true) mt rfl (by decide) rfl ?_
        show jWp 196 42 [some (jO m), some (jI N), some (jI z), some (jI a), none, none] [] 0 0 w _
        obtain ⟨N1, rfl⟩ : ∃ N1 : Nat, N = (N1 : Int) := ⟨N.toNat, by omega⟩
        show jWp 196 42 [some (jO m), some (jI (N1 : Int)), some (jI z), some (jI a), none, none] [] 0 0 w _
        refine jWp.blk mt 2 ?_
        show _ ∧ jWp 196 44 [some (jO m), some (jI (N1 : Int)), some (jI z), some (jI a), none, none] [jI z, jO m] 0 0 w _
        refine ⟨rfl, ?_⟩
        refine jWp.putI (pc' := 47) mt rfl rfl (jtg hW.K0) ?_
        show jWp 196 47 [some (jO m), some (jI (N1 : Int)), some (jI z), some (jI a), none, none] [] 0 0 (jW w m 22 z) _
        refine jWp.blk mt 1 ?_
        show _ ∧ jWp 196 48 [some (jO m), some (jI (N1 : Int)), some (jI z), some (jI a), none, none] [jO m] 0 0 (jW w m 22 z) _
        refine ⟨rfl, ?_⟩
        refine jWp.getR (pc' := 51) (o := (m + 1)) mt rfl rfl (jtg hW.K0) hW.R0 ?_
        show jWp 196 51 [some (jO m), some (jI (N1 : Int)), some (jI z), some (jI a), none, none] [jO (m + 1)] 0 0 (jW w m 22 z) _
        refine jWp.blk mt 1 ?_
        show _ ∧ jWp 196 52 [some (jO m), some (jI (N1 : Int)), some (jI z), some (jI a), none, none] [jO m, jO (m + 1)] 0 0 (jW w m 22 z) _
        refine ⟨rfl, ?_⟩
        refine jWp.getR (pc' := 55) (o := (m + 16)) mt rfl rfl (jtg hW.K0) hW.R16 ?_
        show jWp 196 55 [some (jO m), some (jI (N1 : Int)), some (jI z), some (jI a), none, none] [jO (m + 16), jO (m + 1)] 0 0 (jW w m 22 z) _
        refine jWp.calls (as := [jO (m + 1), jO (m + 16)]) (rest := []) mt rfl rfl rfl rfl ?_
        refine jCall.mono (E_copies (w := (jW w m 22 z)) (a := m + 1) (q := m + 16) hW.K1 hW.K16 (by omega)) (fun v9 w9 h9 => ?_)
        obtain ⟨rfl, T4, h9, hT5⟩ := h9
        subst h9
        have hT5b : ∀ j, j < 45 → T4 j = (w.1 (m + 1)) j := fun j hj => (hT5 j hj).trans (congrFun ((jW_f (by omega)).trans rfl) j)
        show jWp 196 58 [some (jO m), some (jI (N1 : Int)), some (jI z), some (jI a), none, none] [] 0 0 (kA (jW w m 22 z) (m + 16) T4) _
        refine jWp.blk mt 4 ?_
        show jWp 196 64 [some (jO m), some (jI (N1 : Int)), some (jI z), some (jI a), some (jI 0), some (jI 0)] [] 0 0 (kA (jW w m 22 z) (m + 16) T4) _
        have lp6 : ∀ (N : Nat) (t : Nat) (o : Int) (M1 : Nat → Nat → Int) (ht : t ≤ N1) (ho : 0 ≤ o ∧ o ≤ (t : Int)) (hmq : mq w m (M1, w.2)) (hS1 : zS (M1 (m + 16)) n) (hr : o + (zlF n (N1 - t) (M1 m 22) (M1 (m + 16))).1 = (zlF n N1 z (w.1 (m + 1))).1 ∧ zeq (zlF n (N1 - t) (M1 m 22) (M1 (m + 16))).2 (zlF n N1 z (w.1 (m + 1))).2), N1 - t < N → jWp 196 64 [some (jO m), some (jI (N1 : Int)), some (jI z), some (jI a), some (jI o), some (jI (t : Int))] [] 0 0 (M1, w.2) (fun v w1 => (((N1 : Int) < 1) → jno w m 4 (jI (-4)) v w1) ∧ (¬ ((N1 : Int) < 1) → (30 < (N1 : Int)) → jno w m 6 (jI (-6)) v w1) ∧ (¬ ((N1 : Int) < 1) → ¬ (30 < (N1 : Int)) → (¬ (0 ≤ a ∧ a ≤ 1)) → jno w m 2 (jI (-2)) v w1) ∧ (¬ ((N1 : Int) < 1) → ¬ (30 < (N1 : Int)) → ¬ (¬ (0 ≤ a ∧ a ≤ 1)) → (a = 0 → v = some (jI (zlF n (N1 : Int).toNat z (w.1 (m + 1))).1) ∧ mq w m w1) ∧ (a = 1 → v = some (jI (zgo (zlF n (N1 : Int).toNat z (w.1 (m + 1))).2 n n)) ∧ mq w m w1))) := by
          intro N
          induction N with
          | zero => intro t o M1 ht ho hmq hS1 hr hm; omega
          | succ N ih7 =>
            intro t o M1 ht ho hmq hS1 hr hm
            refine jWp.blk mt 2 ?_
            show jWp 196 67 [some (jO m), some (jI (N1 : Int)), some (jI z), some (jI a), some (jI o), some (jI (t : Int))] [jI (N1 : Int), jI (t : Int)] 0 0 (M1, w.2) _
            refine jWp.icmp (pc' := 70) mt rfl rfl (b32_id (by omega) (by omega)) (b32_id (by omega) (by omega)) (fun h8 => ?_) (fun h8 => ?_)
            · have h8 : (N1 : Int) ≤ (t : Int) := h8
              refine jWp.blk mt 1 ?_
              show jWp 196 109 [some (jO m), some (jI (N1 : Int)), some (jI z), some (jI a), some (jI o), some (jI (t : Int))] [jI a] 0 0 (M1, w.2) _
              refine jWp.ifz (pc' := 112) mt rfl rfl (b32_id (by omega) (by omega)) (fun h9 => ?_) (fun h9 => ?_)
              · have h9 : a ≠ 0 := h9
                refine jWp.blk mt 1 ?_
                show _ ∧ jWp 196 118 [some (jO m), some (jI (N1 : Int)), some (jI z), some (jI a), some (jI o), some (jI (t : Int))] [jO m] 0 0 (M1, w.2) _
                refine ⟨rfl, ?_⟩
                refine jWp.getR (pc' := 121) (o := (m + 16)) mt rfl rfl (jtg hW.K0) hW.R16 ?_
                show jWp 196 121 [some (jO m), some (jI (N1 : Int)), some (jI z), some (jI a), some (jI o), some (jI (t : Int))] [jO (m + 16)] 0 0 (M1, w.2) _
                refine jWp.calls (as := [jO (m + 16)]) (rest := []) mt rfl rfl rfl rfl ?_
                refine jCall.mono (E_greatest (w := (M1, w.2)) (q := m + 16) (n := n) hW.K16 hS1) (fun v9 w9 h9 => ?_)
                obtain ⟨rfl, h9⟩ := h9
                subst w9
                show jWp 196 124 [some (jO m), some (jI (N1 : Int)), some (jI z), some (jI a), some (jI o), some (jI (t : Int))] [jJ (zgo (M1 (m + 16)) n n)] 0 0 (M1, w.2) _
                refine jWp.blk mt 1 ?_
                show jWp 196 125 [some (jO m), some (jI (N1 : Int)), some (jI z), some (jI a), some (jI o), some (jI (t : Int))] [jI (zgo (M1 (m + 16)) n n)] 0 0 (M1, w.2) _
                refine jWp.ireti mt rfl ⟨rfl, rfl⟩ rfl ?_
                refine ⟨fun c0 => ?_, fun c0 c1 => ?_, fun c0 c1 c2 => ?_, fun c0 c1 c2 => ?_⟩
                all_goals first
                | (exfalso; omega)
                | exact ⟨rfl, rfl⟩
                | exact ⟨fun c => absurd c (by omega), fun c => ⟨by rw [zgo_c (zeq_t (by rw [show N1 - t = 0 by omega]; exact fun _ _ => rfl) hr.2) hn4 n hn4]; rfl, hmq⟩⟩
              · have h9 : a = 0 := h9
                refine jWp.blk mt 2 ?_
                show jWp 196 125 [some (jO m), some (jI (N1 : Int)), some (jI z), some (jI a), some (jI o), some (jI (t : Int))] [jI o] 0 0 (M1, w.2) _
                refine jWp.ireti mt rfl ⟨rfl, rfl⟩ rfl ?_
                refine ⟨fun c0 => ?_, fun c0 c1 => ?_, fun c0 c1 c2 => ?_, fun c0 c1 c2 => ?_⟩
                all_goals first
                | (exfalso; omega)
                | exact ⟨rfl, rfl⟩
                | exact ⟨fun c => ⟨by have g := hr.1; rw [show N1 - t = 0 by omega] at g; rw [show ((N1 : Nat) : Int).toNat = N1 from rfl, ← g]; show some (jI o) = some (jI (o + 0)); rw [Int.add_zero], hmq⟩, fun c => absurd c (by omega)⟩
            · have h8 : (t : Int) < (N1 : Int) := h8
              refine jWp.blk mt 3 ?_
              show _ ∧ _ ∧ jWp 196 74 [some (jO m), some (jI (N1 : Int)), some (jI z), some (jI a), some (jI o), some (jI (t : Int))] [jO m, jO m, jI o] 0 0 (M1, w.2) _
              refine ⟨rfl, rfl, ?_⟩
              refine jWp.getR (pc' := 77) (o := (m + 16)) mt rfl rfl (jtg hW.K0) hW.R16 ?_
              show jWp 196 77 [some (jO m), some (jI (N1 : Int)), some (jI z), some (jI a), some (jI o), some (jI (t : Int))] [jO (m + 16), jO m, jI o] 0 0 (M1, w.2) _
              refine jWp.blk mt 2 ?_
              show _ ∧ _ ∧ jWp 196 79 [some (jO m), some (jI (N1 : Int)), some (jI z), some (jI a), some (jI o), some (jI (t : Int))] [jO m, jO m, jO (m + 16), jO m, jI o] 0 0 (M1, w.2) _
              refine ⟨rfl, rfl, ?_⟩
              refine jWp.getR (pc' := 82) (o := (m + 1)) mt rfl rfl (jtg hW.K0) hW.R0 ?_
              show jWp 196 82 [some (jO m), some (jI (N1 : Int)), some (jI z), some (jI a), some (jI o), some (jI (t : Int))] [jO (m + 1), jO m, jO (m + 16), jO m, jI o] 0 0 (M1, w.2) _
              refine jWp.blk mt 1 ?_
              show jWp 196 83 [some (jO m), some (jI (N1 : Int)), some (jI z), some (jI a), some (jI o), some (jI (t : Int))] [jI 0, jO (m + 1), jO m, jO (m + 16), jO m, jI o] 0 0 (M1, w.2) _
              refine jWp.lald (pc' := 84) (j := 0) mt rfl rfl (jtg hW.K1) (by decide) (jlt hW.K1 (by decide)) ?_
              rw [show ((M1, w.2).1 (m + 1) 0) = (n : Int) from ((congrFun (hmq.2.1 (m + 1) (by omega)) 0).trans hS.n0)]
              show jWp 196 84 [some (jO m), some (jI (N1 : Int)), some (jI z), some (jI a), some (jI o), some (jI (t : Int))] [jJ (n : Int), jO m, jO (m + 16), jO m, jI o] 0 0 (M1, w.2) _
              refine jWp.blk mt 1 ?_
              show jWp 196 85 [some (jO m), some (jI (N1 : Int)), some (jI z), some (jI a), some (jI o), some (jI (t : Int))] [jI (n : Int), jO m, jO (m + 16), jO m, jI o] 0 0 (M1, w.2) _
              refine jWp.callv (as := [jO m, jI (n : Int)]) (rest := [jO (m + 16), jO m, jI o]) mt rfl rfl rfl ⟨rfl, jtg hW.K0⟩ ?_
              refine jCall.mono (E_draws (w := (M1, w.2)) (n := n) hW (by omega) (by omega)) (fun v9 w9 h9 => ?_)
              obtain ⟨rfl, h9⟩ := h9
              subst h9
              have hkb := (zlk_b (z := zlz (M1 m 22)) (n := n) (by omega)).2.1
              show jWp 196 88 [some (jO m), some (jI (N1 : Int)), some (jI z), some (jI a), some (jI o), some (jI (t : Int))] [jI ((zlk (zlz (M1 m 22)) n : Nat) : Int), jO (m + 16), jO m, jI o] 0 0 (jW (M1, w.2) m 22 (zlz (M1 m 22))) _
              refine jWp.callv (as := [jO m, jO (m + 16), jI ((zlk (zlz (M1 m 22)) n : Nat) : Int)]) (rest := [jI o]) mt rfl rfl rfl ⟨rfl, jtg hW.K0⟩ ?_
              refine jCall.mono (E_xany (w := (jW (M1, w.2) m 22 (zlz (M1 m 22)))) (o := 16) (n := n) (k := zlk (zlz (M1 m 22)) n) hW hW.K16 (by rw [show (jW (M1, w.2) m 22 (zlz (M1 m 22))).1 (m + 16) = M1 (m + 16) from jW_f (by omega)]; exact hS1) (by omega)) (fun v9 w9 h9 => ?_)
              obtain ⟨hx10, hh⟩ := h9
              obtain ⟨M2, G9⟩ := w9
              have hg : G9 = w.2 := hx10.1
              subst hg
              have hmq2 : mq w m (M2, w.2) := mq_t (mq_S hmq (by decide)) (mq_x (Or.inl rfl) hx10)
              have hz22 : M2 m 22 = zlz (M1 m 22) := (hx10.2.2 22 (by decide) (by decide)).trans jW_s
              rw [show (jW (M1, w.2) m 22 (zlz (M1 m 22))).1 (m + 16) = M1 (m + 16) from jW_f (by omega)] at hh
              rcases hh with ⟨rfl, hz⟩ | ⟨rfl, hzS, hz⟩
              · have hz' := hz
                show jWp 196 91 [some (jO m), some (jI (N1 : Int)), some (jI z), some (jI a), some (jI o), some (jI (t : Int))] [jI 1, jI o] 0 0 (M2, w.2) _
                refine jWp.ifc (b := false) mt rfl (by decide) rfl ?_
                show jWp 196 94 [some (jO m), some (jI (N1 : Int)), some (jI z), some (jI a), some (jI o), some (jI (t : Int))] [jI o] 0 0 (M2, w.2) _
                refine jWp.blk mt 6 ?_
                show jWp 196 64 [some (jO m), some (jI (N1 : Int)), some (jI z), some (jI a), some (jI (o + 1)), some (jI ((t : Int) + 1))] [] 0 0 (M2, w.2) _
                refine jWp.le (l := [some (jO m), some (jI (N1 : Int)), some (jI z), some (jI a), some (jI (o + 1)), some (jI ((t : Int) + 1))]) (by exact ⟨rfl, rfl, rfl, rfl, rfl, rfl, trivial⟩) ?_
                exact ih7 (t + 1) _ M2 (by omega) (by omega) hmq2 (zxn_S hS1 (by omega) hz) (by have g := hr.1; rw [show N1 - t = (N1 - (t + 1)) + 1 by omega, zlF_t hz.1] at g; have g2 := hr.2; rw [show N1 - t = (N1 - (t + 1)) + 1 by omega, zlF_t hz.1] at g2; dsimp only at g g2; have c := zlF_c (n := n) (by omega) hn4 (N1 - (t + 1)) (zlz (M1 m 22)) _ _ (zxn_F (by omega) hz); rw [hz22]; exact ⟨by rw [c.1]; omega, zeq_t c.2 g2⟩) (by omega)
              · have hzS : M2 (m + 16) = M1 (m + 16) := hzS
                show jWp 196 91 [some (jO m), some (jI (N1 : Int)), some (jI z), some (jI a), some (jI o), some (jI (t : Int))] [jI 0, jI o] 0 0 (M2, w.2) _
                refine jWp.ifc (b := true) mt rfl (by decide) rfl ?_
                show jWp 196 98 [some (jO m), some (jI (N1 : Int)), some (jI z), some (jI a), some (jI o), some (jI (t : Int))] [jI o] 0 0 (M2, w.2) _
                refine jWp.blk mt 5 ?_
                show jWp 196 64 [some (jO m), some (jI (N1 : Int)), some (jI z), some (jI a), some (jI (o + 0)), some (jI ((t : Int) + 1))] [] 0 0 (M2, w.2) _
                refine jWp.le (l := [some (jO m), some (jI (N1 : Int)), some (jI z), some (jI a), some (jI (o + 0)), some (jI ((t : Int) + 1))]) (by exact ⟨rfl, rfl, rfl, rfl, rfl, rfl, trivial⟩) ?_
                exact ih7 (t + 1) _ M2 (by omega) (by omega) hmq2 (by rw [hzS]; exact hS1) (by rw [hz22, hzS, Int.add_zero]; have g := hr.1; rw [show N1 - t = (N1 - (t + 1)) + 1 by omega, zlF_f hz] at g; have g2 := hr.2; rw [show N1 - t = (N1 - (t + 1)) + 1 by omega, zlF_f hz] at g2; exact ⟨g, g2⟩) (by omega)
        refine jWp.le (l := [some (jO m), some (jI (N1 : Int)), some (jI z), some (jI a), some (jI 0), some (jI 0)]) (by exact ⟨rfl, rfl, rfl, rfl, rfl, rfl, trivial⟩) ?_
        exact lp6 _ 0 0 (kA (jW w m 22 z) (m + 16) T4).1 (by omega) (by omega) (mq_A (mq_S mq_0 (by decide)) (by omega)) (by rw [kA_fs]; exact zeq_S hT5b hS) (by rw [kA_fs, show (kA (jW w m 22 z) (m + 16) T4).1 m 22 = z from (kA_a (by omega)).trans jW_s]; have c := zlF_c (n := n) (by omega) hn4 N1 z _ _ hT5b; exact ⟨by rw [Int.zero_add]; exact c.1, c.2⟩) (Nat.lt_succ_self _)
      · have h3 : ¬ (0 ≤ a ∧ a ≤ 1) := h3
        show jWp 196 32 [some (jO m), some (jI N), some (jI z), some (jI a), none, none] [jI 0] 0 0 w _
        refine jWp.ifc (b := false) mt rfl (by decide) rfl ?_
        show jWp 196 35 [some (jO m), some (jI N), some (jI z), some (jI a), none, none] [] 0 0 w _
        refine jWp.blk mt 2 ?_
        show _ ∧ jWp 196 38 [some (jO m), some (jI N), some (jI z), some (jI a), none, none] [jI (-2), jO m] 0 0 w _
        refine ⟨rfl, ?_⟩
        refine jWp.callv (as := [jO m, jI (-2)]) (rest := []) mt rfl rfl rfl ⟨rfl, jtg hW.K0⟩ ?_
        refine jCall.mono (E_refuses (w := w) (j := 2) hW (by decide) (by decide)) (fun v9 w9 h9 => ?_)
        obtain ⟨rfl, h9⟩ := h9
        subst h9
        show jWp 196 41 [some (jO m), some (jI N), some (jI z), some (jI a), none, none] [jI (-2)] 0 0 (jW w (m + 3) 2 ((w.1 (m + 3) 2) + 1)) _
        refine jWp.ireti mt rfl ⟨rfl, rfl⟩ rfl ?_
        refine ⟨fun c0 => ?_, fun c0 c1 => ?_, fun c0 c1 c2 => ?_, fun c0 c1 c2 => ?_⟩
        all_goals first
        | (exfalso; omega)
        | exact ⟨rfl, rfl⟩
    · have h2 : 30 < N := h2
      refine jWp.blk mt 2 ?_
      show _ ∧ jWp 196 21 [some (jO m), some (jI N), some (jI z), some (jI a), none, none] [jI (-6), jO m] 0 0 w _
      refine ⟨rfl, ?_⟩
      refine jWp.callv (as := [jO m, jI (-6)]) (rest := []) mt rfl rfl rfl ⟨rfl, jtg hW.K0⟩ ?_
      refine jCall.mono (E_refuses (w := w) (j := 6) hW (by decide) (by decide)) (fun v9 w9 h9 => ?_)
      obtain ⟨rfl, h9⟩ := h9
      subst h9
      show jWp 196 24 [some (jO m), some (jI N), some (jI z), some (jI a), none, none] [jI (-6)] 0 0 (jW w (m + 3) 6 ((w.1 (m + 3) 6) + 1)) _
      refine jWp.ireti mt rfl ⟨rfl, rfl⟩ rfl ?_
      refine ⟨fun c0 => ?_, fun c0 c1 => ?_, fun c0 c1 c2 => ?_, fun c0 c1 c2 => ?_⟩
      all_goals first
      | (exfalso; omega)
      | exact ⟨rfl, rfl⟩
  · have h1 : N < 1 := h1
    refine jWp.blk mt 2 ?_
    show _ ∧ jWp 196 8 [some (jO m), some (jI N), some (jI z), some (jI a), none, none] [jI (-4), jO m] 0 0 w _
    refine ⟨rfl, ?_⟩
    refine jWp.callv (as := [jO m, jI (-4)]) (rest := []) mt rfl rfl rfl ⟨rfl, jtg hW.K0⟩ ?_
    refine jCall.mono (E_refuses (w := w) (j := 4) hW (by decide) (by decide)) (fun v9 w9 h9 => ?_)
    obtain ⟨rfl, h9⟩ := h9
    subst h9
    show jWp 196 11 [some (jO m), some (jI N), some (jI z), some (jI a), none, none] [jI (-4)] 0 0 (jW w (m + 3) 4 ((w.1 (m + 3) 4) + 1)) _
    refine jWp.ireti mt rfl ⟨rfl, rfl⟩ rfl ?_
    refine ⟨fun c0 => ?_, fun c0 c1 => ?_, fun c0 c1 c2 => ?_, fun c0 c1 c2 => ?_⟩
    all_goals first
    | (exfalso; omega)
    | exact ⟨rfl, rfl⟩
