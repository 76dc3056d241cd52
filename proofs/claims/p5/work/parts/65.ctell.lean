theorem cR_new {g : Prop} {C : Nat → Int} {n : Nat} (h2 : 2 ≤ n) (h4 : n ≤ 4) (hC : cR g C (zBg (fun j => if j = 0 then (n : Int) else if j < 17 then 0 else 1)) n) : cR g C (zNw n) n := by
  refine cR_c (fun j hj => ?_) hC
  unfold zNw zBg
  dsimp only
  by_cases a : j < 21
  · rw [if_pos a]
    by_cases b : j = 0
    · rw [if_pos b, if_pos b]
    · rw [if_neg b, if_neg b]
      by_cases c : j < 17
      · rw [if_pos c, if_pos c]
      · rw [if_neg c, if_neg c, if_pos (by omega)]
  · rw [if_neg a, if_neg (by omega), if_neg (by omega)]
    by_cases b : j < 25
    · rw [if_pos b, if_pos (by omega), if_neg (by omega), if_neg (by omega)]
    · rw [if_neg b]
set_option maxHeartbeats 4000000 in
set_option maxRecDepth 20000 in
theorem C_clear {w : jS} {s sc : Nat} (hks : w.2.1 s = (6, 0)) (hkc : w.2.1 sc = (100, 44)) (hrc : w.2.2.1 s 1 = some sc) {l : Int} (hrl : r32 l) : jCall 42 [jO s, jI l] w (fun v w1 => ((2 ≤ l ∧ l ≤ 4) → v = some (jI 1) ∧ (w1.2 = w.2 ∧ ∀ a, a ≠ s → a ≠ sc → w1.1 a = w.1 a) ∧ w1.1 s 0 = l ∧ ∀ g, cR g (w1.1 sc) (zNw l.toNat) l.toNat) ∧ (¬ (2 ≤ l ∧ l ≤ 4) → v = some (jI 0) ∧ w1 = w)) := by
  have mt : jtb 42 = jT42 := rfl
  have hsc : s ≠ sc := kne hks hkc (by decide)
  have hrl1 : -2147483648 ≤ l ∧ l < 2147483648 := hrl
  show jWp 42 0 [some (jO s), some (jI l), none] [] 0 0 w _
  refine jWp.blk mt 2 ?_
  show jWp 42 2 [some (jO s), some (jI l), none] [jI 2, jI l] 0 0 w _
  refine jWp.icmp (pc' := 5) mt rfl rfl (b32_id (by omega) (by omega)) (show b32 2 = 2 by decide) (fun h1 => ?_) (fun h1 => ?_)
  · have h1 : l < 2 := h1
    refine jWp.blk mt 1 ?_
    show jWp 42 11 [some (jO s), some (jI l), none] [jI 0] 0 0 w _
    refine jWp.iretz mt rfl ⟨rfl, rfl⟩ rfl (Or.inl rfl) ?_
    exact ⟨fun c => absurd c (by omega), fun c => ⟨rfl, rfl⟩⟩
  · have h1 : 2 ≤ l := h1
    refine jWp.blk mt 2 ?_
    show jWp 42 7 [some (jO s), some (jI l), none] [jI 4, jI l] 0 0 w _
    refine jWp.icmp (pc' := 10) mt rfl rfl (b32_id (by omega) (by omega)) (show b32 4 = 4 by decide) (fun h2 => ?_) (fun h2 => ?_)
    · have h2 : l ≤ 4 := h2
      obtain ⟨l1, rfl⟩ : ∃ l1 : Nat, l = (l1 : Int) := ⟨l.toNat, by omega⟩
      show jWp 42 12 [some (jO s), some (jI (l1 : Int)), none] [] 0 0 w _
      refine jWp.blk mt 2 ?_
      show _ ∧ jWp 42 14 [some (jO s), some (jI (l1 : Int)), none] [jI (l1 : Int), jO s] 0 0 w _
      refine ⟨rfl, ?_⟩
      refine jWp.putI (pc' := 17) mt rfl rfl (jtg hks) ?_
      show jWp 42 17 [some (jO s), some (jI (l1 : Int)), none] [] 0 0 (jW w s 0 (l1 : Int)) _
      refine jWp.blk mt 1 ?_
      show _ ∧ jWp 42 18 [some (jO s), some (jI (l1 : Int)), none] [jO s] 0 0 (jW w s 0 (l1 : Int)) _
      refine ⟨rfl, ?_⟩
      refine jWp.getR (pc' := 21) (o := sc) mt rfl rfl (jtg hks) hrc ?_
      show jWp 42 21 [some (jO s), some (jI (l1 : Int)), none] [jO sc] 0 0 (jW w s 0 (l1 : Int)) _
      refine jWp.blk mt 1 ?_
      show jWp 42 22 [some (jO s), some (jI (l1 : Int)), none] [jI 0, jO sc] 0 0 (jW w s 0 (l1 : Int)) _
      refine jWp.calls (as := [jO sc, jI 0]) (rest := []) mt rfl rfl rfl rfl ?_
      refine jCall.mono (E_fill (w := (jW w s 0 (l1 : Int))) hkc (by decide)) (fun v9 w9 h9 => ?_)
      obtain ⟨rfl, T, h9, hT⟩ := h9
      subst h9
      have hT : ∀ e, e < 44 → T e = 0 := fun e he => (hT e).trans (if_pos he)
      show jWp 42 25 [some (jO s), some (jI (l1 : Int)), none] [] 0 0 (kA (jW w s 0 (l1 : Int)) sc T) _
      refine jWp.blk mt 2 ?_
      show jWp 42 27 [some (jO s), some (jI (l1 : Int)), some (jI 0)] [] 0 0 (kA (jW w s 0 (l1 : Int)) sc T) _
      have lp3 : ∀ (N : Nat) (i : Nat) (T : Nat → Int) (hi : i ≤ l1) (hT : ∀ e, e < 44 → T e = if 24 ≤ e ∧ e < 24 + i then 1 else 0), l1 - i < N → jWp 42 27 [some (jO s), none, some (jI (i : Int))] [] 0 0 (kA (jW w s 0 (l1 : Int)) sc T) (fun v w1 => ((2 ≤ (l1 : Int) ∧ (l1 : Int) ≤ 4) → v = some (jI 1) ∧ (w1.2 = w.2 ∧ ∀ a, a ≠ s → a ≠ sc → w1.1 a = w.1 a) ∧ w1.1 s 0 = (l1 : Int) ∧ ∀ g, cR g (w1.1 sc) (zNw (l1 : Int).toNat) (l1 : Int).toNat) ∧ (¬ (2 ≤ (l1 : Int) ∧ (l1 : Int) ≤ 4) → v = some (jI 0) ∧ w1 = w)) := by
        intro N
        induction N with
        | zero => intro i T hi hT hm; omega
        | succ N ih4 =>
          intro i T hi hT hm
          have hU : l1 ≤ i → ∀ j, 8 ≤ j → j < 28 → T j = cz (fun j => if j = 0 then (l1 : Int) else if j < 17 then 0 else 1) l1 j := fun hge j h1 h2 => by
            rw [hT j (by omega)]
            by_cases j3 : j < 24
            · rw [if_neg (by omega), cz_t h1 j3, if_neg (by omega), if_pos (by omega)]
            · rw [cz_m (by omega) h2]
              by_cases jn : j - 24 < l1
              · rw [if_pos (by omega), if_pos jn, if_neg (by omega), if_neg (by omega)]
              · rw [if_neg (by omega), if_neg jn]
          have hV : ∀ j, j < 44 → (j < 24 ∨ 28 ≤ j) → T j = 0 := fun j h1 h2 => (hT j h1).trans (if_neg (by omega))
          refine jWp.blk mt 2 ?_
          show _ ∧ jWp 42 29 [some (jO s), none, some (jI (i : Int))] [jO s, jI (i : Int)] 0 0 (kA (jW w s 0 (l1 : Int)) sc T) _
          refine ⟨rfl, ?_⟩
          refine jWp.getI (pc' := 32) mt rfl rfl (jtg hks) ?_
          rw [show ((kA (jW w s 0 (l1 : Int)) sc T).1 s 0) = (l1 : Int) from ((kA_a (by omega)).trans jW_s)]
          show jWp 42 32 [some (jO s), none, some (jI (i : Int))] [jI (l1 : Int), jI (i : Int)] 0 0 (kA (jW w s 0 (l1 : Int)) sc T) _
          refine jWp.icmp (pc' := 35) mt rfl rfl (b32_id (by omega) (by omega)) (b32_id (by omega) (by omega)) (fun h5 => ?_) (fun h5 => ?_)
          · have h5 : (l1 : Int) ≤ (i : Int) := h5
            refine jWp.blk mt 1 ?_
            show _ ∧ jWp 42 52 [some (jO s), none, some (jI (i : Int))] [jO s] 0 0 (kA (jW w s 0 (l1 : Int)) sc T) _
            refine ⟨rfl, ?_⟩
            refine jWp.callv (as := [jO s]) (rest := []) mt rfl rfl rfl ⟨rfl, jtg hks⟩ ?_
            refine jCall.mono (C_begin (g := True) (w := (kA (jW w s 0 (l1 : Int)) sc T)) (n := l1) (q := (fun j => if j = 0 then (l1 : Int) else if j < 17 then 0 else 1)) hks hkc hrc (((kA_a (by omega)).trans jW_s)) (by omega) (fun j h1 h2 => by
          rw [show (kA (jW w s 0 (l1 : Int)) sc T).1 sc j = T j from kA_s, hU (by omega) j h1 h2]) (fun j h1 h2 => kA_s.trans (hV j (by omega) (by omega))) (fun j h1 h2 h3 => kA_s.trans (hV j (by omega) (by omega)))) (fun v9 w9 h9 => ?_)
            obtain ⟨rfl, T5, h9, hT5⟩ := h9
            subst h9
            rw [show kA (kA (jW w s 0 (l1 : Int)) sc T) sc T5 = kA (jW w s 0 (l1 : Int)) sc T5 from kA_A]
            show jWp 42 55 [some (jO s), none, some (jI (i : Int))] [] 0 0 (kA (jW w s 0 (l1 : Int)) sc T5) _
            refine jWp.blk mt 1 ?_
            show jWp 42 56 [some (jO s), none, some (jI (i : Int))] [jI 1] 0 0 (kA (jW w s 0 (l1 : Int)) sc T5) _
            refine jWp.iretz mt rfl ⟨rfl, rfl⟩ rfl (Or.inr rfl) ?_
            refine ⟨fun c => ⟨rfl, ⟨rfl, fun a ga gb => ((kA_f (by omega)).trans ((jW_f (by omega)).trans rfl))⟩, ((kA_a (by omega)).trans jW_s), fun g => ?_⟩, fun c => absurd ⟨by omega, by omega⟩ c⟩
            rw [show (kA (jW w s 0 (l1 : Int)) sc T5).1 sc = T5 from kA_fs]
            have hx := cR_new (by omega) (by omega) hT5
            exact ⟨hx.1, fun _ => hx.2.1 trivial, hx.2.2⟩
          · have h5 : (i : Int) < (l1 : Int) := h5
            refine jWp.blk mt 1 ?_
            show _ ∧ jWp 42 36 [some (jO s), none, some (jI (i : Int))] [jO s] 0 0 (kA (jW w s 0 (l1 : Int)) sc T) _
            refine ⟨rfl, ?_⟩
            refine jWp.getR (pc' := 39) (o := sc) mt rfl rfl (jtg hks) hrc ?_
            show jWp 42 39 [some (jO s), none, some (jI (i : Int))] [jO sc] 0 0 (kA (jW w s 0 (l1 : Int)) sc T) _
            refine jWp.blk mt 4 ?_
            show jWp 42 44 [some (jO s), none, some (jI (i : Int))] [jI 1, jI (24 + (i : Int)), jO sc] 0 0 (kA (jW w s 0 (l1 : Int)) sc T) _
            refine jWp.iast (pc' := 45) (j := (24 + i)) mt rfl rfl (jtg hkc) (by rw [b32_id (by omega) (by omega)]; omega) (jlt hkc (by omega)) ?_
            rw [show jW (kA (jW w s 0 (l1 : Int)) sc T) sc (24 + i) 1 = (kA (jW w s 0 (l1 : Int)) sc (zset T (24 + i) 1)) from kA_W]
            show jWp 42 45 [some (jO s), none, some (jI (i : Int))] [] 0 0 (kA (jW w s 0 (l1 : Int)) sc (zset T (24 + i) 1)) _
            refine jWp.blk mt 2 ?_
            show jWp 42 27 [some (jO s), none, some (jI ((i : Int) + 1))] [] 0 0 (kA (jW w s 0 (l1 : Int)) sc (zset T (24 + i) 1)) _
            refine jWp.le (l := [some (jO s), none, some (jI ((i : Int) + 1))]) (by exact ⟨rfl, rfl, trivial⟩) ?_
            exact ih4 (i + 1) _ (by omega) (fun e he => by by_cases ee : e = 24 + i; rw [ee, zset_s, if_pos (by omega)]; rw [zset_n ee]; exact zif_1 (hT e he) (by omega)) (by omega)
      refine jWp.le (l := [some (jO s), none, some (jI 0)]) (by exact ⟨rfl, rfl, trivial⟩) ?_
      exact lp3 _ 0 T (by omega) (fun e he => (hT e he).trans (if_neg (by omega)).symm) (Nat.lt_succ_self _)
    · have h2 : 4 < l := h2
      refine jWp.blk mt 1 ?_
      show jWp 42 11 [some (jO s), some (jI l), none] [jI 0] 0 0 w _
      refine jWp.iretz mt rfl ⟨rfl, rfl⟩ rfl (Or.inl rfl) ?_
      exact ⟨fun c => absurd c (by omega), fun c => ⟨rfl, rfl⟩⟩
set_option maxHeartbeats 4000000 in
set_option maxRecDepth 20000 in
theorem C_become {w : jS} {s sc : Nat} (hks : w.2.1 s = (6, 0)) (hkc : w.2.1 sc = (100, 44)) (hrc : w.2.2.1 s 1 = some sc) {s2 sc2 : Nat} {x : Int} (hks2 : w.2.1 s2 = (6, 0)) (hkc2 : w.2.1 sc2 = (100, 44)) (hrc2 : w.2.2.1 s2 1 = some sc2) (hx : w.1 s2 0 = x) : jCall 44 [jO s, jO s2] w (fun v w1 => v = none ∧ (w1.2 = w.2 ∧ ∀ a, a ≠ s → a ≠ sc → w1.1 a = w.1 a) ∧ w1.1 s 0 = x ∧ ∀ j, j < 44 → w1.1 sc j = w.1 sc2 j) := by
  have mt : jtb 44 = jT44 := rfl
  have hsc : s ≠ sc := kne hks hkc (by decide)
  have hsc2 : s ≠ sc2 := kne hks hkc2 (by decide)
  show jWp 44 0 [some (jO s), some (jO s2)] [] 0 0 w _
  refine jWp.blk mt 2 ?_
  show _ ∧ _ ∧ jWp 44 2 [some (jO s), some (jO s2)] [jO s2, jO s] 0 0 w _
  refine ⟨rfl, rfl, ?_⟩
  refine jWp.getI (pc' := 5) mt rfl rfl (jtg hks2) ?_
  rw [show (w.1 s2 0) = x from hx]
  show jWp 44 5 [some (jO s), some (jO s2)] [jI x, jO s] 0 0 w _
  refine jWp.putI (pc' := 8) mt rfl rfl (jtg hks) ?_
  show jWp 44 8 [some (jO s), some (jO s2)] [] 0 0 (jW w s 0 x) _
  refine jWp.blk mt 1 ?_
  show _ ∧ jWp 44 9 [some (jO s), some (jO s2)] [jO s2] 0 0 (jW w s 0 x) _
  refine ⟨rfl, ?_⟩
  refine jWp.getR (pc' := 12) (o := sc2) mt rfl rfl (jtg hks2) hrc2 ?_
  show jWp 44 12 [some (jO s), some (jO s2)] [jO sc2] 0 0 (jW w s 0 x) _
  refine jWp.blk mt 2 ?_
  show _ ∧ jWp 44 14 [some (jO s), some (jO s2)] [jO s, jI 0, jO sc2] 0 0 (jW w s 0 x) _
  refine ⟨rfl, ?_⟩
  refine jWp.getR (pc' := 17) (o := sc) mt rfl rfl (jtg hks) hrc ?_
  show jWp 44 17 [some (jO s), some (jO s2)] [jO sc, jI 0, jO sc2] 0 0 (jW w s 0 x) _
  refine jWp.blk mt 2 ?_
  show jWp 44 20 [some (jO s), some (jO s2)] [jI 44, jI 0, jO sc, jI 0, jO sc2] 0 0 (jW w s 0 x) _
  refine jWp.copy (pc' := 23) (jm := 44) (jd := 0) (js := 0) mt rfl rfl rfl (jtg hkc) (jtg hkc2) (by decide) (by decide) (by decide) (by rw [hkc2]; decide) (by rw [hkc]; decide) ?_
  show jWp 44 23 [some (jO s), some (jO s2)] [] 0 0 (jcpy (jW w s 0 x).1 sc2 0 sc 0 44, (jW w s 0 x).2) _
  refine jWp.vret mt rfl ⟨rfl, rfl⟩ rfl ?_
  refine ⟨rfl, ⟨rfl, fun a ga gb => ?_⟩, ?_, fun j hj => ?_⟩
  · funext j
    exact (if_neg (fun e => gb e.1)).trans (jW_a ga)
  · exact (if_neg (fun e => hsc e.1)).trans jW_s
  · refine (if_pos ⟨rfl, by omega, by omega⟩).trans ?_
    rw [show 0 + (j - 0) = j by omega]
    exact jW_a hsc2.symm
set_option maxHeartbeats 4000000 in
set_option maxRecDepth 20000 in
theorem C_tellEntry {w : jS} {s sc n : Nat} (hks : w.2.1 s = (6, 0)) (hkc : w.2.1 sc = (100, 44)) (hrc : w.2.2.1 s 1 = some sc) (hn0 : w.1 s 0 = (n : Int)) (hn4 : n ≤ 4) {q : Nat → Int} {g : Prop} (hRR : cR g (w.1 sc) q n) {i j v : Int} (hri : r32 i) (hrj : r32 j) (hrv : r32 v) : jCall 53 [jO s, jI i, jI j, jI v] w (fun x w1 => ((0 ≤ i ∧ i < (n : Int)) ∧ (0 ≤ j ∧ j < (n : Int)) ∧ i ≠ j ∧ -9 ≤ v ∧ v ≤ 9 → x = some (jI 1) ∧ (w1.2 = w.2 ∧ ∀ a, a ≠ sc → w1.1 a = w.1 a) ∧ cR g (w1.1 sc) (zBg (zset (zset q (1 + (4 * i.toNat + j.toNat)) v) (1 + (4 * j.toNat + i.toNat)) (-v))) n) ∧ (¬ ((0 ≤ i ∧ i < (n : Int)) ∧ (0 ≤ j ∧ j < (n : Int)) ∧ i ≠ j ∧ -9 ≤ v ∧ v ≤ 9) → x = some (jI 0) ∧ w1 = w)) := by
  have mt : jtb 53 = jT53 := rfl
  have hsc : s ≠ sc := kne hks hkc (by decide)
  have hri1 : -2147483648 ≤ i ∧ i < 2147483648 := hri
  have hrj1 : -2147483648 ≤ j ∧ j < 2147483648 := hrj
  have hrv1 : -2147483648 ≤ v ∧ v < 2147483648 := hrv
  show jWp 53 0 [some (jO s), some (jI i), some (jI j), some (jI v)] [] 0 0 w _
  refine jWp.blk mt 2 ?_
  show _ ∧ jWp 53 2 [some (jO s), some (jI i), some (jI j), some (jI v)] [jI i, jO s] 0 0 w _
  refine ⟨rfl, ?_⟩
  refine jWp.callv (as := [jO s, jI i]) (rest := []) mt rfl rfl rfl ⟨rfl, jtg hks⟩ ?_
  refine jCall.mono (E_has (w := w) (n := n) hks hn0 hn4 (i := i) (by constructor <;> omega)) (fun v9 w9 h9 => ?_)
  rcases h9 with ⟨rfl, h9, h1⟩ | ⟨rfl, h9, h1⟩ <;> subst w9
  · have h1 : 0 ≤ i ∧ i < (n : Int) := h1
    show jWp 53 5 [some (jO s), some (jI i), some (jI j), some (jI v)] [jI 1] 0 0 w _
    refine jWp.ifc (b := false) mt rfl (by decide) rfl ?_
    show jWp 53 8 [some (jO s), some (jI i), some (jI j), some (jI v)] [] 0 0 w _
    refine jWp.blk mt 2 ?_
    show _ ∧ jWp 53 10 [some (jO s), some (jI i), some (jI j), some (jI v)] [jI j, jO s] 0 0 w _
    refine ⟨rfl, ?_⟩
    refine jWp.callv (as := [jO s, jI j]) (rest := []) mt rfl rfl rfl ⟨rfl, jtg hks⟩ ?_
    refine jCall.mono (E_has (w := w) (n := n) hks hn0 hn4 (i := j) (by constructor <;> omega)) (fun v9 w9 h9 => ?_)
    rcases h9 with ⟨rfl, h9, h2⟩ | ⟨rfl, h9, h2⟩ <;> subst w9
    · have h2 : 0 ≤ j ∧ j < (n : Int) := h2
      show jWp 53 13 [some (jO s), some (jI i), some (jI j), some (jI v)] [jI 1] 0 0 w _
      refine jWp.ifc (b := false) mt rfl (by decide) rfl ?_
      show jWp 53 16 [some (jO s), some (jI i), some (jI j), some (jI v)] [] 0 0 w _
      refine jWp.blk mt 2 ?_
      show jWp 53 18 [some (jO s), some (jI i), some (jI j), some (jI v)] [jI j, jI i] 0 0 w _
      refine jWp.icmp (pc' := 21) mt rfl rfl (b32_id (by omega) (by omega)) (b32_id (by omega) (by omega)) (fun h3 => ?_) (fun h3 => ?_)
      · have h3 : i = j := h3
        refine jWp.blk mt 1 ?_
        show jWp 53 34 [some (jO s), some (jI i), some (jI j), some (jI v)] [jI 0] 0 0 w _
        refine jWp.iretz mt rfl ⟨rfl, rfl⟩ rfl (Or.inl rfl) ?_
        exact ⟨fun c => by exfalso; omega, fun c => ⟨rfl, rfl⟩⟩
      · have h3 : i ≠ j := h3
        refine jWp.blk mt 2 ?_
        show jWp 53 24 [some (jO s), some (jI i), some (jI j), some (jI v)] [jI (-9), jI v] 0 0 w _
        refine jWp.icmp (pc' := 27) mt rfl rfl (b32_id (by omega) (by omega)) (show b32 (-9) = (-9) by decide) (fun h4 => ?_) (fun h4 => ?_)
        · have h4 : v < (-9) := h4
          refine jWp.blk mt 1 ?_
          show jWp 53 34 [some (jO s), some (jI i), some (jI j), some (jI v)] [jI 0] 0 0 w _
          refine jWp.iretz mt rfl ⟨rfl, rfl⟩ rfl (Or.inl rfl) ?_
          exact ⟨fun c => by exfalso; omega, fun c => ⟨rfl, rfl⟩⟩
        · have h4 : (-9) ≤ v := h4
          refine jWp.blk mt 2 ?_
          show jWp 53 30 [some (jO s), some (jI i), some (jI j), some (jI v)] [jI 9, jI v] 0 0 w _
          refine jWp.icmp (pc' := 33) mt rfl rfl (b32_id (by omega) (by omega)) (show b32 9 = 9 by decide) (fun h5 => ?_) (fun h5 => ?_)
          · have h5 : v ≤ 9 := h5
            obtain ⟨i1, rfl⟩ : ∃ i1 : Nat, i = (i1 : Int) := ⟨i.toNat, by omega⟩
            show jWp 53 35 [some (jO s), some (jI (i1 : Int)), some (jI j), some (jI v)] [] 0 0 w _
            obtain ⟨j1, rfl⟩ : ∃ j1 : Nat, j = (j1 : Int) := ⟨j.toNat, by omega⟩
            show jWp 53 35 [some (jO s), some (jI (i1 : Int)), some (jI (j1 : Int)), some (jI v)] [] 0 0 w _
            refine jWp.blk mt 4 ?_
            show _ ∧ jWp 53 39 [some (jO s), some (jI (i1 : Int)), some (jI (j1 : Int)), some (jI v)] [jI v, jI (j1 : Int), jI (i1 : Int), jO s] 0 0 w _
            refine ⟨rfl, ?_⟩
            refine jWp.callv (as := [jO s, jI (i1 : Int), jI (j1 : Int), jI v]) (rest := []) mt rfl rfl rfl ⟨rfl, jtg hks⟩ ?_
            refine jCall.mono (E_setB (w := w) (n := n) (i := i1) (j := j1) (v := v) hks hkc hrc hn0 hn4 (by omega) (by omega)) (fun v9 w9 h9 => ?_)
            obtain ⟨rfl, h9⟩ := h9
            subst h9
            show jWp 53 42 [some (jO s), some (jI (i1 : Int)), some (jI (j1 : Int)), some (jI v)] [] 0 0 (jW w sc (8 + (4 * i1 + j1)) v) _
            refine jWp.blk mt 5 ?_
            show _ ∧ jWp 53 47 [some (jO s), some (jI (i1 : Int)), some (jI (j1 : Int)), some (jI v)] [jI (-v), jI (i1 : Int), jI (j1 : Int), jO s] 0 0 (jW w sc (8 + (4 * i1 + j1)) v) _
            refine ⟨rfl, ?_⟩
            refine jWp.callv (as := [jO s, jI (j1 : Int), jI (i1 : Int), jI (-v)]) (rest := []) mt rfl rfl rfl ⟨rfl, jtg hks⟩ ?_
            refine jCall.mono (E_setB (w := (jW w sc (8 + (4 * i1 + j1)) v)) (n := n) (i := j1) (j := i1) (v := (-v)) hks hkc hrc (((jW_a (by omega)).trans rfl).trans hn0) hn4 (by omega) (by omega)) (fun v9 w9 h9 => ?_)
            obtain ⟨rfl, h9⟩ := h9
            subst h9
            show jWp 53 50 [some (jO s), some (jI (i1 : Int)), some (jI (j1 : Int)), some (jI v)] [] 0 0 (jW (jW w sc (8 + (4 * i1 + j1)) v) sc (8 + (4 * j1 + i1)) (-v)) _
            refine jWp.blk mt 1 ?_
            show _ ∧ jWp 53 51 [some (jO s), some (jI (i1 : Int)), some (jI (j1 : Int)), some (jI v)] [jO s] 0 0 (jW (jW w sc (8 + (4 * i1 + j1)) v) sc (8 + (4 * j1 + i1)) (-v)) _
            refine ⟨rfl, ?_⟩
            refine jWp.callv (as := [jO s]) (rest := []) mt rfl rfl rfl ⟨rfl, jtg hks⟩ ?_
            refine jCall.mono (C_begin (g := g) (w := (jW (jW w sc (8 + (4 * i1 + j1)) v) sc (8 + (4 * j1 + i1)) (-v))) (n := n) (q := (zset (zset q (1 + (4 * i1 + j1)) v) (1 + (4 * j1 + i1)) (-v))) hks hkc hrc (((jW_a (by omega)).trans ((jW_a (by omega)).trans rfl)).trans hn0) hn4 (fun e he1 he2 => by
            rw [cz_set (by omega) e he2, cz_set (by omega) e he2]
            by_cases e2 : e = 8 + (4 * j1 + i1)
            · rw [e2, if_pos rfl]; exact jW_s
            · rw [if_neg e2]
              refine (jW_k e2).trans ?_
              by_cases e1 : e = 8 + (4 * i1 + j1)
              · rw [e1, if_pos rfl]; exact jW_s
              · rw [if_neg e1]; exact (jW_k e1).trans (hRR.1 e he2)) (fun e he c => (jW_k (by omega)).trans ((jW_k (by omega)).trans (cR_z hRR e he c))) (fun e h1 h2 c => (jW_k (by omega)).trans ((jW_k (by omega)).trans (hRR.2.2 e h1 h2 c)))) (fun v9 w9 h9 => ?_)
            obtain ⟨rfl, T5, h9, hT5⟩ := h9
            subst h9
            show jWp 53 54 [some (jO s), some (jI (i1 : Int)), some (jI (j1 : Int)), some (jI v)] [] 0 0 (kA (jW (jW w sc (8 + (4 * i1 + j1)) v) sc (8 + (4 * j1 + i1)) (-v)) sc T5) _
            refine jWp.blk mt 1 ?_
            show jWp 53 55 [some (jO s), some (jI (i1 : Int)), some (jI (j1 : Int)), some (jI v)] [jI 1] 0 0 (kA (jW (jW w sc (8 + (4 * i1 + j1)) v) sc (8 + (4 * j1 + i1)) (-v)) sc T5) _
            refine jWp.iretz mt rfl ⟨rfl, rfl⟩ rfl (Or.inr rfl) ?_
            try rw [show ((i1 : Nat) : Int).toNat = i1 from rfl]
            try rw [show ((j1 : Nat) : Int).toNat = j1 from rfl]
            refine ⟨fun c => ⟨rfl, ⟨rfl, fun a ga => ((kA_f (by omega)).trans ((jW_f (by omega)).trans ((jW_f (by omega)).trans rfl)))⟩, ?_⟩, fun c => by exfalso; omega⟩
            rw [show (kA (jW (jW w sc (8 + (4 * i1 + j1)) v) sc (8 + (4 * j1 + i1)) (-v)) sc T5).1 sc = T5 from kA_fs]
            exact hT5
          · have h5 : 9 < v := h5
            refine jWp.blk mt 1 ?_
            show jWp 53 34 [some (jO s), some (jI i), some (jI j), some (jI v)] [jI 0] 0 0 w _
            refine jWp.iretz mt rfl ⟨rfl, rfl⟩ rfl (Or.inl rfl) ?_
            exact ⟨fun c => by exfalso; omega, fun c => ⟨rfl, rfl⟩⟩
    · have h2 : ¬ (0 ≤ j ∧ j < (n : Int)) := h2
      show jWp 53 13 [some (jO s), some (jI i), some (jI j), some (jI v)] [jI 0] 0 0 w _
      refine jWp.ifc (b := true) mt rfl (by decide) rfl ?_
      show jWp 53 33 [some (jO s), some (jI i), some (jI j), some (jI v)] [] 0 0 w _
      refine jWp.blk mt 1 ?_
      show jWp 53 34 [some (jO s), some (jI i), some (jI j), some (jI v)] [jI 0] 0 0 w _
      refine jWp.iretz mt rfl ⟨rfl, rfl⟩ rfl (Or.inl rfl) ?_
      exact ⟨fun c => by exfalso; omega, fun c => ⟨rfl, rfl⟩⟩
  · have h1 : ¬ (0 ≤ i ∧ i < (n : Int)) := h1
    show jWp 53 5 [some (jO s), some (jI i), some (jI j), some (jI v)] [jI 0] 0 0 w _
    refine jWp.ifc (b := true) mt rfl (by decide) rfl ?_
    show jWp 53 33 [some (jO s), some (jI i), some (jI j), some (jI v)] [] 0 0 w _
    refine jWp.blk mt 1 ?_
    show jWp 53 34 [some (jO s), some (jI i), some (jI j), some (jI v)] [jI 0] 0 0 w _
    refine jWp.iretz mt rfl ⟨rfl, rfl⟩ rfl (Or.inl rfl) ?_
    exact ⟨fun c => by exfalso; omega, fun c => ⟨rfl, rfl⟩⟩
set_option maxHeartbeats 4000000 in
set_option maxRecDepth 20000 in
theorem C_tellFirst {w : jS} {s sc n : Nat} (hks : w.2.1 s = (6, 0)) (hkc : w.2.1 sc = (100, 44)) (hrc : w.2.2.1 s 1 = some sc) (hn0 : w.1 s 0 = (n : Int)) (hn4 : n ≤ 4) {q : Nat → Int} {g : Prop} (hRR : cR g (w.1 sc) q n) {i j : Int} (hri : r32 i) (hrj : r32 j) : jCall 54 [jO s, jI i, jI j] w (fun x w1 => ((0 ≤ i ∧ i < (n : Int)) ∧ 1 ≤ j ∧ j ≤ 9 → x = some (jI 1) ∧ (w1.2 = w.2 ∧ ∀ a, a ≠ sc → w1.1 a = w.1 a) ∧ cR g (w1.1 sc) (zBg (zset q (17 + i.toNat) j)) n) ∧ (¬ ((0 ≤ i ∧ i < (n : Int)) ∧ 1 ≤ j ∧ j ≤ 9) → x = some (jI 0) ∧ w1 = w)) := by
  have mt : jtb 54 = jT54 := rfl
  have hsc : s ≠ sc := kne hks hkc (by decide)
  have hri1 : -2147483648 ≤ i ∧ i < 2147483648 := hri
  have hrj1 : -2147483648 ≤ j ∧ j < 2147483648 := hrj
  show jWp 54 0 [some (jO s), some (jI i), some (jI j)] [] 0 0 w _
  refine jWp.blk mt 2 ?_
  show _ ∧ jWp 54 2 [some (jO s), some (jI i), some (jI j)] [jI i, jO s] 0 0 w _
  refine ⟨rfl, ?_⟩
  refine jWp.callv (as := [jO s, jI i]) (rest := []) mt rfl rfl rfl ⟨rfl, jtg hks⟩ ?_
  refine jCall.mono (E_has (w := w) (n := n) hks hn0 hn4 (i := i) (by constructor <;> omega)) (fun v9 w9 h9 => ?_)
  rcases h9 with ⟨rfl, h9, h1⟩ | ⟨rfl, h9, h1⟩ <;> subst w9
  · have h1 : 0 ≤ i ∧ i < (n : Int) := h1
    show jWp 54 5 [some (jO s), some (jI i), some (jI j)] [jI 1] 0 0 w _
    refine jWp.ifc (b := false) mt rfl (by decide) rfl ?_
    show jWp 54 8 [some (jO s), some (jI i), some (jI j)] [] 0 0 w _
    refine jWp.blk mt 2 ?_
    show jWp 54 10 [some (jO s), some (jI i), some (jI j)] [jI 1, jI j] 0 0 w _
    refine jWp.icmp (pc' := 13) mt rfl rfl (b32_id (by omega) (by omega)) (show b32 1 = 1 by decide) (fun h2 => ?_) (fun h2 => ?_)
    · have h2 : j < 1 := h2
      refine jWp.blk mt 1 ?_
      show jWp 54 20 [some (jO s), some (jI i), some (jI j)] [jI 0] 0 0 w _
      refine jWp.iretz mt rfl ⟨rfl, rfl⟩ rfl (Or.inl rfl) ?_
      exact ⟨fun c => by exfalso; omega, fun c => ⟨rfl, rfl⟩⟩
    · have h2 : 1 ≤ j := h2
      refine jWp.blk mt 2 ?_
      show jWp 54 16 [some (jO s), some (jI i), some (jI j)] [jI 9, jI j] 0 0 w _
      refine jWp.icmp (pc' := 19) mt rfl rfl (b32_id (by omega) (by omega)) (show b32 9 = 9 by decide) (fun h3 => ?_) (fun h3 => ?_)
      · have h3 : j ≤ 9 := h3
        obtain ⟨i1, rfl⟩ : ∃ i1 : Nat, i = (i1 : Int) := ⟨i.toNat, by omega⟩
        show jWp 54 21 [some (jO s), some (jI (i1 : Int)), some (jI j)] [] 0 0 w _
        refine jWp.blk mt 1 ?_
        show _ ∧ jWp 54 22 [some (jO s), some (jI (i1 : Int)), some (jI j)] [jO s] 0 0 w _
        refine ⟨rfl, ?_⟩
        refine jWp.getR (pc' := 25) (o := sc) mt rfl rfl (jtg hks) hrc ?_
        show jWp 54 25 [some (jO s), some (jI (i1 : Int)), some (jI j)] [jO sc] 0 0 w _
        refine jWp.blk mt 4 ?_
        show jWp 54 30 [some (jO s), some (jI (i1 : Int)), some (jI j)] [jI j, jI (24 + (i1 : Int)), jO sc] 0 0 w _
        refine jWp.iast (pc' := 31) (j := (24 + i1)) mt rfl rfl (jtg hkc) (by rw [b32_id (by omega) (by omega)]; omega) (jlt hkc (by omega)) ?_
        show jWp 54 31 [some (jO s), some (jI (i1 : Int)), some (jI j)] [] 0 0 (jW w sc (24 + i1) j) _
        refine jWp.blk mt 1 ?_
        show _ ∧ jWp 54 32 [some (jO s), some (jI (i1 : Int)), some (jI j)] [jO s] 0 0 (jW w sc (24 + i1) j) _
        refine ⟨rfl, ?_⟩
        refine jWp.callv (as := [jO s]) (rest := []) mt rfl rfl rfl ⟨rfl, jtg hks⟩ ?_
        refine jCall.mono (C_begin (g := g) (w := (jW w sc (24 + i1) j)) (n := n) (q := (zset q (17 + i1) j)) hks hkc hrc (((jW_a (by omega)).trans rfl).trans hn0) hn4 (fun e he1 he2 => by
            rw [cz_sts hn4 (by omega) e he1 he2]
            by_cases e1 : e = 24 + i1
            · rw [e1, if_pos rfl]; exact jW_s
            · rw [if_neg e1]; exact (jW_k e1).trans (hRR.1 e he2)) (fun e he c => (jW_k (by omega)).trans (cR_z hRR e he c)) (fun e h1 h2 c => (jW_k (by omega)).trans (hRR.2.2 e h1 h2 c))) (fun v9 w9 h9 => ?_)
        obtain ⟨rfl, T5, h9, hT5⟩ := h9
        subst h9
        show jWp 54 35 [some (jO s), some (jI (i1 : Int)), some (jI j)] [] 0 0 (kA (jW w sc (24 + i1) j) sc T5) _
        refine jWp.blk mt 1 ?_
        show jWp 54 36 [some (jO s), some (jI (i1 : Int)), some (jI j)] [jI 1] 0 0 (kA (jW w sc (24 + i1) j) sc T5) _
        refine jWp.iretz mt rfl ⟨rfl, rfl⟩ rfl (Or.inr rfl) ?_
        try rw [show ((i1 : Nat) : Int).toNat = i1 from rfl]
        try rw [show ((j1 : Nat) : Int).toNat = j1 from rfl]
        refine ⟨fun c => ⟨rfl, ⟨rfl, fun a ga => ((kA_f (by omega)).trans ((jW_f (by omega)).trans rfl))⟩, ?_⟩, fun c => by exfalso; omega⟩
        rw [show (kA (jW w sc (24 + i1) j) sc T5).1 sc = T5 from kA_fs]
        exact hT5
      · have h3 : 9 < j := h3
        refine jWp.blk mt 1 ?_
        show jWp 54 20 [some (jO s), some (jI i), some (jI j)] [jI 0] 0 0 w _
        refine jWp.iretz mt rfl ⟨rfl, rfl⟩ rfl (Or.inl rfl) ?_
        exact ⟨fun c => by exfalso; omega, fun c => ⟨rfl, rfl⟩⟩
  · have h1 : ¬ (0 ≤ i ∧ i < (n : Int)) := h1
    show jWp 54 5 [some (jO s), some (jI i), some (jI j)] [jI 0] 0 0 w _
    refine jWp.ifc (b := true) mt rfl (by decide) rfl ?_
    show jWp 54 19 [some (jO s), some (jI i), some (jI j)] [] 0 0 w _
    refine jWp.blk mt 1 ?_
    show jWp 54 20 [some (jO s), some (jI i), some (jI j)] [jI 0] 0 0 w _
    refine jWp.iretz mt rfl ⟨rfl, rfl⟩ rfl (Or.inl rfl) ?_
    exact ⟨fun c => by exfalso; omega, fun c => ⟨rfl, rfl⟩⟩
set_option maxHeartbeats 4000000 in
set_option maxRecDepth 20000 in
theorem C_swap0 {w : jS} {s sc : Nat} (hks : w.2.1 s = (6, 0)) (hkc : w.2.1 sc = (100, 44)) (hrc : w.2.2.1 s 1 = some sc) {x y : Nat} (hx : x < 44) (hy : y < 44) : jCall 57 [jO s, jI (x : Int), jI (y : Int)] w (fun v w1 => v = none ∧ w1 = kA w sc (zch (w.1 sc) x y)) := by
  have mt : jtb 57 = jT57 := rfl
  show jWp 57 0 [some (jO s), some (jI (x : Int)), some (jI (y : Int)), none] [] 0 0 w _
  refine jWp.blk mt 1 ?_
  show jWp 57 1 [some (jO s), some (jI (x : Int)), some (jI (y : Int)), none] [jI (x : Int)] 0 0 w _
  refine jWp.ifz (pc' := 4) mt rfl rfl (b32_id (by omega) (by omega)) (fun h1 => ?_) (fun h1 => ?_)
  · have h1 : (x : Int) < 0 := h1
    exfalso; omega
  · have h1 : 0 ≤ (x : Int) := h1
    refine jWp.blk mt 2 ?_
    show jWp 57 7 [some (jO s), some (jI (x : Int)), some (jI (y : Int)), none] [jI 44, jI (x : Int)] 0 0 w _
    refine jWp.icmp (pc' := 10) mt rfl rfl (b32_id (by omega) (by omega)) (show b32 44 = 44 by decide) (fun h2 => ?_) (fun h2 => ?_)
    · have h2 : 44 ≤ (x : Int) := h2
      exfalso; omega
    · have h2 : (x : Int) < 44 := h2
      refine jWp.blk mt 1 ?_
      show jWp 57 11 [some (jO s), some (jI (x : Int)), some (jI (y : Int)), none] [jI (y : Int)] 0 0 w _
      refine jWp.ifz (pc' := 14) mt rfl rfl (b32_id (by omega) (by omega)) (fun h3 => ?_) (fun h3 => ?_)
      · have h3 : (y : Int) < 0 := h3
        exfalso; omega
      · have h3 : 0 ≤ (y : Int) := h3
        refine jWp.blk mt 2 ?_
        show jWp 57 17 [some (jO s), some (jI (x : Int)), some (jI (y : Int)), none] [jI 44, jI (y : Int)] 0 0 w _
        refine jWp.icmp (pc' := 20) mt rfl rfl (b32_id (by omega) (by omega)) (show b32 44 = 44 by decide) (fun h4 => ?_) (fun h4 => ?_)
        · have h4 : 44 ≤ (y : Int) := h4
          exfalso; omega
        · have h4 : (y : Int) < 44 := h4
          refine jWp.blk mt 1 ?_
          show _ ∧ jWp 57 21 [some (jO s), some (jI (x : Int)), some (jI (y : Int)), none] [jO s] 0 0 w _
          refine ⟨rfl, ?_⟩
          refine jWp.getR (pc' := 24) (o := sc) mt rfl rfl (jtg hks) hrc ?_
          show jWp 57 24 [some (jO s), some (jI (x : Int)), some (jI (y : Int)), none] [jO sc] 0 0 w _
          refine jWp.blk mt 1 ?_
          show jWp 57 25 [some (jO s), some (jI (x : Int)), some (jI (y : Int)), none] [jI (x : Int), jO sc] 0 0 w _
          refine jWp.iald (pc' := 26) (j := x) mt rfl rfl (jird_of hkc) (b32_id (by omega) (by omega)) (jlt hkc (by omega)) ?_
          show jWp 57 26 [some (jO s), some (jI (x : Int)), some (jI (y : Int)), none] [jI (w.1 sc x)] 0 0 w _
          refine jWp.blk mt 2 ?_
          show _ ∧ jWp 57 28 [some (jO s), some (jI (x : Int)), some (jI (y : Int)), some (jI (w.1 sc x))] [jO s] 0 0 w _
          refine ⟨rfl, ?_⟩
          refine jWp.getR (pc' := 31) (o := sc) mt rfl rfl (jtg hks) hrc ?_
          show jWp 57 31 [some (jO s), some (jI (x : Int)), some (jI (y : Int)), some (jI (w.1 sc x))] [jO sc] 0 0 w _
          refine jWp.blk mt 2 ?_
          show _ ∧ jWp 57 33 [some (jO s), some (jI (x : Int)), some (jI (y : Int)), some (jI (w.1 sc x))] [jO s, jI (x : Int), jO sc] 0 0 w _
          refine ⟨rfl, ?_⟩
          refine jWp.getR (pc' := 36) (o := sc) mt rfl rfl (jtg hks) hrc ?_
          show jWp 57 36 [some (jO s), some (jI (x : Int)), some (jI (y : Int)), some (jI (w.1 sc x))] [jO sc, jI (x : Int), jO sc] 0 0 w _
          refine jWp.blk mt 1 ?_
          show jWp 57 37 [some (jO s), some (jI (x : Int)), some (jI (y : Int)), some (jI (w.1 sc x))] [jI (y : Int), jO sc, jI (x : Int), jO sc] 0 0 w _
          refine jWp.iald (pc' := 38) (j := y) mt rfl rfl (jird_of hkc) (b32_id (by omega) (by omega)) (jlt hkc (by omega)) ?_
          show jWp 57 38 [some (jO s), some (jI (x : Int)), some (jI (y : Int)), some (jI (w.1 sc x))] [jI (w.1 sc y), jI (x : Int), jO sc] 0 0 w _
          refine jWp.iast (pc' := 39) (j := x) mt rfl rfl (jtg hkc) (b32_id (by omega) (by omega)) (jlt hkc (by omega)) ?_
          show jWp 57 39 [some (jO s), some (jI (x : Int)), some (jI (y : Int)), some (jI (w.1 sc x))] [] 0 0 (jW w sc x (w.1 sc y)) _
          refine jWp.blk mt 1 ?_
          show _ ∧ jWp 57 40 [some (jO s), some (jI (x : Int)), some (jI (y : Int)), some (jI (w.1 sc x))] [jO s] 0 0 (jW w sc x (w.1 sc y)) _
          refine ⟨rfl, ?_⟩
          refine jWp.getR (pc' := 43) (o := sc) mt rfl rfl (jtg hks) hrc ?_
          show jWp 57 43 [some (jO s), some (jI (x : Int)), some (jI (y : Int)), some (jI (w.1 sc x))] [jO sc] 0 0 (jW w sc x (w.1 sc y)) _
          refine jWp.blk mt 2 ?_
          show jWp 57 45 [some (jO s), some (jI (x : Int)), some (jI (y : Int)), some (jI (w.1 sc x))] [jI (w.1 sc x), jI (y : Int), jO sc] 0 0 (jW w sc x (w.1 sc y)) _
          refine jWp.iast (pc' := 46) (j := y) mt rfl rfl (jtg hkc) (b32_id (by omega) (by omega)) (jlt hkc (by omega)) ?_
          show jWp 57 46 [some (jO s), some (jI (x : Int)), some (jI (y : Int)), some (jI (w.1 sc x))] [] 0 0 (jW (jW w sc x (w.1 sc y)) sc y (w.1 sc x)) _
          refine jWp.vret mt rfl ⟨rfl, rfl⟩ rfl ?_
          refine ⟨rfl, ?_⟩
          unfold zch
          rw [kA_W0, kA_W0, kA_A, kA_fs]
theorem C_swap {w : jS} {s sc x y : Nat} {X Y : Int} (hks : w.2.1 s = (6, 0)) (hkc : w.2.1 sc = (100, 44)) (hrc : w.2.2.1 s 1 = some sc) (hx : x < 44) (hy : y < 44) (eX : X = (x : Int)) (eY : Y = (y : Int)) : jCall 57 [jO s, jI X, jI Y] w (fun v w1 => v = none ∧ w1 = kA w sc (zch (w.1 sc) x y)) := by
  subst eX
  subst eY
  exact C_swap0 hks hkc hrc hx hy
set_option maxHeartbeats 4000000 in
set_option maxRecDepth 20000 in
theorem C_square {w : jS} {s sc : Nat} (hks : w.2.1 s = (6, 0)) (hkc : w.2.1 sc = (100, 44)) (hrc : w.2.2.1 s 1 = some sc) {B i j : Nat} (hB : B = 8 ∨ B = 28) (hi : i < 4) (hj : j < 4) : jCall 56 [jO s, jI (B : Int), jI (i : Int), jI (j : Int)] w (fun v w1 => v = none ∧ ∃ T, w1 = kA w sc T ∧ (∀ a b, a < 4 → b < 4 → T (B + (4 * a + b)) = w.1 sc (B + (4 * zsw i j a + zsw i j b))) ∧ ∀ e, (e < B ∨ B + 16 ≤ e) → T e = w.1 sc e) := by
  have mt : jtb 56 = jT56 := rfl
  show jWp 56 0 [some (jO s), some (jI (B : Int)), some (jI (i : Int)), some (jI (j : Int)), none] [] 0 0 w _
  refine jWp.blk mt 2 ?_
  show jWp 56 3 [some (jO s), some (jI (B : Int)), some (jI (i : Int)), some (jI (j : Int)), some (jI 0)] [] 0 0 w _
  have lp1 : ∀ (N : Nat) (k : Nat) (T : Nat → Int) (hk : k ≤ 4) (hr : ∀ a b, a < 4 → b < 4 → T (B + (4 * a + b)) = if b < k then w.1 sc (B + (4 * zsw i j a + b)) else w.1 sc (B + (4 * a + b))) (ho : ∀ e, (e < B ∨ B + 16 ≤ e) → T e = w.1 sc e), 4 - k < N → jWp 56 3 [some (jO s), some (jI (B : Int)), some (jI (i : Int)), some (jI (j : Int)), some (jI (k : Int))] [] 0 0 (kA w sc T) (fun v w1 => v = none ∧ ∃ T, w1 = kA w sc T ∧ (∀ a b, a < 4 → b < 4 → T (B + (4 * a + b)) = w.1 sc (B + (4 * zsw i j a + zsw i j b))) ∧ ∀ e, (e < B ∨ B + 16 ≤ e) → T e = w.1 sc e) := by
    intro N
    induction N with
    | zero => intro k T hk hr ho hm; omega
    | succ N ih2 =>
      intro k T hk hr ho hm
      refine jWp.blk mt 2 ?_
      show jWp 56 6 [some (jO s), some (jI (B : Int)), some (jI (i : Int)), some (jI (j : Int)), some (jI (k : Int))] [jI 4, jI (k : Int)] 0 0 (kA w sc T) _
      refine jWp.icmp (pc' := 9) mt rfl rfl (b32_id (by omega) (by omega)) (show b32 4 = 4 by decide) (fun h3 => ?_) (fun h3 => ?_)
      · have h3 : 4 ≤ (k : Int) := h3
        refine jWp.blk mt 2 ?_
        show jWp 56 38 [some (jO s), some (jI (B : Int)), some (jI (i : Int)), some (jI (j : Int)), some (jI 0)] [] 0 0 (kA w sc T) _
        have lp4 : ∀ (N : Nat) (k : Nat) (T : Nat → Int) (hk : k ≤ 4) (hr : ∀ a b, a < 4 → b < 4 → T (B + (4 * a + b)) = if a < k then w.1 sc (B + (4 * zsw i j a + zsw i j b)) else w.1 sc (B + (4 * zsw i j a + b))) (ho : ∀ e, (e < B ∨ B + 16 ≤ e) → T e = w.1 sc e), 4 - k < N → jWp 56 38 [some (jO s), some (jI (B : Int)), some (jI (i : Int)), some (jI (j : Int)), some (jI (k : Int))] [] 0 0 (kA w sc T) (fun v w1 => v = none ∧ ∃ T, w1 = kA w sc T ∧ (∀ a b, a < 4 → b < 4 → T (B + (4 * a + b)) = w.1 sc (B + (4 * zsw i j a + zsw i j b))) ∧ ∀ e, (e < B ∨ B + 16 ≤ e) → T e = w.1 sc e) := by
          intro N
          induction N with
          | zero => intro k T hk hr ho hm; omega
          | succ N ih5 =>
            intro k T hk hr ho hm
            refine jWp.blk mt 2 ?_
            show jWp 56 41 [some (jO s), some (jI (B : Int)), some (jI (i : Int)), some (jI (j : Int)), some (jI (k : Int))] [jI 4, jI (k : Int)] 0 0 (kA w sc T) _
            refine jWp.icmp (pc' := 44) mt rfl rfl (b32_id (by omega) (by omega)) (show b32 4 = 4 by decide) (fun h6 => ?_) (fun h6 => ?_)
            · have h6 : 4 ≤ (k : Int) := h6
              refine jWp.vret mt rfl ⟨rfl, rfl⟩ rfl ?_
              exact ⟨rfl, T, rfl, fun a b ha hb => by rw [hr a b ha hb, if_pos (by omega)], ho⟩
            · have h6 : (k : Int) < 4 := h6
              refine jWp.blk mt 15 ?_
              show _ ∧ jWp 56 61 [some (jO s), some (jI (B : Int)), some (jI (i : Int)), some (jI (j : Int)), some (jI (k : Int))] [jI (((B : Int) + (4 * (k : Int))) + (j : Int)), jI (((B : Int) + (4 * (k : Int))) + (i : Int)), jO s] 0 0 (kA w sc T) _
              refine ⟨rfl, ?_⟩
              refine jWp.callv (as := [jO s, jI (((B : Int) + (4 * (k : Int))) + (i : Int)), jI (((B : Int) + (4 * (k : Int))) + (j : Int))]) (rest := []) mt rfl rfl rfl ⟨rfl, jtg hks⟩ ?_
              refine jCall.mono (C_swap (w := (kA w sc T)) (x := (B + (4 * k + i))) (y := (B + (4 * k + j))) hks hkc hrc (by omega) (by omega) (by omega) (by omega)) (fun v9 w9 h9 => ?_)
              obtain ⟨rfl, h9⟩ := h9
              subst h9
              rw [show kA (kA w sc T) sc (zch ((kA w sc T).1 sc) (B + (4 * k + i)) (B + (4 * k + j))) = kA w sc (zch T (B + (4 * k + i)) (B + (4 * k + j))) from by rw [kA_A, kA_fs]]
              show jWp 56 64 [some (jO s), some (jI (B : Int)), some (jI (i : Int)), some (jI (j : Int)), some (jI (k : Int))] [] 0 0 (kA w sc (zch T (B + (4 * k + i)) (B + (4 * k + j)))) _
              refine jWp.blk mt 2 ?_
              show jWp 56 38 [some (jO s), some (jI (B : Int)), some (jI (i : Int)), some (jI (j : Int)), some (jI ((k : Int) + 1))] [] 0 0 (kA w sc (zch T (B + (4 * k + i)) (B + (4 * k + j)))) _
              refine jWp.le (l := [some (jO s), some (jI (B : Int)), some (jI (i : Int)), some (jI (j : Int)), some (jI ((k : Int) + 1))]) (by exact ⟨rfl, rfl, rfl, rfl, rfl, trivial⟩) ?_
              exact ih5 (k + 1) _ (by omega) (zsw_c hi hj (by omega) hr) (fun e he => by rw [zch_n (by omega) (by omega)]; exact ho e he) (by omega)
        refine jWp.le (l := [some (jO s), some (jI (B : Int)), some (jI (i : Int)), some (jI (j : Int)), some (jI 0)]) (by exact ⟨rfl, rfl, rfl, rfl, rfl, trivial⟩) ?_
        exact lp4 _ 0 T (by omega) (fun a b ha hb => by rw [hr a b ha hb, if_pos (by omega), if_neg (by omega)]) ho (Nat.lt_succ_self _)
      · have h3 : (k : Int) < 4 := h3
        refine jWp.blk mt 15 ?_
        show _ ∧ jWp 56 26 [some (jO s), some (jI (B : Int)), some (jI (i : Int)), some (jI (j : Int)), some (jI (k : Int))] [jI (((B : Int) + (4 * (j : Int))) + (k : Int)), jI (((B : Int) + (4 * (i : Int))) + (k : Int)), jO s] 0 0 (kA w sc T) _
        refine ⟨rfl, ?_⟩
        refine jWp.callv (as := [jO s, jI (((B : Int) + (4 * (i : Int))) + (k : Int)), jI (((B : Int) + (4 * (j : Int))) + (k : Int))]) (rest := []) mt rfl rfl rfl ⟨rfl, jtg hks⟩ ?_
        refine jCall.mono (C_swap (w := (kA w sc T)) (x := (B + (4 * i + k))) (y := (B + (4 * j + k))) hks hkc hrc (by omega) (by omega) (by omega) (by omega)) (fun v9 w9 h9 => ?_)
        obtain ⟨rfl, h9⟩ := h9
        subst h9
        rw [show kA (kA w sc T) sc (zch ((kA w sc T).1 sc) (B + (4 * i + k)) (B + (4 * j + k))) = kA w sc (zch T (B + (4 * i + k)) (B + (4 * j + k))) from by rw [kA_A, kA_fs]]
        show jWp 56 29 [some (jO s), some (jI (B : Int)), some (jI (i : Int)), some (jI (j : Int)), some (jI (k : Int))] [] 0 0 (kA w sc (zch T (B + (4 * i + k)) (B + (4 * j + k)))) _
        refine jWp.blk mt 2 ?_
        show jWp 56 3 [some (jO s), some (jI (B : Int)), some (jI (i : Int)), some (jI (j : Int)), some (jI ((k : Int) + 1))] [] 0 0 (kA w sc (zch T (B + (4 * i + k)) (B + (4 * j + k)))) _
        refine jWp.le (l := [some (jO s), some (jI (B : Int)), some (jI (i : Int)), some (jI (j : Int)), some (jI ((k : Int) + 1))]) (by exact ⟨rfl, rfl, rfl, rfl, rfl, trivial⟩) ?_
        exact ih2 (k + 1) _ (by omega) (zsw_r hi hj (by omega) hr) (fun e he => by rw [zch_n (by omega) (by omega)]; exact ho e he) (by omega)
  refine jWp.le (l := [some (jO s), some (jI (B : Int)), some (jI (i : Int)), some (jI (j : Int)), some (jI 0)]) (by exact ⟨rfl, rfl, rfl, rfl, rfl, trivial⟩) ?_
  have key := lp1 _ 0 (w.1 sc) (by omega) (fun a b ha hb => (if_neg (by omega)).symm) (fun e he => rfl) (Nat.lt_succ_self _)
  rw [kA_self] at key
  exact key
theorem zsw_lt {i j x n : Nat} (hi : i < n) (hj : j < n) (h : ¬ x < n) : zsw i j x = x := zsw_n (by omega) (by omega)
/-- two letters changed, as the class holds them -/
theorem cR_sp {g : Prop} {C T q : Nat → Int} {n i j : Nat} (h4 : n ≤ 4) (hi : i < n) (hj : j < n) (hR : cR g C q n)
    (hu : ∀ x, x < 4 → T x = C (zsw i j x)) (hd : ∀ x, x < 4 → T (4 + x) = C (4 + zsw i j x)) (hs : ∀ x, x < 4 → T (24 + x) = C (24 + zsw i j x))
    (hb : ∀ a b, a < 4 → b < 4 → T (8 + (4 * a + b)) = C (8 + (4 * zsw i j a + zsw i j b))) (hg : ∀ a b, a < 4 → b < 4 → T (28 + (4 * a + b)) = C (28 + (4 * zsw i j a + zsw i j b))) : cR g T (zSp q i j) n := by
  have z4 : ∀ x, x < 4 → zsw i j x < 4 := fun x hx => zsw_4 (by omega) (by omega) hx
  have zn : ∀ x, x < n → zsw i j x < n := fun x hx => by
    unfold zsw
    split
    · exact hj
    · split <;> omega
  have eb : ∀ x y, x < 4 → y < 4 → zSp q i j (1 + (4 * x + y)) = q (1 + (4 * zsw i j x + zsw i j y)) := fun x y hx hy => by
    unfold zSp
    rw [if_neg (by omega), if_pos (by omega), show (1 + (4 * x + y) - 1) / 4 = x by omega, show (1 + (4 * x + y) - 1) % 4 = y by omega]
  have es : ∀ x, x < 4 → zSp q i j (17 + x) = q (17 + zsw i j x) := fun x hx => by
    unfold zSp
    rw [if_neg (by omega), if_neg (by omega), if_pos (by omega), show 17 + x - 17 = x by omega]
  have eu : ∀ x, x < 4 → zSp q i j (21 + x) = q (21 + zsw i j x) := fun x hx => by
    unfold zSp
    rw [if_neg (by omega), if_neg (by omega), if_neg (by omega), if_pos (by omega), show 21 + x - 21 = x by omega]
  have ed : ∀ x, x < 4 → zSp q i j (25 + x) = q (25 + zsw i j x) := fun x hx => by
    unfold zSp
    rw [if_neg (by omega), if_neg (by omega), if_neg (by omega), if_neg (by omega), if_pos (by omega), show 25 + x - 25 = x by omega]
  have eg : ∀ x y, x < 4 → y < 4 → zSp q i j (29 + (4 * x + y)) = q (29 + (4 * zsw i j x + zsw i j y)) := fun x y hx hy => by
    unfold zSp
    rw [if_neg (by omega), if_neg (by omega), if_neg (by omega), if_neg (by omega), if_neg (by omega), show (29 + (4 * x + y) - 29) / 4 = x by omega, show (29 + (4 * x + y) - 29) % 4 = y by omega]
  refine ⟨fun e he => ?_, fun gg e he1 he2 => ?_, fun e he1 he2 c => ?_⟩
  · by_cases e1 : e < 4
    · rw [hu e e1]
      by_cases en : e < n
      · rw [cz_u h4 en, eu e e1, hR.1 _ (by have := z4 e e1; omega), cz_u h4 (zn e en)]
      · rw [zsw_lt hi hj en, hR.1 e (by omega)]
        unfold cz
        rw [if_pos e1, if_neg en, if_pos e1, if_neg en]
    · by_cases e2 : e < 8
      · have ee : e = 4 + (e - 4) := by omega
        have := z4 (e - 4) (by omega)
        rw [ee, hd (e - 4) (by omega)]
        by_cases en : e - 4 < n
        · rw [cz_d h4 en, ed _ (by omega), hR.1 _ (by omega), cz_d h4 (zn _ en)]
        · rw [zsw_lt hi hj en, hR.1 _ (by omega), ← ee]
          unfold cz
          rw [if_neg e1, if_pos e2, if_neg en, if_neg e1, if_pos e2, if_neg en]
      · by_cases e3 : e < 24
        · have ee : e = 8 + (4 * ((e - 8) / 4) + (e - 8) % 4) := by omega
          have b1 := z4 ((e - 8) / 4) (by omega)
          have b2 := z4 ((e - 8) % 4) (by omega)
          rw [ee, hb _ _ (by omega) (by omega), cz_b (by omega), eb _ _ (by omega) (by omega), hR.1 _ (by omega), cz_b (by omega)]
        · have ee : e = 24 + (e - 24) := by omega
          have := z4 (e - 24) (by omega)
          rw [ee, hs (e - 24) (by omega)]
          by_cases en : e - 24 < n
          · rw [cz_s h4 en, es _ (by omega), hR.1 _ (by omega), cz_s h4 (zn _ en)]
          · rw [zsw_lt hi hj en, hR.1 _ (by omega), ← ee, cz_m (by omega) he, cz_m (by omega) he, if_neg en, if_neg en]
  · have ee : e = 28 + (4 * ((e - 28) / 4) + (e - 28) % 4) := by omega
    have b1 := z4 ((e - 28) / 4) (by omega)
    have b2 := z4 ((e - 28) % 4) (by omega)
    rw [show T e = T (28 + (4 * ((e - 28) / 4) + (e - 28) % 4)) by rw [← ee], hg _ _ (by omega) (by omega), cz_h he1]
    by_cases c : (e - 28) / 4 < n ∧ (e - 28) % 4 < n
    · rw [if_pos c, show 29 + (e - 28) = 29 + (4 * ((e - 28) / 4) + (e - 28) % 4) by omega, eg _ _ (by omega) (by omega), hR.2.1 gg _ (by omega) (by omega), cz_h (by omega)]
      rw [if_pos ⟨by have := zn _ c.1; have := zn _ c.2; omega, by have := zn _ c.1; have := zn _ c.2; omega⟩]
      exact congrArg q (by omega)
    · rw [if_neg c]
      refine hR.2.2 _ (by omega) (by omega) (fun d => c ?_)
      by_cases c1 : (e - 28) / 4 < n
      · have c2 : ¬ (e - 28) % 4 < n := fun x => c ⟨c1, x⟩
        have := zn _ c1
        rw [zsw_lt hi hj c2] at d
        omega
      · rw [zsw_lt hi hj c1] at d
        omega
  · have ee : e = 28 + (4 * ((e - 28) / 4) + (e - 28) % 4) := by omega
    have b1 := z4 ((e - 28) / 4) (by omega)
    have b2 := z4 ((e - 28) % 4) (by omega)
    rw [show T e = T (28 + (4 * ((e - 28) / 4) + (e - 28) % 4)) by rw [← ee], hg _ _ (by omega) (by omega)]
    refine hR.2.2 _ (by omega) (by omega) (fun d => c ?_)
    by_cases c1 : (e - 28) / 4 < n
    · have c2 : ¬ (e - 28) % 4 < n := fun x => c ⟨c1, x⟩
      have := zn _ c1
      rw [zsw_lt hi hj c2] at d
      omega
    · rw [zsw_lt hi hj c1] at d
      omega
set_option maxHeartbeats 4000000 in
set_option maxRecDepth 20000 in
theorem C_places {w : jS} {s sc n : Nat} (hks : w.2.1 s = (6, 0)) (hkc : w.2.1 sc = (100, 44)) (hrc : w.2.2.1 s 1 = some sc) (hn0 : w.1 s 0 = (n : Int)) (hn4 : n ≤ 4) {q : Nat → Int} {g : Prop} (hRR : cR g (w.1 sc) q n) {i j : Int} (hri : r32 i) (hrj : r32 j) : jCall 55 [jO s, jI i, jI j] w (fun x w1 => ((0 ≤ i ∧ i < (n : Int)) ∧ (0 ≤ j ∧ j < (n : Int)) ∧ i ≠ j → x = some (jI 1) ∧ (w1.2 = w.2 ∧ ∀ a, a ≠ sc → w1.1 a = w.1 a) ∧ cR g (w1.1 sc) (zSp q i.toNat j.toNat) n) ∧ (¬ ((0 ≤ i ∧ i < (n : Int)) ∧ (0 ≤ j ∧ j < (n : Int)) ∧ i ≠ j) → x = some (jI 0) ∧ w1 = w)) := by
  have mt : jtb 55 = jT55 := rfl
  have hsc : s ≠ sc := kne hks hkc (by decide)
  have hri1 : -2147483648 ≤ i ∧ i < 2147483648 := hri
  have hrj1 : -2147483648 ≤ j ∧ j < 2147483648 := hrj
  show jWp 55 0 [some (jO s), some (jI i), some (jI j)] [] 0 0 w _
  refine jWp.blk mt 2 ?_
  show _ ∧ jWp 55 2 [some (jO s), some (jI i), some (jI j)] [jI i, jO s] 0 0 w _
  refine ⟨rfl, ?_⟩
  refine jWp.callv (as := [jO s, jI i]) (rest := []) mt rfl rfl rfl ⟨rfl, jtg hks⟩ ?_
  refine jCall.mono (E_has (w := w) (n := n) hks hn0 hn4 (i := i) (by constructor <;> omega)) (fun v9 w9 h9 => ?_)
  rcases h9 with ⟨rfl, h9, h1⟩ | ⟨rfl, h9, h1⟩ <;> subst w9
  · have h1 : 0 ≤ i ∧ i < (n : Int) := h1
    show jWp 55 5 [some (jO s), some (jI i), some (jI j)] [jI 1] 0 0 w _
    refine jWp.ifc (b := false) mt rfl (by decide) rfl ?_
    show jWp 55 8 [some (jO s), some (jI i), some (jI j)] [] 0 0 w _
    refine jWp.blk mt 2 ?_
    show _ ∧ jWp 55 10 [some (jO s), some (jI i), some (jI j)] [jI j, jO s] 0 0 w _
    refine ⟨rfl, ?_⟩
    refine jWp.callv (as := [jO s, jI j]) (rest := []) mt rfl rfl rfl ⟨rfl, jtg hks⟩ ?_
    refine jCall.mono (E_has (w := w) (n := n) hks hn0 hn4 (i := j) (by constructor <;> omega)) (fun v9 w9 h9 => ?_)
    rcases h9 with ⟨rfl, h9, h2⟩ | ⟨rfl, h9, h2⟩ <;> subst w9
    · have h2 : 0 ≤ j ∧ j < (n : Int) := h2
      show jWp 55 13 [some (jO s), some (jI i), some (jI j)] [jI 1] 0 0 w _
      refine jWp.ifc (b := false) mt rfl (by decide) rfl ?_
      show jWp 55 16 [some (jO s), some (jI i), some (jI j)] [] 0 0 w _
      refine jWp.blk mt 2 ?_
      show jWp 55 18 [some (jO s), some (jI i), some (jI j)] [jI j, jI i] 0 0 w _
      refine jWp.icmp (pc' := 21) mt rfl rfl (b32_id (by omega) (by omega)) (b32_id (by omega) (by omega)) (fun h3 => ?_) (fun h3 => ?_)
      · have h3 : i ≠ j := h3
        obtain ⟨i1, rfl⟩ : ∃ i1 : Nat, i = (i1 : Int) := ⟨i.toNat, by omega⟩
        show jWp 55 23 [some (jO s), some (jI (i1 : Int)), some (jI j)] [] 0 0 w _
        obtain ⟨j1, rfl⟩ : ∃ j1 : Nat, j = (j1 : Int) := ⟨j.toNat, by omega⟩
        show jWp 55 23 [some (jO s), some (jI (i1 : Int)), some (jI (j1 : Int))] [] 0 0 w _
        refine jWp.blk mt 7 ?_
        show _ ∧ jWp 55 30 [some (jO s), some (jI (i1 : Int)), some (jI (j1 : Int))] [jI (0 + (j1 : Int)), jI (0 + (i1 : Int)), jO s] 0 0 w _
        refine ⟨rfl, ?_⟩
        refine jWp.callv (as := [jO s, jI (0 + (i1 : Int)), jI (0 + (j1 : Int))]) (rest := []) mt rfl rfl rfl ⟨rfl, jtg hks⟩ ?_
        refine jCall.mono (C_swap (w := w) (x := i1) (y := j1) hks hkc hrc (by omega) (by omega) (by omega) (by omega)) (fun v9 w9 h9 => ?_)
        obtain ⟨rfl, h9⟩ := h9
        subst h9
        show jWp 55 33 [some (jO s), some (jI (i1 : Int)), some (jI (j1 : Int))] [] 0 0 (kA w sc (zch (w.1 sc) i1 j1)) _
        refine jWp.blk mt 7 ?_
        show _ ∧ jWp 55 40 [some (jO s), some (jI (i1 : Int)), some (jI (j1 : Int))] [jI (4 + (j1 : Int)), jI (4 + (i1 : Int)), jO s] 0 0 (kA w sc (zch (w.1 sc) i1 j1)) _
        refine ⟨rfl, ?_⟩
        refine jWp.callv (as := [jO s, jI (4 + (i1 : Int)), jI (4 + (j1 : Int))]) (rest := []) mt rfl rfl rfl ⟨rfl, jtg hks⟩ ?_
        refine jCall.mono (C_swap (w := (kA w sc (zch (w.1 sc) i1 j1))) (x := (4 + i1)) (y := (4 + j1)) hks hkc hrc (by omega) (by omega) (by omega) (by omega)) (fun v9 w9 h9 => ?_)
        obtain ⟨rfl, h9⟩ := h9
        subst h9
        rw [show kA (kA w sc (zch (w.1 sc) i1 j1)) sc (zch ((kA w sc (zch (w.1 sc) i1 j1)).1 sc) (4 + i1) (4 + j1)) = kA w sc (zch (zch (w.1 sc) i1 j1) (4 + i1) (4 + j1)) from by rw [kA_A, kA_fs]]
        show jWp 55 43 [some (jO s), some (jI (i1 : Int)), some (jI (j1 : Int))] [] 0 0 (kA w sc (zch (zch (w.1 sc) i1 j1) (4 + i1) (4 + j1))) _
        refine jWp.blk mt 7 ?_
        show _ ∧ jWp 55 52 [some (jO s), some (jI (i1 : Int)), some (jI (j1 : Int))] [jI (24 + (j1 : Int)), jI (24 + (i1 : Int)), jO s] 0 0 (kA w sc (zch (zch (w.1 sc) i1 j1) (4 + i1) (4 + j1))) _
        refine ⟨rfl, ?_⟩
        refine jWp.callv (as := [jO s, jI (24 + (i1 : Int)), jI (24 + (j1 : Int))]) (rest := []) mt rfl rfl rfl ⟨rfl, jtg hks⟩ ?_
        refine jCall.mono (C_swap (w := (kA w sc (zch (zch (w.1 sc) i1 j1) (4 + i1) (4 + j1)))) (x := (24 + i1)) (y := (24 + j1)) hks hkc hrc (by omega) (by omega) (by omega) (by omega)) (fun v9 w9 h9 => ?_)
        obtain ⟨rfl, h9⟩ := h9
        subst h9
        rw [show kA (kA w sc (zch (zch (w.1 sc) i1 j1) (4 + i1) (4 + j1))) sc (zch ((kA w sc (zch (zch (w.1 sc) i1 j1) (4 + i1) (4 + j1))).1 sc) (24 + i1) (24 + j1)) = kA w sc (zch (zch (zch (w.1 sc) i1 j1) (4 + i1) (4 + j1)) (24 + i1) (24 + j1)) from by rw [kA_A, kA_fs]]
        show jWp 55 55 [some (jO s), some (jI (i1 : Int)), some (jI (j1 : Int))] [] 0 0 (kA w sc (zch (zch (zch (w.1 sc) i1 j1) (4 + i1) (4 + j1)) (24 + i1) (24 + j1))) _
        refine jWp.blk mt 4 ?_
        show _ ∧ jWp 55 60 [some (jO s), some (jI (i1 : Int)), some (jI (j1 : Int))] [jI (j1 : Int), jI (i1 : Int), jI 8, jO s] 0 0 (kA w sc (zch (zch (zch (w.1 sc) i1 j1) (4 + i1) (4 + j1)) (24 + i1) (24 + j1))) _
        refine ⟨rfl, ?_⟩
        refine jWp.callv (as := [jO s, jI 8, jI (i1 : Int), jI (j1 : Int)]) (rest := []) mt rfl rfl rfl ⟨rfl, jtg hks⟩ ?_
        refine jCall.mono (C_square (w := (kA w sc (zch (zch (zch (w.1 sc) i1 j1) (4 + i1) (4 + j1)) (24 + i1) (24 + j1)))) (B := 8) (i := i1) (j := j1) hks hkc hrc (by decide) (by omega) (by omega)) (fun v9 w9 h9 => ?_)
        obtain ⟨rfl, T8, h9, hT8a, hT8b⟩ := h9
        subst h9
        rw [show (kA w sc (zch (zch (zch (w.1 sc) i1 j1) (4 + i1) (4 + j1)) (24 + i1) (24 + j1))).1 sc = (zch (zch (zch (w.1 sc) i1 j1) (4 + i1) (4 + j1)) (24 + i1) (24 + j1)) from kA_fs] at hT8a hT8b
        rw [show kA (kA w sc (zch (zch (zch (w.1 sc) i1 j1) (4 + i1) (4 + j1)) (24 + i1) (24 + j1))) sc T8 = kA w sc T8 from kA_A]
        show jWp 55 63 [some (jO s), some (jI (i1 : Int)), some (jI (j1 : Int))] [] 0 0 (kA w sc T8) _
        refine jWp.blk mt 4 ?_
        show _ ∧ jWp 55 68 [some (jO s), some (jI (i1 : Int)), some (jI (j1 : Int))] [jI (j1 : Int), jI (i1 : Int), jI 28, jO s] 0 0 (kA w sc T8) _
        refine ⟨rfl, ?_⟩
        refine jWp.callv (as := [jO s, jI 28, jI (i1 : Int), jI (j1 : Int)]) (rest := []) mt rfl rfl rfl ⟨rfl, jtg hks⟩ ?_
        refine jCall.mono (C_square (w := (kA w sc T8)) (B := 28) (i := i1) (j := j1) hks hkc hrc (by decide) (by omega) (by omega)) (fun v9 w9 h9 => ?_)
        obtain ⟨rfl, T28, h9, hT28a, hT28b⟩ := h9
        subst h9
        rw [show (kA w sc T8).1 sc = T8 from kA_fs] at hT28a hT28b
        rw [show kA (kA w sc T8) sc T28 = kA w sc T28 from kA_A]
        show jWp 55 71 [some (jO s), some (jI (i1 : Int)), some (jI (j1 : Int))] [] 0 0 (kA w sc T28) _
        refine jWp.blk mt 1 ?_
        show jWp 55 72 [some (jO s), some (jI (i1 : Int)), some (jI (j1 : Int))] [jI 1] 0 0 (kA w sc T28) _
        refine jWp.iretz mt rfl ⟨rfl, rfl⟩ rfl (Or.inr rfl) ?_
        try rw [show ((i1 : Nat) : Int).toNat = i1 from rfl]
        try rw [show ((j1 : Nat) : Int).toNat = j1 from rfl]
        refine ⟨fun c => ⟨rfl, ⟨rfl, fun a ga => kA_f ga⟩, ?_⟩, fun c => by exfalso; omega⟩
        rw [kA_fs]
        refine cR_sp hn4 (by omega) (by omega) hRR (fun x hx => ?_) (fun x hx => ?_) (fun x hx => ?_) (fun a b ha hb => ?_) (fun a b ha hb => by
           have := zsw_4 (i := i1) (j := j1) (x := a) (by omega) (by omega) ha
           have := zsw_4 (i := i1) (j := j1) (x := b) (by omega) (by omega) hb
           rw [hT28a a b ha hb, hT8b _ (by omega), zch_n (by omega) (by omega), zch_n (by omega) (by omega), zch_n (by omega) (by omega)])
        · rw [hT28b _ (by omega), hT8b _ (by omega), zch_n (by omega) (by omega), zch_n (by omega) (by omega)]
          have := zsw_v (T := w.1 sc) (q := w.1 sc) (i := i1) (j := j1) (b := 0) (by omega) (by omega) (fun _ _ => rfl) x hx
          rw [Nat.zero_add, Nat.zero_add, Nat.zero_add, Nat.zero_add] at this
          exact this
        · rw [hT28b _ (by omega), hT8b _ (by omega), zch_n (by omega) (by omega)]
          exact zsw_v (by omega) (by omega) (fun y hy => by rw [zch_n (by omega) (by omega)]) x hx
        · rw [hT28b _ (by omega), hT8b _ (by omega)]
          exact zsw_v (by omega) (by omega) (fun y hy => by rw [zch_n (by omega) (by omega), zch_n (by omega) (by omega)]) x hx
        · rw [hT28b _ (by omega), hT8a a b ha hb]
          have := zsw_4 (i := i1) (j := j1) (x := a) (by omega) (by omega) ha
          have := zsw_4 (i := i1) (j := j1) (x := b) (by omega) (by omega) hb
          rw [zch_n (by omega) (by omega), zch_n (by omega) (by omega), zch_n (by omega) (by omega)]
      · have h3 : i = j := h3
        refine jWp.blk mt 1 ?_
        show jWp 55 22 [some (jO s), some (jI i), some (jI j)] [jI 0] 0 0 w _
        refine jWp.iretz mt rfl ⟨rfl, rfl⟩ rfl (Or.inl rfl) ?_
        exact ⟨fun c => by exfalso; omega, fun c => ⟨rfl, rfl⟩⟩
    · have h2 : ¬ (0 ≤ j ∧ j < (n : Int)) := h2
      show jWp 55 13 [some (jO s), some (jI i), some (jI j)] [jI 0] 0 0 w _
      refine jWp.ifc (b := true) mt rfl (by decide) rfl ?_
      show jWp 55 21 [some (jO s), some (jI i), some (jI j)] [] 0 0 w _
      refine jWp.blk mt 1 ?_
      show jWp 55 22 [some (jO s), some (jI i), some (jI j)] [jI 0] 0 0 w _
      refine jWp.iretz mt rfl ⟨rfl, rfl⟩ rfl (Or.inl rfl) ?_
      exact ⟨fun c => by exfalso; omega, fun c => ⟨rfl, rfl⟩⟩
  · have h1 : ¬ (0 ≤ i ∧ i < (n : Int)) := h1
    show jWp 55 5 [some (jO s), some (jI i), some (jI j)] [jI 0] 0 0 w _
    refine jWp.ifc (b := true) mt rfl (by decide) rfl ?_
    show jWp 55 21 [some (jO s), some (jI i), some (jI j)] [] 0 0 w _
    refine jWp.blk mt 1 ?_
    show jWp 55 22 [some (jO s), some (jI i), some (jI j)] [jI 0] 0 0 w _
    refine jWp.iretz mt rfl ⟨rfl, rfl⟩ rfl (Or.inl rfl) ?_
    exact ⟨fun c => by exfalso; omega, fun c => ⟨rfl, rfl⟩⟩
