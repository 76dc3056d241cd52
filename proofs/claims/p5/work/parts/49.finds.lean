/-- a seed that is found: the seed, the place it comes from, by which letter, how far away -/
abbrev zE : Type := (Nat → Int) × Nat × Nat × Nat
def zE0 : zE := (fun _ => 0, 0, 0, 0)
def zL (L : List zE) (o : Nat) : zE := L.getD o zE0
theorem zL_l {L : List zE} {e : zE} {o : Nat} (h : o < L.length) : zL (L ++ [e]) o = zL L o := by
  unfold zL
  rw [List.getD_eq_getElem?_getD, List.getD_eq_getElem?_getD, List.getElem?_append_left h]
theorem zL_r {L : List zE} {e : zE} : zL (L ++ [e]) L.length = e := by
  unfold zL
  rw [List.getD_eq_getElem?_getD, List.getElem?_append_right (Nat.le_refl _), Nat.sub_self]
  rfl
def znw2 (L : List zE) (n : Nat) (S : Nat → Int) : Prop := ∀ o, o < L.length → ¬ zal (zL L o).1 S n
/-- one more seed, if it can be and is new -/
noncomputable def zba (n at9 k : Nat) (L : List zE) : List zE := @ite (List zE) (zcan (zL L at9).1 n k ∧ znw2 L n (zxF (zL L at9).1 n k)) (Classical.propDecidable _) (L ++ [(zxF (zL L at9).1 n k, at9, k, (zL L at9).2.2.2 + 1)]) L
theorem zba_t {n at9 k : Nat} {L : List zE} (h : zcan (zL L at9).1 n k ∧ znw2 L n (zxF (zL L at9).1 n k)) : zba n at9 k L = L ++ [(zxF (zL L at9).1 n k, at9, k, (zL L at9).2.2.2 + 1)] := if_pos h
theorem zba_f {n at9 k : Nat} {L : List zE} (h : ¬ (zcan (zL L at9).1 n k ∧ znw2 L n (zxF (zL L at9).1 n k))) : zba n at9 k L = L := if_neg h
/-- all letters of one seed, from one on -/
noncomputable def zbi (n at9 : Nat) : Nat → Nat → List zE → List zE
  | 0, _, L => L
  | f + 1, k, L => zbi n at9 f (k + 1) (zba n at9 k L)
/-- all seeds, from one on, that are nearer than that -/
noncomputable def zbo (n d : Nat) : Nat → Nat → List zE → List zE
  | 0, _, L => L
  | f + 1, a, L => if a < L.length ∧ (zL L a).2.2.2 < d then zbo n d f (a + 1) (zbi n a n 0 L) else L
theorem zbo_t {n d f a : Nat} {L : List zE} (h : a < L.length ∧ (zL L a).2.2.2 < d) : zbo n d (f + 1) a L = zbo n d f (a + 1) (zbi n a n 0 L) := if_pos h
theorem zbo_f {n d f a : Nat} {L : List zE} (h : ¬ (a < L.length ∧ (zL L a).2.2.2 < d)) : zbo n d f a L = L := by
  cases f with
  | zero => rfl
  | succ f => exact if_neg h
noncomputable def zBF (n d : Nat) (q : Nat → Int) : List zE := zbo n d 400 0 [(q, 0, 0, 0)]
/-- what is so of all seeds that are found -/
def zBL (n : Nat) (q : Nat → Int) (L : List zE) : Prop := 1 ≤ L.length ∧ (zL L 0).1 = q ∧ (zL L 0).2.2.2 = 0 ∧ ∀ o, o < L.length → zQ (zL L o).1 n ∧ (1 ≤ o → (zL L o).2.1 < o ∧ (zL L o).2.2.1 < n ∧ o ≤ 4 * ((zL L o).2.1 + 1) ∧ (zL L o).2.2.2 = (zL L (zL L o).2.1).2.2.2 + 1 ∧ zcan (zL L (zL L o).2.1).1 n (zL L o).2.2.1 ∧ (zL L o).1 = zxF (zL L (zL L o).2.1).1 n (zL L o).2.2.1)
theorem zBL_0 {n : Nat} {q : Nat → Int} (hq : zQ q n) : zBL n q [(q, 0, 0, 0)] := by
  refine ⟨Nat.le_refl 1, rfl, rfl, fun o ho => ?_⟩
  have h : o = 0 := by simp only [List.length_cons, List.length_nil] at ho; omega
  subst h
  exact ⟨hq, fun g => absurd g (by omega)⟩
theorem zBL_n {n a k : Nat} {q : Nat → Int} {L : List zE} (h : zBL n q L) (ha : a < L.length) (hk : k < n) (hl : L.length ≤ 4 * (a + 1)) (hc : zcan (zL L a).1 n k) : zBL n q (L ++ [(zxF (zL L a).1 n k, a, k, (zL L a).2.2.2 + 1)]) := by
  have hn := (h.2.2.2 a ha).1.S.n4
  refine ⟨by rw [List.length_append]; omega, by rw [zL_l h.1]; exact h.2.1, by rw [zL_l h.1]; exact h.2.2.1, fun o ho => ?_⟩
  rw [List.length_append] at ho
  simp only [List.length_cons, List.length_nil] at ho
  rcases Nat.lt_or_ge o L.length with g | g
  · have e := h.2.2.2 o g
    rw [zL_l g]
    refine ⟨e.1, fun g1 => ?_⟩
    have f := e.2 g1
    rw [zL_l (by omega)]
    exact f
  · have e : o = L.length := by omega
    subst e
    rw [zL_r]
    exact ⟨zQ_x (h.2.2.2 a ha).1 (by omega) hc, fun _ => ⟨ha, hk, hl, by rw [zL_l ha], by rw [zL_l ha]; exact hc, by rw [zL_l ha]⟩⟩
def zBd : Nat → Nat
  | 0 => 0
  | d + 1 => 4 * (zBd d + 1)
theorem zBL_d {n : Nat} {q : Nat → Int} {L : List zE} (h : zBL n q L) : ∀ d o, o < L.length → (zL L o).2.2.2 ≤ d → o ≤ zBd d
  | 0, o, ho, hd => by
    rcases Nat.eq_zero_or_pos o with e | e
    · rw [e]
      exact Nat.zero_le _
    · have := ((h.2.2.2 o ho).2 e).2.2.2.1
      omega
  | d + 1, o, ho, hd => by
    rcases Nat.eq_zero_or_pos o with e | e
    · rw [e]
      exact Nat.zero_le _
    · have g := (h.2.2.2 o ho).2 e
      have := zBL_d h d (zL L o).2.1 (by omega) (by omega)
      show o ≤ 4 * (zBd d + 1)
      omega
theorem zBL_w {n : Nat} {q : Nat → Int} {L : List zE} (h : zBL n q L) : ∀ N o, o < N → o < L.length → (zL L o).2.2.2 ≤ o
  | 0, _, g, _ => absurd g (by omega)
  | N + 1, o, g, ho => by
    rcases Nat.eq_zero_or_pos o with e | e
    · rw [e, h.2.2.1]
      exact Nat.le_refl 0
    · have f := (h.2.2.2 o ho).2 e
      have := zBL_w h N (zL L o).2.1 (by omega) (by omega)
      omega
/-- the reference's seeds that are found, as it holds them -/
def zRL (N : Nat → Nat → Int) (m : Nat) (L : List zE) : Prop := N m 21 = (L.length : Int) ∧ ∀ o, o < L.length → zeq (N (m + (18 + o))) (zL L o).1 ∧ N (m + 420) o = ((zL L o).2.2.2 : Int) ∧ (1 ≤ o → N (m + 418) o = ((zL L o).2.1 : Int) ∧ N (m + 419) o = ((zL L o).2.2.1 : Int))
theorem zRL_k {N N' : Nat → Nat → Int} {m : Nat} {L : List zE} (h : zRL N m L) (h21 : N' m 21 = N m 21) (hs : ∀ o, o < L.length → N' (m + (18 + o)) = N (m + (18 + o))) (h1 : N' (m + 418) = N (m + 418)) (h2 : N' (m + 419) = N (m + 419)) (h3 : N' (m + 420) = N (m + 420)) : zRL N' m L := by
  refine ⟨h21.trans h.1, fun o ho => ?_⟩
  rw [hs o ho, h1, h2, h3]
  exact h.2 o ho
theorem zRL_n {N N' : Nat → Nat → Int} {m : Nat} {L : List zE} {e : zE} (h : zRL N m L) (h21 : N' m 21 = ((L.length + 1 : Nat) : Int)) (hs : ∀ o, o ≤ L.length → N' (m + (18 + o)) = N (m + (18 + o))) (h1 : ∀ o, o < L.length → N' (m + 418) o = N (m + 418) o ∧ N' (m + 419) o = N (m + 419) o ∧ N' (m + 420) o = N (m + 420) o) (hz : zeq (N (m + (18 + L.length))) e.1) (g1 : N' (m + 418) L.length = (e.2.1 : Int)) (g2 : N' (m + 419) L.length = (e.2.2.1 : Int)) (g3 : N' (m + 420) L.length = (e.2.2.2 : Int)) : zRL N' m (L ++ [e]) := by
  refine ⟨by rw [h21, List.length_append]; rfl, fun o ho => ?_⟩
  rw [List.length_append] at ho
  simp only [List.length_cons, List.length_nil] at ho
  rcases Nat.lt_or_ge o L.length with g | g
  · rw [zL_l g, hs o (by omega), (h1 o g).1, (h1 o g).2.1, (h1 o g).2.2]
    exact h.2 o g
  · have e2 : o = L.length := by omega
    subst e2
    rw [zL_r, hs _ (Nat.le_refl _)]
    exact ⟨hz, g3, fun _ => ⟨g1, g2⟩⟩
set_option maxHeartbeats 4000000 in
set_option maxRecDepth 20000 in
theorem E_finds {w : jS} {m : Nat} (hW : MW w.2 m) {n d : Nat} (hQ : zQ (w.1 (m + 1)) n) (hd : d ≤ 4) : jCall 189 [jO m, jI (d : Int)] w (fun v w1 => v = none ∧ mq w m w1 ∧ zRL w1.1 m (zBF n d (w.1 (m + 1))) ∧ zBL n (w.1 (m + 1)) (zBF n d (w.1 (m + 1))) ∧ (zBF n d (w.1 (m + 1))).length ≤ 341) := by
  have mt : jtb 189 = jT189 := rfl
  have hn4 := hQ.S.n4
  have hn2 := hQ.S.n2
  show jWp 189 0 [some (jO m), some (jI (d : Int)), none, none, none, none] [] 0 0 w _
  refine jWp.blk mt 1 ?_
  show _ ∧ jWp 189 1 [some (jO m), some (jI (d : Int)), none, none, none, none] [jO m] 0 0 w _
  refine ⟨rfl, ?_⟩
  refine jWp.getR (pc' := 4) (o := (m + 1)) mt rfl rfl (jtg hW.K0) hW.R0 ?_
  show jWp 189 4 [some (jO m), some (jI (d : Int)), none, none, none, none] [jO (m + 1)] 0 0 w _
  refine jWp.blk mt 1 ?_
  show _ ∧ jWp 189 5 [some (jO m), some (jI (d : Int)), none, none, none, none] [jO m, jO (m + 1)] 0 0 w _
  refine ⟨rfl, ?_⟩
  refine jWp.getR (pc' := 8) (o := (m + 17)) mt rfl rfl (jtg hW.K0) hW.R17 ?_
  show jWp 189 8 [some (jO m), some (jI (d : Int)), none, none, none, none] [jO (m + 17), jO (m + 1)] 0 0 w _
  refine jWp.blk mt 1 ?_
  show jWp 189 9 [some (jO m), some (jI (d : Int)), none, none, none, none] [jI 0, jO (m + 17), jO (m + 1)] 0 0 w _
  refine jWp.aald (pc' := 10) (j := 0) (o := (m + (18 + 0))) mt rfl rfl (jrg hW.K17 (by decide) (by decide)) (by decide) (jlt hW.K17 (by decide)) (hW.RFo 0 (by omega)) ?_
  show jWp 189 10 [some (jO m), some (jI (d : Int)), none, none, none, none] [jO (m + (18 + 0)), jO (m + 1)] 0 0 w _
  refine jWp.calls (as := [jO (m + 1), jO (m + (18 + 0))]) (rest := []) mt rfl rfl rfl rfl ?_
  refine jCall.mono (E_copies (w := w) (a := m + 1) (q := m + (18 + 0)) hW.K1 (hW.KF _ (by omega)) (by omega)) (fun v9 w9 h9 => ?_)
  obtain ⟨rfl, T9, h9, hT9⟩ := h9
  subst h9
  show jWp 189 13 [some (jO m), some (jI (d : Int)), none, none, none, none] [] 0 0 (kA w (m + (18 + 0)) T9) _
  refine jWp.blk mt 1 ?_
  show _ ∧ jWp 189 14 [some (jO m), some (jI (d : Int)), none, none, none, none] [jO m] 0 0 (kA w (m + (18 + 0)) T9) _
  refine ⟨rfl, ?_⟩
  refine jWp.getR (pc' := 17) (o := (m + 420)) mt rfl rfl (jtg hW.K0) hW.R20 ?_
  show jWp 189 17 [some (jO m), some (jI (d : Int)), none, none, none, none] [jO (m + 420)] 0 0 (kA w (m + (18 + 0)) T9) _
  refine jWp.blk mt 2 ?_
  show jWp 189 19 [some (jO m), some (jI (d : Int)), none, none, none, none] [jI 0, jI 0, jO (m + 420)] 0 0 (kA w (m + (18 + 0)) T9) _
  refine jWp.iast (pc' := 20) (j := 0) mt rfl rfl (jtg hW.K420) (by decide) (jlt hW.K420 (by decide)) ?_
  show jWp 189 20 [some (jO m), some (jI (d : Int)), none, none, none, none] [] 0 0 (jW (kA w (m + (18 + 0)) T9) (m + 420) 0 0) _
  refine jWp.blk mt 2 ?_
  show _ ∧ jWp 189 22 [some (jO m), some (jI (d : Int)), none, none, none, none] [jI 1, jO m] 0 0 (jW (kA w (m + (18 + 0)) T9) (m + 420) 0 0) _
  refine ⟨rfl, ?_⟩
  refine jWp.putI (pc' := 25) mt rfl rfl (jtg hW.K0) ?_
  show jWp 189 25 [some (jO m), some (jI (d : Int)), none, none, none, none] [] 0 0 (jW (jW (kA w (m + (18 + 0)) T9) (m + 420) 0 0) m 21 1) _
  refine jWp.blk mt 2 ?_
  show jWp 189 27 [some (jO m), some (jI (d : Int)), some (jI 0), none, none, none] [] 0 0 (jW (jW (kA w (m + (18 + 0)) T9) (m + 420) 0 0) m 21 1) _
  have lp1 : ∀ (N : Nat) (a c1 : Nat) (L1 : List zE) (M1 : Nat → Nat → Int) (hc1 : L1.length = c1) (hcc : c1 ≤ 341 ∧ a ≤ c1 ∧ c1 ≤ 1 + 4 * a) (hmq1 : mq w m (M1, w.2)) (hRL1 : zRL M1 m L1) (hBL1 : zBL n (w.1 (m + 1)) L1) (hr1 : zbo n d (400 - a) a L1 = zBF n d (w.1 (m + 1))), 342 - a < N → jWp 189 27 [some (jO m), some (jI (d : Int)), some (jI (a : Int)), none, none, none] [] 0 0 (M1, w.2) (fun v w1 => v = none ∧ mq w m w1 ∧ zRL w1.1 m (zBF n d (w.1 (m + 1))) ∧ zBL n (w.1 (m + 1)) (zBF n d (w.1 (m + 1))) ∧ (zBF n d (w.1 (m + 1))).length ≤ 341) := by
    intro N
    induction N with
    | zero => intro a c1 L1 M1 hc1 hcc hmq1 hRL1 hBL1 hr1 hm; omega
    | succ N ih2 =>
      intro a c1 L1 M1 hc1 hcc hmq1 hRL1 hBL1 hr1 hm
      have haw : a < c1 → (zL L1 a).2.2.2 ≤ a := fun g => zBL_w hBL1 (a + 1) a (by omega) (by omega)
      have h84 : a < c1 → (zL L1 a).2.2.2 < d → a ≤ 84 := fun g1 g2 => zBL_d hBL1 3 a (by omega) (by omega)
      refine jWp.blk mt 2 ?_
      show _ ∧ jWp 189 29 [some (jO m), some (jI (d : Int)), some (jI (a : Int)), none, none, none] [jO m, jI (a : Int)] 0 0 (M1, w.2) _
      refine ⟨rfl, ?_⟩
      refine jWp.getI (pc' := 32) mt rfl rfl (jtg hW.K0) ?_
      rw [show ((M1, w.2).1 m 21) = (c1 : Int) from (hRL1.1.trans (by rw [hc1]))]
      show jWp 189 32 [some (jO m), some (jI (d : Int)), some (jI (a : Int)), none, none, none] [jI (c1 : Int), jI (a : Int)] 0 0 (M1, w.2) _
      refine jWp.icmp (pc' := 35) mt rfl rfl (b32_id (by omega) (by omega)) (b32_id (by omega) (by omega)) (fun h3 => ?_) (fun h3 => ?_)
      · have h3 : (c1 : Int) ≤ (a : Int) := h3
        refine jWp.vret mt rfl ⟨rfl, rfl⟩ rfl ?_
        rw [show zBF n d (w.1 (m + 1)) = L1 from by rw [← hr1, zbo_f (fun g => by omega)]]
        exact ⟨rfl, hmq1, hRL1, hBL1, by omega⟩
      · have h3 : (a : Int) < (c1 : Int) := h3
        refine jWp.blk mt 1 ?_
        show _ ∧ jWp 189 36 [some (jO m), some (jI (d : Int)), some (jI (a : Int)), none, none, none] [jO m] 0 0 (M1, w.2) _
        refine ⟨rfl, ?_⟩
        refine jWp.getR (pc' := 39) (o := (m + 420)) mt rfl rfl (jtg hW.K0) hW.R20 ?_
        show jWp 189 39 [some (jO m), some (jI (d : Int)), some (jI (a : Int)), none, none, none] [jO (m + 420)] 0 0 (M1, w.2) _
        refine jWp.blk mt 1 ?_
        show jWp 189 40 [some (jO m), some (jI (d : Int)), some (jI (a : Int)), none, none, none] [jI (a : Int), jO (m + 420)] 0 0 (M1, w.2) _
        refine jWp.iald (pc' := 41) (j := a) mt rfl rfl (jird_of hW.K420) (b32_id (by omega) (by omega)) (jlt hW.K420 (by omega)) ?_
        rw [show ((M1, w.2).1 (m + 420) a) = ((zL L1 a).2.2.2 : Int) from (hRL1.2 a (by omega)).2.1]
        show jWp 189 41 [some (jO m), some (jI (d : Int)), some (jI (a : Int)), none, none, none] [jI ((zL L1 a).2.2.2 : Int)] 0 0 (M1, w.2) _
        refine jWp.blk mt 1 ?_
        show jWp 189 42 [some (jO m), some (jI (d : Int)), some (jI (a : Int)), none, none, none] [jI (d : Int), jI ((zL L1 a).2.2.2 : Int)] 0 0 (M1, w.2) _
        refine jWp.icmp (pc' := 45) mt rfl rfl (b32_id (by omega) (by omega)) (b32_id (by omega) (by omega)) (fun h4 => ?_) (fun h4 => ?_)
        · have h4 : (d : Int) ≤ ((zL L1 a).2.2.2 : Int) := h4
          refine jWp.vret mt rfl ⟨rfl, rfl⟩ rfl ?_
          rw [show zBF n d (w.1 (m + 1)) = L1 from by rw [← hr1, zbo_f (fun g => by omega)]]
          exact ⟨rfl, hmq1, hRL1, hBL1, by omega⟩
        · have h4 : ((zL L1 a).2.2.2 : Int) < (d : Int) := h4
          refine jWp.blk mt 2 ?_
          show jWp 189 47 [some (jO m), some (jI (d : Int)), some (jI (a : Int)), some (jI 0), none, none] [] 0 0 (M1, w.2) _
          have lp5 : ∀ (N : Nat) (k c : Nat) (L2 : List zE) (M2 : Nat → Nat → Int) (hk : k ≤ n) (hc2 : L2.length = c) (hcc2 : c ≤ 1 + 4 * a + k) (hmq2 : mq w m (M2, w.2)) (hRL2 : zRL M2 m L2) (hBL2 : zBL n (w.1 (m + 1)) L2) (hA2 : a < L2.length ∧ (zL L2 a).2.2.2 < d) (hr2 : zbo n d (399 - a) (a + 1) (zbi n a (n - k) k L2) = zBF n d (w.1 (m + 1))), n - k < N → jWp 189 47 [some (jO m), some (jI (d : Int)), some (jI (a : Int)), some (jI (k : Int)), none, none] [] 0 0 (M2, w.2) (fun v w1 => v = none ∧ mq w m w1 ∧ zRL w1.1 m (zBF n d (w.1 (m + 1))) ∧ zBL n (w.1 (m + 1)) (zBF n d (w.1 (m + 1))) ∧ (zBF n d (w.1 (m + 1))).length ≤ 341) := by
            intro N
            induction N with
            | zero => intro k c L2 M2 hk hc2 hcc2 hmq2 hRL2 hBL2 hA2 hr2 hm; omega
            | succ N ih6 =>
              intro k c L2 M2 hk hc2 hcc2 hmq2 hRL2 hBL2 hA2 hr2 hm
              have h84b := h84 (by omega) (by omega)
              refine jWp.blk mt 1 ?_
              show jWp 189 48 [some (jO m), some (jI (d : Int)), some (jI (a : Int)), some (jI (k : Int)), none, none] [jI (k : Int)] 0 0 (M2, w.2) _
              refine jWp.i2l (pc' := 49) mt rfl rfl (b32_id (by omega) (by omega)) ?_
              show jWp 189 49 [some (jO m), some (jI (d : Int)), some (jI (a : Int)), some (jI (k : Int)), none, none] [jJ (k : Int)] 0 0 (M2, w.2) _
              refine jWp.blk mt 1 ?_
              show _ ∧ jWp 189 50 [some (jO m), some (jI (d : Int)), some (jI (a : Int)), some (jI (k : Int)), none, none] [jO m, jJ (k : Int)] 0 0 (M2, w.2) _
              refine ⟨rfl, ?_⟩
              refine jWp.getR (pc' := 53) (o := (m + 1)) mt rfl rfl (jtg hW.K0) hW.R0 ?_
              show jWp 189 53 [some (jO m), some (jI (d : Int)), some (jI (a : Int)), some (jI (k : Int)), none, none] [jO (m + 1), jJ (k : Int)] 0 0 (M2, w.2) _
              refine jWp.blk mt 1 ?_
              show jWp 189 54 [some (jO m), some (jI (d : Int)), some (jI (a : Int)), some (jI (k : Int)), none, none] [jI 0, jO (m + 1), jJ (k : Int)] 0 0 (M2, w.2) _
              refine jWp.lald (pc' := 55) (j := 0) mt rfl rfl (jtg hW.K1) (by decide) (jlt hW.K1 (by decide)) ?_
              rw [show ((M2, w.2).1 (m + 1) 0) = (n : Int) from ((congrFun (hmq2.2.1 (m + 1) (by omega)) 0).trans hQ.S.n0)]
              show jWp 189 55 [some (jO m), some (jI (d : Int)), some (jI (a : Int)), some (jI (k : Int)), none, none] [jJ (n : Int), jJ (k : Int)] 0 0 (M2, w.2) _
              refine jWp.lcmp (pc' := 59) mt rfl rfl rfl (b64_id (by omega) (by omega)) (b64_id (by omega) (by omega)) (fun h7 => ?_) (fun h7 => ?_)
              · have h7 : (n : Int) ≤ (k : Int) := h7
                refine jWp.blk mt 2 ?_
                show jWp 189 27 [some (jO m), some (jI (d : Int)), some (jI ((a : Int) + 1)), some (jI (k : Int)), none, none] [] 0 0 (M2, w.2) _
                refine jWp.le (l := [some (jO m), some (jI (d : Int)), some (jI ((a : Int) + 1)), none, none, none]) (by exact ⟨rfl, rfl, rfl, trivial⟩) ?_
                exact ih2 (a + 1) c L2 M2 hc2 (by omega) hmq2 hRL2 hBL2 (by rw [← hr2, show n - k = 0 by omega, show 400 - (a + 1) = 399 - a by omega]; rfl) (by omega)
              · have h7 : (k : Int) < (n : Int) := h7
                refine jWp.blk mt 1 ?_
                show _ ∧ jWp 189 60 [some (jO m), some (jI (d : Int)), some (jI (a : Int)), some (jI (k : Int)), none, none] [jO m] 0 0 (M2, w.2) _
                refine ⟨rfl, ?_⟩
                refine jWp.getR (pc' := 63) (o := (m + 17)) mt rfl rfl (jtg hW.K0) hW.R17 ?_
                show jWp 189 63 [some (jO m), some (jI (d : Int)), some (jI (a : Int)), some (jI (k : Int)), none, none] [jO (m + 17)] 0 0 (M2, w.2) _
                refine jWp.blk mt 1 ?_
                show jWp 189 64 [some (jO m), some (jI (d : Int)), some (jI (a : Int)), some (jI (k : Int)), none, none] [jI (a : Int), jO (m + 17)] 0 0 (M2, w.2) _
                refine jWp.aald (pc' := 65) (j := a) (o := (m + (18 + a))) mt rfl rfl (jrg hW.K17 (by decide) (by decide)) (b32_id (by omega) (by omega)) (jlt hW.K17 (by omega)) (hW.RFo a (by omega)) ?_
                show jWp 189 65 [some (jO m), some (jI (d : Int)), some (jI (a : Int)), some (jI (k : Int)), none, none] [jO (m + (18 + a))] 0 0 (M2, w.2) _
                refine jWp.blk mt 1 ?_
                show _ ∧ jWp 189 66 [some (jO m), some (jI (d : Int)), some (jI (a : Int)), some (jI (k : Int)), none, none] [jO m, jO (m + (18 + a))] 0 0 (M2, w.2) _
                refine ⟨rfl, ?_⟩
                refine jWp.getR (pc' := 69) (o := (m + 17)) mt rfl rfl (jtg hW.K0) hW.R17 ?_
                show jWp 189 69 [some (jO m), some (jI (d : Int)), some (jI (a : Int)), some (jI (k : Int)), none, none] [jO (m + 17), jO (m + (18 + a))] 0 0 (M2, w.2) _
                refine jWp.blk mt 1 ?_
                show _ ∧ jWp 189 70 [some (jO m), some (jI (d : Int)), some (jI (a : Int)), some (jI (k : Int)), none, none] [jO m, jO (m + 17), jO (m + (18 + a))] 0 0 (M2, w.2) _
                refine ⟨rfl, ?_⟩
                refine jWp.getI (pc' := 73) mt rfl rfl (jtg hW.K0) ?_
                rw [show ((M2, w.2).1 m 21) = (c : Int) from (hRL2.1.trans (by rw [hc2]))]
                show jWp 189 73 [some (jO m), some (jI (d : Int)), some (jI (a : Int)), some (jI (k : Int)), none, none] [jI (c : Int), jO (m + 17), jO (m + (18 + a))] 0 0 (M2, w.2) _
                refine jWp.aald (pc' := 74) (j := c) (o := (m + (18 + c))) mt rfl rfl (jrg hW.K17 (by decide) (by decide)) (b32_id (by omega) (by omega)) (jlt hW.K17 (by omega)) (hW.RFo c (by omega)) ?_
                show jWp 189 74 [some (jO m), some (jI (d : Int)), some (jI (a : Int)), some (jI (k : Int)), none, none] [jO (m + (18 + c)), jO (m + (18 + a))] 0 0 (M2, w.2) _
                refine jWp.calls (as := [jO (m + (18 + a)), jO (m + (18 + c))]) (rest := []) mt rfl rfl rfl rfl ?_
                refine jCall.mono (E_copies (w := (M2, w.2)) (a := m + (18 + a)) (q := m + (18 + c)) (hW.KF _ (by omega)) (hW.KF _ (by omega)) (by omega)) (fun v9 w9 h9 => ?_)
                obtain ⟨rfl, T9, h9, hT9⟩ := h9
                subst h9
                have hTz : zeq T9 (zL L2 a).1 := fun j hj => (hT9 j hj).trans ((hRL2.2 a (by omega)).1 j hj)
                show jWp 189 77 [some (jO m), some (jI (d : Int)), some (jI (a : Int)), some (jI (k : Int)), none, none] [] 0 0 (kA (M2, w.2) (m + (18 + c)) T9) _
                refine jWp.blk mt 2 ?_
                show _ ∧ _ ∧ jWp 189 79 [some (jO m), some (jI (d : Int)), some (jI (a : Int)), some (jI (k : Int)), none, none] [jO m, jO m] 0 0 (kA (M2, w.2) (m + (18 + c)) T9) _
                refine ⟨rfl, rfl, ?_⟩
                refine jWp.getR (pc' := 82) (o := (m + 17)) mt rfl rfl (jtg hW.K0) hW.R17 ?_
                show jWp 189 82 [some (jO m), some (jI (d : Int)), some (jI (a : Int)), some (jI (k : Int)), none, none] [jO (m + 17), jO m] 0 0 (kA (M2, w.2) (m + (18 + c)) T9) _
                refine jWp.blk mt 1 ?_
                show _ ∧ jWp 189 83 [some (jO m), some (jI (d : Int)), some (jI (a : Int)), some (jI (k : Int)), none, none] [jO m, jO (m + 17), jO m] 0 0 (kA (M2, w.2) (m + (18 + c)) T9) _
                refine ⟨rfl, ?_⟩
                refine jWp.getI (pc' := 86) mt rfl rfl (jtg hW.K0) ?_
                rw [show ((kA (M2, w.2) (m + (18 + c)) T9).1 m 21) = (c : Int) from (((kA_a (by omega)).trans rfl).trans (hRL2.1.trans (by rw [hc2])))]
                show jWp 189 86 [some (jO m), some (jI (d : Int)), some (jI (a : Int)), some (jI (k : Int)), none, none] [jI (c : Int), jO (m + 17), jO m] 0 0 (kA (M2, w.2) (m + (18 + c)) T9) _
                refine jWp.aald (pc' := 87) (j := c) (o := (m + (18 + c))) mt rfl rfl (jrg hW.K17 (by decide) (by decide)) (b32_id (by omega) (by omega)) (jlt hW.K17 (by omega)) (hW.RFo c (by omega)) ?_
                show jWp 189 87 [some (jO m), some (jI (d : Int)), some (jI (a : Int)), some (jI (k : Int)), none, none] [jO (m + (18 + c)), jO m] 0 0 (kA (M2, w.2) (m + (18 + c)) T9) _
                refine jWp.blk mt 1 ?_
                show jWp 189 88 [some (jO m), some (jI (d : Int)), some (jI (a : Int)), some (jI (k : Int)), none, none] [jI (k : Int), jO (m + (18 + c)), jO m] 0 0 (kA (M2, w.2) (m + (18 + c)) T9) _
                refine jWp.callv (as := [jO m, jO (m + (18 + c)), jI (k : Int)]) (rest := []) mt rfl rfl rfl ⟨rfl, jtg hW.K0⟩ ?_
                refine jCall.mono (E_xany (w := (kA (M2, w.2) (m + (18 + c)) T9)) (o := 18 + c) (n := n) (k := k) hW (hW.KF c (by omega)) (by rw [show (kA (M2, w.2) (m + (18 + c)) T9).1 (m + (18 + c)) = T9 from kA_fs]; exact zeq_S hTz (hBL2.2.2.2 a (by omega)).1.S) (by omega)) (fun v9 w9 h9 => ?_)
                obtain ⟨hx, hh⟩ := h9
                obtain ⟨M3, G9⟩ := w9
                have hg : G9 = w.2 := hx.1
                subst hg
                have hmq3 : mq w m (M3, w.2) := mq_t (mq_A hmq2 (by omega)) (mq_x (Or.inr (by omega)) hx)
                have h3m : ∀ b, b ≠ m → b ≠ m + 6 → b ≠ m + (18 + c) → M3 b = M2 b := fun b g1 g2 g3 => (hx.2.1 b g1 g2 g3).trans (kA_f g3)
                have h321 : M3 m 21 = (c : Int) := (hx.2.2 21 (by decide) (by decide)).trans ((kA_a (by omega)).trans (hRL2.1.trans (by rw [hc2])))
                have h3a : M3 (m + 420) a = ((zL L2 a).2.2.2 : Int) := (congrFun (h3m (m + 420) (by omega) (by omega) (by omega)) a).trans (hRL2.2 a (by omega)).2.1
                have hRL3 : zRL M3 m L2 := zRL_k hRL2 (h321.trans ((hRL2.1.trans (by rw [hc2])).symm)) (fun o ho => h3m _ (by omega) (by omega) (by omega)) (h3m _ (by omega) (by omega) (by omega)) (h3m _ (by omega) (by omega) (by omega)) (h3m _ (by omega) (by omega) (by omega))
                rw [show (kA (M2, w.2) (m + (18 + c)) T9).1 (m + (18 + c)) = T9 from kA_fs] at hh
                have hSn : ∀ hk : k < n, zS (M3 (m + (18 + c))) n := fun hk => by
                  rcases hh with ⟨_, hz⟩ | ⟨_, hz, _⟩
                  · exact zxn_S (zeq_S hTz (hBL2.2.2.2 a (by omega)).1.S) (by omega) hz
                  · rw [show M3 (m + (18 + c)) = T9 from hz]; exact zeq_S hTz (hBL2.2.2.2 a (by omega)).1.S
                rcases hh with ⟨rfl, hz⟩ | ⟨rfl, hzS, hz⟩
                · have hnew : zeq (M3 (m + (18 + c))) (zxF (zL L2 a).1 n k) := zeq_t (zxn_F (by omega) hz) (zxF_c hTz hn4 (by omega))
                  have hcan : zcan (zL L2 a).1 n k := (zcan_q hTz hn4 (by omega)).mp hz.1
                  show jWp 189 91 [some (jO m), some (jI (d : Int)), some (jI (a : Int)), some (jI (k : Int)), none, none] [jI 1] 0 0 (M3, w.2) _
                  refine jWp.blk mt 3 ?_
                  show jWp 189 96 [some (jO m), some (jI (d : Int)), some (jI (a : Int)), some (jI (k : Int)), some (jI 1), some (jI 0)] [] 0 0 (M3, w.2) _
                  have lp8 : ∀ (N : Nat) (x : Nat) (s : Int) (hx9 : x ≤ c) (hs : (s = 1 ∧ zcan (zL L2 a).1 n k ∧ zeq (M3 (m + (18 + c))) (zxF (zL L2 a).1 n k) ∧ ∀ y, y < x → ¬ zal (zL L2 y).1 (zxF (zL L2 a).1 n k) n) ∨ (s = 0 ∧ ¬ (zcan (zL L2 a).1 n k ∧ znw2 L2 n (zxF (zL L2 a).1 n k)))), c - x < N → jWp 189 96 [some (jO m), some (jI (d : Int)), some (jI (a : Int)), some (jI (k : Int)), some (jI s), some (jI (x : Int))] [] 0 0 (M3, w.2) (fun v w1 => v = none ∧ mq w m w1 ∧ zRL w1.1 m (zBF n d (w.1 (m + 1))) ∧ zBL n (w.1 (m + 1)) (zBF n d (w.1 (m + 1))) ∧ (zBF n d (w.1 (m + 1))).length ≤ 341) := by
                    intro N
                    induction N with
                    | zero => intro x s hx9 hs hm; omega
                    | succ N ih9 =>
                      intro x s hx9 hs hm
                      have hsx : s = 1 → s = 1 ∧ zcan (zL L2 a).1 n k ∧ zeq (M3 (m + (18 + c))) (zxF (zL L2 a).1 n k) ∧ ∀ y, y < x → ¬ zal (zL L2 y).1 (zxF (zL L2 a).1 n k) n := fun e => by
                        rcases hs with g | g
                        · exact g
                        · exact absurd g.1 (by omega)
                      refine jWp.blk mt 2 ?_
                      show _ ∧ jWp 189 99 [some (jO m), some (jI (d : Int)), some (jI (a : Int)), some (jI (k : Int)), some (jI s), some (jI (x : Int))] [jO m, jI (x : Int)] 0 0 (M3, w.2) _
                      refine ⟨rfl, ?_⟩
                      refine jWp.getI (pc' := 102) mt rfl rfl (jtg hW.K0) ?_
                      rw [show ((M3, w.2).1 m 21) = (c : Int) from h321]
                      show jWp 189 102 [some (jO m), some (jI (d : Int)), some (jI (a : Int)), some (jI (k : Int)), some (jI s), some (jI (x : Int))] [jI (c : Int), jI (x : Int)] 0 0 (M3, w.2) _
                      refine jWp.icmp (pc' := 105) mt rfl rfl (b32_id (by omega) (by omega)) (b32_id (by omega) (by omega)) (fun h10 => ?_) (fun h10 => ?_)
                      · have h10 : (c : Int) ≤ (x : Int) := h10
                        refine jWp.blk mt 1 ?_
                        show jWp 189 147 [some (jO m), some (jI (d : Int)), some (jI (a : Int)), some (jI (k : Int)), some (jI s), some (jI (x : Int))] [jI s] 0 0 (M3, w.2) _
                        refine jWp.ifz (pc' := 150) mt rfl rfl (b32_id (by omega) (by omega)) (fun h11 => ?_) (fun h11 => ?_)
                        · have h11 : s = 0 := h11
                          refine jWp.blk mt 2 ?_
                          show jWp 189 47 [some (jO m), some (jI (d : Int)), some (jI (a : Int)), some (jI ((k : Int) + 1)), some (jI s), some (jI (x : Int))] [] 0 0 (M3, w.2) _
                          refine jWp.le (l := [some (jO m), some (jI (d : Int)), some (jI (a : Int)), some (jI ((k : Int) + 1)), none, none]) (by exact ⟨rfl, rfl, rfl, rfl, trivial⟩) ?_
                          exact ih6 (k + 1) c L2 M3 (by omega) hc2 (by omega) hmq3 hRL3 hBL2 hA2 (by rw [← hr2, show n - k = (n - (k + 1)) + 1 by omega]; show _ = zbo n d (399 - a) (a + 1) (zbi n a (n - (k + 1)) (k + 1) (zba n a k L2)); rw [zba_f (by rcases hs with g | g; exact absurd g.1 (by omega); exact g.2)]) (by omega)
                        · have h11 : s ≠ 0 := h11
                          refine jWp.blk mt 1 ?_
                          show _ ∧ jWp 189 151 [some (jO m), some (jI (d : Int)), some (jI (a : Int)), some (jI (k : Int)), some (jI s), some (jI (x : Int))] [jO m] 0 0 (M3, w.2) _
                          refine ⟨rfl, ?_⟩
                          refine jWp.getR (pc' := 154) (o := (m + 418)) mt rfl rfl (jtg hW.K0) hW.R18 ?_
                          show jWp 189 154 [some (jO m), some (jI (d : Int)), some (jI (a : Int)), some (jI (k : Int)), some (jI s), some (jI (x : Int))] [jO (m + 418)] 0 0 (M3, w.2) _
                          refine jWp.blk mt 1 ?_
                          show _ ∧ jWp 189 155 [some (jO m), some (jI (d : Int)), some (jI (a : Int)), some (jI (k : Int)), some (jI s), some (jI (x : Int))] [jO m, jO (m + 418)] 0 0 (M3, w.2) _
                          refine ⟨rfl, ?_⟩
                          refine jWp.getI (pc' := 158) mt rfl rfl (jtg hW.K0) ?_
                          rw [show ((M3, w.2).1 m 21) = (c : Int) from h321]
                          show jWp 189 158 [some (jO m), some (jI (d : Int)), some (jI (a : Int)), some (jI (k : Int)), some (jI s), some (jI (x : Int))] [jI (c : Int), jO (m + 418)] 0 0 (M3, w.2) _
                          refine jWp.blk mt 1 ?_
                          show jWp 189 159 [some (jO m), some (jI (d : Int)), some (jI (a : Int)), some (jI (k : Int)), some (jI s), some (jI (x : Int))] [jI (a : Int), jI (c : Int), jO (m + 418)] 0 0 (M3, w.2) _
                          refine jWp.iast (pc' := 160) (j := c) mt rfl rfl (jtg hW.K418) (b32_id (by omega) (by omega)) (jlt hW.K418 (by omega)) ?_
                          show jWp 189 160 [some (jO m), some (jI (d : Int)), some (jI (a : Int)), some (jI (k : Int)), some (jI s), some (jI (x : Int))] [] 0 0 (jW (M3, w.2) (m + 418) c (a : Int)) _
                          refine jWp.blk mt 1 ?_
                          show _ ∧ jWp 189 161 [some (jO m), some (jI (d : Int)), some (jI (a : Int)), some (jI (k : Int)), some (jI s), some (jI (x : Int))] [jO m] 0 0 (jW (M3, w.2) (m + 418) c (a : Int)) _
                          refine ⟨rfl, ?_⟩
                          refine jWp.getR (pc' := 164) (o := (m + 419)) mt rfl rfl (jtg hW.K0) hW.R19 ?_
                          show jWp 189 164 [some (jO m), some (jI (d : Int)), some (jI (a : Int)), some (jI (k : Int)), some (jI s), some (jI (x : Int))] [jO (m + 419)] 0 0 (jW (M3, w.2) (m + 418) c (a : Int)) _
                          refine jWp.blk mt 1 ?_
                          show _ ∧ jWp 189 165 [some (jO m), some (jI (d : Int)), some (jI (a : Int)), some (jI (k : Int)), some (jI s), some (jI (x : Int))] [jO m, jO (m + 419)] 0 0 (jW (M3, w.2) (m + 418) c (a : Int)) _
                          refine ⟨rfl, ?_⟩
                          refine jWp.getI (pc' := 168) mt rfl rfl (jtg hW.K0) ?_
                          rw [show ((jW (M3, w.2) (m + 418) c (a : Int)).1 m 21) = (c : Int) from (((jW_a (by omega)).trans rfl).trans h321)]
                          show jWp 189 168 [some (jO m), some (jI (d : Int)), some (jI (a : Int)), some (jI (k : Int)), some (jI s), some (jI (x : Int))] [jI (c : Int), jO (m + 419)] 0 0 (jW (M3, w.2) (m + 418) c (a : Int)) _
                          refine jWp.blk mt 1 ?_
                          show jWp 189 169 [some (jO m), some (jI (d : Int)), some (jI (a : Int)), some (jI (k : Int)), some (jI s), some (jI (x : Int))] [jI (k : Int), jI (c : Int), jO (m + 419)] 0 0 (jW (M3, w.2) (m + 418) c (a : Int)) _
                          refine jWp.iast (pc' := 170) (j := c) mt rfl rfl (jtg hW.K419) (b32_id (by omega) (by omega)) (jlt hW.K419 (by omega)) ?_
                          show jWp 189 170 [some (jO m), some (jI (d : Int)), some (jI (a : Int)), some (jI (k : Int)), some (jI s), some (jI (x : Int))] [] 0 0 (jW (jW (M3, w.2) (m + 418) c (a : Int)) (m + 419) c (k : Int)) _
                          refine jWp.blk mt 1 ?_
                          show _ ∧ jWp 189 171 [some (jO m), some (jI (d : Int)), some (jI (a : Int)), some (jI (k : Int)), some (jI s), some (jI (x : Int))] [jO m] 0 0 (jW (jW (M3, w.2) (m + 418) c (a : Int)) (m + 419) c (k : Int)) _
                          refine ⟨rfl, ?_⟩
                          refine jWp.getR (pc' := 174) (o := (m + 420)) mt rfl rfl (jtg hW.K0) hW.R20 ?_
                          show jWp 189 174 [some (jO m), some (jI (d : Int)), some (jI (a : Int)), some (jI (k : Int)), some (jI s), some (jI (x : Int))] [jO (m + 420)] 0 0 (jW (jW (M3, w.2) (m + 418) c (a : Int)) (m + 419) c (k : Int)) _
                          refine jWp.blk mt 1 ?_
                          show _ ∧ jWp 189 175 [some (jO m), some (jI (d : Int)), some (jI (a : Int)), some (jI (k : Int)), some (jI s), some (jI (x : Int))] [jO m, jO (m + 420)] 0 0 (jW (jW (M3, w.2) (m + 418) c (a : Int)) (m + 419) c (k : Int)) _
                          refine ⟨rfl, ?_⟩
                          refine jWp.getI (pc' := 178) mt rfl rfl (jtg hW.K0) ?_
                          rw [show ((jW (jW (M3, w.2) (m + 418) c (a : Int)) (m + 419) c (k : Int)).1 m 21) = (c : Int) from (((jW_a (by omega)).trans ((jW_a (by omega)).trans rfl)).trans h321)]
                          show jWp 189 178 [some (jO m), some (jI (d : Int)), some (jI (a : Int)), some (jI (k : Int)), some (jI s), some (jI (x : Int))] [jI (c : Int), jO (m + 420)] 0 0 (jW (jW (M3, w.2) (m + 418) c (a : Int)) (m + 419) c (k : Int)) _
                          refine jWp.blk mt 1 ?_
                          show _ ∧ jWp 189 179 [some (jO m), some (jI (d : Int)), some (jI (a : Int)), some (jI (k : Int)), some (jI s), some (jI (x : Int))] [jO m, jI (c : Int), jO (m + 420)] 0 0 (jW (jW (M3, w.2) (m + 418) c (a : Int)) (m + 419) c (k : Int)) _
                          refine ⟨rfl, ?_⟩
                          refine jWp.getR (pc' := 182) (o := (m + 420)) mt rfl rfl (jtg hW.K0) hW.R20 ?_
                          show jWp 189 182 [some (jO m), some (jI (d : Int)), some (jI (a : Int)), some (jI (k : Int)), some (jI s), some (jI (x : Int))] [jO (m + 420), jI (c : Int), jO (m + 420)] 0 0 (jW (jW (M3, w.2) (m + 418) c (a : Int)) (m + 419) c (k : Int)) _
                          refine jWp.blk mt 1 ?_
                          show jWp 189 183 [some (jO m), some (jI (d : Int)), some (jI (a : Int)), some (jI (k : Int)), some (jI s), some (jI (x : Int))] [jI (a : Int), jO (m + 420), jI (c : Int), jO (m + 420)] 0 0 (jW (jW (M3, w.2) (m + 418) c (a : Int)) (m + 419) c (k : Int)) _
                          refine jWp.iald (pc' := 184) (j := a) mt rfl rfl (jird_of hW.K420) (b32_id (by omega) (by omega)) (jlt hW.K420 (by omega)) ?_
                          rw [show ((jW (jW (M3, w.2) (m + 418) c (a : Int)) (m + 419) c (k : Int)).1 (m + 420) a) = ((zL L2 a).2.2.2 : Int) from (((jW_a (by omega)).trans ((jW_a (by omega)).trans rfl)).trans h3a)]
                          show jWp 189 184 [some (jO m), some (jI (d : Int)), some (jI (a : Int)), some (jI (k : Int)), some (jI s), some (jI (x : Int))] [jI ((zL L2 a).2.2.2 : Int), jI (c : Int), jO (m + 420)] 0 0 (jW (jW (M3, w.2) (m + 418) c (a : Int)) (m + 419) c (k : Int)) _
                          refine jWp.blk mt 2 ?_
                          show jWp 189 186 [some (jO m), some (jI (d : Int)), some (jI (a : Int)), some (jI (k : Int)), some (jI s), some (jI (x : Int))] [jI (((zL L2 a).2.2.2 : Int) + 1), jI (c : Int), jO (m + 420)] 0 0 (jW (jW (M3, w.2) (m + 418) c (a : Int)) (m + 419) c (k : Int)) _
                          refine jWp.iast (pc' := 187) (j := c) mt rfl rfl (jtg hW.K420) (b32_id (by omega) (by omega)) (jlt hW.K420 (by omega)) ?_
                          show jWp 189 187 [some (jO m), some (jI (d : Int)), some (jI (a : Int)), some (jI (k : Int)), some (jI s), some (jI (x : Int))] [] 0 0 (jW (jW (jW (M3, w.2) (m + 418) c (a : Int)) (m + 419) c (k : Int)) (m + 420) c (((zL L2 a).2.2.2 : Int) + 1)) _
                          refine jWp.blk mt 2 ?_
                          show _ ∧ _ ∧ jWp 189 189 [some (jO m), some (jI (d : Int)), some (jI (a : Int)), some (jI (k : Int)), some (jI s), some (jI (x : Int))] [jO m, jO m] 0 0 (jW (jW (jW (M3, w.2) (m + 418) c (a : Int)) (m + 419) c (k : Int)) (m + 420) c (((zL L2 a).2.2.2 : Int) + 1)) _
                          refine ⟨rfl, rfl, ?_⟩
                          refine jWp.getI (pc' := 192) mt rfl rfl (jtg hW.K0) ?_
                          rw [show ((jW (jW (jW (M3, w.2) (m + 418) c (a : Int)) (m + 419) c (k : Int)) (m + 420) c (((zL L2 a).2.2.2 : Int) + 1)).1 m 21) = (c : Int) from (((jW_a (by omega)).trans ((jW_a (by omega)).trans ((jW_a (by omega)).trans rfl))).trans h321)]
                          show jWp 189 192 [some (jO m), some (jI (d : Int)), some (jI (a : Int)), some (jI (k : Int)), some (jI s), some (jI (x : Int))] [jI (c : Int), jO m] 0 0 (jW (jW (jW (M3, w.2) (m + 418) c (a : Int)) (m + 419) c (k : Int)) (m + 420) c (((zL L2 a).2.2.2 : Int) + 1)) _
                          refine jWp.blk mt 2 ?_
                          show jWp 189 194 [some (jO m), some (jI (d : Int)), some (jI (a : Int)), some (jI (k : Int)), some (jI s), some (jI (x : Int))] [jI ((c : Int) + 1), jO m] 0 0 (jW (jW (jW (M3, w.2) (m + 418) c (a : Int)) (m + 419) c (k : Int)) (m + 420) c (((zL L2 a).2.2.2 : Int) + 1)) _
                          refine jWp.putI (pc' := 197) mt rfl rfl (jtg hW.K0) ?_
                          show jWp 189 197 [some (jO m), some (jI (d : Int)), some (jI (a : Int)), some (jI (k : Int)), some (jI s), some (jI (x : Int))] [] 0 0 (jW (jW (jW (jW (M3, w.2) (m + 418) c (a : Int)) (m + 419) c (k : Int)) (m + 420) c (((zL L2 a).2.2.2 : Int) + 1)) m 21 ((c : Int) + 1)) _
                          refine jWp.blk mt 2 ?_
                          show jWp 189 47 [some (jO m), some (jI (d : Int)), some (jI (a : Int)), some (jI ((k : Int) + 1)), some (jI s), some (jI (x : Int))] [] 0 0 (jW (jW (jW (jW (M3, w.2) (m + 418) c (a : Int)) (m + 419) c (k : Int)) (m + 420) c (((zL L2 a).2.2.2 : Int) + 1)) m 21 ((c : Int) + 1)) _
                          refine jWp.le (l := [some (jO m), some (jI (d : Int)), some (jI (a : Int)), some (jI ((k : Int) + 1)), none, none]) (by exact ⟨rfl, rfl, rfl, rfl, trivial⟩) ?_
                          exact ih6 (k + 1) (c + 1) (L2 ++ [(zxF (zL L2 a).1 n k, a, k, (zL L2 a).2.2.2 + 1)]) (jW (jW (jW (jW (M3, w.2) (m + 418) c (a : Int)) (m + 419) c (k : Int)) (m + 420) c (((zL L2 a).2.2.2 : Int) + 1)) m 21 ((c : Int) + 1)).1 (by omega) (by rw [List.length_append, hc2]; rfl) (by omega) (mq_S (mq_W (mq_W (mq_W hmq3 (by omega)) (by omega)) (by omega)) (by decide)) (by
                have hs1 := hsx (by omega)
                refine zRL_n hRL3 ?_ (fun o ho => ((jW_f (by omega)).trans ((jW_f (by omega)).trans ((jW_f (by omega)).trans ((jW_f (by omega)).trans rfl))))) (fun o ho => ⟨((jW_a (by omega)).trans ((jW_a (by omega)).trans ((jW_a (by omega)).trans ((jW_k (by omega)).trans rfl)))), ((jW_a (by omega)).trans ((jW_a (by omega)).trans ((jW_k (by omega)).trans ((jW_a (by omega)).trans rfl)))), ((jW_a (by omega)).trans ((jW_k (by omega)).trans ((jW_a (by omega)).trans ((jW_a (by omega)).trans rfl))))⟩) (by rw [hc2]; exact hs1.2.2.1) ?_ ?_ ?_
                · rw [hc2]; exact jW_s
                · rw [hc2]; exact ((jW_a (by omega)).trans ((jW_a (by omega)).trans ((jW_a (by omega)).trans jW_s)))
                · rw [hc2]; exact ((jW_a (by omega)).trans ((jW_a (by omega)).trans jW_s))
                · rw [hc2]; exact (((jW_a (by omega)).trans jW_s)).trans (by show _ = (((zL L2 a).2.2.2 + 1 : Nat) : Int); omega)) (zBL_n hBL2 (by omega) (by omega) (by omega) (hsx (by omega)).2.1) ⟨by rw [List.length_append]; omega, by rw [zL_l hA2.1]; exact hA2.2⟩ (by
                have hs1 := hsx (by omega)
                rw [← hr2, show n - k = (n - (k + 1)) + 1 by omega]
                show _ = zbo n d (399 - a) (a + 1) (zbi n a (n - (k + 1)) (k + 1) (zba n a k L2))
                rw [zba_t ⟨hs1.2.1, fun o ho => hs1.2.2.2 o (by omega)⟩]) (by omega)
                      · have h10 : (x : Int) < (c : Int) := h10
                        refine jWp.blk mt 1 ?_
                        show jWp 189 107 [some (jO m), some (jI (d : Int)), some (jI (a : Int)), some (jI (k : Int)), some (jI s), some (jI (x : Int))] [jI s] 0 0 (M3, w.2) _
                        refine jWp.ifz (pc' := 110) mt rfl rfl (b32_id (by omega) (by omega)) (fun h12 => ?_) (fun h12 => ?_)
                        · have h12 : s = 0 := h12
                          refine jWp.blk mt 1 ?_
                          show jWp 189 147 [some (jO m), some (jI (d : Int)), some (jI (a : Int)), some (jI (k : Int)), some (jI s), some (jI (x : Int))] [jI s] 0 0 (M3, w.2) _
                          refine jWp.ifz (pc' := 150) mt rfl rfl (b32_id (by omega) (by omega)) (fun h13 => ?_) (fun h13 => ?_)
                          · have h13 : s = 0 := h13
                            refine jWp.blk mt 2 ?_
                            show jWp 189 47 [some (jO m), some (jI (d : Int)), some (jI (a : Int)), some (jI ((k : Int) + 1)), some (jI s), some (jI (x : Int))] [] 0 0 (M3, w.2) _
                            refine jWp.le (l := [some (jO m), some (jI (d : Int)), some (jI (a : Int)), some (jI ((k : Int) + 1)), none, none]) (by exact ⟨rfl, rfl, rfl, rfl, trivial⟩) ?_
                            exact ih6 (k + 1) c L2 M3 (by omega) hc2 (by omega) hmq3 hRL3 hBL2 hA2 (by rw [← hr2, show n - k = (n - (k + 1)) + 1 by omega]; show _ = zbo n d (399 - a) (a + 1) (zbi n a (n - (k + 1)) (k + 1) (zba n a k L2)); rw [zba_f (by rcases hs with g | g; exact absurd g.1 (by omega); exact g.2)]) (by omega)
                          · have h13 : s ≠ 0 := h13
                            refine jWp.blk mt 1 ?_
                            show _ ∧ jWp 189 151 [some (jO m), some (jI (d : Int)), some (jI (a : Int)), some (jI (k : Int)), some (jI s), some (jI (x : Int))] [jO m] 0 0 (M3, w.2) _
                            refine ⟨rfl, ?_⟩
                            refine jWp.getR (pc' := 154) (o := (m + 418)) mt rfl rfl (jtg hW.K0) hW.R18 ?_
                            show jWp 189 154 [some (jO m), some (jI (d : Int)), some (jI (a : Int)), some (jI (k : Int)), some (jI s), some (jI (x : Int))] [jO (m + 418)] 0 0 (M3, w.2) _
                            refine jWp.blk mt 1 ?_
                            show _ ∧ jWp 189 155 [some (jO m), some (jI (d : Int)), some (jI (a : Int)), some (jI (k : Int)), some (jI s), some (jI (x : Int))] [jO m, jO (m + 418)] 0 0 (M3, w.2) _
                            refine ⟨rfl, ?_⟩
                            refine jWp.getI (pc' := 158) mt rfl rfl (jtg hW.K0) ?_
                            rw [show ((M3, w.2).1 m 21) = (c : Int) from h321]
                            show jWp 189 158 [some (jO m), some (jI (d : Int)), some (jI (a : Int)), some (jI (k : Int)), some (jI s), some (jI (x : Int))] [jI (c : Int), jO (m + 418)] 0 0 (M3, w.2) _
                            refine jWp.blk mt 1 ?_
                            show jWp 189 159 [some (jO m), some (jI (d : Int)), some (jI (a : Int)), some (jI (k : Int)), some (jI s), some (jI (x : Int))] [jI (a : Int), jI (c : Int), jO (m + 418)] 0 0 (M3, w.2) _
                            refine jWp.iast (pc' := 160) (j := c) mt rfl rfl (jtg hW.K418) (b32_id (by omega) (by omega)) (jlt hW.K418 (by omega)) ?_
                            show jWp 189 160 [some (jO m), some (jI (d : Int)), some (jI (a : Int)), some (jI (k : Int)), some (jI s), some (jI (x : Int))] [] 0 0 (jW (M3, w.2) (m + 418) c (a : Int)) _
                            refine jWp.blk mt 1 ?_
                            show _ ∧ jWp 189 161 [some (jO m), some (jI (d : Int)), some (jI (a : Int)), some (jI (k : Int)), some (jI s), some (jI (x : Int))] [jO m] 0 0 (jW (M3, w.2) (m + 418) c (a : Int)) _
                            refine ⟨rfl, ?_⟩
                            refine jWp.getR (pc' := 164) (o := (m + 419)) mt rfl rfl (jtg hW.K0) hW.R19 ?_
                            show jWp 189 164 [some (jO m), some (jI (d : Int)), some (jI (a : Int)), some (jI (k : Int)), some (jI s), some (jI (x : Int))] [jO (m + 419)] 0 0 (jW (M3, w.2) (m + 418) c (a : Int)) _
                            refine jWp.blk mt 1 ?_
                            show _ ∧ jWp 189 165 [some (jO m), some (jI (d : Int)), some (jI (a : Int)), some (jI (k : Int)), some (jI s), some (jI (x : Int))] [jO m, jO (m + 419)] 0 0 (jW (M3, w.2) (m + 418) c (a : Int)) _
                            refine ⟨rfl, ?_⟩
                            refine jWp.getI (pc' := 168) mt rfl rfl (jtg hW.K0) ?_
                            rw [show ((jW (M3, w.2) (m + 418) c (a : Int)).1 m 21) = (c : Int) from (((jW_a (by omega)).trans rfl).trans h321)]
                            show jWp 189 168 [some (jO m), some (jI (d : Int)), some (jI (a : Int)), some (jI (k : Int)), some (jI s), some (jI (x : Int))] [jI (c : Int), jO (m + 419)] 0 0 (jW (M3, w.2) (m + 418) c (a : Int)) _
                            refine jWp.blk mt 1 ?_
                            show jWp 189 169 [some (jO m), some (jI (d : Int)), some (jI (a : Int)), some (jI (k : Int)), some (jI s), some (jI (x : Int))] [jI (k : Int), jI (c : Int), jO (m + 419)] 0 0 (jW (M3, w.2) (m + 418) c (a : Int)) _
                            refine jWp.iast (pc' := 170) (j := c) mt rfl rfl (jtg hW.K419) (b32_id (by omega) (by omega)) (jlt hW.K419 (by omega)) ?_
                            show jWp 189 170 [some (jO m), some (jI (d : Int)), some (jI (a : Int)), some (jI (k : Int)), some (jI s), some (jI (x : Int))] [] 0 0 (jW (jW (M3, w.2) (m + 418) c (a : Int)) (m + 419) c (k : Int)) _
                            refine jWp.blk mt 1 ?_
                            show _ ∧ jWp 189 171 [some (jO m), some (jI (d : Int)), some (jI (a : Int)), some (jI (k : Int)), some (jI s), some (jI (x : Int))] [jO m] 0 0 (jW (jW (M3, w.2) (m + 418) c (a : Int)) (m + 419) c (k : Int)) _
                            refine ⟨rfl, ?_⟩
                            refine jWp.getR (pc' := 174) (o := (m + 420)) mt rfl rfl (jtg hW.K0) hW.R20 ?_
                            show jWp 189 174 [some (jO m), some (jI (d : Int)), some (jI (a : Int)), some (jI (k : Int)), some (jI s), some (jI (x : Int))] [jO (m + 420)] 0 0 (jW (jW (M3, w.2) (m + 418) c (a : Int)) (m + 419) c (k : Int)) _
                            refine jWp.blk mt 1 ?_
                            show _ ∧ jWp 189 175 [some (jO m), some (jI (d : Int)), some (jI (a : Int)), some (jI (k : Int)), some (jI s), some (jI (x : Int))] [jO m, jO (m + 420)] 0 0 (jW (jW (M3, w.2) (m + 418) c (a : Int)) (m + 419) c (k : Int)) _
                            refine ⟨rfl, ?_⟩
                            refine jWp.getI (pc' := 178) mt rfl rfl (jtg hW.K0) ?_
                            rw [show ((jW (jW (M3, w.2) (m + 418) c (a : Int)) (m + 419) c (k : Int)).1 m 21) = (c : Int) from (((jW_a (by omega)).trans ((jW_a (by omega)).trans rfl)).trans h321)]
                            show jWp 189 178 [some (jO m), some (jI (d : Int)), some (jI (a : Int)), some (jI (k : Int)), some (jI s), some (jI (x : Int))] [jI (c : Int), jO (m + 420)] 0 0 (jW (jW (M3, w.2) (m + 418) c (a : Int)) (m + 419) c (k : Int)) _
                            refine jWp.blk mt 1 ?_
                            show _ ∧ jWp 189 179 [some (jO m), some (jI (d : Int)), some (jI (a : Int)), some (jI (k : Int)), some (jI s), some (jI (x : Int))] [jO m, jI (c : Int), jO (m + 420)] 0 0 (jW (jW (M3, w.2) (m + 418) c (a : Int)) (m + 419) c (k : Int)) _
                            refine ⟨rfl, ?_⟩
                            refine jWp.getR (pc' := 182) (o := (m + 420)) mt rfl rfl (jtg hW.K0) hW.R20 ?_
                            show jWp 189 182 [some (jO m), some (jI (d : Int)), some (jI (a : Int)), some (jI (k : Int)), some (jI s), some (jI (x : Int))] [jO (m + 420), jI (c : Int), jO (m + 420)] 0 0 (jW (jW (M3, w.2) (m + 418) c (a : Int)) (m + 419) c (k : Int)) _
                            refine jWp.blk mt 1 ?_
                            show jWp 189 183 [some (jO m), some (jI (d : Int)), some (jI (a : Int)), some (jI (k : Int)), some (jI s), some (jI (x : Int))] [jI (a : Int), jO (m + 420), jI (c : Int), jO (m + 420)] 0 0 (jW (jW (M3, w.2) (m + 418) c (a : Int)) (m + 419) c (k : Int)) _
                            refine jWp.iald (pc' := 184) (j := a) mt rfl rfl (jird_of hW.K420) (b32_id (by omega) (by omega)) (jlt hW.K420 (by omega)) ?_
                            rw [show ((jW (jW (M3, w.2) (m + 418) c (a : Int)) (m + 419) c (k : Int)).1 (m + 420) a) = ((zL L2 a).2.2.2 : Int) from (((jW_a (by omega)).trans ((jW_a (by omega)).trans rfl)).trans h3a)]
                            show jWp 189 184 [some (jO m), some (jI (d : Int)), some (jI (a : Int)), some (jI (k : Int)), some (jI s), some (jI (x : Int))] [jI ((zL L2 a).2.2.2 : Int), jI (c : Int), jO (m + 420)] 0 0 (jW (jW (M3, w.2) (m + 418) c (a : Int)) (m + 419) c (k : Int)) _
                            refine jWp.blk mt 2 ?_
                            show jWp 189 186 [some (jO m), some (jI (d : Int)), some (jI (a : Int)), some (jI (k : Int)), some (jI s), some (jI (x : Int))] [jI (((zL L2 a).2.2.2 : Int) + 1), jI (c : Int), jO (m + 420)] 0 0 (jW (jW (M3, w.2) (m + 418) c (a : Int)) (m + 419) c (k : Int)) _
                            refine jWp.iast (pc' := 187) (j := c) mt rfl rfl (jtg hW.K420) (b32_id (by omega) (by omega)) (jlt hW.K420 (by omega)) ?_
                            show jWp 189 187 [some (jO m), some (jI (d : Int)), some (jI (a : Int)), some (jI (k : Int)), some (jI s), some (jI (x : Int))] [] 0 0 (jW (jW (jW (M3, w.2) (m + 418) c (a : Int)) (m + 419) c (k : Int)) (m + 420) c (((zL L2 a).2.2.2 : Int) + 1)) _
                            refine jWp.blk mt 2 ?_
                            show _ ∧ _ ∧ jWp 189 189 [some (jO m), some (jI (d : Int)), some (jI (a : Int)), some (jI (k : Int)), some (jI s), some (jI (x : Int))] [jO m, jO m] 0 0 (jW (jW (jW (M3, w.2) (m + 418) c (a : Int)) (m + 419) c (k : Int)) (m + 420) c (((zL L2 a).2.2.2 : Int) + 1)) _
                            refine ⟨rfl, rfl, ?_⟩
                            refine jWp.getI (pc' := 192) mt rfl rfl (jtg hW.K0) ?_
                            rw [show ((jW (jW (jW (M3, w.2) (m + 418) c (a : Int)) (m + 419) c (k : Int)) (m + 420) c (((zL L2 a).2.2.2 : Int) + 1)).1 m 21) = (c : Int) from (((jW_a (by omega)).trans ((jW_a (by omega)).trans ((jW_a (by omega)).trans rfl))).trans h321)]
                            show jWp 189 192 [some (jO m), some (jI (d : Int)), some (jI (a : Int)), some (jI (k : Int)), some (jI s), some (jI (x : Int))] [jI (c : Int), jO m] 0 0 (jW (jW (jW (M3, w.2) (m + 418) c (a : Int)) (m + 419) c (k : Int)) (m + 420) c (((zL L2 a).2.2.2 : Int) + 1)) _
                            refine jWp.blk mt 2 ?_
                            show jWp 189 194 [some (jO m), some (jI (d : Int)), some (jI (a : Int)), some (jI (k : Int)), some (jI s), some (jI (x : Int))] [jI ((c : Int) + 1), jO m] 0 0 (jW (jW (jW (M3, w.2) (m + 418) c (a : Int)) (m + 419) c (k : Int)) (m + 420) c (((zL L2 a).2.2.2 : Int) + 1)) _
                            refine jWp.putI (pc' := 197) mt rfl rfl (jtg hW.K0) ?_
                            show jWp 189 197 [some (jO m), some (jI (d : Int)), some (jI (a : Int)), some (jI (k : Int)), some (jI s), some (jI (x : Int))] [] 0 0 (jW (jW (jW (jW (M3, w.2) (m + 418) c (a : Int)) (m + 419) c (k : Int)) (m + 420) c (((zL L2 a).2.2.2 : Int) + 1)) m 21 ((c : Int) + 1)) _
                            refine jWp.blk mt 2 ?_
                            show jWp 189 47 [some (jO m), some (jI (d : Int)), some (jI (a : Int)), some (jI ((k : Int) + 1)), some (jI s), some (jI (x : Int))] [] 0 0 (jW (jW (jW (jW (M3, w.2) (m + 418) c (a : Int)) (m + 419) c (k : Int)) (m + 420) c (((zL L2 a).2.2.2 : Int) + 1)) m 21 ((c : Int) + 1)) _
                            refine jWp.le (l := [some (jO m), some (jI (d : Int)), some (jI (a : Int)), some (jI ((k : Int) + 1)), none, none]) (by exact ⟨rfl, rfl, rfl, rfl, trivial⟩) ?_
                            exact ih6 (k + 1) (c + 1) (L2 ++ [(zxF (zL L2 a).1 n k, a, k, (zL L2 a).2.2.2 + 1)]) (jW (jW (jW (jW (M3, w.2) (m + 418) c (a : Int)) (m + 419) c (k : Int)) (m + 420) c (((zL L2 a).2.2.2 : Int) + 1)) m 21 ((c : Int) + 1)).1 (by omega) (by rw [List.length_append, hc2]; rfl) (by omega) (mq_S (mq_W (mq_W (mq_W hmq3 (by omega)) (by omega)) (by omega)) (by decide)) (by
                have hs1 := hsx (by omega)
                refine zRL_n hRL3 ?_ (fun o ho => ((jW_f (by omega)).trans ((jW_f (by omega)).trans ((jW_f (by omega)).trans ((jW_f (by omega)).trans rfl))))) (fun o ho => ⟨((jW_a (by omega)).trans ((jW_a (by omega)).trans ((jW_a (by omega)).trans ((jW_k (by omega)).trans rfl)))), ((jW_a (by omega)).trans ((jW_a (by omega)).trans ((jW_k (by omega)).trans ((jW_a (by omega)).trans rfl)))), ((jW_a (by omega)).trans ((jW_k (by omega)).trans ((jW_a (by omega)).trans ((jW_a (by omega)).trans rfl))))⟩) (by rw [hc2]; exact hs1.2.2.1) ?_ ?_ ?_
                · rw [hc2]; exact jW_s
                · rw [hc2]; exact ((jW_a (by omega)).trans ((jW_a (by omega)).trans ((jW_a (by omega)).trans jW_s)))
                · rw [hc2]; exact ((jW_a (by omega)).trans ((jW_a (by omega)).trans jW_s))
                · rw [hc2]; exact (((jW_a (by omega)).trans jW_s)).trans (by show _ = (((zL L2 a).2.2.2 + 1 : Nat) : Int); omega)) (zBL_n hBL2 (by omega) (by omega) (by omega) (hsx (by omega)).2.1) ⟨by rw [List.length_append]; omega, by rw [zL_l hA2.1]; exact hA2.2⟩ (by
                have hs1 := hsx (by omega)
                rw [← hr2, show n - k = (n - (k + 1)) + 1 by omega]
                show _ = zbo n d (399 - a) (a + 1) (zbi n a (n - (k + 1)) (k + 1) (zba n a k L2))
                rw [zba_t ⟨hs1.2.1, fun o ho => hs1.2.2.2 o (by omega)⟩]) (by omega)
                        · have h12 : s ≠ 0 := h12
                          refine jWp.blk mt 1 ?_
                          show _ ∧ jWp 189 111 [some (jO m), some (jI (d : Int)), some (jI (a : Int)), some (jI (k : Int)), some (jI s), some (jI (x : Int))] [jO m] 0 0 (M3, w.2) _
                          refine ⟨rfl, ?_⟩
                          refine jWp.getR (pc' := 114) (o := (m + 17)) mt rfl rfl (jtg hW.K0) hW.R17 ?_
                          show jWp 189 114 [some (jO m), some (jI (d : Int)), some (jI (a : Int)), some (jI (k : Int)), some (jI s), some (jI (x : Int))] [jO (m + 17)] 0 0 (M3, w.2) _
                          refine jWp.blk mt 1 ?_
                          show jWp 189 116 [some (jO m), some (jI (d : Int)), some (jI (a : Int)), some (jI (k : Int)), some (jI s), some (jI (x : Int))] [jI (x : Int), jO (m + 17)] 0 0 (M3, w.2) _
                          refine jWp.aald (pc' := 117) (j := x) (o := (m + (18 + x))) mt rfl rfl (jrg hW.K17 (by decide) (by decide)) (b32_id (by omega) (by omega)) (jlt hW.K17 (by omega)) (hW.RFo x (by omega)) ?_
                          show jWp 189 117 [some (jO m), some (jI (d : Int)), some (jI (a : Int)), some (jI (k : Int)), some (jI s), some (jI (x : Int))] [jO (m + (18 + x))] 0 0 (M3, w.2) _
                          refine jWp.blk mt 1 ?_
                          show _ ∧ jWp 189 118 [some (jO m), some (jI (d : Int)), some (jI (a : Int)), some (jI (k : Int)), some (jI s), some (jI (x : Int))] [jO m, jO (m + (18 + x))] 0 0 (M3, w.2) _
                          refine ⟨rfl, ?_⟩
                          refine jWp.getR (pc' := 121) (o := (m + 17)) mt rfl rfl (jtg hW.K0) hW.R17 ?_
                          show jWp 189 121 [some (jO m), some (jI (d : Int)), some (jI (a : Int)), some (jI (k : Int)), some (jI s), some (jI (x : Int))] [jO (m + 17), jO (m + (18 + x))] 0 0 (M3, w.2) _
                          refine jWp.blk mt 1 ?_
                          show _ ∧ jWp 189 122 [some (jO m), some (jI (d : Int)), some (jI (a : Int)), some (jI (k : Int)), some (jI s), some (jI (x : Int))] [jO m, jO (m + 17), jO (m + (18 + x))] 0 0 (M3, w.2) _
                          refine ⟨rfl, ?_⟩
                          refine jWp.getI (pc' := 125) mt rfl rfl (jtg hW.K0) ?_
                          rw [show ((M3, w.2).1 m 21) = (c : Int) from h321]
                          show jWp 189 125 [some (jO m), some (jI (d : Int)), some (jI (a : Int)), some (jI (k : Int)), some (jI s), some (jI (x : Int))] [jI (c : Int), jO (m + 17), jO (m + (18 + x))] 0 0 (M3, w.2) _
                          refine jWp.aald (pc' := 126) (j := c) (o := (m + (18 + c))) mt rfl rfl (jrg hW.K17 (by decide) (by decide)) (b32_id (by omega) (by omega)) (jlt hW.K17 (by omega)) (hW.RFo c (by omega)) ?_
                          show jWp 189 126 [some (jO m), some (jI (d : Int)), some (jI (a : Int)), some (jI (k : Int)), some (jI s), some (jI (x : Int))] [jO (m + (18 + c)), jO (m + (18 + x))] 0 0 (M3, w.2) _
                          refine jWp.calls (as := [jO (m + (18 + x)), jO (m + (18 + c))]) (rest := []) mt rfl rfl rfl rfl ?_
                          refine jCall.mono (E_areAlike (w := (M3, w.2)) (q := m + (18 + x)) (p := m + (18 + c)) (n := n) (hW.KF x (by omega)) (hW.KF c (by omega)) (zeq_S (hRL3.2 x (by omega)).1 (hBL2.2.2.2 x (by omega)).1.S) (hSn (by omega))) (fun v9 w9 h9 => ?_)
                          rcases h9 with ⟨rfl, h9, h14⟩ | ⟨rfl, h9, h14⟩ <;> subst w9
                          · have h14 : zal (M3 (m + (18 + x))) (M3 (m + (18 + c))) n := h14
                            show jWp 189 129 [some (jO m), some (jI (d : Int)), some (jI (a : Int)), some (jI (k : Int)), some (jI s), some (jI (x : Int))] [jI 1] 0 0 (M3, w.2) _
                            refine jWp.ifc (b := true) mt rfl (by decide) rfl ?_
                            show jWp 189 136 [some (jO m), some (jI (d : Int)), some (jI (a : Int)), some (jI (k : Int)), some (jI s), some (jI (x : Int))] [] 0 0 (M3, w.2) _
                            refine jWp.blk mt 4 ?_
                            show jWp 189 96 [some (jO m), some (jI (d : Int)), some (jI (a : Int)), some (jI (k : Int)), some (jI 0), some (jI ((x : Int) + 1))] [] 0 0 (M3, w.2) _
                            refine jWp.le (l := [some (jO m), some (jI (d : Int)), some (jI (a : Int)), some (jI (k : Int)), some (jI 0), some (jI ((x : Int) + 1))]) (by exact ⟨rfl, rfl, rfl, rfl, rfl, rfl, trivial⟩) ?_
                            exact ih9 (x + 1) 0 (by omega) (by have hs1 := hsx (by omega); exact Or.inr ⟨rfl, fun g => g.2 x (by omega) ((zal_c hn4 (hRL3.2 x (by omega)).1 hs1.2.2.1).mp (by assumption))⟩) (by omega)
                          · have h14 : ¬ (zal (M3 (m + (18 + x))) (M3 (m + (18 + c))) n) := h14
                            show jWp 189 129 [some (jO m), some (jI (d : Int)), some (jI (a : Int)), some (jI (k : Int)), some (jI s), some (jI (x : Int))] [jI 0] 0 0 (M3, w.2) _
                            refine jWp.ifc (b := false) mt rfl (by decide) rfl ?_
                            show jWp 189 132 [some (jO m), some (jI (d : Int)), some (jI (a : Int)), some (jI (k : Int)), some (jI s), some (jI (x : Int))] [] 0 0 (M3, w.2) _
                            refine jWp.blk mt 5 ?_
                            show jWp 189 96 [some (jO m), some (jI (d : Int)), some (jI (a : Int)), some (jI (k : Int)), some (jI 1), some (jI ((x : Int) + 1))] [] 0 0 (M3, w.2) _
                            refine jWp.le (l := [some (jO m), some (jI (d : Int)), some (jI (a : Int)), some (jI (k : Int)), some (jI 1), some (jI ((x : Int) + 1))]) (by exact ⟨rfl, rfl, rfl, rfl, rfl, rfl, trivial⟩) ?_
                            exact ih9 (x + 1) 1 (by omega) (by have hs1 := hsx (by omega); exact Or.inl ⟨rfl, hs1.2.1, hs1.2.2.1, fun y hy => by rcases Nat.lt_or_ge y x with e | e; exact hs1.2.2.2 y e; rw [show y = x by omega]; exact fun g => absurd ((zal_c hn4 (hRL3.2 x (by omega)).1 hs1.2.2.1).mpr g) (by assumption)⟩) (by omega)
                  refine jWp.le (l := [some (jO m), some (jI (d : Int)), some (jI (a : Int)), some (jI (k : Int)), some (jI 1), some (jI 0)]) (by exact ⟨rfl, rfl, rfl, rfl, rfl, rfl, trivial⟩) ?_
                  exact lp8 _ 0 1 (by omega) (Or.inl ⟨rfl, hcan, hnew, fun y hy => absurd hy (by omega)⟩) (Nat.lt_succ_self _)
                · have hcan : ¬ zcan (zL L2 a).1 n k := fun g => hz ((zcan_q hTz hn4 (by omega)).mpr g)
                  show jWp 189 91 [some (jO m), some (jI (d : Int)), some (jI (a : Int)), some (jI (k : Int)), none, none] [jI 0] 0 0 (M3, w.2) _
                  refine jWp.blk mt 3 ?_
                  show jWp 189 96 [some (jO m), some (jI (d : Int)), some (jI (a : Int)), some (jI (k : Int)), some (jI 0), some (jI 0)] [] 0 0 (M3, w.2) _
                  have lp15 : ∀ (N : Nat) (x : Nat) (s : Int) (hx9 : x ≤ c) (hs : (s = 1 ∧ zcan (zL L2 a).1 n k ∧ zeq (M3 (m + (18 + c))) (zxF (zL L2 a).1 n k) ∧ ∀ y, y < x → ¬ zal (zL L2 y).1 (zxF (zL L2 a).1 n k) n) ∨ (s = 0 ∧ ¬ (zcan (zL L2 a).1 n k ∧ znw2 L2 n (zxF (zL L2 a).1 n k)))), c - x < N → jWp 189 96 [some (jO m), some (jI (d : Int)), some (jI (a : Int)), some (jI (k : Int)), some (jI s), some (jI (x : Int))] [] 0 0 (M3, w.2) (fun v w1 => v = none ∧ mq w m w1 ∧ zRL w1.1 m (zBF n d (w.1 (m + 1))) ∧ zBL n (w.1 (m + 1)) (zBF n d (w.1 (m + 1))) ∧ (zBF n d (w.1 (m + 1))).length ≤ 341) := by
                    intro N
                    induction N with
                    | zero => intro x s hx9 hs hm; omega
                    | succ N ih16 =>
                      intro x s hx9 hs hm
                      have hsx : s = 1 → s = 1 ∧ zcan (zL L2 a).1 n k ∧ zeq (M3 (m + (18 + c))) (zxF (zL L2 a).1 n k) ∧ ∀ y, y < x → ¬ zal (zL L2 y).1 (zxF (zL L2 a).1 n k) n := fun e => by
                        rcases hs with g | g
                        · exact g
                        · exact absurd g.1 (by omega)
                      refine jWp.blk mt 2 ?_
                      show _ ∧ jWp 189 99 [some (jO m), some (jI (d : Int)), some (jI (a : Int)), some (jI (k : Int)), some (jI s), some (jI (x : Int))] [jO m, jI (x : Int)] 0 0 (M3, w.2) _
                      refine ⟨rfl, ?_⟩
                      refine jWp.getI (pc' := 102) mt rfl rfl (jtg hW.K0) ?_
                      rw [show ((M3, w.2).1 m 21) = (c : Int) from h321]
                      show jWp 189 102 [some (jO m), some (jI (d : Int)), some (jI (a : Int)), some (jI (k : Int)), some (jI s), some (jI (x : Int))] [jI (c : Int), jI (x : Int)] 0 0 (M3, w.2) _
                      refine jWp.icmp (pc' := 105) mt rfl rfl (b32_id (by omega) (by omega)) (b32_id (by omega) (by omega)) (fun h17 => ?_) (fun h17 => ?_)
                      · have h17 : (c : Int) ≤ (x : Int) := h17
                        refine jWp.blk mt 1 ?_
                        show jWp 189 147 [some (jO m), some (jI (d : Int)), some (jI (a : Int)), some (jI (k : Int)), some (jI s), some (jI (x : Int))] [jI s] 0 0 (M3, w.2) _
                        refine jWp.ifz (pc' := 150) mt rfl rfl (b32_id (by omega) (by omega)) (fun h18 => ?_) (fun h18 => ?_)
                        · have h18 : s = 0 := h18
                          refine jWp.blk mt 2 ?_
                          show jWp 189 47 [some (jO m), some (jI (d : Int)), some (jI (a : Int)), some (jI ((k : Int) + 1)), some (jI s), some (jI (x : Int))] [] 0 0 (M3, w.2) _
                          refine jWp.le (l := [some (jO m), some (jI (d : Int)), some (jI (a : Int)), some (jI ((k : Int) + 1)), none, none]) (by exact ⟨rfl, rfl, rfl, rfl, trivial⟩) ?_
                          exact ih6 (k + 1) c L2 M3 (by omega) hc2 (by omega) hmq3 hRL3 hBL2 hA2 (by rw [← hr2, show n - k = (n - (k + 1)) + 1 by omega]; show _ = zbo n d (399 - a) (a + 1) (zbi n a (n - (k + 1)) (k + 1) (zba n a k L2)); rw [zba_f (by rcases hs with g | g; exact absurd g.1 (by omega); exact g.2)]) (by omega)
                        · have h18 : s ≠ 0 := h18
                          refine jWp.blk mt 1 ?_
                          show _ ∧ jWp 189 151 [some (jO m), some (jI (d : Int)), some (jI (a : Int)), some (jI (k : Int)), some (jI s), some (jI (x : Int))] [jO m] 0 0 (M3, w.2) _
                          refine ⟨rfl, ?_⟩
                          refine jWp.getR (pc' := 154) (o := (m + 418)) mt rfl rfl (jtg hW.K0) hW.R18 ?_
                          show jWp 189 154 [some (jO m), some (jI (d : Int)), some (jI (a : Int)), some (jI (k : Int)), some (jI s), some (jI (x : Int))] [jO (m + 418)] 0 0 (M3, w.2) _
                          refine jWp.blk mt 1 ?_
                          show _ ∧ jWp 189 155 [some (jO m), some (jI (d : Int)), some (jI (a : Int)), some (jI (k : Int)), some (jI s), some (jI (x : Int))] [jO m, jO (m + 418)] 0 0 (M3, w.2) _
                          refine ⟨rfl, ?_⟩
                          refine jWp.getI (pc' := 158) mt rfl rfl (jtg hW.K0) ?_
                          rw [show ((M3, w.2).1 m 21) = (c : Int) from h321]
                          show jWp 189 158 [some (jO m), some (jI (d : Int)), some (jI (a : Int)), some (jI (k : Int)), some (jI s), some (jI (x : Int))] [jI (c : Int), jO (m + 418)] 0 0 (M3, w.2) _
                          refine jWp.blk mt 1 ?_
                          show jWp 189 159 [some (jO m), some (jI (d : Int)), some (jI (a : Int)), some (jI (k : Int)), some (jI s), some (jI (x : Int))] [jI (a : Int), jI (c : Int), jO (m + 418)] 0 0 (M3, w.2) _
                          refine jWp.iast (pc' := 160) (j := c) mt rfl rfl (jtg hW.K418) (b32_id (by omega) (by omega)) (jlt hW.K418 (by omega)) ?_
                          show jWp 189 160 [some (jO m), some (jI (d : Int)), some (jI (a : Int)), some (jI (k : Int)), some (jI s), some (jI (x : Int))] [] 0 0 (jW (M3, w.2) (m + 418) c (a : Int)) _
                          refine jWp.blk mt 1 ?_
                          show _ ∧ jWp 189 161 [some (jO m), some (jI (d : Int)), some (jI (a : Int)), some (jI (k : Int)), some (jI s), some (jI (x : Int))] [jO m] 0 0 (jW (M3, w.2) (m + 418) c (a : Int)) _
                          refine ⟨rfl, ?_⟩
                          refine jWp.getR (pc' := 164) (o := (m + 419)) mt rfl rfl (jtg hW.K0) hW.R19 ?_
                          show jWp 189 164 [some (jO m), some (jI (d : Int)), some (jI (a : Int)), some (jI (k : Int)), some (jI s), some (jI (x : Int))] [jO (m + 419)] 0 0 (jW (M3, w.2) (m + 418) c (a : Int)) _
                          refine jWp.blk mt 1 ?_
                          show _ ∧ jWp 189 165 [some (jO m), some (jI (d : Int)), some (jI (a : Int)), some (jI (k : Int)), some (jI s), some (jI (x : Int))] [jO m, jO (m + 419)] 0 0 (jW (M3, w.2) (m + 418) c (a : Int)) _
                          refine ⟨rfl, ?_⟩
                          refine jWp.getI (pc' := 168) mt rfl rfl (jtg hW.K0) ?_
                          rw [show ((jW (M3, w.2) (m + 418) c (a : Int)).1 m 21) = (c : Int) from (((jW_a (by omega)).trans rfl).trans h321)]
                          show jWp 189 168 [some (jO m), some (jI (d : Int)), some (jI (a : Int)), some (jI (k : Int)), some (jI s), some (jI (x : Int))] [jI (c : Int), jO (m + 419)] 0 0 (jW (M3, w.2) (m + 418) c (a : Int)) _
                          refine jWp.blk mt 1 ?_
                          show jWp 189 169 [some (jO m), some (jI (d : Int)), some (jI (a : Int)), some (jI (k : Int)), some (jI s), some (jI (x : Int))] [jI (k : Int), jI (c : Int), jO (m + 419)] 0 0 (jW (M3, w.2) (m + 418) c (a : Int)) _
                          refine jWp.iast (pc' := 170) (j := c) mt rfl rfl (jtg hW.K419) (b32_id (by omega) (by omega)) (jlt hW.K419 (by omega)) ?_
                          show jWp 189 170 [some (jO m), some (jI (d : Int)), some (jI (a : Int)), some (jI (k : Int)), some (jI s), some (jI (x : Int))] [] 0 0 (jW (jW (M3, w.2) (m + 418) c (a : Int)) (m + 419) c (k : Int)) _
                          refine jWp.blk mt 1 ?_
                          show _ ∧ jWp 189 171 [some (jO m), some (jI (d : Int)), some (jI (a : Int)), some (jI (k : Int)), some (jI s), some (jI (x : Int))] [jO m] 0 0 (jW (jW (M3, w.2) (m + 418) c (a : Int)) (m + 419) c (k : Int)) _
                          refine ⟨rfl, ?_⟩
                          refine jWp.getR (pc' := 174) (o := (m + 420)) mt rfl rfl (jtg hW.K0) hW.R20 ?_
                          show jWp 189 174 [some (jO m), some (jI (d : Int)), some (jI (a : Int)), some (jI (k : Int)), some (jI s), some (jI (x : Int))] [jO (m + 420)] 0 0 (jW (jW (M3, w.2) (m + 418) c (a : Int)) (m + 419) c (k : Int)) _
                          refine jWp.blk mt 1 ?_
                          show _ ∧ jWp 189 175 [some (jO m), some (jI (d : Int)), some (jI (a : Int)), some (jI (k : Int)), some (jI s), some (jI (x : Int))] [jO m, jO (m + 420)] 0 0 (jW (jW (M3, w.2) (m + 418) c (a : Int)) (m + 419) c (k : Int)) _
                          refine ⟨rfl, ?_⟩
                          refine jWp.getI (pc' := 178) mt rfl rfl (jtg hW.K0) ?_
                          rw [show ((jW (jW (M3, w.2) (m + 418) c (a : Int)) (m + 419) c (k : Int)).1 m 21) = (c : Int) from (((jW_a (by omega)).trans ((jW_a (by omega)).trans rfl)).trans h321)]
                          show jWp 189 178 [some (jO m), some (jI (d : Int)), some (jI (a : Int)), some (jI (k : Int)), some (jI s), some (jI (x : Int))] [jI (c : Int), jO (m + 420)] 0 0 (jW (jW (M3, w.2) (m + 418) c (a : Int)) (m + 419) c (k : Int)) _
                          refine jWp.blk mt 1 ?_
                          show _ ∧ jWp 189 179 [some (jO m), some (jI (d : Int)), some (jI (a : Int)), some (jI (k : Int)), some (jI s), some (jI (x : Int))] [jO m, jI (c : Int), jO (m + 420)] 0 0 (jW (jW (M3, w.2) (m + 418) c (a : Int)) (m + 419) c (k : Int)) _
                          refine ⟨rfl, ?_⟩
                          refine jWp.getR (pc' := 182) (o := (m + 420)) mt rfl rfl (jtg hW.K0) hW.R20 ?_
                          show jWp 189 182 [some (jO m), some (jI (d : Int)), some (jI (a : Int)), some (jI (k : Int)), some (jI s), some (jI (x : Int))] [jO (m + 420), jI (c : Int), jO (m + 420)] 0 0 (jW (jW (M3, w.2) (m + 418) c (a : Int)) (m + 419) c (k : Int)) _
                          refine jWp.blk mt 1 ?_
                          show jWp 189 183 [some (jO m), some (jI (d : Int)), some (jI (a : Int)), some (jI (k : Int)), some (jI s), some (jI (x : Int))] [jI (a : Int), jO (m + 420), jI (c : Int), jO (m + 420)] 0 0 (jW (jW (M3, w.2) (m + 418) c (a : Int)) (m + 419) c (k : Int)) _
                          refine jWp.iald (pc' := 184) (j := a) mt rfl rfl (jird_of hW.K420) (b32_id (by omega) (by omega)) (jlt hW.K420 (by omega)) ?_
                          rw [show ((jW (jW (M3, w.2) (m + 418) c (a : Int)) (m + 419) c (k : Int)).1 (m + 420) a) = ((zL L2 a).2.2.2 : Int) from (((jW_a (by omega)).trans ((jW_a (by omega)).trans rfl)).trans h3a)]
                          show jWp 189 184 [some (jO m), some (jI (d : Int)), some (jI (a : Int)), some (jI (k : Int)), some (jI s), some (jI (x : Int))] [jI ((zL L2 a).2.2.2 : Int), jI (c : Int), jO (m + 420)] 0 0 (jW (jW (M3, w.2) (m + 418) c (a : Int)) (m + 419) c (k : Int)) _
                          refine jWp.blk mt 2 ?_
                          show jWp 189 186 [some (jO m), some (jI (d : Int)), some (jI (a : Int)), some (jI (k : Int)), some (jI s), some (jI (x : Int))] [jI (((zL L2 a).2.2.2 : Int) + 1), jI (c : Int), jO (m + 420)] 0 0 (jW (jW (M3, w.2) (m + 418) c (a : Int)) (m + 419) c (k : Int)) _
                          refine jWp.iast (pc' := 187) (j := c) mt rfl rfl (jtg hW.K420) (b32_id (by omega) (by omega)) (jlt hW.K420 (by omega)) ?_
                          show jWp 189 187 [some (jO m), some (jI (d : Int)), some (jI (a : Int)), some (jI (k : Int)), some (jI s), some (jI (x : Int))] [] 0 0 (jW (jW (jW (M3, w.2) (m + 418) c (a : Int)) (m + 419) c (k : Int)) (m + 420) c (((zL L2 a).2.2.2 : Int) + 1)) _
                          refine jWp.blk mt 2 ?_
                          show _ ∧ _ ∧ jWp 189 189 [some (jO m), some (jI (d : Int)), some (jI (a : Int)), some (jI (k : Int)), some (jI s), some (jI (x : Int))] [jO m, jO m] 0 0 (jW (jW (jW (M3, w.2) (m + 418) c (a : Int)) (m + 419) c (k : Int)) (m + 420) c (((zL L2 a).2.2.2 : Int) + 1)) _
                          refine ⟨rfl, rfl, ?_⟩
                          refine jWp.getI (pc' := 192) mt rfl rfl (jtg hW.K0) ?_
                          rw [show ((jW (jW (jW (M3, w.2) (m + 418) c (a : Int)) (m + 419) c (k : Int)) (m + 420) c (((zL L2 a).2.2.2 : Int) + 1)).1 m 21) = (c : Int) from (((jW_a (by omega)).trans ((jW_a (by omega)).trans ((jW_a (by omega)).trans rfl))).trans h321)]
                          show jWp 189 192 [some (jO m), some (jI (d : Int)), some (jI (a : Int)), some (jI (k : Int)), some (jI s), some (jI (x : Int))] [jI (c : Int), jO m] 0 0 (jW (jW (jW (M3, w.2) (m + 418) c (a : Int)) (m + 419) c (k : Int)) (m + 420) c (((zL L2 a).2.2.2 : Int) + 1)) _
                          refine jWp.blk mt 2 ?_
                          show jWp 189 194 [some (jO m), some (jI (d : Int)), some (jI (a : Int)), some (jI (k : Int)), some (jI s), some (jI (x : Int))] [jI ((c : Int) + 1), jO m] 0 0 (jW (jW (jW (M3, w.2) (m + 418) c (a : Int)) (m + 419) c (k : Int)) (m + 420) c (((zL L2 a).2.2.2 : Int) + 1)) _
                          refine jWp.putI (pc' := 197) mt rfl rfl (jtg hW.K0) ?_
                          show jWp 189 197 [some (jO m), some (jI (d : Int)), some (jI (a : Int)), some (jI (k : Int)), some (jI s), some (jI (x : Int))] [] 0 0 (jW (jW (jW (jW (M3, w.2) (m + 418) c (a : Int)) (m + 419) c (k : Int)) (m + 420) c (((zL L2 a).2.2.2 : Int) + 1)) m 21 ((c : Int) + 1)) _
                          refine jWp.blk mt 2 ?_
                          show jWp 189 47 [some (jO m), some (jI (d : Int)), some (jI (a : Int)), some (jI ((k : Int) + 1)), some (jI s), some (jI (x : Int))] [] 0 0 (jW (jW (jW (jW (M3, w.2) (m + 418) c (a : Int)) (m + 419) c (k : Int)) (m + 420) c (((zL L2 a).2.2.2 : Int) + 1)) m 21 ((c : Int) + 1)) _
                          refine jWp.le (l := [some (jO m), some (jI (d : Int)), some (jI (a : Int)), some (jI ((k : Int) + 1)), none, none]) (by exact ⟨rfl, rfl, rfl, rfl, trivial⟩) ?_
                          exact ih6 (k + 1) (c + 1) (L2 ++ [(zxF (zL L2 a).1 n k, a, k, (zL L2 a).2.2.2 + 1)]) (jW (jW (jW (jW (M3, w.2) (m + 418) c (a : Int)) (m + 419) c (k : Int)) (m + 420) c (((zL L2 a).2.2.2 : Int) + 1)) m 21 ((c : Int) + 1)).1 (by omega) (by rw [List.length_append, hc2]; rfl) (by omega) (mq_S (mq_W (mq_W (mq_W hmq3 (by omega)) (by omega)) (by omega)) (by decide)) (by
                have hs1 := hsx (by omega)
                refine zRL_n hRL3 ?_ (fun o ho => ((jW_f (by omega)).trans ((jW_f (by omega)).trans ((jW_f (by omega)).trans ((jW_f (by omega)).trans rfl))))) (fun o ho => ⟨((jW_a (by omega)).trans ((jW_a (by omega)).trans ((jW_a (by omega)).trans ((jW_k (by omega)).trans rfl)))), ((jW_a (by omega)).trans ((jW_a (by omega)).trans ((jW_k (by omega)).trans ((jW_a (by omega)).trans rfl)))), ((jW_a (by omega)).trans ((jW_k (by omega)).trans ((jW_a (by omega)).trans ((jW_a (by omega)).trans rfl))))⟩) (by rw [hc2]; exact hs1.2.2.1) ?_ ?_ ?_
                · rw [hc2]; exact jW_s
                · rw [hc2]; exact ((jW_a (by omega)).trans ((jW_a (by omega)).trans ((jW_a (by omega)).trans jW_s)))
                · rw [hc2]; exact ((jW_a (by omega)).trans ((jW_a (by omega)).trans jW_s))
                · rw [hc2]; exact (((jW_a (by omega)).trans jW_s)).trans (by show _ = (((zL L2 a).2.2.2 + 1 : Nat) : Int); omega)) (zBL_n hBL2 (by omega) (by omega) (by omega) (hsx (by omega)).2.1) ⟨by rw [List.length_append]; omega, by rw [zL_l hA2.1]; exact hA2.2⟩ (by
                have hs1 := hsx (by omega)
                rw [← hr2, show n - k = (n - (k + 1)) + 1 by omega]
                show _ = zbo n d (399 - a) (a + 1) (zbi n a (n - (k + 1)) (k + 1) (zba n a k L2))
                rw [zba_t ⟨hs1.2.1, fun o ho => hs1.2.2.2 o (by omega)⟩]) (by omega)
                      · have h17 : (x : Int) < (c : Int) := h17
                        refine jWp.blk mt 1 ?_
                        show jWp 189 107 [some (jO m), some (jI (d : Int)), some (jI (a : Int)), some (jI (k : Int)), some (jI s), some (jI (x : Int))] [jI s] 0 0 (M3, w.2) _
                        refine jWp.ifz (pc' := 110) mt rfl rfl (b32_id (by omega) (by omega)) (fun h19 => ?_) (fun h19 => ?_)
                        · have h19 : s = 0 := h19
                          refine jWp.blk mt 1 ?_
                          show jWp 189 147 [some (jO m), some (jI (d : Int)), some (jI (a : Int)), some (jI (k : Int)), some (jI s), some (jI (x : Int))] [jI s] 0 0 (M3, w.2) _
                          refine jWp.ifz (pc' := 150) mt rfl rfl (b32_id (by omega) (by omega)) (fun h20 => ?_) (fun h20 => ?_)
                          · have h20 : s = 0 := h20
                            refine jWp.blk mt 2 ?_
                            show jWp 189 47 [some (jO m), some (jI (d : Int)), some (jI (a : Int)), some (jI ((k : Int) + 1)), some (jI s), some (jI (x : Int))] [] 0 0 (M3, w.2) _
                            refine jWp.le (l := [some (jO m), some (jI (d : Int)), some (jI (a : Int)), some (jI ((k : Int) + 1)), none, none]) (by exact ⟨rfl, rfl, rfl, rfl, trivial⟩) ?_
                            exact ih6 (k + 1) c L2 M3 (by omega) hc2 (by omega) hmq3 hRL3 hBL2 hA2 (by rw [← hr2, show n - k = (n - (k + 1)) + 1 by omega]; show _ = zbo n d (399 - a) (a + 1) (zbi n a (n - (k + 1)) (k + 1) (zba n a k L2)); rw [zba_f (by rcases hs with g | g; exact absurd g.1 (by omega); exact g.2)]) (by omega)
                          · have h20 : s ≠ 0 := h20
                            refine jWp.blk mt 1 ?_
                            show _ ∧ jWp 189 151 [some (jO m), some (jI (d : Int)), some (jI (a : Int)), some (jI (k : Int)), some (jI s), some (jI (x : Int))] [jO m] 0 0 (M3, w.2) _
                            refine ⟨rfl, ?_⟩
                            refine jWp.getR (pc' := 154) (o := (m + 418)) mt rfl rfl (jtg hW.K0) hW.R18 ?_
                            show jWp 189 154 [some (jO m), some (jI (d : Int)), some (jI (a : Int)), some (jI (k : Int)), some (jI s), some (jI (x : Int))] [jO (m + 418)] 0 0 (M3, w.2) _
                            refine jWp.blk mt 1 ?_
                            show _ ∧ jWp 189 155 [some (jO m), some (jI (d : Int)), some (jI (a : Int)), some (jI (k : Int)), some (jI s), some (jI (x : Int))] [jO m, jO (m + 418)] 0 0 (M3, w.2) _
                            refine ⟨rfl, ?_⟩
                            refine jWp.getI (pc' := 158) mt rfl rfl (jtg hW.K0) ?_
                            rw [show ((M3, w.2).1 m 21) = (c : Int) from h321]
                            show jWp 189 158 [some (jO m), some (jI (d : Int)), some (jI (a : Int)), some (jI (k : Int)), some (jI s), some (jI (x : Int))] [jI (c : Int), jO (m + 418)] 0 0 (M3, w.2) _
                            refine jWp.blk mt 1 ?_
                            show jWp 189 159 [some (jO m), some (jI (d : Int)), some (jI (a : Int)), some (jI (k : Int)), some (jI s), some (jI (x : Int))] [jI (a : Int), jI (c : Int), jO (m + 418)] 0 0 (M3, w.2) _
                            refine jWp.iast (pc' := 160) (j := c) mt rfl rfl (jtg hW.K418) (b32_id (by omega) (by omega)) (jlt hW.K418 (by omega)) ?_
                            show jWp 189 160 [some (jO m), some (jI (d : Int)), some (jI (a : Int)), some (jI (k : Int)), some (jI s), some (jI (x : Int))] [] 0 0 (jW (M3, w.2) (m + 418) c (a : Int)) _
                            refine jWp.blk mt 1 ?_
                            show _ ∧ jWp 189 161 [some (jO m), some (jI (d : Int)), some (jI (a : Int)), some (jI (k : Int)), some (jI s), some (jI (x : Int))] [jO m] 0 0 (jW (M3, w.2) (m + 418) c (a : Int)) _
                            refine ⟨rfl, ?_⟩
                            refine jWp.getR (pc' := 164) (o := (m + 419)) mt rfl rfl (jtg hW.K0) hW.R19 ?_
                            show jWp 189 164 [some (jO m), some (jI (d : Int)), some (jI (a : Int)), some (jI (k : Int)), some (jI s), some (jI (x : Int))] [jO (m + 419)] 0 0 (jW (M3, w.2) (m + 418) c (a : Int)) _
                            refine jWp.blk mt 1 ?_
                            show _ ∧ jWp 189 165 [some (jO m), some (jI (d : Int)), some (jI (a : Int)), some (jI (k : Int)), some (jI s), some (jI (x : Int))] [jO m, jO (m + 419)] 0 0 (jW (M3, w.2) (m + 418) c (a : Int)) _
                            refine ⟨rfl, ?_⟩
                            refine jWp.getI (pc' := 168) mt rfl rfl (jtg hW.K0) ?_
                            rw [show ((jW (M3, w.2) (m + 418) c (a : Int)).1 m 21) = (c : Int) from (((jW_a (by omega)).trans rfl).trans h321)]
                            show jWp 189 168 [some (jO m), some (jI (d : Int)), some (jI (a : Int)), some (jI (k : Int)), some (jI s), some (jI (x : Int))] [jI (c : Int), jO (m + 419)] 0 0 (jW (M3, w.2) (m + 418) c (a : Int)) _
                            refine jWp.blk mt 1 ?_
                            show jWp 189 169 [some (jO m), some (jI (d : Int)), some (jI (a : Int)), some (jI (k : Int)), some (jI s), some (jI (x : Int))] [jI (k : Int), jI (c : Int), jO (m + 419)] 0 0 (jW (M3, w.2) (m + 418) c (a : Int)) _
                            refine jWp.iast (pc' := 170) (j := c) mt rfl rfl (jtg hW.K419) (b32_id (by omega) (by omega)) (jlt hW.K419 (by omega)) ?_
                            show jWp 189 170 [some (jO m), some (jI (d : Int)), some (jI (a : Int)), some (jI (k : Int)), some (jI s), some (jI (x : Int))] [] 0 0 (jW (jW (M3, w.2) (m + 418) c (a : Int)) (m + 419) c (k : Int)) _
                            refine jWp.blk mt 1 ?_
                            show _ ∧ jWp 189 171 [some (jO m), some (jI (d : Int)), some (jI (a : Int)), some (jI (k : Int)), some (jI s), some (jI (x : Int))] [jO m] 0 0 (jW (jW (M3, w.2) (m + 418) c (a : Int)) (m + 419) c (k : Int)) _
                            refine ⟨rfl, ?_⟩
                            refine jWp.getR (pc' := 174) (o := (m + 420)) mt rfl rfl (jtg hW.K0) hW.R20 ?_
                            show jWp 189 174 [some (jO m), some (jI (d : Int)), some (jI (a : Int)), some (jI (k : Int)), some (jI s), some (jI (x : Int))] [jO (m + 420)] 0 0 (jW (jW (M3, w.2) (m + 418) c (a : Int)) (m + 419) c (k : Int)) _
                            refine jWp.blk mt 1 ?_
                            show _ ∧ jWp 189 175 [some (jO m), some (jI (d : Int)), some (jI (a : Int)), some (jI (k : Int)), some (jI s), some (jI (x : Int))] [jO m, jO (m + 420)] 0 0 (jW (jW (M3, w.2) (m + 418) c (a : Int)) (m + 419) c (k : Int)) _
                            refine ⟨rfl, ?_⟩
                            refine jWp.getI (pc' := 178) mt rfl rfl (jtg hW.K0) ?_
                            rw [show ((jW (jW (M3, w.2) (m + 418) c (a : Int)) (m + 419) c (k : Int)).1 m 21) = (c : Int) from (((jW_a (by omega)).trans ((jW_a (by omega)).trans rfl)).trans h321)]
                            show jWp 189 178 [some (jO m), some (jI (d : Int)), some (jI (a : Int)), some (jI (k : Int)), some (jI s), some (jI (x : Int))] [jI (c : Int), jO (m + 420)] 0 0 (jW (jW (M3, w.2) (m + 418) c (a : Int)) (m + 419) c (k : Int)) _
                            refine jWp.blk mt 1 ?_
                            show _ ∧ jWp 189 179 [some (jO m), some (jI (d : Int)), some (jI (a : Int)), some (jI (k : Int)), some (jI s), some (jI (x : Int))] [jO m, jI (c : Int), jO (m + 420)] 0 0 (jW (jW (M3, w.2) (m + 418) c (a : Int)) (m + 419) c (k : Int)) _
                            refine ⟨rfl, ?_⟩
                            refine jWp.getR (pc' := 182) (o := (m + 420)) mt rfl rfl (jtg hW.K0) hW.R20 ?_
                            show jWp 189 182 [some (jO m), some (jI (d : Int)), some (jI (a : Int)), some (jI (k : Int)), some (jI s), some (jI (x : Int))] [jO (m + 420), jI (c : Int), jO (m + 420)] 0 0 (jW (jW (M3, w.2) (m + 418) c (a : Int)) (m + 419) c (k : Int)) _
                            refine jWp.blk mt 1 ?_
                            show jWp 189 183 [some (jO m), some (jI (d : Int)), some (jI (a : Int)), some (jI (k : Int)), some (jI s), some (jI (x : Int))] [jI (a : Int), jO (m + 420), jI (c : Int), jO (m + 420)] 0 0 (jW (jW (M3, w.2) (m + 418) c (a : Int)) (m + 419) c (k : Int)) _
                            refine jWp.iald (pc' := 184) (j := a) mt rfl rfl (jird_of hW.K420) (b32_id (by omega) (by omega)) (jlt hW.K420 (by omega)) ?_
                            rw [show ((jW (jW (M3, w.2) (m + 418) c (a : Int)) (m + 419) c (k : Int)).1 (m + 420) a) = ((zL L2 a).2.2.2 : Int) from (((jW_a (by omega)).trans ((jW_a (by omega)).trans rfl)).trans h3a)]
                            show jWp 189 184 [some (jO m), some (jI (d : Int)), some (jI (a : Int)), some (jI (k : Int)), some (jI s), some (jI (x : Int))] [jI ((zL L2 a).2.2.2 : Int), jI (c : Int), jO (m + 420)] 0 0 (jW (jW (M3, w.2) (m + 418) c (a : Int)) (m + 419) c (k : Int)) _
                            refine jWp.blk mt 2 ?_
                            show jWp 189 186 [some (jO m), some (jI (d : Int)), some (jI (a : Int)), some (jI (k : Int)), some (jI s), some (jI (x : Int))] [jI (((zL L2 a).2.2.2 : Int) + 1), jI (c : Int), jO (m + 420)] 0 0 (jW (jW (M3, w.2) (m + 418) c (a : Int)) (m + 419) c (k : Int)) _
                            refine jWp.iast (pc' := 187) (j := c) mt rfl rfl (jtg hW.K420) (b32_id (by omega) (by omega)) (jlt hW.K420 (by omega)) ?_
                            show jWp 189 187 [some (jO m), some (jI (d : Int)), some (jI (a : Int)), some (jI (k : Int)), some (jI s), some (jI (x : Int))] [] 0 0 (jW (jW (jW (M3, w.2) (m + 418) c (a : Int)) (m + 419) c (k : Int)) (m + 420) c (((zL L2 a).2.2.2 : Int) + 1)) _
                            refine jWp.blk mt 2 ?_
                            show _ ∧ _ ∧ jWp 189 189 [some (jO m), some (jI (d : Int)), some (jI (a : Int)), some (jI (k : Int)), some (jI s), some (jI (x : Int))] [jO m, jO m] 0 0 (jW (jW (jW (M3, w.2) (m + 418) c (a : Int)) (m + 419) c (k : Int)) (m + 420) c (((zL L2 a).2.2.2 : Int) + 1)) _
                            refine ⟨rfl, rfl, ?_⟩
                            refine jWp.getI (pc' := 192) mt rfl rfl (jtg hW.K0) ?_
                            rw [show ((jW (jW (jW (M3, w.2) (m + 418) c (a : Int)) (m + 419) c (k : Int)) (m + 420) c (((zL L2 a).2.2.2 : Int) + 1)).1 m 21) = (c : Int) from (((jW_a (by omega)).trans ((jW_a (by omega)).trans ((jW_a (by omega)).trans rfl))).trans h321)]
                            show jWp 189 192 [some (jO m), some (jI (d : Int)), some (jI (a : Int)), some (jI (k : Int)), some (jI s), some (jI (x : Int))] [jI (c : Int), jO m] 0 0 (jW (jW (jW (M3, w.2) (m + 418) c (a : Int)) (m + 419) c (k : Int)) (m + 420) c (((zL L2 a).2.2.2 : Int) + 1)) _
                            refine jWp.blk mt 2 ?_
                            show jWp 189 194 [some (jO m), some (jI (d : Int)), some (jI (a : Int)), some (jI (k : Int)), some (jI s), some (jI (x : Int))] [jI ((c : Int) + 1), jO m] 0 0 (jW (jW (jW (M3, w.2) (m + 418) c (a : Int)) (m + 419) c (k : Int)) (m + 420) c (((zL L2 a).2.2.2 : Int) + 1)) _
                            refine jWp.putI (pc' := 197) mt rfl rfl (jtg hW.K0) ?_
                            show jWp 189 197 [some (jO m), some (jI (d : Int)), some (jI (a : Int)), some (jI (k : Int)), some (jI s), some (jI (x : Int))] [] 0 0 (jW (jW (jW (jW (M3, w.2) (m + 418) c (a : Int)) (m + 419) c (k : Int)) (m + 420) c (((zL L2 a).2.2.2 : Int) + 1)) m 21 ((c : Int) + 1)) _
                            refine jWp.blk mt 2 ?_
                            show jWp 189 47 [some (jO m), some (jI (d : Int)), some (jI (a : Int)), some (jI ((k : Int) + 1)), some (jI s), some (jI (x : Int))] [] 0 0 (jW (jW (jW (jW (M3, w.2) (m + 418) c (a : Int)) (m + 419) c (k : Int)) (m + 420) c (((zL L2 a).2.2.2 : Int) + 1)) m 21 ((c : Int) + 1)) _
                            refine jWp.le (l := [some (jO m), some (jI (d : Int)), some (jI (a : Int)), some (jI ((k : Int) + 1)), none, none]) (by exact ⟨rfl, rfl, rfl, rfl, trivial⟩) ?_
                            exact ih6 (k + 1) (c + 1) (L2 ++ [(zxF (zL L2 a).1 n k, a, k, (zL L2 a).2.2.2 + 1)]) (jW (jW (jW (jW (M3, w.2) (m + 418) c (a : Int)) (m + 419) c (k : Int)) (m + 420) c (((zL L2 a).2.2.2 : Int) + 1)) m 21 ((c : Int) + 1)).1 (by omega) (by rw [List.length_append, hc2]; rfl) (by omega) (mq_S (mq_W (mq_W (mq_W hmq3 (by omega)) (by omega)) (by omega)) (by decide)) (by
                have hs1 := hsx (by omega)
                refine zRL_n hRL3 ?_ (fun o ho => ((jW_f (by omega)).trans ((jW_f (by omega)).trans ((jW_f (by omega)).trans ((jW_f (by omega)).trans rfl))))) (fun o ho => ⟨((jW_a (by omega)).trans ((jW_a (by omega)).trans ((jW_a (by omega)).trans ((jW_k (by omega)).trans rfl)))), ((jW_a (by omega)).trans ((jW_a (by omega)).trans ((jW_k (by omega)).trans ((jW_a (by omega)).trans rfl)))), ((jW_a (by omega)).trans ((jW_k (by omega)).trans ((jW_a (by omega)).trans ((jW_a (by omega)).trans rfl))))⟩) (by rw [hc2]; exact hs1.2.2.1) ?_ ?_ ?_
                · rw [hc2]; exact jW_s
                · rw [hc2]; exact ((jW_a (by omega)).trans ((jW_a (by omega)).trans ((jW_a (by omega)).trans jW_s)))
                · rw [hc2]; exact ((jW_a (by omega)).trans ((jW_a (by omega)).trans jW_s))
                · rw [hc2]; exact (((jW_a (by omega)).trans jW_s)).trans (by show _ = (((zL L2 a).2.2.2 + 1 : Nat) : Int); omega)) (zBL_n hBL2 (by omega) (by omega) (by omega) (hsx (by omega)).2.1) ⟨by rw [List.length_append]; omega, by rw [zL_l hA2.1]; exact hA2.2⟩ (by
                have hs1 := hsx (by omega)
                rw [← hr2, show n - k = (n - (k + 1)) + 1 by omega]
                show _ = zbo n d (399 - a) (a + 1) (zbi n a (n - (k + 1)) (k + 1) (zba n a k L2))
                rw [zba_t ⟨hs1.2.1, fun o ho => hs1.2.2.2 o (by omega)⟩]) (by omega)
                        · have h19 : s ≠ 0 := h19
                          refine jWp.blk mt 1 ?_
                          show _ ∧ jWp 189 111 [some (jO m), some (jI (d : Int)), some (jI (a : Int)), some (jI (k : Int)), some (jI s), some (jI (x : Int))] [jO m] 0 0 (M3, w.2) _
                          refine ⟨rfl, ?_⟩
                          refine jWp.getR (pc' := 114) (o := (m + 17)) mt rfl rfl (jtg hW.K0) hW.R17 ?_
                          show jWp 189 114 [some (jO m), some (jI (d : Int)), some (jI (a : Int)), some (jI (k : Int)), some (jI s), some (jI (x : Int))] [jO (m + 17)] 0 0 (M3, w.2) _
                          refine jWp.blk mt 1 ?_
                          show jWp 189 116 [some (jO m), some (jI (d : Int)), some (jI (a : Int)), some (jI (k : Int)), some (jI s), some (jI (x : Int))] [jI (x : Int), jO (m + 17)] 0 0 (M3, w.2) _
                          refine jWp.aald (pc' := 117) (j := x) (o := (m + (18 + x))) mt rfl rfl (jrg hW.K17 (by decide) (by decide)) (b32_id (by omega) (by omega)) (jlt hW.K17 (by omega)) (hW.RFo x (by omega)) ?_
                          show jWp 189 117 [some (jO m), some (jI (d : Int)), some (jI (a : Int)), some (jI (k : Int)), some (jI s), some (jI (x : Int))] [jO (m + (18 + x))] 0 0 (M3, w.2) _
                          refine jWp.blk mt 1 ?_
                          show _ ∧ jWp 189 118 [some (jO m), some (jI (d : Int)), some (jI (a : Int)), some (jI (k : Int)), some (jI s), some (jI (x : Int))] [jO m, jO (m + (18 + x))] 0 0 (M3, w.2) _
                          refine ⟨rfl, ?_⟩
                          refine jWp.getR (pc' := 121) (o := (m + 17)) mt rfl rfl (jtg hW.K0) hW.R17 ?_
                          show jWp 189 121 [some (jO m), some (jI (d : Int)), some (jI (a : Int)), some (jI (k : Int)), some (jI s), some (jI (x : Int))] [jO (m + 17), jO (m + (18 + x))] 0 0 (M3, w.2) _
                          refine jWp.blk mt 1 ?_
                          show _ ∧ jWp 189 122 [some (jO m), some (jI (d : Int)), some (jI (a : Int)), some (jI (k : Int)), some (jI s), some (jI (x : Int))] [jO m, jO (m + 17), jO (m + (18 + x))] 0 0 (M3, w.2) _
                          refine ⟨rfl, ?_⟩
                          refine jWp.getI (pc' := 125) mt rfl rfl (jtg hW.K0) ?_
                          rw [show ((M3, w.2).1 m 21) = (c : Int) from h321]
                          show jWp 189 125 [some (jO m), some (jI (d : Int)), some (jI (a : Int)), some (jI (k : Int)), some (jI s), some (jI (x : Int))] [jI (c : Int), jO (m + 17), jO (m + (18 + x))] 0 0 (M3, w.2) _
                          refine jWp.aald (pc' := 126) (j := c) (o := (m + (18 + c))) mt rfl rfl (jrg hW.K17 (by decide) (by decide)) (b32_id (by omega) (by omega)) (jlt hW.K17 (by omega)) (hW.RFo c (by omega)) ?_
                          show jWp 189 126 [some (jO m), some (jI (d : Int)), some (jI (a : Int)), some (jI (k : Int)), some (jI s), some (jI (x : Int))] [jO (m + (18 + c)), jO (m + (18 + x))] 0 0 (M3, w.2) _
                          refine jWp.calls (as := [jO (m + (18 + x)), jO (m + (18 + c))]) (rest := []) mt rfl rfl rfl rfl ?_
                          refine jCall.mono (E_areAlike (w := (M3, w.2)) (q := m + (18 + x)) (p := m + (18 + c)) (n := n) (hW.KF x (by omega)) (hW.KF c (by omega)) (zeq_S (hRL3.2 x (by omega)).1 (hBL2.2.2.2 x (by omega)).1.S) (hSn (by omega))) (fun v9 w9 h9 => ?_)
                          rcases h9 with ⟨rfl, h9, h21⟩ | ⟨rfl, h9, h21⟩ <;> subst w9
                          · have h21 : zal (M3 (m + (18 + x))) (M3 (m + (18 + c))) n := h21
                            show jWp 189 129 [some (jO m), some (jI (d : Int)), some (jI (a : Int)), some (jI (k : Int)), some (jI s), some (jI (x : Int))] [jI 1] 0 0 (M3, w.2) _
                            refine jWp.ifc (b := true) mt rfl (by decide) rfl ?_
                            show jWp 189 136 [some (jO m), some (jI (d : Int)), some (jI (a : Int)), some (jI (k : Int)), some (jI s), some (jI (x : Int))] [] 0 0 (M3, w.2) _
                            refine jWp.blk mt 4 ?_
                            show jWp 189 96 [some (jO m), some (jI (d : Int)), some (jI (a : Int)), some (jI (k : Int)), some (jI 0), some (jI ((x : Int) + 1))] [] 0 0 (M3, w.2) _
                            refine jWp.le (l := [some (jO m), some (jI (d : Int)), some (jI (a : Int)), some (jI (k : Int)), some (jI 0), some (jI ((x : Int) + 1))]) (by exact ⟨rfl, rfl, rfl, rfl, rfl, rfl, trivial⟩) ?_
                            exact ih16 (x + 1) 0 (by omega) (by have hs1 := hsx (by omega); exact Or.inr ⟨rfl, fun g => g.2 x (by omega) ((zal_c hn4 (hRL3.2 x (by omega)).1 hs1.2.2.1).mp (by assumption))⟩) (by omega)
                          · have h21 : ¬ (zal (M3 (m + (18 + x))) (M3 (m + (18 + c))) n) := h21
                            show jWp 189 129 [some (jO m), some (jI (d : Int)), some (jI (a : Int)), some (jI (k : Int)), some (jI s), some (jI (x : Int))] [jI 0] 0 0 (M3, w.2) _
                            refine jWp.ifc (b := false) mt rfl (by decide) rfl ?_
                            show jWp 189 132 [some (jO m), some (jI (d : Int)), some (jI (a : Int)), some (jI (k : Int)), some (jI s), some (jI (x : Int))] [] 0 0 (M3, w.2) _
                            refine jWp.blk mt 5 ?_
                            show jWp 189 96 [some (jO m), some (jI (d : Int)), some (jI (a : Int)), some (jI (k : Int)), some (jI 1), some (jI ((x : Int) + 1))] [] 0 0 (M3, w.2) _
                            refine jWp.le (l := [some (jO m), some (jI (d : Int)), some (jI (a : Int)), some (jI (k : Int)), some (jI 1), some (jI ((x : Int) + 1))]) (by exact ⟨rfl, rfl, rfl, rfl, rfl, rfl, trivial⟩) ?_
                            exact ih16 (x + 1) 1 (by omega) (by have hs1 := hsx (by omega); exact Or.inl ⟨rfl, hs1.2.1, hs1.2.2.1, fun y hy => by rcases Nat.lt_or_ge y x with e | e; exact hs1.2.2.2 y e; rw [show y = x by omega]; exact fun g => absurd ((zal_c hn4 (hRL3.2 x (by omega)).1 hs1.2.2.1).mpr g) (by assumption)⟩) (by omega)
                  refine jWp.le (l := [some (jO m), some (jI (d : Int)), some (jI (a : Int)), some (jI (k : Int)), some (jI 0), some (jI 0)]) (by exact ⟨rfl, rfl, rfl, rfl, rfl, rfl, trivial⟩) ?_
                  exact lp15 _ 0 0 (by omega) (Or.inr ⟨rfl, fun g => hcan g.1⟩) (Nat.lt_succ_self _)
          refine jWp.le (l := [some (jO m), some (jI (d : Int)), some (jI (a : Int)), some (jI 0), none, none]) (by exact ⟨rfl, rfl, rfl, rfl, trivial⟩) ?_
          exact lp5 _ 0 c1 L1 M1 (by omega) hc1 (by omega) hmq1 hRL1 hBL1 ⟨by omega, by omega⟩ (by rw [← hr1, show 400 - a = (399 - a) + 1 by omega, zbo_t ⟨by omega, by omega⟩]; rfl) (Nat.lt_succ_self _)
  refine jWp.le (l := [some (jO m), some (jI (d : Int)), some (jI 0), none, none, none]) (by exact ⟨rfl, rfl, rfl, trivial⟩) ?_
  exact lp1 _ 0 1 [((w.1 (m + 1)), 0, 0, 0)] (jW (jW (kA w (m + (18 + 0)) T9) (m + 420) 0 0) m 21 1).1 rfl (by omega) (mq_S (mq_W (mq_A mq_0 (by omega)) (by omega)) (by decide)) ⟨jW_s, fun o ho => by
    have e : o = 0 := by simp only [List.length_cons, List.length_nil] at ho; omega
    subst e
    refine ⟨?_, ((jW_a (by omega)).trans jW_s), fun g => absurd g (by omega)⟩
    rw [show (jW (jW (kA w (m + (18 + 0)) T9) (m + 420) 0 0) m 21 1).1 (m + (18 + 0)) = T9 from ((jW_f (by omega)).trans ((jW_f (by omega)).trans kA_fs))]
    exact hT9⟩ (zBL_0 hQ) rfl (Nat.lt_succ_self _)
