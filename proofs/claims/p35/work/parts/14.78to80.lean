section
theorem zcnt_0 {u v : Nat → Int} {x y : Int} {n : Nat} (h : zcnt u v n x y ≤ 0) : ∀ i, i < n → ¬ (u i = x ∧ v i = y) := by
  induction n with
  | zero => exact fun i hi => absurd hi (by omega)
  | succ n ih =>
    intro i hi g
    have b := zcnt_b u v x y n
    rcases Nat.lt_or_ge i n with c | c
    · refine ih ?_ i c g
      have : zcnt u v (n + 1) x y = zcnt u v n x y + if u n = x ∧ v n = y then 1 else 0 := rfl
      split at this <;> omega
    · rw [show i = n by omega] at g
      have : zcnt u v (n + 1) x y = zcnt u v n x y + if u n = x ∧ v n = y then 1 else 0 := rfl
      rw [if_pos g] at this
      omega
theorem zcnt_1 {u v : Nat → Int} {x y : Int} {n : Nat} (h : 0 < zcnt u v n x y) : ∃ i, i < n ∧ u i = x ∧ v i = y := by
  induction n with
  | zero => exact absurd h (by show ¬ (0 : Int) < 0; omega)
  | succ n ih =>
    have : zcnt u v (n + 1) x y = zcnt u v n x y + if u n = x ∧ v n = y then 1 else 0 := rfl
    split at this
    · rename_i g
      exact ⟨n, by omega, g.1, g.2⟩
    · obtain ⟨i, hi, g⟩ := ih (by omega)
      exact ⟨i, by omega, g⟩
set_option maxHeartbeats 4000000 in
set_option maxRecDepth 20000 in
theorem C_isFirst {w : jS} {se n : Nat} (hK : SK w.2 se) (hn4 : n ≤ 4) {g : Prop} {L : List zE} {q0 : Nat → Int} (hC : cSL w.1 se n g L) (hBL : zBL n q0 L) (hl : L.length ≤ 161) {o i : Nat} (ho : o < L.length) (hi : i < n) : jCall 35 [jO se, jI (o : Int), jI (i : Int)] w (jvb (zni L n o i i) w) := by
  have mt : jtb 35 = jT35 := rfl
  have hvi : (1 ≤ (zL L o).1 (21 + i) ∧ (zL L o).1 (21 + i) ≤ 1000000000 ∧ 1 ≤ (zL L o).1 (25 + i) ∧ (zL L o).1 (25 + i) ≤ 1000000000) := (hBL.2.2.2 o (by omega)).1.S.v i (by omega)
  have hby : (if o = 0 then -1 else ((zL L o).2.2.1 : Int)) < 4 := by
    have h1 := (hBL.2.2.2 o ho).2
    split
    · omega
    · have := (h1 (by omega)).2.1
      omega
  show jWp 35 0 [some (jO se), some (jI (o : Int)), some (jI (i : Int)), none, none, none] [] 0 0 w _
  refine jWp.blk mt 1 ?_
  show jWp 35 1 [some (jO se), some (jI (o : Int)), some (jI (i : Int)), none, none, none] [jI (o : Int)] 0 0 w _
  refine jWp.ifz (pc' := 4) mt rfl rfl (b32_id (by omega) (by omega)) (fun h1 => ?_) (fun h1 => ?_)
  · have h1 : (o : Int) < 0 := h1
    refine jWp.blk mt 1 ?_
    show jWp 35 31 [some (jO se), some (jI (o : Int)), some (jI (i : Int)), none, none, none] [jI 0] 0 0 w _
    refine jWp.iretz mt rfl ⟨rfl, rfl⟩ rfl (Or.inl rfl) ?_
    first
    | (exfalso; omega)
    | exact Or.inr ⟨rfl, rfl, zni_s hBL (by omega) (by omega) (by omega) (by omega)⟩
    | exact Or.inr ⟨rfl, rfl, fun g => g.2 y (by omega) ⟨by assumption, by assumption⟩⟩
    | (refine Or.inr ⟨rfl, rfl, fun g => g.1 ?_⟩
       obtain ⟨i9, hi9, g1, g2⟩ := zcnt_1 (u := fun j => (zL L p).1 (21 + j)) (v := fun j => (zL L p).1 (25 + j)) (n := n) (x := (zL L o).1 (21 + i)) (y := (zL L o).1 (25 + i)) (by omega)
       exact ⟨p, i9, by omega, hi9, g1, g2⟩)
  · have h1 : 0 ≤ (o : Int) := h1
    refine jWp.blk mt 2 ?_
    show jWp 35 8 [some (jO se), some (jI (o : Int)), some (jI (i : Int)), none, none, none] [jI 161, jI (o : Int)] 0 0 w _
    refine jWp.icmp (pc' := 11) mt rfl rfl (b32_id (by omega) (by omega)) (show b32 161 = 161 by decide) (fun h2 => ?_) (fun h2 => ?_)
    · have h2 : 161 ≤ (o : Int) := h2
      refine jWp.blk mt 1 ?_
      show jWp 35 31 [some (jO se), some (jI (o : Int)), some (jI (i : Int)), none, none, none] [jI 0] 0 0 w _
      refine jWp.iretz mt rfl ⟨rfl, rfl⟩ rfl (Or.inl rfl) ?_
      first
      | (exfalso; omega)
      | exact Or.inr ⟨rfl, rfl, zni_s hBL (by omega) (by omega) (by omega) (by omega)⟩
      | exact Or.inr ⟨rfl, rfl, fun g => g.2 y (by omega) ⟨by assumption, by assumption⟩⟩
      | (refine Or.inr ⟨rfl, rfl, fun g => g.1 ?_⟩
         obtain ⟨i9, hi9, g1, g2⟩ := zcnt_1 (u := fun j => (zL L p).1 (21 + j)) (v := fun j => (zL L p).1 (25 + j)) (n := n) (x := (zL L o).1 (21 + i)) (y := (zL L o).1 (25 + i)) (by omega)
         exact ⟨p, i9, by omega, hi9, g1, g2⟩)
    · have h2 : (o : Int) < 161 := h2
      refine jWp.blk mt 1 ?_
      show _ ∧ jWp 35 12 [some (jO se), some (jI (o : Int)), some (jI (i : Int)), none, none, none] [jO se] 0 0 w _
      refine ⟨rfl, ?_⟩
      refine jWp.getR (pc' := 15) (o := (se + 3)) mt rfl rfl (jtg hK.k0) hK.r3 ?_
      show jWp 35 15 [some (jO se), some (jI (o : Int)), some (jI (i : Int)), none, none, none] [jO (se + 3)] 0 0 w _
      refine jWp.blk mt 1 ?_
      show jWp 35 16 [some (jO se), some (jI (o : Int)), some (jI (i : Int)), none, none, none] [jI (o : Int), jO (se + 3)] 0 0 w _
      refine jWp.iald (pc' := 17) (j := o) mt rfl rfl (jird_of hK.k3) (b32_id (by omega) (by omega)) (jlt hK.k3 (by omega)) ?_
      rw [show (w.1 (se + 3) o) = (if o = 0 then -1 else ((zL L o).2.2.1 : Int)) from (hC.2 o (by omega)).2.2.2.1]
      show jWp 35 17 [some (jO se), some (jI (o : Int)), some (jI (i : Int)), none, none, none] [jI (if o = 0 then -1 else ((zL L o).2.2.1 : Int))] 0 0 w _
      refine jWp.ifz (pc' := 20) mt rfl rfl (b32_id (by split <;> omega) (by omega)) (fun h3 => ?_) (fun h3 => ?_)
      · have h3 : (if o = 0 then -1 else ((zL L o).2.2.1 : Int)) < 0 := h3
        refine jWp.blk mt 1 ?_
        show _ ∧ jWp 35 33 [some (jO se), some (jI (o : Int)), some (jI (i : Int)), none, none, none] [jO se] 0 0 w _
        refine ⟨rfl, ?_⟩
        refine jWp.getR (pc' := 36) (o := (se + 1)) mt rfl rfl (jtg hK.k0) hK.r1 ?_
        show jWp 35 36 [some (jO se), some (jI (o : Int)), some (jI (i : Int)), none, none, none] [jO (se + 1)] 0 0 w _
        refine jWp.blk mt 1 ?_
        show jWp 35 37 [some (jO se), some (jI (o : Int)), some (jI (i : Int)), none, none, none] [jI (o : Int), jO (se + 1)] 0 0 w _
        refine jWp.aald (pc' := 38) (j := o) (o := (se + (5 + 2 * o))) mt rfl rfl (jrg hK.k1 (by decide) (by decide)) (b32_id (by omega) (by omega)) (jlt hK.k1 (by omega)) (hK.q o (by omega)) ?_
        show jWp 35 38 [some (jO se), some (jI (o : Int)), some (jI (i : Int)), none, none, none] [jO (se + (5 + 2 * o))] 0 0 w _
        refine jWp.blk mt 1 ?_
        show jWp 35 39 [some (jO se), some (jI (o : Int)), some (jI (i : Int)), none, none, none] [jI (i : Int), jO (se + (5 + 2 * o))] 0 0 w _
        refine jWp.callv (as := [jO (se + (5 + 2 * o)), jI (i : Int)]) (rest := []) mt rfl rfl rfl ⟨rfl, jtg (hK.o o (by omega))⟩ ?_
        refine jCall.mono ((by have h := E_sa (w := w) (sc := se + (6 + 2 * o)) (n := n) (i := i) (hK.o o (by omega)) (hK.c o (by omega)) (hK.rc o (by omega)) (hC.2 o (by omega)).1 hn4 (by omega); rw [show w.1 (se + (6 + 2 * o)) i = (zL L o).1 (21 + i) from ((hC.2 o (by omega)).2.1.1 _ (by omega)).trans (cz_u hn4 (by omega))] at h; exact h)) (fun v9 w9 h9 => ?_)
        obtain ⟨rfl, h9⟩ := h9
        subst w9
        show jWp 35 42 [some (jO se), some (jI (o : Int)), some (jI (i : Int)), none, none, none] [jI ((zL L o).1 (21 + i))] 0 0 w _
        refine jWp.blk mt 2 ?_
        show _ ∧ jWp 35 44 [some (jO se), some (jI (o : Int)), some (jI (i : Int)), some (jI ((zL L o).1 (21 + i))), none, none] [jO se] 0 0 w _
        refine ⟨rfl, ?_⟩
        refine jWp.getR (pc' := 47) (o := (se + 1)) mt rfl rfl (jtg hK.k0) hK.r1 ?_
        show jWp 35 47 [some (jO se), some (jI (o : Int)), some (jI (i : Int)), some (jI ((zL L o).1 (21 + i))), none, none] [jO (se + 1)] 0 0 w _
        refine jWp.blk mt 1 ?_
        show jWp 35 48 [some (jO se), some (jI (o : Int)), some (jI (i : Int)), some (jI ((zL L o).1 (21 + i))), none, none] [jI (o : Int), jO (se + 1)] 0 0 w _
        refine jWp.aald (pc' := 49) (j := o) (o := (se + (5 + 2 * o))) mt rfl rfl (jrg hK.k1 (by decide) (by decide)) (b32_id (by omega) (by omega)) (jlt hK.k1 (by omega)) (hK.q o (by omega)) ?_
        show jWp 35 49 [some (jO se), some (jI (o : Int)), some (jI (i : Int)), some (jI ((zL L o).1 (21 + i))), none, none] [jO (se + (5 + 2 * o))] 0 0 w _
        refine jWp.blk mt 1 ?_
        show jWp 35 50 [some (jO se), some (jI (o : Int)), some (jI (i : Int)), some (jI ((zL L o).1 (21 + i))), none, none] [jI (i : Int), jO (se + (5 + 2 * o))] 0 0 w _
        refine jWp.callv (as := [jO (se + (5 + 2 * o)), jI (i : Int)]) (rest := []) mt rfl rfl rfl ⟨rfl, jtg (hK.o o (by omega))⟩ ?_
        refine jCall.mono ((by have h := E_su (w := w) (sc := se + (6 + 2 * o)) (n := n) (i := i) (hK.o o (by omega)) (hK.c o (by omega)) (hK.rc o (by omega)) (hC.2 o (by omega)).1 hn4 (by omega); rw [show w.1 (se + (6 + 2 * o)) (4 + i) = (zL L o).1 (25 + i) from ((hC.2 o (by omega)).2.1.1 _ (by omega)).trans (cz_d hn4 (by omega))] at h; exact h)) (fun v9 w9 h9 => ?_)
        obtain ⟨rfl, h9⟩ := h9
        subst w9
        show jWp 35 53 [some (jO se), some (jI (o : Int)), some (jI (i : Int)), some (jI ((zL L o).1 (21 + i))), none, none] [jI ((zL L o).1 (25 + i))] 0 0 w _
        refine jWp.blk mt 3 ?_
        show jWp 35 58 [some (jO se), some (jI (o : Int)), some (jI (i : Int)), some (jI ((zL L o).1 (21 + i))), some (jI ((zL L o).1 (25 + i))), some (jI 0)] [] 0 0 w _
        have lp4 : ∀ (N : Nat) (y : Nat) (hy : y ≤ i) (hA : ∀ z, z < y → ¬ ((zL L o).1 (21 + z) = (zL L o).1 (21 + i) ∧ (zL L o).1 (25 + z) = (zL L o).1 (25 + i))), i - y < N → jWp 35 58 [some (jO se), some (jI (o : Int)), some (jI (i : Int)), some (jI ((zL L o).1 (21 + i))), some (jI ((zL L o).1 (25 + i))), some (jI (y : Int))] [] 0 0 w (jvb (zni L n o i i) w) := by
          intro N
          induction N with
          | zero => intro y hy hA hm; omega
          | succ N ih5 =>
            intro y hy hA hm
            have hvy : (1 ≤ (zL L o).1 (21 + y) ∧ (zL L o).1 (21 + y) ≤ 1000000000 ∧ 1 ≤ (zL L o).1 (25 + y) ∧ (zL L o).1 (25 + y) ≤ 1000000000) := (hBL.2.2.2 o (by omega)).1.S.v y (by omega)
            refine jWp.blk mt 2 ?_
            show jWp 35 61 [some (jO se), some (jI (o : Int)), some (jI (i : Int)), some (jI ((zL L o).1 (21 + i))), some (jI ((zL L o).1 (25 + i))), some (jI (y : Int))] [jI (i : Int), jI (y : Int)] 0 0 w _
            refine jWp.icmp (pc' := 64) mt rfl rfl (b32_id (by omega) (by omega)) (b32_id (by omega) (by omega)) (fun h6 => ?_) (fun h6 => ?_)
            · have h6 : (i : Int) ≤ (y : Int) := h6
              refine jWp.blk mt 2 ?_
              show jWp 35 106 [some (jO se), some (jI (o : Int)), some (jI (i : Int)), some (jI ((zL L o).1 (21 + i))), some (jI ((zL L o).1 (25 + i))), some (jI 0)] [] 0 0 w _
              have lp7 : ∀ (N : Nat) (p : Nat) (hp : p ≤ o) (hB : ∀ z, z < p → ∀ i9, i9 < n → (zL L z).1 (21 + i9) = (zL L o).1 (21 + i) → ¬ (zL L z).1 (25 + i9) = (zL L o).1 (25 + i)), o - p < N → jWp 35 106 [some (jO se), some (jI (o : Int)), some (jI (i : Int)), some (jI ((zL L o).1 (21 + i))), some (jI ((zL L o).1 (25 + i))), some (jI (p : Int))] [] 0 0 w (jvb (zni L n o i i) w) := by
                intro N
                induction N with
                | zero => intro p hp hB hm; omega
                | succ N ih8 =>
                  intro p hp hB hm
                  refine jWp.blk mt 2 ?_
                  show jWp 35 109 [some (jO se), some (jI (o : Int)), some (jI (i : Int)), some (jI ((zL L o).1 (21 + i))), some (jI ((zL L o).1 (25 + i))), some (jI (p : Int))] [jI (o : Int), jI (p : Int)] 0 0 w _
                  refine jWp.icmp (pc' := 112) mt rfl rfl (b32_id (by omega) (by omega)) (b32_id (by omega) (by omega)) (fun h9 => ?_) (fun h9 => ?_)
                  · have h9 : (o : Int) ≤ (p : Int) := h9
                    refine jWp.blk mt 1 ?_
                    show jWp 35 137 [some (jO se), some (jI (o : Int)), some (jI (i : Int)), some (jI ((zL L o).1 (21 + i))), some (jI ((zL L o).1 (25 + i))), some (jI (p : Int))] [jI 1] 0 0 w _
                    refine jWp.iretz mt rfl ⟨rfl, rfl⟩ rfl (Or.inr rfl) ?_
                    exact Or.inl ⟨rfl, rfl, fun ⟨p9, i9, g1, g2, g3⟩ => hB p9 (by omega) i9 g2 g3.1 g3.2, fun z hz => hA z (by omega)⟩
                  · have h9 : (p : Int) < (o : Int) := h9
                    refine jWp.blk mt 1 ?_
                    show _ ∧ jWp 35 113 [some (jO se), some (jI (o : Int)), some (jI (i : Int)), some (jI ((zL L o).1 (21 + i))), some (jI ((zL L o).1 (25 + i))), some (jI (p : Int))] [jO se] 0 0 w _
                    refine ⟨rfl, ?_⟩
                    refine jWp.getR (pc' := 116) (o := (se + 1)) mt rfl rfl (jtg hK.k0) hK.r1 ?_
                    show jWp 35 116 [some (jO se), some (jI (o : Int)), some (jI (i : Int)), some (jI ((zL L o).1 (21 + i))), some (jI ((zL L o).1 (25 + i))), some (jI (p : Int))] [jO (se + 1)] 0 0 w _
                    refine jWp.blk mt 1 ?_
                    show jWp 35 118 [some (jO se), some (jI (o : Int)), some (jI (i : Int)), some (jI ((zL L o).1 (21 + i))), some (jI ((zL L o).1 (25 + i))), some (jI (p : Int))] [jI (p : Int), jO (se + 1)] 0 0 w _
                    refine jWp.aald (pc' := 119) (j := p) (o := (se + (5 + 2 * p))) mt rfl rfl (jrg hK.k1 (by decide) (by decide)) (b32_id (by omega) (by omega)) (jlt hK.k1 (by omega)) (hK.q p (by omega)) ?_
                    show jWp 35 119 [some (jO se), some (jI (o : Int)), some (jI (i : Int)), some (jI ((zL L o).1 (21 + i))), some (jI ((zL L o).1 (25 + i))), some (jI (p : Int))] [jO (se + (5 + 2 * p))] 0 0 w _
                    refine jWp.blk mt 2 ?_
                    show jWp 35 122 [some (jO se), some (jI (o : Int)), some (jI (i : Int)), some (jI ((zL L o).1 (21 + i))), some (jI ((zL L o).1 (25 + i))), some (jI (p : Int))] [jI ((zL L o).1 (25 + i)), jI ((zL L o).1 (21 + i)), jO (se + (5 + 2 * p))] 0 0 w _
                    refine jWp.callv (as := [jO (se + (5 + 2 * p)), jI ((zL L o).1 (21 + i)), jI ((zL L o).1 (25 + i))]) (rest := []) mt rfl rfl rfl ⟨rfl, jtg (hK.o p (by omega))⟩ ?_
                    refine jCall.mono (C_often (w := w) (s := se + (5 + 2 * p)) (sc := se + (6 + 2 * p)) (n := n) (q := (zL L p).1) (hK.o p (by omega)) (hK.c p (by omega)) (hK.rc p (by omega)) (hC.2 p (by omega)).1 hn4 (hBL.2.2.2 p (by omega)).1 (hC.2 p (by omega)).2.1.1 (by constructor <;> omega) (by constructor <;> omega)) (fun v9 w9 h9 => ?_)
                    obtain ⟨rfl, h9⟩ := h9
                    subst w9
                    show jWp 35 125 [some (jO se), some (jI (o : Int)), some (jI (i : Int)), some (jI ((zL L o).1 (21 + i))), some (jI ((zL L o).1 (25 + i))), some (jI (p : Int))] [jI (zcnt (fun j => (zL L p).1 (21 + j)) (fun j => (zL L p).1 (25 + j)) n ((zL L o).1 (21 + i)) ((zL L o).1 (25 + i)))] 0 0 w _
                    have := zcnt_b (fun j => (zL L p).1 (21 + j)) (fun j => (zL L p).1 (25 + j)) ((zL L o).1 (21 + i)) ((zL L o).1 (25 + i)) n
                    refine jWp.ifz (pc' := 128) mt rfl rfl (b32_id (by omega) (by omega)) (fun h10 => ?_) (fun h10 => ?_)
                    · have h10 : (zcnt (fun j => (zL L p).1 (21 + j)) (fun j => (zL L p).1 (25 + j)) n ((zL L o).1 (21 + i)) ((zL L o).1 (25 + i))) ≤ 0 := h10
                      refine jWp.blk mt 2 ?_
                      show jWp 35 106 [some (jO se), some (jI (o : Int)), some (jI (i : Int)), some (jI ((zL L o).1 (21 + i))), some (jI ((zL L o).1 (25 + i))), some (jI ((p : Int) + 1))] [] 0 0 w _
                      refine jWp.le (l := [some (jO se), some (jI (o : Int)), some (jI (i : Int)), some (jI ((zL L o).1 (21 + i))), some (jI ((zL L o).1 (25 + i))), some (jI ((p : Int) + 1))]) (by exact ⟨rfl, rfl, rfl, rfl, rfl, rfl, trivial⟩) ?_
                      exact ih8 (p + 1) (by omega) (fun z hz i9 hi9 g1 g2 => by rcases Nat.lt_or_ge z p with e | e; exact hB z e i9 hi9 g1 g2; rw [show z = p by omega] at g1 g2; exact zcnt_0 (u := fun j => (zL L p).1 (21 + j)) (v := fun j => (zL L p).1 (25 + j)) (by omega) i9 hi9 ⟨g1, g2⟩) (by omega)
                    · have h10 : 0 < (zcnt (fun j => (zL L p).1 (21 + j)) (fun j => (zL L p).1 (25 + j)) n ((zL L o).1 (21 + i)) ((zL L o).1 (25 + i))) := h10
                      refine jWp.blk mt 1 ?_
                      show jWp 35 129 [some (jO se), some (jI (o : Int)), some (jI (i : Int)), some (jI ((zL L o).1 (21 + i))), some (jI ((zL L o).1 (25 + i))), some (jI (p : Int))] [jI 0] 0 0 w _
                      refine jWp.iretz mt rfl ⟨rfl, rfl⟩ rfl (Or.inl rfl) ?_
                      first
                      | (exfalso; omega)
                      | exact Or.inr ⟨rfl, rfl, zni_s hBL (by omega) (by omega) (by omega) (by omega)⟩
                      | exact Or.inr ⟨rfl, rfl, fun g => g.2 y (by omega) ⟨by assumption, by assumption⟩⟩
                      | (refine Or.inr ⟨rfl, rfl, fun g => g.1 ?_⟩
                         obtain ⟨i9, hi9, g1, g2⟩ := zcnt_1 (u := fun j => (zL L p).1 (21 + j)) (v := fun j => (zL L p).1 (25 + j)) (n := n) (x := (zL L o).1 (21 + i)) (y := (zL L o).1 (25 + i)) (by omega)
                         exact ⟨p, i9, by omega, hi9, g1, g2⟩)
              refine jWp.le (l := [some (jO se), some (jI (o : Int)), some (jI (i : Int)), some (jI ((zL L o).1 (21 + i))), some (jI ((zL L o).1 (25 + i))), some (jI 0)]) (by exact ⟨rfl, rfl, rfl, rfl, rfl, rfl, trivial⟩) ?_
              exact lp7 _ 0 (by omega) (fun z hz => absurd hz (by omega)) (Nat.lt_succ_self _)
            · have h6 : (y : Int) < (i : Int) := h6
              refine jWp.blk mt 1 ?_
              show _ ∧ jWp 35 65 [some (jO se), some (jI (o : Int)), some (jI (i : Int)), some (jI ((zL L o).1 (21 + i))), some (jI ((zL L o).1 (25 + i))), some (jI (y : Int))] [jO se] 0 0 w _
              refine ⟨rfl, ?_⟩
              refine jWp.getR (pc' := 68) (o := (se + 1)) mt rfl rfl (jtg hK.k0) hK.r1 ?_
              show jWp 35 68 [some (jO se), some (jI (o : Int)), some (jI (i : Int)), some (jI ((zL L o).1 (21 + i))), some (jI ((zL L o).1 (25 + i))), some (jI (y : Int))] [jO (se + 1)] 0 0 w _
              refine jWp.blk mt 1 ?_
              show jWp 35 69 [some (jO se), some (jI (o : Int)), some (jI (i : Int)), some (jI ((zL L o).1 (21 + i))), some (jI ((zL L o).1 (25 + i))), some (jI (y : Int))] [jI (o : Int), jO (se + 1)] 0 0 w _
              refine jWp.aald (pc' := 70) (j := o) (o := (se + (5 + 2 * o))) mt rfl rfl (jrg hK.k1 (by decide) (by decide)) (b32_id (by omega) (by omega)) (jlt hK.k1 (by omega)) (hK.q o (by omega)) ?_
              show jWp 35 70 [some (jO se), some (jI (o : Int)), some (jI (i : Int)), some (jI ((zL L o).1 (21 + i))), some (jI ((zL L o).1 (25 + i))), some (jI (y : Int))] [jO (se + (5 + 2 * o))] 0 0 w _
              refine jWp.blk mt 1 ?_
              show jWp 35 72 [some (jO se), some (jI (o : Int)), some (jI (i : Int)), some (jI ((zL L o).1 (21 + i))), some (jI ((zL L o).1 (25 + i))), some (jI (y : Int))] [jI (y : Int), jO (se + (5 + 2 * o))] 0 0 w _
              refine jWp.callv (as := [jO (se + (5 + 2 * o)), jI (y : Int)]) (rest := []) mt rfl rfl rfl ⟨rfl, jtg (hK.o o (by omega))⟩ ?_
              refine jCall.mono ((by have h := E_sa (w := w) (sc := se + (6 + 2 * o)) (n := n) (i := y) (hK.o o (by omega)) (hK.c o (by omega)) (hK.rc o (by omega)) (hC.2 o (by omega)).1 hn4 (by omega); rw [show w.1 (se + (6 + 2 * o)) y = (zL L o).1 (21 + y) from ((hC.2 o (by omega)).2.1.1 _ (by omega)).trans (cz_u hn4 (by omega))] at h; exact h)) (fun v9 w9 h9 => ?_)
              obtain ⟨rfl, h9⟩ := h9
              subst w9
              show jWp 35 75 [some (jO se), some (jI (o : Int)), some (jI (i : Int)), some (jI ((zL L o).1 (21 + i))), some (jI ((zL L o).1 (25 + i))), some (jI (y : Int))] [jI ((zL L o).1 (21 + y))] 0 0 w _
              refine jWp.blk mt 1 ?_
              show jWp 35 76 [some (jO se), some (jI (o : Int)), some (jI (i : Int)), some (jI ((zL L o).1 (21 + i))), some (jI ((zL L o).1 (25 + i))), some (jI (y : Int))] [jI ((zL L o).1 (21 + i)), jI ((zL L o).1 (21 + y))] 0 0 w _
              refine jWp.icmp (pc' := 79) mt rfl rfl (b32_id (by omega) (by omega)) (b32_id (by omega) (by omega)) (fun h11 => ?_) (fun h11 => ?_)
              · have h11 : ((zL L o).1 (21 + y)) ≠ ((zL L o).1 (21 + i)) := h11
                refine jWp.blk mt 2 ?_
                show jWp 35 58 [some (jO se), some (jI (o : Int)), some (jI (i : Int)), some (jI ((zL L o).1 (21 + i))), some (jI ((zL L o).1 (25 + i))), some (jI ((y : Int) + 1))] [] 0 0 w _
                refine jWp.le (l := [some (jO se), some (jI (o : Int)), some (jI (i : Int)), some (jI ((zL L o).1 (21 + i))), some (jI ((zL L o).1 (25 + i))), some (jI ((y : Int) + 1))]) (by exact ⟨rfl, rfl, rfl, rfl, rfl, rfl, trivial⟩) ?_
                exact ih5 (y + 1) (by omega) (fun z hz => by rcases Nat.lt_or_ge z y with e | e; exact hA z e; rw [show z = y by omega]; intro g; first | exact absurd g.1 (by assumption) | exact absurd g.2 (by assumption)) (by omega)
              · have h11 : ((zL L o).1 (21 + y)) = ((zL L o).1 (21 + i)) := h11
                refine jWp.blk mt 1 ?_
                show _ ∧ jWp 35 80 [some (jO se), some (jI (o : Int)), some (jI (i : Int)), some (jI ((zL L o).1 (21 + i))), some (jI ((zL L o).1 (25 + i))), some (jI (y : Int))] [jO se] 0 0 w _
                refine ⟨rfl, ?_⟩
                refine jWp.getR (pc' := 83) (o := (se + 1)) mt rfl rfl (jtg hK.k0) hK.r1 ?_
                show jWp 35 83 [some (jO se), some (jI (o : Int)), some (jI (i : Int)), some (jI ((zL L o).1 (21 + i))), some (jI ((zL L o).1 (25 + i))), some (jI (y : Int))] [jO (se + 1)] 0 0 w _
                refine jWp.blk mt 1 ?_
                show jWp 35 84 [some (jO se), some (jI (o : Int)), some (jI (i : Int)), some (jI ((zL L o).1 (21 + i))), some (jI ((zL L o).1 (25 + i))), some (jI (y : Int))] [jI (o : Int), jO (se + 1)] 0 0 w _
                refine jWp.aald (pc' := 85) (j := o) (o := (se + (5 + 2 * o))) mt rfl rfl (jrg hK.k1 (by decide) (by decide)) (b32_id (by omega) (by omega)) (jlt hK.k1 (by omega)) (hK.q o (by omega)) ?_
                show jWp 35 85 [some (jO se), some (jI (o : Int)), some (jI (i : Int)), some (jI ((zL L o).1 (21 + i))), some (jI ((zL L o).1 (25 + i))), some (jI (y : Int))] [jO (se + (5 + 2 * o))] 0 0 w _
                refine jWp.blk mt 1 ?_
                show jWp 35 87 [some (jO se), some (jI (o : Int)), some (jI (i : Int)), some (jI ((zL L o).1 (21 + i))), some (jI ((zL L o).1 (25 + i))), some (jI (y : Int))] [jI (y : Int), jO (se + (5 + 2 * o))] 0 0 w _
                refine jWp.callv (as := [jO (se + (5 + 2 * o)), jI (y : Int)]) (rest := []) mt rfl rfl rfl ⟨rfl, jtg (hK.o o (by omega))⟩ ?_
                refine jCall.mono ((by have h := E_su (w := w) (sc := se + (6 + 2 * o)) (n := n) (i := y) (hK.o o (by omega)) (hK.c o (by omega)) (hK.rc o (by omega)) (hC.2 o (by omega)).1 hn4 (by omega); rw [show w.1 (se + (6 + 2 * o)) (4 + y) = (zL L o).1 (25 + y) from ((hC.2 o (by omega)).2.1.1 _ (by omega)).trans (cz_d hn4 (by omega))] at h; exact h)) (fun v9 w9 h9 => ?_)
                obtain ⟨rfl, h9⟩ := h9
                subst w9
                show jWp 35 90 [some (jO se), some (jI (o : Int)), some (jI (i : Int)), some (jI ((zL L o).1 (21 + i))), some (jI ((zL L o).1 (25 + i))), some (jI (y : Int))] [jI ((zL L o).1 (25 + y))] 0 0 w _
                refine jWp.blk mt 1 ?_
                show jWp 35 92 [some (jO se), some (jI (o : Int)), some (jI (i : Int)), some (jI ((zL L o).1 (21 + i))), some (jI ((zL L o).1 (25 + i))), some (jI (y : Int))] [jI ((zL L o).1 (25 + i)), jI ((zL L o).1 (25 + y))] 0 0 w _
                refine jWp.icmp (pc' := 95) mt rfl rfl (b32_id (by omega) (by omega)) (b32_id (by omega) (by omega)) (fun h12 => ?_) (fun h12 => ?_)
                · have h12 : ((zL L o).1 (25 + y)) ≠ ((zL L o).1 (25 + i)) := h12
                  refine jWp.blk mt 2 ?_
                  show jWp 35 58 [some (jO se), some (jI (o : Int)), some (jI (i : Int)), some (jI ((zL L o).1 (21 + i))), some (jI ((zL L o).1 (25 + i))), some (jI ((y : Int) + 1))] [] 0 0 w _
                  refine jWp.le (l := [some (jO se), some (jI (o : Int)), some (jI (i : Int)), some (jI ((zL L o).1 (21 + i))), some (jI ((zL L o).1 (25 + i))), some (jI ((y : Int) + 1))]) (by exact ⟨rfl, rfl, rfl, rfl, rfl, rfl, trivial⟩) ?_
                  exact ih5 (y + 1) (by omega) (fun z hz => by rcases Nat.lt_or_ge z y with e | e; exact hA z e; rw [show z = y by omega]; intro g; first | exact absurd g.1 (by assumption) | exact absurd g.2 (by assumption)) (by omega)
                · have h12 : ((zL L o).1 (25 + y)) = ((zL L o).1 (25 + i)) := h12
                  refine jWp.blk mt 1 ?_
                  show jWp 35 96 [some (jO se), some (jI (o : Int)), some (jI (i : Int)), some (jI ((zL L o).1 (21 + i))), some (jI ((zL L o).1 (25 + i))), some (jI (y : Int))] [jI 0] 0 0 w _
                  refine jWp.iretz mt rfl ⟨rfl, rfl⟩ rfl (Or.inl rfl) ?_
                  first
                  | (exfalso; omega)
                  | exact Or.inr ⟨rfl, rfl, zni_s hBL (by omega) (by omega) (by omega) (by omega)⟩
                  | exact Or.inr ⟨rfl, rfl, fun g => g.2 y (by omega) ⟨by assumption, by assumption⟩⟩
                  | (refine Or.inr ⟨rfl, rfl, fun g => g.1 ?_⟩
                     obtain ⟨i9, hi9, g1, g2⟩ := zcnt_1 (u := fun j => (zL L p).1 (21 + j)) (v := fun j => (zL L p).1 (25 + j)) (n := n) (x := (zL L o).1 (21 + i)) (y := (zL L o).1 (25 + i)) (by omega)
                     exact ⟨p, i9, by omega, hi9, g1, g2⟩)
        refine jWp.le (l := [some (jO se), some (jI (o : Int)), some (jI (i : Int)), some (jI ((zL L o).1 (21 + i))), some (jI ((zL L o).1 (25 + i))), some (jI 0)]) (by exact ⟨rfl, rfl, rfl, rfl, rfl, rfl, trivial⟩) ?_
        exact lp4 _ 0 (by omega) (fun z hz => absurd hz (by omega)) (Nat.lt_succ_self _)
      · have h3 : 0 ≤ (if o = 0 then -1 else ((zL L o).2.2.1 : Int)) := h3
        refine jWp.blk mt 1 ?_
        show _ ∧ jWp 35 21 [some (jO se), some (jI (o : Int)), some (jI (i : Int)), none, none, none] [jO se] 0 0 w _
        refine ⟨rfl, ?_⟩
        refine jWp.getR (pc' := 24) (o := (se + 3)) mt rfl rfl (jtg hK.k0) hK.r3 ?_
        show jWp 35 24 [some (jO se), some (jI (o : Int)), some (jI (i : Int)), none, none, none] [jO (se + 3)] 0 0 w _
        refine jWp.blk mt 1 ?_
        show jWp 35 25 [some (jO se), some (jI (o : Int)), some (jI (i : Int)), none, none, none] [jI (o : Int), jO (se + 3)] 0 0 w _
        refine jWp.iald (pc' := 26) (j := o) mt rfl rfl (jird_of hK.k3) (b32_id (by omega) (by omega)) (jlt hK.k3 (by omega)) ?_
        rw [show (w.1 (se + 3) o) = (if o = 0 then -1 else ((zL L o).2.2.1 : Int)) from (hC.2 o (by omega)).2.2.2.1]
        show jWp 35 26 [some (jO se), some (jI (o : Int)), some (jI (i : Int)), none, none, none] [jI (if o = 0 then -1 else ((zL L o).2.2.1 : Int))] 0 0 w _
        refine jWp.blk mt 1 ?_
        show jWp 35 27 [some (jO se), some (jI (o : Int)), some (jI (i : Int)), none, none, none] [jI (i : Int), jI (if o = 0 then -1 else ((zL L o).2.2.1 : Int))] 0 0 w _
        refine jWp.icmp (pc' := 30) mt rfl rfl (b32_id (by split <;> omega) (by omega)) (b32_id (by omega) (by omega)) (fun h13 => ?_) (fun h13 => ?_)
        · have h13 : (if o = 0 then -1 else ((zL L o).2.2.1 : Int)) = (i : Int) := h13
          refine jWp.blk mt 1 ?_
          show _ ∧ jWp 35 33 [some (jO se), some (jI (o : Int)), some (jI (i : Int)), none, none, none] [jO se] 0 0 w _
          refine ⟨rfl, ?_⟩
          refine jWp.getR (pc' := 36) (o := (se + 1)) mt rfl rfl (jtg hK.k0) hK.r1 ?_
          show jWp 35 36 [some (jO se), some (jI (o : Int)), some (jI (i : Int)), none, none, none] [jO (se + 1)] 0 0 w _
          refine jWp.blk mt 1 ?_
          show jWp 35 37 [some (jO se), some (jI (o : Int)), some (jI (i : Int)), none, none, none] [jI (o : Int), jO (se + 1)] 0 0 w _
          refine jWp.aald (pc' := 38) (j := o) (o := (se + (5 + 2 * o))) mt rfl rfl (jrg hK.k1 (by decide) (by decide)) (b32_id (by omega) (by omega)) (jlt hK.k1 (by omega)) (hK.q o (by omega)) ?_
          show jWp 35 38 [some (jO se), some (jI (o : Int)), some (jI (i : Int)), none, none, none] [jO (se + (5 + 2 * o))] 0 0 w _
          refine jWp.blk mt 1 ?_
          show jWp 35 39 [some (jO se), some (jI (o : Int)), some (jI (i : Int)), none, none, none] [jI (i : Int), jO (se + (5 + 2 * o))] 0 0 w _
          refine jWp.callv (as := [jO (se + (5 + 2 * o)), jI (i : Int)]) (rest := []) mt rfl rfl rfl ⟨rfl, jtg (hK.o o (by omega))⟩ ?_
          refine jCall.mono ((by have h := E_sa (w := w) (sc := se + (6 + 2 * o)) (n := n) (i := i) (hK.o o (by omega)) (hK.c o (by omega)) (hK.rc o (by omega)) (hC.2 o (by omega)).1 hn4 (by omega); rw [show w.1 (se + (6 + 2 * o)) i = (zL L o).1 (21 + i) from ((hC.2 o (by omega)).2.1.1 _ (by omega)).trans (cz_u hn4 (by omega))] at h; exact h)) (fun v9 w9 h9 => ?_)
          obtain ⟨rfl, h9⟩ := h9
          subst w9
          show jWp 35 42 [some (jO se), some (jI (o : Int)), some (jI (i : Int)), none, none, none] [jI ((zL L o).1 (21 + i))] 0 0 w _
          refine jWp.blk mt 2 ?_
          show _ ∧ jWp 35 44 [some (jO se), some (jI (o : Int)), some (jI (i : Int)), some (jI ((zL L o).1 (21 + i))), none, none] [jO se] 0 0 w _
          refine ⟨rfl, ?_⟩
          refine jWp.getR (pc' := 47) (o := (se + 1)) mt rfl rfl (jtg hK.k0) hK.r1 ?_
          show jWp 35 47 [some (jO se), some (jI (o : Int)), some (jI (i : Int)), some (jI ((zL L o).1 (21 + i))), none, none] [jO (se + 1)] 0 0 w _
          refine jWp.blk mt 1 ?_
          show jWp 35 48 [some (jO se), some (jI (o : Int)), some (jI (i : Int)), some (jI ((zL L o).1 (21 + i))), none, none] [jI (o : Int), jO (se + 1)] 0 0 w _
          refine jWp.aald (pc' := 49) (j := o) (o := (se + (5 + 2 * o))) mt rfl rfl (jrg hK.k1 (by decide) (by decide)) (b32_id (by omega) (by omega)) (jlt hK.k1 (by omega)) (hK.q o (by omega)) ?_
          show jWp 35 49 [some (jO se), some (jI (o : Int)), some (jI (i : Int)), some (jI ((zL L o).1 (21 + i))), none, none] [jO (se + (5 + 2 * o))] 0 0 w _
          refine jWp.blk mt 1 ?_
          show jWp 35 50 [some (jO se), some (jI (o : Int)), some (jI (i : Int)), some (jI ((zL L o).1 (21 + i))), none, none] [jI (i : Int), jO (se + (5 + 2 * o))] 0 0 w _
          refine jWp.callv (as := [jO (se + (5 + 2 * o)), jI (i : Int)]) (rest := []) mt rfl rfl rfl ⟨rfl, jtg (hK.o o (by omega))⟩ ?_
          refine jCall.mono ((by have h := E_su (w := w) (sc := se + (6 + 2 * o)) (n := n) (i := i) (hK.o o (by omega)) (hK.c o (by omega)) (hK.rc o (by omega)) (hC.2 o (by omega)).1 hn4 (by omega); rw [show w.1 (se + (6 + 2 * o)) (4 + i) = (zL L o).1 (25 + i) from ((hC.2 o (by omega)).2.1.1 _ (by omega)).trans (cz_d hn4 (by omega))] at h; exact h)) (fun v9 w9 h9 => ?_)
          obtain ⟨rfl, h9⟩ := h9
          subst w9
          show jWp 35 53 [some (jO se), some (jI (o : Int)), some (jI (i : Int)), some (jI ((zL L o).1 (21 + i))), none, none] [jI ((zL L o).1 (25 + i))] 0 0 w _
          refine jWp.blk mt 3 ?_
          show jWp 35 58 [some (jO se), some (jI (o : Int)), some (jI (i : Int)), some (jI ((zL L o).1 (21 + i))), some (jI ((zL L o).1 (25 + i))), some (jI 0)] [] 0 0 w _
          have lp14 : ∀ (N : Nat) (y : Nat) (hy : y ≤ i) (hA : ∀ z, z < y → ¬ ((zL L o).1 (21 + z) = (zL L o).1 (21 + i) ∧ (zL L o).1 (25 + z) = (zL L o).1 (25 + i))), i - y < N → jWp 35 58 [some (jO se), some (jI (o : Int)), some (jI (i : Int)), some (jI ((zL L o).1 (21 + i))), some (jI ((zL L o).1 (25 + i))), some (jI (y : Int))] [] 0 0 w (jvb (zni L n o i i) w) := by
            intro N
            induction N with
            | zero => intro y hy hA hm; omega
            | succ N ih15 =>
              intro y hy hA hm
              have hvy : (1 ≤ (zL L o).1 (21 + y) ∧ (zL L o).1 (21 + y) ≤ 1000000000 ∧ 1 ≤ (zL L o).1 (25 + y) ∧ (zL L o).1 (25 + y) ≤ 1000000000) := (hBL.2.2.2 o (by omega)).1.S.v y (by omega)
              refine jWp.blk mt 2 ?_
              show jWp 35 61 [some (jO se), some (jI (o : Int)), some (jI (i : Int)), some (jI ((zL L o).1 (21 + i))), some (jI ((zL L o).1 (25 + i))), some (jI (y : Int))] [jI (i : Int), jI (y : Int)] 0 0 w _
              refine jWp.icmp (pc' := 64) mt rfl rfl (b32_id (by omega) (by omega)) (b32_id (by omega) (by omega)) (fun h16 => ?_) (fun h16 => ?_)
              · have h16 : (i : Int) ≤ (y : Int) := h16
                refine jWp.blk mt 2 ?_
                show jWp 35 106 [some (jO se), some (jI (o : Int)), some (jI (i : Int)), some (jI ((zL L o).1 (21 + i))), some (jI ((zL L o).1 (25 + i))), some (jI 0)] [] 0 0 w _
                have lp17 : ∀ (N : Nat) (p : Nat) (hp : p ≤ o) (hB : ∀ z, z < p → ∀ i9, i9 < n → (zL L z).1 (21 + i9) = (zL L o).1 (21 + i) → ¬ (zL L z).1 (25 + i9) = (zL L o).1 (25 + i)), o - p < N → jWp 35 106 [some (jO se), some (jI (o : Int)), some (jI (i : Int)), some (jI ((zL L o).1 (21 + i))), some (jI ((zL L o).1 (25 + i))), some (jI (p : Int))] [] 0 0 w (jvb (zni L n o i i) w) := by
                  intro N
                  induction N with
                  | zero => intro p hp hB hm; omega
                  | succ N ih18 =>
                    intro p hp hB hm
                    refine jWp.blk mt 2 ?_
                    show jWp 35 109 [some (jO se), some (jI (o : Int)), some (jI (i : Int)), some (jI ((zL L o).1 (21 + i))), some (jI ((zL L o).1 (25 + i))), some (jI (p : Int))] [jI (o : Int), jI (p : Int)] 0 0 w _
                    refine jWp.icmp (pc' := 112) mt rfl rfl (b32_id (by omega) (by omega)) (b32_id (by omega) (by omega)) (fun h19 => ?_) (fun h19 => ?_)
                    · have h19 : (o : Int) ≤ (p : Int) := h19
                      refine jWp.blk mt 1 ?_
                      show jWp 35 137 [some (jO se), some (jI (o : Int)), some (jI (i : Int)), some (jI ((zL L o).1 (21 + i))), some (jI ((zL L o).1 (25 + i))), some (jI (p : Int))] [jI 1] 0 0 w _
                      refine jWp.iretz mt rfl ⟨rfl, rfl⟩ rfl (Or.inr rfl) ?_
                      exact Or.inl ⟨rfl, rfl, fun ⟨p9, i9, g1, g2, g3⟩ => hB p9 (by omega) i9 g2 g3.1 g3.2, fun z hz => hA z (by omega)⟩
                    · have h19 : (p : Int) < (o : Int) := h19
                      refine jWp.blk mt 1 ?_
                      show _ ∧ jWp 35 113 [some (jO se), some (jI (o : Int)), some (jI (i : Int)), some (jI ((zL L o).1 (21 + i))), some (jI ((zL L o).1 (25 + i))), some (jI (p : Int))] [jO se] 0 0 w _
                      refine ⟨rfl, ?_⟩
                      refine jWp.getR (pc' := 116) (o := (se + 1)) mt rfl rfl (jtg hK.k0) hK.r1 ?_
                      show jWp 35 116 [some (jO se), some (jI (o : Int)), some (jI (i : Int)), some (jI ((zL L o).1 (21 + i))), some (jI ((zL L o).1 (25 + i))), some (jI (p : Int))] [jO (se + 1)] 0 0 w _
                      refine jWp.blk mt 1 ?_
                      show jWp 35 118 [some (jO se), some (jI (o : Int)), some (jI (i : Int)), some (jI ((zL L o).1 (21 + i))), some (jI ((zL L o).1 (25 + i))), some (jI (p : Int))] [jI (p : Int), jO (se + 1)] 0 0 w _
                      refine jWp.aald (pc' := 119) (j := p) (o := (se + (5 + 2 * p))) mt rfl rfl (jrg hK.k1 (by decide) (by decide)) (b32_id (by omega) (by omega)) (jlt hK.k1 (by omega)) (hK.q p (by omega)) ?_
                      show jWp 35 119 [some (jO se), some (jI (o : Int)), some (jI (i : Int)), some (jI ((zL L o).1 (21 + i))), some (jI ((zL L o).1 (25 + i))), some (jI (p : Int))] [jO (se + (5 + 2 * p))] 0 0 w _
                      refine jWp.blk mt 2 ?_
                      show jWp 35 122 [some (jO se), some (jI (o : Int)), some (jI (i : Int)), some (jI ((zL L o).1 (21 + i))), some (jI ((zL L o).1 (25 + i))), some (jI (p : Int))] [jI ((zL L o).1 (25 + i)), jI ((zL L o).1 (21 + i)), jO (se + (5 + 2 * p))] 0 0 w _
                      refine jWp.callv (as := [jO (se + (5 + 2 * p)), jI ((zL L o).1 (21 + i)), jI ((zL L o).1 (25 + i))]) (rest := []) mt rfl rfl rfl ⟨rfl, jtg (hK.o p (by omega))⟩ ?_
                      refine jCall.mono (C_often (w := w) (s := se + (5 + 2 * p)) (sc := se + (6 + 2 * p)) (n := n) (q := (zL L p).1) (hK.o p (by omega)) (hK.c p (by omega)) (hK.rc p (by omega)) (hC.2 p (by omega)).1 hn4 (hBL.2.2.2 p (by omega)).1 (hC.2 p (by omega)).2.1.1 (by constructor <;> omega) (by constructor <;> omega)) (fun v9 w9 h9 => ?_)
                      obtain ⟨rfl, h9⟩ := h9
                      subst w9
                      show jWp 35 125 [some (jO se), some (jI (o : Int)), some (jI (i : Int)), some (jI ((zL L o).1 (21 + i))), some (jI ((zL L o).1 (25 + i))), some (jI (p : Int))] [jI (zcnt (fun j => (zL L p).1 (21 + j)) (fun j => (zL L p).1 (25 + j)) n ((zL L o).1 (21 + i)) ((zL L o).1 (25 + i)))] 0 0 w _
                      have := zcnt_b (fun j => (zL L p).1 (21 + j)) (fun j => (zL L p).1 (25 + j)) ((zL L o).1 (21 + i)) ((zL L o).1 (25 + i)) n
                      refine jWp.ifz (pc' := 128) mt rfl rfl (b32_id (by omega) (by omega)) (fun h20 => ?_) (fun h20 => ?_)
                      · have h20 : (zcnt (fun j => (zL L p).1 (21 + j)) (fun j => (zL L p).1 (25 + j)) n ((zL L o).1 (21 + i)) ((zL L o).1 (25 + i))) ≤ 0 := h20
                        refine jWp.blk mt 2 ?_
                        show jWp 35 106 [some (jO se), some (jI (o : Int)), some (jI (i : Int)), some (jI ((zL L o).1 (21 + i))), some (jI ((zL L o).1 (25 + i))), some (jI ((p : Int) + 1))] [] 0 0 w _
                        refine jWp.le (l := [some (jO se), some (jI (o : Int)), some (jI (i : Int)), some (jI ((zL L o).1 (21 + i))), some (jI ((zL L o).1 (25 + i))), some (jI ((p : Int) + 1))]) (by exact ⟨rfl, rfl, rfl, rfl, rfl, rfl, trivial⟩) ?_
                        exact ih18 (p + 1) (by omega) (fun z hz i9 hi9 g1 g2 => by rcases Nat.lt_or_ge z p with e | e; exact hB z e i9 hi9 g1 g2; rw [show z = p by omega] at g1 g2; exact zcnt_0 (u := fun j => (zL L p).1 (21 + j)) (v := fun j => (zL L p).1 (25 + j)) (by omega) i9 hi9 ⟨g1, g2⟩) (by omega)
                      · have h20 : 0 < (zcnt (fun j => (zL L p).1 (21 + j)) (fun j => (zL L p).1 (25 + j)) n ((zL L o).1 (21 + i)) ((zL L o).1 (25 + i))) := h20
                        refine jWp.blk mt 1 ?_
                        show jWp 35 129 [some (jO se), some (jI (o : Int)), some (jI (i : Int)), some (jI ((zL L o).1 (21 + i))), some (jI ((zL L o).1 (25 + i))), some (jI (p : Int))] [jI 0] 0 0 w _
                        refine jWp.iretz mt rfl ⟨rfl, rfl⟩ rfl (Or.inl rfl) ?_
                        first
                        | (exfalso; omega)
                        | exact Or.inr ⟨rfl, rfl, zni_s hBL (by omega) (by omega) (by omega) (by omega)⟩
                        | exact Or.inr ⟨rfl, rfl, fun g => g.2 y (by omega) ⟨by assumption, by assumption⟩⟩
                        | (refine Or.inr ⟨rfl, rfl, fun g => g.1 ?_⟩
                           obtain ⟨i9, hi9, g1, g2⟩ := zcnt_1 (u := fun j => (zL L p).1 (21 + j)) (v := fun j => (zL L p).1 (25 + j)) (n := n) (x := (zL L o).1 (21 + i)) (y := (zL L o).1 (25 + i)) (by omega)
                           exact ⟨p, i9, by omega, hi9, g1, g2⟩)
                refine jWp.le (l := [some (jO se), some (jI (o : Int)), some (jI (i : Int)), some (jI ((zL L o).1 (21 + i))), some (jI ((zL L o).1 (25 + i))), some (jI 0)]) (by exact ⟨rfl, rfl, rfl, rfl, rfl, rfl, trivial⟩) ?_
                exact lp17 _ 0 (by omega) (fun z hz => absurd hz (by omega)) (Nat.lt_succ_self _)
              · have h16 : (y : Int) < (i : Int) := h16
                refine jWp.blk mt 1 ?_
                show _ ∧ jWp 35 65 [some (jO se), some (jI (o : Int)), some (jI (i : Int)), some (jI ((zL L o).1 (21 + i))), some (jI ((zL L o).1 (25 + i))), some (jI (y : Int))] [jO se] 0 0 w _
                refine ⟨rfl, ?_⟩
                refine jWp.getR (pc' := 68) (o := (se + 1)) mt rfl rfl (jtg hK.k0) hK.r1 ?_
                show jWp 35 68 [some (jO se), some (jI (o : Int)), some (jI (i : Int)), some (jI ((zL L o).1 (21 + i))), some (jI ((zL L o).1 (25 + i))), some (jI (y : Int))] [jO (se + 1)] 0 0 w _
                refine jWp.blk mt 1 ?_
                show jWp 35 69 [some (jO se), some (jI (o : Int)), some (jI (i : Int)), some (jI ((zL L o).1 (21 + i))), some (jI ((zL L o).1 (25 + i))), some (jI (y : Int))] [jI (o : Int), jO (se + 1)] 0 0 w _
                refine jWp.aald (pc' := 70) (j := o) (o := (se + (5 + 2 * o))) mt rfl rfl (jrg hK.k1 (by decide) (by decide)) (b32_id (by omega) (by omega)) (jlt hK.k1 (by omega)) (hK.q o (by omega)) ?_
                show jWp 35 70 [some (jO se), some (jI (o : Int)), some (jI (i : Int)), some (jI ((zL L o).1 (21 + i))), some (jI ((zL L o).1 (25 + i))), some (jI (y : Int))] [jO (se + (5 + 2 * o))] 0 0 w _
                refine jWp.blk mt 1 ?_
                show jWp 35 72 [some (jO se), some (jI (o : Int)), some (jI (i : Int)), some (jI ((zL L o).1 (21 + i))), some (jI ((zL L o).1 (25 + i))), some (jI (y : Int))] [jI (y : Int), jO (se + (5 + 2 * o))] 0 0 w _
                refine jWp.callv (as := [jO (se + (5 + 2 * o)), jI (y : Int)]) (rest := []) mt rfl rfl rfl ⟨rfl, jtg (hK.o o (by omega))⟩ ?_
                refine jCall.mono ((by have h := E_sa (w := w) (sc := se + (6 + 2 * o)) (n := n) (i := y) (hK.o o (by omega)) (hK.c o (by omega)) (hK.rc o (by omega)) (hC.2 o (by omega)).1 hn4 (by omega); rw [show w.1 (se + (6 + 2 * o)) y = (zL L o).1 (21 + y) from ((hC.2 o (by omega)).2.1.1 _ (by omega)).trans (cz_u hn4 (by omega))] at h; exact h)) (fun v9 w9 h9 => ?_)
                obtain ⟨rfl, h9⟩ := h9
                subst w9
                show jWp 35 75 [some (jO se), some (jI (o : Int)), some (jI (i : Int)), some (jI ((zL L o).1 (21 + i))), some (jI ((zL L o).1 (25 + i))), some (jI (y : Int))] [jI ((zL L o).1 (21 + y))] 0 0 w _
                refine jWp.blk mt 1 ?_
                show jWp 35 76 [some (jO se), some (jI (o : Int)), some (jI (i : Int)), some (jI ((zL L o).1 (21 + i))), some (jI ((zL L o).1 (25 + i))), some (jI (y : Int))] [jI ((zL L o).1 (21 + i)), jI ((zL L o).1 (21 + y))] 0 0 w _
                refine jWp.icmp (pc' := 79) mt rfl rfl (b32_id (by omega) (by omega)) (b32_id (by omega) (by omega)) (fun h21 => ?_) (fun h21 => ?_)
                · have h21 : ((zL L o).1 (21 + y)) ≠ ((zL L o).1 (21 + i)) := h21
                  refine jWp.blk mt 2 ?_
                  show jWp 35 58 [some (jO se), some (jI (o : Int)), some (jI (i : Int)), some (jI ((zL L o).1 (21 + i))), some (jI ((zL L o).1 (25 + i))), some (jI ((y : Int) + 1))] [] 0 0 w _
                  refine jWp.le (l := [some (jO se), some (jI (o : Int)), some (jI (i : Int)), some (jI ((zL L o).1 (21 + i))), some (jI ((zL L o).1 (25 + i))), some (jI ((y : Int) + 1))]) (by exact ⟨rfl, rfl, rfl, rfl, rfl, rfl, trivial⟩) ?_
                  exact ih15 (y + 1) (by omega) (fun z hz => by rcases Nat.lt_or_ge z y with e | e; exact hA z e; rw [show z = y by omega]; intro g; first | exact absurd g.1 (by assumption) | exact absurd g.2 (by assumption)) (by omega)
                · have h21 : ((zL L o).1 (21 + y)) = ((zL L o).1 (21 + i)) := h21
                  refine jWp.blk mt 1 ?_
                  show _ ∧ jWp 35 80 [some (jO se), some (jI (o : Int)), some (jI (i : Int)), some (jI ((zL L o).1 (21 + i))), some (jI ((zL L o).1 (25 + i))), some (jI (y : Int))] [jO se] 0 0 w _
                  refine ⟨rfl, ?_⟩
                  refine jWp.getR (pc' := 83) (o := (se + 1)) mt rfl rfl (jtg hK.k0) hK.r1 ?_
                  show jWp 35 83 [some (jO se), some (jI (o : Int)), some (jI (i : Int)), some (jI ((zL L o).1 (21 + i))), some (jI ((zL L o).1 (25 + i))), some (jI (y : Int))] [jO (se + 1)] 0 0 w _
                  refine jWp.blk mt 1 ?_
                  show jWp 35 84 [some (jO se), some (jI (o : Int)), some (jI (i : Int)), some (jI ((zL L o).1 (21 + i))), some (jI ((zL L o).1 (25 + i))), some (jI (y : Int))] [jI (o : Int), jO (se + 1)] 0 0 w _
                  refine jWp.aald (pc' := 85) (j := o) (o := (se + (5 + 2 * o))) mt rfl rfl (jrg hK.k1 (by decide) (by decide)) (b32_id (by omega) (by omega)) (jlt hK.k1 (by omega)) (hK.q o (by omega)) ?_
                  show jWp 35 85 [some (jO se), some (jI (o : Int)), some (jI (i : Int)), some (jI ((zL L o).1 (21 + i))), some (jI ((zL L o).1 (25 + i))), some (jI (y : Int))] [jO (se + (5 + 2 * o))] 0 0 w _
                  refine jWp.blk mt 1 ?_
                  show jWp 35 87 [some (jO se), some (jI (o : Int)), some (jI (i : Int)), some (jI ((zL L o).1 (21 + i))), some (jI ((zL L o).1 (25 + i))), some (jI (y : Int))] [jI (y : Int), jO (se + (5 + 2 * o))] 0 0 w _
                  refine jWp.callv (as := [jO (se + (5 + 2 * o)), jI (y : Int)]) (rest := []) mt rfl rfl rfl ⟨rfl, jtg (hK.o o (by omega))⟩ ?_
                  refine jCall.mono ((by have h := E_su (w := w) (sc := se + (6 + 2 * o)) (n := n) (i := y) (hK.o o (by omega)) (hK.c o (by omega)) (hK.rc o (by omega)) (hC.2 o (by omega)).1 hn4 (by omega); rw [show w.1 (se + (6 + 2 * o)) (4 + y) = (zL L o).1 (25 + y) from ((hC.2 o (by omega)).2.1.1 _ (by omega)).trans (cz_d hn4 (by omega))] at h; exact h)) (fun v9 w9 h9 => ?_)
                  obtain ⟨rfl, h9⟩ := h9
                  subst w9
                  show jWp 35 90 [some (jO se), some (jI (o : Int)), some (jI (i : Int)), some (jI ((zL L o).1 (21 + i))), some (jI ((zL L o).1 (25 + i))), some (jI (y : Int))] [jI ((zL L o).1 (25 + y))] 0 0 w _
                  refine jWp.blk mt 1 ?_
                  show jWp 35 92 [some (jO se), some (jI (o : Int)), some (jI (i : Int)), some (jI ((zL L o).1 (21 + i))), some (jI ((zL L o).1 (25 + i))), some (jI (y : Int))] [jI ((zL L o).1 (25 + i)), jI ((zL L o).1 (25 + y))] 0 0 w _
                  refine jWp.icmp (pc' := 95) mt rfl rfl (b32_id (by omega) (by omega)) (b32_id (by omega) (by omega)) (fun h22 => ?_) (fun h22 => ?_)
                  · have h22 : ((zL L o).1 (25 + y)) ≠ ((zL L o).1 (25 + i)) := h22
                    refine jWp.blk mt 2 ?_
                    show jWp 35 58 [some (jO se), some (jI (o : Int)), some (jI (i : Int)), some (jI ((zL L o).1 (21 + i))), some (jI ((zL L o).1 (25 + i))), some (jI ((y : Int) + 1))] [] 0 0 w _
                    refine jWp.le (l := [some (jO se), some (jI (o : Int)), some (jI (i : Int)), some (jI ((zL L o).1 (21 + i))), some (jI ((zL L o).1 (25 + i))), some (jI ((y : Int) + 1))]) (by exact ⟨rfl, rfl, rfl, rfl, rfl, rfl, trivial⟩) ?_
                    exact ih15 (y + 1) (by omega) (fun z hz => by rcases Nat.lt_or_ge z y with e | e; exact hA z e; rw [show z = y by omega]; intro g; first | exact absurd g.1 (by assumption) | exact absurd g.2 (by assumption)) (by omega)
                  · have h22 : ((zL L o).1 (25 + y)) = ((zL L o).1 (25 + i)) := h22
                    refine jWp.blk mt 1 ?_
                    show jWp 35 96 [some (jO se), some (jI (o : Int)), some (jI (i : Int)), some (jI ((zL L o).1 (21 + i))), some (jI ((zL L o).1 (25 + i))), some (jI (y : Int))] [jI 0] 0 0 w _
                    refine jWp.iretz mt rfl ⟨rfl, rfl⟩ rfl (Or.inl rfl) ?_
                    first
                    | (exfalso; omega)
                    | exact Or.inr ⟨rfl, rfl, zni_s hBL (by omega) (by omega) (by omega) (by omega)⟩
                    | exact Or.inr ⟨rfl, rfl, fun g => g.2 y (by omega) ⟨by assumption, by assumption⟩⟩
                    | (refine Or.inr ⟨rfl, rfl, fun g => g.1 ?_⟩
                       obtain ⟨i9, hi9, g1, g2⟩ := zcnt_1 (u := fun j => (zL L p).1 (21 + j)) (v := fun j => (zL L p).1 (25 + j)) (n := n) (x := (zL L o).1 (21 + i)) (y := (zL L o).1 (25 + i)) (by omega)
                       exact ⟨p, i9, by omega, hi9, g1, g2⟩)
          refine jWp.le (l := [some (jO se), some (jI (o : Int)), some (jI (i : Int)), some (jI ((zL L o).1 (21 + i))), some (jI ((zL L o).1 (25 + i))), some (jI 0)]) (by exact ⟨rfl, rfl, rfl, rfl, rfl, rfl, trivial⟩) ?_
          exact lp14 _ 0 (by omega) (fun z hz => absurd hz (by omega)) (Nat.lt_succ_self _)
        · have h13 : (if o = 0 then -1 else ((zL L o).2.2.1 : Int)) ≠ (i : Int) := h13
          refine jWp.blk mt 1 ?_
          show jWp 35 31 [some (jO se), some (jI (o : Int)), some (jI (i : Int)), none, none, none] [jI 0] 0 0 w _
          refine jWp.iretz mt rfl ⟨rfl, rfl⟩ rfl (Or.inl rfl) ?_
          first
          | (exfalso; omega)
          | exact Or.inr ⟨rfl, rfl, zni_s hBL (by omega) (by omega) (by omega) (by omega)⟩
          | exact Or.inr ⟨rfl, rfl, fun g => g.2 y (by omega) ⟨by assumption, by assumption⟩⟩
          | (refine Or.inr ⟨rfl, rfl, fun g => g.1 ?_⟩
             obtain ⟨i9, hi9, g1, g2⟩ := zcnt_1 (u := fun j => (zL L p).1 (21 + j)) (v := fun j => (zL L p).1 (25 + j)) (n := n) (x := (zL L o).1 (21 + i)) (y := (zL L o).1 (25 + i)) (by omega)
             exact ⟨p, i9, by omega, hi9, g1, g2⟩)
theorem zvi_b {L : List zE} {n o : Nat} : ∀ i, 0 ≤ zvi L n o i ∧ zvi L n o i ≤ (i : Int)
  | 0 => ⟨Int.le_refl _, Int.le_refl _⟩
  | i + 1 => by
    have := zvi_b (L := L) (n := n) (o := o) i
    by_cases h : zni L n o i i
    · rw [zvi_t h]
      omega
    · rw [zvi_f h]
      omega
theorem zvo_b {L : List zE} {n : Nat} : ∀ o, 0 ≤ zvo L n o ∧ zvo L n o ≤ ((n * o : Nat) : Int)
  | 0 => ⟨Int.le_refl _, by show (0 : Int) ≤ _; omega⟩
  | o + 1 => by
    have h1 := zvo_b (L := L) (n := n) o
    have h2 := zvi_b (L := L) (n := n) (o := o) n
    have : zvo L n (o + 1) = zvo L n o + zvi L n o n := rfl
    rw [this, Nat.mul_succ]
    omega
set_option maxHeartbeats 4000000 in
set_option maxRecDepth 20000 in
theorem C_unlikeValues {w : jS} {se n : Nat} (hK : SK w.2 se) (hn4 : n ≤ 4) {g : Prop} {L : List zE} {q0 : Nat → Int} (hC : cSL w.1 se n g L) (hBL : zBL n q0 L) (hl : L.length ≤ 161) : jCall 34 [jO se] w (jvi (zvo L n L.length) w) := by
  have mt : jtb 34 = jT34 := rfl
  show jWp 34 0 [some (jO se), none, none, none] [] 0 0 w _
  refine jWp.blk mt 4 ?_
  show jWp 34 4 [some (jO se), some (jI 0), some (jI 0), none] [] 0 0 w _
  have lp1 : ∀ (N : Nat) (o : Nat) (y : Int) (ho : o ≤ L.length) (hy : y = zvo L n o) (hy0 : 0 ≤ y ∧ y ≤ 4 * (o : Int)), L.length - o < N → jWp 34 4 [some (jO se), some (jI y), some (jI (o : Int)), none] [] 0 0 w (jvi (zvo L n L.length) w) := by
    intro N
    induction N with
    | zero => intro o y ho hy hy0 hm; omega
    | succ N ih2 =>
      intro o y ho hy hy0 hm
      refine jWp.blk mt 2 ?_
      show _ ∧ jWp 34 6 [some (jO se), some (jI y), some (jI (o : Int)), none] [jO se, jI (o : Int)] 0 0 w _
      refine ⟨rfl, ?_⟩
      refine jWp.getI (pc' := 9) mt rfl rfl (jtg hK.k0) ?_
      rw [show (w.1 se 0) = (L.length : Int) from hC.1]
      show jWp 34 9 [some (jO se), some (jI y), some (jI (o : Int)), none] [jI (L.length : Int), jI (o : Int)] 0 0 w _
      refine jWp.icmp (pc' := 12) mt rfl rfl (b32_id (by omega) (by omega)) (b32_id (by omega) (by omega)) (fun h3 => ?_) (fun h3 => ?_)
      · have h3 : (L.length : Int) ≤ (o : Int) := h3
        refine jWp.blk mt 1 ?_
        show jWp 34 59 [some (jO se), some (jI y), some (jI (o : Int)), none] [jI y] 0 0 w _
        refine jWp.ireti mt rfl ⟨rfl, rfl⟩ rfl ?_
        exact ⟨by rw [hy, show o = L.length by omega], rfl⟩
      · have h3 : (o : Int) < (L.length : Int) := h3
        refine jWp.blk mt 2 ?_
        show jWp 34 16 [some (jO se), some (jI y), some (jI (o : Int)), none] [jI 161, jI (o : Int)] 0 0 w _
        refine jWp.icmp (pc' := 19) mt rfl rfl (b32_id (by omega) (by omega)) (show b32 161 = 161 by decide) (fun h4 => ?_) (fun h4 => ?_)
        · have h4 : 161 ≤ (o : Int) := h4
          refine jWp.blk mt 1 ?_
          show jWp 34 59 [some (jO se), some (jI y), some (jI (o : Int)), none] [jI y] 0 0 w _
          refine jWp.ireti mt rfl ⟨rfl, rfl⟩ rfl ?_
          exact ⟨by rw [hy, show o = L.length by omega], rfl⟩
        · have h4 : (o : Int) < 161 := h4
          refine jWp.blk mt 2 ?_
          show jWp 34 21 [some (jO se), some (jI y), some (jI (o : Int)), some (jI 0)] [] 0 0 w _
          have lp5 : ∀ (N : Nat) (i : Nat) (y : Int) (hi : i ≤ n) (hy : y = zvo L n o + zvi L n o i) (hy1 : 0 ≤ y ∧ y ≤ 4 * (o : Int) + (i : Int)), n - i < N → jWp 34 21 [some (jO se), some (jI y), some (jI (o : Int)), some (jI (i : Int))] [] 0 0 w (jvi (zvo L n L.length) w) := by
            intro N
            induction N with
            | zero => intro i y hi hy hy1 hm; omega
            | succ N ih6 =>
              intro i y hi hy hy1 hm
              refine jWp.blk mt 2 ?_
              show _ ∧ jWp 34 23 [some (jO se), some (jI y), some (jI (o : Int)), some (jI (i : Int))] [jO se, jI (i : Int)] 0 0 w _
              refine ⟨rfl, ?_⟩
              refine jWp.getR (pc' := 26) (o := (se + 1)) mt rfl rfl (jtg hK.k0) hK.r1 ?_
              show jWp 34 26 [some (jO se), some (jI y), some (jI (o : Int)), some (jI (i : Int))] [jO (se + 1), jI (i : Int)] 0 0 w _
              refine jWp.blk mt 1 ?_
              show jWp 34 27 [some (jO se), some (jI y), some (jI (o : Int)), some (jI (i : Int))] [jI (o : Int), jO (se + 1), jI (i : Int)] 0 0 w _
              refine jWp.aald (pc' := 28) (j := o) (o := (se + (5 + 2 * o))) mt rfl rfl (jrg hK.k1 (by decide) (by decide)) (b32_id (by omega) (by omega)) (jlt hK.k1 (by omega)) (hK.q o (by omega)) ?_
              show jWp 34 28 [some (jO se), some (jI y), some (jI (o : Int)), some (jI (i : Int))] [jO (se + (5 + 2 * o)), jI (i : Int)] 0 0 w _
              refine jWp.getI (pc' := 31) mt rfl rfl (jtg (hK.o o (by omega))) ?_
              rw [show (w.1 (se + (5 + 2 * o)) 0) = (n : Int) from (hC.2 o (by omega)).1]
              show jWp 34 31 [some (jO se), some (jI y), some (jI (o : Int)), some (jI (i : Int))] [jI (n : Int), jI (i : Int)] 0 0 w _
              refine jWp.icmp (pc' := 34) mt rfl rfl (b32_id (by omega) (by omega)) (b32_id (by omega) (by omega)) (fun h7 => ?_) (fun h7 => ?_)
              · have h7 : (n : Int) ≤ (i : Int) := h7
                refine jWp.blk mt 2 ?_
                show jWp 34 4 [some (jO se), some (jI y), some (jI ((o : Int) + 1)), some (jI (i : Int))] [] 0 0 w _
                refine jWp.le (l := [some (jO se), some (jI y), some (jI ((o : Int) + 1)), none]) (by exact ⟨rfl, rfl, rfl, trivial⟩) ?_
                exact ih2 (o + 1) y (by omega) (by rw [hy, show i = n by omega]; rfl) (by omega) (by omega)
              · have h7 : (i : Int) < (n : Int) := h7
                refine jWp.blk mt 3 ?_
                show _ ∧ jWp 34 37 [some (jO se), some (jI y), some (jI (o : Int)), some (jI (i : Int))] [jI (i : Int), jI (o : Int), jO se] 0 0 w _
                refine ⟨rfl, ?_⟩
                refine jWp.callv (as := [jO se, jI (o : Int), jI (i : Int)]) (rest := []) mt rfl rfl rfl ⟨rfl, jtg hK.k0⟩ ?_
                refine jCall.mono (C_isFirst (w := w) (o := o) (i := i) (L := L) hK hn4 hC hBL hl (by omega) (by omega)) (fun v9 w9 h9 => ?_)
                rcases h9 with ⟨rfl, h9, h8⟩ | ⟨rfl, h9, h8⟩ <;> subst w9
                · have h8 : zni L n o i i := h8
                  show jWp 34 40 [some (jO se), some (jI y), some (jI (o : Int)), some (jI (i : Int))] [jI 1] 0 0 w _
                  refine jWp.ifc (b := false) mt rfl (by decide) rfl ?_
                  show jWp 34 43 [some (jO se), some (jI y), some (jI (o : Int)), some (jI (i : Int))] [] 0 0 w _
                  refine jWp.blk mt 3 ?_
                  show jWp 34 21 [some (jO se), some (jI (y + 1)), some (jI (o : Int)), some (jI ((i : Int) + 1))] [] 0 0 w _
                  refine jWp.le (l := [some (jO se), some (jI (y + 1)), some (jI (o : Int)), some (jI ((i : Int) + 1))]) (by exact ⟨rfl, rfl, rfl, rfl, trivial⟩) ?_
                  exact ih6 (i + 1) _ (by omega) (by rw [zvi_t (by assumption), hy]; omega) (by omega) (by omega)
                · have h8 : ¬ (zni L n o i i) := h8
                  show jWp 34 40 [some (jO se), some (jI y), some (jI (o : Int)), some (jI (i : Int))] [jI 0] 0 0 w _
                  refine jWp.ifc (b := true) mt rfl (by decide) rfl ?_
                  show jWp 34 46 [some (jO se), some (jI y), some (jI (o : Int)), some (jI (i : Int))] [] 0 0 w _
                  refine jWp.blk mt 2 ?_
                  show jWp 34 21 [some (jO se), some (jI y), some (jI (o : Int)), some (jI ((i : Int) + 1))] [] 0 0 w _
                  refine jWp.le (l := [some (jO se), some (jI y), some (jI (o : Int)), some (jI ((i : Int) + 1))]) (by exact ⟨rfl, rfl, rfl, rfl, trivial⟩) ?_
                  exact ih6 (i + 1) _ (by omega) (by rw [zvi_f (by assumption), hy]; omega) (by omega) (by omega)
          refine jWp.le (l := [some (jO se), some (jI y), some (jI (o : Int)), some (jI 0)]) (by exact ⟨rfl, rfl, rfl, rfl, trivial⟩) ?_
          exact lp5 _ 0 y (by omega) (by rw [hy]; show _ = _ + (0 : Int); omega) (by omega) (Nat.lt_succ_self _)
  refine jWp.le (l := [some (jO se), some (jI 0), some (jI 0), none]) (by exact ⟨rfl, rfl, rfl, trivial⟩) ?_
  exact lp1 _ 0 0 (by omega) rfl (by omega) (Nat.lt_succ_self _)
theorem zgo_n {G : (Nat → Int) → Prop} {q : Nat → Int} {n : Nat} (hG : zG G) (hQ : zQ q n) (hg : G q) : -1 ≤ zgo q n n := by
  have b := hG.2.2.1 q n hQ hg
  have h4 := hQ.S.n4
  exact (zgo_g h4 (fun i c hi hc => b _ (by omega) (by omega)) n (Nat.le_refl n)).2.1
theorem zgm_1 {L : List zE} {n : Nat} (h : -1 ≤ zgo (zL L 0).1 n n ∧ zgo (zL L 0).1 n n ≤ 50000000) : zgm L n 1 = zgo (zL L 0).1 n n := by
  by_cases c : (-1 : Int) < zgo (zL L 0).1 n n
  · exact zgm_t (by show b64 (-1) < _; rw [b64_id (by omega) (by omega), b64_id (by omega) (by omega)]; exact c)
  · rw [zgm_f (by show ¬ b64 (-1) < _; rw [b64_id (by omega) (by omega), b64_id (by omega) (by omega)]; exact c)]
    show (-1 : Int) = _
    omega
theorem zgm_m {L : List zE} {n o : Nat} (h : -1 ≤ zgo (zL L o).1 n n ∧ zgo (zL L o).1 n n ≤ 50000000) (g : -1 ≤ zgm L n o ∧ zgm L n o ≤ 50000000) : zgm L n (o + 1) = jmx (b32 (zgm L n o)) (b32 (zgo (zL L o).1 n n)) := by
  rw [b32_id (by omega) (by omega), b32_id (by omega) (by omega)]
  unfold jmx
  by_cases c : zgm L n o < zgo (zL L o).1 n n
  · rw [zgm_t (by rw [b64_id (by omega) (by omega), b64_id (by omega) (by omega)]; exact c)]
    split <;> omega
  · rw [zgm_f (by rw [b64_id (by omega) (by omega), b64_id (by omega) (by omega)]; exact c)]
    split <;> omega
theorem zgm_b {G : (Nat → Int) → Prop} {L : List zE} {n : Nat} {q0 : Nat → Int} (hG : zG G) (hBL : zBL n q0 L) (hg : ∀ o, o < L.length → G (zL L o).1) : ∀ o, o ≤ L.length → -1 ≤ zgm L n o ∧ zgm L n o ≤ 50000000
  | 0, _ => ⟨Int.le_refl _, by show (-1 : Int) ≤ _; omega⟩
  | o + 1, h => by
    have ih := zgm_b hG hBL hg o (by omega)
    have h1 := zgo_n hG (hBL.2.2.2 o (by omega)).1 (hg o (by omega))
    have h4 := (hBL.2.2.2 o (by omega)).1.S.n4
    have b := hG.2.2.1 _ n (hBL.2.2.2 o (by omega)).1 (hg o (by omega))
    have h2 := (zgo_g h4 (fun i c hi hc => b _ (by omega) (by omega)) n (Nat.le_refl n)).1.2
    by_cases c : b64 (zgm L n o) < b64 (zgo (zL L o).1 n n)
    · rw [zgm_t c]
      exact ⟨h1, h2⟩
    · rw [zgm_f c]
      exact ih
theorem zcm_s {g : Prop} {G : (Nat → Int) → Prop} {N : Nat → Nat → Int} {se n : Nat} {L : List zE} {q0 : Nat → Int} {o : Nat} {y : Int} (hG : zG G) (hC : cSL N se n g L) (hBL : zBL n q0 L) (ho : o < L.length) (gg : g) (hg : ∀ o, o < L.length → G (zL L o).1) (hy : y = zgm L n o) : jmx (b32 y) (b32 (zco (N (se + (6 + 2 * o))) n n)) = zgm L n (o + 1) := by
  have e := zco_e hG (hBL.2.2.2 o ho).1 (hg o ho) gg (hC.2 o ho).2.1
  rw [hy, e.1, zgm_m ⟨zgo_n hG (hBL.2.2.2 o ho).1 (hg o ho), e.2.2⟩ (zgm_b hG hBL hg o (by omega))]
theorem zcm_0 {g : Prop} {G : (Nat → Int) → Prop} {N : Nat → Nat → Int} {se n : Nat} {L : List zE} {q0 : Nat → Int} (hG : zG G) (hC : cSL N se n g L) (hBL : zBL n q0 L) (gg : g) (hg : ∀ o, o < L.length → G (zL L o).1) : zco (N (se + (6 + 2 * 0))) n n = zgm L n 1 := by
  have ho : 0 < L.length := hBL.1
  have e := zco_e hG (hBL.2.2.2 0 ho).1 (hg 0 ho) gg (hC.2 0 ho).2.1
  rw [e.1, zgm_1 ⟨zgo_n hG (hBL.2.2.2 0 ho).1 (hg 0 ho), e.2.2⟩]
set_option maxHeartbeats 4000000 in
set_option maxRecDepth 20000 in
theorem C_seGreatest {w : jS} {se n : Nat} (hK : SK w.2 se) (hn4 : n ≤ 4) {g : Prop} {L : List zE} {q0 : Nat → Int} (hC : cSL w.1 se n g L) (hBL : zBL n q0 L) (hl : L.length ≤ 161) {G : (Nat → Int) → Prop} (hG : zG G) (hg : g → ∀ o, o < L.length → G (zL L o).1) : jCall 36 [jO se] w (fun v w1 => w1 = w ∧ ∃ y, v = some (jI y) ∧ (g → y = zgm L n L.length)) := by
  have mt : jtb 36 = jT36 := rfl
  have hn2 : 2 ≤ n := (hBL.2.2.2 0 hBL.1).1.S.n2
  have hl1 : 1 ≤ L.length := hBL.1
  show jWp 36 0 [some (jO se), none, none] [] 0 0 w _
  refine jWp.blk mt 1 ?_
  show _ ∧ jWp 36 1 [some (jO se), none, none] [jO se] 0 0 w _
  refine ⟨rfl, ?_⟩
  refine jWp.getR (pc' := 4) (o := (se + 1)) mt rfl rfl (jtg hK.k0) hK.r1 ?_
  show jWp 36 4 [some (jO se), none, none] [jO (se + 1)] 0 0 w _
  refine jWp.blk mt 1 ?_
  show jWp 36 5 [some (jO se), none, none] [jI 0, jO (se + 1)] 0 0 w _
  refine jWp.aald (pc' := 6) (j := 0) (o := (se + (5 + 2 * 0))) mt rfl rfl (jrg hK.k1 (by decide) (by decide)) (by decide) (jlt hK.k1 (by decide)) (hK.q 0 (by omega)) ?_
  show jWp 36 6 [some (jO se), none, none] [jO (se + (5 + 2 * 0))] 0 0 w _
  refine jWp.callv (as := [jO (se + (5 + 2 * 0))]) (rest := []) mt rfl rfl rfl ⟨rfl, jtg (hK.o 0 (by omega))⟩ ?_
  refine jCall.mono (C_greatest (w := w) (s := se + (5 + 2 * 0)) (sc := se + (6 + 2 * 0)) (n := n) (hK.o 0 (by omega)) (hK.c 0 (by omega)) (hK.rc 0 (by omega)) (hC.2 0 (by omega)).1 hn4 hn2) (fun v9 w9 h9 => ?_)
  obtain ⟨rfl, h9⟩ := h9
  subst w9
  show jWp 36 9 [some (jO se), none, none] [jI (zco (w.1 (se + (6 + 2 * 0))) n n)] 0 0 w _
  refine jWp.blk mt 3 ?_
  show jWp 36 12 [some (jO se), some (jI (zco (w.1 (se + (6 + 2 * 0))) n n)), some (jI 1)] [] 0 0 w _
  have lp1 : ∀ (N : Nat) (o : Nat) (y : Int) (ho : 1 ≤ o ∧ o ≤ L.length) (hy : g → y = zgm L n o), L.length - o < N → jWp 36 12 [some (jO se), some (jI y), some (jI (o : Int))] [] 0 0 w (fun v w1 => w1 = w ∧ ∃ y, v = some (jI y) ∧ (g → y = zgm L n L.length)) := by
    intro N
    induction N with
    | zero => intro o y ho hy hm; omega
    | succ N ih2 =>
      intro o y ho hy hm
      refine jWp.blk mt 2 ?_
      show _ ∧ jWp 36 14 [some (jO se), some (jI y), some (jI (o : Int))] [jO se, jI (o : Int)] 0 0 w _
      refine ⟨rfl, ?_⟩
      refine jWp.getI (pc' := 17) mt rfl rfl (jtg hK.k0) ?_
      rw [show (w.1 se 0) = (L.length : Int) from hC.1]
      show jWp 36 17 [some (jO se), some (jI y), some (jI (o : Int))] [jI (L.length : Int), jI (o : Int)] 0 0 w _
      refine jWp.icmp (pc' := 20) mt rfl rfl (b32_id (by omega) (by omega)) (b32_id (by omega) (by omega)) (fun h3 => ?_) (fun h3 => ?_)
      · have h3 : (L.length : Int) ≤ (o : Int) := h3
        refine jWp.blk mt 1 ?_
        show jWp 36 48 [some (jO se), some (jI y), some (jI (o : Int))] [jI y] 0 0 w _
        refine jWp.ireti mt rfl ⟨rfl, rfl⟩ rfl ?_
        exact ⟨rfl, y, rfl, fun gg => by rw [hy gg, show o = L.length by omega]⟩
      · have h3 : (o : Int) < (L.length : Int) := h3
        refine jWp.blk mt 2 ?_
        show jWp 36 24 [some (jO se), some (jI y), some (jI (o : Int))] [jI 161, jI (o : Int)] 0 0 w _
        refine jWp.icmp (pc' := 27) mt rfl rfl (b32_id (by omega) (by omega)) (show b32 161 = 161 by decide) (fun h4 => ?_) (fun h4 => ?_)
        · have h4 : 161 ≤ (o : Int) := h4
          refine jWp.blk mt 1 ?_
          show jWp 36 48 [some (jO se), some (jI y), some (jI (o : Int))] [jI y] 0 0 w _
          refine jWp.ireti mt rfl ⟨rfl, rfl⟩ rfl ?_
          exact ⟨rfl, y, rfl, fun gg => by rw [hy gg, show o = L.length by omega]⟩
        · have h4 : (o : Int) < 161 := h4
          refine jWp.blk mt 2 ?_
          show _ ∧ jWp 36 29 [some (jO se), some (jI y), some (jI (o : Int))] [jO se, jI y] 0 0 w _
          refine ⟨rfl, ?_⟩
          refine jWp.getR (pc' := 32) (o := (se + 1)) mt rfl rfl (jtg hK.k0) hK.r1 ?_
          show jWp 36 32 [some (jO se), some (jI y), some (jI (o : Int))] [jO (se + 1), jI y] 0 0 w _
          refine jWp.blk mt 1 ?_
          show jWp 36 33 [some (jO se), some (jI y), some (jI (o : Int))] [jI (o : Int), jO (se + 1), jI y] 0 0 w _
          refine jWp.aald (pc' := 34) (j := o) (o := (se + (5 + 2 * o))) mt rfl rfl (jrg hK.k1 (by decide) (by decide)) (b32_id (by omega) (by omega)) (jlt hK.k1 (by omega)) (hK.q o (by omega)) ?_
          show jWp 36 34 [some (jO se), some (jI y), some (jI (o : Int))] [jO (se + (5 + 2 * o)), jI y] 0 0 w _
          refine jWp.callv (as := [jO (se + (5 + 2 * o))]) (rest := [jI y]) mt rfl rfl rfl ⟨rfl, jtg (hK.o o (by omega))⟩ ?_
          refine jCall.mono (C_greatest (w := w) (s := se + (5 + 2 * o)) (sc := se + (6 + 2 * o)) (n := n) (hK.o o (by omega)) (hK.c o (by omega)) (hK.rc o (by omega)) (hC.2 o (by omega)).1 hn4 hn2) (fun v9 w9 h9 => ?_)
          obtain ⟨rfl, h9⟩ := h9
          subst w9
          show jWp 36 37 [some (jO se), some (jI y), some (jI (o : Int))] [jI (zco (w.1 (se + (6 + 2 * o))) n n), jI y] 0 0 w _
          refine jWp.maxI (pc' := 40) mt rfl rfl rfl rfl rfl ?_
          show jWp 36 40 [some (jO se), some (jI y), some (jI (o : Int))] [jI (jmx (b32 y) (b32 (zco (w.1 (se + (6 + 2 * o))) n n)))] 0 0 w _
          refine jWp.blk mt 3 ?_
          show jWp 36 12 [some (jO se), some (jI (jmx (b32 y) (b32 (zco (w.1 (se + (6 + 2 * o))) n n)))), some (jI ((o : Int) + 1))] [] 0 0 w _
          refine jWp.le (l := [some (jO se), some (jI (jmx (b32 y) (b32 (zco (w.1 (se + (6 + 2 * o))) n n)))), some (jI ((o : Int) + 1))]) (by exact ⟨rfl, rfl, rfl, trivial⟩) ?_
          exact ih2 (o + 1) _ (by omega) (fun gg => zcm_s hG hC hBL (by omega) gg (hg gg) (hy gg)) (by omega)
  refine jWp.le (l := [some (jO se), some (jI (zco (w.1 (se + (6 + 2 * 0))) n n)), some (jI 1)]) (by exact ⟨rfl, rfl, rfl, trivial⟩) ?_
  exact lp1 _ 1 _ (by omega) (fun gg => zcm_0 hG hC hBL gg (hg gg)) (Nat.lt_succ_self _)
set_option maxHeartbeats 4000000 in
set_option maxRecDepth 20000 in
theorem C_notWhole {w : jS} {se n : Nat} (hK : SK w.2 se) (hn4 : n ≤ 4) {g : Prop} {L : List zE} {q0 : Nat → Int} (hC : cSL w.1 se n g L) (hBL : zBL n q0 L) (hl : L.length ≤ 161) : jCall 37 [jO se] w (fun v w1 => w1 = w ∧ ∃ y, v = some (jI y) ∧ ((∀ x i, x < L.length → i < n → (zL L x).1 (25 + i) = 1) → y = 0)) := by
  have mt : jtb 37 = jT37 := rfl
  show jWp 37 0 [some (jO se), none, none, none] [] 0 0 w _
  refine jWp.blk mt 4 ?_
  show jWp 37 4 [some (jO se), some (jI 0), some (jI 0), none] [] 0 0 w _
  have lp1 : ∀ (N : Nat) (o : Nat) (y : Int) (ho : o ≤ L.length) (hy0 : 0 ≤ y ∧ y ≤ 4 * (o : Int)) (hy : (∀ x i, x < o → i < n → (zL L x).1 (25 + i) = 1) → y = 0), L.length - o < N → jWp 37 4 [some (jO se), some (jI y), some (jI (o : Int)), none] [] 0 0 w (fun v w1 => w1 = w ∧ ∃ y, v = some (jI y) ∧ ((∀ x i, x < L.length → i < n → (zL L x).1 (25 + i) = 1) → y = 0)) := by
    intro N
    induction N with
    | zero => intro o y ho hy0 hy hm; omega
    | succ N ih2 =>
      intro o y ho hy0 hy hm
      refine jWp.blk mt 2 ?_
      show _ ∧ jWp 37 6 [some (jO se), some (jI y), some (jI (o : Int)), none] [jO se, jI (o : Int)] 0 0 w _
      refine ⟨rfl, ?_⟩
      refine jWp.getI (pc' := 9) mt rfl rfl (jtg hK.k0) ?_
      rw [show (w.1 se 0) = (L.length : Int) from hC.1]
      show jWp 37 9 [some (jO se), some (jI y), some (jI (o : Int)), none] [jI (L.length : Int), jI (o : Int)] 0 0 w _
      refine jWp.icmp (pc' := 12) mt rfl rfl (b32_id (by omega) (by omega)) (b32_id (by omega) (by omega)) (fun h3 => ?_) (fun h3 => ?_)
      · have h3 : (L.length : Int) ≤ (o : Int) := h3
        refine jWp.blk mt 1 ?_
        show jWp 37 63 [some (jO se), some (jI y), some (jI (o : Int)), none] [jI y] 0 0 w _
        refine jWp.ireti mt rfl ⟨rfl, rfl⟩ rfl ?_
        exact ⟨rfl, y, rfl, fun g => hy (fun x z hx hz => g x z (by omega) hz)⟩
      · have h3 : (o : Int) < (L.length : Int) := h3
        refine jWp.blk mt 2 ?_
        show jWp 37 16 [some (jO se), some (jI y), some (jI (o : Int)), none] [jI 161, jI (o : Int)] 0 0 w _
        refine jWp.icmp (pc' := 19) mt rfl rfl (b32_id (by omega) (by omega)) (show b32 161 = 161 by decide) (fun h4 => ?_) (fun h4 => ?_)
        · have h4 : 161 ≤ (o : Int) := h4
          refine jWp.blk mt 1 ?_
          show jWp 37 63 [some (jO se), some (jI y), some (jI (o : Int)), none] [jI y] 0 0 w _
          refine jWp.ireti mt rfl ⟨rfl, rfl⟩ rfl ?_
          exact ⟨rfl, y, rfl, fun g => hy (fun x z hx hz => g x z (by omega) hz)⟩
        · have h4 : (o : Int) < 161 := h4
          refine jWp.blk mt 2 ?_
          show jWp 37 21 [some (jO se), some (jI y), some (jI (o : Int)), some (jI 0)] [] 0 0 w _
          have lp5 : ∀ (N : Nat) (i : Nat) (y : Int) (hi : i ≤ n) (hy1 : 0 ≤ y ∧ y ≤ 4 * (o : Int) + (i : Int)) (hy : (∀ x z, x < o + 1 → z < n → (x < o ∨ z < i) → (zL L x).1 (25 + z) = 1) → y = 0), n - i < N → jWp 37 21 [some (jO se), some (jI y), some (jI (o : Int)), some (jI (i : Int))] [] 0 0 w (fun v w1 => w1 = w ∧ ∃ y, v = some (jI y) ∧ ((∀ x i, x < L.length → i < n → (zL L x).1 (25 + i) = 1) → y = 0)) := by
            intro N
            induction N with
            | zero => intro i y hi hy1 hy hm; omega
            | succ N ih6 =>
              intro i y hi hy1 hy hm
              refine jWp.blk mt 2 ?_
              show _ ∧ jWp 37 23 [some (jO se), some (jI y), some (jI (o : Int)), some (jI (i : Int))] [jO se, jI (i : Int)] 0 0 w _
              refine ⟨rfl, ?_⟩
              refine jWp.getR (pc' := 26) (o := (se + 1)) mt rfl rfl (jtg hK.k0) hK.r1 ?_
              show jWp 37 26 [some (jO se), some (jI y), some (jI (o : Int)), some (jI (i : Int))] [jO (se + 1), jI (i : Int)] 0 0 w _
              refine jWp.blk mt 1 ?_
              show jWp 37 27 [some (jO se), some (jI y), some (jI (o : Int)), some (jI (i : Int))] [jI (o : Int), jO (se + 1), jI (i : Int)] 0 0 w _
              refine jWp.aald (pc' := 28) (j := o) (o := (se + (5 + 2 * o))) mt rfl rfl (jrg hK.k1 (by decide) (by decide)) (b32_id (by omega) (by omega)) (jlt hK.k1 (by omega)) (hK.q o (by omega)) ?_
              show jWp 37 28 [some (jO se), some (jI y), some (jI (o : Int)), some (jI (i : Int))] [jO (se + (5 + 2 * o)), jI (i : Int)] 0 0 w _
              refine jWp.getI (pc' := 31) mt rfl rfl (jtg (hK.o o (by omega))) ?_
              rw [show (w.1 (se + (5 + 2 * o)) 0) = (n : Int) from (hC.2 o (by omega)).1]
              show jWp 37 31 [some (jO se), some (jI y), some (jI (o : Int)), some (jI (i : Int))] [jI (n : Int), jI (i : Int)] 0 0 w _
              refine jWp.icmp (pc' := 34) mt rfl rfl (b32_id (by omega) (by omega)) (b32_id (by omega) (by omega)) (fun h7 => ?_) (fun h7 => ?_)
              · have h7 : (n : Int) ≤ (i : Int) := h7
                refine jWp.blk mt 2 ?_
                show jWp 37 4 [some (jO se), some (jI y), some (jI ((o : Int) + 1)), some (jI (i : Int))] [] 0 0 w _
                refine jWp.le (l := [some (jO se), some (jI y), some (jI ((o : Int) + 1)), none]) (by exact ⟨rfl, rfl, rfl, trivial⟩) ?_
                exact ih2 (o + 1) y (by omega) (by omega) (fun g => hy (fun x z hx hz _ => g x z (by omega) hz)) (by omega)
              · have h7 : (i : Int) < (n : Int) := h7
                refine jWp.blk mt 1 ?_
                show _ ∧ jWp 37 35 [some (jO se), some (jI y), some (jI (o : Int)), some (jI (i : Int))] [jO se] 0 0 w _
                refine ⟨rfl, ?_⟩
                refine jWp.getR (pc' := 38) (o := (se + 1)) mt rfl rfl (jtg hK.k0) hK.r1 ?_
                show jWp 37 38 [some (jO se), some (jI y), some (jI (o : Int)), some (jI (i : Int))] [jO (se + 1)] 0 0 w _
                refine jWp.blk mt 1 ?_
                show jWp 37 39 [some (jO se), some (jI y), some (jI (o : Int)), some (jI (i : Int))] [jI (o : Int), jO (se + 1)] 0 0 w _
                refine jWp.aald (pc' := 40) (j := o) (o := (se + (5 + 2 * o))) mt rfl rfl (jrg hK.k1 (by decide) (by decide)) (b32_id (by omega) (by omega)) (jlt hK.k1 (by omega)) (hK.q o (by omega)) ?_
                show jWp 37 40 [some (jO se), some (jI y), some (jI (o : Int)), some (jI (i : Int))] [jO (se + (5 + 2 * o))] 0 0 w _
                refine jWp.blk mt 1 ?_
                show jWp 37 41 [some (jO se), some (jI y), some (jI (o : Int)), some (jI (i : Int))] [jI (i : Int), jO (se + (5 + 2 * o))] 0 0 w _
                refine jWp.callv (as := [jO (se + (5 + 2 * o)), jI (i : Int)]) (rest := []) mt rfl rfl rfl ⟨rfl, jtg (hK.o o (by omega))⟩ ?_
                refine jCall.mono (C_isWhole (w := w) (s := se + (5 + 2 * o)) (sc := se + (6 + 2 * o)) (n := n) (q := (zL L o).1) (hK.o o (by omega)) (hK.c o (by omega)) (hK.rc o (by omega)) (hC.2 o (by omega)).1 hn4 (hBL.2.2.2 o (by omega)).1 (hC.2 o (by omega)).2.1.1 (i := i) (by omega)) (fun v9 w9 h9 => ?_)
                obtain ⟨h9, yw, rfl, hyw, hyx⟩ := h9
                subst w9
                show jWp 37 44 [some (jO se), some (jI y), some (jI (o : Int)), some (jI (i : Int))] [jI yw] 0 0 w _
                refine jWp.ifz (pc' := 47) mt rfl rfl (b32_id (by omega) (by omega)) (fun h8 => ?_) (fun h8 => ?_)
                · have h8 : yw ≠ 0 := h8
                  refine jWp.blk mt 2 ?_
                  show jWp 37 21 [some (jO se), some (jI y), some (jI (o : Int)), some (jI ((i : Int) + 1))] [] 0 0 w _
                  refine jWp.le (l := [some (jO se), some (jI y), some (jI (o : Int)), some (jI ((i : Int) + 1))]) (by exact ⟨rfl, rfl, rfl, rfl, trivial⟩) ?_
                  exact ih6 (i + 1) _ (by omega) (by omega) (fun g => by have g1 := hy (fun x z hx hz h => g x z hx hz (by omega)); have g2 := hyx (g o i (by omega) (by omega) (by omega)); omega) (by omega)
                · have h8 : yw = 0 := h8
                  refine jWp.blk mt 3 ?_
                  show jWp 37 21 [some (jO se), some (jI (y + 1)), some (jI (o : Int)), some (jI ((i : Int) + 1))] [] 0 0 w _
                  refine jWp.le (l := [some (jO se), some (jI (y + 1)), some (jI (o : Int)), some (jI ((i : Int) + 1))]) (by exact ⟨rfl, rfl, rfl, rfl, trivial⟩) ?_
                  exact ih6 (i + 1) _ (by omega) (by omega) (fun g => by have g1 := hy (fun x z hx hz h => g x z hx hz (by omega)); have g2 := hyx (g o i (by omega) (by omega) (by omega)); omega) (by omega)
          refine jWp.le (l := [some (jO se), some (jI y), some (jI (o : Int)), some (jI 0)]) (by exact ⟨rfl, rfl, rfl, rfl, trivial⟩) ?_
          exact lp5 _ 0 y (by omega) (by omega) (fun g => hy (fun x z hx hz => g x z (by omega) hz (Or.inl hx))) (Nat.lt_succ_self _)
  refine jWp.le (l := [some (jO se), some (jI 0), some (jI 0), none]) (by exact ⟨rfl, rfl, rfl, trivial⟩) ?_
  exact lp1 _ 0 0 (by omega) (by omega) (fun _ => rfl) (Nat.lt_succ_self _)
set_option maxHeartbeats 4000000 in
set_option maxRecDepth 20000 in
theorem C_firstWith {w : jS} {se n : Nat} (hK : SK w.2 se) (hn4 : n ≤ 4) {g : Prop} {L : List zE} {q0 : Nat → Int} (hC : cSL w.1 se n g L) (hBL : zBL n q0 L) (hl : L.length ≤ 161) {a b : Int} (ha : 0 ≤ a ∧ a ≤ 2147483648) (hb : 0 ≤ b ∧ b ≤ 2147483648) : jCall 38 [jO se, jJ a, jJ b] w (jvi (if zfp L n a b < 0 then -1 else zfp L n a b) w) := by
  have mt : jtb 38 = jT38 := rfl
  show jWp 38 0 [some (jO se), some (jJ a), none, some (jJ b), none, none, none, none] [] 0 0 w _
  refine jWp.blk mt 2 ?_
  show jWp 38 3 [some (jO se), some (jJ a), none, some (jJ b), none, some (jI 0), none, none] [] 0 0 w _
  have lp1 : ∀ (N : Nat) (o : Nat) (ho : o ≤ L.length) (hfp : zff (fun o => zhv (zL L o).1 n a b) (L.length - o) o = zfp L n a b), L.length - o < N → jWp 38 3 [some (jO se), some (jJ a), none, some (jJ b), none, some (jI (o : Int)), none, none] [] 0 0 w (jvi (if zfp L n a b < 0 then -1 else zfp L n a b) w) := by
    intro N
    induction N with
    | zero => intro o ho hfp hm; omega
    | succ N ih2 =>
      intro o ho hfp hm
      refine jWp.blk mt 2 ?_
      show _ ∧ jWp 38 6 [some (jO se), some (jJ a), none, some (jJ b), none, some (jI (o : Int)), none, none] [jO se, jI (o : Int)] 0 0 w _
      refine ⟨rfl, ?_⟩
      refine jWp.getI (pc' := 9) mt rfl rfl (jtg hK.k0) ?_
      rw [show (w.1 se 0) = (L.length : Int) from hC.1]
      show jWp 38 9 [some (jO se), some (jJ a), none, some (jJ b), none, some (jI (o : Int)), none, none] [jI (L.length : Int), jI (o : Int)] 0 0 w _
      refine jWp.icmp (pc' := 12) mt rfl rfl (b32_id (by omega) (by omega)) (b32_id (by omega) (by omega)) (fun h3 => ?_) (fun h3 => ?_)
      · have h3 : (L.length : Int) ≤ (o : Int) := h3
        refine jWp.blk mt 1 ?_
        show jWp 38 82 [some (jO se), some (jJ a), none, some (jJ b), none, some (jI (o : Int)), none, none] [jI (-1)] 0 0 w _
        refine jWp.ireti mt rfl ⟨rfl, rfl⟩ rfl ?_
        first
        | (refine ⟨?_, rfl⟩
           have e : zfp L n a b = (o : Int) := by
             rw [← hfp, show L.length - o = (L.length - (o + 1)) + 1 by omega]
             exact zff_t ⟨i, by omega, by first | assumption | (rw [← hm2]; assumption)⟩
           rw [e, if_neg (by omega)]; done)
        | (refine ⟨?_, rfl⟩
           have e : zfp L n a b = -9 := by
             rw [← hfp, show L.length - o = 0 by omega]
             rfl
           rw [e]
           rfl)
      · have h3 : (o : Int) < (L.length : Int) := h3
        refine jWp.blk mt 2 ?_
        show jWp 38 17 [some (jO se), some (jJ a), none, some (jJ b), none, some (jI (o : Int)), none, none] [jI 161, jI (o : Int)] 0 0 w _
        refine jWp.icmp (pc' := 20) mt rfl rfl (b32_id (by omega) (by omega)) (show b32 161 = 161 by decide) (fun h4 => ?_) (fun h4 => ?_)
        · have h4 : 161 ≤ (o : Int) := h4
          refine jWp.blk mt 1 ?_
          show jWp 38 82 [some (jO se), some (jJ a), none, some (jJ b), none, some (jI (o : Int)), none, none] [jI (-1)] 0 0 w _
          refine jWp.ireti mt rfl ⟨rfl, rfl⟩ rfl ?_
          first
          | (refine ⟨?_, rfl⟩
             have e : zfp L n a b = (o : Int) := by
               rw [← hfp, show L.length - o = (L.length - (o + 1)) + 1 by omega]
               exact zff_t ⟨i, by omega, by first | assumption | (rw [← hm2]; assumption)⟩
             rw [e, if_neg (by omega)]; done)
          | (refine ⟨?_, rfl⟩
             have e : zfp L n a b = -9 := by
               rw [← hfp, show L.length - o = 0 by omega]
               rfl
             rw [e]
             rfl)
        · have h4 : (o : Int) < 161 := h4
          refine jWp.blk mt 1 ?_
          show _ ∧ jWp 38 21 [some (jO se), some (jJ a), none, some (jJ b), none, some (jI (o : Int)), none, none] [jO se] 0 0 w _
          refine ⟨rfl, ?_⟩
          refine jWp.getR (pc' := 24) (o := (se + 1)) mt rfl rfl (jtg hK.k0) hK.r1 ?_
          show jWp 38 24 [some (jO se), some (jJ a), none, some (jJ b), none, some (jI (o : Int)), none, none] [jO (se + 1)] 0 0 w _
          refine jWp.blk mt 1 ?_
          show jWp 38 26 [some (jO se), some (jJ a), none, some (jJ b), none, some (jI (o : Int)), none, none] [jI (o : Int), jO (se + 1)] 0 0 w _
          refine jWp.aald (pc' := 27) (j := o) (o := (se + (5 + 2 * o))) mt rfl rfl (jrg hK.k1 (by decide) (by decide)) (b32_id (by omega) (by omega)) (jlt hK.k1 (by omega)) (hK.q o (by omega)) ?_
          show jWp 38 27 [some (jO se), some (jJ a), none, some (jJ b), none, some (jI (o : Int)), none, none] [jO (se + (5 + 2 * o))] 0 0 w _
          refine jWp.blk mt 3 ?_
          show _ ∧ jWp 38 32 [some (jO se), some (jJ a), none, some (jJ b), none, some (jI (o : Int)), some (jO (se + (5 + 2 * o))), some (jI 0)] [] 0 0 w _
          refine ⟨rfl, ?_⟩
          have lp5 : ∀ (N : Nat) (i : Nat) (hi : i ≤ n) (hA : ∀ x, x < i → ¬ (zL L o).1 (21 + x) * b = (zL L o).1 (25 + x) * a), n - i < N → jWp 38 32 [some (jO se), some (jJ a), none, some (jJ b), none, some (jI (o : Int)), some (jO (se + (5 + 2 * o))), some (jI (i : Int))] [] 0 0 w (jvi (if zfp L n a b < 0 then -1 else zfp L n a b) w) := by
            intro N
            induction N with
            | zero => intro i hi hA hm; omega
            | succ N ih6 =>
              intro i hi hA hm
              have hv : i < n → (1 ≤ (zL L o).1 (21 + i) ∧ (zL L o).1 (21 + i) ≤ 1000000000 ∧ 1 ≤ (zL L o).1 (25 + i) ∧ (zL L o).1 (25 + i) ≤ 1000000000) := fun h => (hBL.2.2.2 o (by omega)).1.S.v i (by omega)
              have hp1 : i < n → _ := fun h => zmulv (x := (zL L o).1 (21 + i)) (y := b) ⟨(hv h).1, (hv h).2.1⟩ hb
              have hp2 : i < n → _ := fun h => zmulv (x := (zL L o).1 (25 + i)) (y := a) ⟨(hv h).2.2.1, (hv h).2.2.2⟩ ha
              have hm2 : a * (zL L o).1 (25 + i) = (zL L o).1 (25 + i) * a := Int.mul_comm _ _
              refine jWp.blk mt 2 ?_
              show _ ∧ jWp 38 36 [some (jO se), some (jJ a), none, some (jJ b), none, some (jI (o : Int)), some (jO (se + (5 + 2 * o))), some (jI (i : Int))] [jO (se + (5 + 2 * o)), jI (i : Int)] 0 0 w _
              refine ⟨rfl, ?_⟩
              refine jWp.getI (pc' := 39) mt rfl rfl (jtg (hK.o o (by omega))) ?_
              rw [show (w.1 (se + (5 + 2 * o)) 0) = (n : Int) from (hC.2 o (by omega)).1]
              show jWp 38 39 [some (jO se), some (jJ a), none, some (jJ b), none, some (jI (o : Int)), some (jO (se + (5 + 2 * o))), some (jI (i : Int))] [jI (n : Int), jI (i : Int)] 0 0 w _
              refine jWp.icmp (pc' := 42) mt rfl rfl (b32_id (by omega) (by omega)) (b32_id (by omega) (by omega)) (fun h7 => ?_) (fun h7 => ?_)
              · have h7 : (n : Int) ≤ (i : Int) := h7
                refine jWp.blk mt 2 ?_
                show jWp 38 3 [some (jO se), some (jJ a), none, some (jJ b), none, some (jI ((o : Int) + 1)), some (jO (se + (5 + 2 * o))), some (jI (i : Int))] [] 0 0 w _
                refine jWp.le (l := [some (jO se), some (jJ a), none, some (jJ b), none, some (jI ((o : Int) + 1)), none, none]) (by exact ⟨rfl, rfl, rfl, rfl, trivial⟩) ?_
                exact ih2 (o + 1) (by omega) (by rw [← hfp, show L.length - o = (L.length - (o + 1)) + 1 by omega, zff_f (fun ⟨x, g1, g2⟩ => hA x (by omega) g2)]) (by omega)
              · have h7 : (i : Int) < (n : Int) := h7
                refine jWp.blk mt 2 ?_
                show _ ∧ jWp 38 46 [some (jO se), some (jJ a), none, some (jJ b), none, some (jI (o : Int)), some (jO (se + (5 + 2 * o))), some (jI (i : Int))] [jI (i : Int), jO (se + (5 + 2 * o))] 0 0 w _
                refine ⟨rfl, ?_⟩
                refine jWp.callv (as := [jO (se + (5 + 2 * o)), jI (i : Int)]) (rest := []) mt rfl rfl rfl ⟨rfl, jtg (hK.o o (by omega))⟩ ?_
                refine jCall.mono ((by have h := E_sa (w := w) (sc := se + (6 + 2 * o)) (n := n) (i := i) (hK.o o (by omega)) (hK.c o (by omega)) (hK.rc o (by omega)) (hC.2 o (by omega)).1 hn4 (by omega); rw [show w.1 (se + (6 + 2 * o)) i = (zL L o).1 (21 + i) from ((hC.2 o (by omega)).2.1.1 _ (by omega)).trans (cz_u hn4 (by omega))] at h; exact h)) (fun v9 w9 h9 => ?_)
                obtain ⟨rfl, h9⟩ := h9
                subst w9
                show jWp 38 49 [some (jO se), some (jJ a), none, some (jJ b), none, some (jI (o : Int)), some (jO (se + (5 + 2 * o))), some (jI (i : Int))] [jI ((zL L o).1 (21 + i))] 0 0 w _
                refine jWp.i2l (pc' := 50) mt rfl rfl (b32_id (by omega) (by omega)) ?_
                show jWp 38 50 [some (jO se), some (jJ a), none, some (jJ b), none, some (jI (o : Int)), some (jO (se + (5 + 2 * o))), some (jI (i : Int))] [jJ ((zL L o).1 (21 + i))] 0 0 w _
                refine jWp.blk mt 5 ?_
                show _ ∧ jWp 38 57 [some (jO se), some (jJ a), none, some (jJ b), none, some (jI (o : Int)), some (jO (se + (5 + 2 * o))), some (jI (i : Int))] [jI (i : Int), jO (se + (5 + 2 * o)), jJ a, jJ (((zL L o).1 (21 + i)) * b)] 0 0 w _
                refine ⟨rfl, ?_⟩
                refine jWp.callv (as := [jO (se + (5 + 2 * o)), jI (i : Int)]) (rest := [jJ a, jJ (((zL L o).1 (21 + i)) * b)]) mt rfl rfl rfl ⟨rfl, jtg (hK.o o (by omega))⟩ ?_
                refine jCall.mono ((by have h := E_su (w := w) (sc := se + (6 + 2 * o)) (n := n) (i := i) (hK.o o (by omega)) (hK.c o (by omega)) (hK.rc o (by omega)) (hC.2 o (by omega)).1 hn4 (by omega); rw [show w.1 (se + (6 + 2 * o)) (4 + i) = (zL L o).1 (25 + i) from ((hC.2 o (by omega)).2.1.1 _ (by omega)).trans (cz_d hn4 (by omega))] at h; exact h)) (fun v9 w9 h9 => ?_)
                obtain ⟨rfl, h9⟩ := h9
                subst w9
                show jWp 38 60 [some (jO se), some (jJ a), none, some (jJ b), none, some (jI (o : Int)), some (jO (se + (5 + 2 * o))), some (jI (i : Int))] [jI ((zL L o).1 (25 + i)), jJ a, jJ (((zL L o).1 (21 + i)) * b)] 0 0 w _
                refine jWp.i2l (pc' := 61) mt rfl rfl (b32_id (by omega) (by omega)) ?_
                show jWp 38 61 [some (jO se), some (jJ a), none, some (jJ b), none, some (jI (o : Int)), some (jO (se + (5 + 2 * o))), some (jI (i : Int))] [jJ ((zL L o).1 (25 + i)), jJ a, jJ (((zL L o).1 (21 + i)) * b)] 0 0 w _
                refine jWp.blk mt 1 ?_
                show jWp 38 62 [some (jO se), some (jJ a), none, some (jJ b), none, some (jI (o : Int)), some (jO (se + (5 + 2 * o))), some (jI (i : Int))] [jJ (a * ((zL L o).1 (25 + i))), jJ (((zL L o).1 (21 + i)) * b)] 0 0 w _
                refine jWp.lcmp (pc' := 66) mt rfl rfl rfl (b64_id (by omega) (by omega)) (b64_id (by omega) (by omega)) (fun h8 => ?_) (fun h8 => ?_)
                · have h8 : (((zL L o).1 (21 + i)) * b) ≠ (a * ((zL L o).1 (25 + i))) := h8
                  refine jWp.blk mt 2 ?_
                  show jWp 38 32 [some (jO se), some (jJ a), none, some (jJ b), none, some (jI (o : Int)), some (jO (se + (5 + 2 * o))), some (jI ((i : Int) + 1))] [] 0 0 w _
                  refine jWp.le (l := [some (jO se), some (jJ a), none, some (jJ b), none, some (jI (o : Int)), some (jO (se + (5 + 2 * o))), some (jI ((i : Int) + 1))]) (by exact ⟨rfl, rfl, rfl, rfl, rfl, rfl, trivial⟩) ?_
                  exact ih6 (i + 1) (by omega) (fun x hx => by rcases Nat.lt_or_ge x i with e | e; exact hA x e; rw [show x = i by omega]; first | assumption | (rw [← hm2]; assumption)) (by omega)
                · have h8 : (((zL L o).1 (21 + i)) * b) = (a * ((zL L o).1 (25 + i))) := h8
                  refine jWp.blk mt 1 ?_
                  show jWp 38 68 [some (jO se), some (jJ a), none, some (jJ b), none, some (jI (o : Int)), some (jO (se + (5 + 2 * o))), some (jI (i : Int))] [jI (o : Int)] 0 0 w _
                  refine jWp.ireti mt rfl ⟨rfl, rfl⟩ rfl ?_
                  first
                  | (refine ⟨?_, rfl⟩
                     have e : zfp L n a b = (o : Int) := by
                       rw [← hfp, show L.length - o = (L.length - (o + 1)) + 1 by omega]
                       exact zff_t ⟨i, by omega, by first | assumption | (rw [← hm2]; assumption)⟩
                     rw [e, if_neg (by omega)]; done)
                  | (refine ⟨?_, rfl⟩
                     have e : zfp L n a b = -9 := by
                       rw [← hfp, show L.length - o = 0 by omega]
                       rfl
                     rw [e]
                     rfl)
          refine jWp.le (l := [some (jO se), some (jJ a), none, some (jJ b), none, some (jI (o : Int)), some (jO (se + (5 + 2 * o))), some (jI 0)]) (by exact ⟨rfl, rfl, rfl, rfl, rfl, rfl, trivial⟩) ?_
          exact lp5 _ 0 (by omega) (fun x hx => absurd hx (by omega)) (Nat.lt_succ_self _)
  refine jWp.le (l := [some (jO se), some (jJ a), none, some (jJ b), none, some (jI 0), none, none]) (by exact ⟨rfl, rfl, rfl, rfl, trivial⟩) ?_
  exact lp1 _ 0 (by omega) rfl (Nat.lt_succ_self _)
set_option maxHeartbeats 4000000 in
set_option maxRecDepth 20000 in
theorem C_stepsTo {w : jS} {se n : Nat} (hK : SK w.2 se) (hn4 : n ≤ 4) {g : Prop} {L : List zE} {q0 : Nat → Int} (hC : cSL w.1 se n g L) (hBL : zBL n q0 L) (hl : L.length ≤ 161) {o : Nat} (ho : o < L.length) : jCall 39 [jO se, jI (o : Int)] w (jvi ((zL L o).2.2.2 : Int) w) := by
  have mt : jtb 39 = jT39 := rfl
  have hwo : (zL L o).2.2.2 ≤ o := zBL_w hBL (o + 1) o (by omega) (by omega)
  show jWp 39 0 [some (jO se), some (jI (o : Int))] [] 0 0 w _
  refine jWp.blk mt 1 ?_
  show jWp 39 1 [some (jO se), some (jI (o : Int))] [jI (o : Int)] 0 0 w _
  refine jWp.ifz (pc' := 4) mt rfl rfl (b32_id (by omega) (by omega)) (fun h1 => ?_) (fun h1 => ?_)
  · have h1 : (o : Int) < 0 := h1
    refine jWp.blk mt 1 ?_
    show jWp 39 29 [some (jO se), some (jI (o : Int))] [jI 0] 0 0 w _
    refine jWp.ireti mt rfl ⟨rfl, rfl⟩ rfl ?_
    first
    | (exfalso; omega)
    | exact ⟨rfl, rfl⟩
  · have h1 : 0 ≤ (o : Int) := h1
    refine jWp.blk mt 2 ?_
    show _ ∧ jWp 39 6 [some (jO se), some (jI (o : Int))] [jO se, jI (o : Int)] 0 0 w _
    refine ⟨rfl, ?_⟩
    refine jWp.getI (pc' := 9) mt rfl rfl (jtg hK.k0) ?_
    rw [show (w.1 se 0) = (L.length : Int) from hC.1]
    show jWp 39 9 [some (jO se), some (jI (o : Int))] [jI (L.length : Int), jI (o : Int)] 0 0 w _
    refine jWp.icmp (pc' := 12) mt rfl rfl (b32_id (by omega) (by omega)) (b32_id (by omega) (by omega)) (fun h2 => ?_) (fun h2 => ?_)
    · have h2 : (L.length : Int) ≤ (o : Int) := h2
      refine jWp.blk mt 1 ?_
      show jWp 39 29 [some (jO se), some (jI (o : Int))] [jI 0] 0 0 w _
      refine jWp.ireti mt rfl ⟨rfl, rfl⟩ rfl ?_
      first
      | (exfalso; omega)
      | exact ⟨rfl, rfl⟩
    · have h2 : (o : Int) < (L.length : Int) := h2
      refine jWp.blk mt 2 ?_
      show jWp 39 16 [some (jO se), some (jI (o : Int))] [jI 161, jI (o : Int)] 0 0 w _
      refine jWp.icmp (pc' := 19) mt rfl rfl (b32_id (by omega) (by omega)) (show b32 161 = 161 by decide) (fun h3 => ?_) (fun h3 => ?_)
      · have h3 : 161 ≤ (o : Int) := h3
        refine jWp.blk mt 1 ?_
        show jWp 39 29 [some (jO se), some (jI (o : Int))] [jI 0] 0 0 w _
        refine jWp.ireti mt rfl ⟨rfl, rfl⟩ rfl ?_
        first
        | (exfalso; omega)
        | exact ⟨rfl, rfl⟩
      · have h3 : (o : Int) < 161 := h3
        refine jWp.blk mt 1 ?_
        show _ ∧ jWp 39 20 [some (jO se), some (jI (o : Int))] [jO se] 0 0 w _
        refine ⟨rfl, ?_⟩
        refine jWp.getR (pc' := 23) (o := (se + 4)) mt rfl rfl (jtg hK.k0) hK.r4 ?_
        show jWp 39 23 [some (jO se), some (jI (o : Int))] [jO (se + 4)] 0 0 w _
        refine jWp.blk mt 1 ?_
        show jWp 39 24 [some (jO se), some (jI (o : Int))] [jI (o : Int), jO (se + 4)] 0 0 w _
        refine jWp.iald (pc' := 25) (j := o) mt rfl rfl (jird_of hK.k4) (b32_id (by omega) (by omega)) (jlt hK.k4 (by omega)) ?_
        rw [show (w.1 (se + 4) o) = ((zL L o).2.2.2 : Int) from (hC.2 o (by omega)).2.2.1]
        show jWp 39 25 [some (jO se), some (jI (o : Int))] [jI ((zL L o).2.2.2 : Int)] 0 0 w _
        refine jWp.blk mt 1 ?_
        show jWp 39 29 [some (jO se), some (jI (o : Int))] [jI ((zL L o).2.2.2 : Int)] 0 0 w _
        refine jWp.ireti mt rfl ⟨rfl, rfl⟩ rfl ?_
        first
        | (exfalso; omega)
        | exact ⟨rfl, rfl⟩
set_option maxHeartbeats 4000000 in
set_option maxRecDepth 20000 in
theorem C_letterTo {w : jS} {se n : Nat} (hK : SK w.2 se) (hn4 : n ≤ 4) {g : Prop} {L : List zE} {q0 : Nat → Int} (hC : cSL w.1 se n g L) (hBL : zBL n q0 L) (hl : L.length ≤ 161) {o i : Nat} (ho : o < L.length) (hi : i < (zL L o).2.2.2) (hw4 : ∀ x, x < L.length → (zL L x).2.2.2 ≤ 4) : jCall 40 [jO se, jI (o : Int), jI (i : Int)] w (jvi ((zL L (zan L 5 o (i : Int))).2.2.1 : Int) w) := by
  have mt : jtb 40 = jT40 := rfl
  have hwo := hw4 o ho
  show jWp 40 0 [some (jO se), some (jI (o : Int)), some (jI (i : Int)), none, none] [] 0 0 w _
  refine jWp.blk mt 4 ?_
  show jWp 40 5 [some (jO se), some (jI (o : Int)), some (jI (i : Int)), some (jI (o : Int)), some (jI 0)] [] 0 0 w _
  have lp1 : ∀ (N : Nat) (x c : Nat) (hx : x < L.length) (hc : i < (zL L x).2.2.2 ∧ (zL L x).2.2.2 + c ≤ 4) (hza : zan L (5 - c) x (i : Int) = zan L 5 o (i : Int)), 4 - c < N → jWp 40 5 [some (jO se), some (jI (o : Int)), some (jI (i : Int)), some (jI (x : Int)), some (jI (c : Int))] [] 0 0 w (jvi ((zL L (zan L 5 o (i : Int))).2.2.1 : Int) w) := by
    intro N
    induction N with
    | zero => intro x c hx hc hza hm; omega
    | succ N ih2 =>
      intro x c hx hc hza hm
      have hx1 : 1 ≤ x := by
        rcases Nat.eq_zero_or_pos x with e | e
        · have z := hc.1
          rw [e, hBL.2.2.1] at z
          omega
        · exact e
      have hxg := (hBL.2.2.2 x hx).2 hx1
      refine jWp.blk mt 2 ?_
      show jWp 40 8 [some (jO se), some (jI (o : Int)), some (jI (i : Int)), some (jI (x : Int)), some (jI (c : Int))] [jI 4, jI (c : Int)] 0 0 w _
      refine jWp.icmp (pc' := 11) mt rfl rfl (b32_id (by omega) (by omega)) (show b32 4 = 4 by decide) (fun h3 => ?_) (fun h3 => ?_)
      · have h3 : 4 ≤ (c : Int) := h3
        refine jWp.blk mt 1 ?_
        show jWp 40 40 [some (jO se), some (jI (o : Int)), some (jI (i : Int)), some (jI (x : Int)), some (jI (c : Int))] [jI (i : Int)] 0 0 w _
        refine jWp.ifz (pc' := 43) mt rfl rfl (b32_id (by omega) (by omega)) (fun h4 => ?_) (fun h4 => ?_)
        · have h4 : (i : Int) < 0 := h4
          refine jWp.blk mt 1 ?_
          show jWp 40 65 [some (jO se), some (jI (o : Int)), some (jI (i : Int)), some (jI (x : Int)), some (jI (c : Int))] [jI (-9)] 0 0 w _
          refine jWp.ireti mt rfl ⟨rfl, rfl⟩ rfl ?_
          first
          | (exfalso; omega)
          | (refine ⟨?_, rfl⟩
             rw [← hza, zan_f (by omega)]
             first
             | (rw [if_neg (by omega)]; done)
             | rfl)
        · have h4 : 0 ≤ (i : Int) := h4
          refine jWp.blk mt 2 ?_
          show _ ∧ jWp 40 45 [some (jO se), some (jI (o : Int)), some (jI (i : Int)), some (jI (x : Int)), some (jI (c : Int))] [jI (x : Int), jO se] 0 0 w _
          refine ⟨rfl, ?_⟩
          refine jWp.callv (as := [jO se, jI (x : Int)]) (rest := []) mt rfl rfl rfl ⟨rfl, jtg hK.k0⟩ ?_
          refine jCall.mono (C_stepsTo (w := w) (o := x) (L := L) hK hn4 hC hBL hl (by omega)) (fun v9 w9 h9 => ?_)
          obtain ⟨rfl, h9⟩ := h9
          subst w9
          show jWp 40 48 [some (jO se), some (jI (o : Int)), some (jI (i : Int)), some (jI (x : Int)), some (jI (c : Int))] [jI ((zL L x).2.2.2 : Int)] 0 0 w _
          refine jWp.blk mt 3 ?_
          show jWp 40 51 [some (jO se), some (jI (o : Int)), some (jI (i : Int)), some (jI (x : Int)), some (jI (c : Int))] [jI ((i : Int) + 1), jI ((zL L x).2.2.2 : Int)] 0 0 w _
          refine jWp.icmp (pc' := 54) mt rfl rfl (b32_id (by omega) (by omega)) (b32_id (by omega) (by omega)) (fun h5 => ?_) (fun h5 => ?_)
          · have h5 : ((zL L x).2.2.2 : Int) ≠ ((i : Int) + 1) := h5
            refine jWp.blk mt 1 ?_
            show jWp 40 65 [some (jO se), some (jI (o : Int)), some (jI (i : Int)), some (jI (x : Int)), some (jI (c : Int))] [jI (-9)] 0 0 w _
            refine jWp.ireti mt rfl ⟨rfl, rfl⟩ rfl ?_
            first
            | (exfalso; omega)
            | (refine ⟨?_, rfl⟩
               rw [← hza, zan_f (by omega)]
               first
               | (rw [if_neg (by omega)]; done)
               | rfl)
          · have h5 : ((zL L x).2.2.2 : Int) = ((i : Int) + 1) := h5
            refine jWp.blk mt 1 ?_
            show _ ∧ jWp 40 55 [some (jO se), some (jI (o : Int)), some (jI (i : Int)), some (jI (x : Int)), some (jI (c : Int))] [jO se] 0 0 w _
            refine ⟨rfl, ?_⟩
            refine jWp.getR (pc' := 58) (o := (se + 3)) mt rfl rfl (jtg hK.k0) hK.r3 ?_
            show jWp 40 58 [some (jO se), some (jI (o : Int)), some (jI (i : Int)), some (jI (x : Int)), some (jI (c : Int))] [jO (se + 3)] 0 0 w _
            refine jWp.blk mt 1 ?_
            show jWp 40 59 [some (jO se), some (jI (o : Int)), some (jI (i : Int)), some (jI (x : Int)), some (jI (c : Int))] [jI (x : Int), jO (se + 3)] 0 0 w _
            refine jWp.iald (pc' := 60) (j := x) mt rfl rfl (jird_of hK.k3) (b32_id (by omega) (by omega)) (jlt hK.k3 (by omega)) ?_
            rw [show (w.1 (se + 3) x) = (if x = 0 then -1 else ((zL L x).2.2.1 : Int)) from (hC.2 x (by omega)).2.2.2.1]
            show jWp 40 60 [some (jO se), some (jI (o : Int)), some (jI (i : Int)), some (jI (x : Int)), some (jI (c : Int))] [jI (if x = 0 then -1 else ((zL L x).2.2.1 : Int))] 0 0 w _
            refine jWp.blk mt 1 ?_
            show jWp 40 65 [some (jO se), some (jI (o : Int)), some (jI (i : Int)), some (jI (x : Int)), some (jI (c : Int))] [jI (if x = 0 then -1 else ((zL L x).2.2.1 : Int))] 0 0 w _
            refine jWp.ireti mt rfl ⟨rfl, rfl⟩ rfl ?_
            first
            | (exfalso; omega)
            | (refine ⟨?_, rfl⟩
               rw [← hza, zan_f (by omega)]
               first
               | (rw [if_neg (by omega)]; done)
               | rfl)
      · have h3 : (c : Int) < 4 := h3
        refine jWp.blk mt 1 ?_
        show jWp 40 12 [some (jO se), some (jI (o : Int)), some (jI (i : Int)), some (jI (x : Int)), some (jI (c : Int))] [jI (i : Int)] 0 0 w _
        refine jWp.ifz (pc' := 15) mt rfl rfl (b32_id (by omega) (by omega)) (fun h6 => ?_) (fun h6 => ?_)
        · have h6 : (i : Int) < 0 := h6
          refine jWp.blk mt 1 ?_
          show jWp 40 40 [some (jO se), some (jI (o : Int)), some (jI (i : Int)), some (jI (x : Int)), some (jI (c : Int))] [jI (i : Int)] 0 0 w _
          refine jWp.ifz (pc' := 43) mt rfl rfl (b32_id (by omega) (by omega)) (fun h7 => ?_) (fun h7 => ?_)
          · have h7 : (i : Int) < 0 := h7
            refine jWp.blk mt 1 ?_
            show jWp 40 65 [some (jO se), some (jI (o : Int)), some (jI (i : Int)), some (jI (x : Int)), some (jI (c : Int))] [jI (-9)] 0 0 w _
            refine jWp.ireti mt rfl ⟨rfl, rfl⟩ rfl ?_
            first
            | (exfalso; omega)
            | (refine ⟨?_, rfl⟩
               rw [← hza, zan_f (by omega)]
               first
               | (rw [if_neg (by omega)]; done)
               | rfl)
          · have h7 : 0 ≤ (i : Int) := h7
            refine jWp.blk mt 2 ?_
            show _ ∧ jWp 40 45 [some (jO se), some (jI (o : Int)), some (jI (i : Int)), some (jI (x : Int)), some (jI (c : Int))] [jI (x : Int), jO se] 0 0 w _
            refine ⟨rfl, ?_⟩
            refine jWp.callv (as := [jO se, jI (x : Int)]) (rest := []) mt rfl rfl rfl ⟨rfl, jtg hK.k0⟩ ?_
            refine jCall.mono (C_stepsTo (w := w) (o := x) (L := L) hK hn4 hC hBL hl (by omega)) (fun v9 w9 h9 => ?_)
            obtain ⟨rfl, h9⟩ := h9
            subst w9
            show jWp 40 48 [some (jO se), some (jI (o : Int)), some (jI (i : Int)), some (jI (x : Int)), some (jI (c : Int))] [jI ((zL L x).2.2.2 : Int)] 0 0 w _
            refine jWp.blk mt 3 ?_
            show jWp 40 51 [some (jO se), some (jI (o : Int)), some (jI (i : Int)), some (jI (x : Int)), some (jI (c : Int))] [jI ((i : Int) + 1), jI ((zL L x).2.2.2 : Int)] 0 0 w _
            refine jWp.icmp (pc' := 54) mt rfl rfl (b32_id (by omega) (by omega)) (b32_id (by omega) (by omega)) (fun h8 => ?_) (fun h8 => ?_)
            · have h8 : ((zL L x).2.2.2 : Int) ≠ ((i : Int) + 1) := h8
              refine jWp.blk mt 1 ?_
              show jWp 40 65 [some (jO se), some (jI (o : Int)), some (jI (i : Int)), some (jI (x : Int)), some (jI (c : Int))] [jI (-9)] 0 0 w _
              refine jWp.ireti mt rfl ⟨rfl, rfl⟩ rfl ?_
              first
              | (exfalso; omega)
              | (refine ⟨?_, rfl⟩
                 rw [← hza, zan_f (by omega)]
                 first
                 | (rw [if_neg (by omega)]; done)
                 | rfl)
            · have h8 : ((zL L x).2.2.2 : Int) = ((i : Int) + 1) := h8
              refine jWp.blk mt 1 ?_
              show _ ∧ jWp 40 55 [some (jO se), some (jI (o : Int)), some (jI (i : Int)), some (jI (x : Int)), some (jI (c : Int))] [jO se] 0 0 w _
              refine ⟨rfl, ?_⟩
              refine jWp.getR (pc' := 58) (o := (se + 3)) mt rfl rfl (jtg hK.k0) hK.r3 ?_
              show jWp 40 58 [some (jO se), some (jI (o : Int)), some (jI (i : Int)), some (jI (x : Int)), some (jI (c : Int))] [jO (se + 3)] 0 0 w _
              refine jWp.blk mt 1 ?_
              show jWp 40 59 [some (jO se), some (jI (o : Int)), some (jI (i : Int)), some (jI (x : Int)), some (jI (c : Int))] [jI (x : Int), jO (se + 3)] 0 0 w _
              refine jWp.iald (pc' := 60) (j := x) mt rfl rfl (jird_of hK.k3) (b32_id (by omega) (by omega)) (jlt hK.k3 (by omega)) ?_
              rw [show (w.1 (se + 3) x) = (if x = 0 then -1 else ((zL L x).2.2.1 : Int)) from (hC.2 x (by omega)).2.2.2.1]
              show jWp 40 60 [some (jO se), some (jI (o : Int)), some (jI (i : Int)), some (jI (x : Int)), some (jI (c : Int))] [jI (if x = 0 then -1 else ((zL L x).2.2.1 : Int))] 0 0 w _
              refine jWp.blk mt 1 ?_
              show jWp 40 65 [some (jO se), some (jI (o : Int)), some (jI (i : Int)), some (jI (x : Int)), some (jI (c : Int))] [jI (if x = 0 then -1 else ((zL L x).2.2.1 : Int))] 0 0 w _
              refine jWp.ireti mt rfl ⟨rfl, rfl⟩ rfl ?_
              first
              | (exfalso; omega)
              | (refine ⟨?_, rfl⟩
                 rw [← hza, zan_f (by omega)]
                 first
                 | (rw [if_neg (by omega)]; done)
                 | rfl)
        · have h6 : 0 ≤ (i : Int) := h6
          refine jWp.blk mt 2 ?_
          show _ ∧ jWp 40 17 [some (jO se), some (jI (o : Int)), some (jI (i : Int)), some (jI (x : Int)), some (jI (c : Int))] [jI (x : Int), jO se] 0 0 w _
          refine ⟨rfl, ?_⟩
          refine jWp.callv (as := [jO se, jI (x : Int)]) (rest := []) mt rfl rfl rfl ⟨rfl, jtg hK.k0⟩ ?_
          refine jCall.mono (C_stepsTo (w := w) (o := x) (L := L) hK hn4 hC hBL hl (by omega)) (fun v9 w9 h9 => ?_)
          obtain ⟨rfl, h9⟩ := h9
          subst w9
          show jWp 40 20 [some (jO se), some (jI (o : Int)), some (jI (i : Int)), some (jI (x : Int)), some (jI (c : Int))] [jI ((zL L x).2.2.2 : Int)] 0 0 w _
          refine jWp.blk mt 3 ?_
          show jWp 40 23 [some (jO se), some (jI (o : Int)), some (jI (i : Int)), some (jI (x : Int)), some (jI (c : Int))] [jI ((i : Int) + 1), jI ((zL L x).2.2.2 : Int)] 0 0 w _
          refine jWp.icmp (pc' := 26) mt rfl rfl (b32_id (by omega) (by omega)) (b32_id (by omega) (by omega)) (fun h9 => ?_) (fun h9 => ?_)
          · have h9 : ((zL L x).2.2.2 : Int) ≤ ((i : Int) + 1) := h9
            refine jWp.blk mt 1 ?_
            show jWp 40 40 [some (jO se), some (jI (o : Int)), some (jI (i : Int)), some (jI (x : Int)), some (jI (c : Int))] [jI (i : Int)] 0 0 w _
            refine jWp.ifz (pc' := 43) mt rfl rfl (b32_id (by omega) (by omega)) (fun h10 => ?_) (fun h10 => ?_)
            · have h10 : (i : Int) < 0 := h10
              refine jWp.blk mt 1 ?_
              show jWp 40 65 [some (jO se), some (jI (o : Int)), some (jI (i : Int)), some (jI (x : Int)), some (jI (c : Int))] [jI (-9)] 0 0 w _
              refine jWp.ireti mt rfl ⟨rfl, rfl⟩ rfl ?_
              first
              | (exfalso; omega)
              | (refine ⟨?_, rfl⟩
                 rw [← hza, zan_f (by omega)]
                 first
                 | (rw [if_neg (by omega)]; done)
                 | rfl)
            · have h10 : 0 ≤ (i : Int) := h10
              refine jWp.blk mt 2 ?_
              show _ ∧ jWp 40 45 [some (jO se), some (jI (o : Int)), some (jI (i : Int)), some (jI (x : Int)), some (jI (c : Int))] [jI (x : Int), jO se] 0 0 w _
              refine ⟨rfl, ?_⟩
              refine jWp.callv (as := [jO se, jI (x : Int)]) (rest := []) mt rfl rfl rfl ⟨rfl, jtg hK.k0⟩ ?_
              refine jCall.mono (C_stepsTo (w := w) (o := x) (L := L) hK hn4 hC hBL hl (by omega)) (fun v9 w9 h9 => ?_)
              obtain ⟨rfl, h9⟩ := h9
              subst w9
              show jWp 40 48 [some (jO se), some (jI (o : Int)), some (jI (i : Int)), some (jI (x : Int)), some (jI (c : Int))] [jI ((zL L x).2.2.2 : Int)] 0 0 w _
              refine jWp.blk mt 3 ?_
              show jWp 40 51 [some (jO se), some (jI (o : Int)), some (jI (i : Int)), some (jI (x : Int)), some (jI (c : Int))] [jI ((i : Int) + 1), jI ((zL L x).2.2.2 : Int)] 0 0 w _
              refine jWp.icmp (pc' := 54) mt rfl rfl (b32_id (by omega) (by omega)) (b32_id (by omega) (by omega)) (fun h11 => ?_) (fun h11 => ?_)
              · have h11 : ((zL L x).2.2.2 : Int) ≠ ((i : Int) + 1) := h11
                refine jWp.blk mt 1 ?_
                show jWp 40 65 [some (jO se), some (jI (o : Int)), some (jI (i : Int)), some (jI (x : Int)), some (jI (c : Int))] [jI (-9)] 0 0 w _
                refine jWp.ireti mt rfl ⟨rfl, rfl⟩ rfl ?_
                first
                | (exfalso; omega)
                | (refine ⟨?_, rfl⟩
                   rw [← hza, zan_f (by omega)]
                   first
                   | (rw [if_neg (by omega)]; done)
                   | rfl)
              · have h11 : ((zL L x).2.2.2 : Int) = ((i : Int) + 1) := h11
                refine jWp.blk mt 1 ?_
                show _ ∧ jWp 40 55 [some (jO se), some (jI (o : Int)), some (jI (i : Int)), some (jI (x : Int)), some (jI (c : Int))] [jO se] 0 0 w _
                refine ⟨rfl, ?_⟩
                refine jWp.getR (pc' := 58) (o := (se + 3)) mt rfl rfl (jtg hK.k0) hK.r3 ?_
                show jWp 40 58 [some (jO se), some (jI (o : Int)), some (jI (i : Int)), some (jI (x : Int)), some (jI (c : Int))] [jO (se + 3)] 0 0 w _
                refine jWp.blk mt 1 ?_
                show jWp 40 59 [some (jO se), some (jI (o : Int)), some (jI (i : Int)), some (jI (x : Int)), some (jI (c : Int))] [jI (x : Int), jO (se + 3)] 0 0 w _
                refine jWp.iald (pc' := 60) (j := x) mt rfl rfl (jird_of hK.k3) (b32_id (by omega) (by omega)) (jlt hK.k3 (by omega)) ?_
                rw [show (w.1 (se + 3) x) = (if x = 0 then -1 else ((zL L x).2.2.1 : Int)) from (hC.2 x (by omega)).2.2.2.1]
                show jWp 40 60 [some (jO se), some (jI (o : Int)), some (jI (i : Int)), some (jI (x : Int)), some (jI (c : Int))] [jI (if x = 0 then -1 else ((zL L x).2.2.1 : Int))] 0 0 w _
                refine jWp.blk mt 1 ?_
                show jWp 40 65 [some (jO se), some (jI (o : Int)), some (jI (i : Int)), some (jI (x : Int)), some (jI (c : Int))] [jI (if x = 0 then -1 else ((zL L x).2.2.1 : Int))] 0 0 w _
                refine jWp.ireti mt rfl ⟨rfl, rfl⟩ rfl ?_
                first
                | (exfalso; omega)
                | (refine ⟨?_, rfl⟩
                   rw [← hza, zan_f (by omega)]
                   first
                   | (rw [if_neg (by omega)]; done)
                   | rfl)
          · have h9 : ((i : Int) + 1) < ((zL L x).2.2.2 : Int) := h9
            refine jWp.blk mt 1 ?_
            show _ ∧ jWp 40 27 [some (jO se), some (jI (o : Int)), some (jI (i : Int)), some (jI (x : Int)), some (jI (c : Int))] [jO se] 0 0 w _
            refine ⟨rfl, ?_⟩
            refine jWp.getR (pc' := 30) (o := (se + 2)) mt rfl rfl (jtg hK.k0) hK.r2 ?_
            show jWp 40 30 [some (jO se), some (jI (o : Int)), some (jI (i : Int)), some (jI (x : Int)), some (jI (c : Int))] [jO (se + 2)] 0 0 w _
            refine jWp.blk mt 1 ?_
            show jWp 40 31 [some (jO se), some (jI (o : Int)), some (jI (i : Int)), some (jI (x : Int)), some (jI (c : Int))] [jI (x : Int), jO (se + 2)] 0 0 w _
            refine jWp.iald (pc' := 32) (j := x) mt rfl rfl (jird_of hK.k2) (b32_id (by omega) (by omega)) (jlt hK.k2 (by omega)) ?_
            rw [show (w.1 (se + 2) x) = ((zL L x).2.1 : Int) from ((hC.2 x (by omega)).2.2.2.2 (by omega))]
            show jWp 40 32 [some (jO se), some (jI (o : Int)), some (jI (i : Int)), some (jI (x : Int)), some (jI (c : Int))] [jI ((zL L x).2.1 : Int)] 0 0 w _
            refine jWp.blk mt 3 ?_
            show jWp 40 5 [some (jO se), some (jI (o : Int)), some (jI (i : Int)), some (jI ((zL L x).2.1 : Int)), some (jI ((c : Int) + 1))] [] 0 0 w _
            refine jWp.le (l := [some (jO se), some (jI (o : Int)), some (jI (i : Int)), some (jI ((zL L x).2.1 : Int)), some (jI ((c : Int) + 1))]) (by exact ⟨rfl, rfl, rfl, rfl, rfl, trivial⟩) ?_
            exact ih2 (zL L x).2.1 (c + 1) (by omega) (by omega) (by rw [← hza, show 5 - c = (5 - (c + 1)) + 1 by omega, zan_t (by omega)]) (by omega)
  refine jWp.le (l := [some (jO se), some (jI (o : Int)), some (jI (i : Int)), some (jI (o : Int)), some (jI 0)]) (by exact ⟨rfl, rfl, rfl, rfl, rfl, trivial⟩) ?_
  exact lp1 _ o 0 (by omega) (by omega) rfl (Nat.lt_succ_self _)
end
section
/-- the class: where its objects and arrays stand behind the object -/
def CW (g : (Nat → Nat × Nat) × (Nat → Nat → Option Nat) × Nat × Nat) (x : Nat) : Prop :=
  (g.1 x = (9, 0)) ∧
  (g.1 (x + 1) = (102, 4)) ∧
  (g.1 (x + 2) = (102, 4)) ∧
  (g.1 (x + 3) = (6, 0)) ∧
  (g.1 (x + 4) = (100, 44)) ∧
  (g.1 (x + 5) = (6, 0)) ∧
  (g.1 (x + 6) = (100, 44)) ∧
  (g.1 (x + 7) = (6, 0)) ∧
  (g.1 (x + 8) = (100, 44)) ∧
  (g.1 (x + 9) = (1, 0)) ∧
  (g.1 (x + 10) = (2, 0)) ∧
  (g.1 (x + 11) = (2, 0)) ∧
  (g.1 (x + 339) = (8, 0)) ∧
  (g.1 (x + 340) = (100, 72)) ∧
  (g.1 (x + 359) = (104, 3)) ∧
  (g.1 (x + 360) = (2, 0)) ∧
  (g.1 (x + 361) = (2, 0)) ∧
  (g.1 (x + 362) = (100, 6)) ∧
  (SK g (x + 12)) ∧
  (PK g (x + 341)) ∧
  (∀ i, i < 4 → g.1 (x + (363 + 6 * i)) = (4, 0)) ∧
  (∀ i, i < 4 → g.1 (x + (364 + 6 * i)) = (100, 8)) ∧
  (∀ i, i < 4 → g.1 (x + (365 + 6 * i)) = (100, 60)) ∧
  (∀ i, i < 4 → g.1 (x + (366 + 6 * i)) = (4, 0)) ∧
  (∀ i, i < 4 → g.1 (x + (367 + 6 * i)) = (100, 8)) ∧
  (∀ i, i < 4 → g.1 (x + (368 + 6 * i)) = (100, 60)) ∧
  (∀ i, i < 3 → g.1 (x + (387 + 2 * i)) = (7, 0)) ∧
  (∀ i, i < 3 → g.1 (x + (388 + 2 * i)) = (100, 40)) ∧
  (g.2.1 x 0 = some (x + 1)) ∧
  (g.2.1 x 2 = some (x + 2)) ∧
  (g.2.1 x 4 = some (x + 3)) ∧
  (g.2.1 x 5 = some (x + 5)) ∧
  (g.2.1 x 6 = some (x + 7)) ∧
  (g.2.1 x 7 = some (x + 9)) ∧
  (g.2.1 x 8 = some (x + 12)) ∧
  (g.2.1 x 9 = some (x + 339)) ∧
  (g.2.1 x 10 = some (x + 341)) ∧
  (g.2.1 x 11 = some (x + 359)) ∧
  (g.2.1 x 12 = some (x + 360)) ∧
  (g.2.1 x 13 = some (x + 361)) ∧
  (g.2.1 x 14 = some (x + 362)) ∧
  (g.2.1 (x + 3) 1 = some (x + 4)) ∧
  (g.2.1 (x + 5) 1 = some (x + 6)) ∧
  (g.2.1 (x + 7) 1 = some (x + 8)) ∧
  (g.2.1 (x + 9) 0 = some (x + 10)) ∧
  (g.2.1 (x + 9) 1 = some (x + 11)) ∧
  (g.2.1 (x + 339) 1 = some (x + 340)) ∧
  (∀ i, i < 4 → g.2.1 (x + 1) i = some (x + (363 + 6 * i))) ∧
  (∀ i, i < 4 → g.2.1 (x + (363 + 6 * i)) 5 = some (x + (364 + 6 * i))) ∧
  (∀ i, i < 4 → g.2.1 (x + (363 + 6 * i)) 6 = some (x + (365 + 6 * i))) ∧
  (∀ i, i < 4 → g.2.1 (x + 2) i = some (x + (366 + 6 * i))) ∧
  (∀ i, i < 4 → g.2.1 (x + (366 + 6 * i)) 5 = some (x + (367 + 6 * i))) ∧
  (∀ i, i < 4 → g.2.1 (x + (366 + 6 * i)) 6 = some (x + (368 + 6 * i))) ∧
  (∀ i, i < 3 → g.2.1 (x + 359) i = some (x + (387 + 2 * i))) ∧
  (∀ i, i < 3 → g.2.1 (x + (387 + 2 * i)) 1 = some (x + (388 + 2 * i)))
theorem CW.X0 {g : (Nat → Nat × Nat) × (Nat → Nat → Option Nat) × Nat × Nat} {x : Nat} (h : CW g x) : g.1 x = (9, 0) := h.1
theorem CW.X1 {g : (Nat → Nat × Nat) × (Nat → Nat → Option Nat) × Nat × Nat} {x : Nat} (h : CW g x) : g.1 (x + 1) = (102, 4) := h.2.1
theorem CW.X2 {g : (Nat → Nat × Nat) × (Nat → Nat → Option Nat) × Nat × Nat} {x : Nat} (h : CW g x) : g.1 (x + 2) = (102, 4) := h.2.2.1
theorem CW.X3 {g : (Nat → Nat × Nat) × (Nat → Nat → Option Nat) × Nat × Nat} {x : Nat} (h : CW g x) : g.1 (x + 3) = (6, 0) := h.2.2.2.1
theorem CW.X4 {g : (Nat → Nat × Nat) × (Nat → Nat → Option Nat) × Nat × Nat} {x : Nat} (h : CW g x) : g.1 (x + 4) = (100, 44) := h.2.2.2.2.1
theorem CW.X5 {g : (Nat → Nat × Nat) × (Nat → Nat → Option Nat) × Nat × Nat} {x : Nat} (h : CW g x) : g.1 (x + 5) = (6, 0) := h.2.2.2.2.2.1
theorem CW.X6 {g : (Nat → Nat × Nat) × (Nat → Nat → Option Nat) × Nat × Nat} {x : Nat} (h : CW g x) : g.1 (x + 6) = (100, 44) := h.2.2.2.2.2.2.1
theorem CW.X7 {g : (Nat → Nat × Nat) × (Nat → Nat → Option Nat) × Nat × Nat} {x : Nat} (h : CW g x) : g.1 (x + 7) = (6, 0) := h.2.2.2.2.2.2.2.1
theorem CW.X8 {g : (Nat → Nat × Nat) × (Nat → Nat → Option Nat) × Nat × Nat} {x : Nat} (h : CW g x) : g.1 (x + 8) = (100, 44) := h.2.2.2.2.2.2.2.2.1
theorem CW.X9 {g : (Nat → Nat × Nat) × (Nat → Nat → Option Nat) × Nat × Nat} {x : Nat} (h : CW g x) : g.1 (x + 9) = (1, 0) := h.2.2.2.2.2.2.2.2.2.1
theorem CW.X10 {g : (Nat → Nat × Nat) × (Nat → Nat → Option Nat) × Nat × Nat} {x : Nat} (h : CW g x) : g.1 (x + 10) = (2, 0) := h.2.2.2.2.2.2.2.2.2.2.1
theorem CW.X11 {g : (Nat → Nat × Nat) × (Nat → Nat → Option Nat) × Nat × Nat} {x : Nat} (h : CW g x) : g.1 (x + 11) = (2, 0) := h.2.2.2.2.2.2.2.2.2.2.2.1
theorem CW.X339 {g : (Nat → Nat × Nat) × (Nat → Nat → Option Nat) × Nat × Nat} {x : Nat} (h : CW g x) : g.1 (x + 339) = (8, 0) := h.2.2.2.2.2.2.2.2.2.2.2.2.1
theorem CW.X340 {g : (Nat → Nat × Nat) × (Nat → Nat → Option Nat) × Nat × Nat} {x : Nat} (h : CW g x) : g.1 (x + 340) = (100, 72) := h.2.2.2.2.2.2.2.2.2.2.2.2.2.1
theorem CW.X359 {g : (Nat → Nat × Nat) × (Nat → Nat → Option Nat) × Nat × Nat} {x : Nat} (h : CW g x) : g.1 (x + 359) = (104, 3) := h.2.2.2.2.2.2.2.2.2.2.2.2.2.2.1
theorem CW.X360 {g : (Nat → Nat × Nat) × (Nat → Nat → Option Nat) × Nat × Nat} {x : Nat} (h : CW g x) : g.1 (x + 360) = (2, 0) := h.2.2.2.2.2.2.2.2.2.2.2.2.2.2.2.1
theorem CW.X361 {g : (Nat → Nat × Nat) × (Nat → Nat → Option Nat) × Nat × Nat} {x : Nat} (h : CW g x) : g.1 (x + 361) = (2, 0) := h.2.2.2.2.2.2.2.2.2.2.2.2.2.2.2.2.1
theorem CW.X362 {g : (Nat → Nat × Nat) × (Nat → Nat → Option Nat) × Nat × Nat} {x : Nat} (h : CW g x) : g.1 (x + 362) = (100, 6) := h.2.2.2.2.2.2.2.2.2.2.2.2.2.2.2.2.2.1
theorem CW.XS {g : (Nat → Nat × Nat) × (Nat → Nat → Option Nat) × Nat × Nat} {x : Nat} (h : CW g x) : SK g (x + 12) := h.2.2.2.2.2.2.2.2.2.2.2.2.2.2.2.2.2.2.1
theorem CW.XP {g : (Nat → Nat × Nat) × (Nat → Nat → Option Nat) × Nat × Nat} {x : Nat} (h : CW g x) : PK g (x + 341) := h.2.2.2.2.2.2.2.2.2.2.2.2.2.2.2.2.2.2.2.1
theorem CW.KR {g : (Nat → Nat × Nat) × (Nat → Nat → Option Nat) × Nat × Nat} {x : Nat} (h : CW g x) : ∀ i, i < 4 → g.1 (x + (363 + 6 * i)) = (4, 0) := h.2.2.2.2.2.2.2.2.2.2.2.2.2.2.2.2.2.2.2.2.1
theorem CW.KRs {g : (Nat → Nat × Nat) × (Nat → Nat → Option Nat) × Nat × Nat} {x : Nat} (h : CW g x) : ∀ i, i < 4 → g.1 (x + (364 + 6 * i)) = (100, 8) := h.2.2.2.2.2.2.2.2.2.2.2.2.2.2.2.2.2.2.2.2.2.1
theorem CW.KRt {g : (Nat → Nat × Nat) × (Nat → Nat → Option Nat) × Nat × Nat} {x : Nat} (h : CW g x) : ∀ i, i < 4 → g.1 (x + (365 + 6 * i)) = (100, 60) := h.2.2.2.2.2.2.2.2.2.2.2.2.2.2.2.2.2.2.2.2.2.2.1
theorem CW.KI {g : (Nat → Nat × Nat) × (Nat → Nat → Option Nat) × Nat × Nat} {x : Nat} (h : CW g x) : ∀ i, i < 4 → g.1 (x + (366 + 6 * i)) = (4, 0) := h.2.2.2.2.2.2.2.2.2.2.2.2.2.2.2.2.2.2.2.2.2.2.2.1
theorem CW.KIs {g : (Nat → Nat × Nat) × (Nat → Nat → Option Nat) × Nat × Nat} {x : Nat} (h : CW g x) : ∀ i, i < 4 → g.1 (x + (367 + 6 * i)) = (100, 8) := h.2.2.2.2.2.2.2.2.2.2.2.2.2.2.2.2.2.2.2.2.2.2.2.2.1
theorem CW.KIt {g : (Nat → Nat × Nat) × (Nat → Nat → Option Nat) × Nat × Nat} {x : Nat} (h : CW g x) : ∀ i, i < 4 → g.1 (x + (368 + 6 * i)) = (100, 60) := h.2.2.2.2.2.2.2.2.2.2.2.2.2.2.2.2.2.2.2.2.2.2.2.2.2.1
theorem CW.KT {g : (Nat → Nat × Nat) × (Nat → Nat → Option Nat) × Nat × Nat} {x : Nat} (h : CW g x) : ∀ i, i < 3 → g.1 (x + (387 + 2 * i)) = (7, 0) := h.2.2.2.2.2.2.2.2.2.2.2.2.2.2.2.2.2.2.2.2.2.2.2.2.2.2.1
theorem CW.KTp {g : (Nat → Nat × Nat) × (Nat → Nat → Option Nat) × Nat × Nat} {x : Nat} (h : CW g x) : ∀ i, i < 3 → g.1 (x + (388 + 2 * i)) = (100, 40) := h.2.2.2.2.2.2.2.2.2.2.2.2.2.2.2.2.2.2.2.2.2.2.2.2.2.2.2.1
theorem CW.R0 {g : (Nat → Nat × Nat) × (Nat → Nat → Option Nat) × Nat × Nat} {x : Nat} (h : CW g x) : g.2.1 x 0 = some (x + 1) := h.2.2.2.2.2.2.2.2.2.2.2.2.2.2.2.2.2.2.2.2.2.2.2.2.2.2.2.2.1
theorem CW.R2 {g : (Nat → Nat × Nat) × (Nat → Nat → Option Nat) × Nat × Nat} {x : Nat} (h : CW g x) : g.2.1 x 2 = some (x + 2) := h.2.2.2.2.2.2.2.2.2.2.2.2.2.2.2.2.2.2.2.2.2.2.2.2.2.2.2.2.2.1
theorem CW.R4 {g : (Nat → Nat × Nat) × (Nat → Nat → Option Nat) × Nat × Nat} {x : Nat} (h : CW g x) : g.2.1 x 4 = some (x + 3) := h.2.2.2.2.2.2.2.2.2.2.2.2.2.2.2.2.2.2.2.2.2.2.2.2.2.2.2.2.2.2.1
theorem CW.R5 {g : (Nat → Nat × Nat) × (Nat → Nat → Option Nat) × Nat × Nat} {x : Nat} (h : CW g x) : g.2.1 x 5 = some (x + 5) := h.2.2.2.2.2.2.2.2.2.2.2.2.2.2.2.2.2.2.2.2.2.2.2.2.2.2.2.2.2.2.2.1
theorem CW.R6 {g : (Nat → Nat × Nat) × (Nat → Nat → Option Nat) × Nat × Nat} {x : Nat} (h : CW g x) : g.2.1 x 6 = some (x + 7) := h.2.2.2.2.2.2.2.2.2.2.2.2.2.2.2.2.2.2.2.2.2.2.2.2.2.2.2.2.2.2.2.2.1
theorem CW.R7 {g : (Nat → Nat × Nat) × (Nat → Nat → Option Nat) × Nat × Nat} {x : Nat} (h : CW g x) : g.2.1 x 7 = some (x + 9) := h.2.2.2.2.2.2.2.2.2.2.2.2.2.2.2.2.2.2.2.2.2.2.2.2.2.2.2.2.2.2.2.2.2.1
theorem CW.R8 {g : (Nat → Nat × Nat) × (Nat → Nat → Option Nat) × Nat × Nat} {x : Nat} (h : CW g x) : g.2.1 x 8 = some (x + 12) := h.2.2.2.2.2.2.2.2.2.2.2.2.2.2.2.2.2.2.2.2.2.2.2.2.2.2.2.2.2.2.2.2.2.2.1
theorem CW.R9 {g : (Nat → Nat × Nat) × (Nat → Nat → Option Nat) × Nat × Nat} {x : Nat} (h : CW g x) : g.2.1 x 9 = some (x + 339) := h.2.2.2.2.2.2.2.2.2.2.2.2.2.2.2.2.2.2.2.2.2.2.2.2.2.2.2.2.2.2.2.2.2.2.2.1
theorem CW.R10 {g : (Nat → Nat × Nat) × (Nat → Nat → Option Nat) × Nat × Nat} {x : Nat} (h : CW g x) : g.2.1 x 10 = some (x + 341) := h.2.2.2.2.2.2.2.2.2.2.2.2.2.2.2.2.2.2.2.2.2.2.2.2.2.2.2.2.2.2.2.2.2.2.2.2.1
theorem CW.R11 {g : (Nat → Nat × Nat) × (Nat → Nat → Option Nat) × Nat × Nat} {x : Nat} (h : CW g x) : g.2.1 x 11 = some (x + 359) := h.2.2.2.2.2.2.2.2.2.2.2.2.2.2.2.2.2.2.2.2.2.2.2.2.2.2.2.2.2.2.2.2.2.2.2.2.2.1
theorem CW.R12 {g : (Nat → Nat × Nat) × (Nat → Nat → Option Nat) × Nat × Nat} {x : Nat} (h : CW g x) : g.2.1 x 12 = some (x + 360) := h.2.2.2.2.2.2.2.2.2.2.2.2.2.2.2.2.2.2.2.2.2.2.2.2.2.2.2.2.2.2.2.2.2.2.2.2.2.2.1
theorem CW.R13 {g : (Nat → Nat × Nat) × (Nat → Nat → Option Nat) × Nat × Nat} {x : Nat} (h : CW g x) : g.2.1 x 13 = some (x + 361) := h.2.2.2.2.2.2.2.2.2.2.2.2.2.2.2.2.2.2.2.2.2.2.2.2.2.2.2.2.2.2.2.2.2.2.2.2.2.2.2.1
theorem CW.R14 {g : (Nat → Nat × Nat) × (Nat → Nat → Option Nat) × Nat × Nat} {x : Nat} (h : CW g x) : g.2.1 x 14 = some (x + 362) := h.2.2.2.2.2.2.2.2.2.2.2.2.2.2.2.2.2.2.2.2.2.2.2.2.2.2.2.2.2.2.2.2.2.2.2.2.2.2.2.2.1
theorem CW.Rc {g : (Nat → Nat × Nat) × (Nat → Nat → Option Nat) × Nat × Nat} {x : Nat} (h : CW g x) : g.2.1 (x + 3) 1 = some (x + 4) := h.2.2.2.2.2.2.2.2.2.2.2.2.2.2.2.2.2.2.2.2.2.2.2.2.2.2.2.2.2.2.2.2.2.2.2.2.2.2.2.2.2.1
theorem CW.Ri {g : (Nat → Nat × Nat) × (Nat → Nat → Option Nat) × Nat × Nat} {x : Nat} (h : CW g x) : g.2.1 (x + 5) 1 = some (x + 6) := h.2.2.2.2.2.2.2.2.2.2.2.2.2.2.2.2.2.2.2.2.2.2.2.2.2.2.2.2.2.2.2.2.2.2.2.2.2.2.2.2.2.2.1
theorem CW.Rt {g : (Nat → Nat × Nat) × (Nat → Nat → Option Nat) × Nat × Nat} {x : Nat} (h : CW g x) : g.2.1 (x + 7) 1 = some (x + 8) := h.2.2.2.2.2.2.2.2.2.2.2.2.2.2.2.2.2.2.2.2.2.2.2.2.2.2.2.2.2.2.2.2.2.2.2.2.2.2.2.2.2.2.2.1
theorem CW.Ru {g : (Nat → Nat × Nat) × (Nat → Nat → Option Nat) × Nat × Nat} {x : Nat} (h : CW g x) : g.2.1 (x + 9) 0 = some (x + 10) := h.2.2.2.2.2.2.2.2.2.2.2.2.2.2.2.2.2.2.2.2.2.2.2.2.2.2.2.2.2.2.2.2.2.2.2.2.2.2.2.2.2.2.2.2.1
theorem CW.Rd {g : (Nat → Nat × Nat) × (Nat → Nat → Option Nat) × Nat × Nat} {x : Nat} (h : CW g x) : g.2.1 (x + 9) 1 = some (x + 11) := h.2.2.2.2.2.2.2.2.2.2.2.2.2.2.2.2.2.2.2.2.2.2.2.2.2.2.2.2.2.2.2.2.2.2.2.2.2.2.2.2.2.2.2.2.2.1
theorem CW.Rl {g : (Nat → Nat × Nat) × (Nat → Nat → Option Nat) × Nat × Nat} {x : Nat} (h : CW g x) : g.2.1 (x + 339) 1 = some (x + 340) := h.2.2.2.2.2.2.2.2.2.2.2.2.2.2.2.2.2.2.2.2.2.2.2.2.2.2.2.2.2.2.2.2.2.2.2.2.2.2.2.2.2.2.2.2.2.2.1
theorem CW.RR {g : (Nat → Nat × Nat) × (Nat → Nat → Option Nat) × Nat × Nat} {x : Nat} (h : CW g x) : ∀ i, i < 4 → g.2.1 (x + 1) i = some (x + (363 + 6 * i)) := h.2.2.2.2.2.2.2.2.2.2.2.2.2.2.2.2.2.2.2.2.2.2.2.2.2.2.2.2.2.2.2.2.2.2.2.2.2.2.2.2.2.2.2.2.2.2.2.1
theorem CW.RRs {g : (Nat → Nat × Nat) × (Nat → Nat → Option Nat) × Nat × Nat} {x : Nat} (h : CW g x) : ∀ i, i < 4 → g.2.1 (x + (363 + 6 * i)) 5 = some (x + (364 + 6 * i)) := h.2.2.2.2.2.2.2.2.2.2.2.2.2.2.2.2.2.2.2.2.2.2.2.2.2.2.2.2.2.2.2.2.2.2.2.2.2.2.2.2.2.2.2.2.2.2.2.2.1
theorem CW.RRt {g : (Nat → Nat × Nat) × (Nat → Nat → Option Nat) × Nat × Nat} {x : Nat} (h : CW g x) : ∀ i, i < 4 → g.2.1 (x + (363 + 6 * i)) 6 = some (x + (365 + 6 * i)) := h.2.2.2.2.2.2.2.2.2.2.2.2.2.2.2.2.2.2.2.2.2.2.2.2.2.2.2.2.2.2.2.2.2.2.2.2.2.2.2.2.2.2.2.2.2.2.2.2.2.1
theorem CW.RI {g : (Nat → Nat × Nat) × (Nat → Nat → Option Nat) × Nat × Nat} {x : Nat} (h : CW g x) : ∀ i, i < 4 → g.2.1 (x + 2) i = some (x + (366 + 6 * i)) := h.2.2.2.2.2.2.2.2.2.2.2.2.2.2.2.2.2.2.2.2.2.2.2.2.2.2.2.2.2.2.2.2.2.2.2.2.2.2.2.2.2.2.2.2.2.2.2.2.2.2.1
theorem CW.RIs {g : (Nat → Nat × Nat) × (Nat → Nat → Option Nat) × Nat × Nat} {x : Nat} (h : CW g x) : ∀ i, i < 4 → g.2.1 (x + (366 + 6 * i)) 5 = some (x + (367 + 6 * i)) := h.2.2.2.2.2.2.2.2.2.2.2.2.2.2.2.2.2.2.2.2.2.2.2.2.2.2.2.2.2.2.2.2.2.2.2.2.2.2.2.2.2.2.2.2.2.2.2.2.2.2.2.1
theorem CW.RIt {g : (Nat → Nat × Nat) × (Nat → Nat → Option Nat) × Nat × Nat} {x : Nat} (h : CW g x) : ∀ i, i < 4 → g.2.1 (x + (366 + 6 * i)) 6 = some (x + (368 + 6 * i)) := h.2.2.2.2.2.2.2.2.2.2.2.2.2.2.2.2.2.2.2.2.2.2.2.2.2.2.2.2.2.2.2.2.2.2.2.2.2.2.2.2.2.2.2.2.2.2.2.2.2.2.2.2.1
theorem CW.RT {g : (Nat → Nat × Nat) × (Nat → Nat → Option Nat) × Nat × Nat} {x : Nat} (h : CW g x) : ∀ i, i < 3 → g.2.1 (x + 359) i = some (x + (387 + 2 * i)) := h.2.2.2.2.2.2.2.2.2.2.2.2.2.2.2.2.2.2.2.2.2.2.2.2.2.2.2.2.2.2.2.2.2.2.2.2.2.2.2.2.2.2.2.2.2.2.2.2.2.2.2.2.2.1
theorem CW.RTp {g : (Nat → Nat × Nat) × (Nat → Nat → Option Nat) × Nat × Nat} {x : Nat} (h : CW g x) : ∀ i, i < 3 → g.2.1 (x + (387 + 2 * i)) 1 = some (x + (388 + 2 * i)) := h.2.2.2.2.2.2.2.2.2.2.2.2.2.2.2.2.2.2.2.2.2.2.2.2.2.2.2.2.2.2.2.2.2.2.2.2.2.2.2.2.2.2.2.2.2.2.2.2.2.2.2.2.2.2
/-- a refusal of the class: what it answers, and what it counts -/
def cno (w : jS) (x j : Nat) (y : jV) (v : Option jV) (w1 : jS) : Prop := v = some y ∧ w1 = jW w (x + 362) j (w.1 (x + 362) j + 1)
set_option maxHeartbeats 4000000 in
set_option maxRecDepth 20000 in
theorem C_refuse {w : jS} {x : Nat} (hX : CW w.2 x) {y : Int} {j : Nat} (hj : j < 6) (hy : y = -1 - (j : Int)) : jCall 130 [jO x, jI y] w (fun v w1 => v = some (jI y) ∧ w1 = jW w (x + 362) j (w.1 (x + 362) j + 1)) := by
  have mt : jtb 130 = jT130 := rfl
  show jWp 130 0 [some (jO x), some (jI y), none] [] 0 0 w _
  refine jWp.blk mt 5 ?_
  show jWp 130 5 [some (jO x), some (jI y), some (jI ((-1) - y))] [jI ((-1) - y)] 0 0 w _
  refine jWp.ifz (pc' := 8) mt rfl rfl (b32_id (by omega) (by omega)) (fun h1 => ?_) (fun h1 => ?_)
  · have h1 : ((-1) - y) < 0 := h1
    refine jWp.blk mt 1 ?_
    show jWp 130 28 [some (jO x), some (jI y), some (jI ((-1) - y))] [jI y] 0 0 w _
    refine jWp.ireti mt rfl ⟨rfl, rfl⟩ rfl ?_
    first
    | (exfalso; omega)
    | exact ⟨rfl, rfl⟩
  · have h1 : 0 ≤ ((-1) - y) := h1
    refine jWp.blk mt 2 ?_
    show _ ∧ jWp 130 10 [some (jO x), some (jI y), some (jI ((-1) - y))] [jO x, jI ((-1) - y)] 0 0 w _
    refine ⟨rfl, ?_⟩
    refine jWp.getR (pc' := 13) (o := (x + 362)) mt rfl rfl (jtg hX.X0) hX.R14 ?_
    show jWp 130 13 [some (jO x), some (jI y), some (jI ((-1) - y))] [jO (x + 362), jI ((-1) - y)] 0 0 w _
    refine jWp.alen (pc' := 14) (n := 6) mt rfl rfl (jird_of hX.X362) (by rw [hX.X362]) ?_
    show jWp 130 14 [some (jO x), some (jI y), some (jI ((-1) - y))] [jI 6, jI ((-1) - y)] 0 0 w _
    refine jWp.icmp (pc' := 17) mt rfl rfl (b32_id (by omega) (by omega)) (show b32 6 = 6 by decide) (fun h2 => ?_) (fun h2 => ?_)
    · have h2 : 6 ≤ ((-1) - y) := h2
      refine jWp.blk mt 1 ?_
      show jWp 130 28 [some (jO x), some (jI y), some (jI ((-1) - y))] [jI y] 0 0 w _
      refine jWp.ireti mt rfl ⟨rfl, rfl⟩ rfl ?_
      first
      | (exfalso; omega)
      | exact ⟨rfl, rfl⟩
    · have h2 : ((-1) - y) < 6 := h2
      refine jWp.blk mt 1 ?_
      show _ ∧ jWp 130 18 [some (jO x), some (jI y), some (jI ((-1) - y))] [jO x] 0 0 w _
      refine ⟨rfl, ?_⟩
      refine jWp.getR (pc' := 21) (o := (x + 362)) mt rfl rfl (jtg hX.X0) hX.R14 ?_
      show jWp 130 21 [some (jO x), some (jI y), some (jI ((-1) - y))] [jO (x + 362)] 0 0 w _
      refine jWp.blk mt 2 ?_
      show _ ∧ jWp 130 23 [some (jO x), some (jI y), some (jI ((-1) - y))] [jI ((-1) - y), jO (x + 362), jI ((-1) - y), jO (x + 362)] 0 0 w _
      refine ⟨rfl, ?_⟩
      refine jWp.iald (pc' := 24) (j := j) mt rfl rfl (jird_of hX.X362) (by rw [b32_id (by omega) (by omega)]; omega) (jlt hX.X362 (by omega)) ?_
      show jWp 130 24 [some (jO x), some (jI y), some (jI ((-1) - y))] [jI (w.1 (x + 362) j), jI ((-1) - y), jO (x + 362)] 0 0 w _
      refine jWp.blk mt 2 ?_
      show jWp 130 26 [some (jO x), some (jI y), some (jI ((-1) - y))] [jI ((w.1 (x + 362) j) + 1), jI ((-1) - y), jO (x + 362)] 0 0 w _
      refine jWp.iast (pc' := 27) (j := j) mt rfl rfl (jtg hX.X362) (by rw [b32_id (by omega) (by omega)]; omega) (jlt hX.X362 (by omega)) ?_
      show jWp 130 27 [some (jO x), some (jI y), some (jI ((-1) - y))] [] 0 0 (jW w (x + 362) j ((w.1 (x + 362) j) + 1)) _
      refine jWp.blk mt 1 ?_
      show jWp 130 28 [some (jO x), some (jI y), some (jI ((-1) - y))] [jI y] 0 0 (jW w (x + 362) j ((w.1 (x + 362) j) + 1)) _
      refine jWp.ireti mt rfl ⟨rfl, rfl⟩ rfl ?_
      first
      | (exfalso; omega)
      | exact ⟨rfl, rfl⟩
set_option maxHeartbeats 4000000 in
set_option maxRecDepth 20000 in
theorem C_refuse2 {w : jS} {x : Nat} (hX : CW w.2 x) {y : Int} (hj : -14 ≤ y ∧ y ≤ -7) : jCall 130 [jO x, jI y] w (jvi y w) := by
  have mt : jtb 130 = jT130 := rfl
  show jWp 130 0 [some (jO x), some (jI y), none] [] 0 0 w _
  refine jWp.blk mt 5 ?_
  show jWp 130 5 [some (jO x), some (jI y), some (jI ((-1) - y))] [jI ((-1) - y)] 0 0 w _
  refine jWp.ifz (pc' := 8) mt rfl rfl (b32_id (by omega) (by omega)) (fun h1 => ?_) (fun h1 => ?_)
  · have h1 : ((-1) - y) < 0 := h1
    refine jWp.blk mt 1 ?_
    show jWp 130 28 [some (jO x), some (jI y), some (jI ((-1) - y))] [jI y] 0 0 w _
    refine jWp.ireti mt rfl ⟨rfl, rfl⟩ rfl ?_
    first
    | (exfalso; omega)
    | exact ⟨rfl, rfl⟩
  · have h1 : 0 ≤ ((-1) - y) := h1
    refine jWp.blk mt 2 ?_
    show _ ∧ jWp 130 10 [some (jO x), some (jI y), some (jI ((-1) - y))] [jO x, jI ((-1) - y)] 0 0 w _
    refine ⟨rfl, ?_⟩
    refine jWp.getR (pc' := 13) (o := (x + 362)) mt rfl rfl (jtg hX.X0) hX.R14 ?_
    show jWp 130 13 [some (jO x), some (jI y), some (jI ((-1) - y))] [jO (x + 362), jI ((-1) - y)] 0 0 w _
    refine jWp.alen (pc' := 14) (n := 6) mt rfl rfl (jird_of hX.X362) (by rw [hX.X362]) ?_
    show jWp 130 14 [some (jO x), some (jI y), some (jI ((-1) - y))] [jI 6, jI ((-1) - y)] 0 0 w _
    refine jWp.icmp (pc' := 17) mt rfl rfl (b32_id (by omega) (by omega)) (show b32 6 = 6 by decide) (fun h2 => ?_) (fun h2 => ?_)
    · have h2 : 6 ≤ ((-1) - y) := h2
      refine jWp.blk mt 1 ?_
      show jWp 130 28 [some (jO x), some (jI y), some (jI ((-1) - y))] [jI y] 0 0 w _
      refine jWp.ireti mt rfl ⟨rfl, rfl⟩ rfl ?_
      first
      | (exfalso; omega)
      | exact ⟨rfl, rfl⟩
    · have h2 : ((-1) - y) < 6 := h2
      exfalso; omega
set_option maxHeartbeats 4000000 in
set_option maxRecDepth 20000 in
theorem C_far {w : jS} {x : Nat} (hX : CW w.2 x) {y : Int} {j : Nat} (hj : j < 6) (hy : y = -1 - (j : Int)) : jCall 131 [jO x, jI y] w (fun v w1 => v = some (jI (1000000000 - y)) ∧ w1 = jW w (x + 362) j (w.1 (x + 362) j + 1)) := by
  have mt : jtb 131 = jT131 := rfl
  show jWp 131 0 [some (jO x), some (jI y)] [] 0 0 w _
  refine jWp.blk mt 3 ?_
  show _ ∧ jWp 131 5 [some (jO x), some (jI y)] [jI y, jO x, jI 1000000000] 0 0 w _
  refine ⟨rfl, ?_⟩
  refine jWp.callv (as := [jO x, jI y]) (rest := [jI 1000000000]) mt rfl rfl rfl ⟨rfl, jtg hX.X0⟩ ?_
  refine jCall.mono (C_refuse hX hj hy) (fun v9 w9 h9 => ?_)
  obtain ⟨rfl, h9⟩ := h9
  subst h9
  show jWp 131 8 [some (jO x), some (jI y)] [jI y, jI 1000000000] 0 0 (jW w (x + 362) j (w.1 (x + 362) j + 1)) _
  refine jWp.blk mt 1 ?_
  show jWp 131 9 [some (jO x), some (jI y)] [jI (1000000000 - y)] 0 0 (jW w (x + 362) j (w.1 (x + 362) j + 1)) _
  refine jWp.ireti mt rfl ⟨rfl, rfl⟩ rfl ?_
  exact ⟨rfl, rfl⟩
set_option maxHeartbeats 4000000 in
set_option maxRecDepth 20000 in
theorem C_far2 {w : jS} {x : Nat} (hX : CW w.2 x) {y : Int} (hj : -14 ≤ y ∧ y ≤ -7) : jCall 131 [jO x, jI y] w (jvi (1000000000 - y) w) := by
  have mt : jtb 131 = jT131 := rfl
  show jWp 131 0 [some (jO x), some (jI y)] [] 0 0 w _
  refine jWp.blk mt 3 ?_
  show _ ∧ jWp 131 5 [some (jO x), some (jI y)] [jI y, jO x, jI 1000000000] 0 0 w _
  refine ⟨rfl, ?_⟩
  refine jWp.callv (as := [jO x, jI y]) (rest := [jI 1000000000]) mt rfl rfl rfl ⟨rfl, jtg hX.X0⟩ ?_
  refine jCall.mono (C_refuse2 hX hj) (fun v9 w9 h9 => ?_)
  obtain ⟨rfl, h9⟩ := h9
  subst w9
  show jWp 131 8 [some (jO x), some (jI y)] [jI y, jI 1000000000] 0 0 w _
  refine jWp.blk mt 1 ?_
  show jWp 131 9 [some (jO x), some (jI y)] [jI (1000000000 - y)] 0 0 w _
  refine jWp.ireti mt rfl ⟨rfl, rfl⟩ rfl ?_
  exact ⟨rfl, rfl⟩
set_option maxHeartbeats 4000000 in
set_option maxRecDepth 20000 in
theorem C_farther {w : jS} {x : Nat} (hX : CW w.2 x) {y : Int} {j : Nat} (hj : j < 6) (hy : y = -1 - (j : Int)) : jCall 132 [jO x, jI y] w (fun v w1 => v = some (jJ (4000000000000000000 - y)) ∧ w1 = jW w (x + 362) j (w.1 (x + 362) j + 1)) := by
  have mt : jtb 132 = jT132 := rfl
  show jWp 132 0 [some (jO x), some (jI y)] [] 0 0 w _
  refine jWp.blk mt 3 ?_
  show _ ∧ jWp 132 5 [some (jO x), some (jI y)] [jI y, jO x, jJ 4000000000000000000] 0 0 w _
  refine ⟨rfl, ?_⟩
  refine jWp.callv (as := [jO x, jI y]) (rest := [jJ 4000000000000000000]) mt rfl rfl rfl ⟨rfl, jtg hX.X0⟩ ?_
  refine jCall.mono (C_refuse hX hj hy) (fun v9 w9 h9 => ?_)
  obtain ⟨rfl, h9⟩ := h9
  subst h9
  show jWp 132 8 [some (jO x), some (jI y)] [jI y, jJ 4000000000000000000] 0 0 (jW w (x + 362) j (w.1 (x + 362) j + 1)) _
  refine jWp.i2l (pc' := 9) mt rfl rfl (b32_id (by omega) (by omega)) ?_
  show jWp 132 9 [some (jO x), some (jI y)] [jJ y, jJ 4000000000000000000] 0 0 (jW w (x + 362) j (w.1 (x + 362) j + 1)) _
  refine jWp.blk mt 1 ?_
  show jWp 132 10 [some (jO x), some (jI y)] [jJ (4000000000000000000 - y)] 0 0 (jW w (x + 362) j (w.1 (x + 362) j + 1)) _
  refine jWp.lret mt rfl ⟨rfl, rfl⟩ rfl ?_
  exact ⟨rfl, rfl⟩
set_option maxHeartbeats 4000000 in
set_option maxRecDepth 20000 in
theorem C_farther2 {w : jS} {x : Nat} (hX : CW w.2 x) {y : Int} (hj : -14 ≤ y ∧ y ≤ -7) : jCall 132 [jO x, jI y] w (jvj (4000000000000000000 - y) w) := by
  have mt : jtb 132 = jT132 := rfl
  show jWp 132 0 [some (jO x), some (jI y)] [] 0 0 w _
  refine jWp.blk mt 3 ?_
  show _ ∧ jWp 132 5 [some (jO x), some (jI y)] [jI y, jO x, jJ 4000000000000000000] 0 0 w _
  refine ⟨rfl, ?_⟩
  refine jWp.callv (as := [jO x, jI y]) (rest := [jJ 4000000000000000000]) mt rfl rfl rfl ⟨rfl, jtg hX.X0⟩ ?_
  refine jCall.mono (C_refuse2 hX hj) (fun v9 w9 h9 => ?_)
  obtain ⟨rfl, h9⟩ := h9
  subst w9
  show jWp 132 8 [some (jO x), some (jI y)] [jI y, jJ 4000000000000000000] 0 0 w _
  refine jWp.i2l (pc' := 9) mt rfl rfl (b32_id (by omega) (by omega)) ?_
  show jWp 132 9 [some (jO x), some (jI y)] [jJ y, jJ 4000000000000000000] 0 0 w _
  refine jWp.blk mt 1 ?_
  show jWp 132 10 [some (jO x), some (jI y)] [jJ (4000000000000000000 - y)] 0 0 w _
  refine jWp.lret mt rfl ⟨rfl, rfl⟩ rfl ?_
  exact ⟨rfl, rfl⟩
set_option maxHeartbeats 4000000 in
set_option maxRecDepth 20000 in
theorem C_value {w : jS} {x : Nat} (hX : CW w.2 x) {n : Nat} {q : Nat → Int} {g : Prop} (hQ : zQ q n) (hn0 : w.1 (x + 3) 0 = (n : Int)) (hRR : cR g (w.1 (x + 4)) q n) {i p : Int} (hri : r32 i) (hrp : r32 p) : jCall 105 [jO x, jI i, jI p] w (fun v w1 => ((¬ (0 ≤ i ∧ i < (n : Int))) → cno w x 0 (jI (-1)) v w1) ∧ (¬ (¬ (0 ≤ i ∧ i < (n : Int))) → (¬ (0 ≤ p ∧ p ≤ 1)) → cno w x 1 (jI (-2)) v w1) ∧ (¬ (¬ (0 ≤ i ∧ i < (n : Int))) → ¬ (¬ (0 ≤ p ∧ p ≤ 1)) → v = some (jI (q ((if p = 0 then 21 else 25) + i.toNat))) ∧ w1 = w)) := by
  have mt : jtb 105 = jT105 := rfl
  have hn2 := hQ.S.n2
  have hn4 := hQ.S.n4
  have hri1 : -2147483648 ≤ i ∧ i < 2147483648 := hri
  have hrp1 : -2147483648 ≤ p ∧ p < 2147483648 := hrp
  show jWp 105 0 [some (jO x), some (jI i), some (jI p)] [] 0 0 w _
  refine jWp.blk mt 1 ?_
  show _ ∧ jWp 105 1 [some (jO x), some (jI i), some (jI p)] [jO x] 0 0 w _
  refine ⟨rfl, ?_⟩
  refine jWp.getR (pc' := 4) (o := (x + 3)) mt rfl rfl (jtg hX.X0) hX.R4 ?_
  show jWp 105 4 [some (jO x), some (jI i), some (jI p)] [jO (x + 3)] 0 0 w _
  refine jWp.blk mt 1 ?_
  show jWp 105 5 [some (jO x), some (jI i), some (jI p)] [jI i, jO (x + 3)] 0 0 w _
  refine jWp.callv (as := [jO (x + 3), jI i]) (rest := []) mt rfl rfl rfl ⟨rfl, jtg hX.X3⟩ ?_
  refine jCall.mono (E_has (w := w) (s := x + 3) (n := n) hX.X3 hn0 hn4 hri) (fun v9 w9 h9 => ?_)
  rcases h9 with ⟨rfl, h9, h1⟩ | ⟨rfl, h9, h1⟩ <;> subst w9
  · have h1 : 0 ≤ i ∧ i < (n : Int) := h1
    show jWp 105 8 [some (jO x), some (jI i), some (jI p)] [jI 1] 0 0 w _
    obtain ⟨i1, rfl⟩ : ∃ i1 : Nat, i = (i1 : Int) := ⟨i.toNat, by omega⟩
    show jWp 105 8 [some (jO x), some (jI (i1 : Int)), some (jI p)] [jI 1] 0 0 w _
    refine jWp.ifc (b := true) mt rfl (by decide) rfl ?_
    show jWp 105 17 [some (jO x), some (jI (i1 : Int)), some (jI p)] [] 0 0 w _
    refine jWp.blk mt 1 ?_
    show jWp 105 18 [some (jO x), some (jI (i1 : Int)), some (jI p)] [jI p] 0 0 w _
    refine jWp.ifz (pc' := 21) mt rfl rfl (b32_id (by omega) (by omega)) (fun h2 => ?_) (fun h2 => ?_)
    · have h2 : p = 0 := h2
      refine jWp.blk mt 1 ?_
      show jWp 105 34 [some (jO x), some (jI (i1 : Int)), some (jI p)] [jI p] 0 0 w _
      refine jWp.ifz (pc' := 37) mt rfl rfl (b32_id (by omega) (by omega)) (fun h3 => ?_) (fun h3 => ?_)
      · have h3 : p ≠ 0 := h3
        refine jWp.blk mt 1 ?_
        show _ ∧ jWp 105 49 [some (jO x), some (jI (i1 : Int)), some (jI p)] [jO x] 0 0 w _
        refine ⟨rfl, ?_⟩
        refine jWp.getR (pc' := 52) (o := (x + 3)) mt rfl rfl (jtg hX.X0) hX.R4 ?_
        show jWp 105 52 [some (jO x), some (jI (i1 : Int)), some (jI p)] [jO (x + 3)] 0 0 w _
        refine jWp.blk mt 1 ?_
        show jWp 105 53 [some (jO x), some (jI (i1 : Int)), some (jI p)] [jI (i1 : Int), jO (x + 3)] 0 0 w _
        refine jWp.callv (as := [jO (x + 3), jI (i1 : Int)]) (rest := []) mt rfl rfl rfl ⟨rfl, jtg hX.X3⟩ ?_
        refine jCall.mono ((by have h := E_su (w := w) (sc := x + 4) (n := n) (i := i1) hX.X3 hX.X4 hX.Rc hn0 hn4 (by omega); rw [show w.1 (x + 4) (4 + i1) = q (25 + i1) from (hRR.1 _ (by omega)).trans (cz_d hn4 (by omega))] at h; exact h)) (fun v9 w9 h9 => ?_)
        obtain ⟨rfl, h9⟩ := h9
        subst w9
        show jWp 105 56 [some (jO x), some (jI (i1 : Int)), some (jI p)] [jI (q (25 + i1))] 0 0 w _
        refine jWp.ireti mt rfl ⟨rfl, rfl⟩ rfl ?_
        refine ⟨fun c0 => ?_, fun c0 c1 => ?_, fun c0 c1 => ?_⟩
        all_goals first
        | (exfalso; omega)
        | exact ⟨rfl, rfl⟩
        | exact ⟨by rw [if_pos (by omega)]; rfl, rfl⟩
        | exact ⟨by rw [if_neg (by omega)]; rfl, rfl⟩
      · have h3 : p = 0 := h3
        refine jWp.blk mt 1 ?_
        show _ ∧ jWp 105 38 [some (jO x), some (jI (i1 : Int)), some (jI p)] [jO x] 0 0 w _
        refine ⟨rfl, ?_⟩
        refine jWp.getR (pc' := 41) (o := (x + 3)) mt rfl rfl (jtg hX.X0) hX.R4 ?_
        show jWp 105 41 [some (jO x), some (jI (i1 : Int)), some (jI p)] [jO (x + 3)] 0 0 w _
        refine jWp.blk mt 1 ?_
        show jWp 105 42 [some (jO x), some (jI (i1 : Int)), some (jI p)] [jI (i1 : Int), jO (x + 3)] 0 0 w _
        refine jWp.callv (as := [jO (x + 3), jI (i1 : Int)]) (rest := []) mt rfl rfl rfl ⟨rfl, jtg hX.X3⟩ ?_
        refine jCall.mono ((by have h := E_sa (w := w) (sc := x + 4) (n := n) (i := i1) hX.X3 hX.X4 hX.Rc hn0 hn4 (by omega); rw [show w.1 (x + 4) i1 = q (21 + i1) from (hRR.1 _ (by omega)).trans (cz_u hn4 (by omega))] at h; exact h)) (fun v9 w9 h9 => ?_)
        obtain ⟨rfl, h9⟩ := h9
        subst w9
        show jWp 105 45 [some (jO x), some (jI (i1 : Int)), some (jI p)] [jI (q (21 + i1))] 0 0 w _
        refine jWp.blk mt 1 ?_
        show jWp 105 56 [some (jO x), some (jI (i1 : Int)), some (jI p)] [jI (q (21 + i1))] 0 0 w _
        refine jWp.ireti mt rfl ⟨rfl, rfl⟩ rfl ?_
        refine ⟨fun c0 => ?_, fun c0 c1 => ?_, fun c0 c1 => ?_⟩
        all_goals first
        | (exfalso; omega)
        | exact ⟨rfl, rfl⟩
        | exact ⟨by rw [if_pos (by omega)]; rfl, rfl⟩
        | exact ⟨by rw [if_neg (by omega)]; rfl, rfl⟩
    · have h2 : p ≠ 0 := h2
      refine jWp.blk mt 2 ?_
      show jWp 105 23 [some (jO x), some (jI (i1 : Int)), some (jI p)] [jI 1, jI p] 0 0 w _
      refine jWp.icmp (pc' := 26) mt rfl rfl (b32_id (by omega) (by omega)) (show b32 1 = 1 by decide) (fun h4 => ?_) (fun h4 => ?_)
      · have h4 : p = 1 := h4
        refine jWp.blk mt 1 ?_
        show jWp 105 34 [some (jO x), some (jI (i1 : Int)), some (jI p)] [jI p] 0 0 w _
        refine jWp.ifz (pc' := 37) mt rfl rfl (b32_id (by omega) (by omega)) (fun h5 => ?_) (fun h5 => ?_)
        · have h5 : p ≠ 0 := h5
          refine jWp.blk mt 1 ?_
          show _ ∧ jWp 105 49 [some (jO x), some (jI (i1 : Int)), some (jI p)] [jO x] 0 0 w _
          refine ⟨rfl, ?_⟩
          refine jWp.getR (pc' := 52) (o := (x + 3)) mt rfl rfl (jtg hX.X0) hX.R4 ?_
          show jWp 105 52 [some (jO x), some (jI (i1 : Int)), some (jI p)] [jO (x + 3)] 0 0 w _
          refine jWp.blk mt 1 ?_
          show jWp 105 53 [some (jO x), some (jI (i1 : Int)), some (jI p)] [jI (i1 : Int), jO (x + 3)] 0 0 w _
          refine jWp.callv (as := [jO (x + 3), jI (i1 : Int)]) (rest := []) mt rfl rfl rfl ⟨rfl, jtg hX.X3⟩ ?_
          refine jCall.mono ((by have h := E_su (w := w) (sc := x + 4) (n := n) (i := i1) hX.X3 hX.X4 hX.Rc hn0 hn4 (by omega); rw [show w.1 (x + 4) (4 + i1) = q (25 + i1) from (hRR.1 _ (by omega)).trans (cz_d hn4 (by omega))] at h; exact h)) (fun v9 w9 h9 => ?_)
          obtain ⟨rfl, h9⟩ := h9
          subst w9
          show jWp 105 56 [some (jO x), some (jI (i1 : Int)), some (jI p)] [jI (q (25 + i1))] 0 0 w _
          refine jWp.ireti mt rfl ⟨rfl, rfl⟩ rfl ?_
          refine ⟨fun c0 => ?_, fun c0 c1 => ?_, fun c0 c1 => ?_⟩
          all_goals first
          | (exfalso; omega)
          | exact ⟨rfl, rfl⟩
          | exact ⟨by rw [if_pos (by omega)]; rfl, rfl⟩
          | exact ⟨by rw [if_neg (by omega)]; rfl, rfl⟩
        · have h5 : p = 0 := h5
          refine jWp.blk mt 1 ?_
          show _ ∧ jWp 105 38 [some (jO x), some (jI (i1 : Int)), some (jI p)] [jO x] 0 0 w _
          refine ⟨rfl, ?_⟩
          refine jWp.getR (pc' := 41) (o := (x + 3)) mt rfl rfl (jtg hX.X0) hX.R4 ?_
          show jWp 105 41 [some (jO x), some (jI (i1 : Int)), some (jI p)] [jO (x + 3)] 0 0 w _
          refine jWp.blk mt 1 ?_
          show jWp 105 42 [some (jO x), some (jI (i1 : Int)), some (jI p)] [jI (i1 : Int), jO (x + 3)] 0 0 w _
          refine jWp.callv (as := [jO (x + 3), jI (i1 : Int)]) (rest := []) mt rfl rfl rfl ⟨rfl, jtg hX.X3⟩ ?_
          refine jCall.mono ((by have h := E_sa (w := w) (sc := x + 4) (n := n) (i := i1) hX.X3 hX.X4 hX.Rc hn0 hn4 (by omega); rw [show w.1 (x + 4) i1 = q (21 + i1) from (hRR.1 _ (by omega)).trans (cz_u hn4 (by omega))] at h; exact h)) (fun v9 w9 h9 => ?_)
          obtain ⟨rfl, h9⟩ := h9
          subst w9
          show jWp 105 45 [some (jO x), some (jI (i1 : Int)), some (jI p)] [jI (q (21 + i1))] 0 0 w _
          refine jWp.blk mt 1 ?_
          show jWp 105 56 [some (jO x), some (jI (i1 : Int)), some (jI p)] [jI (q (21 + i1))] 0 0 w _
          refine jWp.ireti mt rfl ⟨rfl, rfl⟩ rfl ?_
          refine ⟨fun c0 => ?_, fun c0 c1 => ?_, fun c0 c1 => ?_⟩
          all_goals first
          | (exfalso; omega)
          | exact ⟨rfl, rfl⟩
          | exact ⟨by rw [if_pos (by omega)]; rfl, rfl⟩
          | exact ⟨by rw [if_neg (by omega)]; rfl, rfl⟩
      · have h4 : p ≠ 1 := h4
        refine jWp.blk mt 2 ?_
        show _ ∧ jWp 105 29 [some (jO x), some (jI (i1 : Int)), some (jI p)] [jI (-2), jO x] 0 0 w _
        refine ⟨rfl, ?_⟩
        refine jWp.callv (as := [jO x, jI (-2)]) (rest := []) mt rfl rfl rfl ⟨rfl, jtg hX.X0⟩ ?_
        refine jCall.mono (C_refuse (w := w) (j := 1) hX (by decide) (by decide)) (fun v9 w9 h9 => ?_)
        obtain ⟨rfl, h9⟩ := h9
        subst h9
        show jWp 105 32 [some (jO x), some (jI (i1 : Int)), some (jI p)] [jI (-2)] 0 0 (jW w (x + 362) 1 ((w.1 (x + 362) 1) + 1)) _
        refine jWp.ireti mt rfl ⟨rfl, rfl⟩ rfl ?_
        refine ⟨fun c0 => ?_, fun c0 c1 => ?_, fun c0 c1 => ?_⟩
        all_goals first
        | (exfalso; omega)
        | exact ⟨rfl, rfl⟩
        | exact ⟨by rw [if_pos (by omega)]; rfl, rfl⟩
        | exact ⟨by rw [if_neg (by omega)]; rfl, rfl⟩
  · have h1 : ¬ (0 ≤ i ∧ i < (n : Int)) := h1
    show jWp 105 8 [some (jO x), some (jI i), some (jI p)] [jI 0] 0 0 w _
    refine jWp.ifc (b := false) mt rfl (by decide) rfl ?_
    show jWp 105 11 [some (jO x), some (jI i), some (jI p)] [] 0 0 w _
    refine jWp.blk mt 2 ?_
    show _ ∧ jWp 105 13 [some (jO x), some (jI i), some (jI p)] [jI (-1), jO x] 0 0 w _
    refine ⟨rfl, ?_⟩
    refine jWp.callv (as := [jO x, jI (-1)]) (rest := []) mt rfl rfl rfl ⟨rfl, jtg hX.X0⟩ ?_
    refine jCall.mono (C_refuse (w := w) (j := 0) hX (by decide) (by decide)) (fun v9 w9 h9 => ?_)
    obtain ⟨rfl, h9⟩ := h9
    subst h9
    show jWp 105 16 [some (jO x), some (jI i), some (jI p)] [jI (-1)] 0 0 (jW w (x + 362) 0 ((w.1 (x + 362) 0) + 1)) _
    refine jWp.ireti mt rfl ⟨rfl, rfl⟩ rfl ?_
    refine ⟨fun c0 => ?_, fun c0 c1 => ?_, fun c0 c1 => ?_⟩
    all_goals first
    | (exfalso; omega)
    | exact ⟨rfl, rfl⟩
    | exact ⟨by rw [if_pos (by omega)]; rfl, rfl⟩
    | exact ⟨by rw [if_neg (by omega)]; rfl, rfl⟩
set_option maxHeartbeats 4000000 in
set_option maxRecDepth 20000 in
theorem C_entry {w : jS} {x : Nat} (hX : CW w.2 x) {n : Nat} {q : Nat → Int} {g : Prop} (hQ : zQ q n) (hn0 : w.1 (x + 3) 0 = (n : Int)) (hRR : cR g (w.1 (x + 4)) q n) {i j : Int} (hri : r32 i) (hrj : r32 j) : jCall 104 [jO x, jI i, jI j] w (fun v w1 => ((¬ (0 ≤ i ∧ i < (n : Int)) ∨ ¬ (0 ≤ j ∧ j < (n : Int))) → cno w x 0 (jI (1000000000 - (-1))) v w1) ∧ (¬ (¬ (0 ≤ i ∧ i < (n : Int)) ∨ ¬ (0 ≤ j ∧ j < (n : Int))) → v = some (jI (q (1 + (4 * i.toNat + j.toNat)))) ∧ w1 = w)) := by
  have mt : jtb 104 = jT104 := rfl
  have hn2 := hQ.S.n2
  have hn4 := hQ.S.n4
  have hri1 : -2147483648 ≤ i ∧ i < 2147483648 := hri
  show jWp 104 0 [some (jO x), some (jI i), some (jI j)] [] 0 0 w _
  refine jWp.blk mt 1 ?_
  show _ ∧ jWp 104 1 [some (jO x), some (jI i), some (jI j)] [jO x] 0 0 w _
  refine ⟨rfl, ?_⟩
  refine jWp.getR (pc' := 4) (o := (x + 3)) mt rfl rfl (jtg hX.X0) hX.R4 ?_
  show jWp 104 4 [some (jO x), some (jI i), some (jI j)] [jO (x + 3)] 0 0 w _
  refine jWp.blk mt 1 ?_
  show jWp 104 5 [some (jO x), some (jI i), some (jI j)] [jI i, jO (x + 3)] 0 0 w _
  refine jWp.callv (as := [jO (x + 3), jI i]) (rest := []) mt rfl rfl rfl ⟨rfl, jtg hX.X3⟩ ?_
  refine jCall.mono (E_has (w := w) (s := x + 3) (n := n) hX.X3 hn0 hn4 hri) (fun v9 w9 h9 => ?_)
  rcases h9 with ⟨rfl, h9, h1⟩ | ⟨rfl, h9, h1⟩ <;> subst w9
  · have h1 : 0 ≤ i ∧ i < (n : Int) := h1
    show jWp 104 8 [some (jO x), some (jI i), some (jI j)] [jI 1] 0 0 w _
    obtain ⟨i1, rfl⟩ : ∃ i1 : Nat, i = (i1 : Int) := ⟨i.toNat, by omega⟩
    show jWp 104 8 [some (jO x), some (jI (i1 : Int)), some (jI j)] [jI 1] 0 0 w _
    refine jWp.ifc (b := false) mt rfl (by decide) rfl ?_
    show jWp 104 11 [some (jO x), some (jI (i1 : Int)), some (jI j)] [] 0 0 w _
    refine jWp.blk mt 1 ?_
    show _ ∧ jWp 104 12 [some (jO x), some (jI (i1 : Int)), some (jI j)] [jO x] 0 0 w _
    refine ⟨rfl, ?_⟩
    refine jWp.getR (pc' := 15) (o := (x + 3)) mt rfl rfl (jtg hX.X0) hX.R4 ?_
    show jWp 104 15 [some (jO x), some (jI (i1 : Int)), some (jI j)] [jO (x + 3)] 0 0 w _
    refine jWp.blk mt 1 ?_
    show jWp 104 16 [some (jO x), some (jI (i1 : Int)), some (jI j)] [jI j, jO (x + 3)] 0 0 w _
    refine jWp.callv (as := [jO (x + 3), jI j]) (rest := []) mt rfl rfl rfl ⟨rfl, jtg hX.X3⟩ ?_
    refine jCall.mono (E_has (w := w) (s := x + 3) (n := n) hX.X3 hn0 hn4 hrj) (fun v9 w9 h9 => ?_)
    rcases h9 with ⟨rfl, h9, h2⟩ | ⟨rfl, h9, h2⟩ <;> subst w9
    · have h2 : 0 ≤ j ∧ j < (n : Int) := h2
      show jWp 104 19 [some (jO x), some (jI (i1 : Int)), some (jI j)] [jI 1] 0 0 w _
      obtain ⟨j1, rfl⟩ : ∃ j1 : Nat, j = (j1 : Int) := ⟨j.toNat, by omega⟩
      show jWp 104 19 [some (jO x), some (jI (i1 : Int)), some (jI (j1 : Int))] [jI 1] 0 0 w _
      refine jWp.ifc (b := true) mt rfl (by decide) rfl ?_
      show jWp 104 28 [some (jO x), some (jI (i1 : Int)), some (jI (j1 : Int))] [] 0 0 w _
      refine jWp.blk mt 1 ?_
      show _ ∧ jWp 104 29 [some (jO x), some (jI (i1 : Int)), some (jI (j1 : Int))] [jO x] 0 0 w _
      refine ⟨rfl, ?_⟩
      refine jWp.getR (pc' := 32) (o := (x + 3)) mt rfl rfl (jtg hX.X0) hX.R4 ?_
      show jWp 104 32 [some (jO x), some (jI (i1 : Int)), some (jI (j1 : Int))] [jO (x + 3)] 0 0 w _
      refine jWp.blk mt 2 ?_
      show jWp 104 34 [some (jO x), some (jI (i1 : Int)), some (jI (j1 : Int))] [jI (j1 : Int), jI (i1 : Int), jO (x + 3)] 0 0 w _
      refine jWp.callv (as := [jO (x + 3), jI (i1 : Int), jI (j1 : Int)]) (rest := []) mt rfl rfl rfl ⟨rfl, jtg hX.X3⟩ ?_
      refine jCall.mono ((by have h := E_sb (w := w) (sc := x + 4) (i := i1) (j := j1) hX.X3 hX.X4 hX.Rc (by omega) (by omega); rw [show w.1 (x + 4) (8 + (4 * i1 + j1)) = q (1 + (4 * i1 + j1)) from (hRR.1 _ (by omega)).trans (cz_b (by omega))] at h; exact h)) (fun v9 w9 h9 => ?_)
      obtain ⟨rfl, h9⟩ := h9
      subst w9
      show jWp 104 37 [some (jO x), some (jI (i1 : Int)), some (jI (j1 : Int))] [jI (q (1 + (4 * i1 + j1)))] 0 0 w _
      refine jWp.ireti mt rfl ⟨rfl, rfl⟩ rfl ?_
      refine ⟨fun c0 => ?_, fun c0 => ?_⟩
      all_goals first
      | (exfalso; omega)
      | exact ⟨rfl, rfl⟩
    · have h2 : ¬ (0 ≤ j ∧ j < (n : Int)) := h2
      show jWp 104 19 [some (jO x), some (jI (i1 : Int)), some (jI j)] [jI 0] 0 0 w _
      refine jWp.ifc (b := false) mt rfl (by decide) rfl ?_
      show jWp 104 22 [some (jO x), some (jI (i1 : Int)), some (jI j)] [] 0 0 w _
      refine jWp.blk mt 2 ?_
      show _ ∧ jWp 104 24 [some (jO x), some (jI (i1 : Int)), some (jI j)] [jI (-1), jO x] 0 0 w _
      refine ⟨rfl, ?_⟩
      refine jWp.callv (as := [jO x, jI (-1)]) (rest := []) mt rfl rfl rfl ⟨rfl, jtg hX.X0⟩ ?_
      refine jCall.mono (C_far (w := w) (j := 0) hX (by decide) (by decide)) (fun v9 w9 h9 => ?_)
      obtain ⟨rfl, h9⟩ := h9
      subst h9
      show jWp 104 27 [some (jO x), some (jI (i1 : Int)), some (jI j)] [jI (1000000000 - (-1))] 0 0 (jW w (x + 362) 0 ((w.1 (x + 362) 0) + 1)) _
      refine jWp.ireti mt rfl ⟨rfl, rfl⟩ rfl ?_
      refine ⟨fun c0 => ?_, fun c0 => ?_⟩
      all_goals first
      | (exfalso; omega)
      | exact ⟨rfl, rfl⟩
  · have h1 : ¬ (0 ≤ i ∧ i < (n : Int)) := h1
    show jWp 104 8 [some (jO x), some (jI i), some (jI j)] [jI 0] 0 0 w _
    refine jWp.ifc (b := true) mt rfl (by decide) rfl ?_
    show jWp 104 22 [some (jO x), some (jI i), some (jI j)] [] 0 0 w _
    refine jWp.blk mt 2 ?_
    show _ ∧ jWp 104 24 [some (jO x), some (jI i), some (jI j)] [jI (-1), jO x] 0 0 w _
    refine ⟨rfl, ?_⟩
    refine jWp.callv (as := [jO x, jI (-1)]) (rest := []) mt rfl rfl rfl ⟨rfl, jtg hX.X0⟩ ?_
    refine jCall.mono (C_far (w := w) (j := 0) hX (by decide) (by decide)) (fun v9 w9 h9 => ?_)
    obtain ⟨rfl, h9⟩ := h9
    subst h9
    show jWp 104 27 [some (jO x), some (jI i), some (jI j)] [jI (1000000000 - (-1))] 0 0 (jW w (x + 362) 0 ((w.1 (x + 362) 0) + 1)) _
    refine jWp.ireti mt rfl ⟨rfl, rfl⟩ rfl ?_
    refine ⟨fun c0 => ?_, fun c0 => ?_⟩
    all_goals first
    | (exfalso; omega)
    | exact ⟨rfl, rfl⟩
theorem cR_d {g : Prop} {C q : Nat → Int} {n i j : Nat} (hR : cR g C q n) (gg : g) (h4 : n ≤ 4) (hi : i < n) (hj : j < n) : C (28 + (4 * i + j)) = q (29 + 4 * i + j) := (hR.2.1 gg _ (by omega) (by omega)).trans (cz_g h4 hi hj)
set_option maxHeartbeats 4000000 in
set_option maxRecDepth 20000 in
theorem C_power {w : jS} {x : Nat} (hX : CW w.2 x) {n : Nat} {q : Nat → Int} {g : Prop} (hQ : zQ q n) (hn0 : w.1 (x + 3) 0 = (n : Int)) (hRR : cR g (w.1 (x + 4)) q n) {i j : Int} (hri : r32 i) (hrj : r32 j) : jCall 106 [jO x, jI i, jI j] w (fun v w1 => ((¬ (0 ≤ i ∧ i < (n : Int)) ∨ ¬ (0 ≤ j ∧ j < (n : Int))) → cno w x 0 (jI (1000000000 - (-1))) v w1) ∧ (¬ (¬ (0 ≤ i ∧ i < (n : Int)) ∨ ¬ (0 ≤ j ∧ j < (n : Int))) → w1 = w ∧ ∃ y, v = some (jI y) ∧ (g → y = q (29 + 4 * i.toNat + j.toNat)))) := by
  have mt : jtb 106 = jT106 := rfl
  have hn2 := hQ.S.n2
  have hn4 := hQ.S.n4
  have hri1 : -2147483648 ≤ i ∧ i < 2147483648 := hri
  show jWp 106 0 [some (jO x), some (jI i), some (jI j)] [] 0 0 w _
  refine jWp.blk mt 1 ?_
  show _ ∧ jWp 106 1 [some (jO x), some (jI i), some (jI j)] [jO x] 0 0 w _
  refine ⟨rfl, ?_⟩
  refine jWp.getR (pc' := 4) (o := (x + 3)) mt rfl rfl (jtg hX.X0) hX.R4 ?_
  show jWp 106 4 [some (jO x), some (jI i), some (jI j)] [jO (x + 3)] 0 0 w _
  refine jWp.blk mt 1 ?_
  show jWp 106 5 [some (jO x), some (jI i), some (jI j)] [jI i, jO (x + 3)] 0 0 w _
  refine jWp.callv (as := [jO (x + 3), jI i]) (rest := []) mt rfl rfl rfl ⟨rfl, jtg hX.X3⟩ ?_
  refine jCall.mono (E_has (w := w) (s := x + 3) (n := n) hX.X3 hn0 hn4 hri) (fun v9 w9 h9 => ?_)
  rcases h9 with ⟨rfl, h9, h1⟩ | ⟨rfl, h9, h1⟩ <;> subst w9
  · have h1 : 0 ≤ i ∧ i < (n : Int) := h1
    show jWp 106 8 [some (jO x), some (jI i), some (jI j)] [jI 1] 0 0 w _
    obtain ⟨i1, rfl⟩ : ∃ i1 : Nat, i = (i1 : Int) := ⟨i.toNat, by omega⟩
    show jWp 106 8 [some (jO x), some (jI (i1 : Int)), some (jI j)] [jI 1] 0 0 w _
    refine jWp.ifc (b := false) mt rfl (by decide) rfl ?_
    show jWp 106 11 [some (jO x), some (jI (i1 : Int)), some (jI j)] [] 0 0 w _
    refine jWp.blk mt 1 ?_
    show _ ∧ jWp 106 12 [some (jO x), some (jI (i1 : Int)), some (jI j)] [jO x] 0 0 w _
    refine ⟨rfl, ?_⟩
    refine jWp.getR (pc' := 15) (o := (x + 3)) mt rfl rfl (jtg hX.X0) hX.R4 ?_
    show jWp 106 15 [some (jO x), some (jI (i1 : Int)), some (jI j)] [jO (x + 3)] 0 0 w _
    refine jWp.blk mt 1 ?_
    show jWp 106 16 [some (jO x), some (jI (i1 : Int)), some (jI j)] [jI j, jO (x + 3)] 0 0 w _
    refine jWp.callv (as := [jO (x + 3), jI j]) (rest := []) mt rfl rfl rfl ⟨rfl, jtg hX.X3⟩ ?_
    refine jCall.mono (E_has (w := w) (s := x + 3) (n := n) hX.X3 hn0 hn4 hrj) (fun v9 w9 h9 => ?_)
    rcases h9 with ⟨rfl, h9, h2⟩ | ⟨rfl, h9, h2⟩ <;> subst w9
    · have h2 : 0 ≤ j ∧ j < (n : Int) := h2
      show jWp 106 19 [some (jO x), some (jI (i1 : Int)), some (jI j)] [jI 1] 0 0 w _
      obtain ⟨j1, rfl⟩ : ∃ j1 : Nat, j = (j1 : Int) := ⟨j.toNat, by omega⟩
      show jWp 106 19 [some (jO x), some (jI (i1 : Int)), some (jI (j1 : Int))] [jI 1] 0 0 w _
      refine jWp.ifc (b := true) mt rfl (by decide) rfl ?_
      show jWp 106 28 [some (jO x), some (jI (i1 : Int)), some (jI (j1 : Int))] [] 0 0 w _
      refine jWp.blk mt 1 ?_
      show _ ∧ jWp 106 29 [some (jO x), some (jI (i1 : Int)), some (jI (j1 : Int))] [jO x] 0 0 w _
      refine ⟨rfl, ?_⟩
      refine jWp.getR (pc' := 32) (o := (x + 3)) mt rfl rfl (jtg hX.X0) hX.R4 ?_
      show jWp 106 32 [some (jO x), some (jI (i1 : Int)), some (jI (j1 : Int))] [jO (x + 3)] 0 0 w _
      refine jWp.blk mt 2 ?_
      show jWp 106 34 [some (jO x), some (jI (i1 : Int)), some (jI (j1 : Int))] [jI (j1 : Int), jI (i1 : Int), jO (x + 3)] 0 0 w _
      refine jWp.callv (as := [jO (x + 3), jI (i1 : Int), jI (j1 : Int)]) (rest := []) mt rfl rfl rfl ⟨rfl, jtg hX.X3⟩ ?_
      refine jCall.mono (E_sd (w := w) (sc := x + 4) (n := n) (i := i1) (j := j1) hX.X3 hX.X4 hX.Rc hn0 hn4 (by omega) (by omega)) (fun v9 w9 h9 => ?_)
      obtain ⟨rfl, h9⟩ := h9
      subst w9
      show jWp 106 37 [some (jO x), some (jI (i1 : Int)), some (jI (j1 : Int))] [jI (w.1 (x + 4) (28 + (4 * i1 + j1)))] 0 0 w _
      refine jWp.ireti mt rfl ⟨rfl, rfl⟩ rfl ?_
      refine ⟨fun c0 => ?_, fun c0 => ?_⟩
      all_goals first
      | (exfalso; omega)
      | exact ⟨rfl, rfl⟩
      | exact ⟨rfl, _, rfl, fun gg => cR_d hRR gg hn4 (by omega) (by omega)⟩
    · have h2 : ¬ (0 ≤ j ∧ j < (n : Int)) := h2
      show jWp 106 19 [some (jO x), some (jI (i1 : Int)), some (jI j)] [jI 0] 0 0 w _
      refine jWp.ifc (b := false) mt rfl (by decide) rfl ?_
      show jWp 106 22 [some (jO x), some (jI (i1 : Int)), some (jI j)] [] 0 0 w _
      refine jWp.blk mt 2 ?_
      show _ ∧ jWp 106 24 [some (jO x), some (jI (i1 : Int)), some (jI j)] [jI (-1), jO x] 0 0 w _
      refine ⟨rfl, ?_⟩
      refine jWp.callv (as := [jO x, jI (-1)]) (rest := []) mt rfl rfl rfl ⟨rfl, jtg hX.X0⟩ ?_
      refine jCall.mono (C_far (w := w) (j := 0) hX (by decide) (by decide)) (fun v9 w9 h9 => ?_)
      obtain ⟨rfl, h9⟩ := h9
      subst h9
      show jWp 106 27 [some (jO x), some (jI (i1 : Int)), some (jI j)] [jI (1000000000 - (-1))] 0 0 (jW w (x + 362) 0 ((w.1 (x + 362) 0) + 1)) _
      refine jWp.ireti mt rfl ⟨rfl, rfl⟩ rfl ?_
      refine ⟨fun c0 => ?_, fun c0 => ?_⟩
      all_goals first
      | (exfalso; omega)
      | exact ⟨rfl, rfl⟩
      | exact ⟨rfl, _, rfl, fun gg => cR_d hRR gg hn4 (by omega) (by omega)⟩
  · have h1 : ¬ (0 ≤ i ∧ i < (n : Int)) := h1
    show jWp 106 8 [some (jO x), some (jI i), some (jI j)] [jI 0] 0 0 w _
    refine jWp.ifc (b := true) mt rfl (by decide) rfl ?_
    show jWp 106 22 [some (jO x), some (jI i), some (jI j)] [] 0 0 w _
    refine jWp.blk mt 2 ?_
    show _ ∧ jWp 106 24 [some (jO x), some (jI i), some (jI j)] [jI (-1), jO x] 0 0 w _
    refine ⟨rfl, ?_⟩
    refine jWp.callv (as := [jO x, jI (-1)]) (rest := []) mt rfl rfl rfl ⟨rfl, jtg hX.X0⟩ ?_
    refine jCall.mono (C_far (w := w) (j := 0) hX (by decide) (by decide)) (fun v9 w9 h9 => ?_)
    obtain ⟨rfl, h9⟩ := h9
    subst h9
    show jWp 106 27 [some (jO x), some (jI i), some (jI j)] [jI (1000000000 - (-1))] 0 0 (jW w (x + 362) 0 ((w.1 (x + 362) 0) + 1)) _
    refine jWp.ireti mt rfl ⟨rfl, rfl⟩ rfl ?_
    refine ⟨fun c0 => ?_, fun c0 => ?_⟩
    all_goals first
    | (exfalso; omega)
    | exact ⟨rfl, rfl⟩
    | exact ⟨rfl, _, rfl, fun gg => cR_d hRR gg hn4 (by omega) (by omega)⟩
set_option maxHeartbeats 4000000 in
set_option maxRecDepth 20000 in
theorem C_whole {w : jS} {x : Nat} (hX : CW w.2 x) {n : Nat} {q : Nat → Int} {g : Prop} (hQ : zQ q n) (hn0 : w.1 (x + 3) 0 = (n : Int)) (hRR : cR g (w.1 (x + 4)) q n) {i : Int} (hri : r32 i) : jCall 110 [jO x, jI i] w (fun v w1 => ((¬ (0 ≤ i ∧ i < (n : Int))) → cno w x 0 (jI (-1)) v w1) ∧ (¬ (¬ (0 ≤ i ∧ i < (n : Int))) → w1 = w ∧ ∃ y, v = some (jI y) ∧ (y = 0 ∨ y = 1) ∧ (q (25 + i.toNat) = 1 → y = 1))) := by
  have mt : jtb 110 = jT110 := rfl
  have hn2 := hQ.S.n2
  have hn4 := hQ.S.n4
  have hri1 : -2147483648 ≤ i ∧ i < 2147483648 := hri
  show jWp 110 0 [some (jO x), some (jI i)] [] 0 0 w _
  refine jWp.blk mt 1 ?_
  show _ ∧ jWp 110 1 [some (jO x), some (jI i)] [jO x] 0 0 w _
  refine ⟨rfl, ?_⟩
  refine jWp.getR (pc' := 4) (o := (x + 3)) mt rfl rfl (jtg hX.X0) hX.R4 ?_
  show jWp 110 4 [some (jO x), some (jI i)] [jO (x + 3)] 0 0 w _
  refine jWp.blk mt 1 ?_
  show jWp 110 5 [some (jO x), some (jI i)] [jI i, jO (x + 3)] 0 0 w _
  refine jWp.callv (as := [jO (x + 3), jI i]) (rest := []) mt rfl rfl rfl ⟨rfl, jtg hX.X3⟩ ?_
  refine jCall.mono (E_has (w := w) (s := x + 3) (n := n) hX.X3 hn0 hn4 hri) (fun v9 w9 h9 => ?_)
  rcases h9 with ⟨rfl, h9, h1⟩ | ⟨rfl, h9, h1⟩ <;> subst w9
  · have h1 : 0 ≤ i ∧ i < (n : Int) := h1
    show jWp 110 8 [some (jO x), some (jI i)] [jI 1] 0 0 w _
    obtain ⟨i1, rfl⟩ : ∃ i1 : Nat, i = (i1 : Int) := ⟨i.toNat, by omega⟩
    show jWp 110 8 [some (jO x), some (jI (i1 : Int))] [jI 1] 0 0 w _
    refine jWp.ifc (b := true) mt rfl (by decide) rfl ?_
    show jWp 110 17 [some (jO x), some (jI (i1 : Int))] [] 0 0 w _
    refine jWp.blk mt 1 ?_
    show _ ∧ jWp 110 18 [some (jO x), some (jI (i1 : Int))] [jO x] 0 0 w _
    refine ⟨rfl, ?_⟩
    refine jWp.getR (pc' := 21) (o := (x + 3)) mt rfl rfl (jtg hX.X0) hX.R4 ?_
    show jWp 110 21 [some (jO x), some (jI (i1 : Int))] [jO (x + 3)] 0 0 w _
    refine jWp.blk mt 1 ?_
    show jWp 110 22 [some (jO x), some (jI (i1 : Int))] [jI (i1 : Int), jO (x + 3)] 0 0 w _
    refine jWp.callv (as := [jO (x + 3), jI (i1 : Int)]) (rest := []) mt rfl rfl rfl ⟨rfl, jtg hX.X3⟩ ?_
    refine jCall.mono (C_isWhole (w := w) (s := x + 3) (sc := x + 4) (n := n) (q := q) hX.X3 hX.X4 hX.Rc hn0 hn4 hQ hRR.1 (i := i1) (by omega)) (fun v9 w9 h9 => ?_)
    obtain ⟨h9, yw, rfl, hyw, hyx⟩ := h9
    subst w9
    show jWp 110 25 [some (jO x), some (jI (i1 : Int))] [jI yw] 0 0 w _
    refine jWp.ifz (pc' := 28) mt rfl rfl (b32_id (by omega) (by omega)) (fun h2 => ?_) (fun h2 => ?_)
    · have h2 : yw = 0 := h2
      refine jWp.blk mt 1 ?_
      show jWp 110 33 [some (jO x), some (jI (i1 : Int))] [jI 0] 0 0 w _
      refine jWp.ireti mt rfl ⟨rfl, rfl⟩ rfl ?_
      refine ⟨fun c0 => ?_, fun c0 => ?_⟩
      all_goals first
      | (exfalso; omega)
      | exact ⟨rfl, rfl⟩
      | exact ⟨rfl, _, rfl, by first | exact Or.inl rfl | exact Or.inr rfl, fun z => by first | rfl | (have := hyx z; omega)⟩
    · have h2 : yw ≠ 0 := h2
      refine jWp.blk mt 2 ?_
      show jWp 110 33 [some (jO x), some (jI (i1 : Int))] [jI 1] 0 0 w _
      refine jWp.ireti mt rfl ⟨rfl, rfl⟩ rfl ?_
      refine ⟨fun c0 => ?_, fun c0 => ?_⟩
      all_goals first
      | (exfalso; omega)
      | exact ⟨rfl, rfl⟩
      | exact ⟨rfl, _, rfl, by first | exact Or.inl rfl | exact Or.inr rfl, fun z => by first | rfl | (have := hyx z; omega)⟩
  · have h1 : ¬ (0 ≤ i ∧ i < (n : Int)) := h1
    show jWp 110 8 [some (jO x), some (jI i)] [jI 0] 0 0 w _
    refine jWp.ifc (b := false) mt rfl (by decide) rfl ?_
    show jWp 110 11 [some (jO x), some (jI i)] [] 0 0 w _
    refine jWp.blk mt 2 ?_
    show _ ∧ jWp 110 13 [some (jO x), some (jI i)] [jI (-1), jO x] 0 0 w _
    refine ⟨rfl, ?_⟩
    refine jWp.callv (as := [jO x, jI (-1)]) (rest := []) mt rfl rfl rfl ⟨rfl, jtg hX.X0⟩ ?_
    refine jCall.mono (C_refuse (w := w) (j := 0) hX (by decide) (by decide)) (fun v9 w9 h9 => ?_)
    obtain ⟨rfl, h9⟩ := h9
    subst h9
    show jWp 110 16 [some (jO x), some (jI i)] [jI (-1)] 0 0 (jW w (x + 362) 0 ((w.1 (x + 362) 0) + 1)) _
    refine jWp.ireti mt rfl ⟨rfl, rfl⟩ rfl ?_
    refine ⟨fun c0 => ?_, fun c0 => ?_⟩
    all_goals first
    | (exfalso; omega)
    | exact ⟨rfl, rfl⟩
    | exact ⟨rfl, _, rfl, by first | exact Or.inl rfl | exact Or.inr rfl, fun z => by first | rfl | (have := hyx z; omega)⟩
set_option maxHeartbeats 4000000 in
set_option maxRecDepth 20000 in
theorem C_sinks {w : jS} {x : Nat} (hX : CW w.2 x) {n : Nat} {q : Nat → Int} {g : Prop} (hQ : zQ q n) (hn0 : w.1 (x + 3) 0 = (n : Int)) (hRR : cR g (w.1 (x + 4)) q n) {a : Int} (hra : r32 a) : jCall 111 [jO x, jI a] w (fun v w1 => ((¬ (0 ≤ a ∧ a ≤ 1)) → cno w x 1 (jI (-2)) v w1) ∧ (¬ (¬ (0 ≤ a ∧ a ≤ 1)) → v = some (jI (zbt (zsi q a n) n)) ∧ w1 = w)) := by
  have mt : jtb 111 = jT111 := rfl
  have hn2 := hQ.S.n2
  have hn4 := hQ.S.n4
  have hra1 : -2147483648 ≤ a ∧ a < 2147483648 := hra
  show jWp 111 0 [some (jO x), some (jI a)] [] 0 0 w _
  refine jWp.blk mt 1 ?_
  show jWp 111 1 [some (jO x), some (jI a)] [jI a] 0 0 w _
  refine jWp.ifz (pc' := 4) mt rfl rfl (b32_id (by omega) (by omega)) (fun h1 => ?_) (fun h1 => ?_)
  · have h1 : a = 0 := h1
    refine jWp.blk mt 1 ?_
    show _ ∧ jWp 111 17 [some (jO x), some (jI a)] [jO x] 0 0 w _
    refine ⟨rfl, ?_⟩
    refine jWp.getR (pc' := 20) (o := (x + 3)) mt rfl rfl (jtg hX.X0) hX.R4 ?_
    show jWp 111 20 [some (jO x), some (jI a)] [jO (x + 3)] 0 0 w _
    refine jWp.blk mt 1 ?_
    show jWp 111 21 [some (jO x), some (jI a)] [jI a, jO (x + 3)] 0 0 w _
    refine jWp.ifz (pc' := 24) mt rfl rfl (b32_id (by omega) (by omega)) (fun h2 => ?_) (fun h2 => ?_)
    · have h2 : a ≠ 0 := h2
      refine jWp.blk mt 1 ?_
      show jWp 111 29 [some (jO x), some (jI a)] [jI 1, jO (x + 3)] 0 0 w _
      refine jWp.callv (as := [jO (x + 3), jI 1]) (rest := []) mt rfl rfl rfl ⟨rfl, jtg hX.X3⟩ ?_
      refine jCall.mono (C_without (w := w) (s := x + 3) (sc := x + 4) (n := n) (q := q) (a := a) hX.X3 hX.X4 hX.Rc hn0 hn4 hQ hRR.1 (by omega)) (fun v9 w9 h9 => ?_)
      obtain ⟨rfl, h9⟩ := h9
      subst w9
      show jWp 111 32 [some (jO x), some (jI a)] [jI (zbt (zsi q a n) n)] 0 0 w _
      refine jWp.ireti mt rfl ⟨rfl, rfl⟩ rfl ?_
      refine ⟨fun c0 => ?_, fun c0 => ?_⟩
      all_goals first
      | (exfalso; omega)
      | exact ⟨rfl, rfl⟩
    · have h2 : a = 0 := h2
      refine jWp.blk mt 2 ?_
      show jWp 111 29 [some (jO x), some (jI a)] [jI (-1), jO (x + 3)] 0 0 w _
      refine jWp.callv (as := [jO (x + 3), jI (-1)]) (rest := []) mt rfl rfl rfl ⟨rfl, jtg hX.X3⟩ ?_
      refine jCall.mono (C_without (w := w) (s := x + 3) (sc := x + 4) (n := n) (q := q) (a := a) hX.X3 hX.X4 hX.Rc hn0 hn4 hQ hRR.1 (by omega)) (fun v9 w9 h9 => ?_)
      obtain ⟨rfl, h9⟩ := h9
      subst w9
      show jWp 111 32 [some (jO x), some (jI a)] [jI (zbt (zsi q a n) n)] 0 0 w _
      refine jWp.ireti mt rfl ⟨rfl, rfl⟩ rfl ?_
      refine ⟨fun c0 => ?_, fun c0 => ?_⟩
      all_goals first
      | (exfalso; omega)
      | exact ⟨rfl, rfl⟩
  · have h1 : a ≠ 0 := h1
    refine jWp.blk mt 2 ?_
    show jWp 111 6 [some (jO x), some (jI a)] [jI 1, jI a] 0 0 w _
    refine jWp.icmp (pc' := 9) mt rfl rfl (b32_id (by omega) (by omega)) (show b32 1 = 1 by decide) (fun h3 => ?_) (fun h3 => ?_)
    · have h3 : a = 1 := h3
      refine jWp.blk mt 1 ?_
      show _ ∧ jWp 111 17 [some (jO x), some (jI a)] [jO x] 0 0 w _
      refine ⟨rfl, ?_⟩
      refine jWp.getR (pc' := 20) (o := (x + 3)) mt rfl rfl (jtg hX.X0) hX.R4 ?_
      show jWp 111 20 [some (jO x), some (jI a)] [jO (x + 3)] 0 0 w _
      refine jWp.blk mt 1 ?_
      show jWp 111 21 [some (jO x), some (jI a)] [jI a, jO (x + 3)] 0 0 w _
      refine jWp.ifz (pc' := 24) mt rfl rfl (b32_id (by omega) (by omega)) (fun h4 => ?_) (fun h4 => ?_)
      · have h4 : a ≠ 0 := h4
        refine jWp.blk mt 1 ?_
        show jWp 111 29 [some (jO x), some (jI a)] [jI 1, jO (x + 3)] 0 0 w _
        refine jWp.callv (as := [jO (x + 3), jI 1]) (rest := []) mt rfl rfl rfl ⟨rfl, jtg hX.X3⟩ ?_
        refine jCall.mono (C_without (w := w) (s := x + 3) (sc := x + 4) (n := n) (q := q) (a := a) hX.X3 hX.X4 hX.Rc hn0 hn4 hQ hRR.1 (by omega)) (fun v9 w9 h9 => ?_)
        obtain ⟨rfl, h9⟩ := h9
        subst w9
        show jWp 111 32 [some (jO x), some (jI a)] [jI (zbt (zsi q a n) n)] 0 0 w _
        refine jWp.ireti mt rfl ⟨rfl, rfl⟩ rfl ?_
        refine ⟨fun c0 => ?_, fun c0 => ?_⟩
        all_goals first
        | (exfalso; omega)
        | exact ⟨rfl, rfl⟩
      · have h4 : a = 0 := h4
        refine jWp.blk mt 2 ?_
        show jWp 111 29 [some (jO x), some (jI a)] [jI (-1), jO (x + 3)] 0 0 w _
        refine jWp.callv (as := [jO (x + 3), jI (-1)]) (rest := []) mt rfl rfl rfl ⟨rfl, jtg hX.X3⟩ ?_
        refine jCall.mono (C_without (w := w) (s := x + 3) (sc := x + 4) (n := n) (q := q) (a := a) hX.X3 hX.X4 hX.Rc hn0 hn4 hQ hRR.1 (by omega)) (fun v9 w9 h9 => ?_)
        obtain ⟨rfl, h9⟩ := h9
        subst w9
        show jWp 111 32 [some (jO x), some (jI a)] [jI (zbt (zsi q a n) n)] 0 0 w _
        refine jWp.ireti mt rfl ⟨rfl, rfl⟩ rfl ?_
        refine ⟨fun c0 => ?_, fun c0 => ?_⟩
        all_goals first
        | (exfalso; omega)
        | exact ⟨rfl, rfl⟩
    · have h3 : a ≠ 1 := h3
      refine jWp.blk mt 2 ?_
      show _ ∧ jWp 111 12 [some (jO x), some (jI a)] [jI (-2), jO x] 0 0 w _
      refine ⟨rfl, ?_⟩
      refine jWp.callv (as := [jO x, jI (-2)]) (rest := []) mt rfl rfl rfl ⟨rfl, jtg hX.X0⟩ ?_
      refine jCall.mono (C_refuse (w := w) (j := 1) hX (by decide) (by decide)) (fun v9 w9 h9 => ?_)
      obtain ⟨rfl, h9⟩ := h9
      subst h9
      show jWp 111 15 [some (jO x), some (jI a)] [jI (-2)] 0 0 (jW w (x + 362) 1 ((w.1 (x + 362) 1) + 1)) _
      refine jWp.ireti mt rfl ⟨rfl, rfl⟩ rfl ?_
      refine ⟨fun c0 => ?_, fun c0 => ?_⟩
      all_goals first
      | (exfalso; omega)
      | exact ⟨rfl, rfl⟩
end
section
/-- all but what is done in thought stands as it was -/
def cq (w : jS) (x : Nat) (w1 : jS) : Prop := w1.2 = w.2 ∧ ∀ b, (b < x + 7 ∨ x + 339 ≤ b) → b ≠ x + 360 → b ≠ x + 361 → w1.1 b = w.1 b
theorem cq_0 {w : jS} {x : Nat} : cq w x w := ⟨rfl, fun _ _ _ _ => rfl⟩
/-- a refusal behind such work -/
def cnq (w : jS) (x j : Nat) (y : jV) (v : Option jV) (w1 : jS) : Prop := v = some y ∧ ∃ w2, cq w x w2 ∧ w1 = jW w2 (x + 362) j (w.1 (x + 362) j + 1)
theorem cnq_0 {w w1 : jS} {x j : Nat} {y : jV} {v : Option jV} (h : cno w x j y v w1) : cnq w x j y v w1 := ⟨h.1, w, cq_0, h.2⟩
/-- the past behind one more seed -/
def cpst (w : jS) (x u : Nat) (w1 : jS) : Prop := (u < 8 ∧ w1.1 (x + 341) 0 = (u : Int) + 1 ∧ (∀ y, y < u → w1.1 (x + 341 + (2 + 2 * y)) = w.1 (x + 341 + (2 + 2 * y)) ∧ w1.1 (x + 341 + (3 + 2 * y)) = w.1 (x + 341 + (3 + 2 * y))) ∧ cpy w1.1 (x + 341 + (2 + 2 * u)) (x + 341 + (3 + 2 * u)) w.1 (x + 3) (x + 4)) ∨ (u = 8 ∧ w1.1 (x + 341) 0 = 8 ∧ (∀ y, y < 7 → cpy w1.1 (x + 341 + (2 + 2 * y)) (x + 341 + (3 + 2 * y)) w.1 (x + 341 + (2 + 2 * (y + 1))) (x + 341 + (3 + 2 * (y + 1)))) ∧ cpy w1.1 (x + 341 + (2 + 2 * 7)) (x + 341 + (3 + 2 * 7)) w.1 (x + 3) (x + 4))
theorem cpst_k {w wA wB w1 : jS} {x u : Nat} (h : cpst wA x u wB) (hA : ∀ b, (b = x + 3 ∨ b = x + 4 ∨ (x + 341 ≤ b ∧ b < x + 359)) → wA.1 b = w.1 b) (hB : ∀ b, (x + 341 ≤ b ∧ b < x + 359) → w1.1 b = wB.1 b) (hu : u ≤ 8) : cpst w x u w1 := by
  have cp : ∀ a b c d, (x + 341 ≤ a ∧ a < x + 359) → (x + 341 ≤ b ∧ b < x + 359) → (c = x + 3 ∨ c = x + 4 ∨ (x + 341 ≤ c ∧ c < x + 359)) → (d = x + 3 ∨ d = x + 4 ∨ (x + 341 ≤ d ∧ d < x + 359)) → cpy wB.1 a b wA.1 c d → cpy w1.1 a b w.1 c d := fun a b c d ha hb hc hd g => by
    unfold cpy
    rw [hB a ha, hB b hb, ← hA c hc, ← hA d hd]
    exact g
  rcases h with ⟨a1, a2, a3, a4⟩ | ⟨a1, a2, a3, a4⟩
  · refine Or.inl ⟨a1, (congrFun (hB _ (by omega)) 0).trans a2, fun y hy => ?_, cp _ _ _ _ (by omega) (by omega) (by omega) (by omega) a4⟩
    rw [hB _ (by omega), hB _ (by omega), ← hA _ (by omega), ← hA _ (by omega)]
    exact a3 y hy
  · exact Or.inr ⟨a1, (congrFun (hB _ (by omega)) 0).trans a2, fun y hy => cp _ _ _ _ (by omega) (by omega) (by omega) (by omega) (a3 y hy), cp _ _ _ _ (by omega) (by omega) (by omega) (by omega) a4⟩
theorem cR_F {g : Prop} {C q : Nat → Int} {n : Nat} (h : cR g C q n) : cR False C q n := ⟨h.1, fun z => z.elim, h.2.2⟩
set_option maxHeartbeats 4000000 in
set_option maxRecDepth 20000 in
theorem C_seed {w : jS} {x : Nat} (hX : CW w.2 x) {n : Nat} {q : Nat → Int} {g : Prop} (hQ : zQ q n) (hn0 : w.1 (x + 3) 0 = (n : Int)) (hRR : cR g (w.1 (x + 4)) q n) {i : Int} (hri : r32 i) : jCall 101 [jO x, jI i] w (fun v w1 => ((i < 2) → cno w x 3 (jI (-4)) v w1) ∧ (¬ (i < 2) → (4 < i) → cno w x 5 (jI (-6)) v w1) ∧ (¬ (i < 2) → ¬ (4 < i) → v = some (jI (n : Int)) ∧ w1.2 = w.2 ∧ (∀ b, b ≠ x + 3 → b ≠ x + 4 → b ≠ x + 341 → w1.1 b = w.1 b) ∧ w1.1 (x + 341) 0 = 0 ∧ w1.1 (x + 3) 0 = i ∧ ∀ g, cR g (w1.1 (x + 4)) (zNw i.toNat) i.toNat)) := by
  have mt : jtb 101 = jT101 := rfl
  have hn2 := hQ.S.n2
  have hn4 := hQ.S.n4
  have hri1 : -2147483648 ≤ i ∧ i < 2147483648 := hri
  show jWp 101 0 [some (jO x), some (jI i), none] [] 0 0 w _
  refine jWp.blk mt 2 ?_
  show jWp 101 2 [some (jO x), some (jI i), none] [jI 2, jI i] 0 0 w _
  refine jWp.icmp (pc' := 5) mt rfl rfl (b32_id (by omega) (by omega)) (show b32 2 = 2 by decide) (fun h1 => ?_) (fun h1 => ?_)
  · have h1 : 2 ≤ i := h1
    refine jWp.blk mt 2 ?_
    show jWp 101 14 [some (jO x), some (jI i), none] [jI 4, jI i] 0 0 w _
    refine jWp.icmp (pc' := 17) mt rfl rfl (b32_id (by omega) (by omega)) (show b32 4 = 4 by decide) (fun h2 => ?_) (fun h2 => ?_)
    · have h2 : i ≤ 4 := h2
      refine jWp.blk mt 1 ?_
      show _ ∧ jWp 101 25 [some (jO x), some (jI i), none] [jO x] 0 0 w _
      refine ⟨rfl, ?_⟩
      refine jWp.getR (pc' := 28) (o := (x + 3)) mt rfl rfl (jtg hX.X0) hX.R4 ?_
      show jWp 101 28 [some (jO x), some (jI i), none] [jO (x + 3)] 0 0 w _
      refine jWp.getI (pc' := 31) mt rfl rfl (jtg hX.X3) ?_
      rw [show (w.1 (x + 3) 0) = (n : Int) from hn0]
      show jWp 101 31 [some (jO x), some (jI i), none] [jI (n : Int)] 0 0 w _
      refine jWp.blk mt 2 ?_
      show _ ∧ jWp 101 33 [some (jO x), some (jI i), some (jI (n : Int))] [jO x] 0 0 w _
      refine ⟨rfl, ?_⟩
      refine jWp.getR (pc' := 36) (o := (x + 3)) mt rfl rfl (jtg hX.X0) hX.R4 ?_
      show jWp 101 36 [some (jO x), some (jI i), some (jI (n : Int))] [jO (x + 3)] 0 0 w _
      refine jWp.blk mt 1 ?_
      show jWp 101 37 [some (jO x), some (jI i), some (jI (n : Int))] [jI i, jO (x + 3)] 0 0 w _
      refine jWp.callv (as := [jO (x + 3), jI i]) (rest := []) mt rfl rfl rfl ⟨rfl, jtg hX.X3⟩ ?_
      refine jCall.mono (C_clear (w := w) (s := x + 3) (sc := x + 4) hX.X3 hX.X4 hX.Rc hri) (fun v9 w9 h9 => ?_)
      obtain ⟨rfl, hbf, hb0, hbc⟩ := h9.1 (by omega)
      obtain ⟨M1, G9⟩ := w9
      have hg : G9 = w.2 := hbf.1
      subst hg
      show jWp 101 40 [some (jO x), some (jI i), some (jI (n : Int))] [jI 1] 0 0 (M1, w.2) _
      refine jWp.blk mt 2 ?_
      show _ ∧ jWp 101 42 [some (jO x), some (jI i), some (jI (n : Int))] [jO x] 0 0 (M1, w.2) _
      refine ⟨rfl, ?_⟩
      refine jWp.getR (pc' := 45) (o := (x + 341)) mt rfl rfl (jtg hX.X0) hX.R10 ?_
      show jWp 101 45 [some (jO x), some (jI i), some (jI (n : Int))] [jO (x + 341)] 0 0 (M1, w.2) _
      refine jWp.callv (as := [jO (x + 341)]) (rest := []) mt rfl rfl rfl ⟨rfl, jtg hX.XP.1⟩ ?_
      refine jCall.mono (C_pforget (w := (M1, w.2)) (pa := x + 341) hX.XP.1) (fun v9 w9 h9 => ?_)
      obtain ⟨rfl, h9⟩ := h9
      subst h9
      show jWp 101 48 [some (jO x), some (jI i), some (jI (n : Int))] [] 0 0 (jW (M1, w.2) (x + 341) 0 0) _
      refine jWp.blk mt 1 ?_
      show jWp 101 49 [some (jO x), some (jI i), some (jI (n : Int))] [jI (n : Int)] 0 0 (jW (M1, w.2) (x + 341) 0 0) _
      refine jWp.ireti mt rfl ⟨rfl, rfl⟩ rfl ?_
      refine ⟨fun c0 => ?_, fun c0 c1 => ?_, fun c0 c1 => ?_⟩
      all_goals first
      | (exfalso; omega)
      | exact ⟨rfl, rfl⟩
      | exact ⟨rfl, rfl, fun b g1 g2 g3 => (jW_f g3).trans (hbf.2 b g1 g2), jW_s, (jW_a (by omega)).trans hb0, fun g => by rw [show (jW (M1, w.2) (x + 341) 0 0).1 (x + 4) = M1 (x + 4) from jW_f (by omega)]; exact hbc g⟩
    · have h2 : 4 < i := h2
      refine jWp.blk mt 2 ?_
      show _ ∧ jWp 101 20 [some (jO x), some (jI i), none] [jI (-6), jO x] 0 0 w _
      refine ⟨rfl, ?_⟩
      refine jWp.callv (as := [jO x, jI (-6)]) (rest := []) mt rfl rfl rfl ⟨rfl, jtg hX.X0⟩ ?_
      refine jCall.mono (C_refuse (w := w) (j := 5) hX (by decide) (by decide)) (fun v9 w9 h9 => ?_)
      obtain ⟨rfl, h9⟩ := h9
      subst h9
      show jWp 101 23 [some (jO x), some (jI i), none] [jI (-6)] 0 0 (jW w (x + 362) 5 ((w.1 (x + 362) 5) + 1)) _
      refine jWp.ireti mt rfl ⟨rfl, rfl⟩ rfl ?_
      refine ⟨fun c0 => ?_, fun c0 c1 => ?_, fun c0 c1 => ?_⟩
      all_goals first
      | (exfalso; omega)
      | exact ⟨rfl, rfl⟩
      | exact ⟨rfl, rfl, fun b g1 g2 g3 => (jW_f g3).trans (hbf.2 b g1 g2), jW_s, (jW_a (by omega)).trans hb0, fun g => by rw [show (jW (M1, w.2) (x + 341) 0 0).1 (x + 4) = M1 (x + 4) from jW_f (by omega)]; exact hbc g⟩
  · have h1 : i < 2 := h1
    refine jWp.blk mt 2 ?_
    show _ ∧ jWp 101 8 [some (jO x), some (jI i), none] [jI (-4), jO x] 0 0 w _
    refine ⟨rfl, ?_⟩
    refine jWp.callv (as := [jO x, jI (-4)]) (rest := []) mt rfl rfl rfl ⟨rfl, jtg hX.X0⟩ ?_
    refine jCall.mono (C_refuse (w := w) (j := 3) hX (by decide) (by decide)) (fun v9 w9 h9 => ?_)
    obtain ⟨rfl, h9⟩ := h9
    subst h9
    show jWp 101 11 [some (jO x), some (jI i), none] [jI (-4)] 0 0 (jW w (x + 362) 3 ((w.1 (x + 362) 3) + 1)) _
    refine jWp.ireti mt rfl ⟨rfl, rfl⟩ rfl ?_
    refine ⟨fun c0 => ?_, fun c0 c1 => ?_, fun c0 c1 => ?_⟩
    all_goals first
    | (exfalso; omega)
    | exact ⟨rfl, rfl⟩
    | exact ⟨rfl, rfl, fun b g1 g2 g3 => (jW_f g3).trans (hbf.2 b g1 g2), jW_s, (jW_a (by omega)).trans hb0, fun g => by rw [show (jW (M1, w.2) (x + 341) 0 0).1 (x + 4) = M1 (x + 4) from jW_f (by omega)]; exact hbc g⟩
set_option maxHeartbeats 4000000 in
set_option maxRecDepth 20000 in
theorem C_table {w : jS} {x : Nat} (hX : CW w.2 x) {n : Nat} {q : Nat → Int} {g : Prop} (hQ : zQ q n) (hn0 : w.1 (x + 3) 0 = (n : Int)) (hRR : cR g (w.1 (x + 4)) q n) {i j y : Int} (hri : r32 i) (hrj : r32 j) (hry : r32 y) : jCall 102 [jO x, jI i, jI j, jI y] w (fun v w1 => ((¬ (0 ≤ i ∧ i < (n : Int)) ∨ ¬ (0 ≤ j ∧ j < (n : Int)) ∨ i = j) → cno w x 0 (jI (1000000000 - (-1))) v w1) ∧ (¬ (¬ (0 ≤ i ∧ i < (n : Int)) ∨ ¬ (0 ≤ j ∧ j < (n : Int)) ∨ i = j) → (y < -9) → cno w x 3 (jI (1000000000 - (-4))) v w1) ∧ (¬ (¬ (0 ≤ i ∧ i < (n : Int)) ∨ ¬ (0 ≤ j ∧ j < (n : Int)) ∨ i = j) → ¬ (y < -9) → (9 < y) → cno w x 5 (jI (1000000000 - (-6))) v w1) ∧ (¬ (¬ (0 ≤ i ∧ i < (n : Int)) ∨ ¬ (0 ≤ j ∧ j < (n : Int)) ∨ i = j) → ¬ (y < -9) → ¬ (9 < y) → v = some (jI (q (1 + (4 * i.toNat + j.toNat)))) ∧ w1.2 = w.2 ∧ (∀ b, b ≠ x + 4 → b ≠ x + 341 → w1.1 b = w.1 b) ∧ w1.1 (x + 341) 0 = 0 ∧ cR g (w1.1 (x + 4)) (zBg (zset (zset q (1 + (4 * i.toNat + j.toNat)) y) (1 + (4 * j.toNat + i.toNat)) (-y))) n)) := by
  have mt : jtb 102 = jT102 := rfl
  have hn2 := hQ.S.n2
  have hn4 := hQ.S.n4
  have hri1 : -2147483648 ≤ i ∧ i < 2147483648 := hri
  have hrj1 : -2147483648 ≤ j ∧ j < 2147483648 := hrj
  have hry1 : -2147483648 ≤ y ∧ y < 2147483648 := hry
  show jWp 102 0 [some (jO x), some (jI i), some (jI j), some (jI y), none] [] 0 0 w _
  refine jWp.blk mt 1 ?_
  show _ ∧ jWp 102 1 [some (jO x), some (jI i), some (jI j), some (jI y), none] [jO x] 0 0 w _
  refine ⟨rfl, ?_⟩
  refine jWp.getR (pc' := 4) (o := (x + 3)) mt rfl rfl (jtg hX.X0) hX.R4 ?_
  show jWp 102 4 [some (jO x), some (jI i), some (jI j), some (jI y), none] [jO (x + 3)] 0 0 w _
  refine jWp.blk mt 1 ?_
  show jWp 102 5 [some (jO x), some (jI i), some (jI j), some (jI y), none] [jI i, jO (x + 3)] 0 0 w _
  refine jWp.callv (as := [jO (x + 3), jI i]) (rest := []) mt rfl rfl rfl ⟨rfl, jtg hX.X3⟩ ?_
  refine jCall.mono (E_has (w := w) (s := x + 3) (n := n) hX.X3 hn0 hn4 hri) (fun v9 w9 h9 => ?_)
  rcases h9 with ⟨rfl, h9, h1⟩ | ⟨rfl, h9, h1⟩ <;> subst w9
  · have h1 : 0 ≤ i ∧ i < (n : Int) := h1
    show jWp 102 8 [some (jO x), some (jI i), some (jI j), some (jI y), none] [jI 1] 0 0 w _
    obtain ⟨i1, rfl⟩ : ∃ i1 : Nat, i = (i1 : Int) := ⟨i.toNat, by omega⟩
    show jWp 102 8 [some (jO x), some (jI (i1 : Int)), some (jI j), some (jI y), none] [jI 1] 0 0 w _
    refine jWp.ifc (b := false) mt rfl (by decide) rfl ?_
    show jWp 102 11 [some (jO x), some (jI (i1 : Int)), some (jI j), some (jI y), none] [] 0 0 w _
    refine jWp.blk mt 1 ?_
    show _ ∧ jWp 102 12 [some (jO x), some (jI (i1 : Int)), some (jI j), some (jI y), none] [jO x] 0 0 w _
    refine ⟨rfl, ?_⟩
    refine jWp.getR (pc' := 15) (o := (x + 3)) mt rfl rfl (jtg hX.X0) hX.R4 ?_
    show jWp 102 15 [some (jO x), some (jI (i1 : Int)), some (jI j), some (jI y), none] [jO (x + 3)] 0 0 w _
    refine jWp.blk mt 1 ?_
    show jWp 102 16 [some (jO x), some (jI (i1 : Int)), some (jI j), some (jI y), none] [jI j, jO (x + 3)] 0 0 w _
    refine jWp.callv (as := [jO (x + 3), jI j]) (rest := []) mt rfl rfl rfl ⟨rfl, jtg hX.X3⟩ ?_
    refine jCall.mono (E_has (w := w) (s := x + 3) (n := n) hX.X3 hn0 hn4 hrj) (fun v9 w9 h9 => ?_)
    rcases h9 with ⟨rfl, h9, h2⟩ | ⟨rfl, h9, h2⟩ <;> subst w9
    · have h2 : 0 ≤ j ∧ j < (n : Int) := h2
      show jWp 102 19 [some (jO x), some (jI (i1 : Int)), some (jI j), some (jI y), none] [jI 1] 0 0 w _
      obtain ⟨j1, rfl⟩ : ∃ j1 : Nat, j = (j1 : Int) := ⟨j.toNat, by omega⟩
      show jWp 102 19 [some (jO x), some (jI (i1 : Int)), some (jI (j1 : Int)), some (jI y), none] [jI 1] 0 0 w _
      refine jWp.ifc (b := false) mt rfl (by decide) rfl ?_
      show jWp 102 22 [some (jO x), some (jI (i1 : Int)), some (jI (j1 : Int)), some (jI y), none] [] 0 0 w _
      refine jWp.blk mt 2 ?_
      show jWp 102 24 [some (jO x), some (jI (i1 : Int)), some (jI (j1 : Int)), some (jI y), none] [jI (j1 : Int), jI (i1 : Int)] 0 0 w _
      refine jWp.icmp (pc' := 27) mt rfl rfl (b32_id (by omega) (by omega)) (b32_id (by omega) (by omega)) (fun h3 => ?_) (fun h3 => ?_)
      · have h3 : (i1 : Int) ≠ (j1 : Int) := h3
        refine jWp.blk mt 2 ?_
        show jWp 102 36 [some (jO x), some (jI (i1 : Int)), some (jI (j1 : Int)), some (jI y), none] [jI (-9), jI y] 0 0 w _
        refine jWp.icmp (pc' := 39) mt rfl rfl (b32_id (by omega) (by omega)) (show b32 (-9) = (-9) by decide) (fun h4 => ?_) (fun h4 => ?_)
        · have h4 : (-9) ≤ y := h4
          refine jWp.blk mt 2 ?_
          show jWp 102 49 [some (jO x), some (jI (i1 : Int)), some (jI (j1 : Int)), some (jI y), none] [jI 9, jI y] 0 0 w _
          refine jWp.icmp (pc' := 52) mt rfl rfl (b32_id (by omega) (by omega)) (show b32 9 = 9 by decide) (fun h5 => ?_) (fun h5 => ?_)
          · have h5 : y ≤ 9 := h5
            refine jWp.blk mt 1 ?_
            show _ ∧ jWp 102 60 [some (jO x), some (jI (i1 : Int)), some (jI (j1 : Int)), some (jI y), none] [jO x] 0 0 w _
            refine ⟨rfl, ?_⟩
            refine jWp.getR (pc' := 63) (o := (x + 3)) mt rfl rfl (jtg hX.X0) hX.R4 ?_
            show jWp 102 63 [some (jO x), some (jI (i1 : Int)), some (jI (j1 : Int)), some (jI y), none] [jO (x + 3)] 0 0 w _
            refine jWp.blk mt 2 ?_
            show jWp 102 65 [some (jO x), some (jI (i1 : Int)), some (jI (j1 : Int)), some (jI y), none] [jI (j1 : Int), jI (i1 : Int), jO (x + 3)] 0 0 w _
            refine jWp.callv (as := [jO (x + 3), jI (i1 : Int), jI (j1 : Int)]) (rest := []) mt rfl rfl rfl ⟨rfl, jtg hX.X3⟩ ?_
            refine jCall.mono ((by have h := E_sb (w := w) (sc := x + 4) (i := i1) (j := j1) hX.X3 hX.X4 hX.Rc (by omega) (by omega); rw [show w.1 (x + 4) (8 + (4 * i1 + j1)) = q (1 + (4 * i1 + j1)) from (hRR.1 _ (by omega)).trans (cz_b (by omega))] at h; exact h)) (fun v9 w9 h9 => ?_)
            obtain ⟨rfl, h9⟩ := h9
            subst w9
            show jWp 102 68 [some (jO x), some (jI (i1 : Int)), some (jI (j1 : Int)), some (jI y), none] [jI (q (1 + (4 * i1 + j1)))] 0 0 w _
            refine jWp.blk mt 2 ?_
            show _ ∧ jWp 102 71 [some (jO x), some (jI (i1 : Int)), some (jI (j1 : Int)), some (jI y), some (jI (q (1 + (4 * i1 + j1))))] [jO x] 0 0 w _
            refine ⟨rfl, ?_⟩
            refine jWp.getR (pc' := 74) (o := (x + 3)) mt rfl rfl (jtg hX.X0) hX.R4 ?_
            show jWp 102 74 [some (jO x), some (jI (i1 : Int)), some (jI (j1 : Int)), some (jI y), some (jI (q (1 + (4 * i1 + j1))))] [jO (x + 3)] 0 0 w _
            refine jWp.blk mt 3 ?_
            show jWp 102 77 [some (jO x), some (jI (i1 : Int)), some (jI (j1 : Int)), some (jI y), some (jI (q (1 + (4 * i1 + j1))))] [jI y, jI (j1 : Int), jI (i1 : Int), jO (x + 3)] 0 0 w _
            refine jWp.callv (as := [jO (x + 3), jI (i1 : Int), jI (j1 : Int), jI y]) (rest := []) mt rfl rfl rfl ⟨rfl, jtg hX.X3⟩ ?_
            refine jCall.mono (C_tellEntry (w := w) (s := x + 3) (sc := x + 4) hX.X3 hX.X4 hX.Rc hn0 hn4 hRR hri hrj hry) (fun v9 w9 h9 => ?_)
            obtain ⟨rfl, hbf, hbc⟩ := h9.1 (by omega)
            obtain ⟨M1, G9⟩ := w9
            have hg : G9 = w.2 := hbf.1
            subst hg
            show jWp 102 80 [some (jO x), some (jI (i1 : Int)), some (jI (j1 : Int)), some (jI y), some (jI (q (1 + (4 * i1 + j1))))] [jI 1] 0 0 (M1, w.2) _
            refine jWp.blk mt 2 ?_
            show _ ∧ jWp 102 82 [some (jO x), some (jI (i1 : Int)), some (jI (j1 : Int)), some (jI y), some (jI (q (1 + (4 * i1 + j1))))] [jO x] 0 0 (M1, w.2) _
            refine ⟨rfl, ?_⟩
            refine jWp.getR (pc' := 85) (o := (x + 341)) mt rfl rfl (jtg hX.X0) hX.R10 ?_
            show jWp 102 85 [some (jO x), some (jI (i1 : Int)), some (jI (j1 : Int)), some (jI y), some (jI (q (1 + (4 * i1 + j1))))] [jO (x + 341)] 0 0 (M1, w.2) _
            refine jWp.callv (as := [jO (x + 341)]) (rest := []) mt rfl rfl rfl ⟨rfl, jtg hX.XP.1⟩ ?_
            refine jCall.mono (C_pforget (w := (M1, w.2)) (pa := x + 341) hX.XP.1) (fun v9 w9 h9 => ?_)
            obtain ⟨rfl, h9⟩ := h9
            subst h9
            show jWp 102 88 [some (jO x), some (jI (i1 : Int)), some (jI (j1 : Int)), some (jI y), some (jI (q (1 + (4 * i1 + j1))))] [] 0 0 (jW (M1, w.2) (x + 341) 0 0) _
            refine jWp.blk mt 1 ?_
            show jWp 102 90 [some (jO x), some (jI (i1 : Int)), some (jI (j1 : Int)), some (jI y), some (jI (q (1 + (4 * i1 + j1))))] [jI (q (1 + (4 * i1 + j1)))] 0 0 (jW (M1, w.2) (x + 341) 0 0) _
            refine jWp.ireti mt rfl ⟨rfl, rfl⟩ rfl ?_
            refine ⟨fun c0 => ?_, fun c0 c1 => ?_, fun c0 c1 c2 => ?_, fun c0 c1 c2 => ?_⟩
            all_goals first
            | (exfalso; omega)
            | exact ⟨rfl, rfl⟩
            | exact ⟨rfl, rfl, fun b g1 g2 => (jW_f g2).trans (hbf.2 b g1), jW_s, by rw [show (jW (M1, w.2) (x + 341) 0 0).1 (x + 4) = M1 (x + 4) from jW_f (by omega)]; exact hbc⟩
          · have h5 : 9 < y := h5
            refine jWp.blk mt 2 ?_
            show _ ∧ jWp 102 55 [some (jO x), some (jI (i1 : Int)), some (jI (j1 : Int)), some (jI y), none] [jI (-6), jO x] 0 0 w _
            refine ⟨rfl, ?_⟩
            refine jWp.callv (as := [jO x, jI (-6)]) (rest := []) mt rfl rfl rfl ⟨rfl, jtg hX.X0⟩ ?_
            refine jCall.mono (C_far (w := w) (j := 5) hX (by decide) (by decide)) (fun v9 w9 h9 => ?_)
            obtain ⟨rfl, h9⟩ := h9
            subst h9
            show jWp 102 58 [some (jO x), some (jI (i1 : Int)), some (jI (j1 : Int)), some (jI y), none] [jI (1000000000 - (-6))] 0 0 (jW w (x + 362) 5 ((w.1 (x + 362) 5) + 1)) _
            refine jWp.ireti mt rfl ⟨rfl, rfl⟩ rfl ?_
            refine ⟨fun c0 => ?_, fun c0 c1 => ?_, fun c0 c1 c2 => ?_, fun c0 c1 c2 => ?_⟩
            all_goals first
            | (exfalso; omega)
            | exact ⟨rfl, rfl⟩
            | exact ⟨rfl, rfl, fun b g1 g2 => (jW_f g2).trans (hbf.2 b g1), jW_s, by rw [show (jW (M1, w.2) (x + 341) 0 0).1 (x + 4) = M1 (x + 4) from jW_f (by omega)]; exact hbc⟩
        · have h4 : y < (-9) := h4
          refine jWp.blk mt 2 ?_
          show _ ∧ jWp 102 42 [some (jO x), some (jI (i1 : Int)), some (jI (j1 : Int)), some (jI y), none] [jI (-4), jO x] 0 0 w _
          refine ⟨rfl, ?_⟩
          refine jWp.callv (as := [jO x, jI (-4)]) (rest := []) mt rfl rfl rfl ⟨rfl, jtg hX.X0⟩ ?_
          refine jCall.mono (C_far (w := w) (j := 3) hX (by decide) (by decide)) (fun v9 w9 h9 => ?_)
          obtain ⟨rfl, h9⟩ := h9
          subst h9
          show jWp 102 45 [some (jO x), some (jI (i1 : Int)), some (jI (j1 : Int)), some (jI y), none] [jI (1000000000 - (-4))] 0 0 (jW w (x + 362) 3 ((w.1 (x + 362) 3) + 1)) _
          refine jWp.ireti mt rfl ⟨rfl, rfl⟩ rfl ?_
          refine ⟨fun c0 => ?_, fun c0 c1 => ?_, fun c0 c1 c2 => ?_, fun c0 c1 c2 => ?_⟩
          all_goals first
          | (exfalso; omega)
          | exact ⟨rfl, rfl⟩
          | exact ⟨rfl, rfl, fun b g1 g2 => (jW_f g2).trans (hbf.2 b g1), jW_s, by rw [show (jW (M1, w.2) (x + 341) 0 0).1 (x + 4) = M1 (x + 4) from jW_f (by omega)]; exact hbc⟩
      · have h3 : (i1 : Int) = (j1 : Int) := h3
        refine jWp.blk mt 2 ?_
        show _ ∧ jWp 102 29 [some (jO x), some (jI (i1 : Int)), some (jI (j1 : Int)), some (jI y), none] [jI (-1), jO x] 0 0 w _
        refine ⟨rfl, ?_⟩
        refine jWp.callv (as := [jO x, jI (-1)]) (rest := []) mt rfl rfl rfl ⟨rfl, jtg hX.X0⟩ ?_
        refine jCall.mono (C_far (w := w) (j := 0) hX (by decide) (by decide)) (fun v9 w9 h9 => ?_)
        obtain ⟨rfl, h9⟩ := h9
        subst h9
        show jWp 102 32 [some (jO x), some (jI (i1 : Int)), some (jI (j1 : Int)), some (jI y), none] [jI (1000000000 - (-1))] 0 0 (jW w (x + 362) 0 ((w.1 (x + 362) 0) + 1)) _
        refine jWp.ireti mt rfl ⟨rfl, rfl⟩ rfl ?_
        refine ⟨fun c0 => ?_, fun c0 c1 => ?_, fun c0 c1 c2 => ?_, fun c0 c1 c2 => ?_⟩
        all_goals first
        | (exfalso; omega)
        | exact ⟨rfl, rfl⟩
        | exact ⟨rfl, rfl, fun b g1 g2 => (jW_f g2).trans (hbf.2 b g1), jW_s, by rw [show (jW (M1, w.2) (x + 341) 0 0).1 (x + 4) = M1 (x + 4) from jW_f (by omega)]; exact hbc⟩
    · have h2 : ¬ (0 ≤ j ∧ j < (n : Int)) := h2
      show jWp 102 19 [some (jO x), some (jI (i1 : Int)), some (jI j), some (jI y), none] [jI 0] 0 0 w _
      refine jWp.ifc (b := true) mt rfl (by decide) rfl ?_
      show jWp 102 27 [some (jO x), some (jI (i1 : Int)), some (jI j), some (jI y), none] [] 0 0 w _
      refine jWp.blk mt 2 ?_
      show _ ∧ jWp 102 29 [some (jO x), some (jI (i1 : Int)), some (jI j), some (jI y), none] [jI (-1), jO x] 0 0 w _
      refine ⟨rfl, ?_⟩
      refine jWp.callv (as := [jO x, jI (-1)]) (rest := []) mt rfl rfl rfl ⟨rfl, jtg hX.X0⟩ ?_
      refine jCall.mono (C_far (w := w) (j := 0) hX (by decide) (by decide)) (fun v9 w9 h9 => ?_)
      obtain ⟨rfl, h9⟩ := h9
      subst h9
      show jWp 102 32 [some (jO x), some (jI (i1 : Int)), some (jI j), some (jI y), none] [jI (1000000000 - (-1))] 0 0 (jW w (x + 362) 0 ((w.1 (x + 362) 0) + 1)) _
      refine jWp.ireti mt rfl ⟨rfl, rfl⟩ rfl ?_
      refine ⟨fun c0 => ?_, fun c0 c1 => ?_, fun c0 c1 c2 => ?_, fun c0 c1 c2 => ?_⟩
      all_goals first
      | (exfalso; omega)
      | exact ⟨rfl, rfl⟩
      | exact ⟨rfl, rfl, fun b g1 g2 => (jW_f g2).trans (hbf.2 b g1), jW_s, by rw [show (jW (M1, w.2) (x + 341) 0 0).1 (x + 4) = M1 (x + 4) from jW_f (by omega)]; exact hbc⟩
  · have h1 : ¬ (0 ≤ i ∧ i < (n : Int)) := h1
    show jWp 102 8 [some (jO x), some (jI i), some (jI j), some (jI y), none] [jI 0] 0 0 w _
    refine jWp.ifc (b := true) mt rfl (by decide) rfl ?_
    show jWp 102 27 [some (jO x), some (jI i), some (jI j), some (jI y), none] [] 0 0 w _
    refine jWp.blk mt 2 ?_
    show _ ∧ jWp 102 29 [some (jO x), some (jI i), some (jI j), some (jI y), none] [jI (-1), jO x] 0 0 w _
    refine ⟨rfl, ?_⟩
    refine jWp.callv (as := [jO x, jI (-1)]) (rest := []) mt rfl rfl rfl ⟨rfl, jtg hX.X0⟩ ?_
    refine jCall.mono (C_far (w := w) (j := 0) hX (by decide) (by decide)) (fun v9 w9 h9 => ?_)
    obtain ⟨rfl, h9⟩ := h9
    subst h9
    show jWp 102 32 [some (jO x), some (jI i), some (jI j), some (jI y), none] [jI (1000000000 - (-1))] 0 0 (jW w (x + 362) 0 ((w.1 (x + 362) 0) + 1)) _
    refine jWp.ireti mt rfl ⟨rfl, rfl⟩ rfl ?_
    refine ⟨fun c0 => ?_, fun c0 c1 => ?_, fun c0 c1 c2 => ?_, fun c0 c1 c2 => ?_⟩
    all_goals first
    | (exfalso; omega)
    | exact ⟨rfl, rfl⟩
    | exact ⟨rfl, rfl, fun b g1 g2 => (jW_f g2).trans (hbf.2 b g1), jW_s, by rw [show (jW (M1, w.2) (x + 341) 0 0).1 (x + 4) = M1 (x + 4) from jW_f (by omega)]; exact hbc⟩
set_option maxHeartbeats 4000000 in
set_option maxRecDepth 20000 in
theorem C_begins {w : jS} {x : Nat} (hX : CW w.2 x) {n : Nat} {q : Nat → Int} {g : Prop} (hQ : zQ q n) (hn0 : w.1 (x + 3) 0 = (n : Int)) (hRR : cR g (w.1 (x + 4)) q n) {i y : Int} (hri : r32 i) (hry : r32 y) : jCall 103 [jO x, jI i, jI y] w (fun v w1 => ((¬ (0 ≤ i ∧ i < (n : Int))) → cno w x 0 (jI (-1)) v w1) ∧ (¬ (¬ (0 ≤ i ∧ i < (n : Int))) → (y < 1) → cno w x 3 (jI (-4)) v w1) ∧ (¬ (¬ (0 ≤ i ∧ i < (n : Int))) → ¬ (y < 1) → (9 < y) → cno w x 5 (jI (-6)) v w1) ∧ (¬ (¬ (0 ≤ i ∧ i < (n : Int))) → ¬ (y < 1) → ¬ (9 < y) → v = some (jI (q (17 + i.toNat))) ∧ w1.2 = w.2 ∧ (∀ b, b ≠ x + 4 → b ≠ x + 341 → w1.1 b = w.1 b) ∧ w1.1 (x + 341) 0 = 0 ∧ cR g (w1.1 (x + 4)) (zBg (zset q (17 + i.toNat) y)) n)) := by
  have mt : jtb 103 = jT103 := rfl
  have hn2 := hQ.S.n2
  have hn4 := hQ.S.n4
  have hri1 : -2147483648 ≤ i ∧ i < 2147483648 := hri
  have hry1 : -2147483648 ≤ y ∧ y < 2147483648 := hry
  show jWp 103 0 [some (jO x), some (jI i), some (jI y), none] [] 0 0 w _
  refine jWp.blk mt 1 ?_
  show _ ∧ jWp 103 1 [some (jO x), some (jI i), some (jI y), none] [jO x] 0 0 w _
  refine ⟨rfl, ?_⟩
  refine jWp.getR (pc' := 4) (o := (x + 3)) mt rfl rfl (jtg hX.X0) hX.R4 ?_
  show jWp 103 4 [some (jO x), some (jI i), some (jI y), none] [jO (x + 3)] 0 0 w _
  refine jWp.blk mt 1 ?_
  show jWp 103 5 [some (jO x), some (jI i), some (jI y), none] [jI i, jO (x + 3)] 0 0 w _
  refine jWp.callv (as := [jO (x + 3), jI i]) (rest := []) mt rfl rfl rfl ⟨rfl, jtg hX.X3⟩ ?_
  refine jCall.mono (E_has (w := w) (s := x + 3) (n := n) hX.X3 hn0 hn4 hri) (fun v9 w9 h9 => ?_)
  rcases h9 with ⟨rfl, h9, h1⟩ | ⟨rfl, h9, h1⟩ <;> subst w9
  · have h1 : 0 ≤ i ∧ i < (n : Int) := h1
    show jWp 103 8 [some (jO x), some (jI i), some (jI y), none] [jI 1] 0 0 w _
    obtain ⟨i1, rfl⟩ : ∃ i1 : Nat, i = (i1 : Int) := ⟨i.toNat, by omega⟩
    show jWp 103 8 [some (jO x), some (jI (i1 : Int)), some (jI y), none] [jI 1] 0 0 w _
    refine jWp.ifc (b := true) mt rfl (by decide) rfl ?_
    show jWp 103 17 [some (jO x), some (jI (i1 : Int)), some (jI y), none] [] 0 0 w _
    refine jWp.blk mt 2 ?_
    show jWp 103 19 [some (jO x), some (jI (i1 : Int)), some (jI y), none] [jI 1, jI y] 0 0 w _
    refine jWp.icmp (pc' := 22) mt rfl rfl (b32_id (by omega) (by omega)) (show b32 1 = 1 by decide) (fun h2 => ?_) (fun h2 => ?_)
    · have h2 : 1 ≤ y := h2
      refine jWp.blk mt 2 ?_
      show jWp 103 32 [some (jO x), some (jI (i1 : Int)), some (jI y), none] [jI 9, jI y] 0 0 w _
      refine jWp.icmp (pc' := 35) mt rfl rfl (b32_id (by omega) (by omega)) (show b32 9 = 9 by decide) (fun h3 => ?_) (fun h3 => ?_)
      · have h3 : y ≤ 9 := h3
        refine jWp.blk mt 1 ?_
        show _ ∧ jWp 103 43 [some (jO x), some (jI (i1 : Int)), some (jI y), none] [jO x] 0 0 w _
        refine ⟨rfl, ?_⟩
        refine jWp.getR (pc' := 46) (o := (x + 3)) mt rfl rfl (jtg hX.X0) hX.R4 ?_
        show jWp 103 46 [some (jO x), some (jI (i1 : Int)), some (jI y), none] [jO (x + 3)] 0 0 w _
        refine jWp.blk mt 1 ?_
        show jWp 103 47 [some (jO x), some (jI (i1 : Int)), some (jI y), none] [jI (i1 : Int), jO (x + 3)] 0 0 w _
        refine jWp.callv (as := [jO (x + 3), jI (i1 : Int)]) (rest := []) mt rfl rfl rfl ⟨rfl, jtg hX.X3⟩ ?_
        refine jCall.mono ((by have h := E_sf (w := w) (sc := x + 4) (n := n) (i := i1) hX.X3 hX.X4 hX.Rc hn0 hn4 (by omega); rw [show w.1 (x + 4) (24 + i1) = q (17 + i1) from (hRR.1 _ (by omega)).trans (cz_s hn4 (by omega))] at h; exact h)) (fun v9 w9 h9 => ?_)
        obtain ⟨rfl, h9⟩ := h9
        subst w9
        show jWp 103 50 [some (jO x), some (jI (i1 : Int)), some (jI y), none] [jI (q (17 + i1))] 0 0 w _
        refine jWp.blk mt 2 ?_
        show _ ∧ jWp 103 52 [some (jO x), some (jI (i1 : Int)), some (jI y), some (jI (q (17 + i1)))] [jO x] 0 0 w _
        refine ⟨rfl, ?_⟩
        refine jWp.getR (pc' := 55) (o := (x + 3)) mt rfl rfl (jtg hX.X0) hX.R4 ?_
        show jWp 103 55 [some (jO x), some (jI (i1 : Int)), some (jI y), some (jI (q (17 + i1)))] [jO (x + 3)] 0 0 w _
        refine jWp.blk mt 2 ?_
        show jWp 103 57 [some (jO x), some (jI (i1 : Int)), some (jI y), some (jI (q (17 + i1)))] [jI y, jI (i1 : Int), jO (x + 3)] 0 0 w _
        refine jWp.callv (as := [jO (x + 3), jI (i1 : Int), jI y]) (rest := []) mt rfl rfl rfl ⟨rfl, jtg hX.X3⟩ ?_
        refine jCall.mono (C_tellFirst (w := w) (s := x + 3) (sc := x + 4) hX.X3 hX.X4 hX.Rc hn0 hn4 hRR hri hry) (fun v9 w9 h9 => ?_)
        obtain ⟨rfl, hbf, hbc⟩ := h9.1 (by omega)
        obtain ⟨M1, G9⟩ := w9
        have hg : G9 = w.2 := hbf.1
        subst hg
        show jWp 103 60 [some (jO x), some (jI (i1 : Int)), some (jI y), some (jI (q (17 + i1)))] [jI 1] 0 0 (M1, w.2) _
        refine jWp.blk mt 2 ?_
        show _ ∧ jWp 103 62 [some (jO x), some (jI (i1 : Int)), some (jI y), some (jI (q (17 + i1)))] [jO x] 0 0 (M1, w.2) _
        refine ⟨rfl, ?_⟩
        refine jWp.getR (pc' := 65) (o := (x + 341)) mt rfl rfl (jtg hX.X0) hX.R10 ?_
        show jWp 103 65 [some (jO x), some (jI (i1 : Int)), some (jI y), some (jI (q (17 + i1)))] [jO (x + 341)] 0 0 (M1, w.2) _
        refine jWp.callv (as := [jO (x + 341)]) (rest := []) mt rfl rfl rfl ⟨rfl, jtg hX.XP.1⟩ ?_
        refine jCall.mono (C_pforget (w := (M1, w.2)) (pa := x + 341) hX.XP.1) (fun v9 w9 h9 => ?_)
        obtain ⟨rfl, h9⟩ := h9
        subst h9
        show jWp 103 68 [some (jO x), some (jI (i1 : Int)), some (jI y), some (jI (q (17 + i1)))] [] 0 0 (jW (M1, w.2) (x + 341) 0 0) _
        refine jWp.blk mt 1 ?_
        show jWp 103 69 [some (jO x), some (jI (i1 : Int)), some (jI y), some (jI (q (17 + i1)))] [jI (q (17 + i1))] 0 0 (jW (M1, w.2) (x + 341) 0 0) _
        refine jWp.ireti mt rfl ⟨rfl, rfl⟩ rfl ?_
        refine ⟨fun c0 => ?_, fun c0 c1 => ?_, fun c0 c1 c2 => ?_, fun c0 c1 c2 => ?_⟩
        all_goals first
        | (exfalso; omega)
        | exact ⟨rfl, rfl⟩
        | exact ⟨rfl, rfl, fun b g1 g2 => (jW_f g2).trans (hbf.2 b g1), jW_s, by rw [show (jW (M1, w.2) (x + 341) 0 0).1 (x + 4) = M1 (x + 4) from jW_f (by omega)]; exact hbc⟩
      · have h3 : 9 < y := h3
        refine jWp.blk mt 2 ?_
        show _ ∧ jWp 103 38 [some (jO x), some (jI (i1 : Int)), some (jI y), none] [jI (-6), jO x] 0 0 w _
        refine ⟨rfl, ?_⟩
        refine jWp.callv (as := [jO x, jI (-6)]) (rest := []) mt rfl rfl rfl ⟨rfl, jtg hX.X0⟩ ?_
        refine jCall.mono (C_refuse (w := w) (j := 5) hX (by decide) (by decide)) (fun v9 w9 h9 => ?_)
        obtain ⟨rfl, h9⟩ := h9
        subst h9
        show jWp 103 41 [some (jO x), some (jI (i1 : Int)), some (jI y), none] [jI (-6)] 0 0 (jW w (x + 362) 5 ((w.1 (x + 362) 5) + 1)) _
        refine jWp.ireti mt rfl ⟨rfl, rfl⟩ rfl ?_
        refine ⟨fun c0 => ?_, fun c0 c1 => ?_, fun c0 c1 c2 => ?_, fun c0 c1 c2 => ?_⟩
        all_goals first
        | (exfalso; omega)
        | exact ⟨rfl, rfl⟩
        | exact ⟨rfl, rfl, fun b g1 g2 => (jW_f g2).trans (hbf.2 b g1), jW_s, by rw [show (jW (M1, w.2) (x + 341) 0 0).1 (x + 4) = M1 (x + 4) from jW_f (by omega)]; exact hbc⟩
    · have h2 : y < 1 := h2
      refine jWp.blk mt 2 ?_
      show _ ∧ jWp 103 25 [some (jO x), some (jI (i1 : Int)), some (jI y), none] [jI (-4), jO x] 0 0 w _
      refine ⟨rfl, ?_⟩
      refine jWp.callv (as := [jO x, jI (-4)]) (rest := []) mt rfl rfl rfl ⟨rfl, jtg hX.X0⟩ ?_
      refine jCall.mono (C_refuse (w := w) (j := 3) hX (by decide) (by decide)) (fun v9 w9 h9 => ?_)
      obtain ⟨rfl, h9⟩ := h9
      subst h9
      show jWp 103 28 [some (jO x), some (jI (i1 : Int)), some (jI y), none] [jI (-4)] 0 0 (jW w (x + 362) 3 ((w.1 (x + 362) 3) + 1)) _
      refine jWp.ireti mt rfl ⟨rfl, rfl⟩ rfl ?_
      refine ⟨fun c0 => ?_, fun c0 c1 => ?_, fun c0 c1 c2 => ?_, fun c0 c1 c2 => ?_⟩
      all_goals first
      | (exfalso; omega)
      | exact ⟨rfl, rfl⟩
      | exact ⟨rfl, rfl, fun b g1 g2 => (jW_f g2).trans (hbf.2 b g1), jW_s, by rw [show (jW (M1, w.2) (x + 341) 0 0).1 (x + 4) = M1 (x + 4) from jW_f (by omega)]; exact hbc⟩
  · have h1 : ¬ (0 ≤ i ∧ i < (n : Int)) := h1
    show jWp 103 8 [some (jO x), some (jI i), some (jI y), none] [jI 0] 0 0 w _
    refine jWp.ifc (b := false) mt rfl (by decide) rfl ?_
    show jWp 103 11 [some (jO x), some (jI i), some (jI y), none] [] 0 0 w _
    refine jWp.blk mt 2 ?_
    show _ ∧ jWp 103 13 [some (jO x), some (jI i), some (jI y), none] [jI (-1), jO x] 0 0 w _
    refine ⟨rfl, ?_⟩
    refine jWp.callv (as := [jO x, jI (-1)]) (rest := []) mt rfl rfl rfl ⟨rfl, jtg hX.X0⟩ ?_
    refine jCall.mono (C_refuse (w := w) (j := 0) hX (by decide) (by decide)) (fun v9 w9 h9 => ?_)
    obtain ⟨rfl, h9⟩ := h9
    subst h9
    show jWp 103 16 [some (jO x), some (jI i), some (jI y), none] [jI (-1)] 0 0 (jW w (x + 362) 0 ((w.1 (x + 362) 0) + 1)) _
    refine jWp.ireti mt rfl ⟨rfl, rfl⟩ rfl ?_
    refine ⟨fun c0 => ?_, fun c0 c1 => ?_, fun c0 c1 c2 => ?_, fun c0 c1 c2 => ?_⟩
    all_goals first
    | (exfalso; omega)
    | exact ⟨rfl, rfl⟩
    | exact ⟨rfl, rfl, fun b g1 g2 => (jW_f g2).trans (hbf.2 b g1), jW_s, by rw [show (jW (M1, w.2) (x + 341) 0 0).1 (x + 4) = M1 (x + 4) from jW_f (by omega)]; exact hbc⟩
set_option maxHeartbeats 4000000 in
set_option maxRecDepth 20000 in
theorem C_exchange {w : jS} {x : Nat} (hX : CW w.2 x) {n : Nat} {q : Nat → Int} {g : Prop} (hQ : zQ q n) (hn0 : w.1 (x + 3) 0 = (n : Int)) (hRR : cR g (w.1 (x + 4)) q n) {u : Nat} (hu : w.1 (x + 341) 0 = (u : Int)) (hu8 : u ≤ 8) {i : Int} (hri : r32 i) : jCall 107 [jO x, jI i] w (fun v w1 => ((¬ (0 ≤ i ∧ i < (n : Int))) → cno w x 0 (jI (-1)) v w1) ∧ (¬ (¬ (0 ≤ i ∧ i < (n : Int))) → (¬ zcan q n i.toNat) → cnq w x 5 (jI (-6)) v w1) ∧ (¬ (¬ (0 ≤ i ∧ i < (n : Int))) → ¬ (¬ zcan q n i.toNat) → v = some (jI (zxF q n i.toNat (21 + i.toNat))) ∧ w1.2 = w.2 ∧ (∀ b, b ≠ x + 3 → b ≠ x + 4 → (b < x + 7 ∨ x + 12 ≤ b) → (b < x + 341 ∨ x + 359 ≤ b) → w1.1 b = w.1 b) ∧ w1.1 (x + 3) 0 = (n : Int) ∧ cR False (w1.1 (x + 4)) (zxF q n i.toNat) n ∧ cpst w x u w1)) := by
  have mt : jtb 107 = jT107 := rfl
  have hn2 := hQ.S.n2
  have hn4 := hQ.S.n4
  have hri1 : -2147483648 ≤ i ∧ i < 2147483648 := hri
  show jWp 107 0 [some (jO x), some (jI i)] [] 0 0 w _
  refine jWp.blk mt 1 ?_
  show _ ∧ jWp 107 1 [some (jO x), some (jI i)] [jO x] 0 0 w _
  refine ⟨rfl, ?_⟩
  refine jWp.getR (pc' := 4) (o := (x + 3)) mt rfl rfl (jtg hX.X0) hX.R4 ?_
  show jWp 107 4 [some (jO x), some (jI i)] [jO (x + 3)] 0 0 w _
  refine jWp.blk mt 1 ?_
  show jWp 107 5 [some (jO x), some (jI i)] [jI i, jO (x + 3)] 0 0 w _
  refine jWp.callv (as := [jO (x + 3), jI i]) (rest := []) mt rfl rfl rfl ⟨rfl, jtg hX.X3⟩ ?_
  refine jCall.mono (E_has (w := w) (s := x + 3) (n := n) hX.X3 hn0 hn4 hri) (fun v9 w9 h9 => ?_)
  rcases h9 with ⟨rfl, h9, h1⟩ | ⟨rfl, h9, h1⟩ <;> subst w9
  · have h1 : 0 ≤ i ∧ i < (n : Int) := h1
    show jWp 107 8 [some (jO x), some (jI i)] [jI 1] 0 0 w _
    obtain ⟨i1, rfl⟩ : ∃ i1 : Nat, i = (i1 : Int) := ⟨i.toNat, by omega⟩
    show jWp 107 8 [some (jO x), some (jI (i1 : Int))] [jI 1] 0 0 w _
    refine jWp.ifc (b := true) mt rfl (by decide) rfl ?_
    show jWp 107 17 [some (jO x), some (jI (i1 : Int))] [] 0 0 w _
    refine jWp.blk mt 1 ?_
    show _ ∧ jWp 107 18 [some (jO x), some (jI (i1 : Int))] [jO x] 0 0 w _
    refine ⟨rfl, ?_⟩
    refine jWp.getR (pc' := 21) (o := (x + 7)) mt rfl rfl (jtg hX.X0) hX.R6 ?_
    show jWp 107 21 [some (jO x), some (jI (i1 : Int))] [jO (x + 7)] 0 0 w _
    refine jWp.blk mt 1 ?_
    show _ ∧ jWp 107 22 [some (jO x), some (jI (i1 : Int))] [jO x, jO (x + 7)] 0 0 w _
    refine ⟨rfl, ?_⟩
    refine jWp.getR (pc' := 25) (o := (x + 3)) mt rfl rfl (jtg hX.X0) hX.R4 ?_
    show jWp 107 25 [some (jO x), some (jI (i1 : Int))] [jO (x + 3), jO (x + 7)] 0 0 w _
    refine jWp.callv (as := [jO (x + 7), jO (x + 3)]) (rest := []) mt rfl rfl rfl ⟨rfl, jtg hX.X7⟩ ?_
    refine jCall.mono (C_become (w := w) (s := x + 7) (sc := x + 8) hX.X7 hX.X8 hX.Rt (s2 := x + 3) (sc2 := x + 4) hX.X3 hX.X4 hX.Rc hn0) (fun v9 w9 h9 => ?_)
    obtain ⟨rfl, hbf, hn1, hc1⟩ := h9
    obtain ⟨M1, G9⟩ := w9
    have hg : G9 = w.2 := hbf.1
    subst hg
    have hf1 := hbf.2
    have hR1 : cR False (M1 (x + 8)) q n := cR_C hc1 (cR_F hRR)
    show jWp 107 28 [some (jO x), some (jI (i1 : Int))] [] 0 0 (M1, w.2) _
    refine jWp.blk mt 1 ?_
    show _ ∧ jWp 107 29 [some (jO x), some (jI (i1 : Int))] [jO x] 0 0 (M1, w.2) _
    refine ⟨rfl, ?_⟩
    refine jWp.getR (pc' := 32) (o := (x + 9)) mt rfl rfl (jtg hX.X0) hX.R7 ?_
    show jWp 107 32 [some (jO x), some (jI (i1 : Int))] [jO (x + 9)] 0 0 (M1, w.2) _
    refine jWp.blk mt 1 ?_
    show _ ∧ jWp 107 33 [some (jO x), some (jI (i1 : Int))] [jO x, jO (x + 9)] 0 0 (M1, w.2) _
    refine ⟨rfl, ?_⟩
    refine jWp.getR (pc' := 36) (o := (x + 7)) mt rfl rfl (jtg hX.X0) hX.R6 ?_
    show jWp 107 36 [some (jO x), some (jI (i1 : Int))] [jO (x + 7), jO (x + 9)] 0 0 (M1, w.2) _
    refine jWp.blk mt 1 ?_
    show jWp 107 37 [some (jO x), some (jI (i1 : Int))] [jI (i1 : Int), jO (x + 7), jO (x + 9)] 0 0 (M1, w.2) _
    refine jWp.callv (as := [jO (x + 9), jO (x + 7), jI (i1 : Int)]) (rest := []) mt rfl rfl rfl ⟨rfl, jtg hX.X9⟩ ?_
    refine jCall.mono (C_make (w := (M1, w.2)) (s := x + 7) (sc := x + 8) (e := x + 9) (f1 := x + 10) (f2 := x + 11) (n := n) (k := i1) (q := q) (g := False) (G := zNo) hX.X7 hX.X8 hX.Rt hn1 hn4 hX.X9 hX.Ru hX.Rd hX.X10 hX.X11 (by omega) zG_no (fun z => z.elim) hQ hR1 (by omega)) (fun v9 w9 h9 => ?_)
    obtain ⟨hbf, hh⟩ := h9
    obtain ⟨M2, G9⟩ := w9
    have hg : G9 = w.2 := hbf.1
    subst hg
    have hf2 := hbf.2
    have hn2' : M2 (x + 7) 0 = (n : Int) := (congrFun (hf2 (x + 7) (by omega) (by omega) (by omega)) 0).trans hn1
    have hf02 : ∀ b, (b < x + 7 ∨ x + 12 ≤ b) → M2 b = w.1 b := fun b hb => (hf2 b (by omega) (by omega) (by omega)).trans (hf1 b (by omega) (by omega))
    rcases hh with ⟨rfl, hcan, hcr⟩ | ⟨rfl, hcan, hcr⟩
    · have hcr : cR False (M2 (x + 8)) (zxF q n i1) n := hcr
      show jWp 107 40 [some (jO x), some (jI (i1 : Int))] [jI 1] 0 0 (M2, w.2) _
      refine jWp.ifc (b := true) mt rfl (by decide) rfl ?_
      show jWp 107 50 [some (jO x), some (jI (i1 : Int))] [] 0 0 (M2, w.2) _
      refine jWp.blk mt 1 ?_
      show _ ∧ jWp 107 51 [some (jO x), some (jI (i1 : Int))] [jO x] 0 0 (M2, w.2) _
      refine ⟨rfl, ?_⟩
      refine jWp.getR (pc' := 54) (o := (x + 341)) mt rfl rfl (jtg hX.X0) hX.R10 ?_
      show jWp 107 54 [some (jO x), some (jI (i1 : Int))] [jO (x + 341)] 0 0 (M2, w.2) _
      refine jWp.blk mt 1 ?_
      show _ ∧ jWp 107 55 [some (jO x), some (jI (i1 : Int))] [jO x, jO (x + 341)] 0 0 (M2, w.2) _
      refine ⟨rfl, ?_⟩
      refine jWp.getR (pc' := 58) (o := (x + 3)) mt rfl rfl (jtg hX.X0) hX.R4 ?_
      show jWp 107 58 [some (jO x), some (jI (i1 : Int))] [jO (x + 3), jO (x + 341)] 0 0 (M2, w.2) _
      refine jWp.callv (as := [jO (x + 341), jO (x + 3)]) (rest := []) mt rfl rfl rfl ⟨rfl, jtg hX.XP.1⟩ ?_
      refine jCall.mono (C_pkeep (w := (M2, w.2)) (pa := x + 341) hX.XP (s := x + 3) (sc := x + 4) hX.X3 hX.X4 hX.Rc (u := u) ((congrFun (hf02 (x + 341) (by omega)) 0).trans hu) hu8 (by omega) (by omega) (fun y hy => by omega) (fun y hy => by omega)) (fun v9 w9 h9 => ?_)
      obtain ⟨rfl, hg3, hf3, hp3⟩ := h9
      obtain ⟨M3, G9⟩ := w9
      have hg : G9 = w.2 := hg3
      subst hg
      have hf03 : ∀ b, (b < x + 7 ∨ x + 12 ≤ b) → (b < x + 341 ∨ x + 359 ≤ b) → M3 b = w.1 b := fun b hb h2 => (hf3 b (by omega) (fun y hy => by omega)).trans (hf02 b hb)
      have hp3' : cpst ((M2, w.2) : jS) x u ((M3, w.2) : jS) := hp3
      have hn3 : M3 (x + 7) 0 = (n : Int) := (congrFun (hf3 (x + 7) (by omega) (fun y hy => by omega)) 0).trans hn2'
      have e38 : M3 (x + 8) = M2 (x + 8) := hf3 (x + 8) (by omega) (fun y hy => by omega)
      have hcr3 : cR False (M3 (x + 8)) (zxF q n i1) n := by rw [e38]; exact hcr
      show jWp 107 61 [some (jO x), some (jI (i1 : Int))] [] 0 0 (M3, w.2) _
      refine jWp.blk mt 1 ?_
      show _ ∧ jWp 107 62 [some (jO x), some (jI (i1 : Int))] [jO x] 0 0 (M3, w.2) _
      refine ⟨rfl, ?_⟩
      refine jWp.getR (pc' := 65) (o := (x + 3)) mt rfl rfl (jtg hX.X0) hX.R4 ?_
      show jWp 107 65 [some (jO x), some (jI (i1 : Int))] [jO (x + 3)] 0 0 (M3, w.2) _
      refine jWp.blk mt 1 ?_
      show _ ∧ jWp 107 66 [some (jO x), some (jI (i1 : Int))] [jO x, jO (x + 3)] 0 0 (M3, w.2) _
      refine ⟨rfl, ?_⟩
      refine jWp.getR (pc' := 69) (o := (x + 7)) mt rfl rfl (jtg hX.X0) hX.R6 ?_
      show jWp 107 69 [some (jO x), some (jI (i1 : Int))] [jO (x + 7), jO (x + 3)] 0 0 (M3, w.2) _
      refine jWp.callv (as := [jO (x + 3), jO (x + 7)]) (rest := []) mt rfl rfl rfl ⟨rfl, jtg hX.X3⟩ ?_
      refine jCall.mono (C_become (w := (M3, w.2)) (s := x + 3) (sc := x + 4) hX.X3 hX.X4 hX.Rc (s2 := x + 7) (sc2 := x + 8) hX.X7 hX.X8 hX.Rt hn3) (fun v9 w9 h9 => ?_)
      obtain ⟨rfl, hbf, hn4', hc4⟩ := h9
      obtain ⟨M4, G9⟩ := w9
      have hg : G9 = w.2 := hbf.1
      subst hg
      have hf4 := hbf.2
      have hcr4 : cR False (M4 (x + 4)) (zxF q n i1) n := cR_C hc4 hcr3
      show jWp 107 72 [some (jO x), some (jI (i1 : Int))] [] 0 0 (M4, w.2) _
      refine jWp.blk mt 1 ?_
      show _ ∧ jWp 107 73 [some (jO x), some (jI (i1 : Int))] [jO x] 0 0 (M4, w.2) _
      refine ⟨rfl, ?_⟩
      refine jWp.getR (pc' := 76) (o := (x + 3)) mt rfl rfl (jtg hX.X0) hX.R4 ?_
      show jWp 107 76 [some (jO x), some (jI (i1 : Int))] [jO (x + 3)] 0 0 (M4, w.2) _
      refine jWp.blk mt 1 ?_
      show jWp 107 77 [some (jO x), some (jI (i1 : Int))] [jI (i1 : Int), jO (x + 3)] 0 0 (M4, w.2) _
      refine jWp.callv (as := [jO (x + 3), jI (i1 : Int)]) (rest := []) mt rfl rfl rfl ⟨rfl, jtg hX.X3⟩ ?_
      refine jCall.mono ((by have h := E_sa (w := (M4, w.2)) (sc := x + 4) (n := n) (i := i1) hX.X3 hX.X4 hX.Rc hn4' hn4 (by omega); rw [show ((M4, w.2) : jS).1 (x + 4) i1 = zxF q n i1 (21 + i1) from (hcr4.1 _ (by omega)).trans (cz_u hn4 (by omega))] at h; exact h)) (fun v9 w9 h9 => ?_)
      obtain ⟨rfl, h9⟩ := h9
      subst w9
      show jWp 107 80 [some (jO x), some (jI (i1 : Int))] [jI (zxF q n i1 (21 + i1))] 0 0 (M4, w.2) _
      refine jWp.ireti mt rfl ⟨rfl, rfl⟩ rfl ?_
      refine ⟨fun c0 => ?_, fun c0 c1 => ?_, fun c0 c1 => ?_⟩
      all_goals first
      | (exfalso; omega)
      | exact ⟨rfl, rfl⟩
      | exact absurd hcan c1
      | exact absurd hcan (Classical.not_not.mp c1)
      | exact ⟨rfl, (M2, w.2), ⟨rfl, fun b g1 g2 g3 => hf02 b (by omega)⟩, congrArg (fun z => jW (M2, w.2) (x + 362) 5 (z + 1)) (congrFun (hf02 (x + 362) (by omega)) 5)⟩
      | exact ⟨rfl, rfl, fun b g1 g2 g3 g4 => (hf4 b g1 g2).trans (hf03 b g3 g4), hn4', hcr4, cpst_k hp3' (fun b hb => hf02 b (by omega)) (fun b hb => hf4 b (by omega) (by omega)) hu8⟩
    · have hcr' := hcr
      show jWp 107 40 [some (jO x), some (jI (i1 : Int))] [jI 0] 0 0 (M2, w.2) _
      refine jWp.ifc (b := false) mt rfl (by decide) rfl ?_
      show jWp 107 43 [some (jO x), some (jI (i1 : Int))] [] 0 0 (M2, w.2) _
      refine jWp.blk mt 2 ?_
      show _ ∧ jWp 107 46 [some (jO x), some (jI (i1 : Int))] [jI (-6), jO x] 0 0 (M2, w.2) _
      refine ⟨rfl, ?_⟩
      refine jWp.callv (as := [jO x, jI (-6)]) (rest := []) mt rfl rfl rfl ⟨rfl, jtg hX.X0⟩ ?_
      refine jCall.mono (C_refuse (w := (M2, w.2)) (j := 5) hX (by decide) (by decide)) (fun v9 w9 h9 => ?_)
      obtain ⟨rfl, h9⟩ := h9
      subst h9
      show jWp 107 49 [some (jO x), some (jI (i1 : Int))] [jI (-6)] 0 0 (jW (M2, w.2) (x + 362) 5 (((M2, w.2).1 (x + 362) 5) + 1)) _
      refine jWp.ireti mt rfl ⟨rfl, rfl⟩ rfl ?_
      refine ⟨fun c0 => ?_, fun c0 c1 => ?_, fun c0 c1 => ?_⟩
      all_goals first
      | (exfalso; omega)
      | exact ⟨rfl, rfl⟩
      | exact absurd hcan c1
      | exact absurd hcan (Classical.not_not.mp c1)
      | exact ⟨rfl, (M2, w.2), ⟨rfl, fun b g1 g2 g3 => hf02 b (by omega)⟩, congrArg (fun z => jW (M2, w.2) (x + 362) 5 (z + 1)) (congrFun (hf02 (x + 362) (by omega)) 5)⟩
      | exact ⟨rfl, rfl, fun b g1 g2 g3 g4 => (hf4 b g1 g2).trans (hf03 b g3 g4), hn4', hcr4, cpst_k hp3' (fun b hb => hf02 b (by omega)) (fun b hb => hf4 b (by omega) (by omega)) hu8⟩
  · have h1 : ¬ (0 ≤ i ∧ i < (n : Int)) := h1
    show jWp 107 8 [some (jO x), some (jI i)] [jI 0] 0 0 w _
    refine jWp.ifc (b := false) mt rfl (by decide) rfl ?_
    show jWp 107 11 [some (jO x), some (jI i)] [] 0 0 w _
    refine jWp.blk mt 2 ?_
    show _ ∧ jWp 107 13 [some (jO x), some (jI i)] [jI (-1), jO x] 0 0 w _
    refine ⟨rfl, ?_⟩
    refine jWp.callv (as := [jO x, jI (-1)]) (rest := []) mt rfl rfl rfl ⟨rfl, jtg hX.X0⟩ ?_
    refine jCall.mono (C_refuse (w := w) (j := 0) hX (by decide) (by decide)) (fun v9 w9 h9 => ?_)
    obtain ⟨rfl, h9⟩ := h9
    subst h9
    show jWp 107 16 [some (jO x), some (jI i)] [jI (-1)] 0 0 (jW w (x + 362) 0 ((w.1 (x + 362) 0) + 1)) _
    refine jWp.ireti mt rfl ⟨rfl, rfl⟩ rfl ?_
    refine ⟨fun c0 => ?_, fun c0 c1 => ?_, fun c0 c1 => ?_⟩
    all_goals first
    | (exfalso; omega)
    | exact ⟨rfl, rfl⟩
    | exact absurd hcan c1
    | exact absurd hcan (Classical.not_not.mp c1)
    | exact ⟨rfl, (M2, w.2), ⟨rfl, fun b g1 g2 g3 => hf02 b (by omega)⟩, congrArg (fun z => jW (M2, w.2) (x + 362) 5 (z + 1)) (congrFun (hf02 (x + 362) (by omega)) 5)⟩
    | exact ⟨rfl, rfl, fun b g1 g2 g3 g4 => (hf4 b g1 g2).trans (hf03 b g3 g4), hn4', hcr4, cpst_k hp3' (fun b hb => hf02 b (by omega)) (fun b hb => hf4 b (by omega) (by omega)) hu8⟩
set_option maxHeartbeats 4000000 in
set_option maxRecDepth 20000 in
theorem C_undo {w : jS} {x : Nat} (hX : CW w.2 x) {u : Nat} (hu : w.1 (x + 341) 0 = (u : Int)) (hu8 : u ≤ 8) : jCall 124 [jO x] w (fun v w1 => ((u = 0) → cno w x 2 (jI (-3)) v w1) ∧ (¬ (u = 0) → v = some (jI ((u : Int) - 1)) ∧ w1.2 = w.2 ∧ (∀ b, b ≠ x + 3 → b ≠ x + 4 → b ≠ x + 341 → w1.1 b = w.1 b) ∧ w1.1 (x + 341) 0 = (u : Int) - 1 ∧ cpy w1.1 (x + 3) (x + 4) w.1 (x + 341 + (2 + 2 * (u - 1))) (x + 341 + (3 + 2 * (u - 1))))) := by
  have mt : jtb 124 = jT124 := rfl
  show jWp 124 0 [some (jO x)] [] 0 0 w _
  refine jWp.blk mt 1 ?_
  show _ ∧ jWp 124 1 [some (jO x)] [jO x] 0 0 w _
  refine ⟨rfl, ?_⟩
  refine jWp.getR (pc' := 4) (o := (x + 341)) mt rfl rfl (jtg hX.X0) hX.R10 ?_
  show jWp 124 4 [some (jO x)] [jO (x + 341)] 0 0 w _
  refine jWp.blk mt 1 ?_
  show _ ∧ jWp 124 5 [some (jO x)] [jO x, jO (x + 341)] 0 0 w _
  refine ⟨rfl, ?_⟩
  refine jWp.getR (pc' := 8) (o := (x + 3)) mt rfl rfl (jtg hX.X0) hX.R4 ?_
  show jWp 124 8 [some (jO x)] [jO (x + 3), jO (x + 341)] 0 0 w _
  refine jWp.callv (as := [jO (x + 341), jO (x + 3)]) (rest := []) mt rfl rfl rfl ⟨rfl, jtg hX.XP.1⟩ ?_
  refine jCall.mono (C_takeBack (w := w) (pa := x + 341) hX.XP (s := x + 3) (sc := x + 4) hX.X3 hX.X4 hX.Rc (u := u) hu hu8 (by omega) (by omega)) (fun v9 w9 h9 => ?_)
  rcases Nat.eq_zero_or_pos u with hz | hz
  · obtain ⟨rfl, hw9⟩ := h9.1 hz
    subst w9
    show jWp 124 11 [some (jO x)] [jI 0] 0 0 w _
    refine jWp.ifc (b := false) mt rfl (by decide) rfl ?_
    show jWp 124 14 [some (jO x)] [] 0 0 w _
    refine jWp.blk mt 2 ?_
    show _ ∧ jWp 124 17 [some (jO x)] [jI (-3), jO x] 0 0 w _
    refine ⟨rfl, ?_⟩
    refine jWp.callv (as := [jO x, jI (-3)]) (rest := []) mt rfl rfl rfl ⟨rfl, jtg hX.X0⟩ ?_
    refine jCall.mono (C_refuse (w := w) (j := 2) hX (by decide) (by decide)) (fun v9 w9 h9 => ?_)
    obtain ⟨rfl, h9⟩ := h9
    subst h9
    show jWp 124 20 [some (jO x)] [jI (-3)] 0 0 (jW w (x + 362) 2 ((w.1 (x + 362) 2) + 1)) _
    refine jWp.ireti mt rfl ⟨rfl, rfl⟩ rfl ?_
    refine ⟨fun c0 => ?_, fun c0 => ?_⟩
    all_goals first
    | (exfalso; omega)
    | exact ⟨rfl, rfl⟩
    | exact ⟨rfl, rfl, fun b g1 g2 g3 => hf1 b g3 g1 g2, hu1, hc1⟩
  · obtain ⟨rfl, hg1, hf1, hu1, hc1⟩ := h9.2 hz
    obtain ⟨M1, G9⟩ := w9
    have hg : G9 = w.2 := hg1
    subst hg
    show jWp 124 11 [some (jO x)] [jI 1] 0 0 (M1, w.2) _
    refine jWp.ifc (b := true) mt rfl (by decide) rfl ?_
    show jWp 124 21 [some (jO x)] [] 0 0 (M1, w.2) _
    refine jWp.blk mt 1 ?_
    show _ ∧ jWp 124 22 [some (jO x)] [jO x] 0 0 (M1, w.2) _
    refine ⟨rfl, ?_⟩
    refine jWp.getR (pc' := 25) (o := (x + 341)) mt rfl rfl (jtg hX.X0) hX.R10 ?_
    show jWp 124 25 [some (jO x)] [jO (x + 341)] 0 0 (M1, w.2) _
    refine jWp.getI (pc' := 28) mt rfl rfl (jtg hX.XP.1) ?_
    rw [show ((M1, w.2).1 (x + 341) 0) = ((u : Int) - 1) from hu1]
    show jWp 124 28 [some (jO x)] [jI ((u : Int) - 1)] 0 0 (M1, w.2) _
    refine jWp.ireti mt rfl ⟨rfl, rfl⟩ rfl ?_
    refine ⟨fun c0 => ?_, fun c0 => ?_⟩
    all_goals first
    | (exfalso; omega)
    | exact ⟨rfl, rfl⟩
    | exact ⟨rfl, rfl, fun b g1 g2 g3 => hf1 b g3 g1 g2, hu1, hc1⟩
end
