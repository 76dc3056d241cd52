theorem zcnt_0 {u v : Nat → Int} {x y : Int} {n : Nat} (h : zcnt u v n x y ≤ 0) : ∀ i, i < n → ¬ (u i = x ∧ v i = y) := by
  induction n with
  | zero => exact fun i hi => absurd hi (by omega)
  | succ n ih =>
    intro i hi g
    have b := zcnt_b u v x y n
    rcases Nat.lt_or_ge i n with c | c
    · refine ih ?_ i c g
      have : zcnt u v (n + 1) x y = zcnt u v n x y + if u n = x ∧ v n = y then 1 else 0 := rfl
      split at this <;> omega
    · rw [show i = n by omega] at g
      have : zcnt u v (n + 1) x y = zcnt u v n x y + if u n = x ∧ v n = y then 1 else 0 := rfl
      rw [if_pos g] at this
      omega
theorem zcnt_1 {u v : Nat → Int} {x y : Int} {n : Nat} (h : 0 < zcnt u v n x y) : ∃ i, i < n ∧ u i = x ∧ v i = y := by
  induction n with
  | zero => exact absurd h (by show ¬ (0 : Int) < 0; omega)
  | succ n ih =>
    have : zcnt u v (n + 1) x y = zcnt u v n x y + if u n = x ∧ v n = y then 1 else 0 := rfl
    split at this
    · rename_i g
      exact ⟨n, by omega, g.1, g.2⟩
    · obtain ⟨i, hi, g⟩ := ih (by omega)
      exact ⟨i, by omega, g⟩
set_option maxHeartbeats 4000000 in
set_option maxRecDepth 20000 in
theorem C_isFirst {w : jS} {se n : Nat} (hK : SK w.2 se) (hn4 : n ≤ 4) {g : Prop} {L : List zE} {q0 : Nat → Int} (hC : cSL w.1 se n g L) (hBL : zBL n q0 L) (hl : L.length ≤ 161) {o i : Nat} (ho : o < L.length) (hi : i < n) : jCall 35 [jO se, jI (o : Int), jI (i : Int)] w (jvb (zni L n o i i) w) := by
  have mt : jtb 35 = jT35 := rfl
  have hvi : (1 ≤ (zL L o).1 (21 + i) ∧ (zL L o).1 (21 + i) ≤ 1000000000 ∧ 1 ≤ (zL L o).1 (25 + i) ∧ (zL L o).1 (25 + i) ≤ 1000000000) := (hBL.2.2.2 o (by omega)).1.S.v i (by omega)
  have hby : (if o = 0 then -1 else ((zL L o).2.2.1 : Int)) < 4 := by
    have h1 := (hBL.2.2.2 o ho).2
    split
    · omega
    · have := (h1 (by omega)).2.1
      omega
  show jWp 35 0 [some (jO se), some (jI (o : Int)), some (jI (i : Int)), none, none, none] [] 0 0 w _
  refine jWp.blk mt 1 ?_
  show jWp 35 1 [some (jO se), some (jI (o : Int)), some (jI (i : Int)), none, none, none] [jI (o : Int)] 0 0 w _
  refine jWp.ifz (pc' := 4) mt rfl rfl (b32_id (by omega) (by omega)) (fun h1 => ?_) (fun h1 => ?_)
  · have h1 : (o : Int) < 0 := h1
    refine jWp.blk mt 1 ?_
    show jWp 35 31 [some (jO se), some (jI (o : Int)), some (jI (i : Int)), none, none, none] [jI 0] 0 0 w _
    refine jWp.iretz mt rfl ⟨rfl, rfl⟩ rfl (Or.inl rfl) ?_
    first
    | (exfalso; omega)
    | exact Or.inr ⟨rfl, rfl, zni_s hBL (by omega) (by omega) (by omega) (by omega)⟩
    | exact Or.inr ⟨rfl, rfl, fun g => g.2 y (by omega) ⟨by assumption, by assumption⟩⟩
    | (refine Or.inr ⟨rfl, rfl, fun g => g.1 ?_⟩
       obtain ⟨i9, hi9, g1, g2⟩ := zcnt_1 (u := fun j => (zL L p).1 (21 + j)) (v := fun j => (zL L p).1 (25 + j)) (n := n) (x := (zL L o).1 (21 + i)) (y := (zL L o).1 (25 + i)) (by omega)
       exact ⟨p, i9, by omega, hi9, g1, g2⟩)
  · have h1 : 0 ≤ (o : Int) := h1
    refine jWp.blk mt 2 ?_
    show jWp 35 8 [some (jO se), some (jI (o : Int)), some (jI (i : Int)), none, none, none] [jI 161, jI (o : Int)] 0 0 w _
    refine jWp.icmp (pc' := 11) mt rfl rfl (b32_id (by omega) (by omega)) (show b32 161 = 161 by decide) (fun h2 => ?_) (fun h2 => ?_)
    · have h2 : 161 ≤ (o : Int) := h2
      refine jWp.blk mt 1 ?_
      show jWp 35 31 [some (jO se), some (jI (o : Int)), some (jI (i : Int)), none, none, none] [jI 0] 0 0 w _
      refine jWp.iretz mt rfl ⟨rfl, rfl⟩ rfl (Or.inl rfl) ?_
      first
      | (exfalso; omega)
      | exact Or.inr ⟨rfl, rfl, zni_s hBL (by omega) (by omega) (by omega) (by omega)⟩
      | exact Or.inr ⟨rfl, rfl, fun g => g.2 y (by omega) ⟨by assumption, by assumption⟩⟩
      | (refine Or.inr ⟨rfl, rfl, fun g => g.1 ?_⟩
         obtain ⟨i9, hi9, g1, g2⟩ := zcnt_1 (u := fun j => (zL L p).1 (21 + j)) (v := fun j => (zL L p).1 (25 + j)) (n := n) (x := (zL L o).1 (21 + i)) (y := (zL L o).1 (25 + i)) (by omega)
         exact ⟨p, i9, by omega, hi9, g1, g2⟩)
    · have h2 : (o : Int) < 161 := h2
      refine jWp.blk mt 1 ?_
      show _ ∧ jWp 35 12 [some (jO se), some (jI (o : Int)), some (jI (i : Int)), none, none, none] [jO se] 0 0 w _
      refine ⟨rfl, ?_⟩
      refine jWp.getR (pc' := 15) (o := (se + 3)) mt rfl rfl (jtg hK.k0) hK.r3 ?_
      show jWp 35 15 [some (jO se), some (jI (o : Int)), some (jI (i : Int)), none, none, none] [jO (se + 3)] 0 0 w _
      refine jWp.blk mt 1 ?_
      show jWp 35 16 [some (jO se), some (jI (o : Int)), some (jI (i : Int)), none, none, none] [jI (o : Int), jO (se + 3)] 0 0 w _
      refine jWp.iald (pc' := 17) (j := o) mt rfl rfl (jird_of hK.k3) (b32_id (by omega) (by omega)) (jlt hK.k3 (by omega)) ?_
      rw [show (w.1 (se + 3) o) = (if o = 0 then -1 else ((zL L o).2.2.1 : Int)) from (hC.2 o (by omega)).2.2.2.1]
      show jWp 35 17 [some (jO se), some (jI (o : Int)), some (jI (i : Int)), none, none, none] [jI (if o = 0 then -1 else ((zL L o).2.2.1 : Int))] 0 0 w _
      refine jWp.ifz (pc' := 20) mt rfl rfl (b32_id (by split <;> omega) (by omega)) (fun h3 => ?_) (fun h3 => ?_)
      · have h3 : (if o = 0 then -1 else ((zL L o).2.2.1 : Int)) < 0 := h3
        refine jWp.blk mt 1 ?_
        show _ ∧ jWp 35 33 [some (jO se), some (jI (o : Int)), some (jI (i : Int)), none, none, none] [jO se] 0 0 w _
        refine ⟨rfl, ?_⟩
        refine jWp.getR (pc' := 36) (o := (se + 1)) mt rfl rfl (jtg hK.k0) hK.r1 ?_
        show jWp 35 36 [some (jO se), some (jI (o : Int)), some (jI (i : Int)), none, none, none] [jO (se + 1)] 0 0 w _
        refine jWp.blk mt 1 ?_
        show jWp 35 37 [some (jO se), some (jI (o : Int)), some (jI (i : Int)), none, none, none] [jI (o : Int), jO (se + 1)] 0 0 w _
        refine jWp.aald (pc' := 38) (j := o) (o := (se + (5 + 2 * o))) mt rfl rfl (jrg hK.k1 (by decide) (by decide)) (b32_id (by omega) (by omega)) (jlt hK.k1 (by omega)) (hK.q o (by omega)) ?_
        show jWp 35 38 [some (jO se), some (jI (o : Int)), some (jI (i : Int)), none, none, none] [jO (se + (5 + 2 * o))] 0 0 w _
        refine jWp.blk mt 1 ?_
        show jWp 35 39 [some (jO se), some (jI (o : Int)), some (jI (i : Int)), none, none, none] [jI (i : Int), jO (se + (5 + 2 * o))] 0 0 w _
        refine jWp.callv (as := [jO (se + (5 + 2 * o)), jI (i : Int)]) (rest := []) mt rfl rfl rfl ⟨rfl, jtg (hK.o o (by omega))⟩ ?_
        refine jCall.mono ((by have h := E_sa (w := w) (sc := se + (6 + 2 * o)) (n := n) (i := i) (hK.o o (by omega)) (hK.c o (by omega)) (hK.rc o (by omega)) (hC.2 o (by omega)).1 hn4 (by omega); rw [show w.1 (se + (6 + 2 * o)) i = (zL L o).1 (21 + i) from ((hC.2 o (by omega)).2.1.1 _ (by omega)).trans (cz_u hn4 (by omega))] at h; exact h)) (fun v9 w9 h9 => ?_)
        obtain ⟨rfl, h9⟩ := h9
        subst w9
        show jWp 35 42 [some (jO se), some (jI (o : Int)), some (jI (i : Int)), none, none, none] [jI ((zL L o).1 (21 + i))] 0 0 w _
        refine jWp.blk mt 2 ?_
        show _ ∧ jWp 35 44 [some (jO se), some (jI (o : Int)), some (jI (i : Int)), some (jI ((zL L o).1 (21 + i))), none, none] [jO se] 0 0 w _
        refine ⟨rfl, ?_⟩
        refine jWp.getR (pc' := 47) (o := (se + 1)) mt rfl rfl (jtg hK.k0) hK.r1 ?_
        show jWp 35 47 [some (jO se), some (jI (o : Int)), some (jI (i : Int)), some (jI ((zL L o).1 (21 + i))), none, none] [jO (se + 1)] 0 0 w _
        refine jWp.blk mt 1 ?_
        show jWp 35 48 [some (jO se), some (jI (o : Int)), some (jI (i : Int)), some (jI ((zL L o).1 (21 + i))), none, none] [jI (o : Int), jO (se + 1)] 0 0 w _
        refine jWp.aald (pc' := 49) (j := o) (o := (se + (5 + 2 * o))) mt rfl rfl (jrg hK.k1 (by decide) (by decide)) (b32_id (by omega) (by omega)) (jlt hK.k1 (by omega)) (hK.q o (by omega)) ?_
        show jWp 35 49 [some (jO se), some (jI (o : Int)), some (jI (i : Int)), some (jI ((zL L o).1 (21 + i))), none, none] [jO (se + (5 + 2 * o))] 0 0 w _
        refine jWp.blk mt 1 ?_
        show jWp 35 50 [some (jO se), some (jI (o : Int)), some (jI (i : Int)), some (jI ((zL L o).1 (21 + i))), none, none] [jI (i : Int), jO (se + (5 + 2 * o))] 0 0 w _
        refine jWp.callv (as := [jO (se + (5 + 2 * o)), jI (i : Int)]) (rest := []) mt rfl rfl rfl ⟨rfl, jtg (hK.o o (by omega))⟩ ?_
        refine jCall.mono ((by have h := E_su (w := w) (sc := se + (6 + 2 * o)) (n := n) (i := i) (hK.o o (by omega)) (hK.c o (by omega)) (hK.rc o (by omega)) (hC.2 o (by omega)).1 hn4 (by omega); rw [show w.1 (se + (6 + 2 * o)) (4 + i) = (zL L o).1 (25 + i) from ((hC.2 o (by omega)).2.1.1 _ (by omega)).trans (cz_d hn4 (by omega))] at h; exact h)) (fun v9 w9 h9 => ?_)
        obtain ⟨rfl, h9⟩ := h9
        subst w9
        show jWp 35 53 [some (jO se), some (jI (o : Int)), some (jI (i : Int)), some (jI ((zL L o).1 (21 + i))), none, none] [jI ((zL L o).1 (25 + i))] 0 0 w _
        refine jWp.blk mt 3 ?_
        show jWp 35 58 [some (jO se), some (jI (o : Int)), some (jI (i : Int)), some (jI ((zL L o).1 (21 + i))), some (jI ((zL L o).1 (25 + i))), some (jI 0)] [] 0 0 w _
        have lp4 : ∀ (N : Nat) (y : Nat) (hy : y ≤ i) (hA : ∀ z, z < y → ¬ ((zL L o).1 (21 + z) = (zL L o).1 (21 + i) ∧ (zL L o).1 (25 + z) = (zL L o).1 (25 + i))), i - y < N → jWp 35 58 [some (jO se), some (jI (o : Int)), some (jI (i : Int)), some (jI ((zL L o).1 (21 + i))), some (jI ((zL L o).1 (25 + i))), some (jI (y : Int))] [] 0 0 w (jvb (zni L n o i i) w) := by
          intro N
          induction N with
          | zero => intro y hy hA hm; omega
          | succ N ih5 =>
            intro y hy hA hm
            have hvy : (1 ≤ (zL L o).1 (21 + y) ∧ (zL L o).1 (21 + y) ≤ 1000000000 ∧ 1 ≤ (zL L o).1 (25 + y) ∧ (zL L o).1 (25 + y) ≤ 1000000000) := (hBL.2.2.2 o (by omega)).1.S.v y (by omega)
            refine jWp.blk mt 2 ?_
            show jWp 35 61 [some (jO se), some (jI (o : Int)), some (jI (i : Int)), some (jI ((zL L o).1 (21 + i))), some (jI ((zL L o).1 (25 + i))), some (jI (y : Int))] [jI (i : Int), jI (y : Int)] 0 0 w _
            refine jWp.icmp (pc' := 64) mt rfl rfl (b32_id (by omega) (by omega)) (b32_id (by omega) (by omega)) (fun h6 => ?_) (fun h6 => ?_)
            · have h6 : (i : Int) ≤ (y : Int) := h6
              refine jWp.blk mt 2 ?_
              show jWp 35 106 [some (jO se), some (jI (o : Int)), some (jI (i : Int)), some (jI ((zL L o).1 (21 + i))), some (jI ((zL L o).1 (25 + i))), some (jI 0)] [] 0 0 w _
              have lp7 : ∀ (N : Nat) (p : Nat) (hp : p ≤ o) (hB : ∀ z, z < p → ∀ i9, i9 < n → (zL L z).1 (21 + i9) = (zL L o).1 (21 + i) → ¬ (zL L z).1 (25 + i9) = (zL L o).1 (25 + i)), o - p < N → jWp 35 106 [some (jO se), some (jI (o : Int)), some (jI (i : Int)), some (jI ((zL L o).1 (21 + i))), some (jI ((zL L o).1 (25 + i))), some (jI (p : Int))] [] 0 0 w (jvb (zni L n o i i) w) := by
                intro N
                induction N with
                | zero => intro p hp hB hm; omega
                | succ N ih8 =>
                  intro p hp hB hm
                  refine jWp.blk mt 2 ?_
                  show jWp 35 109 [some (jO se), some (jI (o : Int)), some (jI (i : Int)), some (jI ((zL L o).1 (21 + i))), some (jI ((zL L o).1 (25 + i))), some (jI (p : Int))] [jI (o : Int), jI (p : Int)] 0 0 w _
                  refine jWp.icmp (pc' := 112) mt rfl rfl (b32_id (by omega) (by omega)) (b32_id (by omega) (by omega)) (fun h9 => ?_) (fun h9 => ?_)
                  · have h9 : (o : Int) ≤ (p : Int) := h9
                    refine jWp.blk mt 1 ?_
                    show jWp 35 137 [some (jO se), some (jI (o : Int)), some (jI (i : Int)), some (jI ((zL L o).1 (21 + i))), some (jI ((zL L o).1 (25 + i))), some (jI (p : Int))] [jI 1] 0 0 w _
                    refine jWp.iretz mt rfl ⟨rfl, rfl⟩ rfl (Or.inr rfl) ?_
                    exact Or.inl ⟨rfl, rfl, fun ⟨p9, i9, g1, g2, g3⟩ => hB p9 (by omega) i9 g2 g3.1 g3.2, fun z hz => hA z (by omega)⟩
                  · have h9 : (p : Int) < (o : Int) := h9
                    refine jWp.blk mt 1 ?_
                    show _ ∧ jWp 35 113 [some (jO se), some (jI (o : Int)), some (jI (i : Int)), some (jI ((zL L o).1 (21 + i))), some (jI ((zL L o).1 (25 + i))), some (jI (p : Int))] [jO se] 0 0 w _
                    refine ⟨rfl, ?_⟩
                    refine jWp.getR (pc' := 116) (o := (se + 1)) mt rfl rfl (jtg hK.k0) hK.r1 ?_
                    show jWp 35 116 [some (jO se), some (jI (o : Int)), some (jI (i : Int)), some (jI ((zL L o).1 (21 + i))), some (jI ((zL L o).1 (25 + i))), some (jI (p : Int))] [jO (se + 1)] 0 0 w _
                    refine jWp.blk mt 1 ?_
                    show jWp 35 118 [some (jO se), some (jI (o : Int)), some (jI (i : Int)), some (jI ((zL L o).1 (21 + i))), some (jI ((zL L o).1 (25 + i))), some (jI (p : Int))] [jI (p : Int), jO (se + 1)] 0 0 w _
                    refine jWp.aald (pc' := 119) (j := p) (o := (se + (5 + 2 * p))) mt rfl rfl (jrg hK.k1 (by decide) (by decide)) (b32_id (by omega) (by omega)) (jlt hK.k1 (by omega)) (hK.q p (by omega)) ?_
                    show jWp 35 119 [some (jO se), some (jI (o : Int)), some (jI (i : Int)), some (jI ((zL L o).1 (21 + i))), some (jI ((zL L o).1 (25 + i))), some (jI (p : Int))] [jO (se + (5 + 2 * p))] 0 0 w _
                    refine jWp.blk mt 2 ?_
                    show jWp 35 122 [some (jO se), some (jI (o : Int)), some (jI (i : Int)), some (jI ((zL L o).1 (21 + i))), some (jI ((zL L o).1 (25 + i))), some (jI (p : Int))] [jI ((zL L o).1 (25 + i)), jI ((zL L o).1 (21 + i)), jO (se + (5 + 2 * p))] 0 0 w _
                    refine jWp.callv (as := [jO (se + (5 + 2 * p)), jI ((zL L o).1 (21 + i)), jI ((zL L o).1 (25 + i))]) (rest := []) mt rfl rfl rfl ⟨rfl, jtg (hK.o p (by omega))⟩ ?_
                    refine jCall.mono (C_often (w := w) (s := se + (5 + 2 * p)) (sc := se + (6 + 2 * p)) (n := n) (q := (zL L p).1) (hK.o p (by omega)) (hK.c p (by omega)) (hK.rc p (by omega)) (hC.2 p (by omega)).1 hn4 (hBL.2.2.2 p (by omega)).1 (hC.2 p (by omega)).2.1.1 (by constructor <;> omega) (by constructor <;> omega)) (fun v9 w9 h9 => ?_)
                    obtain ⟨rfl, h9⟩ := h9
                    subst w9
                    show jWp 35 125 [some (jO se), some (jI (o : Int)), some (jI (i : Int)), some (jI ((zL L o).1 (21 + i))), some (jI ((zL L o).1 (25 + i))), some (jI (p : Int))] [jI (zcnt (fun j => (zL L p).1 (21 + j)) (fun j => (zL L p).1 (25 + j)) n ((zL L o).1 (21 + i)) ((zL L o).1 (25 + i)))] 0 0 w _
                    have := zcnt_b (fun j => (zL L p).1 (21 + j)) (fun j => (zL L p).1 (25 + j)) ((zL L o).1 (21 + i)) ((zL L o).1 (25 + i)) n
                    refine jWp.ifz (pc' := 128) mt rfl rfl (b32_id (by omega) (by omega)) (fun h10 => ?_) (fun h10 => ?_)
                    · have h10 : (zcnt (fun j => (zL L p).1 (21 + j)) (fun j => (zL L p).1 (25 + j)) n ((zL L o).1 (21 + i)) ((zL L o).1 (25 + i))) ≤ 0 := h10
                      refine jWp.blk mt 2 ?_
                      show jWp 35 106 [some (jO se), some (jI (o : Int)), some (jI (i : Int)), some (jI ((zL L o).1 (21 + i))), some (jI ((zL L o).1 (25 + i))), some (jI ((p : Int) + 1))] [] 0 0 w _
                      refine jWp.le (l := [some (jO se), some (jI (o : Int)), some (jI (i : Int)), some (jI ((zL L o).1 (21 + i))), some (jI ((zL L o).1 (25 + i))), some (jI ((p : Int) + 1))]) (by exact ⟨rfl, rfl, rfl, rfl, rfl, rfl, trivial⟩) ?_
                      exact ih8 (p + 1) (by omega) (fun z hz i9 hi9 g1 g2 => by rcases Nat.lt_or_ge z p with e | e; exact hB z e i9 hi9 g1 g2; rw [show z = p by omega] at g1 g2; exact zcnt_0 (u := fun j => (zL L p).1 (21 + j)) (v := fun j => (zL L p).1 (25 + j)) (by omega) i9 hi9 ⟨g1, g2⟩) (by omega)
                    · have h10 : 0 < (zcnt (fun j => (zL L p).1 (21 + j)) (fun j => (zL L p).1 (25 + j)) n ((zL L o).1 (21 + i)) ((zL L o).1 (25 + i))) := h10
                      refine jWp.blk mt 1 ?_
                      show jWp 35 129 [some (jO se), some (jI (o : Int)), some (jI (i : Int)), some (jI ((zL L o).1 (21 + i))), some (jI ((zL L o).1 (25 + i))), some (jI (p : Int))] [jI 0] 0 0 w _
                      refine jWp.iretz mt rfl ⟨rfl, rfl⟩ rfl (Or.inl rfl) ?_
                      first
                      | (exfalso; omega)
                      | exact Or.inr ⟨rfl, rfl, zni_s hBL (by omega) (by omega) (by omega) (by omega)⟩
                      | exact Or.inr ⟨rfl, rfl, fun g => g.2 y (by omega) ⟨by assumption, by assumption⟩⟩
                      | (refine Or.inr ⟨rfl, rfl, fun g => g.1 ?_⟩
                         obtain ⟨i9, hi9, g1, g2⟩ := zcnt_1 (u := fun j => (zL L p).1 (21 + j)) (v := fun j => (zL L p).1 (25 + j)) (n := n) (x := (zL L o).1 (21 + i)) (y := (zL L o).1 (25 + i)) (by omega)
                         exact ⟨p, i9, by omega, hi9, g1, g2⟩)
              refine jWp.le (l := [some (jO se), some (jI (o : Int)), some (jI (i : Int)), some (jI ((zL L o).1 (21 + i))), some (jI ((zL L o).1 (25 + i))), some (jI 0)]) (by exact ⟨rfl, rfl, rfl, rfl, rfl, rfl, trivial⟩) ?_
              exact lp7 _ 0 (by omega) (fun z hz => absurd hz (by omega)) (Nat.lt_succ_self _)
            · have h6 : (y : Int) < (i : Int) := h6
              refine jWp.blk mt 1 ?_
              show _ ∧ jWp 35 65 [some (jO se), some (jI (o : Int)), some (jI (i : Int)), some (jI ((zL L o).1 (21 + i))), some (jI ((zL L o).1 (25 + i))), some (jI (y : Int))] [jO se] 0 0 w _
              refine ⟨rfl, ?_⟩
              refine jWp.getR (pc' := 68) (o := (se + 1)) mt rfl rfl (jtg hK.k0) hK.r1 ?_
              show jWp 35 68 [some (jO se), some (jI (o : Int)), some (jI (i : Int)), some (jI ((zL L o).1 (21 + i))), some (jI ((zL L o).1 (25 + i))), some (jI (y : Int))] [jO (se + 1)] 0 0 w _
              refine jWp.blk mt 1 ?_
              show jWp 35 69 [some (jO se), some (jI (o : Int)), some (jI (i : Int)), some (jI ((zL L o).1 (21 + i))), some (jI ((zL L o).1 (25 + i))), some (jI (y : Int))] [jI (o : Int), jO (se + 1)] 0 0 w _
              refine jWp.aald (pc' := 70) (j := o) (o := (se + (5 + 2 * o))) mt rfl rfl (jrg hK.k1 (by decide) (by decide)) (b32_id (by omega) (by omega)) (jlt hK.k1 (by omega)) (hK.q o (by omega)) ?_
              show jWp 35 70 [some (jO se), some (jI (o : Int)), some (jI (i : Int)), some (jI ((zL L o).1 (21 + i))), some (jI ((zL L o).1 (25 + i))), some (jI (y : Int))] [jO (se + (5 + 2 * o))] 0 0 w _
              refine jWp.blk mt 1 ?_
              show jWp 35 72 [some (jO se), some (jI (o : Int)), some (jI (i : Int)), some (jI ((zL L o).1 (21 + i))), some (jI ((zL L o).1 (25 + i))), some (jI (y : Int))] [jI (y : Int), jO (se + (5 + 2 * o))] 0 0 w _
              refine jWp.callv (as := [jO (se + (5 + 2 * o)), jI (y : Int)]) (rest := []) mt rfl rfl rfl ⟨rfl, jtg (hK.o o (by omega))⟩ ?_
              refine jCall.mono ((by have h := E_sa (w := w) (sc := se + (6 + 2 * o)) (n := n) (i := y) (hK.o o (by omega)) (hK.c o (by omega)) (hK.rc o (by omega)) (hC.2 o (by omega)).1 hn4 (by omega); rw [show w.1 (se + (6 + 2 * o)) y = (zL L o).1 (21 + y) from ((hC.2 o (by omega)).2.1.1 _ (by omega)).trans (cz_u hn4 (by omega))] at h; exact h)) (fun v9 w9 h9 => ?_)
              obtain ⟨rfl, h9⟩ := h9
              subst w9
              show jWp 35 75 [some (jO se), some (jI (o : Int)), some (jI (i : Int)), some (jI ((zL L o).1 (21 + i))), some (jI ((zL L o).1 (25 + i))), some (jI (y : Int))] [jI ((zL L o).1 (21 + y))] 0 0 w _
              refine jWp.blk mt 1 ?_
              show jWp 35 76 [some (jO se), some (jI (o : Int)), some (jI (i : Int)), some (jI ((zL L o).1 (21 + i))), some (jI ((zL L o).1 (25 + i))), some (jI (y : Int))] [jI ((zL L o).1 (21 + i)), jI ((zL L o).1 (21 + y))] 0 0 w _
              refine jWp.icmp (pc' := 79) mt rfl rfl (b32_id (by omega) (by omega)) (b32_id (by omega) (by omega)) (fun h11 => ?_) (fun h11 => ?_)
              · have h11 : ((zL L o).1 (21 + y)) ≠ ((zL L o).1 (21 + i)) := h11
                refine jWp.blk mt 2 ?_
                show jWp 35 58 [some (jO se), some (jI (o : Int)), some (jI (i : Int)), some (jI ((zL L o).1 (21 + i))), some (jI ((zL L o).1 (25 + i))), some (jI ((y : Int) + 1))] [] 0 0 w _
                refine jWp.le (l := [some (jO se), some (jI (o : Int)), some (jI (i : Int)), some (jI ((zL L o).1 (21 + i))), some (jI ((zL L o).1 (25 + i))), some (jI ((y : Int) + 1))]) (by exact ⟨rfl, rfl, rfl, rfl, rfl, rfl, trivial⟩) ?_
                exact ih5 (y + 1) (by omega) (fun z hz => by rcases Nat.lt_or_ge z y with e | e; exact hA z e; rw [show z = y by omega]; intro g; first | exact absurd g.1 (by assumption) | exact absurd g.2 (by assumption)) (by omega)
              · have h11 : ((zL L o).1 (21 + y)) = ((zL L o).1 (21 + i)) := h11
                refine jWp.blk mt 1 ?_
                show _ ∧ jWp 35 80 [some (jO se), some (jI (o : Int)), some (jI (i : Int)), some (jI ((zL L o).1 (21 + i))), some (jI ((zL L o).1 (25 + i))), some (jI (y : Int))] [jO se] 0 0 w _
                refine ⟨rfl, ?_⟩
                refine jWp.getR (pc' := 83) (o := (se + 1)) mt rfl rfl (jtg hK.k0) hK.r1 ?_
                show jWp 35 83 [some (jO se), some (jI (o : Int)), some (jI (i : Int)), some (jI ((zL L o).1 (21 + i))), some (jI ((zL L o).1 (25 + i))), some (jI (y : Int))] [jO (se + 1)] 0 0 w _
                refine jWp.blk mt 1 ?_
                show jWp 35 84 [some (jO se), some (jI (o : Int)), some (jI (i : Int)), some (jI ((zL L o).1 (21 + i))), some (jI ((zL L o).1 (25 + i))), some (jI (y : Int))] [jI (o : Int), jO (se + 1)] 0 0 w _
                refine jWp.aald (pc' := 85) (j := o) (o := (se + (5 + 2 * o))) mt rfl rfl (jrg hK.k1 (by decide) (by decide)) (b32_id (by omega) (by omega)) (jlt hK.k1 (by omega)) (hK.q o (by omega)) ?_
                show jWp 35 85 [some (jO se), some (jI (o : Int)), some (jI (i : Int)), some (jI ((zL L o).1 (21 + i))), some (jI ((zL L o).1 (25 + i))), some (jI (y : Int))] [jO (se + (5 + 2 * o))] 0 0 w _
                refine jWp.blk mt 1 ?_
                show jWp 35 87 [some (jO se), some (jI (o : Int)), some (jI (i : Int)), some (jI ((zL L o).1 (21 + i))), some (jI ((zL L o).1 (25 + i))), some (jI (y : Int))] [jI (y : Int), jO (se + (5 + 2 * o))] 0 0 w _
                refine jWp.callv (as := [jO (se + (5 + 2 * o)), jI (y : Int)]) (rest := []) mt rfl rfl rfl ⟨rfl, jtg (hK.o o (by omega))⟩ ?_
                refine jCall.mono ((by have h := E_su (w := w) (sc := se + (6 + 2 * o)) (n := n) (i := y) (hK.o o (by omega)) (hK.c o (by omega)) (hK.rc o (by omega)) (hC.2 o (by omega)).1 hn4 (by omega); rw [show w.1 (se + (6 + 2 * o)) (4 + y) = (zL L o).1 (25 + y) from ((hC.2 o (by omega)).2.1.1 _ (by omega)).trans (cz_d hn4 (by omega))] at h; exact h)) (fun v9 w9 h9 => ?_)
                obtain ⟨rfl, h9⟩ := h9
                subst w9
                show jWp 35 90 [some (jO se), some (jI (o : Int)), some (jI (i : Int)), some (jI ((zL L o).1 (21 + i))), some (jI ((zL L o).1 (25 + i))), some (jI (y : Int))] [jI ((zL L o).1 (25 + y))] 0 0 w _
                refine jWp.blk mt 1 ?_
                show jWp 35 92 [some (jO se), some (jI (o : Int)), some (jI (i : Int)), some (jI ((zL L o).1 (21 + i))), some (jI ((zL L o).1 (25 + i))), some (jI (y : Int))] [jI ((zL L o).1 (25 + i)), jI ((zL L o).1 (25 + y))] 0 0 w _
                refine jWp.icmp (pc' := 95) mt rfl rfl (b32_id (by omega) (by omega)) (b32_id (by omega) (by omega)) (fun h12 => ?_) (fun h12 => ?_)
                · have h12 : ((zL L o).1 (25 + y)) ≠ ((zL L o).1 (25 + i)) := h12
                  refine jWp.blk mt 2 ?_
                  show jWp 35 58 [some (jO se), some (jI (o : Int)), some (jI (i : Int)), some (jI ((zL L o).1 (21 + i))), some (jI ((zL L o).1 (25 + i))), some (jI ((y : Int) + 1))] [] 0 0 w _
                  refine jWp.le (l := [some (jO se), some (jI (o : Int)), some (jI (i : Int)), some (jI ((zL L o).1 (21 + i))), some (jI ((zL L o).1 (25 + i))), some (jI ((y : Int) + 1))]) (by exact ⟨rfl, rfl, rfl, rfl, rfl, rfl, trivial⟩) ?_
                  exact ih5 (y + 1) (by omega) (fun z hz => by rcases Nat.lt_or_ge z y with e | e; exact hA z e; rw [show z = y by omega]; intro g; first | exact absurd g.1 (by assumption) | exact absurd g.2 (by assumption)) (by omega)
                · have h12 : ((zL L o).1 (25 + y)) = ((zL L o).1 (25 + i)) := h12
                  refine jWp.blk mt 1 ?_
                  show jWp 35 96 [some (jO se), some (jI (o : Int)), some (jI (i : Int)), some (jI ((zL L o).1 (21 + i))), some (jI ((zL L o).1 (25 + i))), some (jI (y : Int))] [jI 0] 0 0 w _
                  refine jWp.iretz mt rfl ⟨rfl, rfl⟩ rfl (Or.inl rfl) ?_
                  first
                  | (exfalso; omega)
                  | exact Or.inr ⟨rfl, rfl, zni_s hBL (by omega) (by omega) (by omega) (by omega)⟩
                  | exact Or.inr ⟨rfl, rfl, fun g => g.2 y (by omega) ⟨by assumption, by assumption⟩⟩
                  | (refine Or.inr ⟨rfl, rfl, fun g => g.1 ?_⟩
                     obtain ⟨i9, hi9, g1, g2⟩ := zcnt_1 (u := fun j => (zL L p).1 (21 + j)) (v := fun j => (zL L p).1 (25 + j)) (n := n) (x := (zL L o).1 (21 + i)) (y := (zL L o).1 (25 + i)) (by omega)
                     exact ⟨p, i9, by omega, hi9, g1, g2⟩)
        refine jWp.le (l := [some (jO se), some (jI (o : Int)), some (jI (i : Int)), some (jI ((zL L o).1 (21 + i))), some (jI ((zL L o).1 (25 + i))), some (jI 0)]) (by exact ⟨rfl, rfl, rfl, rfl, rfl, rfl, trivial⟩) ?_
        exact lp4 _ 0 (by omega) (fun z hz => absurd hz (by omega)) (Nat.lt_succ_self _)
      · have h3 : 0 ≤ (if o = 0 then -1 else ((zL L o).2.2.1 : Int)) := h3
        refine jWp.blk mt 1 ?_
        show _ ∧ jWp 35 21 [some (jO se), some (jI (o : Int)), some (jI (i : Int)), none, none, none] [jO se] 0 0 w _
        refine ⟨rfl, ?_⟩
        refine jWp.getR (pc' := 24) (o := (se + 3)) mt rfl rfl (jtg hK.k0) hK.r3 ?_
        show jWp 35 24 [some (jO se), some (jI (o : Int)), some (jI (i : Int)), none, none, none] [jO (se + 3)] 0 0 w _
        refine jWp.blk mt 1 ?_
        show jWp 35 25 [some (jO se), some (jI (o : Int)), some (jI (i : Int)), none, none, none] [jI (o : Int), jO (se + 3)] 0 0 w _
        refine jWp.iald (pc' := 26) (j := o) mt rfl rfl (jird_of hK.k3) (b32_id (by omega) (by omega)) (jlt hK.k3 (by omega)) ?_
        rw [show (w.1 (se + 3) o) = (if o = 0 then -1 else ((zL L o).2.2.1 : Int)) from (hC.2 o (by omega)).2.2.2.1]
        show jWp 35 26 [some (jO se), some (jI (o : Int)), some (jI (i : Int)), none, none, none] [jI (if o = 0 then -1 else ((zL L o).2.2.1 : Int))] 0 0 w _
        refine jWp.blk mt 1 ?_
        show jWp 35 27 [some (jO se), some (jI (o : Int)), some (jI (i : Int)), none, none, none] [jI (i : Int), jI (if o = 0 then -1 else ((zL L o).2.2.1 : Int))] 0 0 w _
        refine jWp.icmp (pc' := 30) mt rfl rfl (b32_id (by split <;> omega) (by omega)) (b32_id (by omega) (by omega)) (fun h13 => ?_) (fun h13 => ?_)
        · have h13 : (if o = 0 then -1 else ((zL L o).2.2.1 : Int)) = (i : Int) := h13
          refine jWp.blk mt 1 ?_
          show _ ∧ jWp 35 33 [some (jO se), some (jI (o : Int)), some (jI (i : Int)), none, none, none] [jO se] 0 0 w _
          refine ⟨rfl, ?_⟩
          refine jWp.getR (pc' := 36) (o := (se + 1)) mt rfl rfl (jtg hK.k0) hK.r1 ?_
          show jWp 35 36 [some (jO se), some (jI (o : Int)), some (jI (i : Int)), none, none, none] [jO (se + 1)] 0 0 w _
          refine jWp.blk mt 1 ?_
          show jWp 35 37 [some (jO se), some (jI (o : Int)), some (jI (i : Int)), none, none, none] [jI (o : Int), jO (se + 1)] 0 0 w _
          refine jWp.aald (pc' := 38) (j := o) (o := (se + (5 + 2 * o))) mt rfl rfl (jrg hK.k1 (by decide) (by decide)) (b32_id (by omega) (by omega)) (jlt hK.k1 (by omega)) (hK.q o (by omega)) ?_
          show jWp 35 38 [some (jO se), some (jI (o : Int)), some (jI (i : Int)), none, none, none] [jO (se + (5 + 2 * o))] 0 0 w _
          refine jWp.blk mt 1 ?_
          show jWp 35 39 [some (jO se), some (jI (o : Int)), some (jI (i : Int)), none, none, none] [jI (i : Int), jO (se + (5 + 2 * o))] 0 0 w _
          refine jWp.callv (as := [jO (se + (5 + 2 * o)), jI (i : Int)]) (rest := []) mt rfl rfl rfl ⟨rfl, jtg (hK.o o (by omega))⟩ ?_
          refine jCall.mono ((by have h := E_sa (w := w) (sc := se + (6 + 2 * o)) (n := n) (i := i) (hK.o o (by omega)) (hK.c o (by omega)) (hK.rc o (by omega)) (hC.2 o (by omega)).1 hn4 (by omega); rw [show w.1 (se + (6 + 2 * o)) i = (zL L o).1 (21 + i) from ((hC.2 o (by omega)).2.1.1 _ (by omega)).trans (cz_u hn4 (by omega))] at h; exact h)) (fun v9 w9 h9 => ?_)
          obtain ⟨rfl, h9⟩ := h9
          subst w9
          show jWp 35 42 [some (jO se), some (jI (o : Int)), some (jI (i : Int)), none, none, none] [jI ((zL L o).1 (21 + i))] 0 0 w _
          refine jWp.blk mt 2 ?_
          show _ ∧ jWp 35 44 [some (jO se), some (jI (o : Int)), some (jI (i : Int)), some (jI ((zL L o).1 (21 + i))), none, none] [jO se] 0 0 w _
          refine ⟨rfl, ?_⟩
          refine jWp.getR (pc' := 47) (o := (se + 1)) mt rfl rfl (jtg hK.k0) hK.r1 ?_
          show jWp 35 47 [some (jO se), some (jI (o : Int)), some (jI (i : Int)), some (jI ((zL L o).1 (21 + i))), none, none] [jO (se + 1)] 0 0 w _
          refine jWp.blk mt 1 ?_
          show jWp 35 48 [some (jO se), some (jI (o : Int)), some (jI (i : Int)), some (jI ((zL L o).1 (21 + i))), none, none] [jI (o : Int), jO (se + 1)] 0 0 w _
          refine jWp.aald (pc' := 49) (j := o) (o := (se + (5 + 2 * o))) mt rfl rfl (jrg hK.k1 (by decide) (by decide)) (b32_id (by omega) (by omega)) (jlt hK.k1 (by omega)) (hK.q o (by omega)) ?_
          show jWp 35 49 [some (jO se), some (jI (o : Int)), some (jI (i : Int)), some (jI ((zL L o).1 (21 + i))), none, none] [jO (se + (5 + 2 * o))] 0 0 w _
          refine jWp.blk mt 1 ?_
          show jWp 35 50 [some (jO se), some (jI (o : Int)), some (jI (i : Int)), some (jI ((zL L o).1 (21 + i))), none, none] [jI (i : Int), jO (se + (5 + 2 * o))] 0 0 w _
          refine jWp.callv (as := [jO (se + (5 + 2 * o)), jI (i : Int)]) (rest := []) mt rfl rfl rfl ⟨rfl, jtg (hK.o o (by omega))⟩ ?_
          refine jCall.mono ((by have h := E_su (w := w) (sc := se + (6 + 2 * o)) (n := n) (i := i) (hK.o o (by omega)) (hK.c o (by omega)) (hK.rc o (by omega)) (hC.2 o (by omega)).1 hn4 (by omega); rw [show w.1 (se + (6 + 2 * o)) (4 + i) = (zL L o).1 (25 + i) from ((hC.2 o (by omega)).2.1.1 _ (by omega)).trans (cz_d hn4 (by omega))] at h; exact h)) (fun v9 w9 h9 => ?_)
          obtain ⟨rfl, h9⟩ := h9
          subst w9
          show jWp 35 53 [some (jO se), some (jI (o : Int)), some (jI (i : Int)), some (jI ((zL L o).1 (21 + i))), none, none] [jI ((zL L o).1 (25 + i))] 0 0 w _
          refine jWp.blk mt 3 ?_
          show jWp 35 58 [some (jO se), some (jI (o : Int)), some (jI (i : Int)), some (jI ((zL L o).1 (21 + i))), some (jI ((zL L o).1 (25 + i))), some (jI 0)] [] 0 0 w _
          have lp14 : ∀ (N : Nat) (y : Nat) (hy : y ≤ i) (hA : ∀ z, z < y → ¬ ((zL L o).1 (21 + z) = (zL L o).1 (21 + i) ∧ (zL L o).1 (25 + z) = (zL L o).1 (25 + i))), i - y < N → jWp 35 58 [some (jO se), some (jI (o : Int)), some (jI (i : Int)), some (jI ((zL L o).1 (21 + i))), some (jI ((zL L o).1 (25 + i))), some (jI (y : Int))] [] 0 0 w (jvb (zni L n o i i) w) := by
            intro N
            induction N with
            | zero => intro y hy hA hm; omega
            | succ N ih15 =>
              intro y hy hA hm
              have hvy : (1 ≤ (zL L o).1 (21 + y) ∧ (zL L o).1 (21 + y) ≤ 1000000000 ∧ 1 ≤ (zL L o).1 (25 + y) ∧ (zL L o).1 (25 + y) ≤ 1000000000) := (hBL.2.2.2 o (by omega)).1.S.v y (by omega)
              refine jWp.blk mt 2 ?_
              show jWp 35 61 [some (jO se), some (jI (o : Int)), some (jI (i : Int)), some (jI ((zL L o).1 (21 + i))), some (jI ((zL L o).1 (25 + i))), some (jI (y : Int))] [jI (i : Int), jI (y : Int)] 0 0 w _
              refine jWp.icmp (pc' := 64) mt rfl rfl (b32_id (by omega) (by omega)) (b32_id (by omega) (by omega)) (fun h16 => ?_) (fun h16 => ?_)
              · have h16 : (i : Int) ≤ (y : Int) := h16
                refine jWp.blk mt 2 ?_
                show jWp 35 106 [some (jO se), some (jI (o : Int)), some (jI (i : Int)), some (jI ((zL L o).1 (21 + i))), some (jI ((zL L o).1 (25 + i))), some (jI 0)] [] 0 0 w _
                have lp17 : ∀ (N : Nat) (p : Nat) (hp : p ≤ o) (hB : ∀ z, z < p → ∀ i9, i9 < n → (zL L z).1 (21 + i9) = (zL L o).1 (21 + i) → ¬ (zL L z).1 (25 + i9) = (zL L o).1 (25 + i)), o - p < N → jWp 35 106 [some (jO se), some (jI (o : Int)), some (jI (i : Int)), some (jI ((zL L o).1 (21 + i))), some (jI ((zL L o).1 (25 + i))), some (jI (p : Int))] [] 0 0 w (jvb (zni L n o i i) w) := by
                  intro N
                  induction N with
                  | zero => intro p hp hB hm; omega
                  | succ N ih18 =>
                    intro p hp hB hm
                    refine jWp.blk mt 2 ?_
                    show jWp 35 109 [some (jO se), some (jI (o : Int)), some (jI (i : Int)), some (jI ((zL L o).1 (21 + i))), some (jI ((zL L o).1 (25 + i))), some (jI (p : Int))] [jI (o : Int), jI (p : Int)] 0 0 w _
                    refine jWp.icmp (pc' := 112) mt rfl rfl (b32_id (by omega) (by omega)) (b32_id (by omega) (by omega)) (fun h19 => ?_) (fun h19 => ?_)
                    · have h19 : (o : Int) ≤ (p : Int) := h19
                      refine jWp.blk mt 1 ?_
                      show jWp 35 137 [some (jO se), some (jI (o : Int)), some (jI (i : Int)), some (jI ((zL L o).1 (21 + i))), some (jI ((zL L o).1 (25 + i))), some (jI (p : Int))] [jI 1] 0 0 w _
                      refine jWp.iretz mt rfl ⟨rfl, rfl⟩ rfl (Or.inr rfl) ?_
                      exact Or.inl ⟨rfl, rfl, fun ⟨p9, i9, g1, g2, g3⟩ => hB p9 (by omega) i9 g2 g3.1 g3.2, fun z hz => hA z (by omega)⟩
                    · have h19 : (p : Int) < (o : Int) := h19
                      refine jWp.blk mt 1 ?_
                      show _ ∧ jWp 35 113 [some (jO se), some (jI (o : Int)), some (jI (i : Int)), some (jI ((zL L o).1 (21 + i))), some (jI ((zL L o).1 (25 + i))), some (jI (p : Int))] [jO se] 0 0 w _
                      refine ⟨rfl, ?_⟩
                      refine jWp.getR (pc' := 116) (o := (se + 1)) mt rfl rfl (jtg hK.k0) hK.r1 ?_
                      show jWp 35 116 [some (jO se), some (jI (o : Int)), some (jI (i : Int)), some (jI ((zL L o).1 (21 + i))), some (jI ((zL L o).1 (25 + i))), some (jI (p : Int))] [jO (se + 1)] 0 0 w _
                      refine jWp.blk mt 1 ?_
                      show jWp 35 118 [some (jO se), some (jI (o : Int)), some (jI (i : Int)), some (jI ((zL L o).1 (21 + i))), some (jI ((zL L o).1 (25 + i))), some (jI (p : Int))] [jI (p : Int), jO (se + 1)] 0 0 w _
                      refine jWp.aald (pc' := 119) (j := p) (o := (se + (5 + 2 * p))) mt rfl rfl (jrg hK.k1 (by decide) (by decide)) (b32_id (by omega) (by omega)) (jlt hK.k1 (by omega)) (hK.q p (by omega)) ?_
                      show jWp 35 119 [some (jO se), some (jI (o : Int)), some (jI (i : Int)), some (jI ((zL L o).1 (21 + i))), some (jI ((zL L o).1 (25 + i))), some (jI (p : Int))] [jO (se + (5 + 2 * p))] 0 0 w _
                      refine jWp.blk mt 2 ?_
                      show jWp 35 122 [some (jO se), some (jI (o : Int)), some (jI (i : Int)), some (jI ((zL L o).1 (21 + i))), some (jI ((zL L o).1 (25 + i))), some (jI (p : Int))] [jI ((zL L o).1 (25 + i)), jI ((zL L o).1 (21 + i)), jO (se + (5 + 2 * p))] 0 0 w _
                      refine jWp.callv (as := [jO (se + (5 + 2 * p)), jI ((zL L o).1 (21 + i)), jI ((zL L o).1 (25 + i))]) (rest := []) mt rfl rfl rfl ⟨rfl, jtg (hK.o p (by omega))⟩ ?_
                      refine jCall.mono (C_often (w := w) (s := se + (5 + 2 * p)) (sc := se + (6 + 2 * p)) (n := n) (q := (zL L p).1) (hK.o p (by omega)) (hK.c p (by omega)) (hK.rc p (by omega)) (hC.2 p (by omega)).1 hn4 (hBL.2.2.2 p (by omega)).1 (hC.2 p (by omega)).2.1.1 (by constructor <;> omega) (by constructor <;> omega)) (fun v9 w9 h9 => ?_)
                      obtain ⟨rfl, h9⟩ := h9
                      subst w9
                      show jWp 35 125 [some (jO se), some (jI (o : Int)), some (jI (i : Int)), some (jI ((zL L o).1 (21 + i))), some (jI ((zL L o).1 (25 + i))), some (jI (p : Int))] [jI (zcnt (fun j => (zL L p).1 (21 + j)) (fun j => (zL L p).1 (25 + j)) n ((zL L o).1 (21 + i)) ((zL L o).1 (25 + i)))] 0 0 w _
                      have := zcnt_b (fun j => (zL L p).1 (21 + j)) (fun j => (zL L p).1 (25 + j)) ((zL L o).1 (21 + i)) ((zL L o).1 (25 + i)) n
                      refine jWp.ifz (pc' := 128) mt rfl rfl (b32_id (by omega) (by omega)) (fun h20 => ?_) (fun h20 => ?_)
                      · have h20 : (zcnt (fun j => (zL L p).1 (21 + j)) (fun j => (zL L p).1 (25 + j)) n ((zL L o).1 (21 + i)) ((zL L o).1 (25 + i))) ≤ 0 := h20
                        refine jWp.blk mt 2 ?_
                        show jWp 35 106 [some (jO se), some (jI (o : Int)), some (jI (i : Int)), some (jI ((zL L o).1 (21 + i))), some (jI ((zL L o).1 (25 + i))), some (jI ((p : Int) + 1))] [] 0 0 w _
                        refine jWp.le (l := [some (jO se), some (jI (o : Int)), some (jI (i : Int)), some (jI ((zL L o).1 (21 + i))), some (jI ((zL L o).1 (25 + i))), some (jI ((p : Int) + 1))]) (by exact ⟨rfl, rfl, rfl, rfl, rfl, rfl, trivial⟩) ?_
                        exact ih18 (p + 1) (by omega) (fun z hz i9 hi9 g1 g2 => by rcases Nat.lt_or_ge z p with e | e; exact hB z e i9 hi9 g1 g2; rw [show z = p by omega] at g1 g2; exact zcnt_0 (u := fun j => (zL L p).1 (21 + j)) (v := fun j => (zL L p).1 (25 + j)) (by omega) i9 hi9 ⟨g1, g2⟩) (by omega)
                      · have h20 : 0 < (zcnt (fun j => (zL L p).1 (21 + j)) (fun j => (zL L p).1 (25 + j)) n ((zL L o).1 (21 + i)) ((zL L o).1 (25 + i))) := h20
                        refine jWp.blk mt 1 ?_
                        show jWp 35 129 [some (jO se), some (jI (o : Int)), some (jI (i : Int)), some (jI ((zL L o).1 (21 + i))), some (jI ((zL L o).1 (25 + i))), some (jI (p : Int))] [jI 0] 0 0 w _
                        refine jWp.iretz mt rfl ⟨rfl, rfl⟩ rfl (Or.inl rfl) ?_
                        first
                        | (exfalso; omega)
                        | exact Or.inr ⟨rfl, rfl, zni_s hBL (by omega) (by omega) (by omega) (by omega)⟩
                        | exact Or.inr ⟨rfl, rfl, fun g => g.2 y (by omega) ⟨by assumption, by assumption⟩⟩
                        | (refine Or.inr ⟨rfl, rfl, fun g => g.1 ?_⟩
                           obtain ⟨i9, hi9, g1, g2⟩ := zcnt_1 (u := fun j => (zL L p).1 (21 + j)) (v := fun j => (zL L p).1 (25 + j)) (n := n) (x := (zL L o).1 (21 + i)) (y := (zL L o).1 (25 + i)) (by omega)
                           exact ⟨p, i9, by omega, hi9, g1, g2⟩)
                refine jWp.le (l := [some (jO se), some (jI (o : Int)), some (jI (i : Int)), some (jI ((zL L o).1 (21 + i))), some (jI ((zL L o).1 (25 + i))), some (jI 0)]) (by exact ⟨rfl, rfl, rfl, rfl, rfl, rfl, trivial⟩) ?_
                exact lp17 _ 0 (by omega) (fun z hz => absurd hz (by omega)) (Nat.lt_succ_self _)
              · have h16 : (y : Int) < (i : Int) := h16
                refine jWp.blk mt 1 ?_
                show _ ∧ jWp 35 65 [some (jO se), some (jI (o : Int)), some (jI (i : Int)), some (jI ((zL L o).1 (21 + i))), some (jI ((zL L o).1 (25 + i))), some (jI (y : Int))] [jO se] 0 0 w _
                refine ⟨rfl, ?_⟩
                refine jWp.getR (pc' := 68) (o := (se + 1)) mt rfl rfl (jtg hK.k0) hK.r1 ?_
                show jWp 35 68 [some (jO se), some (jI (o : Int)), some (jI (i : Int)), some (jI ((zL L o).1 (21 + i))), some (jI ((zL L o).1 (25 + i))), some (jI (y : Int))] [jO (se + 1)] 0 0 w _
                refine jWp.blk mt 1 ?_
                show jWp 35 69 [some (jO se), some (jI (o : Int)), some (jI (i : Int)), some (jI ((zL L o).1 (21 + i))), some (jI ((zL L o).1 (25 + i))), some (jI (y : Int))] [jI (o : Int), jO (se + 1)] 0 0 w _
                refine jWp.aald (pc' := 70) (j := o) (o := (se + (5 + 2 * o))) mt rfl rfl (jrg hK.k1 (by decide) (by decide)) (b32_id (by omega) (by omega)) (jlt hK.k1 (by omega)) (hK.q o (by omega)) ?_
                show jWp 35 70 [some (jO se), some (jI (o : Int)), some (jI (i : Int)), some (jI ((zL L o).1 (21 + i))), some (jI ((zL L o).1 (25 + i))), some (jI (y : Int))] [jO (se + (5 + 2 * o))] 0 0 w _
                refine jWp.blk mt 1 ?_
                show jWp 35 72 [some (jO se), some (jI (o : Int)), some (jI (i : Int)), some (jI ((zL L o).1 (21 + i))), some (jI ((zL L o).1 (25 + i))), some (jI (y : Int))] [jI (y : Int), jO (se + (5 + 2 * o))] 0 0 w _
                refine jWp.callv (as := [jO (se + (5 + 2 * o)), jI (y : Int)]) (rest := []) mt rfl rfl rfl ⟨rfl, jtg (hK.o o (by omega))⟩ ?_
                refine jCall.mono ((by have h := E_sa (w := w) (sc := se + (6 + 2 * o)) (n := n) (i := y) (hK.o o (by omega)) (hK.c o (by omega)) (hK.rc o (by omega)) (hC.2 o (by omega)).1 hn4 (by omega); rw [show w.1 (se + (6 + 2 * o)) y = (zL L o).1 (21 + y) from ((hC.2 o (by omega)).2.1.1 _ (by omega)).trans (cz_u hn4 (by omega))] at h; exact h)) (fun v9 w9 h9 => ?_)
                obtain ⟨rfl, h9⟩ := h9
                subst w9
                show jWp 35 75 [some (jO se), some (jI (o : Int)), some (jI (i : Int)), some (jI ((zL L o).1 (21 + i))), some (jI ((zL L o).1 (25 + i))), some (jI (y : Int))] [jI ((zL L o).1 (21 + y))] 0 0 w _
                refine jWp.blk mt 1 ?_
                show jWp 35 76 [some (jO se), some (jI (o : Int)), some (jI (i : Int)), some (jI ((zL L o).1 (21 + i))), some (jI ((zL L o).1 (25 + i))), some (jI (y : Int))] [jI ((zL L o).1 (21 + i)), jI ((zL L o).1 (21 + y))] 0 0 w _
                refine jWp.icmp (pc' := 79) mt rfl rfl (b32_id (by omega) (by omega)) (b32_id (by omega) (by omega)) (fun h21 => ?_) (fun h21 => ?_)
                · have h21 : ((zL L o).1 (21 + y)) ≠ ((zL L o).1 (21 + i)) := h21
                  refine jWp.blk mt 2 ?_
                  show jWp 35 58 [some (jO se), some (jI (o : Int)), some (jI (i : Int)), some (jI ((zL L o).1 (21 + i))), some (jI ((zL L o).1 (25 + i))), some (jI ((y : Int) + 1))] [] 0 0 w _
                  refine jWp.le (l := [some (jO se), some (jI (o : Int)), some (jI (i : Int)), some (jI ((zL L o).1 (21 + i))), some (jI ((zL L o).1 (25 + i))), some (jI ((y : Int) + 1))]) (by exact ⟨rfl, rfl, rfl, rfl, rfl, rfl, trivial⟩) ?_
                  exact ih15 (y + 1) (by omega) (fun z hz => by rcases Nat.lt_or_ge z y with e | e; exact hA z e; rw [show z = y by omega]; intro g; first | exact absurd g.1 (by assumption) | exact absurd g.2 (by assumption)) (by omega)
                · have h21 : ((zL L o).1 (21 + y)) = ((zL L o).1 (21 + i)) := h21
                  refine jWp.blk mt 1 ?_
                  show _ ∧ jWp 35 80 [some (jO se), some (jI (o : Int)), some (jI (i : Int)), some (jI ((zL L o).1 (21 + i))), some (jI ((zL L o).1 (25 + i))), some (jI (y : Int))] [jO se] 0 0 w _
                  refine ⟨rfl, ?_⟩
                  refine jWp.getR (pc' := 83) (o := (se + 1)) mt rfl rfl (jtg hK.k0) hK.r1 ?_
                  show jWp 35 83 [some (jO se), some (jI (o : Int)), some (jI (i : Int)), some (jI ((zL L o).1 (21 + i))), some (jI ((zL L o).1 (25 + i))), some (jI (y : Int))] [jO (se + 1)] 0 0 w _
                  refine jWp.blk mt 1 ?_
                  show jWp 35 84 [some (jO se), some (jI (o : Int)), some (jI (i : Int)), some (jI ((zL L o).1 (21 + i))), some (jI ((zL L o).1 (25 + i))), some (jI (y : Int))] [jI (o : Int), jO (se + 1)] 0 0 w _
                  refine jWp.aald (pc' := 85) (j := o) (o := (se + (5 + 2 * o))) mt rfl rfl (jrg hK.k1 (by decide) (by decide)) (b32_id (by omega) (by omega)) (jlt hK.k1 (by omega)) (hK.q o (by omega)) ?_
                  show jWp 35 85 [some (jO se), some (jI (o : Int)), some (jI (i : Int)), some (jI ((zL L o).1 (21 + i))), some (jI ((zL L o).1 (25 + i))), some (jI (y : Int))] [jO (se + (5 + 2 * o))] 0 0 w _
                  refine jWp.blk mt 1 ?_
                  show jWp 35 87 [some (jO se), some (jI (o : Int)), some (jI (i : Int)), some (jI ((zL L o).1 (21 + i))), some (jI ((zL L o).1 (25 + i))), some (jI (y : Int))] [jI (y : Int), jO (se + (5 + 2 * o))] 0 0 w _
                  refine jWp.callv (as := [jO (se + (5 + 2 * o)), jI (y : Int)]) (rest := []) mt rfl rfl rfl ⟨rfl, jtg (hK.o o (by omega))⟩ ?_
                  refine jCall.mono ((by have h := E_su (w := w) (sc := se + (6 + 2 * o)) (n := n) (i := y) (hK.o o (by omega)) (hK.c o (by omega)) (hK.rc o (by omega)) (hC.2 o (by omega)).1 hn4 (by omega); rw [show w.1 (se + (6 + 2 * o)) (4 + y) = (zL L o).1 (25 + y) from ((hC.2 o (by omega)).2.1.1 _ (by omega)).trans (cz_d hn4 (by omega))] at h; exact h)) (fun v9 w9 h9 => ?_)
                  obtain ⟨rfl, h9⟩ := h9
                  subst w9
                  show jWp 35 90 [some (jO se), some (jI (o : Int)), some (jI (i : Int)), some (jI ((zL L o).1 (21 + i))), some (jI ((zL L o).1 (25 + i))), some (jI (y : Int))] [jI ((zL L o).1 (25 + y))] 0 0 w _
                  refine jWp.blk mt 1 ?_
                  show jWp 35 92 [some (jO se), some (jI (o : Int)), some (jI (i : Int)), some (jI ((zL L o).1 (21 + i))), some (jI ((zL L o).1 (25 + i))), some (jI (y : Int))] [jI ((zL L o).1 (25 + i)), jI ((zL L o).1 (25 + y))] 0 0 w _
                  refine jWp.icmp (pc' := 95) mt rfl rfl (b32_id (by omega) (by omega)) (b32_id (by omega) (by omega)) (fun h22 => ?_) (fun h22 => ?_)
                  · have h22 : ((zL L o).1 (25 + y)) ≠ ((zL L o).1 (25 + i)) := h22
                    refine jWp.blk mt 2 ?_
                    show jWp 35 58 [some (jO se), some (jI (o : Int)), some (jI (i : Int)), some (jI ((zL L o).1 (21 + i))), some (jI ((zL L o).1 (25 + i))), some (jI ((y : Int) + 1))] [] 0 0 w _
                    refine jWp.le (l := [some (jO se), some (jI (o : Int)), some (jI (i : Int)), some (jI ((zL L o).1 (21 + i))), some (jI ((zL L o).1 (25 + i))), some (jI ((y : Int) + 1))]) (by exact ⟨rfl, rfl, rfl, rfl, rfl, rfl, trivial⟩) ?_
                    exact ih15 (y + 1) (by omega) (fun z hz => by rcases Nat.lt_or_ge z y with e | e; exact hA z e; rw [show z = y by omega]; intro g; first | exact absurd g.1 (by assumption) | exact absurd g.2 (by assumption)) (by omega)
                  · have h22 : ((zL L o).1 (25 + y)) = ((zL L o).1 (25 + i)) := h22
                    refine jWp.blk mt 1 ?_
                    show jWp 35 96 [some (jO se), some (jI (o : Int)), some (jI (i : Int)), some (jI ((zL L o).1 (21 + i))), some (jI ((zL L o).1 (25 + i))), some (jI (y : Int))] [jI 0] 0 0 w _
                    refine jWp.iretz mt rfl ⟨rfl, rfl⟩ rfl (Or.inl rfl) ?_
                    first
                    | (exfalso; omega)
                    | exact Or.inr ⟨rfl, rfl, zni_s hBL (by omega) (by omega) (by omega) (by omega)⟩
                    | exact Or.inr ⟨rfl, rfl, fun g => g.2 y (by omega) ⟨by assumption, by assumption⟩⟩
                    | (refine Or.inr ⟨rfl, rfl, fun g => g.1 ?_⟩
                       obtain ⟨i9, hi9, g1, g2⟩ := zcnt_1 (u := fun j => (zL L p).1 (21 + j)) (v := fun j => (zL L p).1 (25 + j)) (n := n) (x := (zL L o).1 (21 + i)) (y := (zL L o).1 (25 + i)) (by omega)
                       exact ⟨p, i9, by omega, hi9, g1, g2⟩)
          refine jWp.le (l := [some (jO se), some (jI (o : Int)), some (jI (i : Int)), some (jI ((zL L o).1 (21 + i))), some (jI ((zL L o).1 (25 + i))), some (jI 0)]) (by exact ⟨rfl, rfl, rfl, rfl, rfl, rfl, trivial⟩) ?_
          exact lp14 _ 0 (by omega) (fun z hz => absurd hz (by omega)) (Nat.lt_succ_self _)
        · have h13 : (if o = 0 then -1 else ((zL L o).2.2.1 : Int)) ≠ (i : Int) := h13
          refine jWp.blk mt 1 ?_
          show jWp 35 31 [some (jO se), some (jI (o : Int)), some (jI (i : Int)), none, none, none] [jI 0] 0 0 w _
          refine jWp.iretz mt rfl ⟨rfl, rfl⟩ rfl (Or.inl rfl) ?_
          first
          | (exfalso; omega)
          | exact Or.inr ⟨rfl, rfl, zni_s hBL (by omega) (by omega) (by omega) (by omega)⟩
          | exact Or.inr ⟨rfl, rfl, fun g => g.2 y (by omega) ⟨by assumption, by assumption⟩⟩
          | (refine Or.inr ⟨rfl, rfl, fun g => g.1 ?_⟩
             obtain ⟨i9, hi9, g1, g2⟩ := zcnt_1 (u := fun j => (zL L p).1 (21 + j)) (v := fun j => (zL L p).1 (25 + j)) (n := n) (x := (zL L o).1 (21 + i)) (y := (zL L o).1 (25 + i)) (by omega)
             exact ⟨p, i9, by omega, hi9, g1, g2⟩)
theorem zvi_b {L : List zE} {n o : Nat} : ∀ i, 0 ≤ zvi L n o i ∧ zvi L n o i ≤ (i : Int)
  | 0 => ⟨Int.le_refl _, Int.le_refl _⟩
  | i + 1 => by
    have := zvi_b (L := L) (n := n) (o := o) i
    by_cases h : zni L n o i i
    · rw [zvi_t h]
      omega
    · rw [zvi_f h]
      omega
theorem zvo_b {L : List zE} {n : Nat} : ∀ o, 0 ≤ zvo L n o ∧ zvo L n o ≤ ((n * o : Nat) : Int)
  | 0 => ⟨Int.le_refl _, by show (0 : Int) ≤ _; omega⟩
  | o + 1 => by
    have h1 := zvo_b (L := L) (n := n) o
    have h2 := zvi_b (L := L) (n := n) (o := o) n
    have : zvo L n (o + 1) = zvo L n o + zvi L n o n := rfl
    rw [this, Nat.mul_succ]
    omega
set_option maxHeartbeats 4000000 in
set_option maxRecDepth 20000 in
theorem C_unlikeValues {w : jS} {se n : Nat} (hK : SK w.2 se) (hn4 : n ≤ 4) {g : Prop} {L : List zE} {q0 : Nat → Int} (hC : cSL w.1 se n g L) (hBL : zBL n q0 L) (hl : L.length ≤ 161) : jCall 34 [jO se] w (jvi (zvo L n L.length) w) := by
  have mt : jtb 34 = jT34 := rfl
  show jWp 34 0 [some (jO se), none, none, none] [] 0 0 w _
  refine jWp.blk mt 4 ?_
  show jWp 34 4 [some (jO se), some (jI 0), some (jI 0), none] [] 0 0 w _
  have lp1 : ∀ (N : Nat) (o : Nat) (y : Int) (ho : o ≤ L.length) (hy : y = zvo L n o) (hy0 : 0 ≤ y ∧ y ≤ 4 * (o : Int)), L.length - o < N → jWp 34 4 [some (jO se), some (jI y), some (jI (o : Int)), none] [] 0 0 w (jvi (zvo L n L.length) w) := by
    intro N
    induction N with
    | zero => intro o y ho hy hy0 hm; omega
    | succ N ih2 =>
      intro o y ho hy hy0 hm
      refine jWp.blk mt 2 ?_
      show _ ∧ jWp 34 6 [some (jO se), some (jI y), some (jI (o : Int)), none] [jO se, jI (o : Int)] 0 0 w _
      refine ⟨rfl, ?_⟩
      refine jWp.getI (pc' := 9) mt rfl rfl (jtg hK.k0) ?_
      rw [show (w.1 se 0) = (L.length : Int) from hC.1]
      show jWp 34 9 [some (jO se), some (jI y), some (jI (o : Int)), none] [jI (L.length : Int), jI (o : Int)] 0 0 w _
      refine jWp.icmp (pc' := 12) mt rfl rfl (b32_id (by omega) (by omega)) (b32_id (by omega) (by omega)) (fun h3 => ?_) (fun h3 => ?_)
      · have h3 : (L.length : Int) ≤ (o : Int) := h3
        refine jWp.blk mt 1 ?_
        show jWp 34 59 [some (jO se), some (jI y), some (jI (o : Int)), none] [jI y] 0 0 w _
        refine jWp.ireti mt rfl ⟨rfl, rfl⟩ rfl ?_
        exact ⟨by rw [hy, show o = L.length by omega], rfl⟩
      · have h3 : (o : Int) < (L.length : Int) := h3
        refine jWp.blk mt 2 ?_
        show jWp 34 16 [some (jO se), some (jI y), some (jI (o : Int)), none] [jI 161, jI (o : Int)] 0 0 w _
        refine jWp.icmp (pc' := 19) mt rfl rfl (b32_id (by omega) (by omega)) (show b32 161 = 161 by decide) (fun h4 => ?_) (fun h4 => ?_)
        · have h4 : 161 ≤ (o : Int) := h4
          refine jWp.blk mt 1 ?_
          show jWp 34 59 [some (jO se), some (jI y), some (jI (o : Int)), none] [jI y] 0 0 w _
          refine jWp.ireti mt rfl ⟨rfl, rfl⟩ rfl ?_
          exact ⟨by rw [hy, show o = L.length by omega], rfl⟩
        · have h4 : (o : Int) < 161 := h4
          refine jWp.blk mt 2 ?_
          show jWp 34 21 [some (jO se), some (jI y), some (jI (o : Int)), some (jI 0)] [] 0 0 w _
          have lp5 : ∀ (N : Nat) (i : Nat) (y : Int) (hi : i ≤ n) (hy : y = zvo L n o + zvi L n o i) (hy1 : 0 ≤ y ∧ y ≤ 4 * (o : Int) + (i : Int)), n - i < N → jWp 34 21 [some (jO se), some (jI y), some (jI (o : Int)), some (jI (i : Int))] [] 0 0 w (jvi (zvo L n L.length) w) := by
            intro N
            induction N with
            | zero => intro i y hi hy hy1 hm; omega
            | succ N ih6 =>
              intro i y hi hy hy1 hm
              refine jWp.blk mt 2 ?_
              show _ ∧ jWp 34 23 [some (jO se), some (jI y), some (jI (o : Int)), some (jI (i : Int))] [jO se, jI (i : Int)] 0 0 w _
              refine ⟨rfl, ?_⟩
              refine jWp.getR (pc' := 26) (o := (se + 1)) mt rfl rfl (jtg hK.k0) hK.r1 ?_
              show jWp 34 26 [some (jO se), some (jI y), some (jI (o : Int)), some (jI (i : Int))] [jO (se + 1), jI (i : Int)] 0 0 w _
              refine jWp.blk mt 1 ?_
              show jWp 34 27 [some (jO se), some (jI y), some (jI (o : Int)), some (jI (i : Int))] [jI (o : Int), jO (se + 1), jI (i : Int)] 0 0 w _
              refine jWp.aald (pc' := 28) (j := o) (o := (se + (5 + 2 * o))) mt rfl rfl (jrg hK.k1 (by decide) (by decide)) (b32_id (by omega) (by omega)) (jlt hK.k1 (by omega)) (hK.q o (by omega)) ?_
              show jWp 34 28 [some (jO se), some (jI y), some (jI (o : Int)), some (jI (i : Int))] [jO (se + (5 + 2 * o)), jI (i : Int)] 0 0 w _
              refine jWp.getI (pc' := 31) mt rfl rfl (jtg (hK.o o (by omega))) ?_
              rw [show (w.1 (se + (5 + 2 * o)) 0) = (n : Int) from (hC.2 o (by omega)).1]
              show jWp 34 31 [some (jO se), some (jI y), some (jI (o : Int)), some (jI (i : Int))] [jI (n : Int), jI (i : Int)] 0 0 w _
              refine jWp.icmp (pc' := 34) mt rfl rfl (b32_id (by omega) (by omega)) (b32_id (by omega) (by omega)) (fun h7 => ?_) (fun h7 => ?_)
              · have h7 : (n : Int) ≤ (i : Int) := h7
                refine jWp.blk mt 2 ?_
                show jWp 34 4 [some (jO se), some (jI y), some (jI ((o : Int) + 1)), some (jI (i : Int))] [] 0 0 w _
                refine jWp.le (l := [some (jO se), some (jI y), some (jI ((o : Int) + 1)), none]) (by exact ⟨rfl, rfl, rfl, trivial⟩) ?_
                exact ih2 (o + 1) y (by omega) (by rw [hy, show i = n by omega]; rfl) (by omega) (by omega)
              · have h7 : (i : Int) < (n : Int) := h7
                refine jWp.blk mt 3 ?_
                show _ ∧ jWp 34 37 [some (jO se), some (jI y), some (jI (o : Int)), some (jI (i : Int))] [jI (i : Int), jI (o : Int), jO se] 0 0 w _
                refine ⟨rfl, ?_⟩
                refine jWp.callv (as := [jO se, jI (o : Int), jI (i : Int)]) (rest := []) mt rfl rfl rfl ⟨rfl, jtg hK.k0⟩ ?_
                refine jCall.mono (C_isFirst (w := w) (o := o) (i := i) (L := L) hK hn4 hC hBL hl (by omega) (by omega)) (fun v9 w9 h9 => ?_)
                rcases h9 with ⟨rfl, h9, h8⟩ | ⟨rfl, h9, h8⟩ <;> subst w9
                · have h8 : zni L n o i i := h8
                  show jWp 34 40 [some (jO se), some (jI y), some (jI (o : Int)), some (jI (i : Int))] [jI 1] 0 0 w _
                  refine jWp.ifc (b := false) mt rfl (by decide) rfl ?_
                  show jWp 34 43 [some (jO se), some (jI y), some (jI (o : Int)), some (jI (i : Int))] [] 0 0 w _
                  refine jWp.blk mt 3 ?_
                  show jWp 34 21 [some (jO se), some (jI (y + 1)), some (jI (o : Int)), some (jI ((i : Int) + 1))] [] 0 0 w _
                  refine jWp.le (l := [some (jO se), some (jI (y + 1)), some (jI (o : Int)), some (jI ((i : Int) + 1))]) (by exact ⟨rfl, rfl, rfl, rfl, trivial⟩) ?_
                  exact ih6 (i + 1) _ (by omega) (by rw [zvi_t (by assumption), hy]; omega) (by omega) (by omega)
                · have h8 : ¬ (zni L n o i i) := h8
                  show jWp 34 40 [some (jO se), some (jI y), some (jI (o : Int)), some (jI (i : Int))] [jI 0] 0 0 w _
                  refine jWp.ifc (b := true) mt rfl (by decide) rfl ?_
                  show jWp 34 46 [some (jO se), some (jI y), some (jI (o : Int)), some (jI (i : Int))] [] 0 0 w _
                  refine jWp.blk mt 2 ?_
                  show jWp 34 21 [some (jO se), some (jI y), some (jI (o : Int)), some (jI ((i : Int) + 1))] [] 0 0 w _
                  refine jWp.le (l := [some (jO se), some (jI y), some (jI (o : Int)), some (jI ((i : Int) + 1))]) (by exact ⟨rfl, rfl, rfl, rfl, trivial⟩) ?_
                  exact ih6 (i + 1) _ (by omega) (by rw [zvi_f (by assumption), hy]; omega) (by omega) (by omega)
          refine jWp.le (l := [some (jO se), some (jI y), some (jI (o : Int)), some (jI 0)]) (by exact ⟨rfl, rfl, rfl, rfl, trivial⟩) ?_
          exact lp5 _ 0 y (by omega) (by rw [hy]; show _ = _ + (0 : Int); omega) (by omega) (Nat.lt_succ_self _)
  refine jWp.le (l := [some (jO se), some (jI 0), some (jI 0), none]) (by exact ⟨rfl, rfl, rfl, trivial⟩) ?_
  exact lp1 _ 0 0 (by omega) rfl (by omega) (Nat.lt_succ_self _)
theorem zgo_n {G : (Nat → Int) → Prop} {q : Nat → Int} {n : Nat} (hG : zG G) (hQ : zQ q n) (hg : G q) : -1 ≤ zgo q n n := by
  have b := hG.2.2.1 q n hQ hg
  have h4 := hQ.S.n4
  exact (zgo_g h4 (fun i c hi hc => b _ (by omega) (by omega)) n (Nat.le_refl n)).2.1
theorem zgm_1 {L : List zE} {n : Nat} (h : -1 ≤ zgo (zL L 0).1 n n ∧ zgo (zL L 0).1 n n ≤ 50000000) : zgm L n 1 = zgo (zL L 0).1 n n := by
  by_cases c : (-1 : Int) < zgo (zL L 0).1 n n
  · exact zgm_t (by show b64 (-1) < _; rw [b64_id (by omega) (by omega), b64_id (by omega) (by omega)]; exact c)
  · rw [zgm_f (by show ¬ b64 (-1) < _; rw [b64_id (by omega) (by omega), b64_id (by omega) (by omega)]; exact c)]
    show (-1 : Int) = _
    omega
theorem zgm_m {L : List zE} {n o : Nat} (h : -1 ≤ zgo (zL L o).1 n n ∧ zgo (zL L o).1 n n ≤ 50000000) (g : -1 ≤ zgm L n o ∧ zgm L n o ≤ 50000000) : zgm L n (o + 1) = jmx (b32 (zgm L n o)) (b32 (zgo (zL L o).1 n n)) := by
  rw [b32_id (by omega) (by omega), b32_id (by omega) (by omega)]
  unfold jmx
  by_cases c : zgm L n o < zgo (zL L o).1 n n
  · rw [zgm_t (by rw [b64_id (by omega) (by omega), b64_id (by omega) (by omega)]; exact c)]
    split <;> omega
  · rw [zgm_f (by rw [b64_id (by omega) (by omega), b64_id (by omega) (by omega)]; exact c)]
    split <;> omega
theorem zgm_b {G : (Nat → Int) → Prop} {L : List zE} {n : Nat} {q0 : Nat → Int} (hG : zG G) (hBL : zBL n q0 L) (hg : ∀ o, o < L.length → G (zL L o).1) : ∀ o, o ≤ L.length → -1 ≤ zgm L n o ∧ zgm L n o ≤ 50000000
  | 0, _ => ⟨Int.le_refl _, by show (-1 : Int) ≤ _; omega⟩
  | o + 1, h => by
    have ih := zgm_b hG hBL hg o (by omega)
    have h1 := zgo_n hG (hBL.2.2.2 o (by omega)).1 (hg o (by omega))
    have h4 := (hBL.2.2.2 o (by omega)).1.S.n4
    have b := hG.2.2.1 _ n (hBL.2.2.2 o (by omega)).1 (hg o (by omega))
    have h2 := (zgo_g h4 (fun i c hi hc => b _ (by omega) (by omega)) n (Nat.le_refl n)).1.2
    by_cases c : b64 (zgm L n o) < b64 (zgo (zL L o).1 n n)
    · rw [zgm_t c]
      exact ⟨h1, h2⟩
    · rw [zgm_f c]
      exact ih
theorem zcm_s {g : Prop} {G : (Nat → Int) → Prop} {N : Nat → Nat → Int} {se n : Nat} {L : List zE} {q0 : Nat → Int} {o : Nat} {y : Int} (hG : zG G) (hC : cSL N se n g L) (hBL : zBL n q0 L) (ho : o < L.length) (gg : g) (hg : ∀ o, o < L.length → G (zL L o).1) (hy : y = zgm L n o) : jmx (b32 y) (b32 (zco (N (se + (6 + 2 * o))) n n)) = zgm L n (o + 1) := by
  have e := zco_e hG (hBL.2.2.2 o ho).1 (hg o ho) gg (hC.2 o ho).2.1
  rw [hy, e.1, zgm_m ⟨zgo_n hG (hBL.2.2.2 o ho).1 (hg o ho), e.2.2⟩ (zgm_b hG hBL hg o (by omega))]
theorem zcm_0 {g : Prop} {G : (Nat → Int) → Prop} {N : Nat → Nat → Int} {se n : Nat} {L : List zE} {q0 : Nat → Int} (hG : zG G) (hC : cSL N se n g L) (hBL : zBL n q0 L) (gg : g) (hg : ∀ o, o < L.length → G (zL L o).1) : zco (N (se + (6 + 2 * 0))) n n = zgm L n 1 := by
  have ho : 0 < L.length := hBL.1
  have e := zco_e hG (hBL.2.2.2 0 ho).1 (hg 0 ho) gg (hC.2 0 ho).2.1
  rw [e.1, zgm_1 ⟨zgo_n hG (hBL.2.2.2 0 ho).1 (hg 0 ho), e.2.2⟩]
set_option maxHeartbeats 4000000 in
set_option maxRecDepth 20000 in
theorem C_seGreatest {w : jS} {se n : Nat} (hK : SK w.2 se) (hn4 : n ≤ 4) {g : Prop} {L : List zE} {q0 : Nat → Int} (hC : cSL w.1 se n g L) (hBL : zBL n q0 L) (hl : L.length ≤ 161) {G : (Nat → Int) → Prop} (hG : zG G) (hg : g → ∀ o, o < L.length → G (zL L o).1) : jCall 36 [jO se] w (fun v w1 => w1 = w ∧ ∃ y, v = some (jI y) ∧ (g → y = zgm L n L.length)) := by
  have mt : jtb 36 = jT36 := rfl
  have hn2 : 2 ≤ n := (hBL.2.2.2 0 hBL.1).1.S.n2
  have hl1 : 1 ≤ L.length := hBL.1
  show jWp 36 0 [some (jO se), none, none] [] 0 0 w _
  refine jWp.blk mt 1 ?_
  show _ ∧ jWp 36 1 [some (jO se), none, none] [jO se] 0 0 w _
  refine ⟨rfl, ?_⟩
  refine jWp.getR (pc' := 4) (o := (se + 1)) mt rfl rfl (jtg hK.k0) hK.r1 ?_
  show jWp 36 4 [some (jO se), none, none] [jO (se + 1)] 0 0 w _
  refine jWp.blk mt 1 ?_
  show jWp 36 5 [some (jO se), none, none] [jI 0, jO (se + 1)] 0 0 w _
  refine jWp.aald (pc' := 6) (j := 0) (o := (se + (5 + 2 * 0))) mt rfl rfl (jrg hK.k1 (by decide) (by decide)) (by decide) (jlt hK.k1 (by decide)) (hK.q 0 (by omega)) ?_
  show jWp 36 6 [some (jO se), none, none] [jO (se + (5 + 2 * 0))] 0 0 w _
  refine jWp.callv (as := [jO (se + (5 + 2 * 0))]) (rest := []) mt rfl rfl rfl ⟨rfl, jtg (hK.o 0 (by omega))⟩ ?_
  refine jCall.mono (C_greatest (w := w) (s := se + (5 + 2 * 0)) (sc := se + (6 + 2 * 0)) (n := n) (hK.o 0 (by omega)) (hK.c 0 (by omega)) (hK.rc 0 (by omega)) (hC.2 0 (by omega)).1 hn4 hn2) (fun v9 w9 h9 => ?_)
  obtain ⟨rfl, h9⟩ := h9
  subst w9
  show jWp 36 9 [some (jO se), none, none] [jI (zco (w.1 (se + (6 + 2 * 0))) n n)] 0 0 w _
  refine jWp.blk mt 3 ?_
  show jWp 36 12 [some (jO se), some (jI (zco (w.1 (se + (6 + 2 * 0))) n n)), some (jI 1)] [] 0 0 w _
  have lp1 : ∀ (N : Nat) (o : Nat) (y : Int) (ho : 1 ≤ o ∧ o ≤ L.length) (hy : g → y = zgm L n o), L.length - o < N → jWp 36 12 [some (jO se), some (jI y), some (jI (o : Int))] [] 0 0 w (fun v w1 => w1 = w ∧ ∃ y, v = some (jI y) ∧ (g → y = zgm L n L.length)) := by
    intro N
    induction N with
    | zero => intro o y ho hy hm; omega
    | succ N ih2 =>
      intro o y ho hy hm
      refine jWp.blk mt 2 ?_
      show _ ∧ jWp 36 14 [some (jO se), some (jI y), some (jI (o : Int))] [jO se, jI (o : Int)] 0 0 w _
      refine ⟨rfl, ?_⟩
      refine jWp.getI (pc' := 17) mt rfl rfl (jtg hK.k0) ?_
      rw [show (w.1 se 0) = (L.length : Int) from hC.1]
      show jWp 36 17 [some (jO se), some (jI y), some (jI (o : Int))] [jI (L.length : Int), jI (o : Int)] 0 0 w _
      refine jWp.icmp (pc' := 20) mt rfl rfl (b32_id (by omega) (by omega)) (b32_id (by omega) (by omega)) (fun h3 => ?_) (fun h3 => ?_)
      · have h3 : (L.length : Int) ≤ (o : Int) := h3
        refine jWp.blk mt 1 ?_
        show jWp 36 48 [some (jO se), some (jI y), some (jI (o : Int))] [jI y] 0 0 w _
        refine jWp.ireti mt rfl ⟨rfl, rfl⟩ rfl ?_
        exact ⟨rfl, y, rfl, fun gg => by rw [hy gg, show o = L.length by omega]⟩
      · have h3 : (o : Int) < (L.length : Int) := h3
        refine jWp.blk mt 2 ?_
        show jWp 36 24 [some (jO se), some (jI y), some (jI (o : Int))] [jI 161, jI (o : Int)] 0 0 w _
        refine jWp.icmp (pc' := 27) mt rfl rfl (b32_id (by omega) (by omega)) (show b32 161 = 161 by decide) (fun h4 => ?_) (fun h4 => ?_)
        · have h4 : 161 ≤ (o : Int) := h4
          refine jWp.blk mt 1 ?_
          show jWp 36 48 [some (jO se), some (jI y), some (jI (o : Int))] [jI y] 0 0 w _
          refine jWp.ireti mt rfl ⟨rfl, rfl⟩ rfl ?_
          exact ⟨rfl, y, rfl, fun gg => by rw [hy gg, show o = L.length by omega]⟩
        · have h4 : (o : Int) < 161 := h4
          refine jWp.blk mt 2 ?_
          show _ ∧ jWp 36 29 [some (jO se), some (jI y), some (jI (o : Int))] [jO se, jI y] 0 0 w _
          refine ⟨rfl, ?_⟩
          refine jWp.getR (pc' := 32) (o := (se + 1)) mt rfl rfl (jtg hK.k0) hK.r1 ?_
          show jWp 36 32 [some (jO se), some (jI y), some (jI (o : Int))] [jO (se + 1), jI y] 0 0 w _
          refine jWp.blk mt 1 ?_
          show jWp 36 33 [some (jO se), some (jI y), some (jI (o : Int))] [jI (o : Int), jO (se + 1), jI y] 0 0 w _
          refine jWp.aald (pc' := 34) (j := o) (o := (se + (5 + 2 * o))) mt rfl rfl (jrg hK.k1 (by decide) (by decide)) (b32_id (by omega) (by omega)) (jlt hK.k1 (by omega)) (hK.q o (by omega)) ?_
          show jWp 36 34 [some (jO se), some (jI y), some (jI (o : Int))] [jO (se + (5 + 2 * o)), jI y] 0 0 w _
          refine jWp.callv (as := [jO (se + (5 + 2 * o))]) (rest := [jI y]) mt rfl rfl rfl ⟨rfl, jtg (hK.o o (by omega))⟩ ?_
          refine jCall.mono (C_greatest (w := w) (s := se + (5 + 2 * o)) (sc := se + (6 + 2 * o)) (n := n) (hK.o o (by omega)) (hK.c o (by omega)) (hK.rc o (by omega)) (hC.2 o (by omega)).1 hn4 hn2) (fun v9 w9 h9 => ?_)
          obtain ⟨rfl, h9⟩ := h9
          subst w9
          show jWp 36 37 [some (jO se), some (jI y), some (jI (o : Int))] [jI (zco (w.1 (se + (6 + 2 * o))) n n), jI y] 0 0 w _
          refine jWp.maxI (pc' := 40) mt rfl rfl rfl rfl rfl ?_
          show jWp 36 40 [some (jO se), some (jI y), some (jI (o : Int))] [jI (jmx (b32 y) (b32 (zco (w.1 (se + (6 + 2 * o))) n n)))] 0 0 w _
          refine jWp.blk mt 3 ?_
          show jWp 36 12 [some (jO se), some (jI (jmx (b32 y) (b32 (zco (w.1 (se + (6 + 2 * o))) n n)))), some (jI ((o : Int) + 1))] [] 0 0 w _
          refine jWp.le (l := [some (jO se), some (jI (jmx (b32 y) (b32 (zco (w.1 (se + (6 + 2 * o))) n n)))), some (jI ((o : Int) + 1))]) (by exact ⟨rfl, rfl, rfl, trivial⟩) ?_
          exact ih2 (o + 1) _ (by omega) (fun gg => zcm_s hG hC hBL (by omega) gg (hg gg) (hy gg)) (by omega)
  refine jWp.le (l := [some (jO se), some (jI (zco (w.1 (se + (6 + 2 * 0))) n n)), some (jI 1)]) (by exact ⟨rfl, rfl, rfl, trivial⟩) ?_
  exact lp1 _ 1 _ (by omega) (fun gg => zcm_0 hG hC hBL gg (hg gg)) (Nat.lt_succ_self _)
set_option maxHeartbeats 4000000 in
set_option maxRecDepth 20000 in
theorem C_notWhole {w : jS} {se n : Nat} (hK : SK w.2 se) (hn4 : n ≤ 4) {g : Prop} {L : List zE} {q0 : Nat → Int} (hC : cSL w.1 se n g L) (hBL : zBL n q0 L) (hl : L.length ≤ 161) : jCall 37 [jO se] w (fun v w1 => w1 = w ∧ ∃ y, v = some (jI y) ∧ ((∀ x i, x < L.length → i < n → (zL L x).1 (25 + i) = 1) → y = 0)) := by
  have mt : jtb 37 = jT37 := rfl
  show jWp 37 0 [some (jO se), none, none, none] [] 0 0 w _
  refine jWp.blk mt 4 ?_
  show jWp 37 4 [some (jO se), some (jI 0), some (jI 0), none] [] 0 0 w _
  have lp1 : ∀ (N : Nat) (o : Nat) (y : Int) (ho : o ≤ L.length) (hy0 : 0 ≤ y ∧ y ≤ 4 * (o : Int)) (hy : (∀ x i, x < o → i < n → (zL L x).1 (25 + i) = 1) → y = 0), L.length - o < N → jWp 37 4 [some (jO se), some (jI y), some (jI (o : Int)), none] [] 0 0 w (fun v w1 => w1 = w ∧ ∃ y, v = some (jI y) ∧ ((∀ x i, x < L.length → i < n → (zL L x).1 (25 + i) = 1) → y = 0)) := by
    intro N
    induction N with
    | zero => intro o y ho hy0 hy hm; omega
    | succ N ih2 =>
      intro o y ho hy0 hy hm
      refine jWp.blk mt 2 ?_
      show _ ∧ jWp 37 6 [some (jO se), some (jI y), some (jI (o : Int)), none] [jO se, jI (o : Int)] 0 0 w _
      refine ⟨rfl, ?_⟩
      refine jWp.getI (pc' := 9) mt rfl rfl (jtg hK.k0) ?_
      rw [show (w.1 se 0) = (L.length : Int) from hC.1]
      show jWp 37 9 [some (jO se), some (jI y), some (jI (o : Int)), none] [jI (L.length : Int), jI (o : Int)] 0 0 w _
      refine jWp.icmp (pc' := 12) mt rfl rfl (b32_id (by omega) (by omega)) (b32_id (by omega) (by omega)) (fun h3 => ?_) (fun h3 => ?_)
      · have h3 : (L.length : Int) ≤ (o : Int) := h3
        refine jWp.blk mt 1 ?_
        show jWp 37 63 [some (jO se), some (jI y), some (jI (o : Int)), none] [jI y] 0 0 w _
        refine jWp.ireti mt rfl ⟨rfl, rfl⟩ rfl ?_
        exact ⟨rfl, y, rfl, fun g => hy (fun x z hx hz => g x z (by omega) hz)⟩
      · have h3 : (o : Int) < (L.length : Int) := h3
        refine jWp.blk mt 2 ?_
        show jWp 37 16 [some (jO se), some (jI y), some (jI (o : Int)), none] [jI 161, jI (o : Int)] 0 0 w _
        refine jWp.icmp (pc' := 19) mt rfl rfl (b32_id (by omega) (by omega)) (show b32 161 = 161 by decide) (fun h4 => ?_) (fun h4 => ?_)
        · have h4 : 161 ≤ (o : Int) := h4
          refine jWp.blk mt 1 ?_
          show jWp 37 63 [some (jO se), some (jI y), some (jI (o : Int)), none] [jI y] 0 0 w _
          refine jWp.ireti mt rfl ⟨rfl, rfl⟩ rfl ?_
          exact ⟨rfl, y, rfl, fun g => hy (fun x z hx hz => g x z (by omega) hz)⟩
        · have h4 : (o : Int) < 161 := h4
          refine jWp.blk mt 2 ?_
          show jWp 37 21 [some (jO se), some (jI y), some (jI (o : Int)), some (jI 0)] [] 0 0 w _
          have lp5 : ∀ (N : Nat) (i : Nat) (y : Int) (hi : i ≤ n) (hy1 : 0 ≤ y ∧ y ≤ 4 * (o : Int) + (i : Int)) (hy : (∀ x z, x < o + 1 → z < n → (x < o ∨ z < i) → (zL L x).1 (25 + z) = 1) → y = 0), n - i < N → jWp 37 21 [some (jO se), some (jI y), some (jI (o : Int)), some (jI (i : Int))] [] 0 0 w (fun v w1 => w1 = w ∧ ∃ y, v = some (jI y) ∧ ((∀ x i, x < L.length → i < n → (zL L x).1 (25 + i) = 1) → y = 0)) := by
            intro N
            induction N with
            | zero => intro i y hi hy1 hy hm; omega
            | succ N ih6 =>
              intro i y hi hy1 hy hm
              refine jWp.blk mt 2 ?_
              show _ ∧ jWp 37 23 [some (jO se), some (jI y), some (jI (o : Int)), some (jI (i : Int))] [jO se, jI (i : Int)] 0 0 w _
              refine ⟨rfl, ?_⟩
              refine jWp.getR (pc' := 26) (o := (se + 1)) mt rfl rfl (jtg hK.k0) hK.r1 ?_
              show jWp 37 26 [some (jO se), some (jI y), some (jI (o : Int)), some (jI (i : Int))] [jO (se + 1), jI (i : Int)] 0 0 w _
              refine jWp.blk mt 1 ?_
              show jWp 37 27 [some (jO se), some (jI y), some (jI (o : Int)), some (jI (i : Int))] [jI (o : Int), jO (se + 1), jI (i : Int)] 0 0 w _
              refine jWp.aald (pc' := 28) (j := o) (o := (se + (5 + 2 * o))) mt rfl rfl (jrg hK.k1 (by decide) (by decide)) (b32_id (by omega) (by omega)) (jlt hK.k1 (by omega)) (hK.q o (by omega)) ?_
              show jWp 37 28 [some (jO se), some (jI y), some (jI (o : Int)), some (jI (i : Int))] [jO (se + (5 + 2 * o)), jI (i : Int)] 0 0 w _
              refine jWp.getI (pc' := 31) mt rfl rfl (jtg (hK.o o (by omega))) ?_
              rw [show (w.1 (se + (5 + 2 * o)) 0) = (n : Int) from (hC.2 o (by omega)).1]
              show jWp 37 31 [some (jO se), some (jI y), some (jI (o : Int)), some (jI (i : Int))] [jI (n : Int), jI (i : Int)] 0 0 w _
              refine jWp.icmp (pc' := 34) mt rfl rfl (b32_id (by omega) (by omega)) (b32_id (by omega) (by omega)) (fun h7 => ?_) (fun h7 => ?_)
              · have h7 : (n : Int) ≤ (i : Int) := h7
                refine jWp.blk mt 2 ?_
                show jWp 37 4 [some (jO se), some (jI y), some (jI ((o : Int) + 1)), some (jI (i : Int))] [] 0 0 w _
                refine jWp.le (l := [some (jO se), some (jI y), some (jI ((o : Int) + 1)), none]) (by exact ⟨rfl, rfl, rfl, trivial⟩) ?_
                exact ih2 (o + 1) y (by omega) (by omega) (fun g => hy (fun x z hx hz _ => g x z (by omega) hz)) (by omega)
              · have h7 : (i : Int) < (n : Int) := h7
                refine jWp.blk mt 1 ?_
                show _ ∧ jWp 37 35 [some (jO se), some (jI y), some (jI (o : Int)), some (jI (i : Int))] [jO se] 0 0 w _
                refine ⟨rfl, ?_⟩
                refine jWp.getR (pc' := 38) (o := (se + 1)) mt rfl rfl (jtg hK.k0) hK.r1 ?_
                show jWp 37 38 [some (jO se), some (jI y), some (jI (o : Int)), some (jI (i : Int))] [jO (se + 1)] 0 0 w _
                refine jWp.blk mt 1 ?_
                show jWp 37 39 [some (jO se), some (jI y), some (jI (o : Int)), some (jI (i : Int))] [jI (o : Int), jO (se + 1)] 0 0 w _
                refine jWp.aald (pc' := 40) (j := o) (o := (se + (5 + 2 * o))) mt rfl rfl (jrg hK.k1 (by decide) (by decide)) (b32_id (by omega) (by omega)) (jlt hK.k1 (by omega)) (hK.q o (by omega)) ?_
                show jWp 37 40 [some (jO se), some (jI y), some (jI (o : Int)), some (jI (i : Int))] [jO (se + (5 + 2 * o))] 0 0 w _
                refine jWp.blk mt 1 ?_
                show jWp 37 41 [some (jO se), some (jI y), some (jI (o : Int)), some (jI (i : Int))] [jI (i : Int), jO (se + (5 + 2 * o))] 0 0 w _
                refine jWp.callv (as := [jO (se + (5 + 2 * o)), jI (i : Int)]) (rest := []) mt rfl rfl rfl ⟨rfl, jtg (hK.o o (by omega))⟩ ?_
                refine jCall.mono (C_isWhole (w := w) (s := se + (5 + 2 * o)) (sc := se + (6 + 2 * o)) (n := n) (q := (zL L o).1) (hK.o o (by omega)) (hK.c o (by omega)) (hK.rc o (by omega)) (hC.2 o (by omega)).1 hn4 (hBL.2.2.2 o (by omega)).1 (hC.2 o (by omega)).2.1.1 (i := i) (by omega)) (fun v9 w9 h9 => ?_)
                obtain ⟨h9, yw, rfl, hyw, hyx⟩ := h9
                subst w9
                show jWp 37 44 [some (jO se), some (jI y), some (jI (o : Int)), some (jI (i : Int))] [jI yw] 0 0 w _
                refine jWp.ifz (pc' := 47) mt rfl rfl (b32_id (by omega) (by omega)) (fun h8 => ?_) (fun h8 => ?_)
                · have h8 : yw ≠ 0 := h8
                  refine jWp.blk mt 2 ?_
                  show jWp 37 21 [some (jO se), some (jI y), some (jI (o : Int)), some (jI ((i : Int) + 1))] [] 0 0 w _
                  refine jWp.le (l := [some (jO se), some (jI y), some (jI (o : Int)), some (jI ((i : Int) + 1))]) (by exact ⟨rfl, rfl, rfl, rfl, trivial⟩) ?_
                  exact ih6 (i + 1) _ (by omega) (by omega) (fun g => by have g1 := hy (fun x z hx hz h => g x z hx hz (by omega)); have g2 := hyx (g o i (by omega) (by omega) (by omega)); omega) (by omega)
                · have h8 : yw = 0 := h8
                  refine jWp.blk mt 3 ?_
                  show jWp 37 21 [some (jO se), some (jI (y + 1)), some (jI (o : Int)), some (jI ((i : Int) + 1))] [] 0 0 w _
                  refine jWp.le (l := [some (jO se), some (jI (y + 1)), some (jI (o : Int)), some (jI ((i : Int) + 1))]) (by exact ⟨rfl, rfl, rfl, rfl, trivial⟩) ?_
                  exact ih6 (i + 1) _ (by omega) (by omega) (fun g => by have g1 := hy (fun x z hx hz h => g x z hx hz (by omega)); have g2 := hyx (g o i (by omega) (by omega) (by omega)); omega) (by omega)
          refine jWp.le (l := [some (jO se), some (jI y), some (jI (o : Int)), some (jI 0)]) (by exact ⟨rfl, rfl, rfl, rfl, trivial⟩) ?_
          exact lp5 _ 0 y (by omega) (by omega) (fun g => hy (fun x z hx hz => g x z (by omega) hz (Or.inl hx))) (Nat.lt_succ_self _)
  refine jWp.le (l := [some (jO se), some (jI 0), some (jI 0), none]) (by exact ⟨rfl, rfl, rfl, trivial⟩) ?_
  exact lp1 _ 0 0 (by omega) (by omega) (fun _ => rfl) (Nat.lt_succ_self _)
set_option maxHeartbeats 4000000 in
set_option maxRecDepth 20000 in
theorem C_firstWith {w : jS} {se n : Nat} (hK : SK w.2 se) (hn4 : n ≤ 4) {g : Prop} {L : List zE} {q0 : Nat → Int} (hC : cSL w.1 se n g L) (hBL : zBL n q0 L) (hl : L.length ≤ 161) {a b : Int} (ha : 0 ≤ a ∧ a ≤ 2147483648) (hb : 0 ≤ b ∧ b ≤ 2147483648) : jCall 38 [jO se, jJ a, jJ b] w (jvi (if zfp L n a b < 0 then -1 else zfp L n a b) w) := by
  have mt : jtb 38 = jT38 := rfl
  show jWp 38 0 [some (jO se), some (jJ a), none, some (jJ b), none, none, none, none] [] 0 0 w _
  refine jWp.blk mt 2 ?_
  show jWp 38 3 [some (jO se), some (jJ a), none, some (jJ b), none, some (jI 0), none, none] [] 0 0 w _
  have lp1 : ∀ (N : Nat) (o : Nat) (ho : o ≤ L.length) (hfp : zff (fun o => zhv (zL L o).1 n a b) (L.length - o) o = zfp L n a b), L.length - o < N → jWp 38 3 [some (jO se), some (jJ a), none, some (jJ b), none, some (jI (o : Int)), none, none] [] 0 0 w (jvi (if zfp L n a b < 0 then -1 else zfp L n a b) w) := by
    intro N
    induction N with
    | zero => intro o ho hfp hm; omega
    | succ N ih2 =>
      intro o ho hfp hm
      refine jWp.blk mt 2 ?_
      show _ ∧ jWp 38 6 [some (jO se), some (jJ a), none, some (jJ b), none, some (jI (o : Int)), none, none] [jO se, jI (o : Int)] 0 0 w _
      refine ⟨rfl, ?_⟩
      refine jWp.getI (pc' := 9) mt rfl rfl (jtg hK.k0) ?_
      rw [show (w.1 se 0) = (L.length : Int) from hC.1]
      show jWp 38 9 [some (jO se), some (jJ a), none, some (jJ b), none, some (jI (o : Int)), none, none] [jI (L.length : Int), jI (o : Int)] 0 0 w _
      refine jWp.icmp (pc' := 12) mt rfl rfl (b32_id (by omega) (by omega)) (b32_id (by omega) (by omega)) (fun h3 => ?_) (fun h3 => ?_)
      · have h3 : (L.length : Int) ≤ (o : Int) := h3
        refine jWp.blk mt 1 ?_
        show jWp 38 82 [some (jO se), some (jJ a), none, some (jJ b), none, some (jI (o : Int)), none, none] [jI (-1)] 0 0 w _
        refine jWp.ireti mt rfl ⟨rfl, rfl⟩ rfl ?_
        first
        | (refine ⟨?_, rfl⟩
           have e : zfp L n a b = (o : Int) := by
             rw [← hfp, show L.length - o = (L.length - (o + 1)) + 1 by omega]
             exact zff_t ⟨i, by omega, by first | assumption | (rw [← hm2]; assumption)⟩
           rw [e, if_neg (by omega)]; done)
        | (refine ⟨?_, rfl⟩
           have e : zfp L n a b = -9 := by
             rw [← hfp, show L.length - o = 0 by omega]
             rfl
           rw [e]
           rfl)
      · have h3 : (o : Int) < (L.length : Int) := h3
        refine jWp.blk mt 2 ?_
        show jWp 38 17 [some (jO se), some (jJ a), none, some (jJ b), none, some (jI (o : Int)), none, none] [jI 161, jI (o : Int)] 0 0 w _
        refine jWp.icmp (pc' := 20) mt rfl rfl (b32_id (by omega) (by omega)) (show b32 161 = 161 by decide) (fun h4 => ?_) (fun h4 => ?_)
        · have h4 : 161 ≤ (o : Int) := h4
          refine jWp.blk mt 1 ?_
          show jWp 38 82 [some (jO se), some (jJ a), none, some (jJ b), none, some (jI (o : Int)), none, none] [jI (-1)] 0 0 w _
          refine jWp.ireti mt rfl ⟨rfl, rfl⟩ rfl ?_
          first
          | (refine ⟨?_, rfl⟩
             have e : zfp L n a b = (o : Int) := by
               rw [← hfp, show L.length - o = (L.length - (o + 1)) + 1 by omega]
               exact zff_t ⟨i, by omega, by first | assumption | (rw [← hm2]; assumption)⟩
             rw [e, if_neg (by omega)]; done)
          | (refine ⟨?_, rfl⟩
             have e : zfp L n a b = -9 := by
               rw [← hfp, show L.length - o = 0 by omega]
               rfl
             rw [e]
             rfl)
        · have h4 : (o : Int) < 161 := h4
          refine jWp.blk mt 1 ?_
          show _ ∧ jWp 38 21 [some (jO se), some (jJ a), none, some (jJ b), none, some (jI (o : Int)), none, none] [jO se] 0 0 w _
          refine ⟨rfl, ?_⟩
          refine jWp.getR (pc' := 24) (o := (se + 1)) mt rfl rfl (jtg hK.k0) hK.r1 ?_
          show jWp 38 24 [some (jO se), some (jJ a), none, some (jJ b), none, some (jI (o : Int)), none, none] [jO (se + 1)] 0 0 w _
          refine jWp.blk mt 1 ?_
          show jWp 38 26 [some (jO se), some (jJ a), none, some (jJ b), none, some (jI (o : Int)), none, none] [jI (o : Int), jO (se + 1)] 0 0 w _
          refine jWp.aald (pc' := 27) (j := o) (o := (se + (5 + 2 * o))) mt rfl rfl (jrg hK.k1 (by decide) (by decide)) (b32_id (by omega) (by omega)) (jlt hK.k1 (by omega)) (hK.q o (by omega)) ?_
          show jWp 38 27 [some (jO se), some (jJ a), none, some (jJ b), none, some (jI (o : Int)), none, none] [jO (se + (5 + 2 * o))] 0 0 w _
          refine jWp.blk mt 3 ?_
          show _ ∧ jWp 38 32 [some (jO se), some (jJ a), none, some (jJ b), none, some (jI (o : Int)), some (jO (se + (5 + 2 * o))), some (jI 0)] [] 0 0 w _
          refine ⟨rfl, ?_⟩
          have lp5 : ∀ (N : Nat) (i : Nat) (hi : i ≤ n) (hA : ∀ x, x < i → ¬ (zL L o).1 (21 + x) * b = (zL L o).1 (25 + x) * a), n - i < N → jWp 38 32 [some (jO se), some (jJ a), none, some (jJ b), none, some (jI (o : Int)), some (jO (se + (5 + 2 * o))), some (jI (i : Int))] [] 0 0 w (jvi (if zfp L n a b < 0 then -1 else zfp L n a b) w) := by
            intro N
            induction N with
            | zero => intro i hi hA hm; omega
            | succ N ih6 =>
              intro i hi hA hm
              have hv : i < n → (1 ≤ (zL L o).1 (21 + i) ∧ (zL L o).1 (21 + i) ≤ 1000000000 ∧ 1 ≤ (zL L o).1 (25 + i) ∧ (zL L o).1 (25 + i) ≤ 1000000000) := fun h => (hBL.2.2.2 o (by omega)).1.S.v i (by omega)
              have hp1 : i < n → _ := fun h => zmulv (x := (zL L o).1 (21 + i)) (y := b) ⟨(hv h).1, (hv h).2.1⟩ hb
              have hp2 : i < n → _ := fun h => zmulv (x := (zL L o).1 (25 + i)) (y := a) ⟨(hv h).2.2.1, (hv h).2.2.2⟩ ha
              have hm2 : a * (zL L o).1 (25 + i) = (zL L o).1 (25 + i) * a := Int.mul_comm _ _
              refine jWp.blk mt 2 ?_
              show _ ∧ jWp 38 36 [some (jO se), some (jJ a), none, some (jJ b), none, some (jI (o : Int)), some (jO (se + (5 + 2 * o))), some (jI (i : Int))] [jO (se + (5 + 2 * o)), jI (i : Int)] 0 0 w _
              refine ⟨rfl, ?_⟩
              refine jWp.getI (pc' := 39) mt rfl rfl (jtg (hK.o o (by omega))) ?_
              rw [show (w.1 (se + (5 + 2 * o)) 0) = (n : Int) from (hC.2 o (by omega)).1]
              show jWp 38 39 [some (jO se), some (jJ a), none, some (jJ b), none, some (jI (o : Int)), some (jO (se + (5 + 2 * o))), some (jI (i : Int))] [jI (n : Int), jI (i : Int)] 0 0 w _
              refine jWp.icmp (pc' := 42) mt rfl rfl (b32_id (by omega) (by omega)) (b32_id (by omega) (by omega)) (fun h7 => ?_) (fun h7 => ?_)
              · have h7 : (n : Int) ≤ (i : Int) := h7
                refine jWp.blk mt 2 ?_
                show jWp 38 3 [some (jO se), some (jJ a), none, some (jJ b), none, some (jI ((o : Int) + 1)), some (jO (se + (5 + 2 * o))), some (jI (i : Int))] [] 0 0 w _
                refine jWp.le (l := [some (jO se), some (jJ a), none, some (jJ b), none, some (jI ((o : Int) + 1)), none, none]) (by exact ⟨rfl, rfl, rfl, rfl, trivial⟩) ?_
                exact ih2 (o + 1) (by omega) (by rw [← hfp, show L.length - o = (L.length - (o + 1)) + 1 by omega, zff_f (fun ⟨x, g1, g2⟩ => hA x (by omega) g2)]) (by omega)
              · have h7 : (i : Int) < (n : Int) := h7
                refine jWp.blk mt 2 ?_
                show _ ∧ jWp 38 46 [some (jO se), some (jJ a), none, some (jJ b), none, some (jI (o : Int)), some (jO (se + (5 + 2 * o))), some (jI (i : Int))] [jI (i : Int), jO (se + (5 + 2 * o))] 0 0 w _
                refine ⟨rfl, ?_⟩
                refine jWp.callv (as := [jO (se + (5 + 2 * o)), jI (i : Int)]) (rest := []) mt rfl rfl rfl ⟨rfl, jtg (hK.o o (by omega))⟩ ?_
                refine jCall.mono ((by have h := E_sa (w := w) (sc := se + (6 + 2 * o)) (n := n) (i := i) (hK.o o (by omega)) (hK.c o (by omega)) (hK.rc o (by omega)) (hC.2 o (by omega)).1 hn4 (by omega); rw [show w.1 (se + (6 + 2 * o)) i = (zL L o).1 (21 + i) from ((hC.2 o (by omega)).2.1.1 _ (by omega)).trans (cz_u hn4 (by omega))] at h; exact h)) (fun v9 w9 h9 => ?_)
                obtain ⟨rfl, h9⟩ := h9
                subst w9
                show jWp 38 49 [some (jO se), some (jJ a), none, some (jJ b), none, some (jI (o : Int)), some (jO (se + (5 + 2 * o))), some (jI (i : Int))] [jI ((zL L o).1 (21 + i))] 0 0 w _
                refine jWp.i2l (pc' := 50) mt rfl rfl (b32_id (by omega) (by omega)) ?_
                show jWp 38 50 [some (jO se), some (jJ a), none, some (jJ b), none, some (jI (o : Int)), some (jO (se + (5 + 2 * o))), some (jI (i : Int))] [jJ ((zL L o).1 (21 + i))] 0 0 w _
                refine jWp.blk mt 5 ?_
                show _ ∧ jWp 38 57 [some (jO se), some (jJ a), none, some (jJ b), none, some (jI (o : Int)), some (jO (se + (5 + 2 * o))), some (jI (i : Int))] [jI (i : Int), jO (se + (5 + 2 * o)), jJ a, jJ (((zL L o).1 (21 + i)) * b)] 0 0 w _
                refine ⟨rfl, ?_⟩
                refine jWp.callv (as := [jO (se + (5 + 2 * o)), jI (i : Int)]) (rest := [jJ a, jJ (((zL L o).1 (21 + i)) * b)]) mt rfl rfl rfl ⟨rfl, jtg (hK.o o (by omega))⟩ ?_
                refine jCall.mono ((by have h := E_su (w := w) (sc := se + (6 + 2 * o)) (n := n) (i := i) (hK.o o (by omega)) (hK.c o (by omega)) (hK.rc o (by omega)) (hC.2 o (by omega)).1 hn4 (by omega); rw [show w.1 (se + (6 + 2 * o)) (4 + i) = (zL L o).1 (25 + i) from ((hC.2 o (by omega)).2.1.1 _ (by omega)).trans (cz_d hn4 (by omega))] at h; exact h)) (fun v9 w9 h9 => ?_)
                obtain ⟨rfl, h9⟩ := h9
                subst w9
                show jWp 38 60 [some (jO se), some (jJ a), none, some (jJ b), none, some (jI (o : Int)), some (jO (se + (5 + 2 * o))), some (jI (i : Int))] [jI ((zL L o).1 (25 + i)), jJ a, jJ (((zL L o).1 (21 + i)) * b)] 0 0 w _
                refine jWp.i2l (pc' := 61) mt rfl rfl (b32_id (by omega) (by omega)) ?_
                show jWp 38 61 [some (jO se), some (jJ a), none, some (jJ b), none, some (jI (o : Int)), some (jO (se + (5 + 2 * o))), some (jI (i : Int))] [jJ ((zL L o).1 (25 + i)), jJ a, jJ (((zL L o).1 (21 + i)) * b)] 0 0 w _
                refine jWp.blk mt 1 ?_
                show jWp 38 62 [some (jO se), some (jJ a), none, some (jJ b), none, some (jI (o : Int)), some (jO (se + (5 + 2 * o))), some (jI (i : Int))] [jJ (a * ((zL L o).1 (25 + i))), jJ (((zL L o).1 (21 + i)) * b)] 0 0 w _
                refine jWp.lcmp (pc' := 66) mt rfl rfl rfl (b64_id (by omega) (by omega)) (b64_id (by omega) (by omega)) (fun h8 => ?_) (fun h8 => ?_)
                · have h8 : (((zL L o).1 (21 + i)) * b) ≠ (a * ((zL L o).1 (25 + i))) := h8
                  refine jWp.blk mt 2 ?_
                  show jWp 38 32 [some (jO se), some (jJ a), none, some (jJ b), none, some (jI (o : Int)), some (jO (se + (5 + 2 * o))), some (jI ((i : Int) + 1))] [] 0 0 w _
                  refine jWp.le (l := [some (jO se), some (jJ a), none, some (jJ b), none, some (jI (o : Int)), some (jO (se + (5 + 2 * o))), some (jI ((i : Int) + 1))]) (by exact ⟨rfl, rfl, rfl, rfl, rfl, rfl, trivial⟩) ?_
                  exact ih6 (i + 1) (by omega) (fun x hx => by rcases Nat.lt_or_ge x i with e | e; exact hA x e; rw [show x = i by omega]; first | assumption | (rw [← hm2]; assumption)) (by omega)
                · have h8 : (((zL L o).1 (21 + i)) * b) = (a * ((zL L o).1 (25 + i))) := h8
                  refine jWp.blk mt 1 ?_
                  show jWp 38 68 [some (jO se), some (jJ a), none, some (jJ b), none, some (jI (o : Int)), some (jO (se + (5 + 2 * o))), some (jI (i : Int))] [jI (o : Int)] 0 0 w _
                  refine jWp.ireti mt rfl ⟨rfl, rfl⟩ rfl ?_
                  first
                  | (refine ⟨?_, rfl⟩
                     have e : zfp L n a b = (o : Int) := by
                       rw [← hfp, show L.length - o = (L.length - (o + 1)) + 1 by omega]
                       exact zff_t ⟨i, by omega, by first | assumption | (rw [← hm2]; assumption)⟩
                     rw [e, if_neg (by omega)]; done)
                  | (refine ⟨?_, rfl⟩
                     have e : zfp L n a b = -9 := by
                       rw [← hfp, show L.length - o = 0 by omega]
                       rfl
                     rw [e]
                     rfl)
          refine jWp.le (l := [some (jO se), some (jJ a), none, some (jJ b), none, some (jI (o : Int)), some (jO (se + (5 + 2 * o))), some (jI 0)]) (by exact ⟨rfl, rfl, rfl, rfl, rfl, rfl, trivial⟩) ?_
          exact lp5 _ 0 (by omega) (fun x hx => absurd hx (by omega)) (Nat.lt_succ_self _)
  refine jWp.le (l := [some (jO se), some (jJ a), none, some (jJ b), none, some (jI 0), none, none]) (by exact ⟨rfl, rfl, rfl, rfl, trivial⟩) ?_
  exact lp1 _ 0 (by omega) rfl (Nat.lt_succ_self _)
set_option maxHeartbeats 4000000 in
set_option maxRecDepth 20000 in
theorem C_stepsTo {w : jS} {se n : Nat} (hK : SK w.2 se) (hn4 : n ≤ 4) {g : Prop} {L : List zE} {q0 : Nat → Int} (hC : cSL w.1 se n g L) (hBL : zBL n q0 L) (hl : L.length ≤ 161) {o : Nat} (ho : o < L.length) : jCall 39 [jO se, jI (o : Int)] w (jvi ((zL L o).2.2.2 : Int) w) := by
  have mt : jtb 39 = jT39 := rfl
  have hwo : (zL L o).2.2.2 ≤ o := zBL_w hBL (o + 1) o (by omega) (by omega)
  show jWp 39 0 [some (jO se), some (jI (o : Int))] [] 0 0 w _
  refine jWp.blk mt 1 ?_
  show jWp 39 1 [some (jO se), some (jI (o : Int))] [jI (o : Int)] 0 0 w _
  refine jWp.ifz (pc' := 4) mt rfl rfl (b32_id (by omega) (by omega)) (fun h1 => ?_) (fun h1 => ?_)
  · have h1 : (o : Int) < 0 := h1
    refine jWp.blk mt 1 ?_
    show jWp 39 29 [some (jO se), some (jI (o : Int))] [jI 0] 0 0 w _
    refine jWp.ireti mt rfl ⟨rfl, rfl⟩ rfl ?_
    first
    | (exfalso; omega)
    | exact ⟨rfl, rfl⟩
  · have h1 : 0 ≤ (o : Int) := h1
    refine jWp.blk mt 2 ?_
    show _ ∧ jWp 39 6 [some (jO se), some (jI (o : Int))] [jO se, jI (o : Int)] 0 0 w _
    refine ⟨rfl, ?_⟩
    refine jWp.getI (pc' := 9) mt rfl rfl (jtg hK.k0) ?_
    rw [show (w.1 se 0) = (L.length : Int) from hC.1]
    show jWp 39 9 [some (jO se), some (jI (o : Int))] [jI (L.length : Int), jI (o : Int)] 0 0 w _
    refine jWp.icmp (pc' := 12) mt rfl rfl (b32_id (by omega) (by omega)) (b32_id (by omega) (by omega)) (fun h2 => ?_) (fun h2 => ?_)
    · have h2 : (L.length : Int) ≤ (o : Int) := h2
      refine jWp.blk mt 1 ?_
      show jWp 39 29 [some (jO se), some (jI (o : Int))] [jI 0] 0 0 w _
      refine jWp.ireti mt rfl ⟨rfl, rfl⟩ rfl ?_
      first
      | (exfalso; omega)
      | exact ⟨rfl, rfl⟩
    · have h2 : (o : Int) < (L.length : Int) := h2
      refine jWp.blk mt 2 ?_
      show jWp 39 16 [some (jO se), some (jI (o : Int))] [jI 161, jI (o : Int)] 0 0 w _
      refine jWp.icmp (pc' := 19) mt rfl rfl (b32_id (by omega) (by omega)) (show b32 161 = 161 by decide) (fun h3 => ?_) (fun h3 => ?_)
      · have h3 : 161 ≤ (o : Int) := h3
        refine jWp.blk mt 1 ?_
        show jWp 39 29 [some (jO se), some (jI (o : Int))] [jI 0] 0 0 w _
        refine jWp.ireti mt rfl ⟨rfl, rfl⟩ rfl ?_
        first
        | (exfalso; omega)
        | exact ⟨rfl, rfl⟩
      · have h3 : (o : Int) < 161 := h3
        refine jWp.blk mt 1 ?_
        show _ ∧ jWp 39 20 [some (jO se), some (jI (o : Int))] [jO se] 0 0 w _
        refine ⟨rfl, ?_⟩
        refine jWp.getR (pc' := 23) (o := (se + 4)) mt rfl rfl (jtg hK.k0) hK.r4 ?_
        show jWp 39 23 [some (jO se), some (jI (o : Int))] [jO (se + 4)] 0 0 w _
        refine jWp.blk mt 1 ?_
        show jWp 39 24 [some (jO se), some (jI (o : Int))] [jI (o : Int), jO (se + 4)] 0 0 w _
        refine jWp.iald (pc' := 25) (j := o) mt rfl rfl (jird_of hK.k4) (b32_id (by omega) (by omega)) (jlt hK.k4 (by omega)) ?_
        rw [show (w.1 (se + 4) o) = ((zL L o).2.2.2 : Int) from (hC.2 o (by omega)).2.2.1]
        show jWp 39 25 [some (jO se), some (jI (o : Int))] [jI ((zL L o).2.2.2 : Int)] 0 0 w _
        refine jWp.blk mt 1 ?_
        show jWp 39 29 [some (jO se), some (jI (o : Int))] [jI ((zL L o).2.2.2 : Int)] 0 0 w _
        refine jWp.ireti mt rfl ⟨rfl, rfl⟩ rfl ?_
        first
        | (exfalso; omega)
        | exact ⟨rfl, rfl⟩
set_option maxHeartbeats 4000000 in
set_option maxRecDepth 20000 in
theorem C_letterTo {w : jS} {se n : Nat} (hK : SK w.2 se) (hn4 : n ≤ 4) {g : Prop} {L : List zE} {q0 : Nat → Int} (hC : cSL w.1 se n g L) (hBL : zBL n q0 L) (hl : L.length ≤ 161) {o i : Nat} (ho : o < L.length) (hi : i < (zL L o).2.2.2) (hw4 : ∀ x, x < L.length → (zL L x).2.2.2 ≤ 4) : jCall 40 [jO se, jI (o : Int), jI (i : Int)] w (jvi ((zL L (zan L 5 o (i : Int))).2.2.1 : Int) w) := by
  have mt : jtb 40 = jT40 := rfl
  have hwo := hw4 o ho
  show jWp 40 0 [some (jO se), some (jI (o : Int)), some (jI (i : Int)), none, none] [] 0 0 w _
  refine jWp.blk mt 4 ?_
  show jWp 40 5 [some (jO se), some (jI (o : Int)), some (jI (i : Int)), some (jI (o : Int)), some (jI 0)] [] 0 0 w _
  have lp1 : ∀ (N : Nat) (x c : Nat) (hx : x < L.length) (hc : i < (zL L x).2.2.2 ∧ (zL L x).2.2.2 + c ≤ 4) (hza : zan L (5 - c) x (i : Int) = zan L 5 o (i : Int)), 4 - c < N → jWp 40 5 [some (jO se), some (jI (o : Int)), some (jI (i : Int)), some (jI (x : Int)), some (jI (c : Int))] [] 0 0 w (jvi ((zL L (zan L 5 o (i : Int))).2.2.1 : Int) w) := by
    intro N
    induction N with
    | zero => intro x c hx hc hza hm; omega
    | succ N ih2 =>
      intro x c hx hc hza hm
      have hx1 : 1 ≤ x := by
        rcases Nat.eq_zero_or_pos x with e | e
        · have z := hc.1
          rw [e, hBL.2.2.1] at z
          omega
        · exact e
      have hxg := (hBL.2.2.2 x hx).2 hx1
      refine jWp.blk mt 2 ?_
      show jWp 40 8 [some (jO se), some (jI (o : Int)), some (jI (i : Int)), some (jI (x : Int)), some (jI (c : Int))] [jI 4, jI (c : Int)] 0 0 w _
      refine jWp.icmp (pc' := 11) mt rfl rfl (b32_id (by omega) (by omega)) (show b32 4 = 4 by decide) (fun h3 => ?_) (fun h3 => ?_)
      · have h3 : 4 ≤ (c : Int) := h3
        refine jWp.blk mt 1 ?_
        show jWp 40 40 [some (jO se), some (jI (o : Int)), some (jI (i : Int)), some (jI (x : Int)), some (jI (c : Int))] [jI (i : Int)] 0 0 w _
        refine jWp.ifz (pc' := 43) mt rfl rfl (b32_id (by omega) (by omega)) (fun h4 => ?_) (fun h4 => ?_)
        · have h4 : (i : Int) < 0 := h4
          refine jWp.blk mt 1 ?_
          show jWp 40 65 [some (jO se), some (jI (o : Int)), some (jI (i : Int)), some (jI (x : Int)), some (jI (c : Int))] [jI (-9)] 0 0 w _
          refine jWp.ireti mt rfl ⟨rfl, rfl⟩ rfl ?_
          first
          | (exfalso; omega)
          | (refine ⟨?_, rfl⟩
             rw [← hza, zan_f (by omega)]
             first
             | (rw [if_neg (by omega)]; done)
             | rfl)
        · have h4 : 0 ≤ (i : Int) := h4
          refine jWp.blk mt 2 ?_
          show _ ∧ jWp 40 45 [some (jO se), some (jI (o : Int)), some (jI (i : Int)), some (jI (x : Int)), some (jI (c : Int))] [jI (x : Int), jO se] 0 0 w _
          refine ⟨rfl, ?_⟩
          refine jWp.callv (as := [jO se, jI (x : Int)]) (rest := []) mt rfl rfl rfl ⟨rfl, jtg hK.k0⟩ ?_
          refine jCall.mono (C_stepsTo (w := w) (o := x) (L := L) hK hn4 hC hBL hl (by omega)) (fun v9 w9 h9 => ?_)
          obtain ⟨rfl, h9⟩ := h9
          subst w9
          show jWp 40 48 [some (jO se), some (jI (o : Int)), some (jI (i : Int)), some (jI (x : Int)), some (jI (c : Int))] [jI ((zL L x).2.2.2 : Int)] 0 0 w _
          refine jWp.blk mt 3 ?_
          show jWp 40 51 [some (jO se), some (jI (o : Int)), some (jI (i : Int)), some (jI (x : Int)), some (jI (c : Int))] [jI ((i : Int) + 1), jI ((zL L x).2.2.2 : Int)] 0 0 w _
          refine jWp.icmp (pc' := 54) mt rfl rfl (b32_id (by omega) (by omega)) (b32_id (by omega) (by omega)) (fun h5 => ?_) (fun h5 => ?_)
          · have h5 : ((zL L x).2.2.2 : Int) ≠ ((i : Int) + 1) := h5
            refine jWp.blk mt 1 ?_
            show jWp 40 65 [some (jO se), some (jI (o : Int)), some (jI (i : Int)), some (jI (x : Int)), some (jI (c : Int))] [jI (-9)] 0 0 w _
            refine jWp.ireti mt rfl ⟨rfl, rfl⟩ rfl ?_
            first
            | (exfalso; omega)
            | (refine ⟨?_, rfl⟩
               rw [← hza, zan_f (by omega)]
               first
               | (rw [if_neg (by omega)]; done)
               | rfl)
          · have h5 : ((zL L x).2.2.2 : Int) = ((i : Int) + 1) := h5
            refine jWp.blk mt 1 ?_
            show _ ∧ jWp 40 55 [some (jO se), some (jI (o : Int)), some (jI (i : Int)), some (jI (x : Int)), some (jI (c : Int))] [jO se] 0 0 w _
            refine ⟨rfl, ?_⟩
            refine jWp.getR (pc' := 58) (o := (se + 3)) mt rfl rfl (jtg hK.k0) hK.r3 ?_
            show jWp 40 58 [some (jO se), some (jI (o : Int)), some (jI (i : Int)), some (jI (x : Int)), some (jI (c : Int))] [jO (se + 3)] 0 0 w _
            refine jWp.blk mt 1 ?_
            show jWp 40 59 [some (jO se), some (jI (o : Int)), some (jI (i : Int)), some (jI (x : Int)), some (jI (c : Int))] [jI (x : Int), jO (se + 3)] 0 0 w _
            refine jWp.iald (pc' := 60) (j := x) mt rfl rfl (jird_of hK.k3) (b32_id (by omega) (by omega)) (jlt hK.k3 (by omega)) ?_
            rw [show (w.1 (se + 3) x) = (if x = 0 then -1 else ((zL L x).2.2.1 : Int)) from (hC.2 x (by omega)).2.2.2.1]
            show jWp 40 60 [some (jO se), some (jI (o : Int)), some (jI (i : Int)), some (jI (x : Int)), some (jI (c : Int))] [jI (if x = 0 then -1 else ((zL L x).2.2.1 : Int))] 0 0 w _
            refine jWp.blk mt 1 ?_
            show jWp 40 65 [some (jO se), some (jI (o : Int)), some (jI (i : Int)), some (jI (x : Int)), some (jI (c : Int))] [jI (if x = 0 then -1 else ((zL L x).2.2.1 : Int))] 0 0 w _
            refine jWp.ireti mt rfl ⟨rfl, rfl⟩ rfl ?_
            first
            | (exfalso; omega)
            | (refine ⟨?_, rfl⟩
               rw [← hza, zan_f (by omega)]
               first
               | (rw [if_neg (by omega)]; done)
               | rfl)
      · have h3 : (c : Int) < 4 := h3
        refine jWp.blk mt 1 ?_
        show jWp 40 12 [some (jO se), some (jI (o : Int)), some (jI (i : Int)), some (jI (x : Int)), some (jI (c : Int))] [jI (i : Int)] 0 0 w _
        refine jWp.ifz (pc' := 15) mt rfl rfl (b32_id (by omega) (by omega)) (fun h6 => ?_) (fun h6 => ?_)
        · have h6 : (i : Int) < 0 := h6
          refine jWp.blk mt 1 ?_
          show jWp 40 40 [some (jO se), some (jI (o : Int)), some (jI (i : Int)), some (jI (x : Int)), some (jI (c : Int))] [jI (i : Int)] 0 0 w _
          refine jWp.ifz (pc' := 43) mt rfl rfl (b32_id (by omega) (by omega)) (fun h7 => ?_) (fun h7 => ?_)
          · have h7 : (i : Int) < 0 := h7
            refine jWp.blk mt 1 ?_
            show jWp 40 65 [some (jO se), some (jI (o : Int)), some (jI (i : Int)), some (jI (x : Int)), some (jI (c : Int))] [jI (-9)] 0 0 w _
            refine jWp.ireti mt rfl ⟨rfl, rfl⟩ rfl ?_
            first
            | (exfalso; omega)
            | (refine ⟨?_, rfl⟩
               rw [← hza, zan_f (by omega)]
               first
               | (rw [if_neg (by omega)]; done)
               | rfl)
          · have h7 : 0 ≤ (i : Int) := h7
            refine jWp.blk mt 2 ?_
            show _ ∧ jWp 40 45 [some (jO se), some (jI (o : Int)), some (jI (i : Int)), some (jI (x : Int)), some (jI (c : Int))] [jI (x : Int), jO se] 0 0 w _
            refine ⟨rfl, ?_⟩
            refine jWp.callv (as := [jO se, jI (x : Int)]) (rest := []) mt rfl rfl rfl ⟨rfl, jtg hK.k0⟩ ?_
            refine jCall.mono (C_stepsTo (w := w) (o := x) (L := L) hK hn4 hC hBL hl (by omega)) (fun v9 w9 h9 => ?_)
            obtain ⟨rfl, h9⟩ := h9
            subst w9
            show jWp 40 48 [some (jO se), some (jI (o : Int)), some (jI (i : Int)), some (jI (x : Int)), some (jI (c : Int))] [jI ((zL L x).2.2.2 : Int)] 0 0 w _
            refine jWp.blk mt 3 ?_
            show jWp 40 51 [some (jO se), some (jI (o : Int)), some (jI (i : Int)), some (jI (x : Int)), some (jI (c : Int))] [jI ((i : Int) + 1), jI ((zL L x).2.2.2 : Int)] 0 0 w _
            refine jWp.icmp (pc' := 54) mt rfl rfl (b32_id (by omega) (by omega)) (b32_id (by omega) (by omega)) (fun h8 => ?_) (fun h8 => ?_)
            · have h8 : ((zL L x).2.2.2 : Int) ≠ ((i : Int) + 1) := h8
              refine jWp.blk mt 1 ?_
              show jWp 40 65 [some (jO se), some (jI (o : Int)), some (jI (i : Int)), some (jI (x : Int)), some (jI (c : Int))] [jI (-9)] 0 0 w _
              refine jWp.ireti mt rfl ⟨rfl, rfl⟩ rfl ?_
              first
              | (exfalso; omega)
              | (refine ⟨?_, rfl⟩
                 rw [← hza, zan_f (by omega)]
                 first
                 | (rw [if_neg (by omega)]; done)
                 | rfl)
            · have h8 : ((zL L x).2.2.2 : Int) = ((i : Int) + 1) := h8
              refine jWp.blk mt 1 ?_
              show _ ∧ jWp 40 55 [some (jO se), some (jI (o : Int)), some (jI (i : Int)), some (jI (x : Int)), some (jI (c : Int))] [jO se] 0 0 w _
              refine ⟨rfl, ?_⟩
              refine jWp.getR (pc' := 58) (o := (se + 3)) mt rfl rfl (jtg hK.k0) hK.r3 ?_
              show jWp 40 58 [some (jO se), some (jI (o : Int)), some (jI (i : Int)), some (jI (x : Int)), some (jI (c : Int))] [jO (se + 3)] 0 0 w _
              refine jWp.blk mt 1 ?_
              show jWp 40 59 [some (jO se), some (jI (o : Int)), some (jI (i : Int)), some (jI (x : Int)), some (jI (c : Int))] [jI (x : Int), jO (se + 3)] 0 0 w _
              refine jWp.iald (pc' := 60) (j := x) mt rfl rfl (jird_of hK.k3) (b32_id (by omega) (by omega)) (jlt hK.k3 (by omega)) ?_
              rw [show (w.1 (se + 3) x) = (if x = 0 then -1 else ((zL L x).2.2.1 : Int)) from (hC.2 x (by omega)).2.2.2.1]
              show jWp 40 60 [some (jO se), some (jI (o : Int)), some (jI (i : Int)), some (jI (x : Int)), some (jI (c : Int))] [jI (if x = 0 then -1 else ((zL L x).2.2.1 : Int))] 0 0 w _
              refine jWp.blk mt 1 ?_
              show jWp 40 65 [some (jO se), some (jI (o : Int)), some (jI (i : Int)), some (jI (x : Int)), some (jI (c : Int))] [jI (if x = 0 then -1 else ((zL L x).2.2.1 : Int))] 0 0 w _
              refine jWp.ireti mt rfl ⟨rfl, rfl⟩ rfl ?_
              first
              | (exfalso; omega)
              | (refine ⟨?_, rfl⟩
                 rw [← hza, zan_f (by omega)]
                 first
                 | (rw [if_neg (by omega)]; done)
                 | rfl)
        · have h6 : 0 ≤ (i : Int) := h6
          refine jWp.blk mt 2 ?_
          show _ ∧ jWp 40 17 [some (jO se), some (jI (o : Int)), some (jI (i : Int)), some (jI (x : Int)), some (jI (c : Int))] [jI (x : Int), jO se] 0 0 w _
          refine ⟨rfl, ?_⟩
          refine jWp.callv (as := [jO se, jI (x : Int)]) (rest := []) mt rfl rfl rfl ⟨rfl, jtg hK.k0⟩ ?_
          refine jCall.mono (C_stepsTo (w := w) (o := x) (L := L) hK hn4 hC hBL hl (by omega)) (fun v9 w9 h9 => ?_)
          obtain ⟨rfl, h9⟩ := h9
          subst w9
          show jWp 40 20 [some (jO se), some (jI (o : Int)), some (jI (i : Int)), some (jI (x : Int)), some (jI (c : Int))] [jI ((zL L x).2.2.2 : Int)] 0 0 w _
          refine jWp.blk mt 3 ?_
          show jWp 40 23 [some (jO se), some (jI (o : Int)), some (jI (i : Int)), some (jI (x : Int)), some (jI (c : Int))] [jI ((i : Int) + 1), jI ((zL L x).2.2.2 : Int)] 0 0 w _
          refine jWp.icmp (pc' := 26) mt rfl rfl (b32_id (by omega) (by omega)) (b32_id (by omega) (by omega)) (fun h9 => ?_) (fun h9 => ?_)
          · have h9 : ((zL L x).2.2.2 : Int) ≤ ((i : Int) + 1) := h9
            refine jWp.blk mt 1 ?_
            show jWp 40 40 [some (jO se), some (jI (o : Int)), some (jI (i : Int)), some (jI (x : Int)), some (jI (c : Int))] [jI (i : Int)] 0 0 w _
            refine jWp.ifz (pc' := 43) mt rfl rfl (b32_id (by omega) (by omega)) (fun h10 => ?_) (fun h10 => ?_)
            · have h10 : (i : Int) < 0 := h10
              refine jWp.blk mt 1 ?_
              show jWp 40 65 [some (jO se), some (jI (o : Int)), some (jI (i : Int)), some (jI (x : Int)), some (jI (c : Int))] [jI (-9)] 0 0 w _
              refine jWp.ireti mt rfl ⟨rfl, rfl⟩ rfl ?_
              first
              | (exfalso; omega)
              | (refine ⟨?_, rfl⟩
                 rw [← hza, zan_f (by omega)]
                 first
                 | (rw [if_neg (by omega)]; done)
                 | rfl)
            · have h10 : 0 ≤ (i : Int) := h10
              refine jWp.blk mt 2 ?_
              show _ ∧ jWp 40 45 [some (jO se), some (jI (o : Int)), some (jI (i : Int)), some (jI (x : Int)), some (jI (c : Int))] [jI (x : Int), jO se] 0 0 w _
              refine ⟨rfl, ?_⟩
              refine jWp.callv (as := [jO se, jI (x : Int)]) (rest := []) mt rfl rfl rfl ⟨rfl, jtg hK.k0⟩ ?_
              refine jCall.mono (C_stepsTo (w := w) (o := x) (L := L) hK hn4 hC hBL hl (by omega)) (fun v9 w9 h9 => ?_)
              obtain ⟨rfl, h9⟩ := h9
              subst w9
              show jWp 40 48 [some (jO se), some (jI (o : Int)), some (jI (i : Int)), some (jI (x : Int)), some (jI (c : Int))] [jI ((zL L x).2.2.2 : Int)] 0 0 w _
              refine jWp.blk mt 3 ?_
              show jWp 40 51 [some (jO se), some (jI (o : Int)), some (jI (i : Int)), some (jI (x : Int)), some (jI (c : Int))] [jI ((i : Int) + 1), jI ((zL L x).2.2.2 : Int)] 0 0 w _
              refine jWp.icmp (pc' := 54) mt rfl rfl (b32_id (by omega) (by omega)) (b32_id (by omega) (by omega)) (fun h11 => ?_) (fun h11 => ?_)
              · have h11 : ((zL L x).2.2.2 : Int) ≠ ((i : Int) + 1) := h11
                refine jWp.blk mt 1 ?_
                show jWp 40 65 [some (jO se), some (jI (o : Int)), some (jI (i : Int)), some (jI (x : Int)), some (jI (c : Int))] [jI (-9)] 0 0 w _
                refine jWp.ireti mt rfl ⟨rfl, rfl⟩ rfl ?_
                first
                | (exfalso; omega)
                | (refine ⟨?_, rfl⟩
                   rw [← hza, zan_f (by omega)]
                   first
                   | (rw [if_neg (by omega)]; done)
                   | rfl)
              · have h11 : ((zL L x).2.2.2 : Int) = ((i : Int) + 1) := h11
                refine jWp.blk mt 1 ?_
                show _ ∧ jWp 40 55 [some (jO se), some (jI (o : Int)), some (jI (i : Int)), some (jI (x : Int)), some (jI (c : Int))] [jO se] 0 0 w _
                refine ⟨rfl, ?_⟩
                refine jWp.getR (pc' := 58) (o := (se + 3)) mt rfl rfl (jtg hK.k0) hK.r3 ?_
                show jWp 40 58 [some (jO se), some (jI (o : Int)), some (jI (i : Int)), some (jI (x : Int)), some (jI (c : Int))] [jO (se + 3)] 0 0 w _
                refine jWp.blk mt 1 ?_
                show jWp 40 59 [some (jO se), some (jI (o : Int)), some (jI (i : Int)), some (jI (x : Int)), some (jI (c : Int))] [jI (x : Int), jO (se + 3)] 0 0 w _
                refine jWp.iald (pc' := 60) (j := x) mt rfl rfl (jird_of hK.k3) (b32_id (by omega) (by omega)) (jlt hK.k3 (by omega)) ?_
                rw [show (w.1 (se + 3) x) = (if x = 0 then -1 else ((zL L x).2.2.1 : Int)) from (hC.2 x (by omega)).2.2.2.1]
                show jWp 40 60 [some (jO se), some (jI (o : Int)), some (jI (i : Int)), some (jI (x : Int)), some (jI (c : Int))] [jI (if x = 0 then -1 else ((zL L x).2.2.1 : Int))] 0 0 w _
                refine jWp.blk mt 1 ?_
                show jWp 40 65 [some (jO se), some (jI (o : Int)), some (jI (i : Int)), some (jI (x : Int)), some (jI (c : Int))] [jI (if x = 0 then -1 else ((zL L x).2.2.1 : Int))] 0 0 w _
                refine jWp.ireti mt rfl ⟨rfl, rfl⟩ rfl ?_
                first
                | (exfalso; omega)
                | (refine ⟨?_, rfl⟩
                   rw [← hza, zan_f (by omega)]
                   first
                   | (rw [if_neg (by omega)]; done)
                   | rfl)
          · have h9 : ((i : Int) + 1) < ((zL L x).2.2.2 : Int) := h9
            refine jWp.blk mt 1 ?_
            show _ ∧ jWp 40 27 [some (jO se), some (jI (o : Int)), some (jI (i : Int)), some (jI (x : Int)), some (jI (c : Int))] [jO se] 0 0 w _
            refine ⟨rfl, ?_⟩
            refine jWp.getR (pc' := 30) (o := (se + 2)) mt rfl rfl (jtg hK.k0) hK.r2 ?_
            show jWp 40 30 [some (jO se), some (jI (o : Int)), some (jI (i : Int)), some (jI (x : Int)), some (jI (c : Int))] [jO (se + 2)] 0 0 w _
            refine jWp.blk mt 1 ?_
            show jWp 40 31 [some (jO se), some (jI (o : Int)), some (jI (i : Int)), some (jI (x : Int)), some (jI (c : Int))] [jI (x : Int), jO (se + 2)] 0 0 w _
            refine jWp.iald (pc' := 32) (j := x) mt rfl rfl (jird_of hK.k2) (b32_id (by omega) (by omega)) (jlt hK.k2 (by omega)) ?_
            rw [show (w.1 (se + 2) x) = ((zL L x).2.1 : Int) from ((hC.2 x (by omega)).2.2.2.2 (by omega))]
            show jWp 40 32 [some (jO se), some (jI (o : Int)), some (jI (i : Int)), some (jI (x : Int)), some (jI (c : Int))] [jI ((zL L x).2.1 : Int)] 0 0 w _
            refine jWp.blk mt 3 ?_
            show jWp 40 5 [some (jO se), some (jI (o : Int)), some (jI (i : Int)), some (jI ((zL L x).2.1 : Int)), some (jI ((c : Int) + 1))] [] 0 0 w _
            refine jWp.le (l := [some (jO se), some (jI (o : Int)), some (jI (i : Int)), some (jI ((zL L x).2.1 : Int)), some (jI ((c : Int) + 1))]) (by exact ⟨rfl, rfl, rfl, rfl, rfl, trivial⟩) ?_
            exact ih2 (zL L x).2.1 (c + 1) (by omega) (by omega) (by rw [← hza, show 5 - c = (5 - (c + 1)) + 1 by omega, zan_t (by omega)]) (by omega)
  refine jWp.le (l := [some (jO se), some (jI (o : Int)), some (jI (i : Int)), some (jI (o : Int)), some (jI 0)]) (by exact ⟨rfl, rfl, rfl, rfl, rfl, trivial⟩) ?_
  exact lp1 _ o 0 (by omega) (by omega) rfl (Nat.lt_succ_self _)
