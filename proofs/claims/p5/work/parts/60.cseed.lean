set_option maxHeartbeats 4000000 in
set_option maxRecDepth 20000 in
theorem E_has {w : jS} {s n : Nat} (hks : w.2.1 s = (6, 0)) (hn0 : w.1 s 0 = (n : Int)) (hn4 : n ≤ 4) {i : Int} (hri : r32 i) : jCall 45 [jO s, jI i] w (jvb (0 ≤ i ∧ i < (n : Int)) w) := by
  have mt : jtb 45 = jT45 := rfl
  have hri1 : -2147483648 ≤ i ∧ i < 2147483648 := hri
  show jWp 45 0 [some (jO s), some (jI i)] [] 0 0 w _
  refine jWp.blk mt 1 ?_
  show jWp 45 1 [some (jO s), some (jI i)] [jI i] 0 0 w _
  refine jWp.ifz (pc' := 4) mt rfl rfl (b32_id (by omega) (by omega)) (fun h1 => ?_) (fun h1 => ?_)
  · have h1 : i < 0 := h1
    refine jWp.blk mt 1 ?_
    show jWp 45 22 [some (jO s), some (jI i)] [jI 0] 0 0 w _
    refine jWp.iretz mt rfl ⟨rfl, rfl⟩ rfl (Or.inl rfl) ?_
    exact Or.inr ⟨rfl, rfl, by omega⟩
  · have h1 : 0 ≤ i := h1
    refine jWp.blk mt 2 ?_
    show _ ∧ jWp 45 6 [some (jO s), some (jI i)] [jO s, jI i] 0 0 w _
    refine ⟨rfl, ?_⟩
    refine jWp.getI (pc' := 9) mt rfl rfl (jtg hks) ?_
    rw [show (w.1 s 0) = (n : Int) from hn0]
    show jWp 45 9 [some (jO s), some (jI i)] [jI (n : Int), jI i] 0 0 w _
    refine jWp.icmp (pc' := 12) mt rfl rfl (b32_id (by omega) (by omega)) (b32_id (by omega) (by omega)) (fun h2 => ?_) (fun h2 => ?_)
    · have h2 : (n : Int) ≤ i := h2
      refine jWp.blk mt 1 ?_
      show jWp 45 22 [some (jO s), some (jI i)] [jI 0] 0 0 w _
      refine jWp.iretz mt rfl ⟨rfl, rfl⟩ rfl (Or.inl rfl) ?_
      exact Or.inr ⟨rfl, rfl, by omega⟩
    · have h2 : i < (n : Int) := h2
      refine jWp.blk mt 2 ?_
      show jWp 45 14 [some (jO s), some (jI i)] [jI 4, jI i] 0 0 w _
      refine jWp.icmp (pc' := 17) mt rfl rfl (b32_id (by omega) (by omega)) (show b32 4 = 4 by decide) (fun h3 => ?_) (fun h3 => ?_)
      · have h3 : 4 ≤ i := h3
        refine jWp.blk mt 1 ?_
        show jWp 45 22 [some (jO s), some (jI i)] [jI 0] 0 0 w _
        refine jWp.iretz mt rfl ⟨rfl, rfl⟩ rfl (Or.inl rfl) ?_
        exact Or.inr ⟨rfl, rfl, by omega⟩
      · have h3 : i < 4 := h3
        refine jWp.blk mt 2 ?_
        show jWp 45 22 [some (jO s), some (jI i)] [jI 1] 0 0 w _
        refine jWp.iretz mt rfl ⟨rfl, rfl⟩ rfl (Or.inr rfl) ?_
        exact Or.inl ⟨rfl, rfl, by omega⟩
set_option maxHeartbeats 4000000 in
set_option maxRecDepth 20000 in
theorem E_sa {w : jS} {s sc n : Nat} (hks : w.2.1 s = (6, 0)) (hkc : w.2.1 sc = (100, 44)) (hrc : w.2.2.1 s 1 = some sc) (hn0 : w.1 s 0 = (n : Int)) (hn4 : n ≤ 4) {i : Nat} (hi : i < n) : jCall 46 [jO s, jI (i : Int)] w (jvi (w.1 sc i) w) := by
  have mt : jtb 46 = jT46 := rfl
  show jWp 46 0 [some (jO s), some (jI (i : Int))] [] 0 0 w _
  refine jWp.blk mt 2 ?_
  show _ ∧ jWp 46 2 [some (jO s), some (jI (i : Int))] [jI (i : Int), jO s] 0 0 w _
  refine ⟨rfl, ?_⟩
  refine jWp.callv (as := [jO s, jI (i : Int)]) (rest := []) mt rfl rfl rfl ⟨rfl, jtg hks⟩ ?_
  refine jCall.mono (E_has (w := w) (n := n) hks hn0 hn4 (i := (i : Int)) (by constructor <;> omega)) (fun v9 w9 h9 => ?_)
  rcases h9 with ⟨rfl, h9, h1⟩ | ⟨rfl, h9, h1⟩ <;> subst w9
  · have h1 : 0 ≤ (i : Int) ∧ (i : Int) < (n : Int) := h1
    show jWp 46 5 [some (jO s), some (jI (i : Int))] [jI 1] 0 0 w _
    refine jWp.ifc (b := false) mt rfl (by decide) rfl ?_
    show jWp 46 8 [some (jO s), some (jI (i : Int))] [] 0 0 w _
    refine jWp.blk mt 1 ?_
    show _ ∧ jWp 46 9 [some (jO s), some (jI (i : Int))] [jO s] 0 0 w _
    refine ⟨rfl, ?_⟩
    refine jWp.getR (pc' := 12) (o := sc) mt rfl rfl (jtg hks) hrc ?_
    show jWp 46 12 [some (jO s), some (jI (i : Int))] [jO sc] 0 0 w _
    refine jWp.blk mt 3 ?_
    show jWp 46 15 [some (jO s), some (jI (i : Int))] [jI (0 + (i : Int)), jO sc] 0 0 w _
    refine jWp.iald (pc' := 16) (j := i) mt rfl rfl (jird_of hkc) (by rw [b32_id (by omega) (by omega)]; omega) (jlt hkc (by omega)) ?_
    show jWp 46 16 [some (jO s), some (jI (i : Int))] [jI (w.1 sc i)] 0 0 w _
    refine jWp.blk mt 1 ?_
    show jWp 46 20 [some (jO s), some (jI (i : Int))] [jI (w.1 sc i)] 0 0 w _
    refine jWp.ireti mt rfl ⟨rfl, rfl⟩ rfl ?_
    exact ⟨rfl, rfl⟩
  · have h1 : ¬ (0 ≤ (i : Int) ∧ (i : Int) < (n : Int)) := h1
    exfalso; omega
set_option maxHeartbeats 4000000 in
set_option maxRecDepth 20000 in
theorem E_su {w : jS} {s sc n : Nat} (hks : w.2.1 s = (6, 0)) (hkc : w.2.1 sc = (100, 44)) (hrc : w.2.2.1 s 1 = some sc) (hn0 : w.1 s 0 = (n : Int)) (hn4 : n ≤ 4) {i : Nat} (hi : i < n) : jCall 47 [jO s, jI (i : Int)] w (jvi (w.1 sc (4 + i)) w) := by
  have mt : jtb 47 = jT47 := rfl
  show jWp 47 0 [some (jO s), some (jI (i : Int))] [] 0 0 w _
  refine jWp.blk mt 2 ?_
  show _ ∧ jWp 47 2 [some (jO s), some (jI (i : Int))] [jI (i : Int), jO s] 0 0 w _
  refine ⟨rfl, ?_⟩
  refine jWp.callv (as := [jO s, jI (i : Int)]) (rest := []) mt rfl rfl rfl ⟨rfl, jtg hks⟩ ?_
  refine jCall.mono (E_has (w := w) (n := n) hks hn0 hn4 (i := (i : Int)) (by constructor <;> omega)) (fun v9 w9 h9 => ?_)
  rcases h9 with ⟨rfl, h9, h1⟩ | ⟨rfl, h9, h1⟩ <;> subst w9
  · have h1 : 0 ≤ (i : Int) ∧ (i : Int) < (n : Int) := h1
    show jWp 47 5 [some (jO s), some (jI (i : Int))] [jI 1] 0 0 w _
    refine jWp.ifc (b := false) mt rfl (by decide) rfl ?_
    show jWp 47 8 [some (jO s), some (jI (i : Int))] [] 0 0 w _
    refine jWp.blk mt 1 ?_
    show _ ∧ jWp 47 9 [some (jO s), some (jI (i : Int))] [jO s] 0 0 w _
    refine ⟨rfl, ?_⟩
    refine jWp.getR (pc' := 12) (o := sc) mt rfl rfl (jtg hks) hrc ?_
    show jWp 47 12 [some (jO s), some (jI (i : Int))] [jO sc] 0 0 w _
    refine jWp.blk mt 3 ?_
    show jWp 47 15 [some (jO s), some (jI (i : Int))] [jI (4 + (i : Int)), jO sc] 0 0 w _
    refine jWp.iald (pc' := 16) (j := (4 + i)) mt rfl rfl (jird_of hkc) (by rw [b32_id (by omega) (by omega)]; omega) (jlt hkc (by omega)) ?_
    show jWp 47 16 [some (jO s), some (jI (i : Int))] [jI (w.1 sc (4 + i))] 0 0 w _
    refine jWp.blk mt 1 ?_
    show jWp 47 20 [some (jO s), some (jI (i : Int))] [jI (w.1 sc (4 + i))] 0 0 w _
    refine jWp.ireti mt rfl ⟨rfl, rfl⟩ rfl ?_
    exact ⟨rfl, rfl⟩
  · have h1 : ¬ (0 ≤ (i : Int) ∧ (i : Int) < (n : Int)) := h1
    exfalso; omega
set_option maxHeartbeats 4000000 in
set_option maxRecDepth 20000 in
theorem E_sf {w : jS} {s sc n : Nat} (hks : w.2.1 s = (6, 0)) (hkc : w.2.1 sc = (100, 44)) (hrc : w.2.2.1 s 1 = some sc) (hn0 : w.1 s 0 = (n : Int)) (hn4 : n ≤ 4) {i : Nat} (hi : i < n) : jCall 48 [jO s, jI (i : Int)] w (jvi (w.1 sc (24 + i)) w) := by
  have mt : jtb 48 = jT48 := rfl
  show jWp 48 0 [some (jO s), some (jI (i : Int))] [] 0 0 w _
  refine jWp.blk mt 2 ?_
  show _ ∧ jWp 48 2 [some (jO s), some (jI (i : Int))] [jI (i : Int), jO s] 0 0 w _
  refine ⟨rfl, ?_⟩
  refine jWp.callv (as := [jO s, jI (i : Int)]) (rest := []) mt rfl rfl rfl ⟨rfl, jtg hks⟩ ?_
  refine jCall.mono (E_has (w := w) (n := n) hks hn0 hn4 (i := (i : Int)) (by constructor <;> omega)) (fun v9 w9 h9 => ?_)
  rcases h9 with ⟨rfl, h9, h1⟩ | ⟨rfl, h9, h1⟩ <;> subst w9
  · have h1 : 0 ≤ (i : Int) ∧ (i : Int) < (n : Int) := h1
    show jWp 48 5 [some (jO s), some (jI (i : Int))] [jI 1] 0 0 w _
    refine jWp.ifc (b := false) mt rfl (by decide) rfl ?_
    show jWp 48 8 [some (jO s), some (jI (i : Int))] [] 0 0 w _
    refine jWp.blk mt 1 ?_
    show _ ∧ jWp 48 9 [some (jO s), some (jI (i : Int))] [jO s] 0 0 w _
    refine ⟨rfl, ?_⟩
    refine jWp.getR (pc' := 12) (o := sc) mt rfl rfl (jtg hks) hrc ?_
    show jWp 48 12 [some (jO s), some (jI (i : Int))] [jO sc] 0 0 w _
    refine jWp.blk mt 3 ?_
    show jWp 48 16 [some (jO s), some (jI (i : Int))] [jI (24 + (i : Int)), jO sc] 0 0 w _
    refine jWp.iald (pc' := 17) (j := (24 + i)) mt rfl rfl (jird_of hkc) (by rw [b32_id (by omega) (by omega)]; omega) (jlt hkc (by omega)) ?_
    show jWp 48 17 [some (jO s), some (jI (i : Int))] [jI (w.1 sc (24 + i))] 0 0 w _
    refine jWp.blk mt 1 ?_
    show jWp 48 21 [some (jO s), some (jI (i : Int))] [jI (w.1 sc (24 + i))] 0 0 w _
    refine jWp.ireti mt rfl ⟨rfl, rfl⟩ rfl ?_
    exact ⟨rfl, rfl⟩
  · have h1 : ¬ (0 ≤ (i : Int) ∧ (i : Int) < (n : Int)) := h1
    exfalso; omega
set_option maxHeartbeats 4000000 in
set_option maxRecDepth 20000 in
theorem E_sb {w : jS} {s sc : Nat} (hks : w.2.1 s = (6, 0)) (hkc : w.2.1 sc = (100, 44)) (hrc : w.2.2.1 s 1 = some sc) {i j : Nat} (hi : i < 4) (hj : j < 4) : jCall 49 [jO s, jI (i : Int), jI (j : Int)] w (jvi (w.1 sc (8 + (4 * i + j))) w) := by
  have mt : jtb 49 = jT49 := rfl
  show jWp 49 0 [some (jO s), some (jI (i : Int)), some (jI (j : Int))] [] 0 0 w _
  refine jWp.blk mt 1 ?_
  show jWp 49 1 [some (jO s), some (jI (i : Int)), some (jI (j : Int))] [jI (i : Int)] 0 0 w _
  refine jWp.ifz (pc' := 4) mt rfl rfl (b32_id (by omega) (by omega)) (fun h1 => ?_) (fun h1 => ?_)
  · have h1 : (i : Int) < 0 := h1
    exfalso; omega
  · have h1 : 0 ≤ (i : Int) := h1
    refine jWp.blk mt 2 ?_
    show jWp 49 6 [some (jO s), some (jI (i : Int)), some (jI (j : Int))] [jI 4, jI (i : Int)] 0 0 w _
    refine jWp.icmp (pc' := 9) mt rfl rfl (b32_id (by omega) (by omega)) (show b32 4 = 4 by decide) (fun h2 => ?_) (fun h2 => ?_)
    · have h2 : 4 ≤ (i : Int) := h2
      exfalso; omega
    · have h2 : (i : Int) < 4 := h2
      refine jWp.blk mt 1 ?_
      show jWp 49 10 [some (jO s), some (jI (i : Int)), some (jI (j : Int))] [jI (j : Int)] 0 0 w _
      refine jWp.ifz (pc' := 13) mt rfl rfl (b32_id (by omega) (by omega)) (fun h3 => ?_) (fun h3 => ?_)
      · have h3 : (j : Int) < 0 := h3
        exfalso; omega
      · have h3 : 0 ≤ (j : Int) := h3
        refine jWp.blk mt 2 ?_
        show jWp 49 15 [some (jO s), some (jI (i : Int)), some (jI (j : Int))] [jI 4, jI (j : Int)] 0 0 w _
        refine jWp.icmp (pc' := 18) mt rfl rfl (b32_id (by omega) (by omega)) (show b32 4 = 4 by decide) (fun h4 => ?_) (fun h4 => ?_)
        · have h4 : 4 ≤ (j : Int) := h4
          exfalso; omega
        · have h4 : (j : Int) < 4 := h4
          refine jWp.blk mt 1 ?_
          show _ ∧ jWp 49 19 [some (jO s), some (jI (i : Int)), some (jI (j : Int))] [jO s] 0 0 w _
          refine ⟨rfl, ?_⟩
          refine jWp.getR (pc' := 22) (o := sc) mt rfl rfl (jtg hks) hrc ?_
          show jWp 49 22 [some (jO s), some (jI (i : Int)), some (jI (j : Int))] [jO sc] 0 0 w _
          refine jWp.blk mt 7 ?_
          show jWp 49 30 [some (jO s), some (jI (i : Int)), some (jI (j : Int))] [jI ((8 + (4 * (i : Int))) + (j : Int)), jO sc] 0 0 w _
          refine jWp.iald (pc' := 31) (j := (8 + (4 * i + j))) mt rfl rfl (jird_of hkc) (by rw [b32_id (by omega) (by omega)]; omega) (jlt hkc (by omega)) ?_
          show jWp 49 31 [some (jO s), some (jI (i : Int)), some (jI (j : Int))] [jI (w.1 sc (8 + (4 * i + j)))] 0 0 w _
          refine jWp.blk mt 1 ?_
          show jWp 49 35 [some (jO s), some (jI (i : Int)), some (jI (j : Int))] [jI (w.1 sc (8 + (4 * i + j)))] 0 0 w _
          refine jWp.ireti mt rfl ⟨rfl, rfl⟩ rfl ?_
          exact ⟨rfl, rfl⟩
set_option maxHeartbeats 4000000 in
set_option maxRecDepth 20000 in
theorem E_sd {w : jS} {s sc n : Nat} (hks : w.2.1 s = (6, 0)) (hkc : w.2.1 sc = (100, 44)) (hrc : w.2.2.1 s 1 = some sc) (hn0 : w.1 s 0 = (n : Int)) (hn4 : n ≤ 4) {i j : Nat} (hi : i < n) (hj : j < n) : jCall 50 [jO s, jI (i : Int), jI (j : Int)] w (jvi (w.1 sc (28 + (4 * i + j))) w) := by
  have mt : jtb 50 = jT50 := rfl
  show jWp 50 0 [some (jO s), some (jI (i : Int)), some (jI (j : Int))] [] 0 0 w _
  refine jWp.blk mt 2 ?_
  show _ ∧ jWp 50 2 [some (jO s), some (jI (i : Int)), some (jI (j : Int))] [jI (i : Int), jO s] 0 0 w _
  refine ⟨rfl, ?_⟩
  refine jWp.callv (as := [jO s, jI (i : Int)]) (rest := []) mt rfl rfl rfl ⟨rfl, jtg hks⟩ ?_
  refine jCall.mono (E_has (w := w) (n := n) hks hn0 hn4 (i := (i : Int)) (by constructor <;> omega)) (fun v9 w9 h9 => ?_)
  rcases h9 with ⟨rfl, h9, h1⟩ | ⟨rfl, h9, h1⟩ <;> subst w9
  · have h1 : 0 ≤ (i : Int) ∧ (i : Int) < (n : Int) := h1
    show jWp 50 5 [some (jO s), some (jI (i : Int)), some (jI (j : Int))] [jI 1] 0 0 w _
    refine jWp.ifc (b := false) mt rfl (by decide) rfl ?_
    show jWp 50 8 [some (jO s), some (jI (i : Int)), some (jI (j : Int))] [] 0 0 w _
    refine jWp.blk mt 2 ?_
    show _ ∧ jWp 50 10 [some (jO s), some (jI (i : Int)), some (jI (j : Int))] [jI (j : Int), jO s] 0 0 w _
    refine ⟨rfl, ?_⟩
    refine jWp.callv (as := [jO s, jI (j : Int)]) (rest := []) mt rfl rfl rfl ⟨rfl, jtg hks⟩ ?_
    refine jCall.mono (E_has (w := w) (n := n) hks hn0 hn4 (i := (j : Int)) (by constructor <;> omega)) (fun v9 w9 h9 => ?_)
    rcases h9 with ⟨rfl, h9, h2⟩ | ⟨rfl, h9, h2⟩ <;> subst w9
    · have h2 : 0 ≤ (j : Int) ∧ (j : Int) < (n : Int) := h2
      show jWp 50 13 [some (jO s), some (jI (i : Int)), some (jI (j : Int))] [jI 1] 0 0 w _
      refine jWp.ifc (b := false) mt rfl (by decide) rfl ?_
      show jWp 50 16 [some (jO s), some (jI (i : Int)), some (jI (j : Int))] [] 0 0 w _
      refine jWp.blk mt 1 ?_
      show _ ∧ jWp 50 17 [some (jO s), some (jI (i : Int)), some (jI (j : Int))] [jO s] 0 0 w _
      refine ⟨rfl, ?_⟩
      refine jWp.getR (pc' := 20) (o := sc) mt rfl rfl (jtg hks) hrc ?_
      show jWp 50 20 [some (jO s), some (jI (i : Int)), some (jI (j : Int))] [jO sc] 0 0 w _
      refine jWp.blk mt 7 ?_
      show jWp 50 28 [some (jO s), some (jI (i : Int)), some (jI (j : Int))] [jI ((28 + (4 * (i : Int))) + (j : Int)), jO sc] 0 0 w _
      refine jWp.iald (pc' := 29) (j := (28 + (4 * i + j))) mt rfl rfl (jird_of hkc) (by rw [b32_id (by omega) (by omega)]; omega) (jlt hkc (by omega)) ?_
      show jWp 50 29 [some (jO s), some (jI (i : Int)), some (jI (j : Int))] [jI (w.1 sc (28 + (4 * i + j)))] 0 0 w _
      refine jWp.blk mt 1 ?_
      show jWp 50 33 [some (jO s), some (jI (i : Int)), some (jI (j : Int))] [jI (w.1 sc (28 + (4 * i + j)))] 0 0 w _
      refine jWp.ireti mt rfl ⟨rfl, rfl⟩ rfl ?_
      exact ⟨rfl, rfl⟩
    · have h2 : ¬ (0 ≤ (j : Int) ∧ (j : Int) < (n : Int)) := h2
      exfalso; omega
  · have h1 : ¬ (0 ≤ (i : Int) ∧ (i : Int) < (n : Int)) := h1
    exfalso; omega
set_option maxHeartbeats 4000000 in
set_option maxRecDepth 20000 in
theorem E_setB {w : jS} {s sc n : Nat} (hks : w.2.1 s = (6, 0)) (hkc : w.2.1 sc = (100, 44)) (hrc : w.2.2.1 s 1 = some sc) (hn0 : w.1 s 0 = (n : Int)) (hn4 : n ≤ 4) {i j : Nat} {v : Int} (hi : i < n) (hj : j < n) : jCall 51 [jO s, jI (i : Int), jI (j : Int), jI v] w (fun x w1 => x = none ∧ w1 = jW w sc (8 + (4 * i + j)) v) := by
  have mt : jtb 51 = jT51 := rfl
  show jWp 51 0 [some (jO s), some (jI (i : Int)), some (jI (j : Int)), some (jI v)] [] 0 0 w _
  refine jWp.blk mt 2 ?_
  show _ ∧ jWp 51 2 [some (jO s), some (jI (i : Int)), some (jI (j : Int)), some (jI v)] [jI (i : Int), jO s] 0 0 w _
  refine ⟨rfl, ?_⟩
  refine jWp.callv (as := [jO s, jI (i : Int)]) (rest := []) mt rfl rfl rfl ⟨rfl, jtg hks⟩ ?_
  refine jCall.mono (E_has (w := w) (n := n) hks hn0 hn4 (i := (i : Int)) (by constructor <;> omega)) (fun v9 w9 h9 => ?_)
  rcases h9 with ⟨rfl, h9, h1⟩ | ⟨rfl, h9, h1⟩ <;> subst w9
  · have h1 : 0 ≤ (i : Int) ∧ (i : Int) < (n : Int) := h1
    show jWp 51 5 [some (jO s), some (jI (i : Int)), some (jI (j : Int)), some (jI v)] [jI 1] 0 0 w _
    refine jWp.ifc (b := false) mt rfl (by decide) rfl ?_
    show jWp 51 8 [some (jO s), some (jI (i : Int)), some (jI (j : Int)), some (jI v)] [] 0 0 w _
    refine jWp.blk mt 2 ?_
    show _ ∧ jWp 51 10 [some (jO s), some (jI (i : Int)), some (jI (j : Int)), some (jI v)] [jI (j : Int), jO s] 0 0 w _
    refine ⟨rfl, ?_⟩
    refine jWp.callv (as := [jO s, jI (j : Int)]) (rest := []) mt rfl rfl rfl ⟨rfl, jtg hks⟩ ?_
    refine jCall.mono (E_has (w := w) (n := n) hks hn0 hn4 (i := (j : Int)) (by constructor <;> omega)) (fun v9 w9 h9 => ?_)
    rcases h9 with ⟨rfl, h9, h2⟩ | ⟨rfl, h9, h2⟩ <;> subst w9
    · have h2 : 0 ≤ (j : Int) ∧ (j : Int) < (n : Int) := h2
      show jWp 51 13 [some (jO s), some (jI (i : Int)), some (jI (j : Int)), some (jI v)] [jI 1] 0 0 w _
      refine jWp.ifc (b := false) mt rfl (by decide) rfl ?_
      show jWp 51 16 [some (jO s), some (jI (i : Int)), some (jI (j : Int)), some (jI v)] [] 0 0 w _
      refine jWp.blk mt 1 ?_
      show _ ∧ jWp 51 17 [some (jO s), some (jI (i : Int)), some (jI (j : Int)), some (jI v)] [jO s] 0 0 w _
      refine ⟨rfl, ?_⟩
      refine jWp.getR (pc' := 20) (o := sc) mt rfl rfl (jtg hks) hrc ?_
      show jWp 51 20 [some (jO s), some (jI (i : Int)), some (jI (j : Int)), some (jI v)] [jO sc] 0 0 w _
      refine jWp.blk mt 8 ?_
      show jWp 51 29 [some (jO s), some (jI (i : Int)), some (jI (j : Int)), some (jI v)] [jI v, jI ((8 + (4 * (i : Int))) + (j : Int)), jO sc] 0 0 w _
      refine jWp.iast (pc' := 30) (j := (8 + (4 * i + j))) mt rfl rfl (jtg hkc) (by rw [b32_id (by omega) (by omega)]; omega) (jlt hkc (by omega)) ?_
      show jWp 51 30 [some (jO s), some (jI (i : Int)), some (jI (j : Int)), some (jI v)] [] 0 0 (jW w sc (8 + (4 * i + j)) v) _
      refine jWp.vret mt rfl ⟨rfl, rfl⟩ rfl ?_
      exact ⟨rfl, rfl⟩
    · have h2 : ¬ (0 ≤ (j : Int) ∧ (j : Int) < (n : Int)) := h2
      exfalso; omega
  · have h1 : ¬ (0 ≤ (i : Int) ∧ (i : Int) < (n : Int)) := h1
    exfalso; omega
set_option maxHeartbeats 4000000 in
set_option maxRecDepth 20000 in
theorem E_setValue {w : jS} {s sc n : Nat} (hks : w.2.1 s = (6, 0)) (hkc : w.2.1 sc = (100, 44)) (hrc : w.2.2.1 s 1 = some sc) (hn0 : w.1 s 0 = (n : Int)) (hn4 : n ≤ 4) {f i L : Nat} {u v : Int} (hkf : w.2.1 f = (2, L)) (hu : w.1 f 0 = u) (hv : w.1 f 1 = v) (hi : i < n) : jCall 52 [jO s, jI (i : Int), jO f] w (fun x w1 => x = none ∧ w1 = jW (jW w sc i u) sc (4 + i) v) := by
  have mt : jtb 52 = jT52 := rfl
  have hfc : f ≠ sc := kne hkf hkc (by decide)
  show jWp 52 0 [some (jO s), some (jI (i : Int)), some (jO f)] [] 0 0 w _
  refine jWp.blk mt 2 ?_
  show _ ∧ jWp 52 2 [some (jO s), some (jI (i : Int)), some (jO f)] [jI (i : Int), jO s] 0 0 w _
  refine ⟨rfl, ?_⟩
  refine jWp.callv (as := [jO s, jI (i : Int)]) (rest := []) mt rfl rfl rfl ⟨rfl, jtg hks⟩ ?_
  refine jCall.mono (E_has (w := w) (n := n) hks hn0 hn4 (i := (i : Int)) (by constructor <;> omega)) (fun v9 w9 h9 => ?_)
  rcases h9 with ⟨rfl, h9, h1⟩ | ⟨rfl, h9, h1⟩ <;> subst w9
  · have h1 : 0 ≤ (i : Int) ∧ (i : Int) < (n : Int) := h1
    show jWp 52 5 [some (jO s), some (jI (i : Int)), some (jO f)] [jI 1] 0 0 w _
    refine jWp.ifc (b := false) mt rfl (by decide) rfl ?_
    show jWp 52 8 [some (jO s), some (jI (i : Int)), some (jO f)] [] 0 0 w _
    refine jWp.blk mt 1 ?_
    show _ ∧ jWp 52 9 [some (jO s), some (jI (i : Int)), some (jO f)] [jO s] 0 0 w _
    refine ⟨rfl, ?_⟩
    refine jWp.getR (pc' := 12) (o := sc) mt rfl rfl (jtg hks) hrc ?_
    show jWp 52 12 [some (jO s), some (jI (i : Int)), some (jO f)] [jO sc] 0 0 w _
    refine jWp.blk mt 4 ?_
    show _ ∧ jWp 52 16 [some (jO s), some (jI (i : Int)), some (jO f)] [jO f, jI (0 + (i : Int)), jO sc] 0 0 w _
    refine ⟨rfl, ?_⟩
    refine jWp.getJ (pc' := 19) mt rfl rfl (jtg hkf) ?_
    rw [show (w.1 f 0) = u from hu]
    show jWp 52 19 [some (jO s), some (jI (i : Int)), some (jO f)] [jJ u, jI (0 + (i : Int)), jO sc] 0 0 w _
    refine jWp.blk mt 1 ?_
    show jWp 52 20 [some (jO s), some (jI (i : Int)), some (jO f)] [jI u, jI (0 + (i : Int)), jO sc] 0 0 w _
    refine jWp.iast (pc' := 21) (j := i) mt rfl rfl (jtg hkc) (by rw [b32_id (by omega) (by omega)]; omega) (jlt hkc (by omega)) ?_
    show jWp 52 21 [some (jO s), some (jI (i : Int)), some (jO f)] [] 0 0 (jW w sc i u) _
    refine jWp.blk mt 1 ?_
    show _ ∧ jWp 52 22 [some (jO s), some (jI (i : Int)), some (jO f)] [jO s] 0 0 (jW w sc i u) _
    refine ⟨rfl, ?_⟩
    refine jWp.getR (pc' := 25) (o := sc) mt rfl rfl (jtg hks) hrc ?_
    show jWp 52 25 [some (jO s), some (jI (i : Int)), some (jO f)] [jO sc] 0 0 (jW w sc i u) _
    refine jWp.blk mt 4 ?_
    show _ ∧ jWp 52 29 [some (jO s), some (jI (i : Int)), some (jO f)] [jO f, jI (4 + (i : Int)), jO sc] 0 0 (jW w sc i u) _
    refine ⟨rfl, ?_⟩
    refine jWp.getJ (pc' := 32) mt rfl rfl (jtg hkf) ?_
    rw [show ((jW w sc i u).1 f 1) = v from (((jW_a (by omega)).trans rfl).trans hv)]
    show jWp 52 32 [some (jO s), some (jI (i : Int)), some (jO f)] [jJ v, jI (4 + (i : Int)), jO sc] 0 0 (jW w sc i u) _
    refine jWp.blk mt 1 ?_
    show jWp 52 33 [some (jO s), some (jI (i : Int)), some (jO f)] [jI v, jI (4 + (i : Int)), jO sc] 0 0 (jW w sc i u) _
    refine jWp.iast (pc' := 34) (j := (4 + i)) mt rfl rfl (jtg hkc) (by rw [b32_id (by omega) (by omega)]; omega) (jlt hkc (by omega)) ?_
    show jWp 52 34 [some (jO s), some (jI (i : Int)), some (jO f)] [] 0 0 (jW (jW w sc i u) sc (4 + i) v) _
    refine jWp.vret mt rfl ⟨rfl, rfl⟩ rfl ?_
    exact ⟨rfl, rfl⟩
  · have h1 : ¬ (0 ≤ (i : Int) ∧ (i : Int) < (n : Int)) := h1
    exfalso; omega
set_option maxHeartbeats 4000000 in
set_option maxRecDepth 20000 in
theorem E_exB {w : jS} {s sc : Nat} (hks : w.2.1 s = (6, 0)) (hkc : w.2.1 sc = (100, 44)) (hrc : w.2.2.1 s 1 = some sc) {i j k : Nat} (hi : i < 4) (hj : j < 4) (hk : k < 4) (hb : ∀ e, e < 16 → -9 ≤ w.1 sc (8 + e) ∧ w.1 sc (8 + e) ≤ 9) : jCall 58 [jO s, jI (i : Int), jI (j : Int), jI (k : Int)] w (jvi (zxb (fun e => w.1 sc (8 + e)) k i j) w) := by
  have mt : jtb 58 = jT58 := rfl
  have b1 := hb (4 * i + j) (by omega)
  have b2 := hb (4 * i + k) (by omega)
  have b3 := hb (4 * k + j) (by omega)
  have b4 := zmore b2 b3
  show jWp 58 0 [some (jO s), some (jI (i : Int)), some (jI (j : Int)), some (jI (k : Int)), none] [] 0 0 w _
  refine jWp.blk mt 2 ?_
  show jWp 58 2 [some (jO s), some (jI (i : Int)), some (jI (j : Int)), some (jI (k : Int)), none] [jI (k : Int), jI (i : Int)] 0 0 w _
  refine jWp.icmp (pc' := 5) mt rfl rfl (b32_id (by omega) (by omega)) (b32_id (by omega) (by omega)) (fun h1 => ?_) (fun h1 => ?_)
  · have h1 : (i : Int) = (k : Int) := h1
    refine jWp.blk mt 3 ?_
    show _ ∧ jWp 58 13 [some (jO s), some (jI (i : Int)), some (jI (j : Int)), some (jI (k : Int)), none] [jI (j : Int), jI (i : Int), jO s] 0 0 w _
    refine ⟨rfl, ?_⟩
    refine jWp.callv (as := [jO s, jI (i : Int), jI (j : Int)]) (rest := []) mt rfl rfl rfl ⟨rfl, jtg hks⟩ ?_
    refine jCall.mono (E_sb (w := w) (sc := sc) (i := i) (j := j) hks hkc hrc (by omega) (by omega)) (fun v9 w9 h9 => ?_)
    obtain ⟨rfl, h9⟩ := h9
    subst w9
    show jWp 58 16 [some (jO s), some (jI (i : Int)), some (jI (j : Int)), some (jI (k : Int)), none] [jI (w.1 sc (8 + (4 * i + j)))] 0 0 w _
    refine jWp.blk mt 1 ?_
    show jWp 58 17 [some (jO s), some (jI (i : Int)), some (jI (j : Int)), some (jI (k : Int)), none] [jI (-(w.1 sc (8 + (4 * i + j))))] 0 0 w _
    refine jWp.ireti mt rfl ⟨rfl, rfl⟩ rfl ?_
    refine ⟨?_, rfl⟩
    unfold zxb
    rw [if_pos (by omega)]
  · have h1 : (i : Int) ≠ (k : Int) := h1
    refine jWp.blk mt 2 ?_
    show jWp 58 7 [some (jO s), some (jI (i : Int)), some (jI (j : Int)), some (jI (k : Int)), none] [jI (k : Int), jI (j : Int)] 0 0 w _
    refine jWp.icmp (pc' := 10) mt rfl rfl (b32_id (by omega) (by omega)) (b32_id (by omega) (by omega)) (fun h2 => ?_) (fun h2 => ?_)
    · have h2 : (j : Int) ≠ (k : Int) := h2
      refine jWp.blk mt 3 ?_
      show _ ∧ jWp 58 21 [some (jO s), some (jI (i : Int)), some (jI (j : Int)), some (jI (k : Int)), none] [jI (k : Int), jI (i : Int), jO s] 0 0 w _
      refine ⟨rfl, ?_⟩
      refine jWp.callv (as := [jO s, jI (i : Int), jI (k : Int)]) (rest := []) mt rfl rfl rfl ⟨rfl, jtg hks⟩ ?_
      refine jCall.mono (E_sb (w := w) (sc := sc) (i := i) (j := k) hks hkc hrc (by omega) (by omega)) (fun v9 w9 h9 => ?_)
      obtain ⟨rfl, h9⟩ := h9
      subst w9
      show jWp 58 24 [some (jO s), some (jI (i : Int)), some (jI (j : Int)), some (jI (k : Int)), none] [jI (w.1 sc (8 + (4 * i + k)))] 0 0 w _
      refine jWp.absI (pc' := 27) mt rfl rfl rfl (b32_id (by omega) (by omega)) ?_
      show jWp 58 27 [some (jO s), some (jI (i : Int)), some (jI (j : Int)), some (jI (k : Int)), none] [jI (jabs (w.1 sc (8 + (4 * i + k))))] 0 0 w _
      refine jWp.blk mt 3 ?_
      show _ ∧ jWp 58 30 [some (jO s), some (jI (i : Int)), some (jI (j : Int)), some (jI (k : Int)), none] [jI (j : Int), jI (k : Int), jO s, jI (jabs (w.1 sc (8 + (4 * i + k))))] 0 0 w _
      refine ⟨rfl, ?_⟩
      refine jWp.callv (as := [jO s, jI (k : Int), jI (j : Int)]) (rest := [jI (jabs (w.1 sc (8 + (4 * i + k))))]) mt rfl rfl rfl ⟨rfl, jtg hks⟩ ?_
      refine jCall.mono (E_sb (w := w) (sc := sc) (i := k) (j := j) hks hkc hrc (by omega) (by omega)) (fun v9 w9 h9 => ?_)
      obtain ⟨rfl, h9⟩ := h9
      subst w9
      show jWp 58 33 [some (jO s), some (jI (i : Int)), some (jI (j : Int)), some (jI (k : Int)), none] [jI (w.1 sc (8 + (4 * k + j))), jI (jabs (w.1 sc (8 + (4 * i + k))))] 0 0 w _
      refine jWp.blk mt 4 ?_
      show _ ∧ jWp 58 37 [some (jO s), some (jI (i : Int)), some (jI (j : Int)), some (jI (k : Int)), none] [jI (k : Int), jI (i : Int), jO s, jI ((jabs (w.1 sc (8 + (4 * i + k)))) * (w.1 sc (8 + (4 * k + j))))] 0 0 w _
      refine ⟨rfl, ?_⟩
      refine jWp.callv (as := [jO s, jI (i : Int), jI (k : Int)]) (rest := [jI ((jabs (w.1 sc (8 + (4 * i + k)))) * (w.1 sc (8 + (4 * k + j))))]) mt rfl rfl rfl ⟨rfl, jtg hks⟩ ?_
      refine jCall.mono (E_sb (w := w) (sc := sc) (i := i) (j := k) hks hkc hrc (by omega) (by omega)) (fun v9 w9 h9 => ?_)
      obtain ⟨rfl, h9⟩ := h9
      subst w9
      show jWp 58 40 [some (jO s), some (jI (i : Int)), some (jI (j : Int)), some (jI (k : Int)), none] [jI (w.1 sc (8 + (4 * i + k))), jI ((jabs (w.1 sc (8 + (4 * i + k)))) * (w.1 sc (8 + (4 * k + j))))] 0 0 w _
      refine jWp.blk mt 3 ?_
      show _ ∧ jWp 58 43 [some (jO s), some (jI (i : Int)), some (jI (j : Int)), some (jI (k : Int)), none] [jI (j : Int), jI (k : Int), jO s, jI (w.1 sc (8 + (4 * i + k))), jI ((jabs (w.1 sc (8 + (4 * i + k)))) * (w.1 sc (8 + (4 * k + j))))] 0 0 w _
      refine ⟨rfl, ?_⟩
      refine jWp.callv (as := [jO s, jI (k : Int), jI (j : Int)]) (rest := [jI (w.1 sc (8 + (4 * i + k))), jI ((jabs (w.1 sc (8 + (4 * i + k)))) * (w.1 sc (8 + (4 * k + j))))]) mt rfl rfl rfl ⟨rfl, jtg hks⟩ ?_
      refine jCall.mono (E_sb (w := w) (sc := sc) (i := k) (j := j) hks hkc hrc (by omega) (by omega)) (fun v9 w9 h9 => ?_)
      obtain ⟨rfl, h9⟩ := h9
      subst w9
      show jWp 58 46 [some (jO s), some (jI (i : Int)), some (jI (j : Int)), some (jI (k : Int)), none] [jI (w.1 sc (8 + (4 * k + j))), jI (w.1 sc (8 + (4 * i + k))), jI ((jabs (w.1 sc (8 + (4 * i + k)))) * (w.1 sc (8 + (4 * k + j))))] 0 0 w _
      refine jWp.absI (pc' := 49) mt rfl rfl rfl (b32_id (by omega) (by omega)) ?_
      show jWp 58 49 [some (jO s), some (jI (i : Int)), some (jI (j : Int)), some (jI (k : Int)), none] [jI (jabs (w.1 sc (8 + (4 * k + j)))), jI (w.1 sc (8 + (4 * i + k))), jI ((jabs (w.1 sc (8 + (4 * i + k)))) * (w.1 sc (8 + (4 * k + j))))] 0 0 w _
      refine jWp.blk mt 6 ?_
      show _ ∧ jWp 58 56 [some (jO s), some (jI (i : Int)), some (jI (j : Int)), some (jI (k : Int)), some (jI (((jabs (w.1 sc (8 + (4 * i + k)))) * (w.1 sc (8 + (4 * k + j)))) + ((w.1 sc (8 + (4 * i + k))) * (jabs (w.1 sc (8 + (4 * k + j)))))))] [jI (j : Int), jI (i : Int), jO s] 0 0 w _
      refine ⟨rfl, ?_⟩
      refine jWp.callv (as := [jO s, jI (i : Int), jI (j : Int)]) (rest := []) mt rfl rfl rfl ⟨rfl, jtg hks⟩ ?_
      refine jCall.mono (E_sb (w := w) (sc := sc) (i := i) (j := j) hks hkc hrc (by omega) (by omega)) (fun v9 w9 h9 => ?_)
      obtain ⟨rfl, h9⟩ := h9
      subst w9
      show jWp 58 59 [some (jO s), some (jI (i : Int)), some (jI (j : Int)), some (jI (k : Int)), some (jI (((jabs (w.1 sc (8 + (4 * i + k)))) * (w.1 sc (8 + (4 * k + j)))) + ((w.1 sc (8 + (4 * i + k))) * (jabs (w.1 sc (8 + (4 * k + j)))))))] [jI (w.1 sc (8 + (4 * i + j)))] 0 0 w _
      refine jWp.blk mt 2 ?_
      show jWp 58 62 [some (jO s), some (jI (i : Int)), some (jI (j : Int)), some (jI (k : Int)), some (jI (((jabs (w.1 sc (8 + (4 * i + k)))) * (w.1 sc (8 + (4 * k + j)))) + ((w.1 sc (8 + (4 * i + k))) * (jabs (w.1 sc (8 + (4 * k + j)))))))] [jI 2, jI (((jabs (w.1 sc (8 + (4 * i + k)))) * (w.1 sc (8 + (4 * k + j)))) + ((w.1 sc (8 + (4 * i + k))) * (jabs (w.1 sc (8 + (4 * k + j)))))), jI (w.1 sc (8 + (4 * i + j)))] 0 0 w _
      refine jWp.idiv (pc' := 63) mt rfl rfl (b32_id (by omega) (by omega)) (show b32 2 = 2 by decide) (by decide) ?_
      show jWp 58 63 [some (jO s), some (jI (i : Int)), some (jI (j : Int)), some (jI (k : Int)), some (jI (((jabs (w.1 sc (8 + (4 * i + k)))) * (w.1 sc (8 + (4 * k + j)))) + ((w.1 sc (8 + (4 * i + k))) * (jabs (w.1 sc (8 + (4 * k + j)))))))] [jI (Int.tdiv (((jabs (w.1 sc (8 + (4 * i + k)))) * (w.1 sc (8 + (4 * k + j)))) + ((w.1 sc (8 + (4 * i + k))) * (jabs (w.1 sc (8 + (4 * k + j)))))) 2), jI (w.1 sc (8 + (4 * i + j)))] 0 0 w _
      refine jWp.blk mt 1 ?_
      show jWp 58 64 [some (jO s), some (jI (i : Int)), some (jI (j : Int)), some (jI (k : Int)), some (jI (((jabs (w.1 sc (8 + (4 * i + k)))) * (w.1 sc (8 + (4 * k + j)))) + ((w.1 sc (8 + (4 * i + k))) * (jabs (w.1 sc (8 + (4 * k + j)))))))] [jI ((w.1 sc (8 + (4 * i + j))) + (Int.tdiv (((jabs (w.1 sc (8 + (4 * i + k)))) * (w.1 sc (8 + (4 * k + j)))) + ((w.1 sc (8 + (4 * i + k))) * (jabs (w.1 sc (8 + (4 * k + j)))))) 2))] 0 0 w _
      refine jWp.ireti mt rfl ⟨rfl, rfl⟩ rfl ?_
      refine ⟨?_, rfl⟩
      unfold zxb
      rw [if_neg (by omega)]
    · have h2 : (j : Int) = (k : Int) := h2
      refine jWp.blk mt 3 ?_
      show _ ∧ jWp 58 13 [some (jO s), some (jI (i : Int)), some (jI (j : Int)), some (jI (k : Int)), none] [jI (j : Int), jI (i : Int), jO s] 0 0 w _
      refine ⟨rfl, ?_⟩
      refine jWp.callv (as := [jO s, jI (i : Int), jI (j : Int)]) (rest := []) mt rfl rfl rfl ⟨rfl, jtg hks⟩ ?_
      refine jCall.mono (E_sb (w := w) (sc := sc) (i := i) (j := j) hks hkc hrc (by omega) (by omega)) (fun v9 w9 h9 => ?_)
      obtain ⟨rfl, h9⟩ := h9
      subst w9
      show jWp 58 16 [some (jO s), some (jI (i : Int)), some (jI (j : Int)), some (jI (k : Int)), none] [jI (w.1 sc (8 + (4 * i + j)))] 0 0 w _
      refine jWp.blk mt 1 ?_
      show jWp 58 17 [some (jO s), some (jI (i : Int)), some (jI (j : Int)), some (jI (k : Int)), none] [jI (-(w.1 sc (8 + (4 * i + j))))] 0 0 w _
      refine jWp.ireti mt rfl ⟨rfl, rfl⟩ rfl ?_
      refine ⟨?_, rfl⟩
      unfold zxb
      rw [if_pos (by omega)]
theorem zxb_b {f : Nat → Int} {k i j : Nat} (hi : i < 4) (hj : j < 4) (hk : k < 4) (hb : ∀ e, e < 16 → -9 ≤ f e ∧ f e ≤ 9) : -90 ≤ zxb f k i j ∧ zxb f k i j ≤ 90 := by
  have b1 := hb (4 * i + j) (by omega)
  have b2 := hb (4 * i + k) (by omega)
  have b3 := hb (4 * k + j) (by omega)
  have b4 := zmore b2 b3
  unfold zxb
  split <;> omega
set_option maxHeartbeats 4000000 in
set_option maxRecDepth 20000 in
theorem C_small {w : jS} {s sc n : Nat} (hks : w.2.1 s = (6, 0)) (hkc : w.2.1 sc = (100, 44)) (hrc : w.2.2.1 s 1 = some sc) (hn0 : w.1 s 0 = (n : Int)) (hn4 : n ≤ 4) {k : Nat} (hk : k < 4) (hb : ∀ e, e < 16 → -9 ≤ w.1 sc (8 + e) ∧ w.1 sc (8 + e) ≤ 9) : jCall 59 [jO s, jI (k : Int)] w (jvb (∀ i j, i < j → j < n → jabs (zxb (fun e => w.1 sc (8 + e)) k i j) ≤ 9) w) := by
  have mt : jtb 59 = jT59 := rfl
  show jWp 59 0 [some (jO s), some (jI (k : Int)), none, none] [] 0 0 w _
  refine jWp.blk mt 2 ?_
  show jWp 59 2 [some (jO s), some (jI (k : Int)), some (jI 0), none] [] 0 0 w _
  have lp1 : ∀ (N : Nat) (i : Nat) (hi : i ≤ n) (hA : ∀ a b, a < i → a < b → b < n → jabs (zxb (fun e => w.1 sc (8 + e)) k a b) ≤ 9), n - i < N → jWp 59 2 [some (jO s), some (jI (k : Int)), some (jI (i : Int)), none] [] 0 0 w (jvb (∀ i j, i < j → j < n → jabs (zxb (fun e => w.1 sc (8 + e)) k i j) ≤ 9) w) := by
    intro N
    induction N with
    | zero => intro i hi hA hm; omega
    | succ N ih2 =>
      intro i hi hA hm
      refine jWp.blk mt 2 ?_
      show _ ∧ jWp 59 4 [some (jO s), some (jI (k : Int)), some (jI (i : Int)), none] [jO s, jI (i : Int)] 0 0 w _
      refine ⟨rfl, ?_⟩
      refine jWp.getI (pc' := 7) mt rfl rfl (jtg hks) ?_
      rw [show (w.1 s 0) = (n : Int) from hn0]
      show jWp 59 7 [some (jO s), some (jI (k : Int)), some (jI (i : Int)), none] [jI (n : Int), jI (i : Int)] 0 0 w _
      refine jWp.icmp (pc' := 10) mt rfl rfl (b32_id (by omega) (by omega)) (b32_id (by omega) (by omega)) (fun h3 => ?_) (fun h3 => ?_)
      · have h3 : (n : Int) ≤ (i : Int) := h3
        refine jWp.blk mt 1 ?_
        show jWp 59 52 [some (jO s), some (jI (k : Int)), some (jI (i : Int)), none] [jI 1] 0 0 w _
        refine jWp.iretz mt rfl ⟨rfl, rfl⟩ rfl (Or.inr rfl) ?_
        exact Or.inl ⟨rfl, rfl, fun a b h1 h2 => hA a b (by omega) h1 h2⟩
      · have h3 : (i : Int) < (n : Int) := h3
        refine jWp.blk mt 4 ?_
        show jWp 59 14 [some (jO s), some (jI (k : Int)), some (jI (i : Int)), some (jI ((i : Int) + 1))] [] 0 0 w _
        have lp4 : ∀ (N : Nat) (j : Nat) (hj : i < j ∧ j ≤ 5) (hB : ∀ b, i < b → b < j → jabs (zxb (fun e => w.1 sc (8 + e)) k i b) ≤ 9), 5 - j < N → jWp 59 14 [some (jO s), some (jI (k : Int)), some (jI (i : Int)), some (jI (j : Int))] [] 0 0 w (jvb (∀ i j, i < j → j < n → jabs (zxb (fun e => w.1 sc (8 + e)) k i j) ≤ 9) w) := by
          intro N
          induction N with
          | zero => intro j hj hB hm; omega
          | succ N ih5 =>
            intro j hj hB hm
            refine jWp.blk mt 2 ?_
            show _ ∧ jWp 59 16 [some (jO s), some (jI (k : Int)), some (jI (i : Int)), some (jI (j : Int))] [jO s, jI (j : Int)] 0 0 w _
            refine ⟨rfl, ?_⟩
            refine jWp.getI (pc' := 19) mt rfl rfl (jtg hks) ?_
            rw [show (w.1 s 0) = (n : Int) from hn0]
            show jWp 59 19 [some (jO s), some (jI (k : Int)), some (jI (i : Int)), some (jI (j : Int))] [jI (n : Int), jI (j : Int)] 0 0 w _
            refine jWp.icmp (pc' := 22) mt rfl rfl (b32_id (by omega) (by omega)) (b32_id (by omega) (by omega)) (fun h6 => ?_) (fun h6 => ?_)
            · have h6 : (n : Int) ≤ (j : Int) := h6
              refine jWp.blk mt 2 ?_
              show jWp 59 2 [some (jO s), some (jI (k : Int)), some (jI ((i : Int) + 1)), some (jI (j : Int))] [] 0 0 w _
              refine jWp.le (l := [some (jO s), some (jI (k : Int)), some (jI ((i : Int) + 1)), none]) (by exact ⟨rfl, rfl, rfl, trivial⟩) ?_
              exact ih2 (i + 1) (by omega) (fun a b h1 h2 h3 => by rcases Nat.lt_or_ge a i with e | e; exact hA a b e h2 h3; have ea : a = i := (by omega); rw [ea] at h2 ⊢; exact hB b h2 (by omega)) (by omega)
            · have h6 : (j : Int) < (n : Int) := h6
              refine jWp.blk mt 4 ?_
              show _ ∧ jWp 59 26 [some (jO s), some (jI (k : Int)), some (jI (i : Int)), some (jI (j : Int))] [jI (k : Int), jI (j : Int), jI (i : Int), jO s] 0 0 w _
              refine ⟨rfl, ?_⟩
              refine jWp.callv (as := [jO s, jI (i : Int), jI (j : Int), jI (k : Int)]) (rest := []) mt rfl rfl rfl ⟨rfl, jtg hks⟩ ?_
              refine jCall.mono (E_exB (w := w) (i := i) (j := j) (k := k) hks hkc hrc (by omega) (by omega) (by omega) hb) (fun v9 w9 h9 => ?_)
              obtain ⟨rfl, h9⟩ := h9
              subst w9
              show jWp 59 29 [some (jO s), some (jI (k : Int)), some (jI (i : Int)), some (jI (j : Int))] [jI (zxb (fun e => w.1 sc (8 + e)) k i j)] 0 0 w _
              have hzb := zxb_b (f := (fun e => w.1 sc (8 + e))) (i := i) (j := j) (by omega) (by omega) (by omega) hb
              have hja : 0 ≤ jabs (zxb (fun e => w.1 sc (8 + e)) k i j) ∧ jabs (zxb (fun e => w.1 sc (8 + e)) k i j) ≤ 90 := by unfold jabs; split <;> omega
              refine jWp.absI (pc' := 32) mt rfl rfl rfl (b32_id (by omega) (by omega)) ?_
              show jWp 59 32 [some (jO s), some (jI (k : Int)), some (jI (i : Int)), some (jI (j : Int))] [jI (jabs (zxb (fun e => w.1 sc (8 + e)) k i j))] 0 0 w _
              refine jWp.blk mt 1 ?_
              show jWp 59 34 [some (jO s), some (jI (k : Int)), some (jI (i : Int)), some (jI (j : Int))] [jI 9, jI (jabs (zxb (fun e => w.1 sc (8 + e)) k i j))] 0 0 w _
              refine jWp.icmp (pc' := 37) mt rfl rfl (b32_id (by omega) (by omega)) (show b32 9 = 9 by decide) (fun h7 => ?_) (fun h7 => ?_)
              · have h7 : (jabs (zxb (fun e => w.1 sc (8 + e)) k i j)) ≤ 9 := h7
                refine jWp.blk mt 2 ?_
                show jWp 59 14 [some (jO s), some (jI (k : Int)), some (jI (i : Int)), some (jI ((j : Int) + 1))] [] 0 0 w _
                refine jWp.le (l := [some (jO s), some (jI (k : Int)), some (jI (i : Int)), some (jI ((j : Int) + 1))]) (by exact ⟨rfl, rfl, rfl, rfl, trivial⟩) ?_
                exact ih5 (j + 1) (by omega) (fun b h1 h2 => by rcases Nat.lt_or_ge b j with e | e; exact hB b h1 e; rw [show b = j by omega]; assumption) (by omega)
              · have h7 : 9 < (jabs (zxb (fun e => w.1 sc (8 + e)) k i j)) := h7
                refine jWp.blk mt 1 ?_
                show jWp 59 38 [some (jO s), some (jI (k : Int)), some (jI (i : Int)), some (jI (j : Int))] [jI 0] 0 0 w _
                refine jWp.iretz mt rfl ⟨rfl, rfl⟩ rfl (Or.inl rfl) ?_
                exact Or.inr ⟨rfl, rfl, fun g => by have g := g i j (by omega) (by omega); omega⟩
        refine jWp.le (l := [some (jO s), some (jI (k : Int)), some (jI (i : Int)), some (jI ((i : Int) + 1))]) (by exact ⟨rfl, rfl, rfl, rfl, trivial⟩) ?_
        exact lp4 _ (i + 1) (by omega) (fun b h1 h2 => absurd h1 (by omega)) (Nat.lt_succ_self _)
  refine jWp.le (l := [some (jO s), some (jI (k : Int)), some (jI 0), none]) (by exact ⟨rfl, rfl, rfl, trivial⟩) ?_
  exact lp1 _ 0 (by omega) (fun a b h => absurd h (by omega)) (Nat.lt_succ_self _)
