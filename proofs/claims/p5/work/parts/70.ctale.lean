set_option maxHeartbeats 4000000 in
set_option maxRecDepth 20000 in
theorem C_isMissing {w : jS} {t tp : Nat} {z : Int} (hk7 : w.2.1 t = (7, 0)) (hkp : w.2.1 tp = (100, 40)) (hrp : w.2.2.1 t 1 = some tp) (hz : w.1 t 0 = z) (hzb : -1 ≤ z ∧ z ≤ 40) : jCall 70 [jO t] w (jvb (z < 0) w) := by
  have mt : jtb 70 = jT70 := rfl
  show jWp 70 0 [some (jO t)] [] 0 0 w _
  refine jWp.blk mt 1 ?_
  show _ ∧ jWp 70 1 [some (jO t)] [jO t] 0 0 w _
  refine ⟨rfl, ?_⟩
  refine jWp.getI (pc' := 4) mt rfl rfl (jtg hk7) ?_
  rw [show (w.1 t 0) = z from hz]
  show jWp 70 4 [some (jO t)] [jI z] 0 0 w _
  refine jWp.ifz (pc' := 7) mt rfl rfl (b32_id (by omega) (by omega)) (fun h1 => ?_) (fun h1 => ?_)
  · have h1 : 0 ≤ z := h1
    refine jWp.blk mt 1 ?_
    show jWp 70 12 [some (jO t)] [jI 0] 0 0 w _
    refine jWp.iretz mt rfl ⟨rfl, rfl⟩ rfl (Or.inl rfl) ?_
    exact Or.inr ⟨rfl, rfl, by omega⟩
  · have h1 : z < 0 := h1
    refine jWp.blk mt 2 ?_
    show jWp 70 12 [some (jO t)] [jI 1] 0 0 w _
    refine jWp.iretz mt rfl ⟨rfl, rfl⟩ rfl (Or.inr rfl) ?_
    exact Or.inl ⟨rfl, rfl, by omega⟩
set_option maxHeartbeats 4000000 in
set_option maxRecDepth 20000 in
theorem C_thas {w : jS} {t tp : Nat} {z : Int} (hk7 : w.2.1 t = (7, 0)) (hkp : w.2.1 tp = (100, 40)) (hrp : w.2.2.1 t 1 = some tp) (hz : w.1 t 0 = z) (hzb : -1 ≤ z ∧ z ≤ 40) {i : Int} (hri : r32 i) : jCall 71 [jO t, jI i] w (jvb (0 ≤ i ∧ i < z) w) := by
  have mt : jtb 71 = jT71 := rfl
  have hri1 : -2147483648 ≤ i ∧ i < 2147483648 := hri
  show jWp 71 0 [some (jO t), some (jI i)] [] 0 0 w _
  refine jWp.blk mt 1 ?_
  show jWp 71 1 [some (jO t), some (jI i)] [jI i] 0 0 w _
  refine jWp.ifz (pc' := 4) mt rfl rfl (b32_id (by omega) (by omega)) (fun h1 => ?_) (fun h1 => ?_)
  · have h1 : i < 0 := h1
    refine jWp.blk mt 1 ?_
    show jWp 71 23 [some (jO t), some (jI i)] [jI 0] 0 0 w _
    refine jWp.iretz mt rfl ⟨rfl, rfl⟩ rfl (Or.inl rfl) ?_
    exact Or.inr ⟨rfl, rfl, by omega⟩
  · have h1 : 0 ≤ i := h1
    refine jWp.blk mt 2 ?_
    show _ ∧ jWp 71 6 [some (jO t), some (jI i)] [jO t, jI i] 0 0 w _
    refine ⟨rfl, ?_⟩
    refine jWp.getI (pc' := 9) mt rfl rfl (jtg hk7) ?_
    rw [show (w.1 t 0) = z from hz]
    show jWp 71 9 [some (jO t), some (jI i)] [jI z, jI i] 0 0 w _
    refine jWp.icmp (pc' := 12) mt rfl rfl (b32_id (by omega) (by omega)) (b32_id (by omega) (by omega)) (fun h2 => ?_) (fun h2 => ?_)
    · have h2 : z ≤ i := h2
      refine jWp.blk mt 1 ?_
      show jWp 71 23 [some (jO t), some (jI i)] [jI 0] 0 0 w _
      refine jWp.iretz mt rfl ⟨rfl, rfl⟩ rfl (Or.inl rfl) ?_
      exact Or.inr ⟨rfl, rfl, by omega⟩
    · have h2 : i < z := h2
      refine jWp.blk mt 2 ?_
      show jWp 71 15 [some (jO t), some (jI i)] [jI 40, jI i] 0 0 w _
      refine jWp.icmp (pc' := 18) mt rfl rfl (b32_id (by omega) (by omega)) (show b32 40 = 40 by decide) (fun h3 => ?_) (fun h3 => ?_)
      · have h3 : 40 ≤ i := h3
        refine jWp.blk mt 1 ?_
        show jWp 71 23 [some (jO t), some (jI i)] [jI 0] 0 0 w _
        refine jWp.iretz mt rfl ⟨rfl, rfl⟩ rfl (Or.inl rfl) ?_
        exact Or.inr ⟨rfl, rfl, by omega⟩
      · have h3 : i < 40 := h3
        refine jWp.blk mt 2 ?_
        show jWp 71 23 [some (jO t), some (jI i)] [jI 1] 0 0 w _
        refine jWp.iretz mt rfl ⟨rfl, rfl⟩ rfl (Or.inr rfl) ?_
        exact Or.inl ⟨rfl, rfl, by omega⟩
set_option maxHeartbeats 4000000 in
set_option maxRecDepth 20000 in
theorem C_tclear {w : jS} {t tp : Nat} {n : Int} (hk7 : w.2.1 t = (7, 0)) (hkp : w.2.1 tp = (100, 40)) (hrp : w.2.2.1 t 1 = some tp) : jCall 72 [jO t, jI n] w (fun v w1 => v = none ∧ (w1.2 = w.2 ∧ ∀ a, a ≠ t → a ≠ tp → w1.1 a = w.1 a) ∧ w1.1 t 0 = n ∧ ∀ j, j < 40 → w1.1 tp j = 0) := by
  have mt : jtb 72 = jT72 := rfl
  have hnt : t ≠ tp := kne hk7 hkp (by decide)
  show jWp 72 0 [some (jO t), some (jI n)] [] 0 0 w _
  refine jWp.blk mt 2 ?_
  show _ ∧ jWp 72 2 [some (jO t), some (jI n)] [jI n, jO t] 0 0 w _
  refine ⟨rfl, ?_⟩
  refine jWp.putI (pc' := 5) mt rfl rfl (jtg hk7) ?_
  show jWp 72 5 [some (jO t), some (jI n)] [] 0 0 (jW w t 0 n) _
  refine jWp.blk mt 1 ?_
  show _ ∧ jWp 72 6 [some (jO t), some (jI n)] [jO t] 0 0 (jW w t 0 n) _
  refine ⟨rfl, ?_⟩
  refine jWp.getR (pc' := 9) (o := tp) mt rfl rfl (jtg hk7) hrp ?_
  show jWp 72 9 [some (jO t), some (jI n)] [jO tp] 0 0 (jW w t 0 n) _
  refine jWp.blk mt 1 ?_
  show jWp 72 10 [some (jO t), some (jI n)] [jI 0, jO tp] 0 0 (jW w t 0 n) _
  refine jWp.calls (as := [jO tp, jI 0]) (rest := []) mt rfl rfl rfl rfl ?_
  refine jCall.mono (E_fill (w := (jW w t 0 n)) hkp (by decide)) (fun v9 w9 h9 => ?_)
  obtain ⟨rfl, T, h9, hT⟩ := h9
  subst h9
  show jWp 72 13 [some (jO t), some (jI n)] [] 0 0 (kA (jW w t 0 n) tp T) _
  refine jWp.vret mt rfl ⟨rfl, rfl⟩ rfl ?_
  exact ⟨rfl, ⟨rfl, fun a ga gb => (kA_f gb).trans (jW_f ga)⟩, (kA_a hnt).trans jW_s, fun j hj => kA_s.trans ((hT j).trans (if_pos hj))⟩
set_option maxHeartbeats 4000000 in
set_option maxRecDepth 20000 in
theorem C_ttell {w : jS} {t tp : Nat} {z : Int} (hk7 : w.2.1 t = (7, 0)) (hkp : w.2.1 tp = (100, 40)) (hrp : w.2.2.1 t 1 = some tp) (hz : w.1 t 0 = z) (hzb : -1 ≤ z ∧ z ≤ 40) {i : Nat} {v : Int} (hi : (i : Int) < z) : jCall 73 [jO t, jI (i : Int), jI v] w (fun x w1 => x = none ∧ w1 = jW w tp i v) := by
  have mt : jtb 73 = jT73 := rfl
  show jWp 73 0 [some (jO t), some (jI (i : Int)), some (jI v)] [] 0 0 w _
  refine jWp.blk mt 2 ?_
  show _ ∧ jWp 73 2 [some (jO t), some (jI (i : Int)), some (jI v)] [jI (i : Int), jO t] 0 0 w _
  refine ⟨rfl, ?_⟩
  refine jWp.callv (as := [jO t, jI (i : Int)]) (rest := []) mt rfl rfl rfl ⟨rfl, jtg hk7⟩ ?_
  refine jCall.mono (C_thas (w := w) hk7 hkp hrp hz hzb (i := (i : Int)) (by constructor <;> omega)) (fun v9 w9 h9 => ?_)
  rcases h9 with ⟨rfl, h9, h1⟩ | ⟨rfl, h9, h1⟩ <;> subst w9
  · have h1 : 0 ≤ (i : Int) ∧ (i : Int) < z := h1
    show jWp 73 5 [some (jO t), some (jI (i : Int)), some (jI v)] [jI 1] 0 0 w _
    refine jWp.ifc (b := false) mt rfl (by decide) rfl ?_
    show jWp 73 8 [some (jO t), some (jI (i : Int)), some (jI v)] [] 0 0 w _
    refine jWp.blk mt 1 ?_
    show _ ∧ jWp 73 9 [some (jO t), some (jI (i : Int)), some (jI v)] [jO t] 0 0 w _
    refine ⟨rfl, ?_⟩
    refine jWp.getR (pc' := 12) (o := tp) mt rfl rfl (jtg hk7) hrp ?_
    show jWp 73 12 [some (jO t), some (jI (i : Int)), some (jI v)] [jO tp] 0 0 w _
    refine jWp.blk mt 2 ?_
    show jWp 73 14 [some (jO t), some (jI (i : Int)), some (jI v)] [jI v, jI (i : Int), jO tp] 0 0 w _
    refine jWp.iast (pc' := 15) (j := i) mt rfl rfl (jtg hkp) (b32_id (by omega) (by omega)) (jlt hkp (by omega)) ?_
    show jWp 73 15 [some (jO t), some (jI (i : Int)), some (jI v)] [] 0 0 (jW w tp i v) _
    refine jWp.vret mt rfl ⟨rfl, rfl⟩ rfl ?_
    exact ⟨rfl, rfl⟩
  · have h1 : ¬ (0 ≤ (i : Int) ∧ (i : Int) < z) := h1
    exfalso; omega
set_option maxHeartbeats 4000000 in
set_option maxRecDepth 20000 in
theorem C_tat {w : jS} {t tp : Nat} {z : Int} (hk7 : w.2.1 t = (7, 0)) (hkp : w.2.1 tp = (100, 40)) (hrp : w.2.2.1 t 1 = some tp) (hz : w.1 t 0 = z) (hzb : -1 ≤ z ∧ z ≤ 40) {i : Nat} (hi : (i : Int) < z) : jCall 74 [jO t, jI (i : Int)] w (jvi (w.1 tp i) w) := by
  have mt : jtb 74 = jT74 := rfl
  show jWp 74 0 [some (jO t), some (jI (i : Int))] [] 0 0 w _
  refine jWp.blk mt 2 ?_
  show _ ∧ jWp 74 2 [some (jO t), some (jI (i : Int))] [jI (i : Int), jO t] 0 0 w _
  refine ⟨rfl, ?_⟩
  refine jWp.callv (as := [jO t, jI (i : Int)]) (rest := []) mt rfl rfl rfl ⟨rfl, jtg hk7⟩ ?_
  refine jCall.mono (C_thas (w := w) hk7 hkp hrp hz hzb (i := (i : Int)) (by constructor <;> omega)) (fun v9 w9 h9 => ?_)
  rcases h9 with ⟨rfl, h9, h1⟩ | ⟨rfl, h9, h1⟩ <;> subst w9
  · have h1 : 0 ≤ (i : Int) ∧ (i : Int) < z := h1
    show jWp 74 5 [some (jO t), some (jI (i : Int))] [jI 1] 0 0 w _
    refine jWp.ifc (b := false) mt rfl (by decide) rfl ?_
    show jWp 74 8 [some (jO t), some (jI (i : Int))] [] 0 0 w _
    refine jWp.blk mt 1 ?_
    show _ ∧ jWp 74 9 [some (jO t), some (jI (i : Int))] [jO t] 0 0 w _
    refine ⟨rfl, ?_⟩
    refine jWp.getR (pc' := 12) (o := tp) mt rfl rfl (jtg hk7) hrp ?_
    show jWp 74 12 [some (jO t), some (jI (i : Int))] [jO tp] 0 0 w _
    refine jWp.blk mt 1 ?_
    show jWp 74 13 [some (jO t), some (jI (i : Int))] [jI (i : Int), jO tp] 0 0 w _
    refine jWp.iald (pc' := 14) (j := i) mt rfl rfl (jird_of hkp) (b32_id (by omega) (by omega)) (jlt hkp (by omega)) ?_
    show jWp 74 14 [some (jO t), some (jI (i : Int))] [jI (w.1 tp i)] 0 0 w _
    refine jWp.blk mt 1 ?_
    show jWp 74 18 [some (jO t), some (jI (i : Int))] [jI (w.1 tp i)] 0 0 w _
    refine jWp.ireti mt rfl ⟨rfl, rfl⟩ rfl ?_
    exact ⟨rfl, rfl⟩
  · have h1 : ¬ (0 ≤ (i : Int) ∧ (i : Int) < z) := h1
    exfalso; omega
set_option maxHeartbeats 4000000 in
set_option maxRecDepth 20000 in
theorem C_inRange {w : jS} {t tp : Nat} {z : Int} (hk7 : w.2.1 t = (7, 0)) (hkp : w.2.1 tp = (100, 40)) (hrp : w.2.2.1 t 1 = some tp) (hz : w.1 t 0 = z) (hzb : -1 ≤ z ∧ z ≤ 40) (hI : ∀ j, j < 40 → r32 (w.1 tp j)) : jCall 75 [jO t] w (jvb (zsl (w.1 tp) z.toNat) w) := by
  have mt : jtb 75 = jT75 := rfl
  show jWp 75 0 [some (jO t), none] [] 0 0 w _
  refine jWp.blk mt 2 ?_
  show jWp 75 2 [some (jO t), some (jI 0)] [] 0 0 w _
  have lp1 : ∀ (N : Nat) (k : Nat) (hk : k ≤ z.toNat) (hA : ∀ x, x < k → -10000 ≤ w.1 tp x ∧ w.1 tp x ≤ 10000), z.toNat - k < N → jWp 75 2 [some (jO t), some (jI (k : Int))] [] 0 0 w (jvb (zsl (w.1 tp) z.toNat) w) := by
    intro N
    induction N with
    | zero => intro k hk hA hm; omega
    | succ N ih2 =>
      intro k hk hA hm
      have hi9 : k < 40 → -2147483648 ≤ w.1 tp k ∧ w.1 tp k < 2147483648 := fun h => hI k h
      refine jWp.blk mt 2 ?_
      show _ ∧ jWp 75 4 [some (jO t), some (jI (k : Int))] [jO t, jI (k : Int)] 0 0 w _
      refine ⟨rfl, ?_⟩
      refine jWp.getI (pc' := 7) mt rfl rfl (jtg hk7) ?_
      rw [show (w.1 t 0) = z from hz]
      show jWp 75 7 [some (jO t), some (jI (k : Int))] [jI z, jI (k : Int)] 0 0 w _
      refine jWp.icmp (pc' := 10) mt rfl rfl (b32_id (by omega) (by omega)) (b32_id (by omega) (by omega)) (fun h3 => ?_) (fun h3 => ?_)
      · have h3 : z ≤ (k : Int) := h3
        refine jWp.blk mt 1 ?_
        show jWp 75 41 [some (jO t), some (jI (k : Int))] [jI 1] 0 0 w _
        refine jWp.iretz mt rfl ⟨rfl, rfl⟩ rfl (Or.inr rfl) ?_
        exact Or.inl ⟨rfl, rfl, fun x hx => hA x (by omega)⟩
      · have h3 : (k : Int) < z := h3
        refine jWp.blk mt 2 ?_
        show _ ∧ jWp 75 12 [some (jO t), some (jI (k : Int))] [jI (k : Int), jO t] 0 0 w _
        refine ⟨rfl, ?_⟩
        refine jWp.callv (as := [jO t, jI (k : Int)]) (rest := []) mt rfl rfl rfl ⟨rfl, jtg hk7⟩ ?_
        refine jCall.mono (C_tat (w := w) hk7 hkp hrp hz hzb (i := k) (by omega)) (fun v9 w9 h9 => ?_)
        obtain ⟨rfl, h9⟩ := h9
        subst w9
        show jWp 75 15 [some (jO t), some (jI (k : Int))] [jI (w.1 tp k)] 0 0 w _
        refine jWp.blk mt 1 ?_
        show jWp 75 18 [some (jO t), some (jI (k : Int))] [jI (-10000), jI (w.1 tp k)] 0 0 w _
        refine jWp.icmp (pc' := 21) mt rfl rfl (b32_id (by omega) (by omega)) (show b32 (-10000) = (-10000) by decide) (fun h4 => ?_) (fun h4 => ?_)
        · have h4 : (w.1 tp k) < (-10000) := h4
          refine jWp.blk mt 1 ?_
          show jWp 75 33 [some (jO t), some (jI (k : Int))] [jI 0] 0 0 w _
          refine jWp.iretz mt rfl ⟨rfl, rfl⟩ rfl (Or.inl rfl) ?_
          exact Or.inr ⟨rfl, rfl, fun g => by have g := g k (by omega); omega⟩
        · have h4 : (-10000) ≤ (w.1 tp k) := h4
          refine jWp.blk mt 2 ?_
          show _ ∧ jWp 75 23 [some (jO t), some (jI (k : Int))] [jI (k : Int), jO t] 0 0 w _
          refine ⟨rfl, ?_⟩
          refine jWp.callv (as := [jO t, jI (k : Int)]) (rest := []) mt rfl rfl rfl ⟨rfl, jtg hk7⟩ ?_
          refine jCall.mono (C_tat (w := w) hk7 hkp hrp hz hzb (i := k) (by omega)) (fun v9 w9 h9 => ?_)
          obtain ⟨rfl, h9⟩ := h9
          subst w9
          show jWp 75 26 [some (jO t), some (jI (k : Int))] [jI (w.1 tp k)] 0 0 w _
          refine jWp.blk mt 1 ?_
          show jWp 75 29 [some (jO t), some (jI (k : Int))] [jI 10000, jI (w.1 tp k)] 0 0 w _
          refine jWp.icmp (pc' := 32) mt rfl rfl (b32_id (by omega) (by omega)) (show b32 10000 = 10000 by decide) (fun h5 => ?_) (fun h5 => ?_)
          · have h5 : (w.1 tp k) ≤ 10000 := h5
            refine jWp.blk mt 2 ?_
            show jWp 75 2 [some (jO t), some (jI ((k : Int) + 1))] [] 0 0 w _
            refine jWp.le (l := [some (jO t), some (jI ((k : Int) + 1))]) (by exact ⟨rfl, rfl, trivial⟩) ?_
            exact ih2 (k + 1) (by omega) (fun x hx => by rcases Nat.lt_or_ge x k with e | e; exact hA x e; rw [show x = k by omega]; omega) (by omega)
          · have h5 : 10000 < (w.1 tp k) := h5
            refine jWp.blk mt 1 ?_
            show jWp 75 33 [some (jO t), some (jI (k : Int))] [jI 0] 0 0 w _
            refine jWp.iretz mt rfl ⟨rfl, rfl⟩ rfl (Or.inl rfl) ?_
            exact Or.inr ⟨rfl, rfl, fun g => by have g := g k (by omega); omega⟩
  refine jWp.le (l := [some (jO t), some (jI 0)]) (by exact ⟨rfl, rfl, trivial⟩) ?_
  exact lp1 _ 0 (by omega) (fun x hx => absurd hx (by omega)) (Nat.lt_succ_self _)
set_option maxHeartbeats 4000000 in
set_option maxRecDepth 20000 in
theorem C_madeBy {w : jS} {t tp : Nat} {z : Int} (hk7 : w.2.1 t = (7, 0)) (hkp : w.2.1 tp = (100, 40)) (hrp : w.2.2.1 t 1 = some tp) (hz : w.1 t 0 = z) (hzb : -1 ≤ z ∧ z ≤ 40) (hI : ∀ j, j < 40 → r32 (w.1 tp j)) (hO : jOK w) {law f : Int} (hl0 : 0 ≤ law) (hl6 : law ≤ 6) (hf : 0 ≤ f ∧ f ≤ 9) (hs : zsl (w.1 tp) z.toNat) : jCall 76 [jO t, jI law, jI f] w (jvb (zmd law f (w.1 tp) z.toNat) w) := by
  have mt : jtb 76 = jT76 := rfl
  have hob := zO_b hl0 hl6
  show jWp 76 0 [some (jO t), some (jI law), some (jI f), none, none, none] [] 0 0 w _
  refine jWp.blk mt 1 ?_
  show jWp 76 1 [some (jO t), some (jI law), some (jI f), none, none, none] [jI law] 0 0 w _
  refine jWp.calls (as := [jI law]) (rest := []) mt rfl rfl rfl rfl ?_
  refine jCall.mono (E_orderOf hO hl0 hl6) (fun v9 w9 h9 => ?_)
  obtain ⟨rfl, h9⟩ := h9
  subst w9
  show jWp 76 4 [some (jO t), some (jI law), some (jI f), none, none, none] [jI (zO law)] 0 0 w _
  refine jWp.blk mt 1 ?_
  show jWp 76 5 [some (jO t), some (jI law), some (jI f), some (jI (zO law)), none, none] [] 0 0 w _
  have lp1 : ∀ (N : Nat) (n : Nat) (hn : (zO law).toNat ≤ n ∧ n < 50) (hA : ∀ x, (zO law).toNat ≤ x → x < n → zD law (w.1 tp) x ≠ 0 ∧ w.1 tp x * zD law (w.1 tp) x = zP law f (w.1 tp) x), 50 - n < N → jWp 76 5 [some (jO t), some (jI law), some (jI f), some (jI (n : Int)), none, none] [] 0 0 w (jvb (zmd law f (w.1 tp) z.toNat) w) := by
    intro N
    induction N with
    | zero => intro n hn hA hm; omega
    | succ N ih2 =>
      intro n hn hA hm
      have hmb : n < z.toNat → _ := fun h => zmd_b (t := w.1 tp) (n := n) hl0 hl6 hf hs hn.1 h
      have hi9 : n < 40 → -2147483648 ≤ w.1 tp n ∧ w.1 tp n < 2147483648 := fun h => hI n h
      refine jWp.blk mt 2 ?_
      show _ ∧ jWp 76 7 [some (jO t), some (jI law), some (jI f), some (jI (n : Int)), none, none] [jO t, jI (n : Int)] 0 0 w _
      refine ⟨rfl, ?_⟩
      refine jWp.getI (pc' := 10) mt rfl rfl (jtg hk7) ?_
      rw [show (w.1 t 0) = z from hz]
      show jWp 76 10 [some (jO t), some (jI law), some (jI f), some (jI (n : Int)), none, none] [jI z, jI (n : Int)] 0 0 w _
      refine jWp.icmp (pc' := 13) mt rfl rfl (b32_id (by omega) (by omega)) (b32_id (by omega) (by omega)) (fun h3 => ?_) (fun h3 => ?_)
      · have h3 : z ≤ (n : Int) := h3
        refine jWp.blk mt 1 ?_
        show jWp 76 63 [some (jO t), some (jI law), some (jI f), some (jI (n : Int)), none, none] [jI 1] 0 0 w _
        refine jWp.iretz mt rfl ⟨rfl, rfl⟩ rfl (Or.inr rfl) ?_
        exact Or.inl ⟨rfl, rfl, fun x g1 g2 => hA x g1 (by omega)⟩
      · have h3 : (n : Int) < z := h3
        refine jWp.blk mt 2 ?_
        show _ ∧ jWp 76 15 [some (jO t), some (jI law), some (jI f), some (jI (n : Int)), none, none] [jO t, jI law] 0 0 w _
        refine ⟨rfl, ?_⟩
        refine jWp.getR (pc' := 18) (o := tp) mt rfl rfl (jtg hk7) hrp ?_
        show jWp 76 18 [some (jO t), some (jI law), some (jI f), some (jI (n : Int)), none, none] [jO tp, jI law] 0 0 w _
        refine jWp.blk mt 1 ?_
        show jWp 76 19 [some (jO t), some (jI law), some (jI f), some (jI (n : Int)), none, none] [jI (n : Int), jO tp, jI law] 0 0 w _
        refine jWp.calls (as := [jI law, jO tp, jI (n : Int)]) (rest := []) mt rfl rfl rfl rfl ?_
        refine jCall.mono (E_divisor (n := n) hO hkp hl0 hl6 hn.1 (by omega) (by decide) (fun j hj => hI j (by omega))) (fun v9 w9 h9 => ?_)
        obtain ⟨rfl, h9⟩ := h9
        subst w9
        show jWp 76 22 [some (jO t), some (jI law), some (jI f), some (jI (n : Int)), none, none] [jJ (zD law (w.1 tp) n)] 0 0 w _
        refine jWp.blk mt 3 ?_
        show jWp 76 27 [some (jO t), some (jI law), some (jI f), some (jI (n : Int)), some (jJ (zD law (w.1 tp) n)), none] [jJ 0, jJ (zD law (w.1 tp) n)] 0 0 w _
        refine jWp.lcmp (pc' := 31) mt rfl rfl rfl (b64_id (by omega) (by omega)) (show b64 0 = 0 by decide) (fun h4 => ?_) (fun h4 => ?_)
        · have h4 : (zD law (w.1 tp) n) = 0 := h4
          refine jWp.blk mt 1 ?_
          show jWp 76 55 [some (jO t), some (jI law), some (jI f), some (jI (n : Int)), some (jJ (zD law (w.1 tp) n)), none] [jI 0] 0 0 w _
          refine jWp.iretz mt rfl ⟨rfl, rfl⟩ rfl (Or.inl rfl) ?_
          exact Or.inr ⟨rfl, rfl, fun g => by have g := g n hn.1 (by omega); omega⟩
        · have h4 : (zD law (w.1 tp) n) ≠ 0 := h4
          refine jWp.blk mt 2 ?_
          show _ ∧ jWp 76 33 [some (jO t), some (jI law), some (jI f), some (jI (n : Int)), some (jJ (zD law (w.1 tp) n)), none] [jI (n : Int), jO t] 0 0 w _
          refine ⟨rfl, ?_⟩
          refine jWp.callv (as := [jO t, jI (n : Int)]) (rest := []) mt rfl rfl rfl ⟨rfl, jtg hk7⟩ ?_
          refine jCall.mono (C_tat (w := w) hk7 hkp hrp hz hzb (i := n) (by omega)) (fun v9 w9 h9 => ?_)
          obtain ⟨rfl, h9⟩ := h9
          subst w9
          show jWp 76 36 [some (jO t), some (jI law), some (jI f), some (jI (n : Int)), some (jJ (zD law (w.1 tp) n)), none] [jI (w.1 tp n)] 0 0 w _
          refine jWp.i2l (pc' := 37) mt rfl rfl (b32_id (by omega) (by omega)) ?_
          show jWp 76 37 [some (jO t), some (jI law), some (jI f), some (jI (n : Int)), some (jJ (zD law (w.1 tp) n)), none] [jJ (w.1 tp n)] 0 0 w _
          refine jWp.blk mt 5 ?_
          show _ ∧ jWp 76 43 [some (jO t), some (jI law), some (jI f), some (jI (n : Int)), some (jJ (zD law (w.1 tp) n)), none] [jO t, jI f, jI law, jJ ((w.1 tp n) * (zD law (w.1 tp) n))] 0 0 w _
          refine ⟨rfl, ?_⟩
          refine jWp.getR (pc' := 46) (o := tp) mt rfl rfl (jtg hk7) hrp ?_
          show jWp 76 46 [some (jO t), some (jI law), some (jI f), some (jI (n : Int)), some (jJ (zD law (w.1 tp) n)), none] [jO tp, jI f, jI law, jJ ((w.1 tp n) * (zD law (w.1 tp) n))] 0 0 w _
          refine jWp.blk mt 1 ?_
          show jWp 76 47 [some (jO t), some (jI law), some (jI f), some (jI (n : Int)), some (jJ (zD law (w.1 tp) n)), none] [jI (n : Int), jO tp, jI f, jI law, jJ ((w.1 tp n) * (zD law (w.1 tp) n))] 0 0 w _
          refine jWp.calls (as := [jI law, jI f, jO tp, jI (n : Int)]) (rest := [jJ ((w.1 tp n) * (zD law (w.1 tp) n))]) mt rfl rfl rfl rfl ?_
          refine jCall.mono (E_product (n := n) hkp hl0 hl6 hn.1 (by omega) (by decide) (by constructor <;> omega) (fun j hj => hI j (by omega))) (fun v9 w9 h9 => ?_)
          obtain ⟨rfl, h9⟩ := h9
          subst w9
          show jWp 76 50 [some (jO t), some (jI law), some (jI f), some (jI (n : Int)), some (jJ (zD law (w.1 tp) n)), none] [jJ (zP law f (w.1 tp) n), jJ ((w.1 tp n) * (zD law (w.1 tp) n))] 0 0 w _
          refine jWp.lcmp (pc' := 54) mt rfl rfl rfl (b64_id (by omega) (by omega)) (b64_id (by omega) (by omega)) (fun h5 => ?_) (fun h5 => ?_)
          · have h5 : ((w.1 tp n) * (zD law (w.1 tp) n)) = (zP law f (w.1 tp) n) := h5
            refine jWp.blk mt 2 ?_
            show jWp 76 5 [some (jO t), some (jI law), some (jI f), some (jI ((n : Int) + 1)), some (jJ (zD law (w.1 tp) n)), none] [] 0 0 w _
            refine jWp.le (l := [some (jO t), some (jI law), some (jI f), some (jI ((n : Int) + 1)), none, none]) (by exact ⟨rfl, rfl, rfl, rfl, trivial⟩) ?_
            exact ih2 (n + 1) (by omega) (fun x g1 g2 => by rcases Nat.lt_or_ge x n with e | e; exact hA x g1 e; rw [show x = n by omega]; exact ⟨by omega, by omega⟩) (by omega)
          · have h5 : ((w.1 tp n) * (zD law (w.1 tp) n)) ≠ (zP law f (w.1 tp) n) := h5
            refine jWp.blk mt 1 ?_
            show jWp 76 55 [some (jO t), some (jI law), some (jI f), some (jI (n : Int)), some (jJ (zD law (w.1 tp) n)), none] [jI 0] 0 0 w _
            refine jWp.iretz mt rfl ⟨rfl, rfl⟩ rfl (Or.inl rfl) ?_
            exact Or.inr ⟨rfl, rfl, fun g => by have g := g n hn.1 (by omega); omega⟩
  refine jWp.le (l := [some (jO t), some (jI law), some (jI f), some (jI (zO law)), none, none]) (by exact ⟨rfl, rfl, rfl, rfl, trivial⟩) ?_
  obtain ⟨o, ho⟩ : ∃ o : Nat, zO law = (o : Int) := ⟨(zO law).toNat, by omega⟩
  rw [ho]
  exact lp1 _ o (by omega) (fun x g1 g2 => absurd g1 (by omega)) (Nat.lt_succ_self _)
set_option maxHeartbeats 4000000 in
set_option maxRecDepth 20000 in
theorem C_otherwise {w : jS} {t tp : Nat} {z : Int} (hk7 : w.2.1 t = (7, 0)) (hkp : w.2.1 tp = (100, 40)) (hrp : w.2.2.1 t 1 = some tp) (hz : w.1 t 0 = z) (hzb : -1 ≤ z ∧ z ≤ 40) (hI : ∀ j, j < 40 → r32 (w.1 tp j)) {r rt len : Nat} (hkr : w.2.1 r = (4, 0)) (hkt : w.2.1 rt = (100, 60)) (hrt : w.2.2.1 r 6 = some rt) (hlen : w.1 r 2 = (len : Int)) (hl60 : len ≤ 60) (hgb : ∀ j, j < len → -100000000 ≤ w.1 rt j ∧ w.1 rt j ≤ 100000000) : jCall 77 [jO t, jO r] w (jvi (zff (fun k => ¬ k < len ∨ w.1 tp k ≠ w.1 rt k) z.toNat 0) w) := by
  have mt : jtb 77 = jT77 := rfl
  show jWp 77 0 [some (jO t), some (jO r), none] [] 0 0 w _
  refine jWp.blk mt 2 ?_
  show jWp 77 2 [some (jO t), some (jO r), some (jI 0)] [] 0 0 w _
  have lp1 : ∀ (N : Nat) (k : Nat) (hk : k ≤ z.toNat) (hr : zff (fun k => ¬ k < len ∨ w.1 tp k ≠ w.1 rt k) (z.toNat - k) k = zff (fun k => ¬ k < len ∨ w.1 tp k ≠ w.1 rt k) (z.toNat) 0), z.toNat - k < N → jWp 77 2 [some (jO t), some (jO r), some (jI (k : Int))] [] 0 0 w (jvi (zff (fun k => ¬ k < len ∨ w.1 tp k ≠ w.1 rt k) z.toNat 0) w) := by
    intro N
    induction N with
    | zero => intro k hk hr hm; omega
    | succ N ih2 =>
      intro k hk hr hm
      have hf : k < len → _ := fun h => hgb k h
      have hi9 : k < 40 → -2147483648 ≤ w.1 tp k ∧ w.1 tp k < 2147483648 := fun h => hI k h
      refine jWp.blk mt 2 ?_
      show _ ∧ jWp 77 4 [some (jO t), some (jO r), some (jI (k : Int))] [jO t, jI (k : Int)] 0 0 w _
      refine ⟨rfl, ?_⟩
      refine jWp.getI (pc' := 7) mt rfl rfl (jtg hk7) ?_
      rw [show (w.1 t 0) = z from hz]
      show jWp 77 7 [some (jO t), some (jO r), some (jI (k : Int))] [jI z, jI (k : Int)] 0 0 w _
      refine jWp.icmp (pc' := 10) mt rfl rfl (b32_id (by omega) (by omega)) (b32_id (by omega) (by omega)) (fun h3 => ?_) (fun h3 => ?_)
      · have h3 : z ≤ (k : Int) := h3
        refine jWp.blk mt 1 ?_
        show jWp 77 41 [some (jO t), some (jO r), some (jI (k : Int))] [jI (-9)] 0 0 w _
        refine jWp.ireti mt rfl ⟨rfl, rfl⟩ rfl ?_
        refine ⟨?_, rfl⟩
        rw [← hr, show z.toNat - k = 0 by omega]; rfl
      · have h3 : (k : Int) < z := h3
        refine jWp.blk mt 2 ?_
        show _ ∧ jWp 77 12 [some (jO t), some (jO r), some (jI (k : Int))] [jI (k : Int), jO r] 0 0 w _
        refine ⟨rfl, ?_⟩
        refine jWp.callv (as := [jO r, jI (k : Int)]) (rest := []) mt rfl rfl rfl ⟨rfl, jtg hkr⟩ ?_
        refine jCall.mono (C_reaches (w := w) (r := r) (rt := rt) (len := len) hkr hkt hrt hlen hl60 hgb (n := (k : Int)) (by constructor <;> omega)) (fun v9 w9 h9 => ?_)
        rcases h9 with ⟨rfl, h9, h4⟩ | ⟨rfl, h9, h4⟩ <;> subst w9
        · have h4 : 0 ≤ (k : Int) ∧ (k : Int) < (len : Int) := h4
          show jWp 77 15 [some (jO t), some (jO r), some (jI (k : Int))] [jI 1] 0 0 w _
          refine jWp.ifc (b := false) mt rfl (by decide) rfl ?_
          show jWp 77 18 [some (jO t), some (jO r), some (jI (k : Int))] [] 0 0 w _
          refine jWp.blk mt 2 ?_
          show _ ∧ jWp 77 20 [some (jO t), some (jO r), some (jI (k : Int))] [jI (k : Int), jO r] 0 0 w _
          refine ⟨rfl, ?_⟩
          refine jWp.callv (as := [jO r, jI (k : Int)]) (rest := []) mt rfl rfl rfl ⟨rfl, jtg hkr⟩ ?_
          refine jCall.mono (C_termAt (w := w) (r := r) (rt := rt) (len := len) hkr hkt hrt hlen hl60 hgb (n := k) (by omega)) (fun v9 w9 h9 => ?_)
          obtain ⟨rfl, h9⟩ := h9
          subst w9
          show jWp 77 23 [some (jO t), some (jO r), some (jI (k : Int))] [jI (zta (w.1 rt) len k)] 0 0 w _
          have := zta_b (n := k) hgb
          have : k < len → (zta (w.1 rt) len k) = w.1 rt k := fun h => zta_t h
          have : ¬ k < len → (zta (w.1 rt) len k) = 0 := fun h => zta_f h
          refine jWp.blk mt 2 ?_
          show _ ∧ jWp 77 25 [some (jO t), some (jO r), some (jI (k : Int))] [jI (k : Int), jO t, jI (zta (w.1 rt) len k)] 0 0 w _
          refine ⟨rfl, ?_⟩
          refine jWp.callv (as := [jO t, jI (k : Int)]) (rest := [jI (zta (w.1 rt) len k)]) mt rfl rfl rfl ⟨rfl, jtg hk7⟩ ?_
          refine jCall.mono (C_tat (w := w) hk7 hkp hrp hz hzb (i := k) (by omega)) (fun v9 w9 h9 => ?_)
          obtain ⟨rfl, h9⟩ := h9
          subst w9
          show jWp 77 28 [some (jO t), some (jO r), some (jI (k : Int))] [jI (w.1 tp k), jI (zta (w.1 rt) len k)] 0 0 w _
          refine jWp.icmp (pc' := 31) mt rfl rfl (b32_id (by omega) (by omega)) (b32_id (by omega) (by omega)) (fun h5 => ?_) (fun h5 => ?_)
          · have h5 : (zta (w.1 rt) len k) = (w.1 tp k) := h5
            refine jWp.blk mt 2 ?_
            show jWp 77 2 [some (jO t), some (jO r), some (jI ((k : Int) + 1))] [] 0 0 w _
            refine jWp.le (l := [some (jO t), some (jO r), some (jI ((k : Int) + 1))]) (by exact ⟨rfl, rfl, rfl, trivial⟩) ?_
            exact ih2 (k + 1) (by omega) (by rw [← hr, show z.toNat - k = (z.toNat - (k + 1)) + 1 by omega, zff_f (by omega)]) (by omega)
          · have h5 : (zta (w.1 rt) len k) ≠ (w.1 tp k) := h5
            refine jWp.blk mt 1 ?_
            show jWp 77 32 [some (jO t), some (jO r), some (jI (k : Int))] [jI (k : Int)] 0 0 w _
            refine jWp.ireti mt rfl ⟨rfl, rfl⟩ rfl ?_
            refine ⟨?_, rfl⟩
            rw [← hr, show z.toNat - k = (z.toNat - (k + 1)) + 1 by omega, zff_t (by omega)]
        · have h4 : ¬ (0 ≤ (k : Int) ∧ (k : Int) < (len : Int)) := h4
          show jWp 77 15 [some (jO t), some (jO r), some (jI (k : Int))] [jI 0] 0 0 w _
          refine jWp.ifc (b := true) mt rfl (by decide) rfl ?_
          show jWp 77 31 [some (jO t), some (jO r), some (jI (k : Int))] [] 0 0 w _
          refine jWp.blk mt 1 ?_
          show jWp 77 32 [some (jO t), some (jO r), some (jI (k : Int))] [jI (k : Int)] 0 0 w _
          refine jWp.ireti mt rfl ⟨rfl, rfl⟩ rfl ?_
          refine ⟨?_, rfl⟩
          rw [← hr, show z.toNat - k = (z.toNat - (k + 1)) + 1 by omega, zff_t (by omega)]
  refine jWp.le (l := [some (jO t), some (jO r), some (jI 0)]) (by exact ⟨rfl, rfl, rfl, trivial⟩) ?_
  exact lp1 _ 0 (by omega) (by rw [Nat.sub_zero]) (Nat.lt_succ_self _)
set_option maxHeartbeats 4000000 in
set_option maxRecDepth 20000 in
theorem C_takeFrom {w : jS} {t tp : Nat} {z : Int} (hk7 : w.2.1 t = (7, 0)) (hkp : w.2.1 tp = (100, 40)) (hrp : w.2.2.1 t 1 = some tp) (hz : w.1 t 0 = z) (hzb : -1 ≤ z ∧ z ≤ 40) {r rt len : Nat} (hkr : w.2.1 r = (4, 0)) (hkt : w.2.1 rt = (100, 60)) (hrt : w.2.2.1 r 6 = some rt) (hlen : w.1 r 2 = (len : Int)) (hl60 : len ≤ 60) (hgb : ∀ j, j < len → -100000000 ≤ w.1 rt j ∧ w.1 rt j ≤ 100000000) {i : Nat} (hi : (i : Int) < z) : jCall 78 [jO t, jO r, jI (i : Int)] w (fun v w1 => ∃ (n : Nat) (T : Nat → Int), v = some (jI (n : Int)) ∧ (n ≤ len ∧ (i : Int) + (n : Int) ≤ z ∧ (n < len → (i : Int) + (n : Int) = z)) ∧ w1 = kA w tp T ∧ zly (w.1 tp) (w.1 rt) T i n) := by
  have mt : jtb 78 = jT78 := rfl
  have hnt : t ≠ tp := kne hk7 hkp (by decide)
  have hn1 : r ≠ tp := kne hkr hkp (by decide)
  have hn2 : rt ≠ tp := kne2 hkt hkp (by decide)
  show jWp 78 0 [some (jO t), some (jO r), some (jI (i : Int)), none, none] [] 0 0 w _
  refine jWp.blk mt 4 ?_
  show jWp 78 5 [some (jO t), some (jO r), some (jI (i : Int)), some (jI 0), some (jI (i : Int))] [] 0 0 w _
  have lp1 : ∀ (N : Nat) (n : Nat) (T : Nat → Int) (hn : n ≤ len ∧ (i : Int) + (n : Int) ≤ z) (hT : zly (w.1 tp) (w.1 rt) T i n), len - n < N → jWp 78 5 [some (jO t), some (jO r), none, some (jI (n : Int)), some (jI ((i + n : Nat) : Int))] [] 0 0 (kA w tp T) (fun v w1 => ∃ (n : Nat) (T : Nat → Int), v = some (jI (n : Int)) ∧ (n ≤ len ∧ (i : Int) + (n : Int) ≤ z ∧ (n < len → (i : Int) + (n : Int) = z)) ∧ w1 = kA w tp T ∧ zly (w.1 tp) (w.1 rt) T i n) := by
    intro N
    induction N with
    | zero => intro n T hn hT hm; omega
    | succ N ih2 =>
      intro n T hn hT hm
      refine jWp.blk mt 2 ?_
      show _ ∧ jWp 78 8 [some (jO t), some (jO r), none, some (jI (n : Int)), some (jI ((i + n : Nat) : Int))] [jO t, jI ((i + n : Nat) : Int)] 0 0 (kA w tp T) _
      refine ⟨rfl, ?_⟩
      refine jWp.getI (pc' := 11) mt rfl rfl (jtg hk7) ?_
      rw [show ((kA w tp T).1 t 0) = z from (((kA_a (by omega)).trans rfl).trans hz)]
      show jWp 78 11 [some (jO t), some (jO r), none, some (jI (n : Int)), some (jI ((i + n : Nat) : Int))] [jI z, jI ((i + n : Nat) : Int)] 0 0 (kA w tp T) _
      refine jWp.icmp (pc' := 14) mt rfl rfl (b32_id (by omega) (by omega)) (b32_id (by omega) (by omega)) (fun h3 => ?_) (fun h3 => ?_)
      · have h3 : z ≤ ((i + n : Nat) : Int) := h3
        refine jWp.blk mt 1 ?_
        show jWp 78 43 [some (jO t), some (jO r), none, some (jI (n : Int)), some (jI ((i + n : Nat) : Int))] [jI (n : Int)] 0 0 (kA w tp T) _
        refine jWp.ireti mt rfl ⟨rfl, rfl⟩ rfl ?_
        exact ⟨n, T, rfl, by omega, rfl, hT⟩
      · have h3 : ((i + n : Nat) : Int) < z := h3
        refine jWp.blk mt 2 ?_
        show _ ∧ jWp 78 16 [some (jO t), some (jO r), none, some (jI (n : Int)), some (jI ((i + n : Nat) : Int))] [jI (n : Int), jO r] 0 0 (kA w tp T) _
        refine ⟨rfl, ?_⟩
        refine jWp.callv (as := [jO r, jI (n : Int)]) (rest := []) mt rfl rfl rfl ⟨rfl, jtg hkr⟩ ?_
        refine jCall.mono (C_reaches (w := (kA w tp T)) (r := r) (rt := rt) (len := len) hkr hkt hrt (((kA_a (by omega)).trans rfl).trans hlen) hl60 (by rw [show (kA w tp T).1 rt = w.1 rt from ((kA_f (by omega)).trans rfl)]; exact hgb) (n := (n : Int)) (by constructor <;> omega)) (fun v9 w9 h9 => ?_)
        rcases h9 with ⟨rfl, h9, h4⟩ | ⟨rfl, h9, h4⟩ <;> subst w9
        · have h4 : 0 ≤ (n : Int) ∧ (n : Int) < (len : Int) := h4
          show jWp 78 19 [some (jO t), some (jO r), none, some (jI (n : Int)), some (jI ((i + n : Nat) : Int))] [jI 1] 0 0 (kA w tp T) _
          refine jWp.ifc (b := false) mt rfl (by decide) rfl ?_
          show jWp 78 22 [some (jO t), some (jO r), none, some (jI (n : Int)), some (jI ((i + n : Nat) : Int))] [] 0 0 (kA w tp T) _
          refine jWp.blk mt 4 ?_
          show _ ∧ _ ∧ jWp 78 27 [some (jO t), some (jO r), none, some (jI (n : Int)), some (jI ((i + n : Nat) : Int))] [jI (n : Int), jO r, jI ((i + n : Nat) : Int), jO t] 0 0 (kA w tp T) _
          refine ⟨rfl, rfl, ?_⟩
          refine jWp.callv (as := [jO r, jI (n : Int)]) (rest := [jI ((i + n : Nat) : Int), jO t]) mt rfl rfl rfl ⟨rfl, jtg hkr⟩ ?_
          refine jCall.mono ((by have h := C_termAt (w := (kA w tp T)) (r := r) (rt := rt) (len := len) hkr hkt hrt (((kA_a (by omega)).trans rfl).trans hlen) hl60 (by rw [show (kA w tp T).1 rt = w.1 rt from ((kA_f (by omega)).trans rfl)]; exact hgb) (n := n) (by omega); rw [show (kA w tp T).1 rt = w.1 rt from ((kA_f (by omega)).trans rfl), zta_t (by omega)] at h; exact h)) (fun v9 w9 h9 => ?_)
          obtain ⟨rfl, h9⟩ := h9
          subst w9
          show jWp 78 30 [some (jO t), some (jO r), none, some (jI (n : Int)), some (jI ((i + n : Nat) : Int))] [jI (w.1 rt n), jI ((i + n : Nat) : Int), jO t] 0 0 (kA w tp T) _
          refine jWp.callv (as := [jO t, jI ((i + n : Nat) : Int), jI (w.1 rt n)]) (rest := []) mt rfl rfl rfl ⟨rfl, jtg hk7⟩ ?_
          refine jCall.mono (C_ttell (w := (kA w tp T)) hk7 hkp hrp (((kA_a (by omega)).trans rfl).trans hz) hzb (i := i + n) (by omega)) (fun v9 w9 h9 => ?_)
          obtain ⟨rfl, h9⟩ := h9
          subst h9
          rw [show jW (kA w tp T) tp (i + n) (w.1 rt n) = kA w tp (zset T (i + n) (w.1 rt n)) from kA_W]
          show jWp 78 33 [some (jO t), some (jO r), none, some (jI (n : Int)), some (jI ((i + n : Nat) : Int))] [] 0 0 (kA w tp (zset T (i + n) (w.1 rt n))) _
          refine jWp.blk mt 3 ?_
          show jWp 78 5 [some (jO t), some (jO r), none, some (jI ((n : Int) + 1)), some (jI (((i + n : Nat) : Int) + 1))] [] 0 0 (kA w tp (zset T (i + n) (w.1 rt n))) _
          refine jWp.le (l := [some (jO t), some (jO r), none, some (jI ((n : Int) + 1)), some (jI (((i + n : Nat) : Int) + 1))]) (by exact ⟨rfl, rfl, rfl, rfl, trivial⟩) ?_
          exact ih2 (n + 1) _ (by omega) (fun j hj => by rcases Nat.lt_or_ge j (i + n) with g | g; rw [zset_n (by omega), hT j hj]; by_cases e : i ≤ j; rw [if_pos (by omega), if_pos (by omega)]; rw [if_neg (by omega), if_neg (by omega)]; by_cases e : j = i + n; rw [e, zset_s, if_pos (by omega), show i + n - i = n by omega]; rw [zset_n e, hT j hj, if_neg (by omega), if_neg (by omega)]) (by omega)
        · have h4 : ¬ (0 ≤ (n : Int) ∧ (n : Int) < (len : Int)) := h4
          show jWp 78 19 [some (jO t), some (jO r), none, some (jI (n : Int)), some (jI ((i + n : Nat) : Int))] [jI 0] 0 0 (kA w tp T) _
          refine jWp.ifc (b := true) mt rfl (by decide) rfl ?_
          show jWp 78 42 [some (jO t), some (jO r), none, some (jI (n : Int)), some (jI ((i + n : Nat) : Int))] [] 0 0 (kA w tp T) _
          refine jWp.blk mt 1 ?_
          show jWp 78 43 [some (jO t), some (jO r), none, some (jI (n : Int)), some (jI ((i + n : Nat) : Int))] [jI (n : Int)] 0 0 (kA w tp T) _
          refine jWp.ireti mt rfl ⟨rfl, rfl⟩ rfl ?_
          exact ⟨n, T, rfl, by omega, rfl, hT⟩
  refine jWp.le (l := [some (jO t), some (jO r), none, some (jI 0), some (jI (i : Int))]) (by exact ⟨rfl, rfl, rfl, rfl, trivial⟩) ?_
  have key := lp1 _ 0 (w.1 tp) (by omega) (fun j hj => by rw [if_neg (by omega)]) (Nat.lt_succ_self _)
  rw [kA_self] at key
  exact key
