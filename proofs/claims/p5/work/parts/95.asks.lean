/-! the asks: quiet calls, class and reference side by side -/
section ASK
variable {g : Prop} {x m : Nat} {w w1 : jS}
theorem zmb (h : zRel g x m w) (q : cnb w x w1) : MW w1.2 m := by rw [q.1]; exact h.mw
theorem zcb (h : zRel g x m w) (q : cnb w x w1) {b : Nat} (hb : m ≤ b) : w1.1 b = w.1 b := q.2 b (by have := h.xm; omega)
theorem cnb_0 : cnb w x w := ⟨rfl, fun _ _ => rfl⟩
end ASK
theorem zkp_c {law : Int} {t t' : Nat → Int} {len : Nat} (e : ∀ j, j < len → t j = t' j) (n : Nat) : zkp law t len n ↔ zkp law t' len n := by
  unfold zkp
  refine and_congr_right fun _ => forall_congr' fun k => forall_congr' fun _ => forall_congr' fun _ => ?_
  constructor
  · intro ⟨a, b⟩; rw [e k a] at b; exact ⟨a, b⟩
  · intro ⟨a, b⟩; rw [← e k a] at b; exact ⟨a, b⟩
theorem zk_c {law f : Int} {t t' : Nat → Int} {len n : Nat} (e : ∀ j, j < len → t j = t' j) (h : zkp law t len n) : zku law f t n = zku law f t' n ∧ zkd law t n = zkd law t' n := by
  obtain ⟨h1, h2⟩ := h
  have E : ∀ k, k < zkm law → t (n + k) = t' (n + k) := fun k hk => e _ (h2 (n + k) (by omega) (by omega)).1
  unfold zku zkd
  by_cases c0 : law = 0
  · have k2 : zkm law = 2 := by rw [c0]; decide
    rw [if_pos c0, if_pos c0, if_pos c0, if_pos c0]
    have a0 := E 0 (by omega); have a1 := E 1 (by omega)
    rw [Nat.add_zero] at a0
    rw [a0, a1]
    exact ⟨rfl, rfl⟩
  · rw [if_neg c0, if_neg c0, if_neg c0, if_neg c0]
    by_cases c1 : law = 1
    · have k2 : zkm law = 3 := by rw [c1]; decide
      rw [if_pos c1, if_pos c1, if_pos c1, if_pos c1]
      have a0 := E 0 (by omega); have a1 := E 1 (by omega); have a2 := E 2 (by omega)
      rw [Nat.add_zero] at a0
      rw [a0, a1, a2]
      exact ⟨rfl, rfl⟩
    · rw [if_neg c1, if_neg c1, if_neg c1, if_neg c1]
      have k4 : zkm law = 4 := by
        unfold zkm at h1 ⊢
        rw [if_neg c0, if_neg c1] at h1 ⊢
        split at h1
        · rename_i c3; rw [if_pos c3]
        · exact absurd rfl h1
      have a0 := E 0 (by omega); have a1 := E 1 (by omega); have a2 := E 2 (by omega); have a3 := E 3 (by omega)
      rw [Nat.add_zero] at a0
      rw [a0, a1, a2, a3]
      exact ⟨rfl, rfl⟩
theorem zba_P {P : (Nat → Int) → Prop} {n a k : Nat} {L : List zE} (hP : ∀ q k, P q → k < n → zcan q n k → P (zxF q n k)) (hk : k < n) (ha : a < L.length) (h : ∀ o, o < L.length → P (zL L o).1) : L.length ≤ (zba n a k L).length ∧ ∀ o, o < (zba n a k L).length → P (zL (zba n a k L) o).1 := by
  by_cases c : zcan (zL L a).1 n k ∧ znw2 L n (zxF (zL L a).1 n k)
  · rw [zba_t c]
    refine ⟨by rw [List.length_append]; omega, fun o ho => ?_⟩
    rw [List.length_append] at ho
    simp only [List.length_cons, List.length_nil] at ho
    rcases Nat.lt_or_ge o L.length with q | q
    · rw [zL_l q]
      exact h o q
    · have e : o = L.length := by omega
      subst e
      rw [zL_r]
      exact hP _ _ (h a ha) hk c.1
  · rw [zba_f c]
    exact ⟨Nat.le_refl _, h⟩
theorem zbi_P {P : (Nat → Int) → Prop} {n a : Nat} (hP : ∀ q k, P q → k < n → zcan q n k → P (zxF q n k)) : ∀ f k (L : List zE), k + f ≤ n → a < L.length → (∀ o, o < L.length → P (zL L o).1) → L.length ≤ (zbi n a f k L).length ∧ ∀ o, o < (zbi n a f k L).length → P (zL (zbi n a f k L) o).1
  | 0, _, _, _, _, h => ⟨Nat.le_refl _, h⟩
  | f + 1, k, L, hk, ha, h => by
    obtain ⟨h1, h2⟩ := zba_P (k := k) hP (by omega) ha h
    obtain ⟨h3, h4⟩ := zbi_P hP f (k + 1) _ (by omega) (Nat.lt_of_lt_of_le ha h1) h2
    exact ⟨Nat.le_trans h1 h3, h4⟩
theorem zbo_P {P : (Nat → Int) → Prop} {n d : Nat} (hP : ∀ q k, P q → k < n → zcan q n k → P (zxF q n k)) : ∀ f a (L : List zE), (∀ o, o < L.length → P (zL L o).1) → ∀ o, o < (zbo n d f a L).length → P (zL (zbo n d f a L) o).1
  | 0, _, _, h => h
  | f + 1, a, L, h => by
    by_cases c : a < L.length ∧ (zL L a).2.2.2 < d
    · rw [zbo_t c]
      exact zbo_P hP f (a + 1) _ (zbi_P hP n 0 L (by omega) c.1 h).2
    · rw [zbo_f c]
      exact h
theorem zBF_P {P : (Nat → Int) → Prop} {n d : Nat} {q : Nat → Int} (hP : ∀ q k, P q → k < n → zcan q n k → P (zxF q n k)) (hq : P q) : ∀ o, o < (zBF n d q).length → P (zL (zBF n d q) o).1 := by
  refine zbo_P hP 400 0 _ (fun o ho => ?_)
  have e : o = 0 := by simp only [List.length_cons, List.length_nil] at ho; omega
  subst e
  exact hq
set_option maxHeartbeats 2000000 in
theorem T_entry {g : Prop} {x m : Nat} {w : jS} (h : zRel g x m w) {i j : Int} (hri : r32 i) (hrj : r32 j) : jCall 104 [jO x, jI i, jI j] w (fun v w1 => w1.2 = w.2 ∧ jCall 170 [jO m, jI i, jI j] w1 (fun v' w2 => zAI (True) x m v v' w2)) := by
  have xm := h.xm
  obtain ⟨n, hQ, hn0, hRR⟩ := h.seed
  have hC := C_entry (w := w) (x := x) h.cw hQ hn0 hRR hri hrj
  have hE := fun (w1 : jS) (hq : cnb w x w1) => E_entry (w := w1) (m := m) (n := n) (zmb h hq) (by rw [zcb h hq (show m ≤ m + 1 by omega)]; exact hQ.1) hri hrj
  by_cases g0 : ¬ (0 ≤ i ∧ i < (n : Int)) ∨ ¬ (0 ≤ j ∧ j < (n : Int))
  · exact L_no h (show 0 < 6 by decide) (hC.mono fun v w1 hc => cno_q (hc.1 g0)) (fun w1 hq => (hE w1 hq).mono fun v' w2 he => jno_q (he.1 g0))
  refine L_ok h (hC.mono fun v w1 hc => ?_)
  obtain ⟨h1, rfl⟩ := hc.2 g0
  exact ⟨_, ⟨h1, cq_0⟩, (hE _ cnb_0).mono fun v' w2 he => ⟨_, ⟨(he.2 g0).1, by rw [(he.2 g0).2]; exact mq_0⟩, fun _ => rfl⟩⟩
set_option maxHeartbeats 2000000 in
theorem T_value {g : Prop} {x m : Nat} {w : jS} (h : zRel g x m w) {i p : Int} (hri : r32 i) (hrp : r32 p) : jCall 105 [jO x, jI i, jI p] w (fun v w1 => w1.2 = w.2 ∧ jCall 171 [jO m, jI i, jI p] w1 (fun v' w2 => zAI (True) x m v v' w2)) := by
  have xm := h.xm
  obtain ⟨n, hQ, hn0, hRR⟩ := h.seed
  have hC := C_value (w := w) (x := x) h.cw hQ hn0 hRR hri hrp
  have hE := fun (w1 : jS) (hq : cnb w x w1) => E_value (w := w1) (m := m) (n := n) (zmb h hq) (by rw [zcb h hq (show m ≤ m + 1 by omega)]; exact hQ.1) hri hrp
  by_cases g0 : ¬ (0 ≤ i ∧ i < (n : Int))
  · exact L_no h (show 0 < 6 by decide) (hC.mono fun v w1 hc => cno_q (hc.1 g0)) (fun w1 hq => (hE w1 hq).mono fun v' w2 he => jno_q (he.1 g0))
  by_cases g1 : ¬ (0 ≤ p ∧ p ≤ 1)
  · exact L_no h (show 1 < 6 by decide) (hC.mono fun v w1 hc => cno_q (hc.2.1 g0 g1)) (fun w1 hq => (hE w1 hq).mono fun v' w2 he => jno_q (he.2.1 g0 g1))
  refine L_ok h (hC.mono fun v w1 hc => ?_)
  obtain ⟨h1, rfl⟩ := hc.2.2 g0 g1
  exact ⟨_, ⟨h1, cq_0⟩, (hE _ cnb_0).mono fun v' w2 he => ⟨_, ⟨(he.2.2 g0 g1).1, by rw [(he.2.2 g0 g1).2]; exact mq_0⟩, fun _ => rfl⟩⟩
set_option maxHeartbeats 2000000 in
theorem T_sinks {g : Prop} {x m : Nat} {w : jS} (h : zRel g x m w) {a : Int} (hra : r32 a) : jCall 111 [jO x, jI a] w (fun v w1 => w1.2 = w.2 ∧ jCall 185 [jO m, jI a] w1 (fun v' w2 => zAI (True) x m v v' w2)) := by
  have xm := h.xm
  obtain ⟨n, hQ, hn0, hRR⟩ := h.seed
  have hC := C_sinks (w := w) (x := x) h.cw hQ hn0 hRR hra
  have hE := fun (w1 : jS) (hq : cnb w x w1) => E_sinks (w := w1) (m := m) (n := n) (zmb h hq) (by rw [zcb h hq (show m ≤ m + 1 by omega)]; exact hQ.1) hra
  by_cases g0 : ¬ (0 ≤ a ∧ a ≤ 1)
  · exact L_no h (show 1 < 6 by decide) (hC.mono fun v w1 hc => cno_q (hc.1 g0)) (fun w1 hq => (hE w1 hq).mono fun v' w2 he => jno_q (he.1 g0))
  refine L_ok h (hC.mono fun v w1 hc => ?_)
  obtain ⟨h1, rfl⟩ := hc.2 g0
  exact ⟨_, ⟨h1, cq_0⟩, (hE _ cnb_0).mono fun v' w2 he => ⟨_, ⟨(he.2 g0).1, by rw [(he.2 g0).2]; exact mq_0⟩, fun _ => rfl⟩⟩
set_option maxHeartbeats 2000000 in
theorem T_power {g : Prop} {x m : Nat} {w : jS} (h : zRel g x m w) {i j : Int} (hri : r32 i) (hrj : r32 j) : jCall 106 [jO x, jI i, jI j] w (fun v w1 => w1.2 = w.2 ∧ jCall 172 [jO m, jI i, jI j] w1 (fun v' w2 => zAI (g) x m v v' w2)) := by
  have xm := h.xm
  obtain ⟨n, hQ, hn0, hRR⟩ := h.seed
  have hC := C_power (w := w) (x := x) h.cw hQ hn0 hRR hri hrj
  have hE := fun (w1 : jS) (hq : cnb w x w1) => E_power (w := w1) (m := m) (n := n) (zmb h hq) (by rw [zcb h hq (show m ≤ m + 1 by omega)]; exact hQ.1) hri hrj
  by_cases g0 : ¬ (0 ≤ i ∧ i < (n : Int)) ∨ ¬ (0 ≤ j ∧ j < (n : Int))
  · exact L_no h (show 0 < 6 by decide) (hC.mono fun v w1 hc => cno_q (hc.1 g0)) (fun w1 hq => (hE w1 hq).mono fun v' w2 he => jno_q (he.1 g0))
  refine L_ok h (hC.mono fun v w1 hc => ?_)
  obtain ⟨rfl, y, h1, h2⟩ := hc.2 g0
  exact ⟨y, ⟨h1, cq_0⟩, (hE _ cnb_0).mono fun v' w2 he => ⟨_, ⟨(he.2 g0).1, by rw [(he.2 g0).2]; exact mq_0⟩, h2⟩⟩
set_option maxHeartbeats 2000000 in
theorem T_whole {g : Prop} {x m : Nat} {w : jS} (h : zRel g x m w) {G : (Nat → Int) → Prop} (hG : zG G) (hgq : g → G (w.1 (m + 1))) {i : Int} (hri : r32 i) : jCall 110 [jO x, jI i] w (fun v w1 => w1.2 = w.2 ∧ jCall 184 [jO m, jI i] w1 (fun v' w2 => zAI (g) x m v v' w2)) := by
  have xm := h.xm
  obtain ⟨n, hQ, hn0, hRR⟩ := h.seed
  have hC := C_whole (w := w) (x := x) h.cw hQ hn0 hRR hri
  have hE := fun (w1 : jS) (hq : cnb w x w1) => E_whole (w := w1) (m := m) (n := n) (zmb h hq) (by rw [zcb h hq (show m ≤ m + 1 by omega)]; exact hQ.1) (by rw [zcb h hq (show m ≤ m + 1 by omega)]; exact fun c hc => ⟨by have := (hQ.2.1 c hc).1; omega, (hQ.2.1 c hc).2⟩) hri
  by_cases g0 : ¬ (0 ≤ i ∧ i < (n : Int))
  · exact L_no h (show 0 < 6 by decide) (hC.mono fun v w1 hc => cno_q (hc.1 g0)) (fun w1 hq => (hE w1 hq).mono fun v' w2 he => jno_q (he.1 g0))
  refine L_ok h (hC.mono fun v w1 hc => ?_)
  obtain ⟨rfl, y, h1, h2, h3⟩ := hc.2 g0
  refine ⟨y, ⟨h1, cq_0⟩, (hE _ cnb_0).mono fun v' w2 he => ?_⟩
  obtain ⟨y2, e1, rfl, e2, e3⟩ := he.2 g0
  refine ⟨y2, ⟨e1, mq_0⟩, fun gg => ?_⟩
  have d := hG.2.2.2.2 _ _ hQ (hgq gg) i.toNat (by omega)
  rw [h3 d, e3 d]
set_option maxHeartbeats 2000000 in
theorem T_ring {g : Prop} {x m : Nat} {w : jS} (h : zRel g x m w) {i j : Int} (hri : r32 i) (hrj : r32 j) : jCall 112 [jO x, jI i, jI j] w (fun v w1 => w1.2 = w.2 ∧ jCall 187 [jO m, jI i, jI j] w1 (fun v' w2 => zAI (True) x m v v' w2)) := by
  have xm := h.xm
  obtain ⟨n, hQ, hn0, hRR⟩ := h.seed
  have hC := C_ring (w := w) (x := x) h.cw hQ hn0 hRR hri hrj
  have hE := fun (w1 : jS) (hq : cnb w x w1) => E_ring (w := w1) (m := m) (n := n) (zmb h hq) (by rw [zcb h hq (show m ≤ m + 1 by omega)]; exact hQ.1) hri hrj
  have ce : ∀ {w1 : jS}, cnb w x w1 → w1.1 (m + 1) = w.1 (m + 1) := fun hq => zcb h hq (by omega)
  by_cases g0 : ¬ (0 ≤ i ∧ i < (n : Int)) ∨ ¬ (0 ≤ j ∧ j < (n : Int)) ∨ i = j
  · exact L_no h (show 0 < 6 by decide) (hC.mono fun v w1 hc => cno_q (hc.1 g0)) (fun w1 hq => (hE w1 hq).mono fun v' w2 he => jno_q (he.1 g0))
  refine L_ok h (hC.mono fun v w1 hc => ?_)
  obtain ⟨h1, h2⟩ := hc.2 g0
  exact ⟨_, ⟨h1, h2⟩, (hE _ (cnb_q h2)).mono fun v' w2 he => ⟨_, he.2 g0, fun _ => by rw [ce (cnb_q h2)]⟩⟩
set_option maxHeartbeats 2000000 in
theorem T_fewest {g : Prop} {x m : Nat} {w : jS} (h : zRel g x m w) {G : (Nat → Int) → Prop} (hG : zG G) (hgq : g → G (w.1 (m + 1))) {a b i : Int} (hra : r32 a) (hrb : r32 b) (hri : r32 i) : jCall 114 [jO x, jI a, jI b, jI i] w (fun v w1 => w1.2 = w.2 ∧ jCall 194 [jO m, jI a, jI b, jI i] w1 (fun v' w2 => zAI (True) x m v v' w2)) := by
  have xm := h.xm
  obtain ⟨n, hQ, hn0, hRR⟩ := h.seed
  have hC := C_fewest (w := w) (x := x) h.cw hQ hn0 hRR hG hgq hra hrb hri
  have hE := fun (w1 : jS) (hq : cnb w x w1) => E_fewest (w := w1) (m := m) (n := n) (zmb h hq) (by rw [zcb h hq (show m ≤ m + 1 by omega)]; exact hQ) hra hrb hri
  have ce : ∀ {w1 : jS}, cnb w x w1 → w1.1 (m + 1) = w.1 (m + 1) := fun hq => zcb h hq (by omega)
  by_cases g0 : a < 0 ∨ b < 1 ∨ i < -1
  · exact L_no h (show 3 < 6 by decide) (hC.mono fun v w1 hc => cno_q (hc.1 g0)) (fun w1 hq => (hE w1 hq).mono fun v' w2 he => jno_q (he.1 g0))
  refine L_ok h (hC.mono fun v w1 hc => ?_)
  obtain ⟨h1, h2⟩ := hc.2 g0
  exact ⟨_, ⟨h1, h2⟩, (hE _ (cnb_q h2)).mono fun v' w2 he => ⟨_, he.2 g0, fun _ => by rw [ce (cnb_q h2)]⟩⟩
set_option maxHeartbeats 2000000 in
theorem T_reached {g : Prop} {x m : Nat} {w : jS} (h : zRel g x m w) {G : (Nat → Int) → Prop} (hG : zG G) (hgq : g → G (w.1 (m + 1))) {d a : Int} (hrd : r32 d) (hra : r32 a) : jCall 113 [jO x, jI d, jI a] w (fun v w1 => w1.2 = w.2 ∧ jCall 192 [jO m, jI d, jI a] w1 (fun v' w2 => zAI (a ≤ 1 ∨ g) x m v v' w2)) := by
  have xm := h.xm
  obtain ⟨n, hQ, hn0, hRR⟩ := h.seed
  have hC := C_reached (w := w) (x := x) h.cw hQ hn0 hRR hG hgq hrd hra
  have hE := fun (w1 : jS) (hq : cnb w x w1) => E_reached (w := w1) (m := m) (n := n) (zmb h hq) (by rw [zcb h hq (show m ≤ m + 1 by omega)]; exact hQ) hrd hra
  have ce : ∀ {w1 : jS}, cnb w x w1 → w1.1 (m + 1) = w.1 (m + 1) := fun hq => zcb h hq (by omega)
  by_cases g0 : d < 0
  · exact L_no h (show 3 < 6 by decide) (hC.mono fun v w1 hc => cno_q (hc.1 g0)) (fun w1 hq => (hE w1 hq).mono fun v' w2 he => jno_q (he.1 g0))
  by_cases g1 : 4 < d
  · exact L_no h (show 5 < 6 by decide) (hC.mono fun v w1 hc => cno_q (hc.2.1 g0 g1)) (fun w1 hq => (hE w1 hq).mono fun v' w2 he => jno_q (he.2.1 g0 g1))
  by_cases g2 : ¬ (0 ≤ a ∧ a ≤ 3)
  · exact L_no h (show 1 < 6 by decide) (hC.mono fun v w1 hc => cno_q (hc.2.2.1 g0 g1 g2)) (fun w1 hq => (hE w1 hq).mono fun v' w2 he => jno_q (he.2.2.1 g0 g1 g2))
  refine L_ok h (hC.mono fun v w1 hc => ?_)
  obtain ⟨h2, c0, c1, c2, c3⟩ := hc.2.2.2 g0 g1 g2
  have key : ∀ o i, o < (zBF n d.toNat (w.1 (m + 1))).length → i < n → g → (zL (zBF n d.toNat (w.1 (m + 1))) o).1 (25 + i) = 1 := fun o i ho hi gg => by
    have hp := zBF_P (P := fun q => zQ q n ∧ G q) (n := n) (d := d.toNat) (fun q k hq hk hc => ⟨zQ_x hq.1 (by have := hQ.1.2.2.1; omega) hc, hG.2.1 _ _ _ hq.1 hk hc hq.2⟩) ⟨hQ, hgq gg⟩ o ho
    exact hG.2.2.2.2 _ _ hp.1 hp.2 i hi
  have hE2 := hE _ (cnb_q h2)
  rw [ce (cnb_q h2)] at hE2
  rcases (show a = 0 ∨ a = 1 ∨ a = 2 ∨ a = 3 by omega) with e | e | e | e
  · exact ⟨_, ⟨c0 e, h2⟩, hE2.mono fun v' w2 he => ⟨_, ⟨(he.2.2.2 g0 g1 g2).2.1 e, (he.2.2.2 g0 g1 g2).1⟩, fun _ => rfl⟩⟩
  · exact ⟨_, ⟨c1 e, h2⟩, hE2.mono fun v' w2 he => ⟨_, ⟨(he.2.2.2 g0 g1 g2).2.2.1 e, (he.2.2.2 g0 g1 g2).1⟩, fun _ => rfl⟩⟩
  · obtain ⟨y, d1, d2⟩ := c2 e
    exact ⟨y, ⟨d1, h2⟩, hE2.mono fun v' w2 he => ⟨_, ⟨(he.2.2.2 g0 g1 g2).2.2.2.1 e, (he.2.2.2 g0 g1 g2).1⟩, fun q => d2 (q.resolve_left (by omega))⟩⟩
  · obtain ⟨y, d1, d2⟩ := c3 e
    refine ⟨y, ⟨d1, h2⟩, hE2.mono fun v' w2 he => ?_⟩
    obtain ⟨y2, d3, d4⟩ := (he.2.2.2 g0 g1 g2).2.2.2.2 e
    refine ⟨y2, ⟨d3, (he.2.2.2 g0 g1 g2).1⟩, fun q => ?_⟩
    have gg := q.resolve_left (by omega)
    rw [d2 (fun o i ho hi => key o i ho hi gg), d4 (fun o i ho hi => key o i ho hi gg)]
set_option maxHeartbeats 2000000 in
theorem T_lots {g : Prop} {x m : Nat} {w : jS} (h : zRel g x m w) {G : (Nat → Int) → Prop} (hG : zG G) (hgq : g → G (w.1 (m + 1))) {N z a : Int} (hrN : r32 N) (hra : r32 a) : jCall 115 [jO x, jI N, jI z, jI a] w (fun v w1 => w1.2 = w.2 ∧ jCall 196 [jO m, jI N, jI z, jI a] w1 (fun v' w2 => zAI (a = 0 ∨ g) x m v v' w2)) := by
  have xm := h.xm
  obtain ⟨n, hQ, hn0, hRR⟩ := h.seed
  have hC := C_lots (w := w) (x := x) h.cw hQ hn0 hRR hG hgq (z := z) hrN hra
  have hE := fun (w1 : jS) (hq : cnb w x w1) => E_lots (w := w1) (m := m) (n := n) (zmb h hq) (by rw [zcb h hq (show m ≤ m + 1 by omega)]; exact hQ.1) (z := z) hrN hra
  have ce : ∀ {w1 : jS}, cnb w x w1 → w1.1 (m + 1) = w.1 (m + 1) := fun hq => zcb h hq (by omega)
  by_cases g0 : N < 1
  · exact L_no h (show 3 < 6 by decide) (hC.mono fun v w1 hc => cno_q (hc.1 g0)) (fun w1 hq => (hE w1 hq).mono fun v' w2 he => jno_q (he.1 g0))
  by_cases g1 : 30 < N
  · exact L_no h (show 5 < 6 by decide) (hC.mono fun v w1 hc => cno_q (hc.2.1 g0 g1)) (fun w1 hq => (hE w1 hq).mono fun v' w2 he => jno_q (he.2.1 g0 g1))
  by_cases g2 : ¬ (0 ≤ a ∧ a ≤ 1)
  · exact L_no h (show 1 < 6 by decide) (hC.mono fun v w1 hc => cno_q (hc.2.2.1 g0 g1 g2)) (fun w1 hq => (hE w1 hq).mono fun v' w2 he => jno_q (he.2.2.1 g0 g1 g2))
  refine L_ok h (hC.mono fun v w1 hc => ?_)
  obtain ⟨h2, c0, c1⟩ := hc.2.2.2 g0 g1 g2
  have hE2 := hE _ (cnb_q h2)
  rw [ce (cnb_q h2)] at hE2
  rcases (show a = 0 ∨ a = 1 by omega) with e | e
  · exact ⟨_, ⟨c0 e, h2⟩, hE2.mono fun v' w2 he => ⟨_, (he.2.2.2 g0 g1 g2).1 e, fun _ => rfl⟩⟩
  · obtain ⟨y, d1, d2⟩ := c1 e
    exact ⟨y, ⟨d1, h2⟩, hE2.mono fun v' w2 he => ⟨_, (he.2.2.2 g0 g1 g2).2 e, fun q => d2 (q.resolve_left (by omega))⟩⟩
set_option maxHeartbeats 2000000 in
theorem T_count {g : Prop} {x m : Nat} {w : jS} (h : zRel g x m w) {G : (Nat → Int) → Prop} (hG : zG G) (hgq : g → G (w.1 (m + 1))) {b : Int} (hrb : r32 b) : jCall 127 [jO x, jI b] w (fun v w1 => w1.2 = w.2 ∧ jCall 219 [jO m, jI b] w1 (fun v' w2 => zAI (b ≠ 5 ∨ g) x m v v' w2)) := by
  have xm := h.xm
  obtain ⟨n, hQ, hn0, hRR⟩ := h.seed
  obtain ⟨c, hR, hRW⟩ := h.rows
  obtain ⟨F, hF72, hFm, hFx, -⟩ := h.text
  obtain ⟨u, hu8, hum, hux, -⟩ := h.past
  have hC := C_count (w := w) (x := x) h.cw hQ hn0 hRR hG hgq hRW.1 hFx hux hrb
  have hE := fun (w1 : jS) (hq : cnb w x w1) => E_count (w := w1) (m := m) (n := n) (zmb h hq) (by rw [zcb h hq (show m ≤ m + 1 by omega)]; exact hQ.1) hrb
  refine L_ok h (hC.mono fun v w1 hc => ?_)
  obtain ⟨rfl, c0, c1, c2, c3, c4, c5, c6, c7⟩ := hc
  have hE2 := hE _ cnb_0
  rcases (show b = 0 ∨ b = 1 ∨ b = 2 ∨ b = 3 ∨ b = 4 ∨ b = 5 ∨ (11 ≤ b ∧ b ≤ 16) ∨ (b < 0 ∨ (5 < b ∧ b < 11) ∨ 16 < b) by omega) with e | e | e | e | e | e | e | e
  · exact ⟨_, ⟨c0 e, cq_0⟩, hE2.mono fun v' w2 he => ⟨_, ⟨(he.1 e).1, by rw [(he.1 e).2]; exact mq_0⟩, fun _ => hR.1.symm⟩⟩
  · exact ⟨_, ⟨c1 e, cq_0⟩, hE2.mono fun v' w2 he => ⟨_, ⟨(he.2.1 e).1, by rw [(he.2.1 e).2]; exact mq_0⟩, fun _ => rfl⟩⟩
  · exact ⟨_, ⟨c2 e, cq_0⟩, hE2.mono fun v' w2 he => ⟨_, ⟨(he.2.2.1 e).1, by rw [(he.2.2.1 e).2]; exact mq_0⟩, fun _ => hFm.symm⟩⟩
  · exact ⟨_, ⟨c3 e, cq_0⟩, hE2.mono fun v' w2 he => ⟨_, ⟨(he.2.2.2.1 e).1, by rw [(he.2.2.2.1 e).2]; exact mq_0⟩, fun _ => hum.symm⟩⟩
  · exact ⟨_, ⟨c4 e, cq_0⟩, hE2.mono fun v' w2 he => ⟨_, ⟨(he.2.2.2.2.1 e).1, by rw [(he.2.2.2.2.1 e).2]; exact mq_0⟩, fun _ => rfl⟩⟩
  · obtain ⟨y, d1, d2⟩ := c5 e
    exact ⟨y, ⟨d1, cq_0⟩, hE2.mono fun v' w2 he => ⟨_, ⟨(he.2.2.2.2.2.1 e).1, by rw [(he.2.2.2.2.2.1 e).2]; exact mq_0⟩, fun q => d2 (q.resolve_left (fun z => z e))⟩⟩
  · exact ⟨_, ⟨c6 e, cq_0⟩, hE2.mono fun v' w2 he => ⟨_, ⟨(he.2.2.2.2.2.2.1 e).1, by rw [(he.2.2.2.2.2.2.1 e).2]; exact mq_0⟩, fun _ => by rw [show (b - 10).toNat = (b - 11).toNat + 1 by omega]; exact h.refs _ (by omega)⟩⟩
  · exact ⟨_, ⟨c7 e, cq_0⟩, hE2.mono fun v' w2 he => ⟨_, ⟨(he.2.2.2.2.2.2.2 e).1, by rw [(he.2.2.2.2.2.2.2 e).2]; exact mq_0⟩, fun _ => rfl⟩⟩
set_option maxHeartbeats 2000000 in
theorem T_of {g : Prop} {x m : Nat} {w : jS} (h : zRel g x m w) {a b : Int} (hra : r32 a) (hrb : r32 b) : jCall 94 [jO x, jI a, jI b] w (fun v w1 => w1.2 = w.2 ∧ jCall 150 [jO m, jI a, jI b] w1 (fun v' w2 => zAI (True) x m v v' w2)) := by
  have xm := h.xm
  obtain ⟨c, hR, hRW⟩ := h.rows
  have hC := C_of (w := w) (x := x) h.cw hR hRW h.ok hra hrb
  have hE := fun (w1 : jS) (hq : cnb w x w1) => E_of (w := w1) (m := m) (c := c) (zmb h hq) (by rw [zcb h hq (show m ≤ m + 2 by omega)]; exact hR) hra hrb
  by_cases g0 : ¬ (0 ≤ a ∧ a < (c : Int))
  · exact L_no h (show 0 < 6 by decide) (hC.mono fun v w1 hc => cno_q (hc.1 g0)) (fun w1 hq => (hE w1 hq).mono fun v' w2 he => jno_q (he.1 g0))
  by_cases g1 : ¬ (0 ≤ b ∧ b ≤ 6)
  · exact L_no h (show 1 < 6 by decide) (hC.mono fun v w1 hc => cno_q (hc.2.1 g0 g1)) (fun w1 hq => (hE w1 hq).mono fun v' w2 he => jno_q (he.2.1 g0 g1))
  refine L_ok h (hC.mono fun v w1 hc => ?_)
  obtain ⟨t, len, why, left, hT, rfl, c0, c1, c2, c3, c4, c5, c6⟩ := hc.2.2 g0 g1
  have key : ∀ y, v = some (jI y) → (∀ (t' : Nat → Int) (len' : Nat) (why' left' : Int) (v' : Option jV), zTR (w1.1 (m + 2)) a.toNat t' len' why' left' → len = len' ∧ why = why' ∧ left = left' ∧ (∀ j, j < len → t j = t' j) → (b = 0 → v' = some (jI (w1.1 (m + 2) (1 + 10 * a.toNat)))) ∧ (b = 1 → v' = some (jI (w1.1 (m + 2) (2 + 10 * a.toNat)))) ∧ (b = 2 → v' = some (jI (zO (w1.1 (m + 2) (1 + 10 * a.toNat))))) ∧ (b = 3 → v' = some (jI ((len' : Int)))) ∧ (b = 4 → v' = some (jI why')) ∧ (b = 5 → v' = some (jI left')) ∧ (b = 6 → v' = some (jI (zff (fun k => t' k < 1) len' 0))) → v' = some (jI y)) → ∃ y, (v = some (jI y) ∧ cq w1 x w1) ∧ jCall 150 [jO m, jI a, jI b] w1 (fun v' w2 => ∃ y', (v' = some (jI y') ∧ mq w1 m w2) ∧ (True → y = y')) := fun y hv hk => by
    refine ⟨y, ⟨hv, cq_0⟩, (hE _ cnb_0).mono fun v' w2 he => ?_⟩
    obtain ⟨t2, len2, why2, left2, hT2, d0, d1, d2, d3, d4, d5, d6, hm⟩ := he.2.2 g0 g1
    exact ⟨y, ⟨hk t2 len2 why2 left2 v' hT2 (zTR_u hR (by omega) hT hT2) ⟨d0, d1, d2, d3, d4, d5, d6⟩, hm⟩, fun _ => rfl⟩
  rcases (show b = 0 ∨ b = 1 ∨ b = 2 ∨ b = 3 ∨ b = 4 ∨ b = 5 ∨ b = 6 by omega) with e | e | e | e | e | e | e
  · exact key _ (c0 e) (fun t2 len2 why2 left2 v' hT2 hu d => d.1 e)
  · exact key _ (c1 e) (fun t2 len2 why2 left2 v' hT2 hu d => d.2.1 e)
  · exact key _ (c2 e) (fun t2 len2 why2 left2 v' hT2 hu d => d.2.2.1 e)
  · exact key _ (c3 e) (fun t2 len2 why2 left2 v' hT2 hu d => by rw [d.2.2.2.1 e, hu.1])
  · exact key _ (c4 e) (fun t2 len2 why2 left2 v' hT2 hu d => by rw [d.2.2.2.2.1 e, hu.2.1])
  · exact key _ (c5 e) (fun t2 len2 why2 left2 v' hT2 hu d => by rw [d.2.2.2.2.2.1 e, hu.2.2.1])
  · refine key _ (c6 e) (fun t2 len2 why2 left2 v' hT2 hu d => ?_)
    obtain ⟨rfl, -, -, ht⟩ := hu
    rw [d.2.2.2.2.2.2 e]
    exact congrArg (fun z => some (jI z)) (zff_c len 0 (fun i h1 h2 => by rw [ht i (by omega)]))
set_option maxHeartbeats 2000000 in
theorem T_term {g : Prop} {x m : Nat} {w : jS} (h : zRel g x m w) {a n : Int} (hra : r32 a) (hrn : r32 n) : jCall 95 [jO x, jI a, jI n] w (fun v w1 => w1.2 = w.2 ∧ jCall 151 [jO m, jI a, jI n] w1 (fun v' w2 => zAI (True) x m v v' w2)) := by
  have xm := h.xm
  obtain ⟨c, hR, hRW⟩ := h.rows
  have hC := C_term (w := w) (x := x) h.cw hR hRW hra hrn
  have hE := fun (w1 : jS) (hq : cnb w x w1) => E_term (w := w1) (m := m) (c := c) (zmb h hq) (by rw [zcb h hq (show m ≤ m + 2 by omega)]; exact hR) hra hrn
  have ce : ∀ {w1 : jS}, cnb w x w1 → w1.1 (m + 2) = w.1 (m + 2) := fun hq => zcb h hq (by omega)
  by_cases g0 : ¬ (0 ≤ a ∧ a < (c : Int))
  · exact L_no h (show 0 < 6 by decide) (hC.mono fun v w1 hc => cno_q (hc.1 g0)) (fun w1 hq => (hE w1 hq).mono fun v' w2 he => jno_q (he.1 g0))
  by_cases g1 : n < 0
  · exact L_no h (show 3 < 6 by decide) (hC.mono fun v w1 hc => cno_q (hc.2.1 g0 g1)) (fun w1 hq => (hE w1 hq).mono fun v' w2 he => jno_q (he.2.1 g0 g1))
  refine hC.mono fun v w1 hc => ?_
  obtain ⟨t, len, why, left, hT, hv⟩ := hc.2.2 g0 g1
  rcases hv with ⟨hl, hv, rfl⟩ | ⟨hl, hv⟩
  · refine ⟨rfl, (hE _ cnb_0).mono fun v' w2 he => ?_⟩
    obtain ⟨t2, len2, why2, left2, hT2, he⟩ := he.2.2 g0 g1
    obtain ⟨rfl, -, -, ht⟩ := zTR_u hR (by omega) hT hT2
    rcases he with ⟨_, e1, e2⟩ | ⟨e0, -⟩
    · exact ⟨⟨_, _, hv, e1, fun _ => ht _ hl⟩, zRel_F (zRel_q h cq_0 e2)⟩
    · exact absurd hl e0
  · have hb := cnq_b (cno_q hv)
    refine ⟨hb.1, (hE _ hb).mono fun v' w2 he => ?_⟩
    rw [ce hb] at he
    obtain ⟨t2, len2, why2, left2, hT2, he⟩ := he.2.2 g0 g1
    obtain ⟨rfl, -, -, ht⟩ := zTR_u hR (by omega) hT hT2
    rcases he with ⟨e0, e1, e2⟩ | ⟨_, e2⟩
    · exact absurd e0 hl
    · exact ⟨⟨_, _, hv.1, e2.1, fun _ => rfl⟩, zRel_no h (by decide) (cno_q hv) e2⟩
set_option maxHeartbeats 2000000 in
theorem T_kept {g : Prop} {x m : Nat} {w : jS} (h : zRel g x m w) {a n b : Int} (hra : r32 a) (hrn : r32 n) (hrb : r32 b) : jCall 96 [jO x, jI a, jI n, jI b] w (fun v w1 => w1.2 = w.2 ∧ jCall 154 [jO m, jI a, jI n, jI b] w1 (fun v' w2 => zAJ (True) x m v v' w2)) := by
  have xm := h.xm
  obtain ⟨c, hR, hRW⟩ := h.rows
  have hC := C_kept (w := w) (x := x) h.cw hR hRW hra hrn hrb
  have hE := fun (w1 : jS) (hq : cnb w x w1) => E_kept (w := w1) (m := m) (c := c) (zmb h hq) (by rw [zcb h hq (show m ≤ m + 2 by omega)]; exact hR) hra hrn hrb
  have ce : ∀ {w1 : jS}, cnb w x w1 → w1.1 (m + 2) = w.1 (m + 2) := fun hq => zcb h hq (by omega)
  by_cases g0 : ¬ (0 ≤ a ∧ a < (c : Int))
  · exact L_noJ h (show 0 < 6 by decide) (hC.mono fun v w1 hc => cno_q (hc.1 g0)) (fun w1 hq => (hE w1 hq).mono fun v' w2 he => jno_q (he.1 g0))
  by_cases g1 : ¬ (0 ≤ b ∧ b ≤ 1)
  · exact L_noJ h (show 1 < 6 by decide) (hC.mono fun v w1 hc => cno_q (hc.2.1 g0 g1)) (fun w1 hq => (hE w1 hq).mono fun v' w2 he => jno_q (he.2.1 g0 g1))
  by_cases g2 : n < 0
  · exact L_noJ h (show 3 < 6 by decide) (hC.mono fun v w1 hc => cno_q (hc.2.2.1 g0 g1 g2)) (fun w1 hq => (hE w1 hq).mono fun v' w2 he => jno_q (he.2.2.1 g0 g1 g2))
  refine hC.mono fun v w1 hc => ?_
  obtain ⟨t, len, why, left, hT, hv⟩ := hc.2.2.2 g0 g1 g2
  rcases hv with ⟨hl, hv, hq⟩ | ⟨hl, hv⟩
  · refine ⟨hq.1, (hE _ (cnb_q hq)).mono fun v' w2 he => ?_⟩
    rw [ce (cnb_q hq)] at he
    obtain ⟨t2, len2, why2, left2, hT2, he⟩ := he.2.2.2 g0 g1 g2
    obtain ⟨rfl, -, -, ht⟩ := zTR_u hR (by omega) hT hT2
    rcases he with ⟨_, e1, e2⟩ | ⟨e0, -⟩
    · refine ⟨⟨_, _, hv, e1, fun _ => ?_⟩, zRel_F (zRel_q h hq e2)⟩
      rw [(zk_c ht hl).1, (zk_c (f := 0) ht hl).2]
    · exact absurd ((zkp_c ht _).mp hl) e0
  · have hb := cnq_b (cno_q hv)
    refine ⟨hb.1, (hE _ hb).mono fun v' w2 he => ?_⟩
    rw [ce hb] at he
    obtain ⟨t2, len2, why2, left2, hT2, he⟩ := he.2.2.2 g0 g1 g2
    obtain ⟨rfl, -, -, ht⟩ := zTR_u hR (by omega) hT hT2
    rcases he with ⟨e0, e1, e2⟩ | ⟨_, e2⟩
    · exact absurd ((zkp_c ht _).mpr e0) hl
    · exact ⟨⟨_, _, hv.1, e2.1, fun _ => rfl⟩, zRel_no h (by decide) (cno_q hv) e2⟩
set_option maxHeartbeats 2000000 in
theorem T_stays {g : Prop} {x m : Nat} {w : jS} (h : zRel g x m w) {a : Int} (hra : r32 a) : jCall 97 [jO x, jI a] w (fun v w1 => w1.2 = w.2 ∧ jCall 155 [jO m, jI a] w1 (fun v' w2 => zAI (True) x m v v' w2)) := by
  have xm := h.xm
  obtain ⟨c, hR, hRW⟩ := h.rows
  have hC := C_stays (w := w) (x := x) h.cw hR hRW hra
  have hE := fun (w1 : jS) (hq : cnb w x w1) => E_stays (w := w1) (m := m) (c := c) (zmb h hq) (by rw [zcb h hq (show m ≤ m + 2 by omega)]; exact hR) hra
  have ce : ∀ {w1 : jS}, cnb w x w1 → w1.1 (m + 2) = w.1 (m + 2) := fun hq => zcb h hq (by omega)
  by_cases g0 : ¬ (0 ≤ a ∧ a < (c : Int))
  · exact L_no h (show 0 < 6 by decide) (hC.mono fun v w1 hc => cno_q (hc.1 g0)) (fun w1 hq => (hE w1 hq).mono fun v' w2 he => jno_q (he.1 g0))
  refine hC.mono fun v w1 hc => ?_
  obtain ⟨t, len, why, left, hT, hv⟩ := hc.2 g0
  rcases hv with ⟨hl, hv, hq⟩ | ⟨hl, hv⟩
  · refine ⟨hq.1, (hE _ (cnb_q hq)).mono fun v' w2 he => ?_⟩
    rw [ce (cnb_q hq)] at he
    obtain ⟨t2, len2, why2, left2, hT2, he⟩ := he.2 g0
    obtain ⟨rfl, -, -, ht⟩ := zTR_u hR (by omega) hT hT2
    rcases he with ⟨_, e1, e2⟩ | ⟨e0, -⟩
    · refine ⟨⟨_, _, hv, e1, fun _ => ?_⟩, zRel_F (zRel_q h hq e2)⟩
      refine zfs_c 59 1 (fun i _ => ⟨zkp_c ht i, fun hk => ?_⟩)
      rw [(zk_c ht hk).1, (zk_c (f := 0) ht hk).2, (zk_c ht hl).1, (zk_c (f := 0) ht hl).2]
    · exact absurd ((zkp_c ht _).mp hl) e0
  · have hb := cnq_b (cno_q hv)
    refine ⟨hb.1, (hE _ hb).mono fun v' w2 he => ?_⟩
    rw [ce hb] at he
    obtain ⟨t2, len2, why2, left2, hT2, he⟩ := he.2 g0
    obtain ⟨rfl, -, -, ht⟩ := zTR_u hR (by omega) hT hT2
    rcases he with ⟨e0, e1, e2⟩ | ⟨_, e2⟩
    · exact absurd ((zkp_c ht _).mpr e0) hl
    · exact ⟨⟨_, _, hv.1, e2.1, fun _ => rfl⟩, zRel_no h (by decide) (cno_q hv) e2⟩
set_option maxHeartbeats 2000000 in
theorem T_common {g : Prop} {x m : Nat} {w : jS} (h : zRel g x m w) {a : Int} (hra : r32 a) : jCall 98 [jO x, jI a] w (fun v w1 => w1.2 = w.2 ∧ jCall 156 [jO m, jI a] w1 (fun v' w2 => zAI (True) x m v v' w2)) := by
  have xm := h.xm
  obtain ⟨c, hR, hRW⟩ := h.rows
  have hC := C_common (w := w) (x := x) h.cw hR hRW hra
  have hE := fun (w1 : jS) (hq : cnb w x w1) => E_common (w := w1) (m := m) (c := c) (zmb h hq) (by rw [zcb h hq (show m ≤ m + 2 by omega)]; exact hR) hra
  by_cases g0 : ¬ (0 ≤ a ∧ a < (c : Int))
  · exact L_no h (show 0 < 6 by decide) (hC.mono fun v w1 hc => cno_q (hc.1 g0)) (fun w1 hq => (hE w1 hq).mono fun v' w2 he => jno_q (he.1 g0))
  refine L_ok h (hC.mono fun v w1 hc => ?_)
  obtain ⟨t, len, why, left, hT, hv, rfl⟩ := hc.2 g0
  refine ⟨_, ⟨hv, cq_0⟩, (hE _ cnb_0).mono fun v' w2 he => ?_⟩
  obtain ⟨t2, len2, why2, left2, hT2, e1, e2⟩ := he.2 g0
  obtain ⟨rfl, -, -, ht⟩ := zTR_u hR (by omega) hT hT2
  exact ⟨_, ⟨e1, e2⟩, fun _ => zff_c (len - 1) 0 (fun i h1 h2 => by rw [ht i (by omega), ht (i + 1) (by omega)])⟩
set_option maxHeartbeats 2000000 in
theorem T_divided {g : Prop} {x m : Nat} {w : jS} (h : zRel g x m w) {a d : Int} (hra : r32 a) (hrd : r32 d) : jCall 99 [jO x, jI a, jI d] w (fun v w1 => w1.2 = w.2 ∧ jCall 157 [jO m, jI a, jI d] w1 (fun v' w2 => zAI (True) x m v v' w2)) := by
  have xm := h.xm
  obtain ⟨c, hR, hRW⟩ := h.rows
  have hC := C_divided (w := w) (x := x) h.cw hR hRW hra hrd
  have hE := fun (w1 : jS) (hq : cnb w x w1) => E_divided (w := w1) (m := m) (c := c) (zmb h hq) (by rw [zcb h hq (show m ≤ m + 2 by omega)]; exact hR) hra hrd
  by_cases g0 : ¬ (0 ≤ a ∧ a < (c : Int))
  · exact L_no h (show 0 < 6 by decide) (hC.mono fun v w1 hc => cno_q (hc.1 g0)) (fun w1 hq => (hE w1 hq).mono fun v' w2 he => jno_q (he.1 g0))
  by_cases g1 : d < 2
  · exact L_no h (show 3 < 6 by decide) (hC.mono fun v w1 hc => cno_q (hc.2.1 g0 g1)) (fun w1 hq => (hE w1 hq).mono fun v' w2 he => jno_q (he.2.1 g0 g1))
  by_cases g2 : 9999 < d
  · exact L_no h (show 5 < 6 by decide) (hC.mono fun v w1 hc => cno_q (hc.2.2.1 g0 g1 g2)) (fun w1 hq => (hE w1 hq).mono fun v' w2 he => jno_q (he.2.2.1 g0 g1 g2))
  refine L_ok h (hC.mono fun v w1 hc => ?_)
  obtain ⟨t, len, why, left, hT, hv, rfl⟩ := hc.2.2.2 g0 g1 g2
  refine ⟨_, ⟨hv, cq_0⟩, (hE _ cnb_0).mono fun v' w2 he => ?_⟩
  obtain ⟨t2, len2, why2, left2, hT2, e1, e2⟩ := he.2.2.2 g0 g1 g2
  obtain ⟨rfl, -, -, ht⟩ := zTR_u hR (by omega) hT hT2
  exact ⟨_, ⟨e1, e2⟩, fun _ => zff_c len 0 (fun i h1 h2 => by rw [ht i (by omega)])⟩
set_option maxHeartbeats 2000000 in
theorem T_unlike {g : Prop} {x m : Nat} {w : jS} (h : zRel g x m w) {a b : Int} (hra : r32 a) (hrb : r32 b) : jCall 100 [jO x, jI a, jI b] w (fun v w1 => w1.2 = w.2 ∧ jCall 158 [jO m, jI a, jI b] w1 (fun v' w2 => zAI (True) x m v v' w2)) := by
  have xm := h.xm
  obtain ⟨c, hR, hRW⟩ := h.rows
  have hC := C_unlike (w := w) (x := x) h.cw hR hRW hra hrb
  have hE := fun (w1 : jS) (hq : cnb w x w1) => E_unlike (w := w1) (m := m) (c := c) (zmb h hq) (by rw [zcb h hq (show m ≤ m + 2 by omega)]; exact hR) hra hrb
  by_cases g0 : ¬ (0 ≤ a ∧ a < (c : Int)) ∨ ¬ (0 ≤ b ∧ b < (c : Int))
  · exact L_no h (show 0 < 6 by decide) (hC.mono fun v w1 hc => cno_q (hc.1 g0)) (fun w1 hq => (hE w1 hq).mono fun v' w2 he => jno_q (he.1 g0))
  refine L_ok h (hC.mono fun v w1 hc => ?_)
  obtain ⟨t, len, why, left, t', len', why', left', hT, hT', hv, rfl⟩ := hc.2 g0
  refine ⟨_, ⟨hv, cq_0⟩, (hE _ cnb_0).mono fun v' w2 he => ?_⟩
  obtain ⟨t2, len2, why2, left2, t2', len2', why2', left2', hT2, hT2', e1, e2⟩ := he.2 g0
  obtain ⟨rfl, -, -, ht⟩ := zTR_u hR (by omega) hT hT2
  obtain ⟨rfl, -, -, ht'⟩ := zTR_u hR (by omega) hT' hT2'
  refine ⟨_, ⟨e1, e2⟩, fun _ => zff_c 60 0 (fun i _ _ => ?_)⟩
  by_cases c1 : i < len
  · by_cases c2 : i < len'
    · rw [ht i c1, ht' i c2]
    · exact ⟨fun _ => Or.inl (fun z => c2 (z.mp c1)), fun _ => Or.inl (fun z => c2 (z.mp c1))⟩
  · by_cases c2 : i < len'
    · exact ⟨fun _ => Or.inl (fun z => c1 (z.mpr c2)), fun _ => Or.inl (fun z => c1 (z.mpr c2))⟩
    · exact ⟨fun z => z.imp id (fun y => absurd y.1 c1), fun z => z.imp id (fun y => absurd y.1 c1)⟩
