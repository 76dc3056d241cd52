/-! the lists: class and reference side by side -/
theorem zLL_u {w w3 : jS} {x m l : Nat} (h : zLL w x m) (hl : l < 3) (hb : ∀ b, x + 387 ≤ b → b < x + 393 → b ≠ x + (387 + 2 * l) → b ≠ x + (388 + 2 * l) → w3.1 b = w.1 b) (hs : ∀ y, y ≠ l → w3.1 (m + 423) y = w.1 (m + 423) y) (hm : ∀ b, m + 425 ≤ b → b < m + 428 → b ≠ m + (425 + l) → w3.1 b = w.1 b) (h1 : w3.1 (x + (387 + 2 * l)) 0 = w3.1 (m + 423) l) (h2 : -1 ≤ w3.1 (m + 423) l ∧ w3.1 (m + 423) l ≤ 40) (h3 : ∀ j, j < 40 → w3.1 (x + (388 + 2 * l)) j = w3.1 (m + (425 + l)) j ∧ r32 (w3.1 (m + (425 + l)) j)) : zLL w3 x m := by
  intro y hy
  by_cases e : y = l
  · subst e
    exact ⟨h1, h2, h3⟩
  · rw [hb (x + (387 + 2 * y)) (by omega) (by omega) (by omega) (by omega), hb (x + (388 + 2 * y)) (by omega) (by omega) (by omega) (by omega), hs y e, hm (m + (425 + y)) (by omega) (by omega) (by omega)]
    exact h y hy
theorem zRel_L {g : Prop} {x m : Nat} {w w3 : jS} (h : zRel g x m w) (e : w3.2 = w.2) (K : ∀ b, b < x + 387 → (b < x + 7 ∨ x + 339 ≤ b) → b ≠ x + 360 → b ≠ x + 361 → w3.1 b = w.1 b) (L : ∀ b, (b = m + 1 ∨ b = m + 2 ∨ b = m + 3 ∨ (m + 8 ≤ b ∧ b ≤ m + 15) ∨ b = m + 421 ∨ b = m + 428 ∨ b = m + 429) → w3.1 b = w.1 b) (e15 : w3.1 m 15 = w.1 m 15) (e24 : w3.1 m 24 = w.1 m 24) (e31 : w3.1 m 31 = w.1 m 31) (hl : zLL w3 x m) : zRel g x m w3 := by
  refine ⟨zWW_f h.ww e (fun b hb => K b (by omega) (by omega) (by omega) (by omega)), zRR_f h.rows (congrFun (K x (by omega) (by omega) (by omega) (by omega)) 1) (fun b _ _ _ => K b (by omega) (by omega) (by omega) (by omega)) (fun j _ => congrFun (L (m + 2) (by omega)) j), ?_, zPP_f h.past e15 (fun b _ _ => K b (by omega) (by omega) (by omega) (by omega)) (fun b _ _ => L b (by omega)), zII_f h.img e31 (congrFun (K x (by omega) (by omega) (by omega) (by omega)) 3) (fun b _ _ _ => K b (by omega) (by omega) (by omega) (by omega)) (fun b _ _ => K b (by omega) (by omega) (by omega) (by omega)) (fun b _ _ => L b (by omega)), hl, zTT_f h.text e24 (fun b _ _ => K b (by omega) (by omega) (by omega) (by omega)) (L _ (by omega)), zNN_f h.refs (K _ (by omega) (by omega) (by omega) (by omega)) (L _ (by omega))⟩
  rw [K (x + 3) (by omega) (by omega) (by omega) (by omega), K (x + 4) (by omega) (by omega) (by omega) (by omega), L (m + 1) (by omega)]
  exact h.seed
theorem zn_u {n n2 len : Nat} {i sz : Int} (a1 : n ≤ len) (a2 : i + (n : Int) ≤ sz) (a3 : n < len → i + (n : Int) = sz) (b1 : n2 ≤ len) (b2 : i + (n2 : Int) ≤ sz) (b3 : n2 < len → i + (n2 : Int) = sz) : n = n2 := by omega
theorem zsl_c {t t' : Nat → Int} {s : Nat} (e : ∀ j, j < s → t j = t' j) : zsl t s ↔ zsl t' s := by
  unfold zsl
  refine forall_congr' fun k => forall_congr' fun hk => ?_
  rw [e k hk]
theorem zPDt {law f : Int} {t t' : Nat → Int} {n : Nat} (e : ∀ j, j < n → t j = t' j) (h0 : 0 ≤ law) (h6 : law ≤ 6) (hn : (zO law).toNat ≤ n) : zP law f t n = zP law f t' n ∧ zD law t n = zD law t' n := by
  have e8 : law = 0 ∨ law = 1 ∨ law = 2 ∨ law = 3 ∨ law = 4 ∨ law = 5 ∨ law = 6 := by omega
  unfold zP zD
  rcases e8 with rfl | rfl | rfl | rfl | rfl | rfl | rfl
  · have q : 2 ≤ n := hn
    exact ⟨by simp only [if_pos]; rw [e (n - 1) (by omega), e (n - 2) (by omega)], by simp⟩
  · have q : 2 ≤ n := hn
    refine ⟨by simp; rw [e (n - 1) (by omega)], ?_⟩
    rw [if_neg (by decide), if_neg (by decide)]; exact e _ (by have : (zO 1).toNat = 2 := rfl; omega)
  · have q : 3 ≤ n := hn
    refine ⟨by simp; rw [e (n - 1) (by omega), e (n - 2) (by omega)], ?_⟩
    rw [if_neg (by decide), if_neg (by decide)]; exact e _ (by have : (zO 2).toNat = 3 := rfl; omega)
  · have q : 4 ≤ n := hn
    refine ⟨by simp; rw [e (n - 1) (by omega), e (n - 2) (by omega), e (n - 3) (by omega)], ?_⟩
    rw [if_neg (by decide), if_neg (by decide)]; exact e _ (by have : (zO 3).toNat = 4 := rfl; omega)
  · have q : 5 ≤ n := hn
    refine ⟨by simp; rw [e (n - 1) (by omega), e (n - 2) (by omega), e (n - 3) (by omega), e (n - 4) (by omega)], ?_⟩
    rw [if_neg (by decide), if_neg (by decide)]; exact e _ (by have : (zO 4).toNat = 5 := rfl; omega)
  · have q : 6 ≤ n := hn
    refine ⟨by simp; rw [e (n - 1) (by omega), e (n - 2) (by omega), e (n - 3) (by omega), e (n - 4) (by omega), e (n - 5) (by omega)], ?_⟩
    rw [if_neg (by decide), if_neg (by decide)]; exact e _ (by have : (zO 5).toNat = 6 := rfl; omega)
  · have q : 8 ≤ n := hn
    refine ⟨by simp; rw [e (n - 1) (by omega), e (n - 2) (by omega), e (n - 3) (by omega), e (n - 4) (by omega), e (n - 5) (by omega), e (n - 6) (by omega), e (n - 7) (by omega)], ?_⟩
    rw [if_neg (by decide), if_neg (by decide)]; exact e _ (by have : (zO 6).toNat = 8 := rfl; omega)
theorem zmd_c {law f : Int} {t t' : Nat → Int} {s : Nat} (e : ∀ j, j < s → t j = t' j) (h0 : 0 ≤ law) (h6 : law ≤ 6) : zmd law f t s ↔ zmd law f t' s := by
  unfold zmd
  refine forall_congr' fun n => forall_congr' fun hn => forall_congr' fun hs => ?_
  have h := zPDt (f := f) (fun j hj => e j (by omega)) h0 h6 hn
  rw [h.1, h.2, e n hs]
set_option maxHeartbeats 2000000 in
theorem T_laws {g : Prop} {x m : Nat} {w : jS} (h : zRel g x m w) {l f : Int} (hrl : r32 l) (hrf : r32 f) : jCall 117 [jO x, jI l, jI f] w (fun v w1 => w1.2 = w.2 ∧ jCall 210 [jO m, jI l, jI f] w1 (fun v' w2 => zAI (True) x m v v' w2)) := by
  have xm := h.xm
  have hz : ∀ y, y < 3 → -1 ≤ w.1 (x + (387 + 2 * y)) 0 ∧ w.1 (x + (387 + 2 * y)) 0 ≤ 40 := fun y hy => by rw [(h.lists y hy).1]; exact (h.lists y hy).2.1
  have hI : ∀ y, y < 3 → ∀ j, j < 40 → r32 (w.1 (x + (388 + 2 * y)) j) := fun y hy j hj => by rw [((h.lists y hy).2.2 j hj).1]; exact ((h.lists y hy).2.2 j hj).2
  have hz2 : ∀ {w1 : jS}, cnb w x w1 → ∀ y, y < 3 → -1 ≤ w1.1 (m + 423) y ∧ w1.1 (m + 423) y ≤ 40 := fun hq y hy => by rw [zcb h hq (by omega)]; exact (h.lists y hy).2.1
  have hI2 : ∀ {w1 : jS}, cnb w x w1 → ∀ y, y < 3 → ∀ j, j < 40 → r32 (w1.1 (m + (425 + y)) j) := fun hq y hy j hj => by rw [zcb h hq (by omega)]; exact ((h.lists y hy).2.2 j hj).2
  have ce : ∀ {w1 : jS}, cnb w x w1 → w1.1 (m + 423) = w.1 (m + 423) := fun hq => zcb h hq (by omega)
  have ci : ∀ {w1 : jS}, cnb w x w1 → ∀ y, w1.1 (m + (425 + y)) = w.1 (m + (425 + y)) := fun hq y => zcb h hq (by omega)
  have hC := C_laws (w := w) (x := x) h.cw hz hI h.ok hrl hrf
  have hE := fun (w1 : jS) (hq : cnb w x w1) => E_laws (w := w1) (m := m) (zmb h hq) (hz2 hq) (hI2 hq) hrl hrf
  by_cases g0 : ¬ (0 ≤ l ∧ l ≤ 2)
  · exact L_no h (show 0 < 6 by decide) (hC.mono fun v w1 hc => cno_q (hc.1 g0)) (fun w1 hq => (hE w1 hq).mono fun v' w2 he => by exact jno_q (he.1 g0))
  by_cases g1 : f < 0
  · exact L_no h (show 3 < 6 by decide) (hC.mono fun v w1 hc => cno_q (hc.2.1 g0 g1)) (fun w1 hq => (hE w1 hq).mono fun v' w2 he => by exact jno_q (he.2.1 g0 g1))
  by_cases g2 : 9 < f
  · exact L_no h (show 5 < 6 by decide) (hC.mono fun v w1 hc => cno_q (hc.2.2.1 g0 g1 g2)) (fun w1 hq => (hE w1 hq).mono fun v' w2 he => by exact jno_q (he.2.2.1 g0 g1 g2))
  have hs := (h.lists l.toNat (by omega)).1
  have ht := (h.lists l.toNat (by omega)).2.2
  have hz9 := hz l.toNat (by omega)
  by_cases g3 : (w.1 (x + (387 + 2 * l.toNat)) 0) < 0
  · refine L_ok h (hC.mono fun v w1 hc => ?_)
    obtain ⟨h1, rfl⟩ := hc.2.2.2.1 g0 g1 g2 g3
    exact ⟨_, ⟨h1, cq_0⟩, (hE _ cnb_0).mono fun v' w2 he => by rw [← hs] at he; exact ⟨_, ⟨(he.2.2.2.1 g0 g1 g2 g3).1, by rw [(he.2.2.2.1 g0 g1 g2 g3).2]; exact mq_0⟩, fun _ => rfl⟩⟩
  have hzs : zsl (w.1 (x + (388 + 2 * l.toNat))) (w.1 (x + (387 + 2 * l.toNat)) 0).toNat ↔ zsl (w.1 (m + (425 + l.toNat))) (w.1 (x + (387 + 2 * l.toNat)) 0).toNat := zsl_c (fun j hj => (ht j (by omega)).1)
  by_cases g4 : ¬ zsl (w.1 (x + (388 + 2 * l.toNat))) (w.1 (x + (387 + 2 * l.toNat)) 0).toNat
  · exact L_no h (show 2 < 6 by decide) (hC.mono fun v w1 hc => cno_q (hc.2.2.2.2.1 g0 g1 g2 g3 g4)) (fun w1 hq => (hE w1 hq).mono fun v' w2 he => by rw [ce hq, ci hq, ← hs] at he; rw [← hzs] at he; exact jno_q (he.2.2.2.2.1 g0 g1 g2 g3 g4))
  refine L_ok h (hC.mono fun v w1 hc => ?_)
  obtain ⟨h1, rfl⟩ := hc.2.2.2.2.2 g0 g1 g2 g3 g4
  refine ⟨_, ⟨h1, cq_0⟩, (hE _ cnb_0).mono fun v' w2 he => ?_⟩
  rw [← hs, ← hzs] at he
  exact ⟨_, ⟨(he.2.2.2.2.2 g0 g1 g2 g3 g4).1, by rw [(he.2.2.2.2.2 g0 g1 g2 g3 g4).2]; exact mq_0⟩, fun _ => zbt_c 7 (fun i hi => zmd_c (fun j hj => (ht j (by omega)).1) (by omega) (by omega))⟩
set_option maxHeartbeats 2000000 in
theorem T_figures {g : Prop} {x m : Nat} {w : jS} (h : zRel g x m w) {l a : Int} (hrl : r32 l) (hra : r32 a) : jCall 118 [jO x, jI l, jI a] w (fun v w1 => w1.2 = w.2 ∧ jCall 211 [jO m, jI l, jI a] w1 (fun v' w2 => zAI (True) x m v v' w2)) := by
  have xm := h.xm
  have hz : ∀ y, y < 3 → -1 ≤ w.1 (x + (387 + 2 * y)) 0 ∧ w.1 (x + (387 + 2 * y)) 0 ≤ 40 := fun y hy => by rw [(h.lists y hy).1]; exact (h.lists y hy).2.1
  have hI : ∀ y, y < 3 → ∀ j, j < 40 → r32 (w.1 (x + (388 + 2 * y)) j) := fun y hy j hj => by rw [((h.lists y hy).2.2 j hj).1]; exact ((h.lists y hy).2.2 j hj).2
  have hz2 : ∀ {w1 : jS}, cnb w x w1 → ∀ y, y < 3 → -1 ≤ w1.1 (m + 423) y ∧ w1.1 (m + 423) y ≤ 40 := fun hq y hy => by rw [zcb h hq (by omega)]; exact (h.lists y hy).2.1
  have hI2 : ∀ {w1 : jS}, cnb w x w1 → ∀ y, y < 3 → ∀ j, j < 40 → r32 (w1.1 (m + (425 + y)) j) := fun hq y hy j hj => by rw [zcb h hq (by omega)]; exact ((h.lists y hy).2.2 j hj).2
  have ce : ∀ {w1 : jS}, cnb w x w1 → w1.1 (m + 423) = w.1 (m + 423) := fun hq => zcb h hq (by omega)
  have ci : ∀ {w1 : jS}, cnb w x w1 → ∀ y, w1.1 (m + (425 + y)) = w.1 (m + (425 + y)) := fun hq y => zcb h hq (by omega)
  have hC := C_figures (w := w) (x := x) h.cw hz hI h.ok hrl hra
  have hE := fun (w1 : jS) (hq : cnb w x w1) => E_figures (w := w1) (m := m) (zmb h hq) (hz2 hq) (hI2 hq) hrl hra
  by_cases g0 : ¬ (0 ≤ l ∧ l ≤ 2)
  · exact L_no h (show 0 < 6 by decide) (hC.mono fun v w1 hc => cno_q (hc.1 g0)) (fun w1 hq => (hE w1 hq).mono fun v' w2 he => by exact jno_q (he.1 g0))
  by_cases g1 : ¬ (0 ≤ a ∧ a ≤ 6)
  · exact L_no h (show 1 < 6 by decide) (hC.mono fun v w1 hc => cno_q (hc.2.1 g0 g1)) (fun w1 hq => (hE w1 hq).mono fun v' w2 he => by exact jno_q (he.2.1 g0 g1))
  have hs := (h.lists l.toNat (by omega)).1
  have ht := (h.lists l.toNat (by omega)).2.2
  have hz9 := hz l.toNat (by omega)
  by_cases g2 : (w.1 (x + (387 + 2 * l.toNat)) 0) < 0
  · refine L_ok h (hC.mono fun v w1 hc => ?_)
    obtain ⟨h1, rfl⟩ := hc.2.2.1 g0 g1 g2
    exact ⟨_, ⟨h1, cq_0⟩, (hE _ cnb_0).mono fun v' w2 he => by rw [← hs] at he; exact ⟨_, ⟨(he.2.2.1 g0 g1 g2).1, by rw [(he.2.2.1 g0 g1 g2).2]; exact mq_0⟩, fun _ => rfl⟩⟩
  have hzs : zsl (w.1 (x + (388 + 2 * l.toNat))) (w.1 (x + (387 + 2 * l.toNat)) 0).toNat ↔ zsl (w.1 (m + (425 + l.toNat))) (w.1 (x + (387 + 2 * l.toNat)) 0).toNat := zsl_c (fun j hj => (ht j (by omega)).1)
  by_cases g3 : ¬ zsl (w.1 (x + (388 + 2 * l.toNat))) (w.1 (x + (387 + 2 * l.toNat)) 0).toNat
  · exact L_no h (show 2 < 6 by decide) (hC.mono fun v w1 hc => cno_q (hc.2.2.2.1 g0 g1 g2 g3)) (fun w1 hq => (hE w1 hq).mono fun v' w2 he => by rw [ce hq, ci hq, ← hs] at he; rw [← hzs] at he; exact jno_q (he.2.2.2.1 g0 g1 g2 g3))
  refine L_ok h (hC.mono fun v w1 hc => ?_)
  obtain ⟨h1, rfl⟩ := hc.2.2.2.2 g0 g1 g2 g3
  refine ⟨_, ⟨h1, cq_0⟩, (hE _ cnb_0).mono fun v' w2 he => ?_⟩
  rw [← hs, ← hzs] at he
  exact ⟨_, ⟨(he.2.2.2.2 g0 g1 g2 g3).1, by rw [(he.2.2.2.2 g0 g1 g2 g3).2]; exact mq_0⟩, fun _ => zbt_c 10 (fun i hi => zmd_c (fun j hj => (ht j (by omega)).1) (by omega) (by omega))⟩
set_option maxHeartbeats 2000000 in
theorem T_judge {g : Prop} {x m : Nat} {w : jS} (h : zRel g x m w) {l a : Int} (hrl : r32 l) (hra : r32 a) : jCall 119 [jO x, jI l, jI a] w (fun v w1 => w1.2 = w.2 ∧ jCall 212 [jO m, jI l, jI a] w1 (fun v' w2 => zAI (True) x m v v' w2)) := by
  have xm := h.xm
  have hz : ∀ y, y < 3 → -1 ≤ w.1 (x + (387 + 2 * y)) 0 ∧ w.1 (x + (387 + 2 * y)) 0 ≤ 40 := fun y hy => by rw [(h.lists y hy).1]; exact (h.lists y hy).2.1
  have hI : ∀ y, y < 3 → ∀ j, j < 40 → r32 (w.1 (x + (388 + 2 * y)) j) := fun y hy j hj => by rw [((h.lists y hy).2.2 j hj).1]; exact ((h.lists y hy).2.2 j hj).2
  have hz2 : ∀ {w1 : jS}, cnb w x w1 → ∀ y, y < 3 → -1 ≤ w1.1 (m + 423) y ∧ w1.1 (m + 423) y ≤ 40 := fun hq y hy => by rw [zcb h hq (by omega)]; exact (h.lists y hy).2.1
  have hI2 : ∀ {w1 : jS}, cnb w x w1 → ∀ y, y < 3 → ∀ j, j < 40 → r32 (w1.1 (m + (425 + y)) j) := fun hq y hy j hj => by rw [zcb h hq (by omega)]; exact ((h.lists y hy).2.2 j hj).2
  have ce : ∀ {w1 : jS}, cnb w x w1 → w1.1 (m + 423) = w.1 (m + 423) := fun hq => zcb h hq (by omega)
  have ci : ∀ {w1 : jS}, cnb w x w1 → ∀ y, w1.1 (m + (425 + y)) = w.1 (m + (425 + y)) := fun hq y => zcb h hq (by omega)
  obtain ⟨c, hR, hRW⟩ := h.rows
  have hC := C_judge (w := w) (x := x) h.cw hz hI hR hRW hrl hra
  have hE := fun (w1 : jS) (hq : cnb w x w1) => E_judge (w := w1) (m := m) (c := c) (zmb h hq) (hz2 hq) (hI2 hq) (by rw [zcb h hq (show m ≤ m + 2 by omega)]; exact hR) hrl hra
  by_cases g0 : ¬ (0 ≤ l ∧ l ≤ 2) ∨ ¬ (0 ≤ a ∧ a < (c : Int))
  · exact L_no h (show 0 < 6 by decide) (hC.mono fun v w1 hc => cno_q (hc.1 g0)) (fun w1 hq => (hE w1 hq).mono fun v' w2 he => by exact jno_q (he.1 g0))
  have hs := (h.lists l.toNat (by omega)).1
  have ht := (h.lists l.toNat (by omega)).2.2
  have hz9 := hz l.toNat (by omega)
  by_cases g1 : (w.1 (x + (387 + 2 * l.toNat)) 0) < 0
  · refine L_ok h (hC.mono fun v w1 hc => ?_)
    obtain ⟨h1, rfl⟩ := hc.2.1 g0 g1
    exact ⟨_, ⟨h1, cq_0⟩, (hE _ cnb_0).mono fun v' w2 he => by rw [← hs] at he; exact ⟨_, ⟨(he.2.1 g0 g1).1, by rw [(he.2.1 g0 g1).2]; exact mq_0⟩, fun _ => rfl⟩⟩
  refine L_ok h (hC.mono fun v w1 hc => ?_)
  obtain ⟨t, len, why, left, hT, hv, rfl⟩ := hc.2.2 g0 g1
  refine ⟨_, ⟨hv, cq_0⟩, (hE _ cnb_0).mono fun v' w2 he => ?_⟩
  rw [← hs] at he
  obtain ⟨t2, len2, why2, left2, hT2, e1, e2⟩ := he.2.2 g0 g1
  obtain ⟨rfl, -, -, ht2⟩ := zTR_u hR (by omega) hT hT2
  refine ⟨_, ⟨e1, e2⟩, fun _ => zff_c _ 0 (fun i _ hi => ?_)⟩
  rw [(ht i (by omega)).1]
  by_cases c1 : i < len
  · rw [ht2 i c1]
  · exact ⟨fun _ => Or.inl c1, fun _ => Or.inl c1⟩
set_option maxHeartbeats 2000000 in
theorem T_look {g : Prop} {x m : Nat} {w : jS} (h : zRel g x m w) {l i : Int} (hrl : r32 l) (hri : r32 i) : jCall 122 [jO x, jI l, jI i] w (fun v w1 => w1.2 = w.2 ∧ jCall 215 [jO m, jI l, jI i] w1 (fun v' w2 => zAJ (True) x m v v' w2)) := by
  have xm := h.xm
  have hz : ∀ y, y < 3 → -1 ≤ w.1 (x + (387 + 2 * y)) 0 ∧ w.1 (x + (387 + 2 * y)) 0 ≤ 40 := fun y hy => by rw [(h.lists y hy).1]; exact (h.lists y hy).2.1
  have hI : ∀ y, y < 3 → ∀ j, j < 40 → r32 (w.1 (x + (388 + 2 * y)) j) := fun y hy j hj => by rw [((h.lists y hy).2.2 j hj).1]; exact ((h.lists y hy).2.2 j hj).2
  have hz2 : ∀ {w1 : jS}, cnb w x w1 → ∀ y, y < 3 → -1 ≤ w1.1 (m + 423) y ∧ w1.1 (m + 423) y ≤ 40 := fun hq y hy => by rw [zcb h hq (by omega)]; exact (h.lists y hy).2.1
  have hI2 : ∀ {w1 : jS}, cnb w x w1 → ∀ y, y < 3 → ∀ j, j < 40 → r32 (w1.1 (m + (425 + y)) j) := fun hq y hy j hj => by rw [zcb h hq (by omega)]; exact ((h.lists y hy).2.2 j hj).2
  have ce : ∀ {w1 : jS}, cnb w x w1 → w1.1 (m + 423) = w.1 (m + 423) := fun hq => zcb h hq (by omega)
  have ci : ∀ {w1 : jS}, cnb w x w1 → ∀ y, w1.1 (m + (425 + y)) = w.1 (m + (425 + y)) := fun hq y => zcb h hq (by omega)
  have hC := C_look (w := w) (x := x) h.cw hz hI hrl hri
  have hE := fun (w1 : jS) (hq : cnb w x w1) => E_look (w := w1) (m := m) (zmb h hq) (hz2 hq) hrl hri
  by_cases g0 : ¬ (0 ≤ l ∧ l ≤ 2)
  · exact L_noJ h (show 0 < 6 by decide) (hC.mono fun v w1 hc => cno_q (hc.1 g0)) (fun w1 hq => (hE w1 hq).mono fun v' w2 he => by exact jno_q (he.1 g0))
  have hs := (h.lists l.toNat (by omega)).1
  have ht := (h.lists l.toNat (by omega)).2.2
  have hz9 := hz l.toNat (by omega)
  by_cases g1 : (w.1 (x + (387 + 2 * l.toNat)) 0) < 0
  · refine L_okJ h (hC.mono fun v w1 hc => ?_)
    obtain ⟨h1, rfl⟩ := hc.2.1 g0 g1
    exact ⟨_, ⟨h1, cq_0⟩, (hE _ cnb_0).mono fun v' w2 he => by rw [← hs] at he; exact ⟨_, ⟨(he.2.1 g0 g1).1, by rw [(he.2.1 g0 g1).2]; exact mq_0⟩, fun _ => rfl⟩⟩
  by_cases g2 : ¬ (0 ≤ i ∧ i < w.1 (x + (387 + 2 * l.toNat)) 0)
  · refine L_okJ h (hC.mono fun v w1 hc => ?_)
    obtain ⟨h1, rfl⟩ := hc.2.2.1 g0 g1 g2
    exact ⟨_, ⟨h1, cq_0⟩, (hE _ cnb_0).mono fun v' w2 he => by rw [← hs] at he; exact ⟨_, ⟨(he.2.2.1 g0 g1 g2).1, by rw [(he.2.2.1 g0 g1 g2).2]; exact mq_0⟩, fun _ => rfl⟩⟩
  refine L_okJ h (hC.mono fun v w1 hc => ?_)
  obtain ⟨h1, rfl⟩ := hc.2.2.2 g0 g1 g2
  refine ⟨_, ⟨h1, cq_0⟩, (hE _ cnb_0).mono fun v' w2 he => ?_⟩
  rw [← hs] at he
  obtain ⟨e1, rfl⟩ := he.2.2.2 g0 g1 g2
  exact ⟨_, ⟨e1, mq_0⟩, fun _ => (ht _ (by omega)).1⟩
set_option maxHeartbeats 2000000 in
theorem T_list {g : Prop} {x m : Nat} {w : jS} (h : zRel g x m w) {l n : Int} (hrl : r32 l) (hrn : r32 n) : jCall 120 [jO x, jI l, jI n] w (fun v w1 => w1.2 = w.2 ∧ jCall 213 [jO m, jI l, jI n] w1 (fun v' w2 => zAI (True) x m v v' w2)) := by
  have xm := h.xm
  have hC := C_list (w := w) (x := x) h.cw hrl hrn
  have hE := fun (w1 : jS) (hm : MW w1.2 m) => E_list (w := w1) (m := m) hm hrl hrn
  by_cases g0 : ¬ (0 ≤ l ∧ l ≤ 2)
  · exact L_no h (show 0 < 6 by decide) (hC.mono fun v w1 hc => cno_q (hc.1 g0)) (fun w1 hq => (hE w1 (zmb h hq)).mono fun v' w2 he => jno_q (he.1 g0))
  by_cases g1 : 40 < n
  · exact L_no h (show 5 < 6 by decide) (hC.mono fun v w1 hc => cno_q (hc.2.1 g0 g1)) (fun w1 hq => (hE w1 (zmb h hq)).mono fun v' w2 he => jno_q (he.2.1 g0 g1))
  by_cases g2 : n < 0
  · refine L_ok h (hC.mono fun v w1 hc => ?_)
    obtain ⟨h1, rfl⟩ := hc.2.2.1 g0 g1 g2
    exact ⟨_, ⟨h1, cq_0⟩, (hE _ h.mw).mono fun v' w2 he => ⟨_, ⟨(he.2.2.1 g0 g1 g2).1, by rw [(he.2.2.1 g0 g1 g2).2]; exact mq_0⟩, fun _ => rfl⟩⟩
  refine hC.mono fun v w1 hc => ?_
  obtain ⟨h1, h2, h3, h4, h5⟩ := hc.2.2.2 g0 g1 g2
  refine ⟨h2, (hE w1 (by rw [h2]; exact h.mw)).mono fun v' w2 he => ?_⟩
  obtain ⟨e1, T, rfl, hT⟩ := he.2.2.2 g0 g1 g2
  have F : ∀ b, b ≠ x + (387 + 2 * l.toNat) → b ≠ x + (388 + 2 * l.toNat) → b ≠ m + 423 → b ≠ m + (425 + l.toNat) → (kA (jW w1 (m + 423) l.toNat n) (m + (425 + l.toNat)) T).1 b = w.1 b := fun b a1 a2 a3 a4 => (kA_f a4).trans ((jup_f a3).trans (h3 b a1 a2))
  have s1 : (kA (jW w1 (m + 423) l.toNat n) (m + (425 + l.toNat)) T).1 (m + 423) = fun y => if y = l.toNat then n else w.1 (m + 423) y := by
    rw [kA_f (show m + 423 ≠ m + (425 + l.toNat) by omega)]
    funext y
    show (if m + 423 = m + 423 ∧ y = l.toNat then n else w1.1 (m + 423) y) = _
    rw [h3 (m + 423) (by omega) (by omega)]
    by_cases e : y = l.toNat
    · rw [if_pos ⟨rfl, e⟩, if_pos e]
    · rw [if_neg (fun q => e q.2), if_neg e]
  have s2 : (kA (jW w1 (m + 423) l.toNat n) (m + (425 + l.toNat)) T).1 (x + (387 + 2 * l.toNat)) = w1.1 (x + (387 + 2 * l.toNat)) := (kA_f (by omega)).trans (jup_f (by omega))
  have s3 : (kA (jW w1 (m + 423) l.toNat n) (m + (425 + l.toNat)) T).1 (x + (388 + 2 * l.toNat)) = w1.1 (x + (388 + 2 * l.toNat)) := (kA_f (by omega)).trans (jup_f (by omega))
  have s4 : (kA (jW w1 (m + 423) l.toNat n) (m + (425 + l.toNat)) T).1 (m + (425 + l.toNat)) = T := kA_fs
  refine ⟨⟨_, _, h1, e1, fun _ => rfl⟩, zRel_F (zRel_L h h2 (fun b _ _ _ _ => F b (by omega) (by omega) (by omega) (by omega)) (fun b _ => F b (by omega) (by omega) (by omega) (by omega)) (congrFun (F m (by omega) (by omega) (by omega) (by omega)) 15) (congrFun (F m (by omega) (by omega) (by omega) (by omega)) 24) (congrFun (F m (by omega) (by omega) (by omega) (by omega)) 31) (zLL_u h.lists (l := l.toNat) (by omega) (fun b _ _ a1 a2 => F b a1 a2 (by omega) (by omega)) (fun y hy => by rw [s1]; exact if_neg hy) (fun b _ _ a1 => F b (by omega) (by omega) (by omega) a1) ?_ ?_ ?_))⟩
  · rw [s1, s2, h4]
    exact (if_pos rfl).symm
  · rw [s1]
    dsimp only
    rw [if_pos rfl]
    omega
  · intro j hj
    rw [s3, s4, h5 j hj, hT j hj]
    exact ⟨rfl, by decide, by decide⟩
set_option maxHeartbeats 2000000 in
theorem T_put {g : Prop} {x m : Nat} {w : jS} (h : zRel g x m w) {l i y : Int} (hrl : r32 l) (hri : r32 i) (hry : r32 y) : jCall 121 [jO x, jI l, jI i, jI y] w (fun v w1 => w1.2 = w.2 ∧ jCall 214 [jO m, jI l, jI i, jI y] w1 (fun v' w2 => zAI (True) x m v v' w2)) := by
  have xm := h.xm
  have hz : ∀ y, y < 3 → -1 ≤ w.1 (x + (387 + 2 * y)) 0 ∧ w.1 (x + (387 + 2 * y)) 0 ≤ 40 := fun y hy => by rw [(h.lists y hy).1]; exact (h.lists y hy).2.1
  have hI : ∀ y, y < 3 → ∀ j, j < 40 → r32 (w.1 (x + (388 + 2 * y)) j) := fun y hy j hj => by rw [((h.lists y hy).2.2 j hj).1]; exact ((h.lists y hy).2.2 j hj).2
  have hz2 : ∀ {w1 : jS}, cnb w x w1 → ∀ y, y < 3 → -1 ≤ w1.1 (m + 423) y ∧ w1.1 (m + 423) y ≤ 40 := fun hq y hy => by rw [zcb h hq (by omega)]; exact (h.lists y hy).2.1
  have hI2 : ∀ {w1 : jS}, cnb w x w1 → ∀ y, y < 3 → ∀ j, j < 40 → r32 (w1.1 (m + (425 + y)) j) := fun hq y hy j hj => by rw [zcb h hq (by omega)]; exact ((h.lists y hy).2.2 j hj).2
  have ce : ∀ {w1 : jS}, cnb w x w1 → w1.1 (m + 423) = w.1 (m + 423) := fun hq => zcb h hq (by omega)
  have ci : ∀ {w1 : jS}, cnb w x w1 → ∀ y, w1.1 (m + (425 + y)) = w.1 (m + (425 + y)) := fun hq y => zcb h hq (by omega)
  have hC := C_put (w := w) (x := x) h.cw hz hrl hri hry
  have hE := fun (w1 : jS) (hm : MW w1.2 m) (q : ∀ x, x < 3 → -1 ≤ w1.1 (m + 423) x ∧ w1.1 (m + 423) x ≤ 40) => E_put (w := w1) (m := m) hm q hrl hri hry
  by_cases g0 : ¬ (0 ≤ l ∧ l ≤ 2)
  · exact L_no h (show 0 < 6 by decide) (hC.mono fun v w1 hc => cno_q (hc.1 g0)) (fun w1 hq => (hE w1 (zmb h hq) (hz2 hq)).mono fun v' w2 he => jno_q (he.1 g0))
  have hs := (h.lists l.toNat (by omega)).1
  have ht := (h.lists l.toNat (by omega)).2.2
  have hz9 := hz l.toNat (by omega)
  by_cases g1 : (w.1 (x + (387 + 2 * l.toNat)) 0) < 0
  · refine L_ok h (hC.mono fun v w1 hc => ?_)
    obtain ⟨h1, rfl⟩ := hc.2.1 g0 g1
    refine ⟨_, ⟨h1, cq_0⟩, (hE _ h.mw (hz2 cnb_0)).mono fun v' w2 he => ?_⟩
    rw [← hs] at he
    exact ⟨_, ⟨(he.2.1 g0 g1).1, by rw [(he.2.1 g0 g1).2]; exact mq_0⟩, fun _ => rfl⟩
  by_cases g2 : ¬ (0 ≤ i ∧ i < w.1 (x + (387 + 2 * l.toNat)) 0)
  · refine L_ok h (hC.mono fun v w1 hc => ?_)
    obtain ⟨h1, rfl⟩ := hc.2.2.1 g0 g1 g2
    refine ⟨_, ⟨h1, cq_0⟩, (hE _ h.mw (hz2 cnb_0)).mono fun v' w2 he => ?_⟩
    rw [← hs] at he
    exact ⟨_, ⟨(he.2.2.1 g0 g1 g2).1, by rw [(he.2.2.1 g0 g1 g2).2]; exact mq_0⟩, fun _ => rfl⟩
  refine hC.mono fun v w1 hc => ?_
  obtain ⟨h1, rfl⟩ := hc.2.2.2 g0 g1 g2
  have F0 : ∀ b, b ≠ x + (388 + 2 * l.toNat) → (jW w (x + (388 + 2 * l.toNat)) i.toNat y).1 b = w.1 b := fun b a => jup_f a
  refine ⟨rfl, (hE (jW w (x + (388 + 2 * l.toNat)) i.toNat y) h.mw (fun z hz0 => by rw [F0 _ (by omega)]; exact (h.lists z hz0).2.1)).mono fun v' w2 he => ?_⟩
  rw [F0 (m + 423) (by omega), ← hs] at he
  obtain ⟨e1, rfl⟩ := he.2.2.2 g0 g1 g2
  have F : ∀ b, b ≠ x + (388 + 2 * l.toNat) → b ≠ m + (425 + l.toNat) → (jW (jW w (x + (388 + 2 * l.toNat)) i.toNat y) (m + (425 + l.toNat)) i.toNat y).1 b = w.1 b := fun b a1 a2 => (jup_f a2).trans (jup_f a1)
  refine ⟨⟨_, _, h1, e1, fun _ => rfl⟩, zRel_F (zRel_L h rfl (fun b _ _ _ _ => F b (by omega) (by omega)) (fun b _ => F b (by omega) (by omega)) (congrFun (F m (by omega) (by omega)) 15) (congrFun (F m (by omega) (by omega)) 24) (congrFun (F m (by omega) (by omega)) 31) (zLL_u h.lists (l := l.toNat) (by omega) (fun b _ _ a1 a2 => F b a2 (by omega)) (fun y hy => congrFun (F _ (by omega) (by omega)) y) (fun b _ _ a1 => F b (by omega) a1) ?_ ?_ ?_))⟩
  · rw [F _ (by omega) (by omega), F (m + 423) (by omega) (by omega)]
    exact hs
  · rw [F (m + 423) (by omega) (by omega)]
    exact (h.lists l.toNat (by omega)).2.1
  · intro j hj
    show (if x + (388 + 2 * l.toNat) = m + (425 + l.toNat) ∧ j = i.toNat then y else if x + (388 + 2 * l.toNat) = x + (388 + 2 * l.toNat) ∧ j = i.toNat then y else w.1 (x + (388 + 2 * l.toNat)) j) = (if m + (425 + l.toNat) = m + (425 + l.toNat) ∧ j = i.toNat then y else if m + (425 + l.toNat) = x + (388 + 2 * l.toNat) ∧ j = i.toNat then y else w.1 (m + (425 + l.toNat)) j) ∧ r32 (if m + (425 + l.toNat) = m + (425 + l.toNat) ∧ j = i.toNat then y else if m + (425 + l.toNat) = x + (388 + 2 * l.toNat) ∧ j = i.toNat then y else w.1 (m + (425 + l.toNat)) j)
    rw [if_neg (show ¬ (x + (388 + 2 * l.toNat) = m + (425 + l.toNat) ∧ j = i.toNat) by omega)]
    by_cases e : j = i.toNat
    · rw [if_pos ⟨rfl, e⟩, if_pos ⟨rfl, e⟩]
      exact ⟨rfl, hry⟩
    · rw [if_neg (fun q => e q.2), if_neg (fun q => e q.2), if_neg (fun q => e q.2)]
      exact ht j hj
set_option maxHeartbeats 2000000 in
theorem T_lays {g : Prop} {x m : Nat} {w : jS} (h : zRel g x m w) {l i a : Int} (hrl : r32 l) (hri : r32 i) (hra : r32 a) : jCall 123 [jO x, jI l, jI i, jI a] w (fun v w1 => w1.2 = w.2 ∧ jCall 216 [jO m, jI l, jI i, jI a] w1 (fun v' w2 => zAI (True) x m v v' w2)) := by
  have xm := h.xm
  have hz : ∀ y, y < 3 → -1 ≤ w.1 (x + (387 + 2 * y)) 0 ∧ w.1 (x + (387 + 2 * y)) 0 ≤ 40 := fun y hy => by rw [(h.lists y hy).1]; exact (h.lists y hy).2.1
  have hI : ∀ y, y < 3 → ∀ j, j < 40 → r32 (w.1 (x + (388 + 2 * y)) j) := fun y hy j hj => by rw [((h.lists y hy).2.2 j hj).1]; exact ((h.lists y hy).2.2 j hj).2
  have hz2 : ∀ {w1 : jS}, cnb w x w1 → ∀ y, y < 3 → -1 ≤ w1.1 (m + 423) y ∧ w1.1 (m + 423) y ≤ 40 := fun hq y hy => by rw [zcb h hq (by omega)]; exact (h.lists y hy).2.1
  have hI2 : ∀ {w1 : jS}, cnb w x w1 → ∀ y, y < 3 → ∀ j, j < 40 → r32 (w1.1 (m + (425 + y)) j) := fun hq y hy j hj => by rw [zcb h hq (by omega)]; exact ((h.lists y hy).2.2 j hj).2
  have ce : ∀ {w1 : jS}, cnb w x w1 → w1.1 (m + 423) = w.1 (m + 423) := fun hq => zcb h hq (by omega)
  have ci : ∀ {w1 : jS}, cnb w x w1 → ∀ y, w1.1 (m + (425 + y)) = w.1 (m + (425 + y)) := fun hq y => zcb h hq (by omega)
  obtain ⟨c, hR, hRW⟩ := h.rows
  have hC := C_lays (w := w) (x := x) h.cw hz hI hR hRW hrl hri hra
  have hE := fun (w1 : jS) (hm : MW w1.2 m) (q : ∀ x, x < 3 → -1 ≤ w1.1 (m + 423) x ∧ w1.1 (m + 423) x ≤ 40) (q2 : ∀ y, y < 3 → ∀ j, j < 40 → r32 (w1.1 (m + (425 + y)) j)) (q3 : zRw (w1.1 (m + 2)) c) => E_lays (w := w1) (m := m) hm q q2 q3 hrl hri hra
  by_cases g0 : ¬ (0 ≤ l ∧ l ≤ 2) ∨ ¬ (0 ≤ a ∧ a < (c : Int))
  · exact L_no h (show 0 < 6 by decide) (hC.mono fun v w1 hc => cno_q (hc.1 g0)) (fun w1 hq => (hE w1 (zmb h hq) (hz2 hq) (hI2 hq) (by rw [zcb h hq (show m ≤ m + 2 by omega)]; exact hR)).mono fun v' w2 he => jno_q (he.1 g0))
  have hs := (h.lists l.toNat (by omega)).1
  have ht := (h.lists l.toNat (by omega)).2.2
  have hz9 := hz l.toNat (by omega)
  by_cases g1 : (w.1 (x + (387 + 2 * l.toNat)) 0) < 0
  · refine L_ok h (hC.mono fun v w1 hc => ?_)
    obtain ⟨h1, rfl⟩ := hc.2.1 g0 g1
    refine ⟨_, ⟨h1, cq_0⟩, (hE _ h.mw (hz2 cnb_0) (hI2 cnb_0) hR).mono fun v' w2 he => ?_⟩
    rw [← hs] at he
    exact ⟨_, ⟨(he.2.1 g0 g1).1, by rw [(he.2.1 g0 g1).2]; exact mq_0⟩, fun _ => rfl⟩
  by_cases g2 : ¬ (0 ≤ i ∧ i < w.1 (x + (387 + 2 * l.toNat)) 0)
  · refine L_ok h (hC.mono fun v w1 hc => ?_)
    obtain ⟨h1, rfl⟩ := hc.2.2.1 g0 g1 g2
    refine ⟨_, ⟨h1, cq_0⟩, (hE _ h.mw (hz2 cnb_0) (hI2 cnb_0) hR).mono fun v' w2 he => ?_⟩
    rw [← hs] at he
    exact ⟨_, ⟨(he.2.2.1 g0 g1 g2).1, by rw [(he.2.2.1 g0 g1 g2).2]; exact mq_0⟩, fun _ => rfl⟩
  refine hC.mono fun v w1 hc => ?_
  obtain ⟨t, len, why, left, hT, n, T, h1, ⟨hn1, hn2, hn3⟩, rfl, hly⟩ := hc.2.2.2 g0 g1 g2
  have F0 : ∀ b, b ≠ x + (388 + 2 * l.toNat) → (kA w (x + (388 + 2 * l.toNat)) T).1 b = w.1 b := fun b a => kA_f a
  refine ⟨rfl, (hE (kA w (x + (388 + 2 * l.toNat)) T) h.mw (fun z hz0 => by rw [F0 _ (by omega)]; exact (h.lists z hz0).2.1) (fun z hz0 j hj => by rw [F0 _ (by omega)]; exact ((h.lists z hz0).2.2 j hj).2) (by rw [F0 _ (by omega)]; exact hR)).mono fun v' w2 he => ?_⟩
  rw [F0 (m + 423) (by omega), F0 (m + 2) (by omega), F0 (m + (425 + l.toNat)) (by omega), ← hs] at he
  obtain ⟨t2, len2, why2, left2, hT2, n2, e1, ⟨em1, em2, em3⟩, w3, T2, hq, rfl, hly2⟩ := he.2.2.2 g0 g1 g2
  obtain ⟨rfl, -, -, ht2⟩ := zTR_u hR (by omega) hT hT2
  have en : n = n2 := zn_u hn1 hn2 hn3 em1 em2 em3
  subst en
  have hb := zTR_b hR (by omega) hT
  have F : ∀ b, (b < m ∨ b = m + 1 ∨ b = m + 2 ∨ b = m + 3 ∨ (m + 8 ≤ b ∧ b ≤ m + 15) ∨ b = m + 421 ∨ b = m + 423 ∨ (m + 425 ≤ b ∧ b ≤ m + 429)) → b ≠ x + (388 + 2 * l.toNat) → b ≠ m + (425 + l.toNat) → (kA w3 (m + (425 + l.toNat)) T2).1 b = w.1 b := fun b a0 a1 a2 => (kA_f a2).trans ((hq.2.1 b (by omega)).trans (F0 b a1))
  have s3 : (kA w3 (m + (425 + l.toNat)) T2).1 (x + (388 + 2 * l.toNat)) = T := (kA_f (by omega)).trans ((hq.2.1 _ (by omega)).trans kA_fs)
  have s4 : (kA w3 (m + (425 + l.toNat)) T2).1 (m + (425 + l.toNat)) = T2 := kA_fs
  have em : ∀ j, (kA w3 (m + (425 + l.toNat)) T2).1 m j = w3.1 m j := fun j => congrFun (kA_f (by omega)) j
  have e0 : ∀ j, (kA w (x + (388 + 2 * l.toNat)) T).1 m j = w.1 m j := fun j => congrFun (F0 m (by omega)) j
  refine ⟨⟨_, _, h1, e1, fun _ => rfl⟩, zRel_F (zRel_L h hq.1 (fun b _ _ _ _ => F b (by omega) (by omega) (by omega)) (fun b _ => F b (by omega) (by omega) (by omega)) ((em 15).trans (hq.2.2.1.trans (e0 15))) ((em 24).trans (hq.2.2.2.1.trans (e0 24))) ((em 31).trans (hq.2.2.2.2.trans (e0 31))) (zLL_u h.lists (l := l.toNat) (by omega) (fun b _ _ a1 a2 => F b (by omega) a2 (by omega)) (fun y hy => congrFun (F _ (by omega) (by omega) (by omega)) y) (fun b _ _ a1 => F b (by omega) (by omega) a1) ?_ ?_ ?_))⟩
  · rw [F _ (by omega) (by omega) (by omega), F (m + 423) (by omega) (by omega) (by omega)]
    exact hs
  · rw [F (m + 423) (by omega) (by omega) (by omega)]
    exact (h.lists l.toNat (by omega)).2.1
  · intro j hj
    rw [s3, s4, hly j hj, hly2 j hj]
    by_cases e : i.toNat ≤ j ∧ j < i.toNat + n
    · rw [if_pos e, if_pos e, ht2 _ (by omega)]
      refine ⟨rfl, ?_⟩
      rw [← ht2 _ (by omega)]
      have := hb.2.2 (j - i.toNat) (by omega)
      exact ⟨by omega, by omega⟩
    · rw [if_neg e, if_neg e]
      exact ht j hj
