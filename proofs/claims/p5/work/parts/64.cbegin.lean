set_option maxHeartbeats 4000000 in
set_option maxRecDepth 20000 in
theorem E_fill {w : jS} {a len : Nat} {v : Int} (hka : w.2.1 a = (100, len)) (hln : len < 1000) : jCall 220 [jO a, jI v] w (fun x w1 => x = none ∧ ∃ T, w1 = kA w a T ∧ ∀ e, T e = if e < len then v else w.1 a e) := by
  have mt : jtb 220 = jT220 := rfl
  show jWp 220 0 [some (jO a), some (jI v), none, none] [] 0 0 w _
  refine jWp.blk mt 3 ?_
  show _ ∧ jWp 220 3 [some (jO a), some (jI v), some (jI 0), none] [jO a] 0 0 w _
  refine ⟨rfl, ?_⟩
  refine jWp.alen (pc' := 4) (n := len) mt rfl rfl (jird_of hka) (by rw [hka]) ?_
  show jWp 220 4 [some (jO a), some (jI v), some (jI 0), none] [jI (len : Int)] 0 0 w _
  refine jWp.blk mt 1 ?_
  show jWp 220 5 [some (jO a), some (jI v), some (jI 0), some (jI (len : Int))] [] 0 0 w _
  have lp1 : ∀ (N : Nat) (t : Nat) (T : Nat → Int) (ht : t ≤ len) (hT : ∀ e, T e = if e < t then v else w.1 a e), len - t < N → jWp 220 5 [some (jO a), some (jI v), some (jI (t : Int)), some (jI (len : Int))] [] 0 0 (kA w a T) (fun x w1 => x = none ∧ ∃ T, w1 = kA w a T ∧ ∀ e, T e = if e < len then v else w.1 a e) := by
    intro N
    induction N with
    | zero => intro t T ht hT hm; omega
    | succ N ih2 =>
      intro t T ht hT hm
      refine jWp.blk mt 2 ?_
      show jWp 220 7 [some (jO a), some (jI v), some (jI (t : Int)), some (jI (len : Int))] [jI (len : Int), jI (t : Int)] 0 0 (kA w a T) _
      refine jWp.icmp (pc' := 10) mt rfl rfl (b32_id (by omega) (by omega)) (b32_id (by omega) (by omega)) (fun h3 => ?_) (fun h3 => ?_)
      · have h3 : (len : Int) ≤ (t : Int) := h3
        refine jWp.vret mt rfl ⟨rfl, rfl⟩ rfl ?_
        exact ⟨rfl, T, rfl, fun e => zif_1 (hT e) (by omega)⟩
      · have h3 : (t : Int) < (len : Int) := h3
        refine jWp.blk mt 3 ?_
        show _ ∧ jWp 220 13 [some (jO a), some (jI v), some (jI (t : Int)), some (jI (len : Int))] [jI v, jI (t : Int), jO a] 0 0 (kA w a T) _
        refine ⟨rfl, ?_⟩
        refine jWp.iast (pc' := 14) (j := t) mt rfl rfl (jtg hka) (b32_id (by omega) (by omega)) (jlt hka (by omega)) ?_
        rw [show jW (kA w a T) a t v = (kA w a (zset T t v)) from kA_W]
        show jWp 220 14 [some (jO a), some (jI v), some (jI (t : Int)), some (jI (len : Int))] [] 0 0 (kA w a (zset T t v)) _
        refine jWp.blk mt 2 ?_
        show jWp 220 5 [some (jO a), some (jI v), some (jI ((t : Int) + 1)), some (jI (len : Int))] [] 0 0 (kA w a (zset T t v)) _
        refine jWp.le (l := [some (jO a), some (jI v), some (jI ((t : Int) + 1)), some (jI (len : Int))]) (by exact ⟨rfl, rfl, rfl, rfl, trivial⟩) ?_
        exact ih2 (t + 1) _ (by omega) (fun e => by by_cases ee : e = t; rw [ee, zset_s, if_pos (by omega)]; rw [zset_n ee]; exact zif_1 (hT e) (by omega)) (by omega)
  refine jWp.le (l := [some (jO a), some (jI v), some (jI 0), some (jI (len : Int))]) (by exact ⟨rfl, rfl, rfl, rfl, trivial⟩) ?_
  have key := lp1 _ 0 (w.1 a) (by omega) (fun e => (if_neg (by omega)).symm) (Nat.lt_succ_self _)
  rw [kA_self] at key
  exact key
set_option maxHeartbeats 4000000 in
set_option maxRecDepth 20000 in
theorem C_begin0 {w : jS} {s sc n : Nat} (hks : w.2.1 s = (6, 0)) (hkc : w.2.1 sc = (100, 44)) (hrc : w.2.2.1 s 1 = some sc) (hn0 : w.1 s 0 = (n : Int)) (hn4 : n ≤ 4) : jCall 43 [jO s] w (fun v w1 => v = none ∧ ∃ T, w1 = kA w sc T ∧ ∀ e, T e = if e < n then w.1 sc (24 + e) else if 4 ≤ e ∧ e < 4 + n then 1 else if 28 ≤ e ∧ ((e - 28) / 4 < n ∧ (e - 28) % 4 < n) then (if (e - 28) % 4 = (e - 28) / 4 then -1 else 0) else w.1 sc e) := by
  have mt : jtb 43 = jT43 := rfl
  have hsc : s ≠ sc := kne hks hkc (by decide)
  show jWp 43 0 [some (jO s), none, none] [] 0 0 w _
  refine jWp.blk mt 2 ?_
  show jWp 43 2 [some (jO s), some (jI 0), none] [] 0 0 w _
  have lp1 : ∀ (N : Nat) (i : Nat) (T : Nat → Int) (hi : i ≤ n) (hT : ∀ e, T e = if e < i then w.1 sc (24 + e) else if 4 ≤ e ∧ e < 4 + i then 1 else if 28 ≤ e ∧ ((e - 28) / 4 < i ∧ (e - 28) % 4 < n) then (if (e - 28) % 4 = (e - 28) / 4 then -1 else 0) else w.1 sc e), n - i < N → jWp 43 2 [some (jO s), some (jI (i : Int)), none] [] 0 0 (kA w sc T) (fun v w1 => v = none ∧ ∃ T, w1 = kA w sc T ∧ ∀ e, T e = if e < n then w.1 sc (24 + e) else if 4 ≤ e ∧ e < 4 + n then 1 else if 28 ≤ e ∧ ((e - 28) / 4 < n ∧ (e - 28) % 4 < n) then (if (e - 28) % 4 = (e - 28) / 4 then -1 else 0) else w.1 sc e) := by
    intro N
    induction N with
    | zero => intro i T hi hT hm; omega
    | succ N ih2 =>
      intro i T hi hT hm
      refine jWp.blk mt 2 ?_
      show _ ∧ jWp 43 4 [some (jO s), some (jI (i : Int)), none] [jO s, jI (i : Int)] 0 0 (kA w sc T) _
      refine ⟨rfl, ?_⟩
      refine jWp.getI (pc' := 7) mt rfl rfl (jtg hks) ?_
      rw [show ((kA w sc T).1 s 0) = (n : Int) from (((kA_a (by omega)).trans rfl).trans hn0)]
      show jWp 43 7 [some (jO s), some (jI (i : Int)), none] [jI (n : Int), jI (i : Int)] 0 0 (kA w sc T) _
      refine jWp.icmp (pc' := 10) mt rfl rfl (b32_id (by omega) (by omega)) (b32_id (by omega) (by omega)) (fun h3 => ?_) (fun h3 => ?_)
      · have h3 : (n : Int) ≤ (i : Int) := h3
        refine jWp.vret mt rfl ⟨rfl, rfl⟩ rfl ?_
        exact ⟨rfl, T, rfl, fun e => by rw [hT e]; (repeat' split) <;> first | rfl | (exfalso; omega)⟩
      · have h3 : (i : Int) < (n : Int) := h3
        refine jWp.blk mt 1 ?_
        show _ ∧ jWp 43 11 [some (jO s), some (jI (i : Int)), none] [jO s] 0 0 (kA w sc T) _
        refine ⟨rfl, ?_⟩
        refine jWp.getR (pc' := 14) (o := sc) mt rfl rfl (jtg hks) hrc ?_
        show jWp 43 14 [some (jO s), some (jI (i : Int)), none] [jO sc] 0 0 (kA w sc T) _
        refine jWp.blk mt 4 ?_
        show _ ∧ jWp 43 18 [some (jO s), some (jI (i : Int)), none] [jO s, jI (0 + (i : Int)), jO sc] 0 0 (kA w sc T) _
        refine ⟨rfl, ?_⟩
        refine jWp.getR (pc' := 21) (o := sc) mt rfl rfl (jtg hks) hrc ?_
        show jWp 43 21 [some (jO s), some (jI (i : Int)), none] [jO sc, jI (0 + (i : Int)), jO sc] 0 0 (kA w sc T) _
        refine jWp.blk mt 3 ?_
        show jWp 43 25 [some (jO s), some (jI (i : Int)), none] [jI (24 + (i : Int)), jO sc, jI (0 + (i : Int)), jO sc] 0 0 (kA w sc T) _
        refine jWp.iald (pc' := 26) (j := (24 + i)) mt rfl rfl (jird_of hkc) (by rw [b32_id (by omega) (by omega)]; omega) (jlt hkc (by omega)) ?_
        rw [show ((kA w sc T).1 sc (24 + i)) = (T (24 + i)) from kA_s]
        show jWp 43 26 [some (jO s), some (jI (i : Int)), none] [jI (T (24 + i)), jI (0 + (i : Int)), jO sc] 0 0 (kA w sc T) _
        refine jWp.iast (pc' := 27) (j := i) mt rfl rfl (jtg hkc) (by rw [b32_id (by omega) (by omega)]; omega) (jlt hkc (by omega)) ?_
        rw [show jW (kA w sc T) sc i (T (24 + i)) = (kA w sc (zset T i (T (24 + i)))) from kA_W]
        show jWp 43 27 [some (jO s), some (jI (i : Int)), none] [] 0 0 (kA w sc (zset T i (T (24 + i)))) _
        refine jWp.blk mt 1 ?_
        show _ ∧ jWp 43 28 [some (jO s), some (jI (i : Int)), none] [jO s] 0 0 (kA w sc (zset T i (T (24 + i)))) _
        refine ⟨rfl, ?_⟩
        refine jWp.getR (pc' := 31) (o := sc) mt rfl rfl (jtg hks) hrc ?_
        show jWp 43 31 [some (jO s), some (jI (i : Int)), none] [jO sc] 0 0 (kA w sc (zset T i (T (24 + i)))) _
        refine jWp.blk mt 4 ?_
        show jWp 43 35 [some (jO s), some (jI (i : Int)), none] [jI 1, jI (4 + (i : Int)), jO sc] 0 0 (kA w sc (zset T i (T (24 + i)))) _
        refine jWp.iast (pc' := 36) (j := (4 + i)) mt rfl rfl (jtg hkc) (by rw [b32_id (by omega) (by omega)]; omega) (jlt hkc (by omega)) ?_
        rw [show jW (kA w sc (zset T i (T (24 + i)))) sc (4 + i) 1 = (kA w sc (zset (zset T i (T (24 + i))) (4 + i) 1)) from kA_W]
        show jWp 43 36 [some (jO s), some (jI (i : Int)), none] [] 0 0 (kA w sc (zset (zset T i (T (24 + i))) (4 + i) 1)) _
        refine jWp.blk mt 2 ?_
        show jWp 43 38 [some (jO s), some (jI (i : Int)), some (jI 0)] [] 0 0 (kA w sc (zset (zset T i (T (24 + i))) (4 + i) 1)) _
        have lp4 : ∀ (N : Nat) (t : Nat) (T : Nat → Int) (ht : t ≤ n) (hT : ∀ e, T e = if e < i + 1 then w.1 sc (24 + e) else if 4 ≤ e ∧ e < 4 + i + 1 then 1 else if 28 ≤ e ∧ (((e - 28) / 4 < i ∧ (e - 28) % 4 < n) ∨ ((e - 28) / 4 = i ∧ (e - 28) % 4 < t)) then (if (e - 28) % 4 = (e - 28) / 4 then -1 else 0) else w.1 sc e), n - t < N → jWp 43 38 [some (jO s), some (jI (i : Int)), some (jI (t : Int))] [] 0 0 (kA w sc T) (fun v w1 => v = none ∧ ∃ T, w1 = kA w sc T ∧ ∀ e, T e = if e < n then w.1 sc (24 + e) else if 4 ≤ e ∧ e < 4 + n then 1 else if 28 ≤ e ∧ ((e - 28) / 4 < n ∧ (e - 28) % 4 < n) then (if (e - 28) % 4 = (e - 28) / 4 then -1 else 0) else w.1 sc e) := by
          intro N
          induction N with
          | zero => intro t T ht hT hm; omega
          | succ N ih5 =>
            intro t T ht hT hm
            refine jWp.blk mt 2 ?_
            show _ ∧ jWp 43 40 [some (jO s), some (jI (i : Int)), some (jI (t : Int))] [jO s, jI (t : Int)] 0 0 (kA w sc T) _
            refine ⟨rfl, ?_⟩
            refine jWp.getI (pc' := 43) mt rfl rfl (jtg hks) ?_
            rw [show ((kA w sc T).1 s 0) = (n : Int) from (((kA_a (by omega)).trans rfl).trans hn0)]
            show jWp 43 43 [some (jO s), some (jI (i : Int)), some (jI (t : Int))] [jI (n : Int), jI (t : Int)] 0 0 (kA w sc T) _
            refine jWp.icmp (pc' := 46) mt rfl rfl (b32_id (by omega) (by omega)) (b32_id (by omega) (by omega)) (fun h6 => ?_) (fun h6 => ?_)
            · have h6 : (n : Int) ≤ (t : Int) := h6
              refine jWp.blk mt 2 ?_
              show jWp 43 2 [some (jO s), some (jI ((i : Int) + 1)), some (jI (t : Int))] [] 0 0 (kA w sc T) _
              refine jWp.le (l := [some (jO s), some (jI ((i : Int) + 1)), none]) (by exact ⟨rfl, rfl, trivial⟩) ?_
              exact ih2 (i + 1) T (by omega) (fun e => by rw [hT e]; (repeat' split) <;> first | rfl | (exfalso; omega)) (by omega)
            · have h6 : (t : Int) < (n : Int) := h6
              refine jWp.blk mt 1 ?_
              show _ ∧ jWp 43 47 [some (jO s), some (jI (i : Int)), some (jI (t : Int))] [jO s] 0 0 (kA w sc T) _
              refine ⟨rfl, ?_⟩
              refine jWp.getR (pc' := 50) (o := sc) mt rfl rfl (jtg hks) hrc ?_
              show jWp 43 50 [some (jO s), some (jI (i : Int)), some (jI (t : Int))] [jO sc] 0 0 (kA w sc T) _
              refine jWp.blk mt 9 ?_
              show jWp 43 60 [some (jO s), some (jI (i : Int)), some (jI (t : Int))] [jI (i : Int), jI (t : Int), jI ((28 + (4 * (i : Int))) + (t : Int)), jO sc] 0 0 (kA w sc T) _
              refine jWp.icmp (pc' := 63) mt rfl rfl (b32_id (by omega) (by omega)) (b32_id (by omega) (by omega)) (fun h7 => ?_) (fun h7 => ?_)
              · have h7 : (t : Int) ≠ (i : Int) := h7
                refine jWp.blk mt 1 ?_
                show jWp 43 68 [some (jO s), some (jI (i : Int)), some (jI (t : Int))] [jI 0, jI ((28 + (4 * (i : Int))) + (t : Int)), jO sc] 0 0 (kA w sc T) _
                refine jWp.iast (pc' := 69) (j := (28 + (4 * i + t))) mt rfl rfl (jtg hkc) (by rw [b32_id (by omega) (by omega)]; omega) (jlt hkc (by omega)) ?_
                rw [show jW (kA w sc T) sc (28 + (4 * i + t)) 0 = (kA w sc (zset T (28 + (4 * i + t)) 0)) from kA_W]
                show jWp 43 69 [some (jO s), some (jI (i : Int)), some (jI (t : Int))] [] 0 0 (kA w sc (zset T (28 + (4 * i + t)) 0)) _
                refine jWp.blk mt 2 ?_
                show jWp 43 38 [some (jO s), some (jI (i : Int)), some (jI ((t : Int) + 1))] [] 0 0 (kA w sc (zset T (28 + (4 * i + t)) 0)) _
                refine jWp.le (l := [some (jO s), some (jI (i : Int)), some (jI ((t : Int) + 1))]) (by exact ⟨rfl, rfl, rfl, trivial⟩) ?_
                exact ih5 (t + 1) _ (by omega) (fun e => by
                by_cases ee : e = 28 + (4 * i + t)
                · subst ee
                  rw [zset_s, if_neg (by omega), if_neg (by omega), if_pos (by omega)]
                  first | (rw [if_pos (by omega)]; done) | (rw [if_neg (by omega)]; done)
                · rw [zset_n ee, hT e]
                  (repeat' split) <;> first | rfl | (exfalso; omega)) (by omega)
              · have h7 : (t : Int) = (i : Int) := h7
                refine jWp.blk mt 2 ?_
                show jWp 43 68 [some (jO s), some (jI (i : Int)), some (jI (t : Int))] [jI (-1), jI ((28 + (4 * (i : Int))) + (t : Int)), jO sc] 0 0 (kA w sc T) _
                refine jWp.iast (pc' := 69) (j := (28 + (4 * i + t))) mt rfl rfl (jtg hkc) (by rw [b32_id (by omega) (by omega)]; omega) (jlt hkc (by omega)) ?_
                rw [show jW (kA w sc T) sc (28 + (4 * i + t)) (-1) = (kA w sc (zset T (28 + (4 * i + t)) (-1))) from kA_W]
                show jWp 43 69 [some (jO s), some (jI (i : Int)), some (jI (t : Int))] [] 0 0 (kA w sc (zset T (28 + (4 * i + t)) (-1))) _
                refine jWp.blk mt 2 ?_
                show jWp 43 38 [some (jO s), some (jI (i : Int)), some (jI ((t : Int) + 1))] [] 0 0 (kA w sc (zset T (28 + (4 * i + t)) (-1))) _
                refine jWp.le (l := [some (jO s), some (jI (i : Int)), some (jI ((t : Int) + 1))]) (by exact ⟨rfl, rfl, rfl, trivial⟩) ?_
                exact ih5 (t + 1) _ (by omega) (fun e => by
                by_cases ee : e = 28 + (4 * i + t)
                · subst ee
                  rw [zset_s, if_neg (by omega), if_neg (by omega), if_pos (by omega)]
                  first | (rw [if_pos (by omega)]; done) | (rw [if_neg (by omega)]; done)
                · rw [zset_n ee, hT e]
                  (repeat' split) <;> first | rfl | (exfalso; omega)) (by omega)
        refine jWp.le (l := [some (jO s), some (jI (i : Int)), some (jI 0)]) (by exact ⟨rfl, rfl, rfl, trivial⟩) ?_
        exact lp4 _ 0 _ (by omega) (fun e => by
                by_cases e4 : e = 4 + i
                · subst e4
                  rw [zset_s, if_neg (by omega), if_pos (by omega)]
                · rw [zset_n e4]
                  by_cases e0 : e = i
                  · subst e0
                    rw [zset_s, if_pos (by omega), hT (24 + e), if_neg (by omega), if_neg (by omega), if_neg (by omega)]
                  · rw [zset_n e0, hT e]
                    (repeat' split) <;> first | rfl | (exfalso; omega)) (Nat.lt_succ_self _)
  refine jWp.le (l := [some (jO s), some (jI 0), none]) (by exact ⟨rfl, rfl, trivial⟩) ?_
  have key := lp1 _ 0 (w.1 sc) (by omega) (fun e => by rw [if_neg (by omega), if_neg (by omega), if_neg (by omega)]) (Nat.lt_succ_self _)
  rw [kA_self] at key
  exact key
theorem zBg_h {q : Nat → Int} {x : Nat} (h : 29 ≤ x) : zBg q x = if (x - 29) / 4 = (x - 29) % 4 then -1 else 0 := by
  unfold zBg
  rw [if_neg (by omega), if_neg (by omega), if_neg (by omega)]
theorem cz_t {q : Nat → Int} {n j : Nat} (h : 8 ≤ j) (g : j < 24) : cz q n j = q (1 + (j - 8)) := by
  unfold cz
  rw [if_neg (by omega), if_neg (by omega), if_pos g]
theorem cz_m {q : Nat → Int} {n j : Nat} (h : 24 ≤ j) (g : j < 28) : cz q n j = if j - 24 < n then q (17 + (j - 24)) else 0 := by
  unfold cz
  rw [if_neg (by omega), if_neg (by omega), if_neg (by omega), if_pos g]
/-- what begins anew, as the class holds it -/
theorem cR_bg {g : Prop} {C T q : Nat → Int} {n : Nat} (h4 : n ≤ 4) (hb : ∀ j, 8 ≤ j → j < 28 → C j = cz q n j) (hz : ∀ j, j < 8 → ¬ j % 4 < n → C j = 0) (hz2 : ∀ j, 28 ≤ j → j < 44 → ¬ ((j - 28) / 4 < n ∧ (j - 28) % 4 < n) → C j = 0)
    (hT : ∀ e, T e = if e < n then C (24 + e) else if 4 ≤ e ∧ e < 4 + n then 1 else if 28 ≤ e ∧ ((e - 28) / 4 < n ∧ (e - 28) % 4 < n) then (if (e - 28) % 4 = (e - 28) / 4 then -1 else 0) else C e) : cR g T (zBg q) n := by
  have b0 : ∀ j, j < 21 → zBg q j = q j := fun j hj => if_pos hj
  have bu : ∀ i, i < 4 → zBg q (21 + i) = q (17 + i) := fun i hi => by
    unfold zBg
    rw [if_neg (by omega), if_pos (by omega), show 21 + i - 4 = 17 + i by omega]
  have bd : ∀ i, i < 4 → zBg q (25 + i) = 1 := fun i hi => by
    unfold zBg
    rw [if_neg (by omega), if_neg (by omega), if_pos (by omega)]
  refine ⟨fun j hj => ?_, fun _ j hj1 hj2 => ?_, fun j hj1 hj2 c => ?_⟩
  · rw [hT j]
    by_cases j1 : j < n
    · rw [if_pos j1, cz_u h4 j1, bu j (by omega), hb (24 + j) (by omega) (by omega), cz_s h4 j1]
    · rw [if_neg j1]
      by_cases j2 : 4 ≤ j ∧ j < 4 + n
      · have ej : j = 4 + (j - 4) := by omega
        rw [if_pos j2, ej, cz_d h4 (by omega), bd _ (by omega)]
      · rw [if_neg j2, if_neg (by omega)]
        by_cases j3 : j < 8
        · rw [hz j j3 (by omega)]
          unfold cz
          by_cases j4 : j < 4
          · rw [if_pos j4, if_neg j1]
          · rw [if_neg j4, if_pos j3, if_neg (by omega)]
        · rw [hb j (by omega) hj]
          by_cases j5 : j < 24
          · have ej : j = 8 + (j - 8) := by omega
            rw [ej, cz_b (by omega), cz_b (by omega), b0 _ (by omega)]
          · by_cases jn : j - 24 < n
            · have ej : j = 24 + (j - 24) := by omega
              rw [ej, cz_s h4 jn, cz_s h4 jn, b0 _ (by omega)]
            · unfold cz
              rw [if_neg (by omega), if_neg j3, if_neg j5, if_pos hj, if_neg jn, if_neg (by omega), if_neg j3, if_neg j5, if_pos hj, if_neg jn]
  · rw [hT j, if_neg (by omega), if_neg (by omega), cz_h hj1]
    by_cases c : (j - 28) / 4 < n ∧ (j - 28) % 4 < n
    · rw [if_pos ⟨hj1, c⟩, if_pos c]
      rw [zBg_h (by omega), show 29 + (j - 28) - 29 = j - 28 by omega]
      by_cases d : (j - 28) % 4 = (j - 28) / 4
      · rw [if_pos d, if_pos d.symm]
      · rw [if_neg d, if_neg (fun x => d x.symm)]
    · rw [if_neg (by omega), if_neg c]
      exact hz2 j hj1 hj2 c
  · rw [hT j, if_neg (by omega), if_neg (by omega), if_neg (by omega)]
    exact hz2 j hj1 hj2 c
theorem cR_z {g : Prop} {C q : Nat → Int} {n : Nat} (h : cR g C q n) : ∀ j, j < 8 → ¬ j % 4 < n → C j = 0 := by
  intro j hj c
  rw [h.1 j (by omega)]
  unfold cz
  by_cases j4 : j < 4
  · rw [if_pos j4, if_neg (by omega)]
  · rw [if_neg j4, if_pos hj, if_neg (by omega)]
/-- one cell of the class's seed, and the same of the reference's -/
theorem cz_set {q : Nat → Int} {n e : Nat} {v : Int} (he : e < 16) : ∀ j, j < 28 → cz (zset q (1 + e) v) n j = if j = 8 + e then v else cz q n j := by
  intro j hj
  by_cases je : j = 8 + e
  · rw [if_pos je, je, cz_b he, zset_s]
  · rw [if_neg je]
    unfold cz
    by_cases a : j < 4
    · rw [if_pos a, if_pos a, zset_n (by omega)]
    · rw [if_neg a, if_neg a]
      by_cases b : j < 8
      · rw [if_pos b, if_pos b, zset_n (by omega)]
      · rw [if_neg b, if_neg b]
        by_cases c : j < 24
        · rw [if_pos c, if_pos c, zset_n (by omega)]
        · rw [if_neg c, if_neg c, if_pos hj, if_pos hj, zset_n (by omega)]
theorem cz_sts {q : Nat → Int} {n i : Nat} {v : Int} (h4 : n ≤ 4) (hi : i < n) : ∀ j, 8 ≤ j → j < 28 → cz (zset q (17 + i) v) n j = if j = 24 + i then v else cz q n j := by
  intro j hj0 hj
  by_cases je : j = 24 + i
  · rw [if_pos je, je, cz_s h4 hi, zset_s]
  · rw [if_neg je]
    by_cases c : j < 24
    · rw [cz_t hj0 c, cz_t hj0 c, zset_n (by omega)]
    · rw [cz_m (by omega) hj, cz_m (by omega) hj, zset_n (by omega)]
theorem C_begin {g : Prop} {w : jS} {s sc n : Nat} {q : Nat → Int} (hks : w.2.1 s = (6, 0)) (hkc : w.2.1 sc = (100, 44)) (hrc : w.2.2.1 s 1 = some sc) (hn0 : w.1 s 0 = (n : Int)) (hn4 : n ≤ 4) (hb : ∀ j, 8 ≤ j → j < 28 → w.1 sc j = cz q n j) (hz : ∀ j, j < 8 → ¬ j % 4 < n → w.1 sc j = 0) (hz2 : ∀ j, 28 ≤ j → j < 44 → ¬ ((j - 28) / 4 < n ∧ (j - 28) % 4 < n) → w.1 sc j = 0) : jCall 43 [jO s] w (fun v w1 => v = none ∧ ∃ T, w1 = kA w sc T ∧ cR g T (zBg q) n) := by
  refine jCall.mono (C_begin0 hks hkc hrc hn0 hn4) (fun v w1 h => ?_)
  obtain ⟨h1, T, h2, h3⟩ := h
  exact ⟨h1, T, h2, cR_bg hn4 hb hz hz2 h3⟩
