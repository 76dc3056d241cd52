/-- the two sums of a degree's rule, over the first letters; and what a degree becomes -/
def zdu (q : Nat → Int) (k c : Nat) : Nat → Int
  | 0 => 0
  | i + 1 => zdu q k c i + if 0 < q (1 + (4 * i + k)) then q (1 + (4 * i + k)) * q (29 + 4 * i + c) else 0
def zdw (q : Nat → Int) (k c : Nat) : Nat → Int
  | 0 => 0
  | i + 1 => zdw q k c i + if q (1 + (4 * i + k)) < 0 then -(q (1 + (4 * i + k))) * q (29 + 4 * i + c) else 0
theorem zdu_t {q : Nat → Int} {k c i : Nat} (h : 0 < q (1 + (4 * i + k))) : zdu q k c (i + 1) = zdu q k c i + q (1 + (4 * i + k)) * q (29 + 4 * i + c) := by
  show _ + (if _ then _ else _) = _
  rw [if_pos h]
theorem zdu_f {q : Nat → Int} {k c i : Nat} (h : ¬ 0 < q (1 + (4 * i + k))) : zdu q k c (i + 1) = zdu q k c i + 0 := by
  show _ + (if _ then _ else _) = _
  rw [if_neg h]
theorem zdw_t {q : Nat → Int} {k c i : Nat} (h : q (1 + (4 * i + k)) < 0) : zdw q k c (i + 1) = zdw q k c i + -(q (1 + (4 * i + k))) * q (29 + 4 * i + c) := by
  show _ + (if _ then _ else _) = _
  rw [if_pos h]
theorem zdw_f {q : Nat → Int} {k c i : Nat} (h : ¬ q (1 + (4 * i + k)) < 0) : zdw q k c (i + 1) = zdw q k c i + 0 := by
  show _ + (if _ then _ else _) = _
  rw [if_neg h]
def zdn (q : Nat → Int) (n k c : Nat) : Int := (if b64 (zdw q k c n) < b64 (zdu q k c n) then zdu q k c n else zdw q k c n) - q (29 + 4 * k + c)
theorem zdu_c {q S : Nat → Int} {k c : Nat} (hk : k < 4) (hc : c < 4) : ∀ i, i ≤ 4 → (∀ j, j < 45 → (1 ≤ j ∧ j < 17 ∨ 29 ≤ j) → S j = q j) → zdu S k c i = zdu q k c i
  | 0, _, _ => rfl
  | i + 1, hi, h => by
    unfold zdu
    rw [zdu_c hk hc i (by omega) h, h (1 + (4 * i + k)) (by omega) (by omega), h (29 + 4 * i + c) (by omega) (by omega)]
theorem zdw_c {q S : Nat → Int} {k c : Nat} (hk : k < 4) (hc : c < 4) : ∀ i, i ≤ 4 → (∀ j, j < 45 → (1 ≤ j ∧ j < 17 ∨ 29 ≤ j) → S j = q j) → zdw S k c i = zdw q k c i
  | 0, _, _ => rfl
  | i + 1, hi, h => by
    unfold zdw
    rw [zdw_c hk hc i (by omega) h, h (1 + (4 * i + k)) (by omega) (by omega), h (29 + 4 * i + c) (by omega) (by omega)]
theorem zdn_c {q S : Nat → Int} {n k c : Nat} (hn : n ≤ 4) (hk : k < 4) (hc : c < 4) (h : ∀ j, j < 45 → (1 ≤ j ∧ j < 17 ∨ 29 ≤ j) → S j = q j) : zdn S n k c = zdn q n k c := by
  unfold zdn
  rw [zdu_c hk hc n hn h, zdw_c hk hc n hn h, h (29 + 4 * k + c) (by omega) (by omega)]
/-- the degrees behind an exchange -/
def zdg (q T : Nat → Int) (n k : Nat) : Prop := (∀ c, c < 4 → T (29 + 4 * k + c) = zdn q n k c) ∧ ∀ i c, i < 4 → c < 4 → i ≠ k → T (29 + 4 * i + c) = q (29 + 4 * i + c)
set_option maxHeartbeats 4000000 in
set_option maxRecDepth 20000 in
theorem E_degrees {w : jS} {m q k n : Nat} (hq : w.2.1 q = (101, 45)) (hR : w.1 q 0 = (n : Int)) (hn : n ≤ 4) (hk : k < 4) (hb : ∀ j, j < 16 → -9 ≤ w.1 q (1 + j) ∧ w.1 q (1 + j) ≤ 9) : jCall 177 [jO m, jO q, jI (k : Int)] w (fun v w1 => v = none ∧ ∃ T, w1 = kA w q T ∧ (∀ j, j < 29 → T j = w.1 q j) ∧ zdg (w.1 q) T n k) := by
  have mt : jtb 177 = jT177 := rfl
  show jWp 177 0 [some (jO m), some (jO q), some (jI (k : Int)), none, none, none, none, none, none, none, none] [] 0 0 w _
  refine jWp.blk mt 2 ?_
  show jWp 177 2 [some (jO m), some (jO q), some (jI (k : Int)), some (jI 0), none, none, none, none, none, none, none] [] 0 0 w _
  have lp1 : ∀ (N : Nat) (c : Nat) (T : Nat → Int) (hc : c ≤ 4) (hT : ∀ j, j < 29 → T j = w.1 q j) (hD : (∀ x, x < c → T (29 + 4 * k + x) = zdn (w.1 q) n k x) ∧ ∀ j, 29 ≤ j → (∀ x, x < c → j ≠ 29 + 4 * k + x) → T j = w.1 q j), 4 - c < N → jWp 177 2 [some (jO m), some (jO q), some (jI (k : Int)), some (jI (c : Int)), none, none, none, none, none, none, none] [] 0 0 (kA w q T) (fun v w1 => v = none ∧ ∃ T, w1 = kA w q T ∧ (∀ j, j < 29 → T j = w.1 q j) ∧ zdg (w.1 q) T n k) := by
    intro N
    induction N with
    | zero => intro c T hc hT hD hm; omega
    | succ N ih2 =>
      intro c T hc hT hD hm
      refine jWp.blk mt 2 ?_
      show jWp 177 4 [some (jO m), some (jO q), some (jI (k : Int)), some (jI (c : Int)), none, none, none, none, none, none, none] [jI 4, jI (c : Int)] 0 0 (kA w q T) _
      refine jWp.icmp (pc' := 7) mt rfl rfl (b32_id (by omega) (by omega)) (show b32 4 = 4 by decide) (fun h3 => ?_) (fun h3 => ?_)
      · have h3 : 4 ≤ (c : Int) := h3
        refine jWp.vret mt rfl ⟨rfl, rfl⟩ rfl ?_
        exact ⟨rfl, T, rfl, hT, fun x hx => hD.1 x (by omega), fun i x hi hx hik => hD.2 _ (by omega) (fun y hy => by omega)⟩
      · have h3 : (c : Int) < 4 := h3
        refine jWp.blk mt 6 ?_
        show jWp 177 16 [some (jO m), some (jO q), some (jI (k : Int)), some (jI (c : Int)), some (jJ 0), none, some (jJ 0), none, some (jI 0), none, none] [] 0 0 (kA w q T) _
        have lp4 : ∀ (N : Nat) (i : Nat) (x y : Int) (hi : i ≤ n) (hx1 : x = zdu (w.1 q) k c i) (hy1 : y = zdw (w.1 q) k c i), n - i < N → jWp 177 16 [some (jO m), some (jO q), some (jI (k : Int)), some (jI (c : Int)), some (jJ x), none, some (jJ y), none, some (jI (i : Int)), none, none] [] 0 0 (kA w q T) (fun v w1 => v = none ∧ ∃ T, w1 = kA w q T ∧ (∀ j, j < 29 → T j = w.1 q j) ∧ zdg (w.1 q) T n k) := by
          intro N
          induction N with
          | zero => intro i x y hi hx1 hy1 hm; omega
          | succ N ih5 =>
            intro i x y hi hx1 hy1 hm
            have hf : i < n → _ := fun h => hb (4 * i + k) (by omega)
            have hc4 : c < 4 := by omega
            refine jWp.blk mt 1 ?_
            show jWp 177 18 [some (jO m), some (jO q), some (jI (k : Int)), some (jI (c : Int)), some (jJ x), none, some (jJ y), none, some (jI (i : Int)), none, none] [jI (i : Int)] 0 0 (kA w q T) _
            refine jWp.i2l (pc' := 19) mt rfl rfl (b32_id (by omega) (by omega)) ?_
            show jWp 177 19 [some (jO m), some (jO q), some (jI (k : Int)), some (jI (c : Int)), some (jJ x), none, some (jJ y), none, some (jI (i : Int)), none, none] [jJ (i : Int)] 0 0 (kA w q T) _
            refine jWp.blk mt 2 ?_
            show _ ∧ jWp 177 21 [some (jO m), some (jO q), some (jI (k : Int)), some (jI (c : Int)), some (jJ x), none, some (jJ y), none, some (jI (i : Int)), none, none] [jI 0, jO q, jJ (i : Int)] 0 0 (kA w q T) _
            refine ⟨rfl, ?_⟩
            refine jWp.lald (pc' := 22) (j := 0) mt rfl rfl (jtg hq) (by decide) (jlt hq (by decide)) ?_
            rw [show ((kA w q T).1 q 0) = (n : Int) from (kA_s.trans ((hT 0 (by decide)).trans hR))]
            show jWp 177 22 [some (jO m), some (jO q), some (jI (k : Int)), some (jI (c : Int)), some (jJ x), none, some (jJ y), none, some (jI (i : Int)), none, none] [jJ (n : Int), jJ (i : Int)] 0 0 (kA w q T) _
            refine jWp.lcmp (pc' := 26) mt rfl rfl rfl (b64_id (by omega) (by omega)) (b64_id (by omega) (by omega)) (fun h6 => ?_) (fun h6 => ?_)
            · have h6 : (n : Int) ≤ (i : Int) := h6
              refine jWp.blk mt 10 ?_
              show _ ∧ jWp 177 115 [some (jO m), some (jO q), some (jI (k : Int)), some (jI (c : Int)), some (jJ x), none, some (jJ y), none, some (jI (i : Int)), none, none] [jJ y, jJ x, jI ((29 + (4 * (k : Int))) + (c : Int)), jO q] 0 0 (kA w q T) _
              refine ⟨rfl, ?_⟩
              refine jWp.lcmp (pc' := 119) mt rfl rfl rfl rfl rfl (fun h7 => ?_) (fun h7 => ?_)
              · have h7 : (b64 x) ≤ (b64 y) := h7
                refine jWp.blk mt 9 ?_
                show _ ∧ jWp 177 135 [some (jO m), some (jO q), some (jI (k : Int)), some (jI (c : Int)), some (jJ x), none, some (jJ y), none, some (jI (i : Int)), none, none] [jI ((29 + (4 * (k : Int))) + (c : Int)), jO q, jJ y, jI ((29 + (4 * (k : Int))) + (c : Int)), jO q] 0 0 (kA w q T) _
                refine ⟨rfl, ?_⟩
                refine jWp.lald (pc' := 136) (j := (29 + 4 * k + c)) mt rfl rfl (jtg hq) (by rw [b32_id (by omega) (by omega)]; omega) (jlt hq (by omega)) ?_
                rw [show ((kA w q T).1 q (29 + 4 * k + c)) = (T (29 + 4 * k + c)) from kA_s]
                show jWp 177 136 [some (jO m), some (jO q), some (jI (k : Int)), some (jI (c : Int)), some (jJ x), none, some (jJ y), none, some (jI (i : Int)), none, none] [jJ (T (29 + 4 * k + c)), jJ y, jI ((29 + (4 * (k : Int))) + (c : Int)), jO q] 0 0 (kA w q T) _
                refine jWp.blk mt 1 ?_
                show jWp 177 137 [some (jO m), some (jO q), some (jI (k : Int)), some (jI (c : Int)), some (jJ x), none, some (jJ y), none, some (jI (i : Int)), none, none] [jJ (y - (T (29 + 4 * k + c))), jI ((29 + (4 * (k : Int))) + (c : Int)), jO q] 0 0 (kA w q T) _
                refine jWp.last (pc' := 138) (j := (29 + 4 * k + c)) mt rfl rfl (jtg hq) (by rw [b32_id (by omega) (by omega)]; omega) (jlt hq (by omega)) ?_
                rw [show jW (kA w q T) q (29 + 4 * k + c) (y - (T (29 + 4 * k + c))) = (kA w q (zset T (29 + 4 * k + c) (y - (T (29 + 4 * k + c))))) from kA_W]
                show jWp 177 138 [some (jO m), some (jO q), some (jI (k : Int)), some (jI (c : Int)), some (jJ x), none, some (jJ y), none, some (jI (i : Int)), none, none] [] 0 0 (kA w q (zset T (29 + 4 * k + c) (y - (T (29 + 4 * k + c))))) _
                refine jWp.blk mt 2 ?_
                show jWp 177 2 [some (jO m), some (jO q), some (jI (k : Int)), some (jI ((c : Int) + 1)), some (jJ x), none, some (jJ y), none, some (jI (i : Int)), none, none] [] 0 0 (kA w q (zset T (29 + 4 * k + c) (y - (T (29 + 4 * k + c))))) _
                refine jWp.le (l := [some (jO m), some (jO q), some (jI (k : Int)), some (jI ((c : Int) + 1)), none, none, none, none, none, none, none]) (by exact ⟨rfl, rfl, rfl, rfl, trivial⟩) ?_
                exact ih2 (c + 1) _ (by omega) (fun j hj => by rw [zset_n (by omega)]; exact hT j hj) ⟨fun x hx => by rcases Nat.lt_or_ge x c with e | e; rw [zset_n (by omega)]; exact hD.1 x e; rw [show x = c by omega, zset_s]; unfold zdn; rw [← show i = n by omega, ← hx1, ← hy1, hD.2 (29 + 4 * k + c) (by omega) (fun x hx => by omega)]; first | rw [if_pos (by omega)] | rw [if_neg (by omega)], fun j h1 h2 => by rw [zset_n (h2 c (by omega))]; exact hD.2 j h1 (fun x hx => h2 x (by omega))⟩ (by omega)
              · have h7 : (b64 y) < (b64 x) := h7
                refine jWp.blk mt 10 ?_
                show _ ∧ jWp 177 135 [some (jO m), some (jO q), some (jI (k : Int)), some (jI (c : Int)), some (jJ x), none, some (jJ y), none, some (jI (i : Int)), none, none] [jI ((29 + (4 * (k : Int))) + (c : Int)), jO q, jJ x, jI ((29 + (4 * (k : Int))) + (c : Int)), jO q] 0 0 (kA w q T) _
                refine ⟨rfl, ?_⟩
                refine jWp.lald (pc' := 136) (j := (29 + 4 * k + c)) mt rfl rfl (jtg hq) (by rw [b32_id (by omega) (by omega)]; omega) (jlt hq (by omega)) ?_
                rw [show ((kA w q T).1 q (29 + 4 * k + c)) = (T (29 + 4 * k + c)) from kA_s]
                show jWp 177 136 [some (jO m), some (jO q), some (jI (k : Int)), some (jI (c : Int)), some (jJ x), none, some (jJ y), none, some (jI (i : Int)), none, none] [jJ (T (29 + 4 * k + c)), jJ x, jI ((29 + (4 * (k : Int))) + (c : Int)), jO q] 0 0 (kA w q T) _
                refine jWp.blk mt 1 ?_
                show jWp 177 137 [some (jO m), some (jO q), some (jI (k : Int)), some (jI (c : Int)), some (jJ x), none, some (jJ y), none, some (jI (i : Int)), none, none] [jJ (x - (T (29 + 4 * k + c))), jI ((29 + (4 * (k : Int))) + (c : Int)), jO q] 0 0 (kA w q T) _
                refine jWp.last (pc' := 138) (j := (29 + 4 * k + c)) mt rfl rfl (jtg hq) (by rw [b32_id (by omega) (by omega)]; omega) (jlt hq (by omega)) ?_
                rw [show jW (kA w q T) q (29 + 4 * k + c) (x - (T (29 + 4 * k + c))) = (kA w q (zset T (29 + 4 * k + c) (x - (T (29 + 4 * k + c))))) from kA_W]
                show jWp 177 138 [some (jO m), some (jO q), some (jI (k : Int)), some (jI (c : Int)), some (jJ x), none, some (jJ y), none, some (jI (i : Int)), none, none] [] 0 0 (kA w q (zset T (29 + 4 * k + c) (x - (T (29 + 4 * k + c))))) _
                refine jWp.blk mt 2 ?_
                show jWp 177 2 [some (jO m), some (jO q), some (jI (k : Int)), some (jI ((c : Int) + 1)), some (jJ x), none, some (jJ y), none, some (jI (i : Int)), none, none] [] 0 0 (kA w q (zset T (29 + 4 * k + c) (x - (T (29 + 4 * k + c))))) _
                refine jWp.le (l := [some (jO m), some (jO q), some (jI (k : Int)), some (jI ((c : Int) + 1)), none, none, none, none, none, none, none]) (by exact ⟨rfl, rfl, rfl, rfl, trivial⟩) ?_
                exact ih2 (c + 1) _ (by omega) (fun j hj => by rw [zset_n (by omega)]; exact hT j hj) ⟨fun x hx => by rcases Nat.lt_or_ge x c with e | e; rw [zset_n (by omega)]; exact hD.1 x e; rw [show x = c by omega, zset_s]; unfold zdn; rw [← show i = n by omega, ← hx1, ← hy1, hD.2 (29 + 4 * k + c) (by omega) (fun x hx => by omega)]; first | rw [if_pos (by omega)] | rw [if_neg (by omega)], fun j h1 h2 => by rw [zset_n (h2 c (by omega))]; exact hD.2 j h1 (fun x hx => h2 x (by omega))⟩ (by omega)
            · have h6 : (i : Int) < (n : Int) := h6
              refine jWp.blk mt 3 ?_
              show _ ∧ jWp 177 30 [some (jO m), some (jO q), some (jI (k : Int)), some (jI (c : Int)), some (jJ x), none, some (jJ y), none, some (jI (i : Int)), none, none] [jI (k : Int), jI (i : Int), jO q] 0 0 (kA w q T) _
              refine ⟨rfl, ?_⟩
              refine jWp.calls (as := [jO q, jI (i : Int), jI (k : Int)]) (rest := []) mt rfl rfl rfl rfl ?_
              refine jCall.mono ((show jCall 163 [jO q, jI (i : Int), jI (k : Int)] (kA w q T) (jvj (w.1 q (1 + (4 * i + k))) (kA w q T)) from by have h := E_b (w := (kA w q T)) (i := i) (k := k) hq (by omega) (by omega) (by omega); rw [kA_s, hT _ (by omega)] at h; exact h)) (fun v9 w9 h9 => ?_)
              obtain ⟨rfl, h9⟩ := h9
              subst w9
              show jWp 177 33 [some (jO m), some (jO q), some (jI (k : Int)), some (jI (c : Int)), some (jJ x), none, some (jJ y), none, some (jI (i : Int)), none, none] [jJ (w.1 q (1 + (4 * i + k)))] 0 0 (kA w q T) _
              refine jWp.blk mt 4 ?_
              show jWp 177 40 [some (jO m), some (jO q), some (jI (k : Int)), some (jI (c : Int)), some (jJ x), none, some (jJ y), none, some (jI (i : Int)), some (jJ (w.1 q (1 + (4 * i + k)))), none] [jJ 0, jJ (w.1 q (1 + (4 * i + k))), jJ x] 0 0 (kA w q T) _
              refine jWp.lcmp (pc' := 44) mt rfl rfl rfl (b64_id (by omega) (by omega)) (show b64 0 = 0 by decide) (fun h8 => ?_) (fun h8 => ?_)
              · have h8 : (w.1 q (1 + (4 * i + k))) ≤ 0 := h8
                refine jWp.blk mt 6 ?_
                show jWp 177 70 [some (jO m), some (jO q), some (jI (k : Int)), some (jI (c : Int)), some (jJ (x + 0)), none, some (jJ y), none, some (jI (i : Int)), some (jJ (w.1 q (1 + (4 * i + k)))), none] [jJ 0, jJ (w.1 q (1 + (4 * i + k))), jJ y] 0 0 (kA w q T) _
                refine jWp.lcmp (pc' := 74) mt rfl rfl rfl (b64_id (by omega) (by omega)) (show b64 0 = 0 by decide) (fun h9 => ?_) (fun h9 => ?_)
                · have h9 : 0 ≤ (w.1 q (1 + (4 * i + k))) := h9
                  refine jWp.blk mt 5 ?_
                  show jWp 177 16 [some (jO m), some (jO q), some (jI (k : Int)), some (jI (c : Int)), some (jJ (x + 0)), none, some (jJ (y + 0)), none, some (jI ((i : Int) + 1)), some (jJ (w.1 q (1 + (4 * i + k)))), none] [] 0 0 (kA w q T) _
                  refine jWp.le (l := [some (jO m), some (jO q), some (jI (k : Int)), some (jI (c : Int)), some (jJ (x + 0)), none, some (jJ (y + 0)), none, some (jI ((i : Int) + 1)), none, none]) (by exact ⟨rfl, rfl, rfl, rfl, rfl, rfl, rfl, trivial⟩) ?_
                  exact ih5 (i + 1) _ _ (by omega) (by rw [hx1]; first | (rw [zdu_f (by omega)]; done) | (rw [zdu_t (by omega), hD.2 (29 + 4 * i + c) (by omega) (fun x hx => by omega)]; done)) (by rw [hy1]; first | (rw [zdw_f (by omega)]; done) | (rw [zdw_t (by omega), hD.2 (29 + 4 * i + c) (by omega) (fun x hx => by omega)]; done)) (by omega)
                · have h9 : (w.1 q (1 + (4 * i + k))) < 0 := h9
                  refine jWp.blk mt 10 ?_
                  show _ ∧ jWp 177 87 [some (jO m), some (jO q), some (jI (k : Int)), some (jI (c : Int)), some (jJ (x + 0)), none, some (jJ y), none, some (jI (i : Int)), some (jJ (w.1 q (1 + (4 * i + k)))), none] [jI ((29 + (4 * (i : Int))) + (c : Int)), jO q, jJ (-(w.1 q (1 + (4 * i + k)))), jJ y] 0 0 (kA w q T) _
                  refine ⟨rfl, ?_⟩
                  refine jWp.lald (pc' := 88) (j := (29 + 4 * i + c)) mt rfl rfl (jtg hq) (by rw [b32_id (by omega) (by omega)]; omega) (jlt hq (by omega)) ?_
                  rw [show ((kA w q T).1 q (29 + 4 * i + c)) = (T (29 + 4 * i + c)) from kA_s]
                  show jWp 177 88 [some (jO m), some (jO q), some (jI (k : Int)), some (jI (c : Int)), some (jJ (x + 0)), none, some (jJ y), none, some (jI (i : Int)), some (jJ (w.1 q (1 + (4 * i + k)))), none] [jJ (T (29 + 4 * i + c)), jJ (-(w.1 q (1 + (4 * i + k)))), jJ y] 0 0 (kA w q T) _
                  refine jWp.blk mt 6 ?_
                  show jWp 177 16 [some (jO m), some (jO q), some (jI (k : Int)), some (jI (c : Int)), some (jJ (x + 0)), none, some (jJ (y + ((-(w.1 q (1 + (4 * i + k)))) * (T (29 + 4 * i + c))))), none, some (jI ((i : Int) + 1)), some (jJ (w.1 q (1 + (4 * i + k)))), none] [] 0 0 (kA w q T) _
                  refine jWp.le (l := [some (jO m), some (jO q), some (jI (k : Int)), some (jI (c : Int)), some (jJ (x + 0)), none, some (jJ (y + ((-(w.1 q (1 + (4 * i + k)))) * (T (29 + 4 * i + c))))), none, some (jI ((i : Int) + 1)), none, none]) (by exact ⟨rfl, rfl, rfl, rfl, rfl, rfl, rfl, trivial⟩) ?_
                  exact ih5 (i + 1) _ _ (by omega) (by rw [hx1]; first | (rw [zdu_f (by omega)]; done) | (rw [zdu_t (by omega), hD.2 (29 + 4 * i + c) (by omega) (fun x hx => by omega)]; done)) (by rw [hy1]; first | (rw [zdw_f (by omega)]; done) | (rw [zdw_t (by omega), hD.2 (29 + 4 * i + c) (by omega) (fun x hx => by omega)]; done)) (by omega)
              · have h8 : 0 < (w.1 q (1 + (4 * i + k))) := h8
                refine jWp.blk mt 9 ?_
                show _ ∧ jWp 177 56 [some (jO m), some (jO q), some (jI (k : Int)), some (jI (c : Int)), some (jJ x), none, some (jJ y), none, some (jI (i : Int)), some (jJ (w.1 q (1 + (4 * i + k)))), none] [jI ((29 + (4 * (i : Int))) + (c : Int)), jO q, jJ (w.1 q (1 + (4 * i + k))), jJ x] 0 0 (kA w q T) _
                refine ⟨rfl, ?_⟩
                refine jWp.lald (pc' := 57) (j := (29 + 4 * i + c)) mt rfl rfl (jtg hq) (by rw [b32_id (by omega) (by omega)]; omega) (jlt hq (by omega)) ?_
                rw [show ((kA w q T).1 q (29 + 4 * i + c)) = (T (29 + 4 * i + c)) from kA_s]
                show jWp 177 57 [some (jO m), some (jO q), some (jI (k : Int)), some (jI (c : Int)), some (jJ x), none, some (jJ y), none, some (jI (i : Int)), some (jJ (w.1 q (1 + (4 * i + k)))), none] [jJ (T (29 + 4 * i + c)), jJ (w.1 q (1 + (4 * i + k))), jJ x] 0 0 (kA w q T) _
                refine jWp.blk mt 7 ?_
                show jWp 177 70 [some (jO m), some (jO q), some (jI (k : Int)), some (jI (c : Int)), some (jJ (x + ((w.1 q (1 + (4 * i + k))) * (T (29 + 4 * i + c))))), none, some (jJ y), none, some (jI (i : Int)), some (jJ (w.1 q (1 + (4 * i + k)))), none] [jJ 0, jJ (w.1 q (1 + (4 * i + k))), jJ y] 0 0 (kA w q T) _
                refine jWp.lcmp (pc' := 74) mt rfl rfl rfl (b64_id (by omega) (by omega)) (show b64 0 = 0 by decide) (fun h10 => ?_) (fun h10 => ?_)
                · have h10 : 0 ≤ (w.1 q (1 + (4 * i + k))) := h10
                  refine jWp.blk mt 5 ?_
                  show jWp 177 16 [some (jO m), some (jO q), some (jI (k : Int)), some (jI (c : Int)), some (jJ (x + ((w.1 q (1 + (4 * i + k))) * (T (29 + 4 * i + c))))), none, some (jJ (y + 0)), none, some (jI ((i : Int) + 1)), some (jJ (w.1 q (1 + (4 * i + k)))), none] [] 0 0 (kA w q T) _
                  refine jWp.le (l := [some (jO m), some (jO q), some (jI (k : Int)), some (jI (c : Int)), some (jJ (x + ((w.1 q (1 + (4 * i + k))) * (T (29 + 4 * i + c))))), none, some (jJ (y + 0)), none, some (jI ((i : Int) + 1)), none, none]) (by exact ⟨rfl, rfl, rfl, rfl, rfl, rfl, rfl, trivial⟩) ?_
                  exact ih5 (i + 1) _ _ (by omega) (by rw [hx1]; first | (rw [zdu_f (by omega)]; done) | (rw [zdu_t (by omega), hD.2 (29 + 4 * i + c) (by omega) (fun x hx => by omega)]; done)) (by rw [hy1]; first | (rw [zdw_f (by omega)]; done) | (rw [zdw_t (by omega), hD.2 (29 + 4 * i + c) (by omega) (fun x hx => by omega)]; done)) (by omega)
                · have h10 : (w.1 q (1 + (4 * i + k))) < 0 := h10
                  refine jWp.blk mt 10 ?_
                  show _ ∧ jWp 177 87 [some (jO m), some (jO q), some (jI (k : Int)), some (jI (c : Int)), some (jJ (x + ((w.1 q (1 + (4 * i + k))) * (T (29 + 4 * i + c))))), none, some (jJ y), none, some (jI (i : Int)), some (jJ (w.1 q (1 + (4 * i + k)))), none] [jI ((29 + (4 * (i : Int))) + (c : Int)), jO q, jJ (-(w.1 q (1 + (4 * i + k)))), jJ y] 0 0 (kA w q T) _
                  refine ⟨rfl, ?_⟩
                  refine jWp.lald (pc' := 88) (j := (29 + 4 * i + c)) mt rfl rfl (jtg hq) (by rw [b32_id (by omega) (by omega)]; omega) (jlt hq (by omega)) ?_
                  rw [show ((kA w q T).1 q (29 + 4 * i + c)) = (T (29 + 4 * i + c)) from kA_s]
                  show jWp 177 88 [some (jO m), some (jO q), some (jI (k : Int)), some (jI (c : Int)), some (jJ (x + ((w.1 q (1 + (4 * i + k))) * (T (29 + 4 * i + c))))), none, some (jJ y), none, some (jI (i : Int)), some (jJ (w.1 q (1 + (4 * i + k)))), none] [jJ (T (29 + 4 * i + c)), jJ (-(w.1 q (1 + (4 * i + k)))), jJ y] 0 0 (kA w q T) _
                  refine jWp.blk mt 6 ?_
                  show jWp 177 16 [some (jO m), some (jO q), some (jI (k : Int)), some (jI (c : Int)), some (jJ (x + ((w.1 q (1 + (4 * i + k))) * (T (29 + 4 * i + c))))), none, some (jJ (y + ((-(w.1 q (1 + (4 * i + k)))) * (T (29 + 4 * i + c))))), none, some (jI ((i : Int) + 1)), some (jJ (w.1 q (1 + (4 * i + k)))), none] [] 0 0 (kA w q T) _
                  refine jWp.le (l := [some (jO m), some (jO q), some (jI (k : Int)), some (jI (c : Int)), some (jJ (x + ((w.1 q (1 + (4 * i + k))) * (T (29 + 4 * i + c))))), none, some (jJ (y + ((-(w.1 q (1 + (4 * i + k)))) * (T (29 + 4 * i + c))))), none, some (jI ((i : Int) + 1)), none, none]) (by exact ⟨rfl, rfl, rfl, rfl, rfl, rfl, rfl, trivial⟩) ?_
                  exact ih5 (i + 1) _ _ (by omega) (by rw [hx1]; first | (rw [zdu_f (by omega)]; done) | (rw [zdu_t (by omega), hD.2 (29 + 4 * i + c) (by omega) (fun x hx => by omega)]; done)) (by rw [hy1]; first | (rw [zdw_f (by omega)]; done) | (rw [zdw_t (by omega), hD.2 (29 + 4 * i + c) (by omega) (fun x hx => by omega)]; done)) (by omega)
        refine jWp.le (l := [some (jO m), some (jO q), some (jI (k : Int)), some (jI (c : Int)), some (jJ 0), none, some (jJ 0), none, some (jI 0), none, none]) (by exact ⟨rfl, rfl, rfl, rfl, rfl, rfl, rfl, trivial⟩) ?_
        exact lp4 _ 0 0 0 (by omega) rfl rfl (Nat.lt_succ_self _)
  refine jWp.le (l := [some (jO m), some (jO q), some (jI (k : Int)), some (jI 0), none, none, none, none, none, none, none]) (by exact ⟨rfl, rfl, rfl, rfl, trivial⟩) ?_
  have key := lp1 _ 0 (w.1 q) (by omega) (fun e he => rfl) ⟨fun x hx => absurd hx (by omega), fun j _ _ => rfl⟩ (Nat.lt_succ_self _)
  rw [kA_self] at key
  exact key
theorem jF2_f {w : jS} {m a : Nat} {u v : Int} (h : a ≠ m) : (jF2 w m u v).1 a = w.1 a := funext fun _ => jF2_a h
theorem kA_f {w : jS} {a b : Nat} {T : Nat → Int} (h : b ≠ a) : (kA w a T).1 b = w.1 b := funext fun _ => kA_a h
theorem kne {G : Nat → Nat × Nat} {a b t t' n n' : Nat} (ha : G a = (t, n)) (hb : G b = (t', n')) (h : t ≠ t') : a ≠ b := fun e => h (by rw [e, hb] at ha; exact (congrArg Prod.fst ha).symm)
theorem kne2 {G : Nat → Nat × Nat} {a b t t' n n' : Nat} (ha : G a = (t, n)) (hb : G b = (t', n')) (h : n ≠ n') : a ≠ b := fun e => h (by rw [e, hb] at ha; exact (congrArg Prod.snd ha).symm)
def zmk (q : Nat → Int) (n k : Nat) (sg : Int) : Option (Int × Int) := zml (fun i => q (21 + i)) (fun i => q (25 + i)) (fun i => sg * q (1 + (4 * i + k))) n 0 (1, 1)
/-- what a value becomes -/
def zxv (q : Nat → Int) (n k : Nat) : Option (Int × Int) :=
  match zmk q n k 1 with
  | none => none
  | some p =>
    match zmk q n k (-1) with
    | none => none
    | some r =>
      if zok (p.1 * r.2 + r.1 * p.2) (p.2 * r.2) then
        if zok (zu (p.1 * r.2 + r.1 * p.2) (p.2 * r.2) * q (25 + k)) (zv (p.1 * r.2 + r.1 * p.2) (p.2 * r.2) * q (21 + k)) then
          some (zu (zu (p.1 * r.2 + r.1 * p.2) (p.2 * r.2) * q (25 + k)) (zv (p.1 * r.2 + r.1 * p.2) (p.2 * r.2) * q (21 + k)), zv (zu (p.1 * r.2 + r.1 * p.2) (p.2 * r.2) * q (25 + k)) (zv (p.1 * r.2 + r.1 * p.2) (p.2 * r.2) * q (21 + k)))
        else none
      else none
/-- a seed of the reference: so many letters, small values, small entries -/
def zS (q : Nat → Int) (n : Nat) : Prop := q 0 = (n : Int) ∧ 2 ≤ n ∧ n ≤ 4 ∧ (∀ i, i < 4 → zsm (q (21 + i), q (25 + i))) ∧ (∀ j, j < 16 → -9 ≤ q (1 + j) ∧ q (1 + j) ≤ 9)
theorem zS.n0 {q : Nat → Int} {n : Nat} (h : zS q n) : q 0 = (n : Int) := h.1
theorem zS.n2 {q : Nat → Int} {n : Nat} (h : zS q n) : 2 ≤ n := h.2.1
theorem zS.n4 {q : Nat → Int} {n : Nat} (h : zS q n) : n ≤ 4 := h.2.2.1
theorem zS.v {q : Nat → Int} {n : Nat} (h : zS q n) : ∀ i, i < 4 → zsm (q (21 + i), q (25 + i)) := h.2.2.2.1
theorem zS.b {q : Nat → Int} {n : Nat} (h : zS q n) : ∀ j, j < 16 → -9 ≤ q (1 + j) ∧ q (1 + j) ≤ 9 := h.2.2.2.2
theorem E_mulk {w : jS} {m q L k n : Nat} {x y : Int} (hM : w.2.1 m = (10, L)) (hq : w.2.1 q = (101, 45)) (hS : zS (w.1 q) n) (hk : k < 4) {sg : Int} (hs : sg = 1 ∨ sg = -1) : jCall 174 [jO m, jO q, jI (k : Int), jJ sg] (jF2 w m x y) (fun v w1 => ∃ x y, w1 = jF2 w m x y ∧ ((v = some (jI 1) ∧ zmk (w.1 q) n k sg = some (x, y) ∧ zsm (x, y)) ∨ (v = some (jI 0) ∧ zmk (w.1 q) n k sg = none))) := by
  have hqm : q ≠ m := kne hq hM (by decide)
  have e : (jF2 w m x y).1 q = w.1 q := jF2_f hqm
  have h := E_multiplies (w := jF2 w m x y) hM hq hqm (by rw [e]; exact hS.n0) hS.n4 hk (by rw [e]; exact hS.v) (by rw [e]; exact hS.b) hs
  refine jCall.mono h (fun v w1 h => ?_)
  obtain ⟨x1, y1, h1, h2⟩ := h
  rw [jF2_F] at h1
  rw [e] at h2
  exact ⟨x1, y1, h1, h2⟩
theorem E_tabk {w : jS} {m q tb L k n : Nat} {x y : Int} (hM : w.2.1 m = (10, L)) (ht : w.2.2.1 m 13 = some tb) (hq : w.2.1 q = (101, 45)) (htb : w.2.1 tb = (101, 16)) (hS : zS (w.1 q) n) (hk : k < 4) : jCall 176 [jO m, jO q, jI (k : Int)] (jF2 w m x y) (fun v w1 => ∃ T, w1 = kA (jF2 w m x y) tb T ∧ ((v = some (jI 1) ∧ (∀ e, e < 16 → T e = zxe (fun e => w.1 q (1 + e)) k e) ∧ zxt (fun e => w.1 q (1 + e)) k) ∨ (v = some (jI 0) ∧ ¬ zxt (fun e => w.1 q (1 + e)) k))) := by
  have hqm : q ≠ m := kne hq hM (by decide)
  have e : (jF2 w m x y).1 q = w.1 q := jF2_f hqm
  have h := E_isTable (w := jF2 w m x y) hM ht hq htb (kne2 hq htb (by decide)) hk (by rw [e]; exact hS.b)
  refine jCall.mono h (fun v w1 h => ?_)
  rw [e] at h
  obtain ⟨T, h1, h2⟩ := h
  refine ⟨T, h1, ?_⟩
  rcases h2 with ⟨h2, h3⟩ | h2
  · exact Or.inl ⟨h2, fun e he => (h3 e he).1, fun e he => by rw [← (h3 e he).1]; exact (h3 e he).2⟩
  · exact Or.inr h2
def jX (w : jS) (m tb q : Nat) (u v : Int) (T S : Nat → Int) : jS := kA (kA (jF2 w m u v) tb T) q S
theorem jX_0 {w : jS} {m tb q : Nat} {u v : Int} {T : Nat → Int} (h1 : q ≠ m) (h2 : q ≠ tb) : kA (jF2 w m u v) tb T = jX w m tb q u v T (w.1 q) := by
  unfold jX
  have e : (kA (jF2 w m u v) tb T).1 q = w.1 q := (kA_f h2).trans (jF2_f h1)
  rw [← e, kA_self]
theorem jX_W {w : jS} {m tb q k : Nat} {u v x : Int} {T S : Nat → Int} : jW (jX w m tb q u v T S) q k x = jX w m tb q u v T (zset S k x) := kA_W
theorem jX_q {w : jS} {m tb q j : Nat} {u v : Int} {T S : Nat → Int} : (jX w m tb q u v T S).1 q j = S j := kA_s
theorem jX_t {w : jS} {m tb q j : Nat} {u v : Int} {T S : Nat → Int} (h : q ≠ tb) : (jX w m tb q u v T S).1 tb j = T j := (kA_a (Ne.symm h)).trans kA_s
theorem jX_u {w : jS} {m tb q : Nat} {u v : Int} {T S : Nat → Int} (h1 : q ≠ m) (h2 : tb ≠ m) : (jX w m tb q u v T S).1 m 11 = u := (kA_a (Ne.symm h1)).trans ((kA_a (Ne.symm h2)).trans jF2_11)
theorem jX_v {w : jS} {m tb q : Nat} {u v : Int} {T S : Nat → Int} (h1 : q ≠ m) (h2 : tb ≠ m) : (jX w m tb q u v T S).1 m 12 = v := (kA_a (Ne.symm h1)).trans ((kA_a (Ne.symm h2)).trans jF2_12)
theorem jF2_0 {w : jS} {m : Nat} : jF2 w m (w.1 m 11) (w.1 m 12) = w := by
  unfold jF2 jW jup
  show (_, w.2) = (w.1, w.2)
  congr 1
  funext b j
  by_cases hb : b = m <;> by_cases h1 : j = 11 <;> by_cases h2 : j = 12 <;> simp [hb, h1, h2]
theorem jX_1 {w : jS} {m tb q : Nat} {u v : Int} (h1 : q ≠ m) (h2 : q ≠ tb) (h3 : tb ≠ m) : jF2 w m u v = jX w m tb q u v (w.1 tb) (w.1 q) := by
  rw [← jX_0 h1 h2]
  have e : (jF2 w m u v).1 tb = w.1 tb := jF2_f h3
  rw [← e, kA_self]
set_option maxHeartbeats 4000000 in
set_option maxRecDepth 20000 in
theorem E_exchanges {w : jS} {m q tb L k n : Nat} (hM : w.2.1 m = (10, L)) (ht : w.2.2.1 m 13 = some tb) (hq : w.2.1 q = (101, 45)) (htb : w.2.1 tb = (101, 16)) (hS : zS (w.1 q) n) (hk : k < 4) : jCall 178 [jO m, jO q, jI (k : Int)] w (fun v w1 => ∃ x y T S, w1 = jX w m tb q x y T S ∧ ((v = some (jI 1) ∧ zxv (w.1 q) n k = some (x, y) ∧ zxt (fun e => w.1 q (1 + e)) k ∧ (∀ e, e < 16 → S (1 + e) = zxe (fun e => w.1 q (1 + e)) k e) ∧ S (21 + k) = x ∧ S (25 + k) = y ∧ (∀ j, j < 29 → (j < 1 ∨ 17 ≤ j) → j ≠ 21 + k → j ≠ 25 + k → S j = w.1 q j) ∧ zdg (w.1 q) S n k) ∨ (v = some (jI 0) ∧ S = w.1 q ∧ ¬ (zxt (fun e => w.1 q (1 + e)) k ∧ (zxv (w.1 q) n k).isSome)))) := by
  have mt : jtb 178 = jT178 := rfl
  have hqm : q ≠ m := kne hq hM (by decide)
  have hqt : q ≠ tb := kne2 hq htb (by decide)
  have htm : tb ≠ m := kne htb hM (by decide)
  have hvk : 1 ≤ w.1 q (21 + k) ∧ w.1 q (21 + k) ≤ 1000000000 ∧ 1 ≤ w.1 q (25 + k) ∧ w.1 q (25 + k) ≤ 1000000000 := hS.v k hk
  show jWp 178 0 [some (jO m), some (jO q), some (jI (k : Int)), none, none, none, none, none] [] 0 0 w _
  refine jWp.blk mt 4 ?_
  show _ ∧ _ ∧ jWp 178 4 [some (jO m), some (jO q), some (jI (k : Int)), none, none, none, none, none] [jJ 1, jI (k : Int), jO q, jO m] 0 0 w _
  refine ⟨rfl, rfl, ?_⟩
  refine jWp.callv (as := [jO m, jO q, jI (k : Int), jJ 1]) (rest := []) mt rfl rfl rfl ⟨rfl, jtg hM⟩ ?_
  refine jCall.mono ((by have h := E_mulk (x := w.1 m 11) (y := w.1 m 12) hM hq hS hk (Or.inl rfl); rw [jF2_0] at h; exact h)) (fun v9 w9 h9 => ?_)
  obtain ⟨x1, y1, h9, hh⟩ := h9
  subst h9
  rcases hh with ⟨rfl, e1, s1⟩ | ⟨rfl, e1⟩
  · have s1' := s1
    have s1 : 1 ≤ x1 ∧ x1 ≤ 1000000000 ∧ 1 ≤ y1 ∧ y1 ≤ 1000000000 := s1'
    show jWp 178 7 [some (jO m), some (jO q), some (jI (k : Int)), none, none, none, none, none] [jI 1] 0 0 (jF2 w m x1 y1) _
    refine jWp.ifc (b := true) mt rfl (by decide) rfl ?_
    show jWp 178 12 [some (jO m), some (jO q), some (jI (k : Int)), none, none, none, none, none] [] 0 0 (jF2 w m x1 y1) _
    refine jWp.blk mt 1 ?_
    show _ ∧ jWp 178 13 [some (jO m), some (jO q), some (jI (k : Int)), none, none, none, none, none] [jO m] 0 0 (jF2 w m x1 y1) _
    refine ⟨rfl, ?_⟩
    refine jWp.getJ (pc' := 16) mt rfl rfl (jtg hM) ?_
    rw [show ((jF2 w m x1 y1).1 m 11) = x1 from jF2_11]
    show jWp 178 16 [some (jO m), some (jO q), some (jI (k : Int)), none, none, none, none, none] [jJ x1] 0 0 (jF2 w m x1 y1) _
    refine jWp.blk mt 2 ?_
    show _ ∧ jWp 178 18 [some (jO m), some (jO q), some (jI (k : Int)), some (jJ x1), none, none, none, none] [jO m] 0 0 (jF2 w m x1 y1) _
    refine ⟨rfl, ?_⟩
    refine jWp.getJ (pc' := 21) mt rfl rfl (jtg hM) ?_
    rw [show ((jF2 w m x1 y1).1 m 12) = y1 from jF2_12]
    show jWp 178 21 [some (jO m), some (jO q), some (jI (k : Int)), some (jJ x1), none, none, none, none] [jJ y1] 0 0 (jF2 w m x1 y1) _
    refine jWp.blk mt 5 ?_
    show _ ∧ _ ∧ jWp 178 29 [some (jO m), some (jO q), some (jI (k : Int)), some (jJ x1), none, some (jJ y1), none, none] [jJ (-1), jI (k : Int), jO q, jO m] 0 0 (jF2 w m x1 y1) _
    refine ⟨rfl, rfl, ?_⟩
    refine jWp.callv (as := [jO m, jO q, jI (k : Int), jJ (-1)]) (rest := []) mt rfl rfl rfl ⟨rfl, jtg hM⟩ ?_
    refine jCall.mono (E_mulk hM hq hS hk (Or.inr rfl)) (fun v9 w9 h9 => ?_)
    obtain ⟨x2, y2, h9, hh⟩ := h9
    subst h9
    rcases hh with ⟨rfl, e2, s2⟩ | ⟨rfl, e2⟩
    · have s2' := s2
      have s2 : 1 ≤ x2 ∧ x2 ≤ 1000000000 ∧ 1 ≤ y2 ∧ y2 ≤ 1000000000 := s2'
      show jWp 178 32 [some (jO m), some (jO q), some (jI (k : Int)), some (jJ x1), none, some (jJ y1), none, none] [jI 1] 0 0 (jF2 w m x2 y2) _
      refine jWp.ifc (b := true) mt rfl (by decide) rfl ?_
      show jWp 178 37 [some (jO m), some (jO q), some (jI (k : Int)), some (jJ x1), none, some (jJ y1), none, none] [] 0 0 (jF2 w m x2 y2) _
      refine jWp.blk mt 3 ?_
      show _ ∧ _ ∧ jWp 178 40 [some (jO m), some (jO q), some (jI (k : Int)), some (jJ x1), none, some (jJ y1), none, none] [jO m, jJ x1, jO m] 0 0 (jF2 w m x2 y2) _
      refine ⟨rfl, rfl, ?_⟩
      refine jWp.getJ (pc' := 43) mt rfl rfl (jtg hM) ?_
      rw [show ((jF2 w m x2 y2).1 m 12) = y2 from jF2_12]
      show jWp 178 43 [some (jO m), some (jO q), some (jI (k : Int)), some (jJ x1), none, some (jJ y1), none, none] [jJ y2, jJ x1, jO m] 0 0 (jF2 w m x2 y2) _
      refine jWp.blk mt 2 ?_
      show _ ∧ jWp 178 45 [some (jO m), some (jO q), some (jI (k : Int)), some (jJ x1), none, some (jJ y1), none, none] [jO m, jJ (x1 * y2), jO m] 0 0 (jF2 w m x2 y2) _
      refine ⟨rfl, ?_⟩
      refine jWp.getJ (pc' := 48) mt rfl rfl (jtg hM) ?_
      rw [show ((jF2 w m x2 y2).1 m 11) = x2 from jF2_11]
      show jWp 178 48 [some (jO m), some (jO q), some (jI (k : Int)), some (jJ x1), none, some (jJ y1), none, none] [jJ x2, jJ (x1 * y2), jO m] 0 0 (jF2 w m x2 y2) _
      refine jWp.blk mt 5 ?_
      show _ ∧ jWp 178 55 [some (jO m), some (jO q), some (jI (k : Int)), some (jJ x1), none, some (jJ y1), none, none] [jO m, jJ y1, jJ ((x1 * y2) + (x2 * y1)), jO m] 0 0 (jF2 w m x2 y2) _
      refine ⟨rfl, ?_⟩
      refine jWp.getJ (pc' := 58) mt rfl rfl (jtg hM) ?_
      rw [show ((jF2 w m x2 y2).1 m 12) = y2 from jF2_12]
      show jWp 178 58 [some (jO m), some (jO q), some (jI (k : Int)), some (jJ x1), none, some (jJ y1), none, none] [jJ y2, jJ y1, jJ ((x1 * y2) + (x2 * y1)), jO m] 0 0 (jF2 w m x2 y2) _
      refine jWp.blk mt 1 ?_
      show jWp 178 59 [some (jO m), some (jO q), some (jI (k : Int)), some (jJ x1), none, some (jJ y1), none, none] [jJ (y1 * y2), jJ ((x1 * y2) + (x2 * y1)), jO m] 0 0 (jF2 w m x2 y2) _
      refine jWp.callv (as := [jO m, jJ ((x1 * y2) + (x2 * y1)), jJ (y1 * y2)]) (rest := []) mt rfl rfl rfl ⟨rfl, jtg hM⟩ ?_
      refine jCall.mono (E_small hM (show 0 ≤ ((x1 * y2) + (x2 * y1)) ∧ ((x1 * y2) + (x2 * y1)) < 9223372036854775808 by have q1 := zmul_b s1.1 s1.2.1 s2.2.2.1 s2.2.2.2; have q2 := zmul_b s2.1 s2.2.1 s1.2.2.1 s1.2.2.2; have q3 := zmul_b s1.2.2.1 s1.2.2.2 s2.2.2.1 s2.2.2.2; omega) (show 0 < (y1 * y2) ∧ (y1 * y2) < 9223372036854775808 by have q1 := zmul_b s1.1 s1.2.1 s2.2.2.1 s2.2.2.2; have q2 := zmul_b s2.1 s2.2.1 s1.2.2.1 s1.2.2.2; have q3 := zmul_b s1.2.2.1 s1.2.2.2 s2.2.2.1 s2.2.2.2; omega)) (fun v9 w9 h9 => ?_)
      rcases h9 with ⟨rfl, h9, h1⟩ | ⟨rfl, h9, h1⟩ <;> subst w9
      · have h1 : zok ((x1 * y2) + (x2 * y1)) (y1 * y2) := h1
        show jWp 178 62 [some (jO m), some (jO q), some (jI (k : Int)), some (jJ x1), none, some (jJ y1), none, none] [jI 1] 0 0 (jW (jW (jF2 w m x2 y2) m 11 (zu ((x1 * y2) + (x2 * y1)) (y1 * y2))) m 12 (zv ((x1 * y2) + (x2 * y1)) (y1 * y2))) _
        rw [show jW (jW (jF2 w m x2 y2) m 11 (zu ((x1 * y2) + (x2 * y1)) (y1 * y2))) m 12 (zv ((x1 * y2) + (x2 * y1)) (y1 * y2)) = (jF2 w m (zu ((x1 * y2) + (x2 * y1)) (y1 * y2)) (zv ((x1 * y2) + (x2 * y1)) (y1 * y2))) from jF2_2]
        show jWp 178 62 [some (jO m), some (jO q), some (jI (k : Int)), some (jJ x1), none, some (jJ y1), none, none] [jI 1] 0 0 (jF2 w m (zu ((x1 * y2) + (x2 * y1)) (y1 * y2)) (zv ((x1 * y2) + (x2 * y1)) (y1 * y2))) _
        have q1 := zmul_b s1.1 s1.2.1 s2.2.2.1 s2.2.2.2; have q2 := zmul_b s2.1 s2.2.1 s1.2.2.1 s1.2.2.2; have q3 := zmul_b s1.2.2.1 s1.2.2.2 s2.2.2.1 s2.2.2.2
        have g1 := zok_sm (by omega) (by omega) h1
        have g2 : 1 ≤ zu ((x1 * y2) + (x2 * y1)) (y1 * y2) * (w.1 q (25 + k)) ∧ zu ((x1 * y2) + (x2 * y1)) (y1 * y2) * (w.1 q (25 + k)) ≤ 1000000000000000000 := zmul_b g1.1 g1.2.1 hvk.2.2.1 hvk.2.2.2
        have g3 : 1 ≤ zv ((x1 * y2) + (x2 * y1)) (y1 * y2) * (w.1 q (21 + k)) ∧ zv ((x1 * y2) + (x2 * y1)) (y1 * y2) * (w.1 q (21 + k)) ≤ 1000000000000000000 := zmul_b g1.2.2.1 g1.2.2.2 hvk.1 hvk.2.1
        have z2 := h1
        refine jWp.ifc (b := false) mt rfl (by decide) rfl ?_
        show jWp 178 65 [some (jO m), some (jO q), some (jI (k : Int)), some (jJ x1), none, some (jJ y1), none, none] [] 0 0 (jF2 w m (zu ((x1 * y2) + (x2 * y1)) (y1 * y2)) (zv ((x1 * y2) + (x2 * y1)) (y1 * y2))) _
        refine jWp.blk mt 2 ?_
        show _ ∧ _ ∧ jWp 178 67 [some (jO m), some (jO q), some (jI (k : Int)), some (jJ x1), none, some (jJ y1), none, none] [jO m, jO m] 0 0 (jF2 w m (zu ((x1 * y2) + (x2 * y1)) (y1 * y2)) (zv ((x1 * y2) + (x2 * y1)) (y1 * y2))) _
        refine ⟨rfl, rfl, ?_⟩
        refine jWp.getJ (pc' := 70) mt rfl rfl (jtg hM) ?_
        rw [show ((jF2 w m (zu ((x1 * y2) + (x2 * y1)) (y1 * y2)) (zv ((x1 * y2) + (x2 * y1)) (y1 * y2))).1 m 11) = (zu ((x1 * y2) + (x2 * y1)) (y1 * y2)) from jF2_11]
        show jWp 178 70 [some (jO m), some (jO q), some (jI (k : Int)), some (jJ x1), none, some (jJ y1), none, none] [jJ (zu ((x1 * y2) + (x2 * y1)) (y1 * y2)), jO m] 0 0 (jF2 w m (zu ((x1 * y2) + (x2 * y1)) (y1 * y2)) (zv ((x1 * y2) + (x2 * y1)) (y1 * y2))) _
        refine jWp.blk mt 4 ?_
        show _ ∧ jWp 178 75 [some (jO m), some (jO q), some (jI (k : Int)), some (jJ x1), none, some (jJ y1), none, none] [jI (25 + (k : Int)), jO q, jJ (zu ((x1 * y2) + (x2 * y1)) (y1 * y2)), jO m] 0 0 (jF2 w m (zu ((x1 * y2) + (x2 * y1)) (y1 * y2)) (zv ((x1 * y2) + (x2 * y1)) (y1 * y2))) _
        refine ⟨rfl, ?_⟩
        refine jWp.lald (pc' := 76) (j := (25 + k)) mt rfl rfl (jtg hq) (by rw [b32_id (by omega) (by omega)] <;> omega) (jlt hq (by omega)) ?_
        rw [show ((jF2 w m (zu ((x1 * y2) + (x2 * y1)) (y1 * y2)) (zv ((x1 * y2) + (x2 * y1)) (y1 * y2))).1 q (25 + k)) = (w.1 q (25 + k)) from (jF2_a hqm)]
        show jWp 178 76 [some (jO m), some (jO q), some (jI (k : Int)), some (jJ x1), none, some (jJ y1), none, none] [jJ (w.1 q (25 + k)), jJ (zu ((x1 * y2) + (x2 * y1)) (y1 * y2)), jO m] 0 0 (jF2 w m (zu ((x1 * y2) + (x2 * y1)) (y1 * y2)) (zv ((x1 * y2) + (x2 * y1)) (y1 * y2))) _
        refine jWp.blk mt 2 ?_
        show _ ∧ jWp 178 78 [some (jO m), some (jO q), some (jI (k : Int)), some (jJ x1), none, some (jJ y1), none, none] [jO m, jJ ((zu ((x1 * y2) + (x2 * y1)) (y1 * y2)) * (w.1 q (25 + k))), jO m] 0 0 (jF2 w m (zu ((x1 * y2) + (x2 * y1)) (y1 * y2)) (zv ((x1 * y2) + (x2 * y1)) (y1 * y2))) _
        refine ⟨rfl, ?_⟩
        refine jWp.getJ (pc' := 81) mt rfl rfl (jtg hM) ?_
        rw [show ((jF2 w m (zu ((x1 * y2) + (x2 * y1)) (y1 * y2)) (zv ((x1 * y2) + (x2 * y1)) (y1 * y2))).1 m 12) = (zv ((x1 * y2) + (x2 * y1)) (y1 * y2)) from jF2_12]
        show jWp 178 81 [some (jO m), some (jO q), some (jI (k : Int)), some (jJ x1), none, some (jJ y1), none, none] [jJ (zv ((x1 * y2) + (x2 * y1)) (y1 * y2)), jJ ((zu ((x1 * y2) + (x2 * y1)) (y1 * y2)) * (w.1 q (25 + k))), jO m] 0 0 (jF2 w m (zu ((x1 * y2) + (x2 * y1)) (y1 * y2)) (zv ((x1 * y2) + (x2 * y1)) (y1 * y2))) _
        refine jWp.blk mt 4 ?_
        show _ ∧ jWp 178 86 [some (jO m), some (jO q), some (jI (k : Int)), some (jJ x1), none, some (jJ y1), none, none] [jI (21 + (k : Int)), jO q, jJ (zv ((x1 * y2) + (x2 * y1)) (y1 * y2)), jJ ((zu ((x1 * y2) + (x2 * y1)) (y1 * y2)) * (w.1 q (25 + k))), jO m] 0 0 (jF2 w m (zu ((x1 * y2) + (x2 * y1)) (y1 * y2)) (zv ((x1 * y2) + (x2 * y1)) (y1 * y2))) _
        refine ⟨rfl, ?_⟩
        refine jWp.lald (pc' := 87) (j := (21 + k)) mt rfl rfl (jtg hq) (by rw [b32_id (by omega) (by omega)] <;> omega) (jlt hq (by omega)) ?_
        rw [show ((jF2 w m (zu ((x1 * y2) + (x2 * y1)) (y1 * y2)) (zv ((x1 * y2) + (x2 * y1)) (y1 * y2))).1 q (21 + k)) = (w.1 q (21 + k)) from (jF2_a hqm)]
        show jWp 178 87 [some (jO m), some (jO q), some (jI (k : Int)), some (jJ x1), none, some (jJ y1), none, none] [jJ (w.1 q (21 + k)), jJ (zv ((x1 * y2) + (x2 * y1)) (y1 * y2)), jJ ((zu ((x1 * y2) + (x2 * y1)) (y1 * y2)) * (w.1 q (25 + k))), jO m] 0 0 (jF2 w m (zu ((x1 * y2) + (x2 * y1)) (y1 * y2)) (zv ((x1 * y2) + (x2 * y1)) (y1 * y2))) _
        refine jWp.blk mt 1 ?_
        show jWp 178 88 [some (jO m), some (jO q), some (jI (k : Int)), some (jJ x1), none, some (jJ y1), none, none] [jJ ((zv ((x1 * y2) + (x2 * y1)) (y1 * y2)) * (w.1 q (21 + k))), jJ ((zu ((x1 * y2) + (x2 * y1)) (y1 * y2)) * (w.1 q (25 + k))), jO m] 0 0 (jF2 w m (zu ((x1 * y2) + (x2 * y1)) (y1 * y2)) (zv ((x1 * y2) + (x2 * y1)) (y1 * y2))) _
        refine jWp.callv (as := [jO m, jJ ((zu ((x1 * y2) + (x2 * y1)) (y1 * y2)) * (w.1 q (25 + k))), jJ ((zv ((x1 * y2) + (x2 * y1)) (y1 * y2)) * (w.1 q (21 + k)))]) (rest := []) mt rfl rfl rfl ⟨rfl, jtg hM⟩ ?_
        refine jCall.mono (E_small hM (show 0 ≤ ((zu ((x1 * y2) + (x2 * y1)) (y1 * y2)) * (w.1 q (25 + k))) ∧ ((zu ((x1 * y2) + (x2 * y1)) (y1 * y2)) * (w.1 q (25 + k))) < 9223372036854775808 by omega) (show 0 < ((zv ((x1 * y2) + (x2 * y1)) (y1 * y2)) * (w.1 q (21 + k))) ∧ ((zv ((x1 * y2) + (x2 * y1)) (y1 * y2)) * (w.1 q (21 + k))) < 9223372036854775808 by omega)) (fun v9 w9 h9 => ?_)
        rcases h9 with ⟨rfl, h9, h2⟩ | ⟨rfl, h9, h2⟩ <;> subst w9
        · have h2 : zok ((zu ((x1 * y2) + (x2 * y1)) (y1 * y2)) * (w.1 q (25 + k))) ((zv ((x1 * y2) + (x2 * y1)) (y1 * y2)) * (w.1 q (21 + k))) := h2
          show jWp 178 91 [some (jO m), some (jO q), some (jI (k : Int)), some (jJ x1), none, some (jJ y1), none, none] [jI 1] 0 0 (jW (jW (jF2 w m (zu ((x1 * y2) + (x2 * y1)) (y1 * y2)) (zv ((x1 * y2) + (x2 * y1)) (y1 * y2))) m 11 (zu ((zu ((x1 * y2) + (x2 * y1)) (y1 * y2)) * (w.1 q (25 + k))) ((zv ((x1 * y2) + (x2 * y1)) (y1 * y2)) * (w.1 q (21 + k))))) m 12 (zv ((zu ((x1 * y2) + (x2 * y1)) (y1 * y2)) * (w.1 q (25 + k))) ((zv ((x1 * y2) + (x2 * y1)) (y1 * y2)) * (w.1 q (21 + k))))) _
          rw [show jW (jW (jF2 w m (zu ((x1 * y2) + (x2 * y1)) (y1 * y2)) (zv ((x1 * y2) + (x2 * y1)) (y1 * y2))) m 11 (zu ((zu ((x1 * y2) + (x2 * y1)) (y1 * y2)) * (w.1 q (25 + k))) ((zv ((x1 * y2) + (x2 * y1)) (y1 * y2)) * (w.1 q (21 + k))))) m 12 (zv ((zu ((x1 * y2) + (x2 * y1)) (y1 * y2)) * (w.1 q (25 + k))) ((zv ((x1 * y2) + (x2 * y1)) (y1 * y2)) * (w.1 q (21 + k)))) = (jF2 w m (zu ((zu ((x1 * y2) + (x2 * y1)) (y1 * y2)) * (w.1 q (25 + k))) ((zv ((x1 * y2) + (x2 * y1)) (y1 * y2)) * (w.1 q (21 + k)))) (zv ((zu ((x1 * y2) + (x2 * y1)) (y1 * y2)) * (w.1 q (25 + k))) ((zv ((x1 * y2) + (x2 * y1)) (y1 * y2)) * (w.1 q (21 + k))))) from jF2_2]
          show jWp 178 91 [some (jO m), some (jO q), some (jI (k : Int)), some (jJ x1), none, some (jJ y1), none, none] [jI 1] 0 0 (jF2 w m (zu ((zu ((x1 * y2) + (x2 * y1)) (y1 * y2)) * (w.1 q (25 + k))) ((zv ((x1 * y2) + (x2 * y1)) (y1 * y2)) * (w.1 q (21 + k)))) (zv ((zu ((x1 * y2) + (x2 * y1)) (y1 * y2)) * (w.1 q (25 + k))) ((zv ((x1 * y2) + (x2 * y1)) (y1 * y2)) * (w.1 q (21 + k))))) _
          have z3 := h2
          refine jWp.ifc (b := false) mt rfl (by decide) rfl ?_
          show jWp 178 94 [some (jO m), some (jO q), some (jI (k : Int)), some (jJ x1), none, some (jJ y1), none, none] [] 0 0 (jF2 w m (zu ((zu ((x1 * y2) + (x2 * y1)) (y1 * y2)) * (w.1 q (25 + k))) ((zv ((x1 * y2) + (x2 * y1)) (y1 * y2)) * (w.1 q (21 + k)))) (zv ((zu ((x1 * y2) + (x2 * y1)) (y1 * y2)) * (w.1 q (25 + k))) ((zv ((x1 * y2) + (x2 * y1)) (y1 * y2)) * (w.1 q (21 + k))))) _
          refine jWp.blk mt 3 ?_
          show _ ∧ _ ∧ jWp 178 97 [some (jO m), some (jO q), some (jI (k : Int)), some (jJ x1), none, some (jJ y1), none, none] [jI (k : Int), jO q, jO m] 0 0 (jF2 w m (zu ((zu ((x1 * y2) + (x2 * y1)) (y1 * y2)) * (w.1 q (25 + k))) ((zv ((x1 * y2) + (x2 * y1)) (y1 * y2)) * (w.1 q (21 + k)))) (zv ((zu ((x1 * y2) + (x2 * y1)) (y1 * y2)) * (w.1 q (25 + k))) ((zv ((x1 * y2) + (x2 * y1)) (y1 * y2)) * (w.1 q (21 + k))))) _
          refine ⟨rfl, rfl, ?_⟩
          refine jWp.callv (as := [jO m, jO q, jI (k : Int)]) (rest := []) mt rfl rfl rfl ⟨rfl, jtg hM⟩ ?_
          refine jCall.mono (E_tabk hM ht hq htb hS hk) (fun v9 w9 h9 => ?_)
          obtain ⟨T, h9, hh⟩ := h9
          subst h9
          rcases hh with ⟨rfl, hTe, htt⟩ | ⟨rfl, htt⟩
          · have htt' := htt
            rw [show kA (jF2 w m (zu ((zu ((x1 * y2) + (x2 * y1)) (y1 * y2)) * (w.1 q (25 + k))) ((zv ((x1 * y2) + (x2 * y1)) (y1 * y2)) * (w.1 q (21 + k)))) (zv ((zu ((x1 * y2) + (x2 * y1)) (y1 * y2)) * (w.1 q (25 + k))) ((zv ((x1 * y2) + (x2 * y1)) (y1 * y2)) * (w.1 q (21 + k))))) tb T = jX w m tb q (zu ((zu ((x1 * y2) + (x2 * y1)) (y1 * y2)) * (w.1 q (25 + k))) ((zv ((x1 * y2) + (x2 * y1)) (y1 * y2)) * (w.1 q (21 + k)))) (zv ((zu ((x1 * y2) + (x2 * y1)) (y1 * y2)) * (w.1 q (25 + k))) ((zv ((x1 * y2) + (x2 * y1)) (y1 * y2)) * (w.1 q (21 + k)))) T (w.1 q) from jX_0 hqm hqt]
            show jWp 178 100 [some (jO m), some (jO q), some (jI (k : Int)), some (jJ x1), none, some (jJ y1), none, none] [jI 1] 0 0 (jX w m tb q (zu ((zu ((x1 * y2) + (x2 * y1)) (y1 * y2)) * (w.1 q (25 + k))) ((zv ((x1 * y2) + (x2 * y1)) (y1 * y2)) * (w.1 q (21 + k)))) (zv ((zu ((x1 * y2) + (x2 * y1)) (y1 * y2)) * (w.1 q (25 + k))) ((zv ((x1 * y2) + (x2 * y1)) (y1 * y2)) * (w.1 q (21 + k)))) T (w.1 q)) _
            refine jWp.ifc (b := true) mt rfl (by decide) rfl ?_
            show jWp 178 105 [some (jO m), some (jO q), some (jI (k : Int)), some (jJ x1), none, some (jJ y1), none, none] [] 0 0 (jX w m tb q (zu ((zu ((x1 * y2) + (x2 * y1)) (y1 * y2)) * (w.1 q (25 + k))) ((zv ((x1 * y2) + (x2 * y1)) (y1 * y2)) * (w.1 q (21 + k)))) (zv ((zu ((x1 * y2) + (x2 * y1)) (y1 * y2)) * (w.1 q (25 + k))) ((zv ((x1 * y2) + (x2 * y1)) (y1 * y2)) * (w.1 q (21 + k)))) T (w.1 q)) _
            refine jWp.blk mt 5 ?_
            show _ ∧ _ ∧ jWp 178 111 [some (jO m), some (jO q), some (jI (k : Int)), some (jJ x1), none, some (jJ y1), none, none] [jO m, jI (21 + (k : Int)), jO q] 0 0 (jX w m tb q (zu ((zu ((x1 * y2) + (x2 * y1)) (y1 * y2)) * (w.1 q (25 + k))) ((zv ((x1 * y2) + (x2 * y1)) (y1 * y2)) * (w.1 q (21 + k)))) (zv ((zu ((x1 * y2) + (x2 * y1)) (y1 * y2)) * (w.1 q (25 + k))) ((zv ((x1 * y2) + (x2 * y1)) (y1 * y2)) * (w.1 q (21 + k)))) T (w.1 q)) _
            refine ⟨rfl, rfl, ?_⟩
            refine jWp.getJ (pc' := 114) mt rfl rfl (jtg hM) ?_
            rw [show ((jX w m tb q (zu ((zu ((x1 * y2) + (x2 * y1)) (y1 * y2)) * (w.1 q (25 + k))) ((zv ((x1 * y2) + (x2 * y1)) (y1 * y2)) * (w.1 q (21 + k)))) (zv ((zu ((x1 * y2) + (x2 * y1)) (y1 * y2)) * (w.1 q (25 + k))) ((zv ((x1 * y2) + (x2 * y1)) (y1 * y2)) * (w.1 q (21 + k)))) T (w.1 q)).1 m 11) = (zu ((zu ((x1 * y2) + (x2 * y1)) (y1 * y2)) * (w.1 q (25 + k))) ((zv ((x1 * y2) + (x2 * y1)) (y1 * y2)) * (w.1 q (21 + k)))) from (jX_u hqm htm)]
            show jWp 178 114 [some (jO m), some (jO q), some (jI (k : Int)), some (jJ x1), none, some (jJ y1), none, none] [jJ (zu ((zu ((x1 * y2) + (x2 * y1)) (y1 * y2)) * (w.1 q (25 + k))) ((zv ((x1 * y2) + (x2 * y1)) (y1 * y2)) * (w.1 q (21 + k)))), jI (21 + (k : Int)), jO q] 0 0 (jX w m tb q (zu ((zu ((x1 * y2) + (x2 * y1)) (y1 * y2)) * (w.1 q (25 + k))) ((zv ((x1 * y2) + (x2 * y1)) (y1 * y2)) * (w.1 q (21 + k)))) (zv ((zu ((x1 * y2) + (x2 * y1)) (y1 * y2)) * (w.1 q (25 + k))) ((zv ((x1 * y2) + (x2 * y1)) (y1 * y2)) * (w.1 q (21 + k)))) T (w.1 q)) _
            refine jWp.last (pc' := 115) (j := (21 + k)) mt rfl rfl (jtg hq) (by rw [b32_id (by omega) (by omega)] <;> omega) (jlt hq (by omega)) ?_
            rw [show jW (jX w m tb q (zu ((zu ((x1 * y2) + (x2 * y1)) (y1 * y2)) * (w.1 q (25 + k))) ((zv ((x1 * y2) + (x2 * y1)) (y1 * y2)) * (w.1 q (21 + k)))) (zv ((zu ((x1 * y2) + (x2 * y1)) (y1 * y2)) * (w.1 q (25 + k))) ((zv ((x1 * y2) + (x2 * y1)) (y1 * y2)) * (w.1 q (21 + k)))) T (w.1 q)) q (21 + k) (zu ((zu ((x1 * y2) + (x2 * y1)) (y1 * y2)) * (w.1 q (25 + k))) ((zv ((x1 * y2) + (x2 * y1)) (y1 * y2)) * (w.1 q (21 + k)))) = (jX w m tb q (zu ((zu ((x1 * y2) + (x2 * y1)) (y1 * y2)) * (w.1 q (25 + k))) ((zv ((x1 * y2) + (x2 * y1)) (y1 * y2)) * (w.1 q (21 + k)))) (zv ((zu ((x1 * y2) + (x2 * y1)) (y1 * y2)) * (w.1 q (25 + k))) ((zv ((x1 * y2) + (x2 * y1)) (y1 * y2)) * (w.1 q (21 + k)))) T (zset (w.1 q) (21 + k) (zu ((zu ((x1 * y2) + (x2 * y1)) (y1 * y2)) * (w.1 q (25 + k))) ((zv ((x1 * y2) + (x2 * y1)) (y1 * y2)) * (w.1 q (21 + k)))))) from jX_W]
            show jWp 178 115 [some (jO m), some (jO q), some (jI (k : Int)), some (jJ x1), none, some (jJ y1), none, none] [] 0 0 (jX w m tb q (zu ((zu ((x1 * y2) + (x2 * y1)) (y1 * y2)) * (w.1 q (25 + k))) ((zv ((x1 * y2) + (x2 * y1)) (y1 * y2)) * (w.1 q (21 + k)))) (zv ((zu ((x1 * y2) + (x2 * y1)) (y1 * y2)) * (w.1 q (25 + k))) ((zv ((x1 * y2) + (x2 * y1)) (y1 * y2)) * (w.1 q (21 + k)))) T (zset (w.1 q) (21 + k) (zu ((zu ((x1 * y2) + (x2 * y1)) (y1 * y2)) * (w.1 q (25 + k))) ((zv ((x1 * y2) + (x2 * y1)) (y1 * y2)) * (w.1 q (21 + k)))))) _
            refine jWp.blk mt 5 ?_
            show _ ∧ _ ∧ jWp 178 121 [some (jO m), some (jO q), some (jI (k : Int)), some (jJ x1), none, some (jJ y1), none, none] [jO m, jI (25 + (k : Int)), jO q] 0 0 (jX w m tb q (zu ((zu ((x1 * y2) + (x2 * y1)) (y1 * y2)) * (w.1 q (25 + k))) ((zv ((x1 * y2) + (x2 * y1)) (y1 * y2)) * (w.1 q (21 + k)))) (zv ((zu ((x1 * y2) + (x2 * y1)) (y1 * y2)) * (w.1 q (25 + k))) ((zv ((x1 * y2) + (x2 * y1)) (y1 * y2)) * (w.1 q (21 + k)))) T (zset (w.1 q) (21 + k) (zu ((zu ((x1 * y2) + (x2 * y1)) (y1 * y2)) * (w.1 q (25 + k))) ((zv ((x1 * y2) + (x2 * y1)) (y1 * y2)) * (w.1 q (21 + k)))))) _
            refine ⟨rfl, rfl, ?_⟩
            refine jWp.getJ (pc' := 124) mt rfl rfl (jtg hM) ?_
            rw [show ((jX w m tb q (zu ((zu ((x1 * y2) + (x2 * y1)) (y1 * y2)) * (w.1 q (25 + k))) ((zv ((x1 * y2) + (x2 * y1)) (y1 * y2)) * (w.1 q (21 + k)))) (zv ((zu ((x1 * y2) + (x2 * y1)) (y1 * y2)) * (w.1 q (25 + k))) ((zv ((x1 * y2) + (x2 * y1)) (y1 * y2)) * (w.1 q (21 + k)))) T (zset (w.1 q) (21 + k) (zu ((zu ((x1 * y2) + (x2 * y1)) (y1 * y2)) * (w.1 q (25 + k))) ((zv ((x1 * y2) + (x2 * y1)) (y1 * y2)) * (w.1 q (21 + k)))))).1 m 12) = (zv ((zu ((x1 * y2) + (x2 * y1)) (y1 * y2)) * (w.1 q (25 + k))) ((zv ((x1 * y2) + (x2 * y1)) (y1 * y2)) * (w.1 q (21 + k)))) from (jX_v hqm htm)]
            show jWp 178 124 [some (jO m), some (jO q), some (jI (k : Int)), some (jJ x1), none, some (jJ y1), none, none] [jJ (zv ((zu ((x1 * y2) + (x2 * y1)) (y1 * y2)) * (w.1 q (25 + k))) ((zv ((x1 * y2) + (x2 * y1)) (y1 * y2)) * (w.1 q (21 + k)))), jI (25 + (k : Int)), jO q] 0 0 (jX w m tb q (zu ((zu ((x1 * y2) + (x2 * y1)) (y1 * y2)) * (w.1 q (25 + k))) ((zv ((x1 * y2) + (x2 * y1)) (y1 * y2)) * (w.1 q (21 + k)))) (zv ((zu ((x1 * y2) + (x2 * y1)) (y1 * y2)) * (w.1 q (25 + k))) ((zv ((x1 * y2) + (x2 * y1)) (y1 * y2)) * (w.1 q (21 + k)))) T (zset (w.1 q) (21 + k) (zu ((zu ((x1 * y2) + (x2 * y1)) (y1 * y2)) * (w.1 q (25 + k))) ((zv ((x1 * y2) + (x2 * y1)) (y1 * y2)) * (w.1 q (21 + k)))))) _
            refine jWp.last (pc' := 125) (j := (25 + k)) mt rfl rfl (jtg hq) (by rw [b32_id (by omega) (by omega)] <;> omega) (jlt hq (by omega)) ?_
            rw [show jW (jX w m tb q (zu ((zu ((x1 * y2) + (x2 * y1)) (y1 * y2)) * (w.1 q (25 + k))) ((zv ((x1 * y2) + (x2 * y1)) (y1 * y2)) * (w.1 q (21 + k)))) (zv ((zu ((x1 * y2) + (x2 * y1)) (y1 * y2)) * (w.1 q (25 + k))) ((zv ((x1 * y2) + (x2 * y1)) (y1 * y2)) * (w.1 q (21 + k)))) T (zset (w.1 q) (21 + k) (zu ((zu ((x1 * y2) + (x2 * y1)) (y1 * y2)) * (w.1 q (25 + k))) ((zv ((x1 * y2) + (x2 * y1)) (y1 * y2)) * (w.1 q (21 + k)))))) q (25 + k) (zv ((zu ((x1 * y2) + (x2 * y1)) (y1 * y2)) * (w.1 q (25 + k))) ((zv ((x1 * y2) + (x2 * y1)) (y1 * y2)) * (w.1 q (21 + k)))) = (jX w m tb q (zu ((zu ((x1 * y2) + (x2 * y1)) (y1 * y2)) * (w.1 q (25 + k))) ((zv ((x1 * y2) + (x2 * y1)) (y1 * y2)) * (w.1 q (21 + k)))) (zv ((zu ((x1 * y2) + (x2 * y1)) (y1 * y2)) * (w.1 q (25 + k))) ((zv ((x1 * y2) + (x2 * y1)) (y1 * y2)) * (w.1 q (21 + k)))) T (zset (zset (w.1 q) (21 + k) (zu ((zu ((x1 * y2) + (x2 * y1)) (y1 * y2)) * (w.1 q (25 + k))) ((zv ((x1 * y2) + (x2 * y1)) (y1 * y2)) * (w.1 q (21 + k))))) (25 + k) (zv ((zu ((x1 * y2) + (x2 * y1)) (y1 * y2)) * (w.1 q (25 + k))) ((zv ((x1 * y2) + (x2 * y1)) (y1 * y2)) * (w.1 q (21 + k)))))) from jX_W]
            show jWp 178 125 [some (jO m), some (jO q), some (jI (k : Int)), some (jJ x1), none, some (jJ y1), none, none] [] 0 0 (jX w m tb q (zu ((zu ((x1 * y2) + (x2 * y1)) (y1 * y2)) * (w.1 q (25 + k))) ((zv ((x1 * y2) + (x2 * y1)) (y1 * y2)) * (w.1 q (21 + k)))) (zv ((zu ((x1 * y2) + (x2 * y1)) (y1 * y2)) * (w.1 q (25 + k))) ((zv ((x1 * y2) + (x2 * y1)) (y1 * y2)) * (w.1 q (21 + k)))) T (zset (zset (w.1 q) (21 + k) (zu ((zu ((x1 * y2) + (x2 * y1)) (y1 * y2)) * (w.1 q (25 + k))) ((zv ((x1 * y2) + (x2 * y1)) (y1 * y2)) * (w.1 q (21 + k))))) (25 + k) (zv ((zu ((x1 * y2) + (x2 * y1)) (y1 * y2)) * (w.1 q (25 + k))) ((zv ((x1 * y2) + (x2 * y1)) (y1 * y2)) * (w.1 q (21 + k)))))) _
            refine jWp.blk mt 3 ?_
            show _ ∧ _ ∧ jWp 178 128 [some (jO m), some (jO q), some (jI (k : Int)), some (jJ x1), none, some (jJ y1), none, none] [jI (k : Int), jO q, jO m] 0 0 (jX w m tb q (zu ((zu ((x1 * y2) + (x2 * y1)) (y1 * y2)) * (w.1 q (25 + k))) ((zv ((x1 * y2) + (x2 * y1)) (y1 * y2)) * (w.1 q (21 + k)))) (zv ((zu ((x1 * y2) + (x2 * y1)) (y1 * y2)) * (w.1 q (25 + k))) ((zv ((x1 * y2) + (x2 * y1)) (y1 * y2)) * (w.1 q (21 + k)))) T (zset (zset (w.1 q) (21 + k) (zu ((zu ((x1 * y2) + (x2 * y1)) (y1 * y2)) * (w.1 q (25 + k))) ((zv ((x1 * y2) + (x2 * y1)) (y1 * y2)) * (w.1 q (21 + k))))) (25 + k) (zv ((zu ((x1 * y2) + (x2 * y1)) (y1 * y2)) * (w.1 q (25 + k))) ((zv ((x1 * y2) + (x2 * y1)) (y1 * y2)) * (w.1 q (21 + k)))))) _
            refine ⟨rfl, rfl, ?_⟩
            refine jWp.callv (as := [jO m, jO q, jI (k : Int)]) (rest := []) mt rfl rfl rfl ⟨rfl, jtg hM⟩ ?_
            refine jCall.mono (E_degrees (w := (jX w m tb q (zu ((zu ((x1 * y2) + (x2 * y1)) (y1 * y2)) * (w.1 q (25 + k))) ((zv ((x1 * y2) + (x2 * y1)) (y1 * y2)) * (w.1 q (21 + k)))) (zv ((zu ((x1 * y2) + (x2 * y1)) (y1 * y2)) * (w.1 q (25 + k))) ((zv ((x1 * y2) + (x2 * y1)) (y1 * y2)) * (w.1 q (21 + k)))) T (zset (zset (w.1 q) (21 + k) (zu ((zu ((x1 * y2) + (x2 * y1)) (y1 * y2)) * (w.1 q (25 + k))) ((zv ((x1 * y2) + (x2 * y1)) (y1 * y2)) * (w.1 q (21 + k))))) (25 + k) (zv ((zu ((x1 * y2) + (x2 * y1)) (y1 * y2)) * (w.1 q (25 + k))) ((zv ((x1 * y2) + (x2 * y1)) (y1 * y2)) * (w.1 q (21 + k))))))) (n := n) hq (by rw [jX_q, zset_n (by omega), zset_n (by omega)]; exact hS.n0) hS.n4 hk (by intro j hj; rw [jX_q, zset_n (by omega), zset_n (by omega)]; exact hS.b j hj)) (fun v9 w9 h9 => ?_)
            obtain ⟨rfl, S9, h9, hS9, hG9⟩ := h9
            subst h9
            rw [show kA (jX w m tb q (zu ((zu ((x1 * y2) + (x2 * y1)) (y1 * y2)) * (w.1 q (25 + k))) ((zv ((x1 * y2) + (x2 * y1)) (y1 * y2)) * (w.1 q (21 + k)))) (zv ((zu ((x1 * y2) + (x2 * y1)) (y1 * y2)) * (w.1 q (25 + k))) ((zv ((x1 * y2) + (x2 * y1)) (y1 * y2)) * (w.1 q (21 + k)))) T (zset (zset (w.1 q) (21 + k) (zu ((zu ((x1 * y2) + (x2 * y1)) (y1 * y2)) * (w.1 q (25 + k))) ((zv ((x1 * y2) + (x2 * y1)) (y1 * y2)) * (w.1 q (21 + k))))) (25 + k) (zv ((zu ((x1 * y2) + (x2 * y1)) (y1 * y2)) * (w.1 q (25 + k))) ((zv ((x1 * y2) + (x2 * y1)) (y1 * y2)) * (w.1 q (21 + k)))))) q S9 = jX w m tb q (zu ((zu ((x1 * y2) + (x2 * y1)) (y1 * y2)) * (w.1 q (25 + k))) ((zv ((x1 * y2) + (x2 * y1)) (y1 * y2)) * (w.1 q (21 + k)))) (zv ((zu ((x1 * y2) + (x2 * y1)) (y1 * y2)) * (w.1 q (25 + k))) ((zv ((x1 * y2) + (x2 * y1)) (y1 * y2)) * (w.1 q (21 + k)))) T S9 from kA_A]
            have hS9 : ∀ j, j < 29 → S9 j = (zset (zset (w.1 q) (21 + k) (zu ((zu ((x1 * y2) + (x2 * y1)) (y1 * y2)) * (w.1 q (25 + k))) ((zv ((x1 * y2) + (x2 * y1)) (y1 * y2)) * (w.1 q (21 + k))))) (25 + k) (zv ((zu ((x1 * y2) + (x2 * y1)) (y1 * y2)) * (w.1 q (25 + k))) ((zv ((x1 * y2) + (x2 * y1)) (y1 * y2)) * (w.1 q (21 + k))))) j := fun j hj => (hS9 j hj).trans jX_q
            have eq9 : (jX w m tb q (zu ((zu ((x1 * y2) + (x2 * y1)) (y1 * y2)) * (w.1 q (25 + k))) ((zv ((x1 * y2) + (x2 * y1)) (y1 * y2)) * (w.1 q (21 + k)))) (zv ((zu ((x1 * y2) + (x2 * y1)) (y1 * y2)) * (w.1 q (25 + k))) ((zv ((x1 * y2) + (x2 * y1)) (y1 * y2)) * (w.1 q (21 + k)))) T (zset (zset (w.1 q) (21 + k) (zu ((zu ((x1 * y2) + (x2 * y1)) (y1 * y2)) * (w.1 q (25 + k))) ((zv ((x1 * y2) + (x2 * y1)) (y1 * y2)) * (w.1 q (21 + k))))) (25 + k) (zv ((zu ((x1 * y2) + (x2 * y1)) (y1 * y2)) * (w.1 q (25 + k))) ((zv ((x1 * y2) + (x2 * y1)) (y1 * y2)) * (w.1 q (21 + k)))))).1 q = (zset (zset (w.1 q) (21 + k) (zu ((zu ((x1 * y2) + (x2 * y1)) (y1 * y2)) * (w.1 q (25 + k))) ((zv ((x1 * y2) + (x2 * y1)) (y1 * y2)) * (w.1 q (21 + k))))) (25 + k) (zv ((zu ((x1 * y2) + (x2 * y1)) (y1 * y2)) * (w.1 q (25 + k))) ((zv ((x1 * y2) + (x2 * y1)) (y1 * y2)) * (w.1 q (21 + k))))) := funext fun _ => jX_q
            rw [eq9] at hG9
            show jWp 178 131 [some (jO m), some (jO q), some (jI (k : Int)), some (jJ x1), none, some (jJ y1), none, none] [] 0 0 (jX w m tb q (zu ((zu ((x1 * y2) + (x2 * y1)) (y1 * y2)) * (w.1 q (25 + k))) ((zv ((x1 * y2) + (x2 * y1)) (y1 * y2)) * (w.1 q (21 + k)))) (zv ((zu ((x1 * y2) + (x2 * y1)) (y1 * y2)) * (w.1 q (25 + k))) ((zv ((x1 * y2) + (x2 * y1)) (y1 * y2)) * (w.1 q (21 + k)))) T S9) _
            refine jWp.blk mt 2 ?_
            show jWp 178 134 [some (jO m), some (jO q), some (jI (k : Int)), some (jJ x1), none, some (jJ y1), none, some (jI 0)] [] 0 0 (jX w m tb q (zu ((zu ((x1 * y2) + (x2 * y1)) (y1 * y2)) * (w.1 q (25 + k))) ((zv ((x1 * y2) + (x2 * y1)) (y1 * y2)) * (w.1 q (21 + k)))) (zv ((zu ((x1 * y2) + (x2 * y1)) (y1 * y2)) * (w.1 q (25 + k))) ((zv ((x1 * y2) + (x2 * y1)) (y1 * y2)) * (w.1 q (21 + k)))) T S9) _
            have lp3 : ∀ (N : Nat) (t : Nat) (S : Nat → Int) (ht16 : t ≤ 16) (hSS : (∀ e, e < t → S (1 + e) = T e) ∧ (∀ j, j < 45 → (j < 1 ∨ 17 ≤ j) → S j = S9 j)), 16 - t < N → jWp 178 134 [some (jO m), some (jO q), none, none, none, none, none, some (jI (t : Int))] [] 0 0 (jX w m tb q (zu ((zu ((x1 * y2) + (x2 * y1)) (y1 * y2)) * (w.1 q (25 + k))) ((zv ((x1 * y2) + (x2 * y1)) (y1 * y2)) * (w.1 q (21 + k)))) (zv ((zu ((x1 * y2) + (x2 * y1)) (y1 * y2)) * (w.1 q (25 + k))) ((zv ((x1 * y2) + (x2 * y1)) (y1 * y2)) * (w.1 q (21 + k)))) T S) (fun v w1 => ∃ x y T S, w1 = jX w m tb q x y T S ∧ ((v = some (jI 1) ∧ zxv (w.1 q) n k = some (x, y) ∧ zxt (fun e => w.1 q (1 + e)) k ∧ (∀ e, e < 16 → S (1 + e) = zxe (fun e => w.1 q (1 + e)) k e) ∧ S (21 + k) = x ∧ S (25 + k) = y ∧ (∀ j, j < 29 → (j < 1 ∨ 17 ≤ j) → j ≠ 21 + k → j ≠ 25 + k → S j = w.1 q j) ∧ zdg (w.1 q) S n k) ∨ (v = some (jI 0) ∧ S = w.1 q ∧ ¬ (zxt (fun e => w.1 q (1 + e)) k ∧ (zxv (w.1 q) n k).isSome)))) := by
              intro N
              induction N with
              | zero => intro t S ht16 hSS hm; omega
              | succ N ih4 =>
                intro t S ht16 hSS hm
                refine jWp.blk mt 2 ?_
                show jWp 178 138 [some (jO m), some (jO q), none, none, none, none, none, some (jI (t : Int))] [jI 16, jI (t : Int)] 0 0 (jX w m tb q (zu ((zu ((x1 * y2) + (x2 * y1)) (y1 * y2)) * (w.1 q (25 + k))) ((zv ((x1 * y2) + (x2 * y1)) (y1 * y2)) * (w.1 q (21 + k)))) (zv ((zu ((x1 * y2) + (x2 * y1)) (y1 * y2)) * (w.1 q (25 + k))) ((zv ((x1 * y2) + (x2 * y1)) (y1 * y2)) * (w.1 q (21 + k)))) T S) _
                refine jWp.icmp (pc' := 141) mt rfl rfl (b32_id (by omega) (by omega)) (show b32 16 = 16 by decide) (fun h5 => ?_) (fun h5 => ?_)
                · have h5 : 16 ≤ (t : Int) := h5
                  refine jWp.blk mt 1 ?_
                  show jWp 178 161 [some (jO m), some (jO q), none, none, none, none, none, some (jI (t : Int))] [jI 1] 0 0 (jX w m tb q (zu ((zu ((x1 * y2) + (x2 * y1)) (y1 * y2)) * (w.1 q (25 + k))) ((zv ((x1 * y2) + (x2 * y1)) (y1 * y2)) * (w.1 q (21 + k)))) (zv ((zu ((x1 * y2) + (x2 * y1)) (y1 * y2)) * (w.1 q (25 + k))) ((zv ((x1 * y2) + (x2 * y1)) (y1 * y2)) * (w.1 q (21 + k)))) T S) _
                  refine jWp.iretz mt rfl ⟨rfl, rfl⟩ rfl (Or.inr rfl) ?_
                  refine ⟨_, _, T, S, rfl, Or.inl ⟨rfl, ?_, htt, ?_, ?_, ?_, ?_, fun c hc => ?_, fun i c hi hc hik => ?_⟩⟩
                  · unfold zxv
                    rw [e1, e2]
                    dsimp only
                    rw [if_pos z2, if_pos z3]
                  · exact fun e he => (hSS.1 e (by omega)).trans (hTe e he)
                  · rw [hSS.2 _ (by omega) (by omega), hS9 _ (by omega), zset_n (by omega), zset_s]
                  · rw [hSS.2 _ (by omega) (by omega), hS9 _ (by omega), zset_s]
                  · exact fun j hj hj2 h1 h2 => by rw [hSS.2 j (by omega) hj2, hS9 j hj, zset_n h2, zset_n h1]
                  · rw [hSS.2 _ (by omega) (by omega), hG9.1 c hc]
                    exact zdn_c hS.n4 hk hc (fun j hj h => by rw [zset_n (by omega), zset_n (by omega)])
                  · rw [hSS.2 _ (by omega) (by omega), hG9.2 i c hi hc hik, zset_n (by omega), zset_n (by omega)]
                · have h5 : (t : Int) < 16 := h5
                  refine jWp.blk mt 5 ?_
                  show _ ∧ _ ∧ jWp 178 147 [some (jO m), some (jO q), none, none, none, none, none, some (jI (t : Int))] [jO m, jI (1 + (t : Int)), jO q] 0 0 (jX w m tb q (zu ((zu ((x1 * y2) + (x2 * y1)) (y1 * y2)) * (w.1 q (25 + k))) ((zv ((x1 * y2) + (x2 * y1)) (y1 * y2)) * (w.1 q (21 + k)))) (zv ((zu ((x1 * y2) + (x2 * y1)) (y1 * y2)) * (w.1 q (25 + k))) ((zv ((x1 * y2) + (x2 * y1)) (y1 * y2)) * (w.1 q (21 + k)))) T S) _
                  refine ⟨rfl, rfl, ?_⟩
                  refine jWp.getR (pc' := 150) (o := tb) mt rfl rfl (jtg hM) ht ?_
                  show jWp 178 150 [some (jO m), some (jO q), none, none, none, none, none, some (jI (t : Int))] [jO tb, jI (1 + (t : Int)), jO q] 0 0 (jX w m tb q (zu ((zu ((x1 * y2) + (x2 * y1)) (y1 * y2)) * (w.1 q (25 + k))) ((zv ((x1 * y2) + (x2 * y1)) (y1 * y2)) * (w.1 q (21 + k)))) (zv ((zu ((x1 * y2) + (x2 * y1)) (y1 * y2)) * (w.1 q (25 + k))) ((zv ((x1 * y2) + (x2 * y1)) (y1 * y2)) * (w.1 q (21 + k)))) T S) _
                  refine jWp.blk mt 1 ?_
                  show jWp 178 152 [some (jO m), some (jO q), none, none, none, none, none, some (jI (t : Int))] [jI (t : Int), jO tb, jI (1 + (t : Int)), jO q] 0 0 (jX w m tb q (zu ((zu ((x1 * y2) + (x2 * y1)) (y1 * y2)) * (w.1 q (25 + k))) ((zv ((x1 * y2) + (x2 * y1)) (y1 * y2)) * (w.1 q (21 + k)))) (zv ((zu ((x1 * y2) + (x2 * y1)) (y1 * y2)) * (w.1 q (25 + k))) ((zv ((x1 * y2) + (x2 * y1)) (y1 * y2)) * (w.1 q (21 + k)))) T S) _
                  refine jWp.lald (pc' := 153) (j := t) mt rfl rfl (jtg htb) (by rw [b32_id (by omega) (by omega)] <;> omega) (jlt htb (by omega)) ?_
                  rw [show ((jX w m tb q (zu ((zu ((x1 * y2) + (x2 * y1)) (y1 * y2)) * (w.1 q (25 + k))) ((zv ((x1 * y2) + (x2 * y1)) (y1 * y2)) * (w.1 q (21 + k)))) (zv ((zu ((x1 * y2) + (x2 * y1)) (y1 * y2)) * (w.1 q (25 + k))) ((zv ((x1 * y2) + (x2 * y1)) (y1 * y2)) * (w.1 q (21 + k)))) T S).1 tb t) = (T t) from (jX_t hqt)]
                  show jWp 178 153 [some (jO m), some (jO q), none, none, none, none, none, some (jI (t : Int))] [jJ (T t), jI (1 + (t : Int)), jO q] 0 0 (jX w m tb q (zu ((zu ((x1 * y2) + (x2 * y1)) (y1 * y2)) * (w.1 q (25 + k))) ((zv ((x1 * y2) + (x2 * y1)) (y1 * y2)) * (w.1 q (21 + k)))) (zv ((zu ((x1 * y2) + (x2 * y1)) (y1 * y2)) * (w.1 q (25 + k))) ((zv ((x1 * y2) + (x2 * y1)) (y1 * y2)) * (w.1 q (21 + k)))) T S) _
                  refine jWp.last (pc' := 154) (j := (1 + t)) mt rfl rfl (jtg hq) (by rw [b32_id (by omega) (by omega)] <;> omega) (jlt hq (by omega)) ?_
                  rw [show jW (jX w m tb q (zu ((zu ((x1 * y2) + (x2 * y1)) (y1 * y2)) * (w.1 q (25 + k))) ((zv ((x1 * y2) + (x2 * y1)) (y1 * y2)) * (w.1 q (21 + k)))) (zv ((zu ((x1 * y2) + (x2 * y1)) (y1 * y2)) * (w.1 q (25 + k))) ((zv ((x1 * y2) + (x2 * y1)) (y1 * y2)) * (w.1 q (21 + k)))) T S) q (1 + t) (T t) = (jX w m tb q (zu ((zu ((x1 * y2) + (x2 * y1)) (y1 * y2)) * (w.1 q (25 + k))) ((zv ((x1 * y2) + (x2 * y1)) (y1 * y2)) * (w.1 q (21 + k)))) (zv ((zu ((x1 * y2) + (x2 * y1)) (y1 * y2)) * (w.1 q (25 + k))) ((zv ((x1 * y2) + (x2 * y1)) (y1 * y2)) * (w.1 q (21 + k)))) T (zset S (1 + t) (T t))) from jX_W]
                  show jWp 178 154 [some (jO m), some (jO q), none, none, none, none, none, some (jI (t : Int))] [] 0 0 (jX w m tb q (zu ((zu ((x1 * y2) + (x2 * y1)) (y1 * y2)) * (w.1 q (25 + k))) ((zv ((x1 * y2) + (x2 * y1)) (y1 * y2)) * (w.1 q (21 + k)))) (zv ((zu ((x1 * y2) + (x2 * y1)) (y1 * y2)) * (w.1 q (25 + k))) ((zv ((x1 * y2) + (x2 * y1)) (y1 * y2)) * (w.1 q (21 + k)))) T (zset S (1 + t) (T t))) _
                  refine jWp.blk mt 2 ?_
                  show jWp 178 134 [some (jO m), some (jO q), none, none, none, none, none, some (jI ((t : Int) + 1))] [] 0 0 (jX w m tb q (zu ((zu ((x1 * y2) + (x2 * y1)) (y1 * y2)) * (w.1 q (25 + k))) ((zv ((x1 * y2) + (x2 * y1)) (y1 * y2)) * (w.1 q (21 + k)))) (zv ((zu ((x1 * y2) + (x2 * y1)) (y1 * y2)) * (w.1 q (25 + k))) ((zv ((x1 * y2) + (x2 * y1)) (y1 * y2)) * (w.1 q (21 + k)))) T (zset S (1 + t) (T t))) _
                  refine jWp.le (l := [some (jO m), some (jO q), none, none, none, none, none, some (jI ((t : Int) + 1))]) (by exact ⟨rfl, rfl, rfl, trivial⟩) ?_
                  exact ih4 (t + 1) _ (by omega) ⟨fun e he => by
            by_cases h : 1 + e = 1 + t
            · have h0 : e = t := by omega
              rw [h, zset_s, h0]
            · rw [zset_n h]; exact hSS.1 e (by omega), fun j hj hj2 => by rw [zset_n (by omega)]; exact hSS.2 j hj hj2⟩ (by omega)
            refine jWp.le (l := [some (jO m), some (jO q), none, none, none, none, none, some (jI 0)]) (by exact ⟨rfl, rfl, rfl, trivial⟩) ?_
            exact lp3 _ 0 S9 (by omega) ⟨fun e he => absurd he (by omega), fun j _ _ => rfl⟩ (Nat.lt_succ_self _)
          · have htt' := htt
            rw [show kA (jF2 w m (zu ((zu ((x1 * y2) + (x2 * y1)) (y1 * y2)) * (w.1 q (25 + k))) ((zv ((x1 * y2) + (x2 * y1)) (y1 * y2)) * (w.1 q (21 + k)))) (zv ((zu ((x1 * y2) + (x2 * y1)) (y1 * y2)) * (w.1 q (25 + k))) ((zv ((x1 * y2) + (x2 * y1)) (y1 * y2)) * (w.1 q (21 + k))))) tb T = jX w m tb q (zu ((zu ((x1 * y2) + (x2 * y1)) (y1 * y2)) * (w.1 q (25 + k))) ((zv ((x1 * y2) + (x2 * y1)) (y1 * y2)) * (w.1 q (21 + k)))) (zv ((zu ((x1 * y2) + (x2 * y1)) (y1 * y2)) * (w.1 q (25 + k))) ((zv ((x1 * y2) + (x2 * y1)) (y1 * y2)) * (w.1 q (21 + k)))) T (w.1 q) from jX_0 hqm hqt]
            show jWp 178 100 [some (jO m), some (jO q), some (jI (k : Int)), some (jJ x1), none, some (jJ y1), none, none] [jI 0] 0 0 (jX w m tb q (zu ((zu ((x1 * y2) + (x2 * y1)) (y1 * y2)) * (w.1 q (25 + k))) ((zv ((x1 * y2) + (x2 * y1)) (y1 * y2)) * (w.1 q (21 + k)))) (zv ((zu ((x1 * y2) + (x2 * y1)) (y1 * y2)) * (w.1 q (25 + k))) ((zv ((x1 * y2) + (x2 * y1)) (y1 * y2)) * (w.1 q (21 + k)))) T (w.1 q)) _
            refine jWp.ifc (b := false) mt rfl (by decide) rfl ?_
            show jWp 178 103 [some (jO m), some (jO q), some (jI (k : Int)), some (jJ x1), none, some (jJ y1), none, none] [] 0 0 (jX w m tb q (zu ((zu ((x1 * y2) + (x2 * y1)) (y1 * y2)) * (w.1 q (25 + k))) ((zv ((x1 * y2) + (x2 * y1)) (y1 * y2)) * (w.1 q (21 + k)))) (zv ((zu ((x1 * y2) + (x2 * y1)) (y1 * y2)) * (w.1 q (25 + k))) ((zv ((x1 * y2) + (x2 * y1)) (y1 * y2)) * (w.1 q (21 + k)))) T (w.1 q)) _
            refine jWp.blk mt 1 ?_
            show jWp 178 104 [some (jO m), some (jO q), some (jI (k : Int)), some (jJ x1), none, some (jJ y1), none, none] [jI 0] 0 0 (jX w m tb q (zu ((zu ((x1 * y2) + (x2 * y1)) (y1 * y2)) * (w.1 q (25 + k))) ((zv ((x1 * y2) + (x2 * y1)) (y1 * y2)) * (w.1 q (21 + k)))) (zv ((zu ((x1 * y2) + (x2 * y1)) (y1 * y2)) * (w.1 q (25 + k))) ((zv ((x1 * y2) + (x2 * y1)) (y1 * y2)) * (w.1 q (21 + k)))) T (w.1 q)) _
            refine jWp.iretz mt rfl ⟨rfl, rfl⟩ rfl (Or.inl rfl) ?_
            exact ⟨_, _, _, _, rfl, Or.inr ⟨rfl, rfl, fun h => htt h.1⟩⟩
        · have h2 : ¬ (zok ((zu ((x1 * y2) + (x2 * y1)) (y1 * y2)) * (w.1 q (25 + k))) ((zv ((x1 * y2) + (x2 * y1)) (y1 * y2)) * (w.1 q (21 + k)))) := h2
          show jWp 178 91 [some (jO m), some (jO q), some (jI (k : Int)), some (jJ x1), none, some (jJ y1), none, none] [jI 0] 0 0 (jW (jW (jF2 w m (zu ((x1 * y2) + (x2 * y1)) (y1 * y2)) (zv ((x1 * y2) + (x2 * y1)) (y1 * y2))) m 11 (zu ((zu ((x1 * y2) + (x2 * y1)) (y1 * y2)) * (w.1 q (25 + k))) ((zv ((x1 * y2) + (x2 * y1)) (y1 * y2)) * (w.1 q (21 + k))))) m 12 (zv ((zu ((x1 * y2) + (x2 * y1)) (y1 * y2)) * (w.1 q (25 + k))) ((zv ((x1 * y2) + (x2 * y1)) (y1 * y2)) * (w.1 q (21 + k))))) _
          rw [show jW (jW (jF2 w m (zu ((x1 * y2) + (x2 * y1)) (y1 * y2)) (zv ((x1 * y2) + (x2 * y1)) (y1 * y2))) m 11 (zu ((zu ((x1 * y2) + (x2 * y1)) (y1 * y2)) * (w.1 q (25 + k))) ((zv ((x1 * y2) + (x2 * y1)) (y1 * y2)) * (w.1 q (21 + k))))) m 12 (zv ((zu ((x1 * y2) + (x2 * y1)) (y1 * y2)) * (w.1 q (25 + k))) ((zv ((x1 * y2) + (x2 * y1)) (y1 * y2)) * (w.1 q (21 + k)))) = (jF2 w m (zu ((zu ((x1 * y2) + (x2 * y1)) (y1 * y2)) * (w.1 q (25 + k))) ((zv ((x1 * y2) + (x2 * y1)) (y1 * y2)) * (w.1 q (21 + k)))) (zv ((zu ((x1 * y2) + (x2 * y1)) (y1 * y2)) * (w.1 q (25 + k))) ((zv ((x1 * y2) + (x2 * y1)) (y1 * y2)) * (w.1 q (21 + k))))) from jF2_2]
          show jWp 178 91 [some (jO m), some (jO q), some (jI (k : Int)), some (jJ x1), none, some (jJ y1), none, none] [jI 0] 0 0 (jF2 w m (zu ((zu ((x1 * y2) + (x2 * y1)) (y1 * y2)) * (w.1 q (25 + k))) ((zv ((x1 * y2) + (x2 * y1)) (y1 * y2)) * (w.1 q (21 + k)))) (zv ((zu ((x1 * y2) + (x2 * y1)) (y1 * y2)) * (w.1 q (25 + k))) ((zv ((x1 * y2) + (x2 * y1)) (y1 * y2)) * (w.1 q (21 + k))))) _
          refine jWp.ifc (b := true) mt rfl (by decide) rfl ?_
          show jWp 178 103 [some (jO m), some (jO q), some (jI (k : Int)), some (jJ x1), none, some (jJ y1), none, none] [] 0 0 (jF2 w m (zu ((zu ((x1 * y2) + (x2 * y1)) (y1 * y2)) * (w.1 q (25 + k))) ((zv ((x1 * y2) + (x2 * y1)) (y1 * y2)) * (w.1 q (21 + k)))) (zv ((zu ((x1 * y2) + (x2 * y1)) (y1 * y2)) * (w.1 q (25 + k))) ((zv ((x1 * y2) + (x2 * y1)) (y1 * y2)) * (w.1 q (21 + k))))) _
          refine jWp.blk mt 1 ?_
          show jWp 178 104 [some (jO m), some (jO q), some (jI (k : Int)), some (jJ x1), none, some (jJ y1), none, none] [jI 0] 0 0 (jF2 w m (zu ((zu ((x1 * y2) + (x2 * y1)) (y1 * y2)) * (w.1 q (25 + k))) ((zv ((x1 * y2) + (x2 * y1)) (y1 * y2)) * (w.1 q (21 + k)))) (zv ((zu ((x1 * y2) + (x2 * y1)) (y1 * y2)) * (w.1 q (25 + k))) ((zv ((x1 * y2) + (x2 * y1)) (y1 * y2)) * (w.1 q (21 + k))))) _
          refine jWp.iretz mt rfl ⟨rfl, rfl⟩ rfl (Or.inl rfl) ?_
          refine ⟨_, _, _, _, jX_1 hqm hqt htm, Or.inr ⟨rfl, rfl, fun h => ?_⟩⟩
          have h := h.2
          unfold zxv at h
          first
          | (rw [e1] at h; cases h; done)
          | (rw [e1, e2] at h; cases h; done)
          | (rw [e1, e2] at h; dsimp only at h; rw [if_neg h2] at h; cases h; done)
          | (rw [e1, e2] at h; dsimp only at h; rw [if_pos z2, if_neg h2] at h; cases h; done)
      · have h1 : ¬ (zok ((x1 * y2) + (x2 * y1)) (y1 * y2)) := h1
        show jWp 178 62 [some (jO m), some (jO q), some (jI (k : Int)), some (jJ x1), none, some (jJ y1), none, none] [jI 0] 0 0 (jW (jW (jF2 w m x2 y2) m 11 (zu ((x1 * y2) + (x2 * y1)) (y1 * y2))) m 12 (zv ((x1 * y2) + (x2 * y1)) (y1 * y2))) _
        rw [show jW (jW (jF2 w m x2 y2) m 11 (zu ((x1 * y2) + (x2 * y1)) (y1 * y2))) m 12 (zv ((x1 * y2) + (x2 * y1)) (y1 * y2)) = (jF2 w m (zu ((x1 * y2) + (x2 * y1)) (y1 * y2)) (zv ((x1 * y2) + (x2 * y1)) (y1 * y2))) from jF2_2]
        show jWp 178 62 [some (jO m), some (jO q), some (jI (k : Int)), some (jJ x1), none, some (jJ y1), none, none] [jI 0] 0 0 (jF2 w m (zu ((x1 * y2) + (x2 * y1)) (y1 * y2)) (zv ((x1 * y2) + (x2 * y1)) (y1 * y2))) _
        refine jWp.ifc (b := true) mt rfl (by decide) rfl ?_
        show jWp 178 103 [some (jO m), some (jO q), some (jI (k : Int)), some (jJ x1), none, some (jJ y1), none, none] [] 0 0 (jF2 w m (zu ((x1 * y2) + (x2 * y1)) (y1 * y2)) (zv ((x1 * y2) + (x2 * y1)) (y1 * y2))) _
        refine jWp.blk mt 1 ?_
        show jWp 178 104 [some (jO m), some (jO q), some (jI (k : Int)), some (jJ x1), none, some (jJ y1), none, none] [jI 0] 0 0 (jF2 w m (zu ((x1 * y2) + (x2 * y1)) (y1 * y2)) (zv ((x1 * y2) + (x2 * y1)) (y1 * y2))) _
        refine jWp.iretz mt rfl ⟨rfl, rfl⟩ rfl (Or.inl rfl) ?_
        refine ⟨_, _, _, _, jX_1 hqm hqt htm, Or.inr ⟨rfl, rfl, fun h => ?_⟩⟩
        have h := h.2
        unfold zxv at h
        first
        | (rw [e1] at h; cases h; done)
        | (rw [e1, e2] at h; cases h; done)
        | (rw [e1, e2] at h; dsimp only at h; rw [if_neg h1] at h; cases h; done)
        | (rw [e1, e2] at h; dsimp only at h; rw [if_pos z2, if_neg h1] at h; cases h; done)
    · have e2' := e2
      show jWp 178 32 [some (jO m), some (jO q), some (jI (k : Int)), some (jJ x1), none, some (jJ y1), none, none] [jI 0] 0 0 (jF2 w m x2 y2) _
      refine jWp.ifc (b := false) mt rfl (by decide) rfl ?_
      show jWp 178 35 [some (jO m), some (jO q), some (jI (k : Int)), some (jJ x1), none, some (jJ y1), none, none] [] 0 0 (jF2 w m x2 y2) _
      refine jWp.blk mt 1 ?_
      show jWp 178 36 [some (jO m), some (jO q), some (jI (k : Int)), some (jJ x1), none, some (jJ y1), none, none] [jI 0] 0 0 (jF2 w m x2 y2) _
      refine jWp.iretz mt rfl ⟨rfl, rfl⟩ rfl (Or.inl rfl) ?_
      refine ⟨_, _, _, _, jX_1 hqm hqt htm, Or.inr ⟨rfl, rfl, fun h => ?_⟩⟩
      have h := h.2
      unfold zxv at h
      first
      | (rw [e1] at h; cases h; done)
      | (rw [e1, e2] at h; cases h; done)
      | (rw [e1, e2] at h; dsimp only at h; rw [if_neg h1] at h; cases h; done)
      | (rw [e1, e2] at h; dsimp only at h; rw [if_pos z2, if_neg h1] at h; cases h; done)
  · have e1' := e1
    show jWp 178 7 [some (jO m), some (jO q), some (jI (k : Int)), none, none, none, none, none] [jI 0] 0 0 (jF2 w m x1 y1) _
    refine jWp.ifc (b := false) mt rfl (by decide) rfl ?_
    show jWp 178 10 [some (jO m), some (jO q), some (jI (k : Int)), none, none, none, none, none] [] 0 0 (jF2 w m x1 y1) _
    refine jWp.blk mt 1 ?_
    show jWp 178 11 [some (jO m), some (jO q), some (jI (k : Int)), none, none, none, none, none] [jI 0] 0 0 (jF2 w m x1 y1) _
    refine jWp.iretz mt rfl ⟨rfl, rfl⟩ rfl (Or.inl rfl) ?_
    refine ⟨_, _, _, _, jX_1 hqm hqt htm, Or.inr ⟨rfl, rfl, fun h => ?_⟩⟩
    have h := h.2
    unfold zxv at h
    first
    | (rw [e1] at h; cases h; done)
    | (rw [e1, e2] at h; cases h; done)
    | (rw [e1, e2] at h; dsimp only at h; rw [if_neg h1] at h; cases h; done)
    | (rw [e1, e2] at h; dsimp only at h; rw [if_pos z2, if_neg h1] at h; cases h; done)
