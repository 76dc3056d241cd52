section
/-- the reference as it was, but for what it works with -/
def mq (w : jS) (m : Nat) (w1 : jS) : Prop := w1.2 = w.2 ∧ (∀ a, (a < m ∨ m + 430 ≤ a ∨ a = m + 1 ∨ a = m + 2 ∨ a = m + 3 ∨ (m + 8 ≤ a ∧ a ≤ m + 15) ∨ a = m + 421 ∨ a = m + 423 ∨ (m + 425 ≤ a ∧ a ≤ m + 429)) → w1.1 a = w.1 a) ∧ w1.1 m 15 = w.1 m 15 ∧ w1.1 m 24 = w.1 m 24 ∧ w1.1 m 31 = w.1 m 31
theorem mq_0 {w : jS} {m : Nat} : mq w m w := ⟨rfl, fun _ _ => rfl, rfl, rfl, rfl⟩
theorem mq_t {w w1 w2 : jS} {m : Nat} (h : mq w m w1) (g : mq w1 m w2) : mq w m w2 :=
  ⟨g.1.trans h.1, fun a ha => (g.2.1 a ha).trans (h.2.1 a ha), g.2.2.1.trans h.2.2.1, g.2.2.2.1.trans h.2.2.2.1, g.2.2.2.2.trans h.2.2.2.2⟩
theorem mq_W {w w1 : jS} {m a k : Nat} {x : Int} (h : mq w m w1) (ha : m < a ∧ a < m + 430 ∧ a ≠ m + 1 ∧ a ≠ m + 2 ∧ a ≠ m + 3 ∧ (a < m + 8 ∨ m + 15 < a) ∧ a ≠ m + 421 ∧ a ≠ m + 423 ∧ a < m + 425) : mq w m (jW w1 a k x) :=
  mq_t h ⟨rfl, fun b hb => jW_f (by omega), jW_a (by omega), jW_a (by omega), jW_a (by omega)⟩
theorem mq_A {w w1 : jS} {m a : Nat} {T : Nat → Int} (h : mq w m w1) (ha : m < a ∧ a < m + 430 ∧ a ≠ m + 1 ∧ a ≠ m + 2 ∧ a ≠ m + 3 ∧ (a < m + 8 ∨ m + 15 < a) ∧ a ≠ m + 421 ∧ a ≠ m + 423 ∧ a < m + 425) : mq w m (kA w1 a T) :=
  mq_t h ⟨rfl, fun b hb => kA_f (by omega), kA_a (by omega), kA_a (by omega), kA_a (by omega)⟩
theorem mq_S {w w1 : jS} {m k : Nat} {x : Int} (h : mq w m w1) (hk : k ≠ 15 ∧ k ≠ 24 ∧ k ≠ 31) : mq w m (jW w1 m k x) :=
  mq_t h ⟨rfl, fun b hb => jW_f (by omega), jW_k (Ne.symm hk.1), jW_k (Ne.symm hk.2.1), jW_k (Ne.symm hk.2.2)⟩
theorem mq_F {w w1 : jS} {m : Nat} {x y : Int} (h : mq w m w1) : mq w m (jF2 w1 m x y) := mq_S (mq_S h (by decide)) (by decide)
/-- a refusal behind some work -/
def jnq (w : jS) (m j : Nat) (x : jV) (v : Option jV) (w1 : jS) : Prop := v = some x ∧ ∃ w2, mq w m w2 ∧ w1 = jW w2 (m + 3) j (w.1 (m + 3) j + 1)
theorem jnq_0 {w w1 : jS} {m j : Nat} {x : jV} {v : Option jV} (h : jno w m j x v w1) : jnq w m j x v w1 := ⟨h.1, w, mq_0, h.2⟩
theorem jnq_2 {w w2 : jS} {m j : Nat} {x : jV} (h : mq w m w2) : jnq w m j x (some x) (jW w2 (m + 3) j (w2.1 (m + 3) j + 1)) := ⟨rfl, w2, h, by rw [h.2.1 (m + 3) (by omega)]⟩
/-- seeds that agree -/
def zeq (S q : Nat → Int) : Prop := ∀ j, j < 45 → S j = q j
theorem zeq_29 {S q : Nat → Int} (h : zeq S q) : ∀ j, j < 29 → S j = q j := fun j hj => h j (by omega)
theorem zeq_s {S q : Nat → Int} (h : zeq S q) : zeq q S := fun j hj => (h j hj).symm
theorem zeq_t {S q r : Nat → Int} (h : zeq S q) (g : zeq q r) : zeq S r := fun j hj => (h j hj).trans (g j hj)
theorem zeq_S {S q : Nat → Int} {n : Nat} (h : zeq S q) (hS : zS q n) : zS S n := zS_c (zeq_29 h) hS
/-- the seed behind an exchange -/
def zxF (q : Nat → Int) (n k : Nat) : Nat → Int := fun j => if 1 ≤ j ∧ j < 17 then zxe (fun e => q (1 + e)) k (j - 1) else if j = 21 + k then ((zxv q n k).getD (0, 0)).1 else if j = 25 + k then ((zxv q n k).getD (0, 0)).2 else if 29 + 4 * k ≤ j ∧ j < 29 + 4 * k + 4 then zdn q n k (j - (29 + 4 * k)) else q j
theorem zxF_b {q : Nat → Int} {n k e : Nat} (he : e < 16) : zxF q n k (1 + e) = zxe (fun e => q (1 + e)) k e := by
  unfold zxF
  rw [if_pos (by omega), show 1 + e - 1 = e by omega]
theorem zxF_u {q : Nat → Int} {n k : Nat} : zxF q n k (21 + k) = ((zxv q n k).getD (0, 0)).1 := by
  unfold zxF
  rw [if_neg (by omega), if_pos rfl]
theorem zxF_v {q : Nat → Int} {n k : Nat} (hk : k < 4) : zxF q n k (25 + k) = ((zxv q n k).getD (0, 0)).2 := by
  unfold zxF
  rw [if_neg (by omega), if_neg (by omega), if_pos rfl]
theorem zxF_d {q : Nat → Int} {n k c : Nat} (hk : k < 4) (hc : c < 4) : zxF q n k (29 + 4 * k + c) = zdn q n k c := by
  unfold zxF
  rw [if_neg (by omega), if_neg (by omega), if_neg (by omega), if_pos (by omega), show 29 + 4 * k + c - (29 + 4 * k) = c by omega]
theorem zxF_o {q : Nat → Int} {n k j : Nat} (h1 : ¬ (1 ≤ j ∧ j < 17)) (h2 : j ≠ 21 + k) (h3 : j ≠ 25 + k) (h4 : ¬ (29 + 4 * k ≤ j ∧ j < 29 + 4 * k + 4)) : zxF q n k j = q j := by
  unfold zxF
  rw [if_neg h1, if_neg h2, if_neg h3, if_neg h4]
theorem zxn_F {q S : Nat → Int} {n k : Nat} (hk : k < 4) (h : zxn q S n k) : zeq S (zxF q n k) := by
  intro j hj
  by_cases h1 : 1 ≤ j ∧ j < 17
  · have := h.2.2.1 (j - 1) (by omega)
    rw [show j = 1 + (j - 1) by omega, zxF_b (by omega)]
    exact this
  · by_cases h2 : j = 21 + k
    · subst h2
      rw [zxF_u, h.2.1]
      rfl
    · by_cases h3 : j = 25 + k
      · subst h3
        rw [zxF_v hk, h.2.1]
        rfl
      · by_cases h4 : 29 + 4 * k ≤ j ∧ j < 29 + 4 * k + 4
        · rw [show j = 29 + 4 * k + (j - (29 + 4 * k)) by omega, zxF_d hk (by omega)]
          exact h.2.2.2.2.1 _ (by omega)
        · rw [zxF_o h1 h2 h3 h4]
          rcases Nat.lt_or_ge j 29 with e | e
          · exact h.2.2.2.1 j e (by omega) h2 h3
          · have := h.2.2.2.2.2 ((j - 29) / 4) ((j - 29) % 4) (by omega) (by omega) (by omega)
            rw [show 29 + 4 * ((j - 29) / 4) + (j - 29) % 4 = j by omega] at this
            exact this
theorem zxF_n {q : Nat → Int} {n k : Nat} (hk : k < 4) (hc : zcan q n k) : zxn q (zxF q n k) n k := by
  obtain ⟨p, hp⟩ := Option.isSome_iff_exists.mp hc.2
  refine ⟨hc, ?_, fun e he => zxF_b he, fun j hj h1 h2 h3 => zxF_o (by omega) h2 h3 (by omega), fun c hc => zxF_d hk hc, fun i c hi hc hik => zxF_o (by omega) (by omega) (by omega) (by omega)⟩
  rw [zxF_u, zxF_v hk, hp]
  rfl
theorem zcan_q {S q : Nat → Int} {n k : Nat} (h : zeq S q) (hn : n ≤ 4) (hk : k < 4) : zcan S n k ↔ zcan q n k := zcan_c (zeq_29 h) hn hk
theorem zxF_c {S q : Nat → Int} {n k : Nat} (h : zeq S q) (hn : n ≤ 4) (hk : k < 4) : zeq (zxF S n k) (zxF q n k) := by
  intro j hj
  unfold zxF
  rw [zxv_c (zeq_29 h) hn hk, h j hj]
  by_cases h1 : 1 ≤ j ∧ j < 17
  · rw [if_pos h1, if_pos h1]
    exact zxe_c (zeq_29 h) hk (by omega)
  · rw [if_neg h1, if_neg h1]
    by_cases h4 : 29 + 4 * k ≤ j ∧ j < 29 + 4 * k + 4
    · rw [zdn_c hn hk (by omega) (fun j hj _ => h j hj)]
    · rw [if_neg h4, if_neg h4]
theorem zcnt_c {u v u' v' : Nat → Int} {x y : Int} : ∀ j, (∀ i, i < j → u i = u' i ∧ v i = v' i) → zcnt u v j x y = zcnt u' v' j x y
  | 0, _ => rfl
  | j + 1, h => by
    unfold zcnt
    rw [zcnt_c j (fun i hi => h i (by omega)), (h j (by omega)).1, (h j (by omega)).2]
theorem zsame_c {S q P p : Nat → Int} {n : Nat} (hn : n ≤ 4) (h : zeq S q) (g : zeq P p) : zsame S P n ↔ zsame q p n := by
  have e : ∀ i, i < n → (zcnt (fun j => S (21 + j)) (fun j => S (25 + j)) n (S (21 + i)) (S (25 + i)) = zcnt (fun j => P (21 + j)) (fun j => P (25 + j)) n (S (21 + i)) (S (25 + i)) ↔ zcnt (fun j => q (21 + j)) (fun j => q (25 + j)) n (q (21 + i)) (q (25 + i)) = zcnt (fun j => p (21 + j)) (fun j => p (25 + j)) n (q (21 + i)) (q (25 + i))) := by
    intro i hi
    rw [h (21 + i) (by omega), h (25 + i) (by omega), zcnt_c (u' := fun j => q (21 + j)) (v' := fun j => q (25 + j)) n (fun i hi => ⟨h _ (by omega), h _ (by omega)⟩), zcnt_c (u := fun j => P (21 + j)) (v := fun j => P (25 + j)) (u' := fun j => p (21 + j)) (v' := fun j => p (25 + j)) n (fun i hi => ⟨g _ (by omega), g _ (by omega)⟩)]
  exact ⟨fun z i hi => (e i hi).mp (z i hi), fun z i hi => (e i hi).mpr (z i hi)⟩
theorem zal_c {S q P p : Nat → Int} {n : Nat} (hn : n ≤ 4) (h : zeq S q) (g : zeq P p) : zal S P n ↔ zal q p n := by
  constructor
  · intro z
    exact ⟨fun e he => by rw [← h _ (by omega), ← g _ (by omega)]; exact z.1 e he, fun i hi => by rw [← h _ (by omega), ← g _ (by omega), ← h _ (by omega), ← g _ (by omega)]; exact z.2 i hi⟩
  · intro z
    exact ⟨fun e he => by rw [h _ (by omega), g _ (by omega)]; exact z.1 e he, fun i hi => by rw [h (21 + i) (by omega), g (21 + i) (by omega), h (25 + i) (by omega), g (25 + i) (by omega)]; exact z.2 i hi⟩
theorem zgi_c {S q : Nat → Int} {i : Nat} (h : zeq S q) (hi : i < 4) (y : Int) : ∀ c, c ≤ 4 → zgi S i c y = zgi q i c y
  | 0, _ => rfl
  | c + 1, hc => by
    unfold zgi
    rw [zgi_c h hi y c (by omega), h (29 + 4 * i + c) (by omega)]
theorem zgo_c {S q : Nat → Int} {n : Nat} (h : zeq S q) (hn : n ≤ 4) : ∀ i, i ≤ 4 → zgo S n i = zgo q n i
  | 0, _ => rfl
  | i + 1, hi => by
    unfold zgo
    rw [zgo_c h hn i (by omega), zgi_c h (by omega) _ n hn]
/-- an exchange of one of the reference's seeds -/
theorem E_xany {w : jS} {m n k o : Nat} (hW : MW w.2 m) (hq : w.2.1 (m + o) = (101, 45)) (hS : zS (w.1 (m + o)) n) (hk : k < 4) : jCall 178 [jO m, jO (m + o), jI (k : Int)] w (fun v w1 => (w1.2 = w.2 ∧ (∀ a, a ≠ m → a ≠ m + 6 → a ≠ m + o → w1.1 a = w.1 a) ∧ ∀ j, j ≠ 11 → j ≠ 12 → w1.1 m j = w.1 m j) ∧ ((v = some (jI 1) ∧ zxn (w.1 (m + o)) (w1.1 (m + o)) n k) ∨ (v = some (jI 0) ∧ w1.1 (m + o) = w.1 (m + o) ∧ ¬ zcan (w.1 (m + o)) n k))) := by
  have hom : m + o ≠ m := kne hq hW.K0 (by decide)
  have hot : m + o ≠ m + 6 := kne2 hq hW.K6 (by decide)
  refine jCall.mono (E_exchanges (w := w) (q := m + o) (tb := m + 6) (n := n) hW.K0 hW.R13 hq hW.K6 hS hk) (fun v w1 h => ?_)
  obtain ⟨x, y, T6, S, h1, h2⟩ := h
  have e : w1.1 (m + o) = S := by rw [h1]; exact funext fun _ => jX_q
  refine ⟨⟨by rw [h1]; rfl, fun a h0 h6 ho => by rw [h1]; exact (kA_f ho).trans ((kA_f h6).trans (jF2_f h0)), fun j h11 h12 => by rw [h1]; exact (kA_a (by omega)).trans ((kA_a (by omega)).trans (jF2_k h11 h12))⟩, ?_⟩
  rw [e]
  rcases h2 with ⟨hv, h3, h4, h5, h6, h7, h8, hg⟩ | ⟨hv, h3, h4⟩
  · exact Or.inl ⟨hv, ⟨h4, by rw [h3]; rfl⟩, by rw [h3, h6, h7], h5, h8, hg⟩
  · exact Or.inr ⟨hv, h3, fun hc => h4 hc⟩
theorem mq_x {w w1 : jS} {m o : Nat} (ho : o = 16 ∨ (18 ≤ o ∧ o < 418)) (h : w1.2 = w.2 ∧ (∀ a, a ≠ m → a ≠ m + 6 → a ≠ m + o → w1.1 a = w.1 a) ∧ ∀ j, j ≠ 11 → j ≠ 12 → w1.1 m j = w.1 m j) : mq w m w1 :=
  ⟨h.1, fun a ha => h.2.1 a (by omega) (by omega) (by omega), h.2.2 15 (by decide) (by decide), h.2.2 24 (by decide) (by decide), h.2.2 31 (by decide) (by decide)⟩
/-- bits of what holds -/
noncomputable def zbt (p : Nat → Prop) : Nat → Int
  | 0 => 0
  | k + 1 => @ite Int (p k) (Classical.propDecidable (p k)) (jor (zbt p k) (jshl 1 (k : Int))) (zbt p k)
theorem zbt_t {p : Nat → Prop} {k : Nat} (h : p k) : zbt p (k + 1) = jor (zbt p k) (jshl 1 (k : Int)) := if_pos h
theorem zbt_f {p : Nat → Prop} {k : Nat} (h : ¬ p k) : zbt p (k + 1) = zbt p k := if_neg h
theorem b32_i32 (x : Int32) : b32 x.toInt = x.toInt := b32_id (by have := Int32.le_toInt x; omega) (by have := Int32.toInt_lt x; omega)
theorem zbt_r (p : Nat → Prop) : ∀ k, b32 (zbt p k) = zbt p k
  | 0 => show b32 0 = 0 from by decide
  | k + 1 => by
    by_cases h : p k
    · rw [zbt_t h]
      exact b32_i32 _
    · rw [zbt_f h]
      exact zbt_r p k
theorem jor_0 {x : Int} (h : b32 x = x) : jor x 0 = x := by
  unfold jor
  rw [show Int32.ofInt 0 = 0 from rfl, Int32.or_zero, Int32.toInt_ofInt]
  exact h
theorem zbt_c {p r : Nat → Prop} : ∀ k, (∀ i, i < k → (p i ↔ r i)) → zbt p k = zbt r k
  | 0, _ => rfl
  | k + 1, h => by
    by_cases hk : p k
    · rw [zbt_t hk, zbt_t ((h k (by omega)).mp hk), zbt_c k (fun i hi => h i (by omega))]
    · rw [zbt_f hk, zbt_f (fun g => hk ((h k (by omega)).mpr g)), zbt_c k (fun i hi => h i (by omega))]
end
section
/-- whether a letter is a sink, or a source, by one more letter at a time -/
def zsi (q : Nat → Int) (a : Int) (n k : Nat) : Prop := ∀ i, i < n → if a = 0 then 0 ≤ q (1 + (4 * i + k)) else q (1 + (4 * i + k)) ≤ 0
set_option maxHeartbeats 4000000 in
set_option maxRecDepth 20000 in
theorem E_sinks {w : jS} {m : Nat} (hW : MW w.2 m) {n : Nat} (hS : zS (w.1 (m + 1)) n) {a : Int} (hra : r32 a) : jCall 185 [jO m, jI a] w (fun v w1 => ((¬ (0 ≤ a ∧ a ≤ 1)) → jno w m 2 (jI (-2)) v w1) ∧ (¬ (¬ (0 ≤ a ∧ a ≤ 1)) → v = some (jI (zbt (zsi (w.1 (m + 1)) a n) n)) ∧ w1 = w)) := by
  have mt : jtb 185 = jT185 := rfl
  have hn2 := hS.n2
  have hn4 := hS.n4
  have hra1 : -2147483648 ≤ a ∧ a < 2147483648 := hra
  show jWp 185 0 [some (jO m), some (jI a), none, none, none, none] [] 0 0 w _
  refine jWp.blk mt 1 ?_
  show jWp 185 1 [some (jO m), some (jI a), none, none, none, none] [jI a] 0 0 w _
  refine jWp.i2l (pc' := 2) mt rfl rfl (b32_id (by omega) (by omega)) ?_
  show jWp 185 2 [some (jO m), some (jI a), none, none, none, none] [jJ a] 0 0 w _
  refine jWp.blk mt 2 ?_
  show jWp 185 4 [some (jO m), some (jI a), none, none, none, none] [jJ 1, jJ 0, jJ a] 0 0 w _
  refine jWp.calls (as := [jJ a, jJ 0, jJ 1]) (rest := []) mt rfl rfl rfl rfl ?_
  refine jCall.mono (E_in (b64_id (by omega) (by omega)) (show b64 0 = 0 by decide) (show b64 1 = 1 by decide)) (fun v9 w9 h9 => ?_)
  rcases h9 with ⟨rfl, h9, h1⟩ | ⟨rfl, h9, h1⟩ <;> subst w9
  · have h1 : 0 ≤ a ∧ a ≤ 1 := h1
    show jWp 185 7 [some (jO m), some (jI a), none, none, none, none] [jI 1] 0 0 w _
    refine jWp.ifc (b := true) mt rfl (by decide) rfl ?_
    show jWp 185 17 [some (jO m), some (jI a), none, none, none, none] [] 0 0 w _
    refine jWp.blk mt 4 ?_
    show jWp 185 21 [some (jO m), some (jI a), some (jI 0), some (jI 0), none, none] [] 0 0 w _
    have lp2 : ∀ (N : Nat) (k : Nat) (b : Int) (hk : k ≤ n) (hb : b = zbt (zsi (w.1 (m + 1)) a n) k), n - k < N → jWp 185 21 [some (jO m), some (jI a), some (jI b), some (jI (k : Int)), none, none] [] 0 0 w (fun v w1 => ((¬ (0 ≤ a ∧ a ≤ 1)) → jno w m 2 (jI (-2)) v w1) ∧ (¬ (¬ (0 ≤ a ∧ a ≤ 1)) → v = some (jI (zbt (zsi (w.1 (m + 1)) a n) n)) ∧ w1 = w)) := by
      intro N
      induction N with
      | zero => intro k b hk hb hm; omega
      | succ N ih3 =>
        intro k b hk hb hm
        refine jWp.blk mt 1 ?_
        show jWp 185 22 [some (jO m), some (jI a), some (jI b), some (jI (k : Int)), none, none] [jI (k : Int)] 0 0 w _
        refine jWp.i2l (pc' := 23) mt rfl rfl (b32_id (by omega) (by omega)) ?_
        show jWp 185 23 [some (jO m), some (jI a), some (jI b), some (jI (k : Int)), none, none] [jJ (k : Int)] 0 0 w _
        refine jWp.blk mt 1 ?_
        show _ ∧ jWp 185 24 [some (jO m), some (jI a), some (jI b), some (jI (k : Int)), none, none] [jO m, jJ (k : Int)] 0 0 w _
        refine ⟨rfl, ?_⟩
        refine jWp.getR (pc' := 27) (o := (m + 1)) mt rfl rfl (jtg hW.K0) hW.R0 ?_
        show jWp 185 27 [some (jO m), some (jI a), some (jI b), some (jI (k : Int)), none, none] [jO (m + 1), jJ (k : Int)] 0 0 w _
        refine jWp.blk mt 1 ?_
        show jWp 185 28 [some (jO m), some (jI a), some (jI b), some (jI (k : Int)), none, none] [jI 0, jO (m + 1), jJ (k : Int)] 0 0 w _
        refine jWp.lald (pc' := 29) (j := 0) mt rfl rfl (jtg hW.K1) (by decide) (jlt hW.K1 (by decide)) ?_
        rw [show (w.1 (m + 1) 0) = (n : Int) from hS.n0]
        show jWp 185 29 [some (jO m), some (jI a), some (jI b), some (jI (k : Int)), none, none] [jJ (n : Int), jJ (k : Int)] 0 0 w _
        refine jWp.lcmp (pc' := 33) mt rfl rfl rfl (b64_id (by omega) (by omega)) (b64_id (by omega) (by omega)) (fun h4 => ?_) (fun h4 => ?_)
        · have h4 : (n : Int) ≤ (k : Int) := h4
          refine jWp.blk mt 1 ?_
          show jWp 185 132 [some (jO m), some (jI a), some (jI b), some (jI (k : Int)), none, none] [jI b] 0 0 w _
          refine jWp.ireti mt rfl ⟨rfl, rfl⟩ rfl ?_
          refine ⟨fun c0 => ?_, fun c0 => ?_⟩
          all_goals first
          | (exfalso; omega)
          | exact ⟨rfl, rfl⟩
          | exact ⟨by rw [hb, show k = n by omega], rfl⟩
        · have h4 : (k : Int) < (n : Int) := h4
          refine jWp.blk mt 4 ?_
          show jWp 185 39 [some (jO m), some (jI a), some (jI b), some (jI (k : Int)), some (jI 1), some (jI 0)] [] 0 0 w _
          have lp5 : ∀ (N : Nat) (i : Nat) (s : Int) (hi : i ≤ n) (hs : (s = 1 ∧ ∀ y, y < i → if a = 0 then 0 ≤ w.1 (m + 1) (1 + (4 * y + k)) else w.1 (m + 1) (1 + (4 * y + k)) ≤ 0) ∨ (s = 0 ∧ ¬ ∀ y, y < i → if a = 0 then 0 ≤ w.1 (m + 1) (1 + (4 * y + k)) else w.1 (m + 1) (1 + (4 * y + k)) ≤ 0)), n - i < N → jWp 185 39 [some (jO m), some (jI a), some (jI b), some (jI (k : Int)), some (jI s), some (jI (i : Int))] [] 0 0 w (fun v w1 => ((¬ (0 ≤ a ∧ a ≤ 1)) → jno w m 2 (jI (-2)) v w1) ∧ (¬ (¬ (0 ≤ a ∧ a ≤ 1)) → v = some (jI (zbt (zsi (w.1 (m + 1)) a n) n)) ∧ w1 = w)) := by
            intro N
            induction N with
            | zero => intro i s hi hs hm; omega
            | succ N ih6 =>
              intro i s hi hs hm
              have hk4 : k < n := by omega
              have hf : i < n → _ := fun h => hS.b (4 * i + k) (by omega)
              refine jWp.blk mt 1 ?_
              show jWp 185 41 [some (jO m), some (jI a), some (jI b), some (jI (k : Int)), some (jI s), some (jI (i : Int))] [jI (i : Int)] 0 0 w _
              refine jWp.i2l (pc' := 42) mt rfl rfl (b32_id (by omega) (by omega)) ?_
              show jWp 185 42 [some (jO m), some (jI a), some (jI b), some (jI (k : Int)), some (jI s), some (jI (i : Int))] [jJ (i : Int)] 0 0 w _
              refine jWp.blk mt 1 ?_
              show _ ∧ jWp 185 43 [some (jO m), some (jI a), some (jI b), some (jI (k : Int)), some (jI s), some (jI (i : Int))] [jO m, jJ (i : Int)] 0 0 w _
              refine ⟨rfl, ?_⟩
              refine jWp.getR (pc' := 46) (o := (m + 1)) mt rfl rfl (jtg hW.K0) hW.R0 ?_
              show jWp 185 46 [some (jO m), some (jI a), some (jI b), some (jI (k : Int)), some (jI s), some (jI (i : Int))] [jO (m + 1), jJ (i : Int)] 0 0 w _
              refine jWp.blk mt 1 ?_
              show jWp 185 47 [some (jO m), some (jI a), some (jI b), some (jI (k : Int)), some (jI s), some (jI (i : Int))] [jI 0, jO (m + 1), jJ (i : Int)] 0 0 w _
              refine jWp.lald (pc' := 48) (j := 0) mt rfl rfl (jtg hW.K1) (by decide) (jlt hW.K1 (by decide)) ?_
              rw [show (w.1 (m + 1) 0) = (n : Int) from hS.n0]
              show jWp 185 48 [some (jO m), some (jI a), some (jI b), some (jI (k : Int)), some (jI s), some (jI (i : Int))] [jJ (n : Int), jJ (i : Int)] 0 0 w _
              refine jWp.lcmp (pc' := 52) mt rfl rfl rfl (b64_id (by omega) (by omega)) (b64_id (by omega) (by omega)) (fun h7 => ?_) (fun h7 => ?_)
              · have h7 : (n : Int) ≤ (i : Int) := h7
                refine jWp.blk mt 2 ?_
                show jWp 185 113 [some (jO m), some (jI a), some (jI b), some (jI (k : Int)), some (jI s), some (jI (i : Int))] [jI s, jI b] 0 0 w _
                refine jWp.ifz (pc' := 116) mt rfl rfl (b32_id (by rcases hs with ⟨e, _⟩ | ⟨e, _⟩ <;> omega) (by rcases hs with ⟨e, _⟩ | ⟨e, _⟩ <;> omega)) (fun h8 => ?_) (fun h8 => ?_)
                · have h8 : s = 0 := h8
                  refine jWp.blk mt 5 ?_
                  show jWp 185 21 [some (jO m), some (jI a), some (jI (jor b 0)), some (jI ((k : Int) + 1)), some (jI s), some (jI (i : Int))] [] 0 0 w _
                  refine jWp.le (l := [some (jO m), some (jI a), some (jI (jor b 0)), some (jI ((k : Int) + 1)), none, none]) (by exact ⟨rfl, rfl, rfl, rfl, trivial⟩) ?_
                  exact ih3 (k + 1) _ (by omega) (by rw [hb, jor_0 (zbt_r _ _), zbt_f (fun g => by rcases hs with ⟨e1, h⟩ | ⟨e1, h⟩; omega; exact h (fun y hy => g y (by omega)))]) (by omega)
                · have h8 : s ≠ 0 := h8
                  refine jWp.blk mt 8 ?_
                  show jWp 185 21 [some (jO m), some (jI a), some (jI (jor b (jshl 1 (k : Int)))), some (jI ((k : Int) + 1)), some (jI s), some (jI (i : Int))] [] 0 0 w _
                  refine jWp.le (l := [some (jO m), some (jI a), some (jI (jor b (jshl 1 (k : Int)))), some (jI ((k : Int) + 1)), none, none]) (by exact ⟨rfl, rfl, rfl, rfl, trivial⟩) ?_
                  exact ih3 (k + 1) _ (by omega) (by rw [hb, zbt_t (by rcases hs with ⟨e1, h⟩ | ⟨e1, h⟩; exact fun y hy => h y (by omega); omega)]) (by omega)
              · have h7 : (i : Int) < (n : Int) := h7
                refine jWp.blk mt 2 ?_
                show jWp 185 55 [some (jO m), some (jI a), some (jI b), some (jI (k : Int)), some (jI s), some (jI (i : Int))] [jI a, jI s] 0 0 w _
                refine jWp.ifz (pc' := 58) mt rfl rfl (b32_id (by omega) (by omega)) (fun h9 => ?_) (fun h9 => ?_)
                · have h9 : a ≠ 0 := h9
                  refine jWp.blk mt 1 ?_
                  show _ ∧ jWp 185 82 [some (jO m), some (jI a), some (jI b), some (jI (k : Int)), some (jI s), some (jI (i : Int))] [jO m, jI s] 0 0 w _
                  refine ⟨rfl, ?_⟩
                  refine jWp.getR (pc' := 85) (o := (m + 1)) mt rfl rfl (jtg hW.K0) hW.R0 ?_
                  show jWp 185 85 [some (jO m), some (jI a), some (jI b), some (jI (k : Int)), some (jI s), some (jI (i : Int))] [jO (m + 1), jI s] 0 0 w _
                  refine jWp.blk mt 2 ?_
                  show jWp 185 88 [some (jO m), some (jI a), some (jI b), some (jI (k : Int)), some (jI s), some (jI (i : Int))] [jI (k : Int), jI (i : Int), jO (m + 1), jI s] 0 0 w _
                  refine jWp.calls (as := [jO (m + 1), jI (i : Int), jI (k : Int)]) (rest := [jI s]) mt rfl rfl rfl rfl ?_
                  refine jCall.mono (E_b (w := w) (i := i) (k := k) hW.K1 (by omega) (by omega) (by omega)) (fun v9 w9 h9 => ?_)
                  obtain ⟨rfl, h9⟩ := h9
                  subst w9
                  show jWp 185 91 [some (jO m), some (jI a), some (jI b), some (jI (k : Int)), some (jI s), some (jI (i : Int))] [jJ (w.1 (m + 1) (1 + (4 * i + k))), jI s] 0 0 w _
                  refine jWp.blk mt 1 ?_
                  show jWp 185 92 [some (jO m), some (jI a), some (jI b), some (jI (k : Int)), some (jI s), some (jI (i : Int))] [jJ 0, jJ (w.1 (m + 1) (1 + (4 * i + k))), jI s] 0 0 w _
                  refine jWp.lcmp (pc' := 96) mt rfl rfl rfl (b64_id (by omega) (by omega)) (show b64 0 = 0 by decide) (fun h10 => ?_) (fun h10 => ?_)
                  · have h10 : 0 < (w.1 (m + 1) (1 + (4 * i + k))) := h10
                    refine jWp.blk mt 5 ?_
                    show jWp 185 39 [some (jO m), some (jI a), some (jI b), some (jI (k : Int)), some (jI (jand s 0)), some (jI ((i : Int) + 1))] [] 0 0 w _
                    refine jWp.le (l := [some (jO m), some (jI a), some (jI b), some (jI (k : Int)), some (jI (jand s 0)), some (jI ((i : Int) + 1))]) (by exact ⟨rfl, rfl, rfl, rfl, rfl, rfl, trivial⟩) ?_
                    exact ih6 (i + 1) (jand s 0) (by omega) (Or.inr ⟨by rcases hs with ⟨rfl, h⟩ | ⟨rfl, h⟩ <;> decide, fun g => by have g := g i (by omega); first | (rw [if_pos (by omega)] at g; omega) | (rw [if_neg (by omega)] at g; omega)⟩) (by omega)
                  · have h10 : (w.1 (m + 1) (1 + (4 * i + k))) ≤ 0 := h10
                    refine jWp.blk mt 6 ?_
                    show jWp 185 39 [some (jO m), some (jI a), some (jI b), some (jI (k : Int)), some (jI (jand s 1)), some (jI ((i : Int) + 1))] [] 0 0 w _
                    refine jWp.le (l := [some (jO m), some (jI a), some (jI b), some (jI (k : Int)), some (jI (jand s 1)), some (jI ((i : Int) + 1))]) (by exact ⟨rfl, rfl, rfl, rfl, rfl, rfl, trivial⟩) ?_
                    exact ih6 (i + 1) (jand s 1) (by omega) (by rcases hs with ⟨rfl, h⟩ | ⟨rfl, h⟩; exact Or.inl ⟨by decide, fun y hy => by rcases Nat.lt_or_ge y i with e | e; exact h y e; rw [show y = i by omega]; first | (rw [if_pos (by omega)]; omega) | (rw [if_neg (by omega)]; omega)⟩; exact Or.inr ⟨by decide, fun g => h (fun y hy => g y (by omega))⟩) (by omega)
                · have h9 : a = 0 := h9
                  refine jWp.blk mt 1 ?_
                  show _ ∧ jWp 185 59 [some (jO m), some (jI a), some (jI b), some (jI (k : Int)), some (jI s), some (jI (i : Int))] [jO m, jI s] 0 0 w _
                  refine ⟨rfl, ?_⟩
                  refine jWp.getR (pc' := 62) (o := (m + 1)) mt rfl rfl (jtg hW.K0) hW.R0 ?_
                  show jWp 185 62 [some (jO m), some (jI a), some (jI b), some (jI (k : Int)), some (jI s), some (jI (i : Int))] [jO (m + 1), jI s] 0 0 w _
                  refine jWp.blk mt 2 ?_
                  show jWp 185 65 [some (jO m), some (jI a), some (jI b), some (jI (k : Int)), some (jI s), some (jI (i : Int))] [jI (k : Int), jI (i : Int), jO (m + 1), jI s] 0 0 w _
                  refine jWp.calls (as := [jO (m + 1), jI (i : Int), jI (k : Int)]) (rest := [jI s]) mt rfl rfl rfl rfl ?_
                  refine jCall.mono (E_b (w := w) (i := i) (k := k) hW.K1 (by omega) (by omega) (by omega)) (fun v9 w9 h9 => ?_)
                  obtain ⟨rfl, h9⟩ := h9
                  subst w9
                  show jWp 185 68 [some (jO m), some (jI a), some (jI b), some (jI (k : Int)), some (jI s), some (jI (i : Int))] [jJ (w.1 (m + 1) (1 + (4 * i + k))), jI s] 0 0 w _
                  refine jWp.blk mt 1 ?_
                  show jWp 185 69 [some (jO m), some (jI a), some (jI b), some (jI (k : Int)), some (jI s), some (jI (i : Int))] [jJ 0, jJ (w.1 (m + 1) (1 + (4 * i + k))), jI s] 0 0 w _
                  refine jWp.lcmp (pc' := 73) mt rfl rfl rfl (b64_id (by omega) (by omega)) (show b64 0 = 0 by decide) (fun h11 => ?_) (fun h11 => ?_)
                  · have h11 : (w.1 (m + 1) (1 + (4 * i + k))) < 0 := h11
                    refine jWp.blk mt 6 ?_
                    show jWp 185 39 [some (jO m), some (jI a), some (jI b), some (jI (k : Int)), some (jI (jand s 0)), some (jI ((i : Int) + 1))] [] 0 0 w _
                    refine jWp.le (l := [some (jO m), some (jI a), some (jI b), some (jI (k : Int)), some (jI (jand s 0)), some (jI ((i : Int) + 1))]) (by exact ⟨rfl, rfl, rfl, rfl, rfl, rfl, trivial⟩) ?_
                    exact ih6 (i + 1) (jand s 0) (by omega) (Or.inr ⟨by rcases hs with ⟨rfl, h⟩ | ⟨rfl, h⟩ <;> decide, fun g => by have g := g i (by omega); first | (rw [if_pos (by omega)] at g; omega) | (rw [if_neg (by omega)] at g; omega)⟩) (by omega)
                  · have h11 : 0 ≤ (w.1 (m + 1) (1 + (4 * i + k))) := h11
                    refine jWp.blk mt 6 ?_
                    show jWp 185 39 [some (jO m), some (jI a), some (jI b), some (jI (k : Int)), some (jI (jand s 1)), some (jI ((i : Int) + 1))] [] 0 0 w _
                    refine jWp.le (l := [some (jO m), some (jI a), some (jI b), some (jI (k : Int)), some (jI (jand s 1)), some (jI ((i : Int) + 1))]) (by exact ⟨rfl, rfl, rfl, rfl, rfl, rfl, trivial⟩) ?_
                    exact ih6 (i + 1) (jand s 1) (by omega) (by rcases hs with ⟨rfl, h⟩ | ⟨rfl, h⟩; exact Or.inl ⟨by decide, fun y hy => by rcases Nat.lt_or_ge y i with e | e; exact h y e; rw [show y = i by omega]; first | (rw [if_pos (by omega)]; omega) | (rw [if_neg (by omega)]; omega)⟩; exact Or.inr ⟨by decide, fun g => h (fun y hy => g y (by omega))⟩) (by omega)
          refine jWp.le (l := [some (jO m), some (jI a), some (jI b), some (jI (k : Int)), some (jI 1), some (jI 0)]) (by exact ⟨rfl, rfl, rfl, rfl, rfl, rfl, trivial⟩) ?_
          exact lp5 _ 0 1 (by omega) (Or.inl ⟨rfl, fun y hy => absurd hy (by omega)⟩) (Nat.lt_succ_self _)
    refine jWp.le (l := [some (jO m), some (jI a), some (jI 0), some (jI 0), none, none]) (by exact ⟨rfl, rfl, rfl, rfl, trivial⟩) ?_
    exact lp2 _ 0 0 (by omega) rfl (Nat.lt_succ_self _)
  · have h1 : ¬ (0 ≤ a ∧ a ≤ 1) := h1
    show jWp 185 7 [some (jO m), some (jI a), none, none, none, none] [jI 0] 0 0 w _
    refine jWp.ifc (b := false) mt rfl (by decide) rfl ?_
    show jWp 185 10 [some (jO m), some (jI a), none, none, none, none] [] 0 0 w _
    refine jWp.blk mt 2 ?_
    show _ ∧ jWp 185 13 [some (jO m), some (jI a), none, none, none, none] [jI (-2), jO m] 0 0 w _
    refine ⟨rfl, ?_⟩
    refine jWp.callv (as := [jO m, jI (-2)]) (rest := []) mt rfl rfl rfl ⟨rfl, jtg hW.K0⟩ ?_
    refine jCall.mono (E_refuses (w := w) (j := 2) hW (by decide) (by decide)) (fun v9 w9 h9 => ?_)
    obtain ⟨rfl, h9⟩ := h9
    subst h9
    show jWp 185 16 [some (jO m), some (jI a), none, none, none, none] [jI (-2)] 0 0 (jW w (m + 3) 2 ((w.1 (m + 3) 2) + 1)) _
    refine jWp.ireti mt rfl ⟨rfl, rfl⟩ rfl ?_
    refine ⟨fun c0 => ?_, fun c0 => ?_⟩
    all_goals first
    | (exfalso; omega)
    | exact ⟨rfl, rfl⟩
    | exact ⟨by rw [hb, show k = n by omega], rfl⟩
def zcz (q : Nat → Int) : Nat → Int
  | 0 => 0
  | e + 1 => zcz q e + if q (1 + e) = 0 then 0 else 1
theorem zcz_t {q : Nat → Int} {e : Nat} (h : q (1 + e) = 0) : zcz q (e + 1) = zcz q e + 0 := by
  show _ + (if _ then _ else _) = _
  rw [if_pos h]
theorem zcz_f {q : Nat → Int} {e : Nat} (h : q (1 + e) ≠ 0) : zcz q (e + 1) = zcz q e + 1 := by
  show _ + (if _ then _ else _) = _
  rw [if_neg h]
set_option maxHeartbeats 4000000 in
set_option maxRecDepth 20000 in
theorem E_count {w : jS} {m : Nat} (hW : MW w.2 m) {n : Nat} (hS : zS (w.1 (m + 1)) n) {what : Int} (hrw : r32 what) : jCall 219 [jO m, jI what] w (fun v w1 => (what = 0 → v = some (jI (w.1 (m + 2) 0)) ∧ w1 = w) ∧ (what = 1 → v = some (jI ((n : Int))) ∧ w1 = w) ∧ (what = 2 → v = some (jI (w.1 m 24)) ∧ w1 = w) ∧ (what = 3 → v = some (jI (w.1 m 15)) ∧ w1 = w) ∧ (what = 4 → v = some (jI (zcz (w.1 (m + 1)) 16)) ∧ w1 = w) ∧ (what = 5 → v = some (jI (zgo (w.1 (m + 1)) n n)) ∧ w1 = w) ∧ (11 ≤ what ∧ what ≤ 16 → v = some (jI (w.1 (m + 3) (what - 10).toNat)) ∧ w1 = w) ∧ ((what < 0 ∨ (5 < what ∧ what < 11) ∨ 16 < what) → v = some (jI (-9)) ∧ w1 = w)) := by
  have mt : jtb 219 = jT219 := rfl
  have hn2 := hS.n2
  have hn4 := hS.n4
  have hrw1 : -2147483648 ≤ what ∧ what < 2147483648 := hrw
  show jWp 219 0 [some (jO m), some (jI what), none, none] [] 0 0 w _
  refine jWp.blk mt 1 ?_
  show jWp 219 1 [some (jO m), some (jI what), none, none] [jI what] 0 0 w _
  refine jWp.i2l (pc' := 2) mt rfl rfl (b32_id (by omega) (by omega)) ?_
  show jWp 219 2 [some (jO m), some (jI what), none, none] [jJ what] 0 0 w _
  refine jWp.blk mt 2 ?_
  show jWp 219 8 [some (jO m), some (jI what), none, none] [jJ 16, jJ 11, jJ what] 0 0 w _
  refine jWp.calls (as := [jJ what, jJ 11, jJ 16]) (rest := []) mt rfl rfl rfl rfl ?_
  refine jCall.mono (E_in (b64_id (by omega) (by omega)) (show b64 11 = 11 by decide) (show b64 16 = 16 by decide)) (fun v9 w9 h9 => ?_)
  rcases h9 with ⟨rfl, h9, h1⟩ | ⟨rfl, h9, h1⟩ <;> subst w9
  · have h1 : 11 ≤ what ∧ what ≤ 16 := h1
    show jWp 219 11 [some (jO m), some (jI what), none, none] [jI 1] 0 0 w _
    refine jWp.ifc (b := false) mt rfl (by decide) rfl ?_
    show jWp 219 14 [some (jO m), some (jI what), none, none] [] 0 0 w _
    refine jWp.blk mt 1 ?_
    show _ ∧ jWp 219 15 [some (jO m), some (jI what), none, none] [jO m] 0 0 w _
    refine ⟨rfl, ?_⟩
    refine jWp.getR (pc' := 18) (o := (m + 3)) mt rfl rfl (jtg hW.K0) hW.R2 ?_
    show jWp 219 18 [some (jO m), some (jI what), none, none] [jO (m + 3)] 0 0 w _
    refine jWp.blk mt 3 ?_
    show jWp 219 22 [some (jO m), some (jI what), none, none] [jI (what - 10), jO (m + 3)] 0 0 w _
    refine jWp.iald (pc' := 23) (j := (what - 10).toNat) mt rfl rfl (jird_of hW.K3) (by rw [b32_id (by omega) (by omega)]; omega) (jlt hW.K3 (by omega)) ?_
    show jWp 219 23 [some (jO m), some (jI what), none, none] [jI (w.1 (m + 3) ((what - 10).toNat))] 0 0 w _
    refine jWp.ireti mt rfl ⟨rfl, rfl⟩ rfl ?_
    refine ⟨fun c => ?_, fun c => ?_, fun c => ?_, fun c => ?_, fun c => ?_, fun c => ?_, fun c => ?_, fun c => ?_⟩
    all_goals first
    | (exfalso; omega)
    | exact ⟨rfl, rfl⟩
    | (refine ⟨?_, rfl⟩; rw [hcz, show e = 16 by omega])
    | (refine ⟨?_, rfl⟩; rw [show (what1 - 10 : Nat) = ((what1 : Int) - 10).toNat by omega])
  · have h1 : ¬ (11 ≤ what ∧ what ≤ 16) := h1
    show jWp 219 11 [some (jO m), some (jI what), none, none] [jI 0] 0 0 w _
    refine jWp.ifc (b := true) mt rfl (by decide) rfl ?_
    show jWp 219 24 [some (jO m), some (jI what), none, none] [] 0 0 w _
    refine jWp.blk mt 1 ?_
    show jWp 219 25 [some (jO m), some (jI what), none, none] [jI what] 0 0 w _
    refine jWp.sw mt rfl (Or.inl ⟨_, _, _, _, rfl⟩) (b32_id (by omega) (by omega)) ?_
    show jWp 219 (jsw [(0, 64), (1, 71), (2, 79), (3, 84), (4, 89), (5, 128)] 137 what) [some (jO m), some (jI what), none, none] [] 0 0 w _
    unfold jsw; by_cases h2 : 0 = what
    · rw [if_pos h2]
      refine jWp.blk mt 1 ?_
      show _ ∧ jWp 219 65 [some (jO m), some (jI what), none, none] [jO m] 0 0 w _
      refine ⟨rfl, ?_⟩
      refine jWp.getR (pc' := 68) (o := (m + 2)) mt rfl rfl (jtg hW.K0) hW.R1 ?_
      show jWp 219 68 [some (jO m), some (jI what), none, none] [jO (m + 2)] 0 0 w _
      refine jWp.blk mt 1 ?_
      show jWp 219 69 [some (jO m), some (jI what), none, none] [jI 0, jO (m + 2)] 0 0 w _
      refine jWp.iald (pc' := 70) (j := 0) mt rfl rfl (jird_of hW.K2) (by decide) (jlt hW.K2 (by decide)) ?_
      show jWp 219 70 [some (jO m), some (jI what), none, none] [jI (w.1 (m + 2) 0)] 0 0 w _
      refine jWp.ireti mt rfl ⟨rfl, rfl⟩ rfl ?_
      refine ⟨fun c => ?_, fun c => ?_, fun c => ?_, fun c => ?_, fun c => ?_, fun c => ?_, fun c => ?_, fun c => ?_⟩
      all_goals first
      | (exfalso; omega)
      | exact ⟨rfl, rfl⟩
      | (refine ⟨?_, rfl⟩; rw [hcz, show e = 16 by omega])
      | (refine ⟨?_, rfl⟩; rw [show (what1 - 10 : Nat) = ((what1 : Int) - 10).toNat by omega])
    · rw [if_neg h2]
      unfold jsw; by_cases h3 : 1 = what
      · rw [if_pos h3]
        refine jWp.blk mt 1 ?_
        show _ ∧ jWp 219 72 [some (jO m), some (jI what), none, none] [jO m] 0 0 w _
        refine ⟨rfl, ?_⟩
        refine jWp.getR (pc' := 75) (o := (m + 1)) mt rfl rfl (jtg hW.K0) hW.R0 ?_
        show jWp 219 75 [some (jO m), some (jI what), none, none] [jO (m + 1)] 0 0 w _
        refine jWp.blk mt 1 ?_
        show jWp 219 76 [some (jO m), some (jI what), none, none] [jI 0, jO (m + 1)] 0 0 w _
        refine jWp.lald (pc' := 77) (j := 0) mt rfl rfl (jtg hW.K1) (by decide) (jlt hW.K1 (by decide)) ?_
        rw [show (w.1 (m + 1) 0) = (n : Int) from hS.n0]
        show jWp 219 77 [some (jO m), some (jI what), none, none] [jJ (n : Int)] 0 0 w _
        refine jWp.blk mt 1 ?_
        show jWp 219 78 [some (jO m), some (jI what), none, none] [jI (n : Int)] 0 0 w _
        refine jWp.ireti mt rfl ⟨rfl, rfl⟩ rfl ?_
        refine ⟨fun c => ?_, fun c => ?_, fun c => ?_, fun c => ?_, fun c => ?_, fun c => ?_, fun c => ?_, fun c => ?_⟩
        all_goals first
        | (exfalso; omega)
        | exact ⟨rfl, rfl⟩
        | (refine ⟨?_, rfl⟩; rw [hcz, show e = 16 by omega])
        | (refine ⟨?_, rfl⟩; rw [show (what1 - 10 : Nat) = ((what1 : Int) - 10).toNat by omega])
      · rw [if_neg h3]
        unfold jsw; by_cases h4 : 2 = what
        · rw [if_pos h4]
          refine jWp.blk mt 1 ?_
          show _ ∧ jWp 219 80 [some (jO m), some (jI what), none, none] [jO m] 0 0 w _
          refine ⟨rfl, ?_⟩
          refine jWp.getI (pc' := 83) mt rfl rfl (jtg hW.K0) ?_
          show jWp 219 83 [some (jO m), some (jI what), none, none] [jI (w.1 m 24)] 0 0 w _
          refine jWp.ireti mt rfl ⟨rfl, rfl⟩ rfl ?_
          refine ⟨fun c => ?_, fun c => ?_, fun c => ?_, fun c => ?_, fun c => ?_, fun c => ?_, fun c => ?_, fun c => ?_⟩
          all_goals first
          | (exfalso; omega)
          | exact ⟨rfl, rfl⟩
          | (refine ⟨?_, rfl⟩; rw [hcz, show e = 16 by omega])
          | (refine ⟨?_, rfl⟩; rw [show (what1 - 10 : Nat) = ((what1 : Int) - 10).toNat by omega])
        · rw [if_neg h4]
          unfold jsw; by_cases h5 : 3 = what
          · rw [if_pos h5]
            refine jWp.blk mt 1 ?_
            show _ ∧ jWp 219 85 [some (jO m), some (jI what), none, none] [jO m] 0 0 w _
            refine ⟨rfl, ?_⟩
            refine jWp.getI (pc' := 88) mt rfl rfl (jtg hW.K0) ?_
            show jWp 219 88 [some (jO m), some (jI what), none, none] [jI (w.1 m 15)] 0 0 w _
            refine jWp.ireti mt rfl ⟨rfl, rfl⟩ rfl ?_
            refine ⟨fun c => ?_, fun c => ?_, fun c => ?_, fun c => ?_, fun c => ?_, fun c => ?_, fun c => ?_, fun c => ?_⟩
            all_goals first
            | (exfalso; omega)
            | exact ⟨rfl, rfl⟩
            | (refine ⟨?_, rfl⟩; rw [hcz, show e = 16 by omega])
            | (refine ⟨?_, rfl⟩; rw [show (what1 - 10 : Nat) = ((what1 : Int) - 10).toNat by omega])
          · rw [if_neg h5]
            unfold jsw; by_cases h6 : 4 = what
            · rw [if_pos h6]
              refine jWp.blk mt 4 ?_
              show jWp 219 93 [some (jO m), some (jI what), some (jI 0), some (jI 0)] [] 0 0 w _
              have lp7 : ∀ (N : Nat) (e : Nat) (b : Int) (he : e ≤ 16) (hcz : b = zcz (w.1 (m + 1)) e), 16 - e < N → jWp 219 93 [some (jO m), none, some (jI b), some (jI (e : Int))] [] 0 0 w (fun v w1 => (what = 0 → v = some (jI (w.1 (m + 2) 0)) ∧ w1 = w) ∧ (what = 1 → v = some (jI ((n : Int))) ∧ w1 = w) ∧ (what = 2 → v = some (jI (w.1 m 24)) ∧ w1 = w) ∧ (what = 3 → v = some (jI (w.1 m 15)) ∧ w1 = w) ∧ (what = 4 → v = some (jI (zcz (w.1 (m + 1)) 16)) ∧ w1 = w) ∧ (what = 5 → v = some (jI (zgo (w.1 (m + 1)) n n)) ∧ w1 = w) ∧ (11 ≤ what ∧ what ≤ 16 → v = some (jI (w.1 (m + 3) (what - 10).toNat)) ∧ w1 = w) ∧ ((what < 0 ∨ (5 < what ∧ what < 11) ∨ 16 < what) → v = some (jI (-9)) ∧ w1 = w)) := by
                intro N
                induction N with
                | zero => intro e b he hcz hm; omega
                | succ N ih8 =>
                  intro e b he hcz hm
                  have hf : e < 16 → _ := fun h => hS.b e (by omega)
                  refine jWp.blk mt 2 ?_
                  show jWp 219 96 [some (jO m), none, some (jI b), some (jI (e : Int))] [jI 16, jI (e : Int)] 0 0 w _
                  refine jWp.icmp (pc' := 99) mt rfl rfl (b32_id (by omega) (by omega)) (show b32 16 = 16 by decide) (fun h9 => ?_) (fun h9 => ?_)
                  · have h9 : 16 ≤ (e : Int) := h9
                    refine jWp.blk mt 1 ?_
                    show jWp 219 127 [some (jO m), none, some (jI b), some (jI (e : Int))] [jI b] 0 0 w _
                    refine jWp.ireti mt rfl ⟨rfl, rfl⟩ rfl ?_
                    refine ⟨fun c => ?_, fun c => ?_, fun c => ?_, fun c => ?_, fun c => ?_, fun c => ?_, fun c => ?_, fun c => ?_⟩
                    all_goals first
                    | (exfalso; omega)
                    | exact ⟨rfl, rfl⟩
                    | (refine ⟨?_, rfl⟩; rw [hcz, show e = 16 by omega])
                    | (refine ⟨?_, rfl⟩; rw [show (what1 - 10 : Nat) = ((what1 : Int) - 10).toNat by omega])
                  · have h9 : (e : Int) < 16 := h9
                    refine jWp.blk mt 2 ?_
                    show _ ∧ jWp 219 101 [some (jO m), none, some (jI b), some (jI (e : Int))] [jO m, jI b] 0 0 w _
                    refine ⟨rfl, ?_⟩
                    refine jWp.getR (pc' := 104) (o := (m + 1)) mt rfl rfl (jtg hW.K0) hW.R0 ?_
                    show jWp 219 104 [some (jO m), none, some (jI b), some (jI (e : Int))] [jO (m + 1), jI b] 0 0 w _
                    refine jWp.blk mt 3 ?_
                    show jWp 219 107 [some (jO m), none, some (jI b), some (jI (e : Int))] [jI (1 + (e : Int)), jO (m + 1), jI b] 0 0 w _
                    refine jWp.lald (pc' := 108) (j := (1 + e)) mt rfl rfl (jtg hW.K1) (by rw [b32_id (by omega) (by omega)] <;> omega) (jlt hW.K1 (by omega)) ?_
                    show jWp 219 108 [some (jO m), none, some (jI b), some (jI (e : Int))] [jJ (w.1 (m + 1) (1 + e)), jI b] 0 0 w _
                    refine jWp.blk mt 1 ?_
                    show jWp 219 109 [some (jO m), none, some (jI b), some (jI (e : Int))] [jJ 0, jJ (w.1 (m + 1) (1 + e)), jI b] 0 0 w _
                    refine jWp.lcmp (pc' := 113) mt rfl rfl rfl (b64_id (by omega) (by omega)) (show b64 0 = 0 by decide) (fun h10 => ?_) (fun h10 => ?_)
                    · have h10 : (w.1 (m + 1) (1 + e)) = 0 := h10
                      refine jWp.blk mt 5 ?_
                      show jWp 219 93 [some (jO m), none, some (jI (b + 0)), some (jI ((e : Int) + 1))] [] 0 0 w _
                      refine jWp.le (l := [some (jO m), none, some (jI (b + 0)), some (jI ((e : Int) + 1))]) (by exact ⟨rfl, rfl, rfl, trivial⟩) ?_
                      exact ih8 (e + 1) _ (by omega) (by rw [hcz]; first | (rw [zcz_t (by omega)]; done) | (rw [zcz_f (by omega)]; done)) (by omega)
                    · have h10 : (w.1 (m + 1) (1 + e)) ≠ 0 := h10
                      refine jWp.blk mt 6 ?_
                      show jWp 219 93 [some (jO m), none, some (jI (b + 1)), some (jI ((e : Int) + 1))] [] 0 0 w _
                      refine jWp.le (l := [some (jO m), none, some (jI (b + 1)), some (jI ((e : Int) + 1))]) (by exact ⟨rfl, rfl, rfl, trivial⟩) ?_
                      exact ih8 (e + 1) _ (by omega) (by rw [hcz]; first | (rw [zcz_t (by omega)]; done) | (rw [zcz_f (by omega)]; done)) (by omega)
              refine jWp.le (l := [some (jO m), none, some (jI 0), some (jI 0)]) (by exact ⟨rfl, rfl, rfl, trivial⟩) ?_
              exact lp7 _ 0 0 (by omega) rfl (Nat.lt_succ_self _)
            · rw [if_neg h6]
              unfold jsw; by_cases h11 : 5 = what
              · rw [if_pos h11]
                refine jWp.blk mt 1 ?_
                show _ ∧ jWp 219 129 [some (jO m), some (jI what), none, none] [jO m] 0 0 w _
                refine ⟨rfl, ?_⟩
                refine jWp.getR (pc' := 132) (o := (m + 1)) mt rfl rfl (jtg hW.K0) hW.R0 ?_
                show jWp 219 132 [some (jO m), some (jI what), none, none] [jO (m + 1)] 0 0 w _
                refine jWp.calls (as := [jO (m + 1)]) (rest := []) mt rfl rfl rfl rfl ?_
                refine jCall.mono (E_greatest (w := w) (n := n) hW.K1 hS) (fun v9 w9 h9 => ?_)
                obtain ⟨rfl, h9⟩ := h9
                subst w9
                show jWp 219 135 [some (jO m), some (jI what), none, none] [jJ (zgo (w.1 (m + 1)) n n)] 0 0 w _
                refine jWp.blk mt 1 ?_
                show jWp 219 136 [some (jO m), some (jI what), none, none] [jI (zgo (w.1 (m + 1)) n n)] 0 0 w _
                refine jWp.ireti mt rfl ⟨rfl, rfl⟩ rfl ?_
                refine ⟨fun c => ?_, fun c => ?_, fun c => ?_, fun c => ?_, fun c => ?_, fun c => ?_, fun c => ?_, fun c => ?_⟩
                all_goals first
                | (exfalso; omega)
                | exact ⟨rfl, rfl⟩
                | (refine ⟨?_, rfl⟩; rw [hcz, show e = 16 by omega])
                | (refine ⟨?_, rfl⟩; rw [show (what1 - 10 : Nat) = ((what1 : Int) - 10).toNat by omega])
              · rw [if_neg h11]
                unfold jsw
                refine jWp.blk mt 1 ?_
                show jWp 219 139 [some (jO m), some (jI what), none, none] [jI (-9)] 0 0 w _
                refine jWp.ireti mt rfl ⟨rfl, rfl⟩ rfl ?_
                refine ⟨fun c => ?_, fun c => ?_, fun c => ?_, fun c => ?_, fun c => ?_, fun c => ?_, fun c => ?_, fun c => ?_⟩
                all_goals first
                | (exfalso; omega)
                | exact ⟨rfl, rfl⟩
                | (refine ⟨?_, rfl⟩; rw [hcz, show e = 16 by omega])
                | (refine ⟨?_, rfl⟩; rw [show (what1 - 10 : Nat) = ((what1 : Int) - 10).toNat by omega])
noncomputable def zrF (q0 : Nat → Int) (n i j : Nat) : Nat → Nat → (Nat → Int) → Int
  | 0, _, _ => -9
  | f + 1, t, S => @ite Int (zcan S n (if t % 2 = 1 then i else j)) (Classical.propDecidable _) (@ite Int (zsame q0 (zxF S n (if t % 2 = 1 then i else j)) n) (Classical.propDecidable _) (t : Int) (zrF q0 n i j f (t + 1) (zxF S n (if t % 2 = 1 then i else j)))) (-9)
theorem zrF_no {q0 S : Nat → Int} {n i j f t k : Nat} (hk : (if t % 2 = 1 then i else j) = k) (h : ¬ zcan S n k) : zrF q0 n i j (f + 1) t S = -9 := by
  subst hk
  exact if_neg h
theorem zrF_yes {q0 S : Nat → Int} {n i j f t k : Nat} (hk : (if t % 2 = 1 then i else j) = k) (h : zcan S n k) (g : zsame q0 (zxF S n k) n) : zrF q0 n i j (f + 1) t S = (t : Int) := by
  subst hk
  exact (if_pos h).trans (if_pos g)
theorem zrF_go {q0 S : Nat → Int} {n i j f t k : Nat} (hk : (if t % 2 = 1 then i else j) = k) (h : zcan S n k) (g : ¬ zsame q0 (zxF S n k) n) : zrF q0 n i j (f + 1) t S = zrF q0 n i j f (t + 1) (zxF S n k) := by
  subst hk
  exact (if_pos h).trans (if_neg g)
theorem zrF_c {q0 : Nat → Int} {n i j : Nat} (hn : n ≤ 4) (hi : i < 4) (hj : j < 4) : ∀ (f t : Nat) (S q : Nat → Int), zeq S q → zrF q0 n i j f t S = zrF q0 n i j f t q
  | 0, _, _, _, _ => rfl
  | f + 1, t, S, q, h => by
    have hk : (if t % 2 = 1 then i else j) < 4 := by split <;> omega
    have e := zxF_c h hn hk
    by_cases h1 : zcan S n (if t % 2 = 1 then i else j)
    · have h2 := (zcan_q h hn hk).mp h1
      by_cases h3 : zsame q0 (zxF S n (if t % 2 = 1 then i else j)) n
      · rw [zrF_yes rfl h1 h3, zrF_yes rfl h2 ((zsame_c hn (fun _ _ => rfl) e).mp h3)]
      · rw [zrF_go rfl h1 h3, zrF_go rfl h2 (fun g => h3 ((zsame_c hn (fun _ _ => rfl) e).mpr g))]
        exact zrF_c hn hi hj f (t + 1) _ _ e
    · rw [zrF_no rfl h1, zrF_no rfl (fun g => h1 ((zcan_q h hn hk).mpr g))]
set_option maxHeartbeats 4000000 in
set_option maxRecDepth 20000 in
theorem E_ring {w : jS} {m : Nat} (hW : MW w.2 m) {n : Nat} (hS : zS (w.1 (m + 1)) n) {i j : Int} (hri : r32 i) (hrj : r32 j) : jCall 187 [jO m, jI i, jI j] w (fun v w1 => ((¬ (0 ≤ i ∧ i < (n : Int)) ∨ ¬ (0 ≤ j ∧ j < (n : Int)) ∨ i = j) → jno w m 1 (jI (-1)) v w1) ∧ (¬ (¬ (0 ≤ i ∧ i < (n : Int)) ∨ ¬ (0 ≤ j ∧ j < (n : Int)) ∨ i = j) → v = some (jI (zrF (w.1 (m + 1)) n i.toNat j.toNat 20 1 (w.1 (m + 1)))) ∧ mq w m w1)) := by
  have mt : jtb 187 = jT187 := rfl
  have hn2 := hS.n2
  have hn4 := hS.n4
  have hri1 : -2147483648 ≤ i ∧ i < 2147483648 := hri
  have hrj1 : -2147483648 ≤ j ∧ j < 2147483648 := hrj
  show jWp 187 0 [some (jO m), some (jI i), some (jI j), none] [] 0 0 w _
  refine jWp.blk mt 2 ?_
  show _ ∧ jWp 187 2 [some (jO m), some (jI i), some (jI j), none] [jI i, jO m] 0 0 w _
  refine ⟨rfl, ?_⟩
  refine jWp.callv (as := [jO m, jI i]) (rest := []) mt rfl rfl rfl ⟨rfl, jtg hW.K0⟩ ?_
  refine jCall.mono (E_isLetter hW hS hri) (fun v9 w9 h9 => ?_)
  rcases h9 with ⟨rfl, h9, h1⟩ | ⟨rfl, h9, h1⟩ <;> subst w9
  · have h1 : 0 ≤ i ∧ i < (n : Int) := h1
    show jWp 187 5 [some (jO m), some (jI i), some (jI j), none] [jI 1] 0 0 w _
    obtain ⟨i1, rfl⟩ : ∃ i1 : Nat, i = (i1 : Int) := ⟨i.toNat, by omega⟩
    show jWp 187 5 [some (jO m), some (jI (i1 : Int)), some (jI j), none] [jI 1] 0 0 w _
    refine jWp.ifc (b := false) mt rfl (by decide) rfl ?_
    show jWp 187 8 [some (jO m), some (jI (i1 : Int)), some (jI j), none] [] 0 0 w _
    refine jWp.blk mt 2 ?_
    show _ ∧ jWp 187 10 [some (jO m), some (jI (i1 : Int)), some (jI j), none] [jI j, jO m] 0 0 w _
    refine ⟨rfl, ?_⟩
    refine jWp.callv (as := [jO m, jI j]) (rest := []) mt rfl rfl rfl ⟨rfl, jtg hW.K0⟩ ?_
    refine jCall.mono (E_isLetter hW hS hrj) (fun v9 w9 h9 => ?_)
    rcases h9 with ⟨rfl, h9, h2⟩ | ⟨rfl, h9, h2⟩ <;> subst w9
    · have h2 : 0 ≤ j ∧ j < (n : Int) := h2
      show jWp 187 13 [some (jO m), some (jI (i1 : Int)), some (jI j), none] [jI 1] 0 0 w _
      obtain ⟨j1, rfl⟩ : ∃ j1 : Nat, j = (j1 : Int) := ⟨j.toNat, by omega⟩
      show jWp 187 13 [some (jO m), some (jI (i1 : Int)), some (jI (j1 : Int)), none] [jI 1] 0 0 w _
      refine jWp.ifc (b := false) mt rfl (by decide) rfl ?_
      show jWp 187 16 [some (jO m), some (jI (i1 : Int)), some (jI (j1 : Int)), none] [] 0 0 w _
      refine jWp.blk mt 2 ?_
      show jWp 187 18 [some (jO m), some (jI (i1 : Int)), some (jI (j1 : Int)), none] [jI (j1 : Int), jI (i1 : Int)] 0 0 w _
      refine jWp.icmp (pc' := 21) mt rfl rfl (b32_id (by omega) (by omega)) (b32_id (by omega) (by omega)) (fun h3 => ?_) (fun h3 => ?_)
      · have h3 : (i1 : Int) ≠ (j1 : Int) := h3
        refine jWp.blk mt 1 ?_
        show _ ∧ jWp 187 28 [some (jO m), some (jI (i1 : Int)), some (jI (j1 : Int)), none] [jO m] 0 0 w _
        refine ⟨rfl, ?_⟩
        refine jWp.getR (pc' := 31) (o := (m + 1)) mt rfl rfl (jtg hW.K0) hW.R0 ?_
        show jWp 187 31 [some (jO m), some (jI (i1 : Int)), some (jI (j1 : Int)), none] [jO (m + 1)] 0 0 w _
        refine jWp.blk mt 1 ?_
        show _ ∧ jWp 187 32 [some (jO m), some (jI (i1 : Int)), some (jI (j1 : Int)), none] [jO m, jO (m + 1)] 0 0 w _
        refine ⟨rfl, ?_⟩
        refine jWp.getR (pc' := 35) (o := (m + 16)) mt rfl rfl (jtg hW.K0) hW.R16 ?_
        show jWp 187 35 [some (jO m), some (jI (i1 : Int)), some (jI (j1 : Int)), none] [jO (m + 16), jO (m + 1)] 0 0 w _
        refine jWp.calls (as := [jO (m + 1), jO (m + 16)]) (rest := []) mt rfl rfl rfl rfl ?_
        refine jCall.mono (E_copies (w := w) (a := m + 1) (q := m + 16) hW.K1 hW.K16 (by omega)) (fun v9 w9 h9 => ?_)
        obtain ⟨rfl, T4, h9, hT5⟩ := h9
        subst h9
        show jWp 187 38 [some (jO m), some (jI (i1 : Int)), some (jI (j1 : Int)), none] [] 0 0 (kA w (m + 16) T4) _
        refine jWp.blk mt 2 ?_
        show jWp 187 40 [some (jO m), some (jI (i1 : Int)), some (jI (j1 : Int)), some (jI 1)] [] 0 0 (kA w (m + 16) T4) _
        have lp6 : ∀ (N : Nat) (t : Nat) (M1 : Nat → Nat → Int) (ht : 1 ≤ t ∧ t ≤ 21) (hmq : mq w m (M1, w.2)) (hS1 : zS (M1 (m + 16)) n) (hr : zrF (w.1 (m + 1)) n i1 j1 (21 - t) t (M1 (m + 16)) = zrF (w.1 (m + 1)) n i1 j1 20 1 (w.1 (m + 1))), 21 - t < N → jWp 187 40 [some (jO m), some (jI (i1 : Int)), some (jI (j1 : Int)), some (jI (t : Int))] [] 0 0 (M1, w.2) (fun v w1 => ((¬ (0 ≤ (i1 : Int) ∧ (i1 : Int) < (n : Int)) ∨ ¬ (0 ≤ (j1 : Int) ∧ (j1 : Int) < (n : Int)) ∨ (i1 : Int) = (j1 : Int)) → jno w m 1 (jI (-1)) v w1) ∧ (¬ (¬ (0 ≤ (i1 : Int) ∧ (i1 : Int) < (n : Int)) ∨ ¬ (0 ≤ (j1 : Int) ∧ (j1 : Int) < (n : Int)) ∨ (i1 : Int) = (j1 : Int)) → v = some (jI (zrF (w.1 (m + 1)) n (i1 : Int).toNat (j1 : Int).toNat 20 1 (w.1 (m + 1)))) ∧ mq w m w1)) := by
          intro N
          induction N with
          | zero => intro t M1 ht hmq hS1 hr hm; omega
          | succ N ih7 =>
            intro t M1 ht hmq hS1 hr hm
            have htm : Int.tmod (t : Int) 2 = ((t % 2 : Nat) : Int) := rfl
            refine jWp.blk mt 2 ?_
            show jWp 187 43 [some (jO m), some (jI (i1 : Int)), some (jI (j1 : Int)), some (jI (t : Int))] [jI 20, jI (t : Int)] 0 0 (M1, w.2) _
            refine jWp.icmp (pc' := 46) mt rfl rfl (b32_id (by omega) (by omega)) (show b32 20 = 20 by decide) (fun h8 => ?_) (fun h8 => ?_)
            · have h8 : 20 < (t : Int) := h8
              refine jWp.blk mt 1 ?_
              show jWp 187 96 [some (jO m), some (jI (i1 : Int)), some (jI (j1 : Int)), some (jI (t : Int))] [jI (-9)] 0 0 (M1, w.2) _
              refine jWp.ireti mt rfl ⟨rfl, rfl⟩ rfl ?_
              try rw [show ((i1 : Nat) : Int).toNat = i1 from rfl, show ((j1 : Nat) : Int).toNat = j1 from rfl]
              refine ⟨fun c0 => ?_, fun c0 => ?_⟩
              all_goals first
              | (exfalso; omega)
              | exact ⟨rfl, rfl⟩
              | exact ⟨by rw [← hr, show 21 - t = 0 by omega]; rfl, hmq⟩
            · have h8 : (t : Int) ≤ 20 := h8
              refine jWp.blk mt 2 ?_
              show _ ∧ _ ∧ jWp 187 48 [some (jO m), some (jI (i1 : Int)), some (jI (j1 : Int)), some (jI (t : Int))] [jO m, jO m] 0 0 (M1, w.2) _
              refine ⟨rfl, rfl, ?_⟩
              refine jWp.getR (pc' := 51) (o := (m + 16)) mt rfl rfl (jtg hW.K0) hW.R16 ?_
              show jWp 187 51 [some (jO m), some (jI (i1 : Int)), some (jI (j1 : Int)), some (jI (t : Int))] [jO (m + 16), jO m] 0 0 (M1, w.2) _
              refine jWp.blk mt 2 ?_
              show jWp 187 53 [some (jO m), some (jI (i1 : Int)), some (jI (j1 : Int)), some (jI (t : Int))] [jI 2, jI (t : Int), jO (m + 16), jO m] 0 0 (M1, w.2) _
              refine jWp.irem (pc' := 54) mt rfl rfl (b32_id (by omega) (by omega)) (show b32 2 = 2 by decide) (by decide) ?_
              show jWp 187 54 [some (jO m), some (jI (i1 : Int)), some (jI (j1 : Int)), some (jI (t : Int))] [jI (Int.tmod (t : Int) 2), jO (m + 16), jO m] 0 0 (M1, w.2) _
              refine jWp.blk mt 1 ?_
              show jWp 187 55 [some (jO m), some (jI (i1 : Int)), some (jI (j1 : Int)), some (jI (t : Int))] [jI 1, jI (Int.tmod (t : Int) 2), jO (m + 16), jO m] 0 0 (M1, w.2) _
              refine jWp.icmp (pc' := 58) mt rfl rfl (b32_id (by omega) (by omega)) (show b32 1 = 1 by decide) (fun h9 => ?_) (fun h9 => ?_)
              · have h9 : (Int.tmod (t : Int) 2) ≠ 1 := h9
                refine jWp.blk mt 1 ?_
                show jWp 187 63 [some (jO m), some (jI (i1 : Int)), some (jI (j1 : Int)), some (jI (t : Int))] [jI (j1 : Int), jO (m + 16), jO m] 0 0 (M1, w.2) _
                refine jWp.callv (as := [jO m, jO (m + 16), jI (j1 : Int)]) (rest := []) mt rfl rfl rfl ⟨rfl, jtg hW.K0⟩ ?_
                refine jCall.mono (E_xany (w := (M1, w.2)) (o := 16) (n := n) (k := j1) hW hW.K16 hS1 (by omega)) (fun v9 w9 h9 => ?_)
                obtain ⟨hx10, hh⟩ := h9
                obtain ⟨M2, G9⟩ := w9
                have hg : G9 = w.2 := hx10.1
                subst hg
                have hmq2 : mq w m (M2, w.2) := mq_t hmq (mq_x (Or.inl rfl) hx10)
                rcases hh with ⟨rfl, hz⟩ | ⟨rfl, hzS, hz⟩
                · have hz' := hz
                  show jWp 187 66 [some (jO m), some (jI (i1 : Int)), some (jI (j1 : Int)), some (jI (t : Int))] [jI 1] 0 0 (M2, w.2) _
                  refine jWp.ifc (b := true) mt rfl (by decide) rfl ?_
                  show jWp 187 72 [some (jO m), some (jI (i1 : Int)), some (jI (j1 : Int)), some (jI (t : Int))] [] 0 0 (M2, w.2) _
                  refine jWp.blk mt 1 ?_
                  show _ ∧ jWp 187 73 [some (jO m), some (jI (i1 : Int)), some (jI (j1 : Int)), some (jI (t : Int))] [jO m] 0 0 (M2, w.2) _
                  refine ⟨rfl, ?_⟩
                  refine jWp.getR (pc' := 76) (o := (m + 1)) mt rfl rfl (jtg hW.K0) hW.R0 ?_
                  show jWp 187 76 [some (jO m), some (jI (i1 : Int)), some (jI (j1 : Int)), some (jI (t : Int))] [jO (m + 1)] 0 0 (M2, w.2) _
                  refine jWp.blk mt 1 ?_
                  show _ ∧ jWp 187 77 [some (jO m), some (jI (i1 : Int)), some (jI (j1 : Int)), some (jI (t : Int))] [jO m, jO (m + 1)] 0 0 (M2, w.2) _
                  refine ⟨rfl, ?_⟩
                  refine jWp.getR (pc' := 80) (o := (m + 16)) mt rfl rfl (jtg hW.K0) hW.R16 ?_
                  show jWp 187 80 [some (jO m), some (jI (i1 : Int)), some (jI (j1 : Int)), some (jI (t : Int))] [jO (m + 16), jO (m + 1)] 0 0 (M2, w.2) _
                  refine jWp.calls (as := [jO (m + 1), jO (m + 16)]) (rest := []) mt rfl rfl rfl rfl ?_
                  refine jCall.mono ((by have h := E_haveSame (w := (M2, w.2)) (q := m + 1) (p := m + 16) (n := n) hW.K1 hW.K16 (by show zS (M2 (m + 1)) n; rw [show M2 (m + 1) = w.1 (m + 1) from hmq2.2.1 _ (by omega)]; exact hS) (zxn_S hS1 (by omega) hz); rw [show ((M2, w.2) : jS).1 (m + 1) = w.1 (m + 1) from hmq2.2.1 _ (by omega)] at h; exact h)) (fun v9 w9 h9 => ?_)
                  rcases h9 with ⟨rfl, h9, h11⟩ | ⟨rfl, h9, h11⟩ <;> subst w9
                  · have h11 : zsame (w.1 (m + 1)) (M2 (m + 16)) n := h11
                    show jWp 187 83 [some (jO m), some (jI (i1 : Int)), some (jI (j1 : Int)), some (jI (t : Int))] [jI 1] 0 0 (M2, w.2) _
                    refine jWp.ifc (b := false) mt rfl (by decide) rfl ?_
                    show jWp 187 86 [some (jO m), some (jI (i1 : Int)), some (jI (j1 : Int)), some (jI (t : Int))] [] 0 0 (M2, w.2) _
                    refine jWp.blk mt 1 ?_
                    show jWp 187 87 [some (jO m), some (jI (i1 : Int)), some (jI (j1 : Int)), some (jI (t : Int))] [jI (t : Int)] 0 0 (M2, w.2) _
                    refine jWp.ireti mt rfl ⟨rfl, rfl⟩ rfl ?_
                    try rw [show ((i1 : Nat) : Int).toNat = i1 from rfl, show ((j1 : Nat) : Int).toNat = j1 from rfl]
                    refine ⟨fun c0 => ?_, fun c0 => ?_⟩
                    all_goals first
                    | (exfalso; omega)
                    | exact ⟨rfl, rfl⟩
                    | exact ⟨by rw [← hr, show 21 - t = (20 - t) + 1 by omega, zrF_yes (by first | (rw [if_pos (by omega)]; done) | (rw [if_neg (by omega)]; done)) hz.1 ((zsame_c hn4 (fun _ _ => rfl) (zxn_F (by omega) hz)).mp (by assumption))], hmq2⟩
                  · have h11 : ¬ (zsame (w.1 (m + 1)) (M2 (m + 16)) n) := h11
                    show jWp 187 83 [some (jO m), some (jI (i1 : Int)), some (jI (j1 : Int)), some (jI (t : Int))] [jI 0] 0 0 (M2, w.2) _
                    refine jWp.ifc (b := true) mt rfl (by decide) rfl ?_
                    show jWp 187 88 [some (jO m), some (jI (i1 : Int)), some (jI (j1 : Int)), some (jI (t : Int))] [] 0 0 (M2, w.2) _
                    refine jWp.blk mt 2 ?_
                    show jWp 187 40 [some (jO m), some (jI (i1 : Int)), some (jI (j1 : Int)), some (jI ((t : Int) + 1))] [] 0 0 (M2, w.2) _
                    refine jWp.le (l := [some (jO m), some (jI (i1 : Int)), some (jI (j1 : Int)), some (jI ((t : Int) + 1))]) (by exact ⟨rfl, rfl, rfl, rfl, trivial⟩) ?_
                    exact ih7 (t + 1) M2 (by omega) hmq2 (zxn_S hS1 (by omega) hz) (by rw [← hr, show 21 - t = (21 - (t + 1)) + 1 by omega, zrF_go (by first | (rw [if_pos (by omega)]; done) | (rw [if_neg (by omega)]; done)) hz.1 (fun g => absurd ((zsame_c hn4 (fun _ _ => rfl) (zxn_F (by omega) hz)).mpr g) (by assumption))]; exact zrF_c hn4 (by omega) (by omega) _ _ _ _ (zxn_F (by omega) hz)) (by omega)
                · have hz' := hz
                  show jWp 187 66 [some (jO m), some (jI (i1 : Int)), some (jI (j1 : Int)), some (jI (t : Int))] [jI 0] 0 0 (M2, w.2) _
                  refine jWp.ifc (b := false) mt rfl (by decide) rfl ?_
                  show jWp 187 69 [some (jO m), some (jI (i1 : Int)), some (jI (j1 : Int)), some (jI (t : Int))] [] 0 0 (M2, w.2) _
                  refine jWp.blk mt 1 ?_
                  show jWp 187 71 [some (jO m), some (jI (i1 : Int)), some (jI (j1 : Int)), some (jI (t : Int))] [jI (-9)] 0 0 (M2, w.2) _
                  refine jWp.ireti mt rfl ⟨rfl, rfl⟩ rfl ?_
                  try rw [show ((i1 : Nat) : Int).toNat = i1 from rfl, show ((j1 : Nat) : Int).toNat = j1 from rfl]
                  refine ⟨fun c0 => ?_, fun c0 => ?_⟩
                  all_goals first
                  | (exfalso; omega)
                  | exact ⟨rfl, rfl⟩
                  | exact ⟨by rw [← hr, show 21 - t = (20 - t) + 1 by omega, zrF_no (by first | (rw [if_pos (by omega)]; done) | (rw [if_neg (by omega)]; done)) hz], hmq2⟩
              · have h9 : (Int.tmod (t : Int) 2) = 1 := h9
                refine jWp.blk mt 2 ?_
                show jWp 187 63 [some (jO m), some (jI (i1 : Int)), some (jI (j1 : Int)), some (jI (t : Int))] [jI (i1 : Int), jO (m + 16), jO m] 0 0 (M1, w.2) _
                refine jWp.callv (as := [jO m, jO (m + 16), jI (i1 : Int)]) (rest := []) mt rfl rfl rfl ⟨rfl, jtg hW.K0⟩ ?_
                refine jCall.mono (E_xany (w := (M1, w.2)) (o := 16) (n := n) (k := i1) hW hW.K16 hS1 (by omega)) (fun v9 w9 h9 => ?_)
                obtain ⟨hx12, hh⟩ := h9
                obtain ⟨M2, G9⟩ := w9
                have hg : G9 = w.2 := hx12.1
                subst hg
                have hmq2 : mq w m (M2, w.2) := mq_t hmq (mq_x (Or.inl rfl) hx12)
                rcases hh with ⟨rfl, hz⟩ | ⟨rfl, hzS, hz⟩
                · have hz' := hz
                  show jWp 187 66 [some (jO m), some (jI (i1 : Int)), some (jI (j1 : Int)), some (jI (t : Int))] [jI 1] 0 0 (M2, w.2) _
                  refine jWp.ifc (b := true) mt rfl (by decide) rfl ?_
                  show jWp 187 72 [some (jO m), some (jI (i1 : Int)), some (jI (j1 : Int)), some (jI (t : Int))] [] 0 0 (M2, w.2) _
                  refine jWp.blk mt 1 ?_
                  show _ ∧ jWp 187 73 [some (jO m), some (jI (i1 : Int)), some (jI (j1 : Int)), some (jI (t : Int))] [jO m] 0 0 (M2, w.2) _
                  refine ⟨rfl, ?_⟩
                  refine jWp.getR (pc' := 76) (o := (m + 1)) mt rfl rfl (jtg hW.K0) hW.R0 ?_
                  show jWp 187 76 [some (jO m), some (jI (i1 : Int)), some (jI (j1 : Int)), some (jI (t : Int))] [jO (m + 1)] 0 0 (M2, w.2) _
                  refine jWp.blk mt 1 ?_
                  show _ ∧ jWp 187 77 [some (jO m), some (jI (i1 : Int)), some (jI (j1 : Int)), some (jI (t : Int))] [jO m, jO (m + 1)] 0 0 (M2, w.2) _
                  refine ⟨rfl, ?_⟩
                  refine jWp.getR (pc' := 80) (o := (m + 16)) mt rfl rfl (jtg hW.K0) hW.R16 ?_
                  show jWp 187 80 [some (jO m), some (jI (i1 : Int)), some (jI (j1 : Int)), some (jI (t : Int))] [jO (m + 16), jO (m + 1)] 0 0 (M2, w.2) _
                  refine jWp.calls (as := [jO (m + 1), jO (m + 16)]) (rest := []) mt rfl rfl rfl rfl ?_
                  refine jCall.mono ((by have h := E_haveSame (w := (M2, w.2)) (q := m + 1) (p := m + 16) (n := n) hW.K1 hW.K16 (by show zS (M2 (m + 1)) n; rw [show M2 (m + 1) = w.1 (m + 1) from hmq2.2.1 _ (by omega)]; exact hS) (zxn_S hS1 (by omega) hz); rw [show ((M2, w.2) : jS).1 (m + 1) = w.1 (m + 1) from hmq2.2.1 _ (by omega)] at h; exact h)) (fun v9 w9 h9 => ?_)
                  rcases h9 with ⟨rfl, h9, h13⟩ | ⟨rfl, h9, h13⟩ <;> subst w9
                  · have h13 : zsame (w.1 (m + 1)) (M2 (m + 16)) n := h13
                    show jWp 187 83 [some (jO m), some (jI (i1 : Int)), some (jI (j1 : Int)), some (jI (t : Int))] [jI 1] 0 0 (M2, w.2) _
                    refine jWp.ifc (b := false) mt rfl (by decide) rfl ?_
                    show jWp 187 86 [some (jO m), some (jI (i1 : Int)), some (jI (j1 : Int)), some (jI (t : Int))] [] 0 0 (M2, w.2) _
                    refine jWp.blk mt 1 ?_
                    show jWp 187 87 [some (jO m), some (jI (i1 : Int)), some (jI (j1 : Int)), some (jI (t : Int))] [jI (t : Int)] 0 0 (M2, w.2) _
                    refine jWp.ireti mt rfl ⟨rfl, rfl⟩ rfl ?_
                    try rw [show ((i1 : Nat) : Int).toNat = i1 from rfl, show ((j1 : Nat) : Int).toNat = j1 from rfl]
                    refine ⟨fun c0 => ?_, fun c0 => ?_⟩
                    all_goals first
                    | (exfalso; omega)
                    | exact ⟨rfl, rfl⟩
                    | exact ⟨by rw [← hr, show 21 - t = (20 - t) + 1 by omega, zrF_yes (by first | (rw [if_pos (by omega)]; done) | (rw [if_neg (by omega)]; done)) hz.1 ((zsame_c hn4 (fun _ _ => rfl) (zxn_F (by omega) hz)).mp (by assumption))], hmq2⟩
                  · have h13 : ¬ (zsame (w.1 (m + 1)) (M2 (m + 16)) n) := h13
                    show jWp 187 83 [some (jO m), some (jI (i1 : Int)), some (jI (j1 : Int)), some (jI (t : Int))] [jI 0] 0 0 (M2, w.2) _
                    refine jWp.ifc (b := true) mt rfl (by decide) rfl ?_
                    show jWp 187 88 [some (jO m), some (jI (i1 : Int)), some (jI (j1 : Int)), some (jI (t : Int))] [] 0 0 (M2, w.2) _
                    refine jWp.blk mt 2 ?_
                    show jWp 187 40 [some (jO m), some (jI (i1 : Int)), some (jI (j1 : Int)), some (jI ((t : Int) + 1))] [] 0 0 (M2, w.2) _
                    refine jWp.le (l := [some (jO m), some (jI (i1 : Int)), some (jI (j1 : Int)), some (jI ((t : Int) + 1))]) (by exact ⟨rfl, rfl, rfl, rfl, trivial⟩) ?_
                    exact ih7 (t + 1) M2 (by omega) hmq2 (zxn_S hS1 (by omega) hz) (by rw [← hr, show 21 - t = (21 - (t + 1)) + 1 by omega, zrF_go (by first | (rw [if_pos (by omega)]; done) | (rw [if_neg (by omega)]; done)) hz.1 (fun g => absurd ((zsame_c hn4 (fun _ _ => rfl) (zxn_F (by omega) hz)).mpr g) (by assumption))]; exact zrF_c hn4 (by omega) (by omega) _ _ _ _ (zxn_F (by omega) hz)) (by omega)
                · have hz' := hz
                  show jWp 187 66 [some (jO m), some (jI (i1 : Int)), some (jI (j1 : Int)), some (jI (t : Int))] [jI 0] 0 0 (M2, w.2) _
                  refine jWp.ifc (b := false) mt rfl (by decide) rfl ?_
                  show jWp 187 69 [some (jO m), some (jI (i1 : Int)), some (jI (j1 : Int)), some (jI (t : Int))] [] 0 0 (M2, w.2) _
                  refine jWp.blk mt 1 ?_
                  show jWp 187 71 [some (jO m), some (jI (i1 : Int)), some (jI (j1 : Int)), some (jI (t : Int))] [jI (-9)] 0 0 (M2, w.2) _
                  refine jWp.ireti mt rfl ⟨rfl, rfl⟩ rfl ?_
                  try rw [show ((i1 : Nat) : Int).toNat = i1 from rfl, show ((j1 : Nat) : Int).toNat = j1 from rfl]
                  refine ⟨fun c0 => ?_, fun c0 => ?_⟩
                  all_goals first
                  | (exfalso; omega)
                  | exact ⟨rfl, rfl⟩
                  | exact ⟨by rw [← hr, show 21 - t = (20 - t) + 1 by omega, zrF_no (by first | (rw [if_pos (by omega)]; done) | (rw [if_neg (by omega)]; done)) hz], hmq2⟩
        refine jWp.le (l := [some (jO m), some (jI (i1 : Int)), some (jI (j1 : Int)), some (jI 1)]) (by exact ⟨rfl, rfl, rfl, rfl, trivial⟩) ?_
        exact lp6 _ 1 (kA w (m + 16) T4).1 (by omega) (mq_A mq_0 (by omega)) (by rw [kA_fs]; exact zeq_S hT5 hS) (by rw [kA_fs]; exact zrF_c hn4 (by omega) (by omega) 20 1 _ _ hT5) (Nat.lt_succ_self _)
      · have h3 : (i1 : Int) = (j1 : Int) := h3
        refine jWp.blk mt 2 ?_
        show _ ∧ jWp 187 23 [some (jO m), some (jI (i1 : Int)), some (jI (j1 : Int)), none] [jI (-1), jO m] 0 0 w _
        refine ⟨rfl, ?_⟩
        refine jWp.callv (as := [jO m, jI (-1)]) (rest := []) mt rfl rfl rfl ⟨rfl, jtg hW.K0⟩ ?_
        refine jCall.mono (E_refuses (w := w) (j := 1) hW (by decide) (by decide)) (fun v9 w9 h9 => ?_)
        obtain ⟨rfl, h9⟩ := h9
        subst h9
        show jWp 187 26 [some (jO m), some (jI (i1 : Int)), some (jI (j1 : Int)), none] [jI (-1)] 0 0 (jW w (m + 3) 1 ((w.1 (m + 3) 1) + 1)) _
        refine jWp.ireti mt rfl ⟨rfl, rfl⟩ rfl ?_
        refine ⟨fun c0 => ?_, fun c0 => ?_⟩
        all_goals first
        | (exfalso; omega)
        | exact ⟨rfl, rfl⟩
    · have h2 : ¬ (0 ≤ j ∧ j < (n : Int)) := h2
      show jWp 187 13 [some (jO m), some (jI (i1 : Int)), some (jI j), none] [jI 0] 0 0 w _
      refine jWp.ifc (b := true) mt rfl (by decide) rfl ?_
      show jWp 187 21 [some (jO m), some (jI (i1 : Int)), some (jI j), none] [] 0 0 w _
      refine jWp.blk mt 2 ?_
      show _ ∧ jWp 187 23 [some (jO m), some (jI (i1 : Int)), some (jI j), none] [jI (-1), jO m] 0 0 w _
      refine ⟨rfl, ?_⟩
      refine jWp.callv (as := [jO m, jI (-1)]) (rest := []) mt rfl rfl rfl ⟨rfl, jtg hW.K0⟩ ?_
      refine jCall.mono (E_refuses (w := w) (j := 1) hW (by decide) (by decide)) (fun v9 w9 h9 => ?_)
      obtain ⟨rfl, h9⟩ := h9
      subst h9
      show jWp 187 26 [some (jO m), some (jI (i1 : Int)), some (jI j), none] [jI (-1)] 0 0 (jW w (m + 3) 1 ((w.1 (m + 3) 1) + 1)) _
      refine jWp.ireti mt rfl ⟨rfl, rfl⟩ rfl ?_
      refine ⟨fun c0 => ?_, fun c0 => ?_⟩
      all_goals first
      | (exfalso; omega)
      | exact ⟨rfl, rfl⟩
  · have h1 : ¬ (0 ≤ i ∧ i < (n : Int)) := h1
    show jWp 187 5 [some (jO m), some (jI i), some (jI j), none] [jI 0] 0 0 w _
    refine jWp.ifc (b := true) mt rfl (by decide) rfl ?_
    show jWp 187 21 [some (jO m), some (jI i), some (jI j), none] [] 0 0 w _
    refine jWp.blk mt 2 ?_
    show _ ∧ jWp 187 23 [some (jO m), some (jI i), some (jI j), none] [jI (-1), jO m] 0 0 w _
    refine ⟨rfl, ?_⟩
    refine jWp.callv (as := [jO m, jI (-1)]) (rest := []) mt rfl rfl rfl ⟨rfl, jtg hW.K0⟩ ?_
    refine jCall.mono (E_refuses (w := w) (j := 1) hW (by decide) (by decide)) (fun v9 w9 h9 => ?_)
    obtain ⟨rfl, h9⟩ := h9
    subst h9
    show jWp 187 26 [some (jO m), some (jI i), some (jI j), none] [jI (-1)] 0 0 (jW w (m + 3) 1 ((w.1 (m + 3) 1) + 1)) _
    refine jWp.ireti mt rfl ⟨rfl, rfl⟩ rfl ?_
    refine ⟨fun c0 => ?_, fun c0 => ?_⟩
    all_goals first
    | (exfalso; omega)
    | exact ⟨rfl, rfl⟩
end
section
theorem jand_31 (x : Int) : 0 ≤ jand x 2147483647 ∧ jand x 2147483647 ≤ 2147483647 := by
  unfold jand
  have h : (Int32.ofInt x &&& Int32.ofInt 2147483647).toBitVec.msb = false := by
    rw [Int32.toBitVec_and, BitVec.msb_and]
    rw [show (Int32.ofInt 2147483647).toBitVec.msb = false by decide, Bool.and_false]
  have h2 : (Int32.ofInt x &&& Int32.ofInt 2147483647).toInt = ((Int32.ofInt x &&& Int32.ofInt 2147483647).toBitVec.toNat : Int) := BitVec.toInt_eq_toNat_of_msb h
  have h3 := Int32.toInt_lt (Int32.ofInt x &&& Int32.ofInt 2147483647)
  omega
/-- the next number of a draw, and the letter that it says -/
def zlz (z : Int) : Int := z * 1664525 + 1013904223
def zlk (z : Int) (n : Nat) : Nat := (Int.tmod (Int.tdiv (jand z 2147483647) 256) (n : Int)).toNat
theorem zlk_b {z : Int} {n : Nat} (hn : 1 ≤ n) : (zlk z n : Int) = Int.tmod (Int.tdiv (jand z 2147483647) 256) (n : Int) ∧ zlk z n < n ∧ (0 ≤ Int.tdiv (jand z 2147483647) 256 ∧ Int.tdiv (jand z 2147483647) 256 ≤ 2147483647) := by
  have h := jand_31 z
  have h1 : Int.tdiv (jand z 2147483647) 256 = jand z 2147483647 / 256 := Int.tdiv_eq_ediv_of_nonneg h.1
  have h2 := zmod_b (x := Int.tdiv (jand z 2147483647) 256) (y := (n : Int)) (by omega) (by omega)
  unfold zlk
  omega
/-- so many draws from a seed: how many are exchanged, and what is then -/
noncomputable def zlF (n : Nat) : Nat → Int → (Nat → Int) → Int × (Nat → Int)
  | 0, _, S => (0, S)
  | f + 1, z, S => @ite (Int × (Nat → Int)) (zcan S n (zlk (zlz z) n)) (Classical.propDecidable _) ((zlF n f (zlz z) (zxF S n (zlk (zlz z) n))).1 + 1, (zlF n f (zlz z) (zxF S n (zlk (zlz z) n))).2) (zlF n f (zlz z) S)
theorem zlF_t {n f : Nat} {z : Int} {S : Nat → Int} (h : zcan S n (zlk (zlz z) n)) : zlF n (f + 1) z S = ((zlF n f (zlz z) (zxF S n (zlk (zlz z) n))).1 + 1, (zlF n f (zlz z) (zxF S n (zlk (zlz z) n))).2) := if_pos h
theorem zlF_f {n f : Nat} {z : Int} {S : Nat → Int} (h : ¬ zcan S n (zlk (zlz z) n)) : zlF n (f + 1) z S = zlF n f (zlz z) S := if_neg h
theorem zlF_c {n : Nat} (h1 : 1 ≤ n) (hn : n ≤ 4) : ∀ (f : Nat) (z : Int) (S q : Nat → Int), zeq S q → (zlF n f z S).1 = (zlF n f z q).1 ∧ zeq (zlF n f z S).2 (zlF n f z q).2
  | 0, _, _, _, h => ⟨rfl, h⟩
  | f + 1, z, S, q, h => by
    have hk : zlk (zlz z) n < 4 := by have := (zlk_b (z := zlz z) h1).2.1; omega
    by_cases hc : zcan S n (zlk (zlz z) n)
    · rw [zlF_t hc, zlF_t ((zcan_q h hn hk).mp hc)]
      have e := zlF_c h1 hn f (zlz z) _ _ (zxF_c h hn hk)
      exact ⟨by rw [e.1], e.2⟩
    · rw [zlF_f hc, zlF_f (fun g => hc ((zcan_q h hn hk).mpr g))]
      exact zlF_c h1 hn f (zlz z) _ _ h
theorem zlF_b {n : Nat} : ∀ (f : Nat) (z : Int) (S : Nat → Int), 0 ≤ (zlF n f z S).1 ∧ (zlF n f z S).1 ≤ (f : Int)
  | 0, _, _ => ⟨Int.le_refl _, Int.le_refl _⟩
  | f + 1, z, S => by
    by_cases hc : zcan S n (zlk (zlz z) n)
    · rw [zlF_t hc]
      have := zlF_b (n := n) f (zlz z) (zxF S n (zlk (zlz z) n))
      dsimp only
      omega
    · rw [zlF_f hc]
      have := zlF_b (n := n) f (zlz z) S
      omega
set_option maxHeartbeats 4000000 in
set_option maxRecDepth 20000 in
theorem E_draws {w : jS} {m : Nat} (hW : MW w.2 m) {n : Nat} (h2 : 2 ≤ n) (h4 : n ≤ 4) : jCall 195 [jO m, jI (n : Int)] w (fun v w1 => v = some (jI ((zlk (zlz (w.1 m 22)) n : Nat) : Int)) ∧ w1 = jW w m 22 (zlz (w.1 m 22))) := by
  have mt : jtb 195 = jT195 := rfl
  have hb1 := zlk_b (z := ((w.1 m 22 * 1664525) + 1013904223)) (n := n) (by omega)
  show jWp 195 0 [some (jO m), some (jI (n : Int))] [] 0 0 w _
  refine jWp.blk mt 2 ?_
  show _ ∧ _ ∧ jWp 195 2 [some (jO m), some (jI (n : Int))] [jO m, jO m] 0 0 w _
  refine ⟨rfl, rfl, ?_⟩
  refine jWp.getI (pc' := 5) mt rfl rfl (jtg hW.K0) ?_
  show jWp 195 5 [some (jO m), some (jI (n : Int))] [jI (w.1 m 22), jO m] 0 0 w _
  refine jWp.blk mt 4 ?_
  show jWp 195 13 [some (jO m), some (jI (n : Int))] [jI (((w.1 m 22) * 1664525) + 1013904223), jO m] 0 0 w _
  refine jWp.putI (pc' := 16) mt rfl rfl (jtg hW.K0) ?_
  show jWp 195 16 [some (jO m), some (jI (n : Int))] [] 0 0 (jW w m 22 (((w.1 m 22) * 1664525) + 1013904223)) _
  refine jWp.blk mt 1 ?_
  show _ ∧ jWp 195 17 [some (jO m), some (jI (n : Int))] [jO m] 0 0 (jW w m 22 (((w.1 m 22) * 1664525) + 1013904223)) _
  refine ⟨rfl, ?_⟩
  refine jWp.getI (pc' := 20) mt rfl rfl (jtg hW.K0) ?_
  rw [show ((jW w m 22 (((w.1 m 22) * 1664525) + 1013904223)).1 m 22) = (((w.1 m 22) * 1664525) + 1013904223) from jW_s]
  show jWp 195 20 [some (jO m), some (jI (n : Int))] [jI (((w.1 m 22) * 1664525) + 1013904223)] 0 0 (jW w m 22 (((w.1 m 22) * 1664525) + 1013904223)) _
  refine jWp.blk mt 3 ?_
  show jWp 195 27 [some (jO m), some (jI (n : Int))] [jI 256, jI (jand (((w.1 m 22) * 1664525) + 1013904223) 2147483647)] 0 0 (jW w m 22 (((w.1 m 22) * 1664525) + 1013904223)) _
  refine jWp.idiv (pc' := 28) mt rfl rfl (b32_i32 _) (show b32 256 = 256 by decide) (by decide) ?_
  show jWp 195 28 [some (jO m), some (jI (n : Int))] [jI (Int.tdiv (jand (((w.1 m 22) * 1664525) + 1013904223) 2147483647) 256)] 0 0 (jW w m 22 (((w.1 m 22) * 1664525) + 1013904223)) _
  refine jWp.blk mt 1 ?_
  show jWp 195 29 [some (jO m), some (jI (n : Int))] [jI (n : Int), jI (Int.tdiv (jand (((w.1 m 22) * 1664525) + 1013904223) 2147483647) 256)] 0 0 (jW w m 22 (((w.1 m 22) * 1664525) + 1013904223)) _
  refine jWp.irem (pc' := 30) mt rfl rfl (b32_id (by omega) (by omega)) (b32_id (by omega) (by omega)) (by omega) ?_
  show jWp 195 30 [some (jO m), some (jI (n : Int))] [jI (Int.tmod (Int.tdiv (jand (((w.1 m 22) * 1664525) + 1013904223) 2147483647) 256) (n : Int))] 0 0 (jW w m 22 (((w.1 m 22) * 1664525) + 1013904223)) _
  refine jWp.ireti mt rfl ⟨rfl, rfl⟩ rfl ?_
  exact ⟨by rw [show zlz (w.1 m 22) = ((w.1 m 22 * 1664525) + 1013904223) from rfl, hb1.1], rfl⟩
set_option maxHeartbeats 4000000 in
set_option maxRecDepth 20000 in
theorem E_lots {w : jS} {m : Nat} (hW : MW w.2 m) {n : Nat} (hS : zS (w.1 (m + 1)) n) {N z a : Int} (hrN : r32 N) (hra : r32 a) : jCall 196 [jO m, jI N, jI z, jI a] w (fun v w1 => ((N < 1) → jno w m 4 (jI (-4)) v w1) ∧ (¬ (N < 1) → (30 < N) → jno w m 6 (jI (-6)) v w1) ∧ (¬ (N < 1) → ¬ (30 < N) → (¬ (0 ≤ a ∧ a ≤ 1)) → jno w m 2 (jI (-2)) v w1) ∧ (¬ (N < 1) → ¬ (30 < N) → ¬ (¬ (0 ≤ a ∧ a ≤ 1)) → (a = 0 → v = some (jI (zlF n N.toNat z (w.1 (m + 1))).1) ∧ mq w m w1) ∧ (a = 1 → v = some (jI (zgo (zlF n N.toNat z (w.1 (m + 1))).2 n n)) ∧ mq w m w1))) := by
  have mt : jtb 196 = jT196 := rfl
  have hn2 := hS.n2
  have hn4 := hS.n4
  have hrN1 : -2147483648 ≤ N ∧ N < 2147483648 := hrN
  have hra1 : -2147483648 ≤ a ∧ a < 2147483648 := hra
  show jWp 196 0 [some (jO m), some (jI N), some (jI z), some (jI a), none, none] [] 0 0 w _
  refine jWp.blk mt 2 ?_
  show jWp 196 2 [some (jO m), some (jI N), some (jI z), some (jI a), none, none] [jI 1, jI N] 0 0 w _
  refine jWp.icmp (pc' := 5) mt rfl rfl (b32_id (by omega) (by omega)) (show b32 1 = 1 by decide) (fun h1 => ?_) (fun h1 => ?_)
  · have h1 : 1 ≤ N := h1
    refine jWp.blk mt 2 ?_
    show jWp 196 15 [some (jO m), some (jI N), some (jI z), some (jI a), none, none] [jI 30, jI N] 0 0 w _
    refine jWp.icmp (pc' := 18) mt rfl rfl (b32_id (by omega) (by omega)) (show b32 30 = 30 by decide) (fun h2 => ?_) (fun h2 => ?_)
    · have h2 : N ≤ 30 := h2
      refine jWp.blk mt 1 ?_
      show jWp 196 26 [some (jO m), some (jI N), some (jI z), some (jI a), none, none] [jI a] 0 0 w _
      refine jWp.i2l (pc' := 27) mt rfl rfl (b32_id (by omega) (by omega)) ?_
      show jWp 196 27 [some (jO m), some (jI N), some (jI z), some (jI a), none, none] [jJ a] 0 0 w _
      refine jWp.blk mt 2 ?_
      show jWp 196 29 [some (jO m), some (jI N), some (jI z), some (jI a), none, none] [jJ 1, jJ 0, jJ a] 0 0 w _
      refine jWp.calls (as := [jJ a, jJ 0, jJ 1]) (rest := []) mt rfl rfl rfl rfl ?_
      refine jCall.mono (E_in (b64_id (by omega) (by omega)) (show b64 0 = 0 by decide) (show b64 1 = 1 by decide)) (fun v9 w9 h9 => ?_)
      rcases h9 with ⟨rfl, h9, h3⟩ | ⟨rfl, h9, h3⟩ <;> subst w9
      · have h3 : 0 ≤ a ∧ a ≤ 1 := h3
        show jWp 196 32 [some (jO m), some (jI N), some (jI z), some (jI a), none, none] [jI 1] 0 0 w _
        refine jWp.ifc (b := true) mt rfl (by decide) rfl ?_
        show jWp 196 42 [some (jO m), some (jI N), some (jI z), some (jI a), none, none] [] 0 0 w _
        obtain ⟨N1, rfl⟩ : ∃ N1 : Nat, N = (N1 : Int) := ⟨N.toNat, by omega⟩
        show jWp 196 42 [some (jO m), some (jI (N1 : Int)), some (jI z), some (jI a), none, none] [] 0 0 w _
        refine jWp.blk mt 2 ?_
        show _ ∧ jWp 196 44 [some (jO m), some (jI (N1 : Int)), some (jI z), some (jI a), none, none] [jI z, jO m] 0 0 w _
        refine ⟨rfl, ?_⟩
        refine jWp.putI (pc' := 47) mt rfl rfl (jtg hW.K0) ?_
        show jWp 196 47 [some (jO m), some (jI (N1 : Int)), some (jI z), some (jI a), none, none] [] 0 0 (jW w m 22 z) _
        refine jWp.blk mt 1 ?_
        show _ ∧ jWp 196 48 [some (jO m), some (jI (N1 : Int)), some (jI z), some (jI a), none, none] [jO m] 0 0 (jW w m 22 z) _
        refine ⟨rfl, ?_⟩
        refine jWp.getR (pc' := 51) (o := (m + 1)) mt rfl rfl (jtg hW.K0) hW.R0 ?_
        show jWp 196 51 [some (jO m), some (jI (N1 : Int)), some (jI z), some (jI a), none, none] [jO (m + 1)] 0 0 (jW w m 22 z) _
        refine jWp.blk mt 1 ?_
        show _ ∧ jWp 196 52 [some (jO m), some (jI (N1 : Int)), some (jI z), some (jI a), none, none] [jO m, jO (m + 1)] 0 0 (jW w m 22 z) _
        refine ⟨rfl, ?_⟩
        refine jWp.getR (pc' := 55) (o := (m + 16)) mt rfl rfl (jtg hW.K0) hW.R16 ?_
        show jWp 196 55 [some (jO m), some (jI (N1 : Int)), some (jI z), some (jI a), none, none] [jO (m + 16), jO (m + 1)] 0 0 (jW w m 22 z) _
        refine jWp.calls (as := [jO (m + 1), jO (m + 16)]) (rest := []) mt rfl rfl rfl rfl ?_
        refine jCall.mono (E_copies (w := (jW w m 22 z)) (a := m + 1) (q := m + 16) hW.K1 hW.K16 (by omega)) (fun v9 w9 h9 => ?_)
        obtain ⟨rfl, T4, h9, hT5⟩ := h9
        subst h9
        have hT5b : ∀ j, j < 45 → T4 j = (w.1 (m + 1)) j := fun j hj => (hT5 j hj).trans (congrFun ((jW_f (by omega)).trans rfl) j)
        show jWp 196 58 [some (jO m), some (jI (N1 : Int)), some (jI z), some (jI a), none, none] [] 0 0 (kA (jW w m 22 z) (m + 16) T4) _
        refine jWp.blk mt 4 ?_
        show jWp 196 64 [some (jO m), some (jI (N1 : Int)), some (jI z), some (jI a), some (jI 0), some (jI 0)] [] 0 0 (kA (jW w m 22 z) (m + 16) T4) _
        have lp6 : ∀ (N : Nat) (t : Nat) (o : Int) (M1 : Nat → Nat → Int) (ht : t ≤ N1) (ho : 0 ≤ o ∧ o ≤ (t : Int)) (hmq : mq w m (M1, w.2)) (hS1 : zS (M1 (m + 16)) n) (hr : o + (zlF n (N1 - t) (M1 m 22) (M1 (m + 16))).1 = (zlF n N1 z (w.1 (m + 1))).1 ∧ zeq (zlF n (N1 - t) (M1 m 22) (M1 (m + 16))).2 (zlF n N1 z (w.1 (m + 1))).2), N1 - t < N → jWp 196 64 [some (jO m), some (jI (N1 : Int)), some (jI z), some (jI a), some (jI o), some (jI (t : Int))] [] 0 0 (M1, w.2) (fun v w1 => (((N1 : Int) < 1) → jno w m 4 (jI (-4)) v w1) ∧ (¬ ((N1 : Int) < 1) → (30 < (N1 : Int)) → jno w m 6 (jI (-6)) v w1) ∧ (¬ ((N1 : Int) < 1) → ¬ (30 < (N1 : Int)) → (¬ (0 ≤ a ∧ a ≤ 1)) → jno w m 2 (jI (-2)) v w1) ∧ (¬ ((N1 : Int) < 1) → ¬ (30 < (N1 : Int)) → ¬ (¬ (0 ≤ a ∧ a ≤ 1)) → (a = 0 → v = some (jI (zlF n (N1 : Int).toNat z (w.1 (m + 1))).1) ∧ mq w m w1) ∧ (a = 1 → v = some (jI (zgo (zlF n (N1 : Int).toNat z (w.1 (m + 1))).2 n n)) ∧ mq w m w1))) := by
          intro N
          induction N with
          | zero => intro t o M1 ht ho hmq hS1 hr hm; omega
          | succ N ih7 =>
            intro t o M1 ht ho hmq hS1 hr hm
            refine jWp.blk mt 2 ?_
            show jWp 196 67 [some (jO m), some (jI (N1 : Int)), some (jI z), some (jI a), some (jI o), some (jI (t : Int))] [jI (N1 : Int), jI (t : Int)] 0 0 (M1, w.2) _
            refine jWp.icmp (pc' := 70) mt rfl rfl (b32_id (by omega) (by omega)) (b32_id (by omega) (by omega)) (fun h8 => ?_) (fun h8 => ?_)
            · have h8 : (N1 : Int) ≤ (t : Int) := h8
              refine jWp.blk mt 1 ?_
              show jWp 196 109 [some (jO m), some (jI (N1 : Int)), some (jI z), some (jI a), some (jI o), some (jI (t : Int))] [jI a] 0 0 (M1, w.2) _
              refine jWp.ifz (pc' := 112) mt rfl rfl (b32_id (by omega) (by omega)) (fun h9 => ?_) (fun h9 => ?_)
              · have h9 : a ≠ 0 := h9
                refine jWp.blk mt 1 ?_
                show _ ∧ jWp 196 118 [some (jO m), some (jI (N1 : Int)), some (jI z), some (jI a), some (jI o), some (jI (t : Int))] [jO m] 0 0 (M1, w.2) _
                refine ⟨rfl, ?_⟩
                refine jWp.getR (pc' := 121) (o := (m + 16)) mt rfl rfl (jtg hW.K0) hW.R16 ?_
                show jWp 196 121 [some (jO m), some (jI (N1 : Int)), some (jI z), some (jI a), some (jI o), some (jI (t : Int))] [jO (m + 16)] 0 0 (M1, w.2) _
                refine jWp.calls (as := [jO (m + 16)]) (rest := []) mt rfl rfl rfl rfl ?_
                refine jCall.mono (E_greatest (w := (M1, w.2)) (q := m + 16) (n := n) hW.K16 hS1) (fun v9 w9 h9 => ?_)
                obtain ⟨rfl, h9⟩ := h9
                subst w9
                show jWp 196 124 [some (jO m), some (jI (N1 : Int)), some (jI z), some (jI a), some (jI o), some (jI (t : Int))] [jJ (zgo (M1 (m + 16)) n n)] 0 0 (M1, w.2) _
                refine jWp.blk mt 1 ?_
                show jWp 196 125 [some (jO m), some (jI (N1 : Int)), some (jI z), some (jI a), some (jI o), some (jI (t : Int))] [jI (zgo (M1 (m + 16)) n n)] 0 0 (M1, w.2) _
                refine jWp.ireti mt rfl ⟨rfl, rfl⟩ rfl ?_
                refine ⟨fun c0 => ?_, fun c0 c1 => ?_, fun c0 c1 c2 => ?_, fun c0 c1 c2 => ?_⟩
                all_goals first
                | (exfalso; omega)
                | exact ⟨rfl, rfl⟩
                | exact ⟨fun c => absurd c (by omega), fun c => ⟨by rw [zgo_c (zeq_t (by rw [show N1 - t = 0 by omega]; exact fun _ _ => rfl) hr.2) hn4 n hn4]; rfl, hmq⟩⟩
              · have h9 : a = 0 := h9
                refine jWp.blk mt 2 ?_
                show jWp 196 125 [some (jO m), some (jI (N1 : Int)), some (jI z), some (jI a), some (jI o), some (jI (t : Int))] [jI o] 0 0 (M1, w.2) _
                refine jWp.ireti mt rfl ⟨rfl, rfl⟩ rfl ?_
                refine ⟨fun c0 => ?_, fun c0 c1 => ?_, fun c0 c1 c2 => ?_, fun c0 c1 c2 => ?_⟩
                all_goals first
                | (exfalso; omega)
                | exact ⟨rfl, rfl⟩
                | exact ⟨fun c => ⟨by have g := hr.1; rw [show N1 - t = 0 by omega] at g; rw [show ((N1 : Nat) : Int).toNat = N1 from rfl, ← g]; show some (jI o) = some (jI (o + 0)); rw [Int.add_zero], hmq⟩, fun c => absurd c (by omega)⟩
            · have h8 : (t : Int) < (N1 : Int) := h8
              refine jWp.blk mt 3 ?_
              show _ ∧ _ ∧ jWp 196 74 [some (jO m), some (jI (N1 : Int)), some (jI z), some (jI a), some (jI o), some (jI (t : Int))] [jO m, jO m, jI o] 0 0 (M1, w.2) _
              refine ⟨rfl, rfl, ?_⟩
              refine jWp.getR (pc' := 77) (o := (m + 16)) mt rfl rfl (jtg hW.K0) hW.R16 ?_
              show jWp 196 77 [some (jO m), some (jI (N1 : Int)), some (jI z), some (jI a), some (jI o), some (jI (t : Int))] [jO (m + 16), jO m, jI o] 0 0 (M1, w.2) _
              refine jWp.blk mt 2 ?_
              show _ ∧ _ ∧ jWp 196 79 [some (jO m), some (jI (N1 : Int)), some (jI z), some (jI a), some (jI o), some (jI (t : Int))] [jO m, jO m, jO (m + 16), jO m, jI o] 0 0 (M1, w.2) _
              refine ⟨rfl, rfl, ?_⟩
              refine jWp.getR (pc' := 82) (o := (m + 1)) mt rfl rfl (jtg hW.K0) hW.R0 ?_
              show jWp 196 82 [some (jO m), some (jI (N1 : Int)), some (jI z), some (jI a), some (jI o), some (jI (t : Int))] [jO (m + 1), jO m, jO (m + 16), jO m, jI o] 0 0 (M1, w.2) _
              refine jWp.blk mt 1 ?_
              show jWp 196 83 [some (jO m), some (jI (N1 : Int)), some (jI z), some (jI a), some (jI o), some (jI (t : Int))] [jI 0, jO (m + 1), jO m, jO (m + 16), jO m, jI o] 0 0 (M1, w.2) _
              refine jWp.lald (pc' := 84) (j := 0) mt rfl rfl (jtg hW.K1) (by decide) (jlt hW.K1 (by decide)) ?_
              rw [show ((M1, w.2).1 (m + 1) 0) = (n : Int) from ((congrFun (hmq.2.1 (m + 1) (by omega)) 0).trans hS.n0)]
              show jWp 196 84 [some (jO m), some (jI (N1 : Int)), some (jI z), some (jI a), some (jI o), some (jI (t : Int))] [jJ (n : Int), jO m, jO (m + 16), jO m, jI o] 0 0 (M1, w.2) _
              refine jWp.blk mt 1 ?_
              show jWp 196 85 [some (jO m), some (jI (N1 : Int)), some (jI z), some (jI a), some (jI o), some (jI (t : Int))] [jI (n : Int), jO m, jO (m + 16), jO m, jI o] 0 0 (M1, w.2) _
              refine jWp.callv (as := [jO m, jI (n : Int)]) (rest := [jO (m + 16), jO m, jI o]) mt rfl rfl rfl ⟨rfl, jtg hW.K0⟩ ?_
              refine jCall.mono (E_draws (w := (M1, w.2)) (n := n) hW (by omega) (by omega)) (fun v9 w9 h9 => ?_)
              obtain ⟨rfl, h9⟩ := h9
              subst h9
              have hkb := (zlk_b (z := zlz (M1 m 22)) (n := n) (by omega)).2.1
              show jWp 196 88 [some (jO m), some (jI (N1 : Int)), some (jI z), some (jI a), some (jI o), some (jI (t : Int))] [jI ((zlk (zlz (M1 m 22)) n : Nat) : Int), jO (m + 16), jO m, jI o] 0 0 (jW (M1, w.2) m 22 (zlz (M1 m 22))) _
              refine jWp.callv (as := [jO m, jO (m + 16), jI ((zlk (zlz (M1 m 22)) n : Nat) : Int)]) (rest := [jI o]) mt rfl rfl rfl ⟨rfl, jtg hW.K0⟩ ?_
              refine jCall.mono (E_xany (w := (jW (M1, w.2) m 22 (zlz (M1 m 22)))) (o := 16) (n := n) (k := zlk (zlz (M1 m 22)) n) hW hW.K16 (by rw [show (jW (M1, w.2) m 22 (zlz (M1 m 22))).1 (m + 16) = M1 (m + 16) from jW_f (by omega)]; exact hS1) (by omega)) (fun v9 w9 h9 => ?_)
              obtain ⟨hx10, hh⟩ := h9
              obtain ⟨M2, G9⟩ := w9
              have hg : G9 = w.2 := hx10.1
              subst hg
              have hmq2 : mq w m (M2, w.2) := mq_t (mq_S hmq (by decide)) (mq_x (Or.inl rfl) hx10)
              have hz22 : M2 m 22 = zlz (M1 m 22) := (hx10.2.2 22 (by decide) (by decide)).trans jW_s
              rw [show (jW (M1, w.2) m 22 (zlz (M1 m 22))).1 (m + 16) = M1 (m + 16) from jW_f (by omega)] at hh
              rcases hh with ⟨rfl, hz⟩ | ⟨rfl, hzS, hz⟩
              · have hz' := hz
                show jWp 196 91 [some (jO m), some (jI (N1 : Int)), some (jI z), some (jI a), some (jI o), some (jI (t : Int))] [jI 1, jI o] 0 0 (M2, w.2) _
                refine jWp.ifc (b := false) mt rfl (by decide) rfl ?_
                show jWp 196 94 [some (jO m), some (jI (N1 : Int)), some (jI z), some (jI a), some (jI o), some (jI (t : Int))] [jI o] 0 0 (M2, w.2) _
                refine jWp.blk mt 6 ?_
                show jWp 196 64 [some (jO m), some (jI (N1 : Int)), some (jI z), some (jI a), some (jI (o + 1)), some (jI ((t : Int) + 1))] [] 0 0 (M2, w.2) _
                refine jWp.le (l := [some (jO m), some (jI (N1 : Int)), some (jI z), some (jI a), some (jI (o + 1)), some (jI ((t : Int) + 1))]) (by exact ⟨rfl, rfl, rfl, rfl, rfl, rfl, trivial⟩) ?_
                exact ih7 (t + 1) _ M2 (by omega) (by omega) hmq2 (zxn_S hS1 (by omega) hz) (by have g := hr.1; rw [show N1 - t = (N1 - (t + 1)) + 1 by omega, zlF_t hz.1] at g; have g2 := hr.2; rw [show N1 - t = (N1 - (t + 1)) + 1 by omega, zlF_t hz.1] at g2; dsimp only at g g2; have c := zlF_c (n := n) (by omega) hn4 (N1 - (t + 1)) (zlz (M1 m 22)) _ _ (zxn_F (by omega) hz); rw [hz22]; exact ⟨by rw [c.1]; omega, zeq_t c.2 g2⟩) (by omega)
              · have hzS : M2 (m + 16) = M1 (m + 16) := hzS
                show jWp 196 91 [some (jO m), some (jI (N1 : Int)), some (jI z), some (jI a), some (jI o), some (jI (t : Int))] [jI 0, jI o] 0 0 (M2, w.2) _
                refine jWp.ifc (b := true) mt rfl (by decide) rfl ?_
                show jWp 196 98 [some (jO m), some (jI (N1 : Int)), some (jI z), some (jI a), some (jI o), some (jI (t : Int))] [jI o] 0 0 (M2, w.2) _
                refine jWp.blk mt 5 ?_
                show jWp 196 64 [some (jO m), some (jI (N1 : Int)), some (jI z), some (jI a), some (jI (o + 0)), some (jI ((t : Int) + 1))] [] 0 0 (M2, w.2) _
                refine jWp.le (l := [some (jO m), some (jI (N1 : Int)), some (jI z), some (jI a), some (jI (o + 0)), some (jI ((t : Int) + 1))]) (by exact ⟨rfl, rfl, rfl, rfl, rfl, rfl, trivial⟩) ?_
                exact ih7 (t + 1) _ M2 (by omega) (by omega) hmq2 (by rw [hzS]; exact hS1) (by rw [hz22, hzS, Int.add_zero]; have g := hr.1; rw [show N1 - t = (N1 - (t + 1)) + 1 by omega, zlF_f hz] at g; have g2 := hr.2; rw [show N1 - t = (N1 - (t + 1)) + 1 by omega, zlF_f hz] at g2; exact ⟨g, g2⟩) (by omega)
        refine jWp.le (l := [some (jO m), some (jI (N1 : Int)), some (jI z), some (jI a), some (jI 0), some (jI 0)]) (by exact ⟨rfl, rfl, rfl, rfl, rfl, rfl, trivial⟩) ?_
        exact lp6 _ 0 0 (kA (jW w m 22 z) (m + 16) T4).1 (by omega) (by omega) (mq_A (mq_S mq_0 (by decide)) (by omega)) (by rw [kA_fs]; exact zeq_S hT5b hS) (by rw [kA_fs, show (kA (jW w m 22 z) (m + 16) T4).1 m 22 = z from (kA_a (by omega)).trans jW_s]; have c := zlF_c (n := n) (by omega) hn4 N1 z _ _ hT5b; exact ⟨by rw [Int.zero_add]; exact c.1, c.2⟩) (Nat.lt_succ_self _)
      · have h3 : ¬ (0 ≤ a ∧ a ≤ 1) := h3
        show jWp 196 32 [some (jO m), some (jI N), some (jI z), some (jI a), none, none] [jI 0] 0 0 w _
        refine jWp.ifc (b := false) mt rfl (by decide) rfl ?_
        show jWp 196 35 [some (jO m), some (jI N), some (jI z), some (jI a), none, none] [] 0 0 w _
        refine jWp.blk mt 2 ?_
        show _ ∧ jWp 196 38 [some (jO m), some (jI N), some (jI z), some (jI a), none, none] [jI (-2), jO m] 0 0 w _
        refine ⟨rfl, ?_⟩
        refine jWp.callv (as := [jO m, jI (-2)]) (rest := []) mt rfl rfl rfl ⟨rfl, jtg hW.K0⟩ ?_
        refine jCall.mono (E_refuses (w := w) (j := 2) hW (by decide) (by decide)) (fun v9 w9 h9 => ?_)
        obtain ⟨rfl, h9⟩ := h9
        subst h9
        show jWp 196 41 [some (jO m), some (jI N), some (jI z), some (jI a), none, none] [jI (-2)] 0 0 (jW w (m + 3) 2 ((w.1 (m + 3) 2) + 1)) _
        refine jWp.ireti mt rfl ⟨rfl, rfl⟩ rfl ?_
        refine ⟨fun c0 => ?_, fun c0 c1 => ?_, fun c0 c1 c2 => ?_, fun c0 c1 c2 => ?_⟩
        all_goals first
        | (exfalso; omega)
        | exact ⟨rfl, rfl⟩
    · have h2 : 30 < N := h2
      refine jWp.blk mt 2 ?_
      show _ ∧ jWp 196 21 [some (jO m), some (jI N), some (jI z), some (jI a), none, none] [jI (-6), jO m] 0 0 w _
      refine ⟨rfl, ?_⟩
      refine jWp.callv (as := [jO m, jI (-6)]) (rest := []) mt rfl rfl rfl ⟨rfl, jtg hW.K0⟩ ?_
      refine jCall.mono (E_refuses (w := w) (j := 6) hW (by decide) (by decide)) (fun v9 w9 h9 => ?_)
      obtain ⟨rfl, h9⟩ := h9
      subst h9
      show jWp 196 24 [some (jO m), some (jI N), some (jI z), some (jI a), none, none] [jI (-6)] 0 0 (jW w (m + 3) 6 ((w.1 (m + 3) 6) + 1)) _
      refine jWp.ireti mt rfl ⟨rfl, rfl⟩ rfl ?_
      refine ⟨fun c0 => ?_, fun c0 c1 => ?_, fun c0 c1 c2 => ?_, fun c0 c1 c2 => ?_⟩
      all_goals first
      | (exfalso; omega)
      | exact ⟨rfl, rfl⟩
  · have h1 : N < 1 := h1
    refine jWp.blk mt 2 ?_
    show _ ∧ jWp 196 8 [some (jO m), some (jI N), some (jI z), some (jI a), none, none] [jI (-4), jO m] 0 0 w _
    refine ⟨rfl, ?_⟩
    refine jWp.callv (as := [jO m, jI (-4)]) (rest := []) mt rfl rfl rfl ⟨rfl, jtg hW.K0⟩ ?_
    refine jCall.mono (E_refuses (w := w) (j := 4) hW (by decide) (by decide)) (fun v9 w9 h9 => ?_)
    obtain ⟨rfl, h9⟩ := h9
    subst h9
    show jWp 196 11 [some (jO m), some (jI N), some (jI z), some (jI a), none, none] [jI (-4)] 0 0 (jW w (m + 3) 4 ((w.1 (m + 3) 4) + 1)) _
    refine jWp.ireti mt rfl ⟨rfl, rfl⟩ rfl ?_
    refine ⟨fun c0 => ?_, fun c0 c1 => ?_, fun c0 c1 c2 => ?_, fun c0 c1 c2 => ?_⟩
    all_goals first
    | (exfalso; omega)
    | exact ⟨rfl, rfl⟩
end
section
/-- a row's numbers, so many of them: its starts, then each by its law -/
def zGr (law f : Int) (s t : Nat → Int) (len : Nat) : Prop := (zO law).toNat ≤ len ∧ len ≤ 60 ∧ (∀ y, y < (zO law).toNat → t y = s y) ∧ ∀ n, (zO law).toNat ≤ n → n < len → t n = Int.tdiv (zP law f t n) (zD law t n) ∧ Int.tmod (zP law f t n) (zD law t n) = 0 ∧ -100000000 ≤ t n ∧ t n ≤ 100000000
/-- why it ends there -/
def zEn (law f : Int) (t : Nat → Int) (len : Nat) (why left : Int) : Prop :=
  (why = 0 ∧ len = 60 ∧ left = 0) ∨ (why = 1 ∧ len < 60 ∧ Int.tmod (zP law f t len) (zD law t len) ≠ 0 ∧ left = Int.tmod (zP law f t len) (zD law t len)) ∨
  (why = 2 ∧ len < 60 ∧ Int.tmod (zP law f t len) (zD law t len) = 0 ∧ ¬ (-100000000 ≤ Int.tdiv (zP law f t len) (zD law t len) ∧ Int.tdiv (zP law f t len) (zD law t len) ≤ 100000000) ∧ left = 0)
theorem zPD_c {law f : Int} {t t' : Nat → Int} {n : Nat} (h0 : 0 ≤ law) (h6 : law ≤ 6) (hn : (zO law).toNat ≤ n) (h : ∀ j, j < n → t j = t' j) : zP law f t n = zP law f t' n ∧ zD law t n = zD law t' n := by
  have hb := zO_b h0 h6
  have hq := zO_q hn
  constructor
  · unfold zP
    rcases (show law = 0 ∨ law = 1 ∨ law = 2 ∨ law = 3 ∨ law = 4 ∨ law = 5 ∨ law = 6 by omega) with rfl | rfl | rfl | rfl | rfl | rfl | rfl
    · rw [if_pos rfl, if_pos rfl, h (n - 1) (by omega), h (n - 2) (by omega)]
    · simp only [Int.reduceEq, if_false, if_true, reduceIte]
      rw [h (n - 1) (by omega)]
    · simp only [Int.reduceEq, if_false, if_true, reduceIte]
      rw [h (n - 1) (by omega), h (n - 2) (by omega)]
    · simp only [Int.reduceEq, if_false, if_true, reduceIte]
      rw [h (n - 1) (by omega), h (n - 2) (by omega), h (n - 3) (by omega)]
    · simp only [Int.reduceEq, if_false, if_true, reduceIte]
      rw [h (n - 1) (by omega), h (n - 2) (by omega), h (n - 3) (by omega), h (n - 4) (by omega)]
    · simp only [Int.reduceEq, if_false, if_true, reduceIte]
      rw [h (n - 1) (by omega), h (n - 2) (by omega), h (n - 3) (by omega), h (n - 4) (by omega), h (n - 5) (by omega)]
    · simp only [Int.reduceEq, if_false, if_true, reduceIte]
      rw [h (n - 1) (by omega), h (n - 2) (by omega), h (n - 3) (by omega), h (n - 4) (by omega), h (n - 5) (by omega), h (n - 6) (by omega), h (n - 7) (by omega)]
  · unfold zD
    rw [h (n - (zO law).toNat) (by omega)]
theorem zmul1 {x y : Int} (hx : 1 ≤ x) (hy : 1 ≤ y) : 1 ≤ x * y := by
  have := Int.mul_le_mul hx hy (by decide) (by omega)
  omega
theorem zmulA {x y a b : Int} (hx : -a ≤ x ∧ x ≤ a) (hy : -b ≤ y ∧ y ≤ b) (ha : 0 ≤ a) (hb : 0 ≤ b) : -(a * b) ≤ x * y ∧ x * y ≤ a * b := by
  have h : (x * y).natAbs ≤ (a * b).natAbs := by rw [Int.natAbs_mul, Int.natAbs_mul]; exact Nat.mul_le_mul (by omega) (by omega)
  have h2 := Int.mul_nonneg ha hb
  omega
theorem zm8 {x y : Int} (hx : -100000000 ≤ x ∧ x ≤ 100000000) (hy : -100000000 ≤ y ∧ y ≤ 100000000) : -10000000000000000 ≤ x * y ∧ x * y ≤ 10000000000000000 := zmulA hx hy (by decide) (by decide)
theorem zm9 {f x : Int} (hf : 0 ≤ f ∧ f ≤ 9) (hx : -10000000000000000 ≤ x ∧ x ≤ 10000000000000000) : -90000000000000000 ≤ f * x ∧ f * x ≤ 90000000000000000 := zmulA (a := 9) (b := 10000000000000000) (by omega) hx (by decide) (by decide)
theorem zm98 {f x : Int} (hf : 0 ≤ f ∧ f ≤ 9) (hx : -100000000 ≤ x ∧ x ≤ 100000000) : -900000000 ≤ f * x ∧ f * x ≤ 900000000 := zmulA (a := 9) (b := 100000000) (by omega) hx (by decide) (by decide)
theorem zP_b {law f : Int} {t : Nat → Int} {n : Nat} (h0 : 0 ≤ law) (h6 : law ≤ 6) (hf : 0 ≤ f ∧ f ≤ 9) (hn : (zO law).toNat ≤ n) (h : ∀ j, j < n → -100000000 ≤ t j ∧ t j ≤ 100000000) : -200000000000000000 ≤ zP law f t n ∧ zP law f t n ≤ 200000000000000000 := by
  have hq := zO_q hn
  have hb := zO_b h0 h6
  unfold zP
  rcases (show law = 0 ∨ law = 1 ∨ law = 2 ∨ law = 3 ∨ law = 4 ∨ law = 5 ∨ law = 6 by omega) with rfl | rfl | rfl | rfl | rfl | rfl | rfl
  · rw [if_pos rfl]
    have a1 := zm98 hf (h (n - 1) (by omega))
    have a2 := h (n - 2) (by omega)
    omega
  · simp only [Int.reduceEq, if_false, if_true, reduceIte]
    have a1 := zm8 (h (n - 1) (by omega)) (h (n - 1) (by omega))
    omega
  · simp only [Int.reduceEq, if_false, if_true, reduceIte]
    have a1 := zm8 (h (n - 1) (by omega)) (h (n - 2) (by omega))
    omega
  · simp only [Int.reduceEq, if_false, if_true, reduceIte]
    have a1 := zm8 (h (n - 1) (by omega)) (h (n - 3) (by omega))
    have a2 := zm9 hf (zm8 (h (n - 2) (by omega)) (h (n - 2) (by omega)))
    rw [Int.mul_assoc]
    omega
  · simp only [Int.reduceEq, if_false, if_true, reduceIte]
    have a1 := zm8 (h (n - 1) (by omega)) (h (n - 4) (by omega))
    have a2 := zm9 hf (zm8 (h (n - 2) (by omega)) (h (n - 3) (by omega)))
    rw [Int.mul_assoc]
    omega
  · simp only [Int.reduceEq, if_false, if_true, reduceIte]
    have a1 := zm8 (h (n - 1) (by omega)) (h (n - 5) (by omega))
    have a2 := zm9 hf (zm8 (h (n - 2) (by omega)) (h (n - 4) (by omega)))
    have a3 := zm8 (h (n - 3) (by omega)) (h (n - 3) (by omega))
    rw [Int.mul_assoc f]
    omega
  · simp only [Int.reduceEq, if_false, if_true, reduceIte]
    have a1 := zm8 (h (n - 1) (by omega)) (h (n - 7) (by omega))
    have a2 := zm8 (h (n - 2) (by omega)) (h (n - 6) (by omega))
    have a3 := zm9 hf (zm8 (h (n - 3) (by omega)) (h (n - 5) (by omega)))
    have a4 := zm8 (h (n - 4) (by omega)) (h (n - 4) (by omega))
    rw [Int.mul_assoc f]
    omega
theorem zP_p {law f : Int} {t : Nat → Int} {n : Nat} (h1 : 1 ≤ law) (h6 : law ≤ 6) (hf : 0 ≤ f) (hn : (zO law).toNat ≤ n) (h : ∀ j, j < n → 1 ≤ t j) : 1 ≤ zP law f t n ∧ 1 ≤ zD law t n := by
  have hq := zO_q hn
  have hb := zO_b (law := law) (by omega) h6
  constructor
  · unfold zP
    have m : ∀ a b, a < n → b < n → 1 ≤ t a * t b := fun a b ha hb => zmul1 (h a ha) (h b hb)
    have mf : ∀ a b, a < n → b < n → 0 ≤ f * (t a * t b) := fun a b ha hb => Int.mul_nonneg hf (by have := m a b ha hb; omega)
    rcases (show law = 1 ∨ law = 2 ∨ law = 3 ∨ law = 4 ∨ law = 5 ∨ law = 6 by omega) with rfl | rfl | rfl | rfl | rfl | rfl
    · simp only [Int.reduceEq, if_false, if_true, reduceIte]
      have a1 := m (n - 1) (n - 1) (by omega) (by omega)
      omega
    · simp only [Int.reduceEq, if_false, if_true, reduceIte]
      have a1 := m (n - 1) (n - 2) (by omega) (by omega)
      omega
    · simp only [Int.reduceEq, if_false, if_true, reduceIte]
      have a1 := m (n - 1) (n - 3) (by omega) (by omega)
      have a2 := mf (n - 2) (n - 2) (by omega) (by omega)
      rw [Int.mul_assoc]
      omega
    · simp only [Int.reduceEq, if_false, if_true, reduceIte]
      have a1 := m (n - 1) (n - 4) (by omega) (by omega)
      have a2 := mf (n - 2) (n - 3) (by omega) (by omega)
      rw [Int.mul_assoc]
      omega
    · simp only [Int.reduceEq, if_false, if_true, reduceIte]
      have a1 := m (n - 1) (n - 5) (by omega) (by omega)
      have a2 := mf (n - 2) (n - 4) (by omega) (by omega)
      have a3 := m (n - 3) (n - 3) (by omega) (by omega)
      rw [Int.mul_assoc f]
      omega
    · simp only [Int.reduceEq, if_false, if_true, reduceIte]
      have a1 := m (n - 1) (n - 7) (by omega) (by omega)
      have a2 := m (n - 2) (n - 6) (by omega) (by omega)
      have a3 := mf (n - 3) (n - 5) (by omega) (by omega)
      have a4 := m (n - 4) (n - 4) (by omega) (by omega)
      rw [Int.mul_assoc f]
      omega
  · unfold zD
    rw [if_neg (by omega)]
    exact h _ (by omega)
/-- all numbers of a row are small; and none below 1, if its law isn't the first -/
theorem zGr_b {law f : Int} {s t : Nat → Int} {len : Nat} (h0 : 0 ≤ law) (h6 : law ≤ 6) (hs : ∀ y, y < 8 → 1 ≤ s y ∧ s y ≤ 9) (h : zGr law f s t len) : ∀ j, j < len → -100000000 ≤ t j ∧ t j ≤ 100000000 := by
  intro j hj
  have hb := zO_b h0 h6
  rcases Nat.lt_or_ge j (zO law).toNat with e | e
  · rw [h.2.2.1 j e]
    have := hs j (by omega)
    omega
  · exact (h.2.2.2 j e hj).2.2
theorem zGr_p {law f : Int} {s t : Nat → Int} {len : Nat} (h1 : 1 ≤ law) (h6 : law ≤ 6) (hf : 0 ≤ f) (hs : ∀ y, y < 8 → 1 ≤ s y ∧ s y ≤ 9) (h : zGr law f s t len) : ∀ N j, j < N → j < len → 1 ≤ t j := by
  have hb := zO_b (law := law) (by omega) h6
  intro N
  induction N with
  | zero => intro j hj; omega
  | succ N ih =>
    intro j hj hl
    rcases Nat.lt_or_ge j (zO law).toNat with e | e
    · rw [h.2.2.1 j e]
      exact (hs j (by omega)).1
    · have g := h.2.2.2 j e hl
      have p := zP_p (f := f) (n := j) (t := t) h1 h6 hf e (fun x hx => ih x (by omega) (by omega))
      have d := Int.mul_tdiv_add_tmod (zP law f t j) (zD law t j)
      rw [g.2.1, ← g.1, Int.add_zero] at d
      rcases (show t j < 1 ∨ 1 ≤ t j by omega) with c | c
      · exfalso
        have : zD law t j * t j ≤ 0 := Int.mul_nonpos_of_nonneg_of_nonpos (by omega) (by omega)
        omega
      · exact c
theorem zGr_s {law f : Int} {s t : Nat → Int} {len : Nat} (h0 : 0 ≤ law) (h6 : law ≤ 6) (hf : 0 ≤ f ∧ f ≤ 9) (hs : ∀ y, y < 8 → 1 ≤ s y ∧ s y ≤ 9) (h : zGr law f s t len) : (-200000000000000000 ≤ zP law f t len ∧ zP law f t len ≤ 200000000000000000) ∧ 1 ≤ zD law t len ∧ zD law t len ≤ 100000000 := by
  have hb := zGr_b h0 h6 hs h
  have ho := zO_b h0 h6
  refine ⟨zP_b h0 h6 hf h.1 hb, ?_⟩
  by_cases e : law = 0
  · unfold zD
    rw [if_pos e]
    decide
  · have p := zP_p (t := t) (n := len) (by omega : 1 ≤ law) h6 hf.1 h.1 (fun j hj => zGr_p (by omega) h6 hf.1 hs h (j + 1) j (by omega) hj)
    refine ⟨p.2, ?_⟩
    unfold zD
    rw [if_neg e]
    exact (hb _ (by have := h.1; omega)).2
/-- one more -/
theorem zGr_n {law f : Int} {s t t' : Nat → Int} {len : Nat} (h0 : 0 ≤ law) (h6 : law ≤ 6) (h : zGr law f s t len) (hl : len < 60) (hm : Int.tmod (zP law f t len) (zD law t len) = 0) (hq : -100000000 ≤ Int.tdiv (zP law f t len) (zD law t len) ∧ Int.tdiv (zP law f t len) (zD law t len) ≤ 100000000) (ht : t' len = Int.tdiv (zP law f t len) (zD law t len)) (ho : ∀ j, j < len → t' j = t j) : zGr law f s t' (len + 1) := by
  refine ⟨by have := h.1; omega, by omega, fun y hy => by rw [ho y (by have := h.1; omega)]; exact h.2.2.1 y hy, fun n hn hl2 => ?_⟩
  have c := zPD_c (f := f) (t := t') (t' := t) (n := n) h0 h6 hn (fun j hj => ho j (by omega))
  rw [c.1, c.2]
  rcases Nat.lt_or_ge n len with e | e
  · rw [ho n e]
    exact h.2.2.2 n hn e
  · rw [show n = len by omega, ht]
    exact ⟨rfl, hm, hq⟩
/-- a row has one face -/
theorem zGr_u {law f : Int} {s t t' : Nat → Int} {len len' : Nat} {why why' left left' : Int} (h0 : 0 ≤ law) (h6 : law ≤ 6) (h : zGr law f s t len) (e : zEn law f t len why left) (h' : zGr law f s t' len') (e' : zEn law f t' len' why' left') : len = len' ∧ why = why' ∧ left = left' ∧ ∀ j, j < len → t j = t' j := by
  have ag : ∀ N j, j < N → j < len → j < len' → t j = t' j := by
    intro N
    induction N with
    | zero => intro j hj; omega
    | succ N ih =>
      intro j hj hl hl'
      rcases Nat.lt_or_ge j (zO law).toNat with c | c
      · rw [h.2.2.1 j c, h'.2.2.1 j c]
      · have p := zPD_c (f := f) (t := t) (t' := t') (n := j) h0 h6 c (fun x hx => ih x (by omega) (by omega) (by omega))
        rw [(h.2.2.2 j c hl).1, (h'.2.2.2 j c hl').1, p.1, p.2]
  have stop : ∀ {t t' : Nat → Int} {len len' : Nat} {why left : Int}, zGr law f s t len → zEn law f t len why left → zGr law f s t' len' → (∀ j, j < len → j < len' → t j = t' j) → ¬ len < len' := by
    intro t t' len len' why left h e h' ag hlt
    have p := zPD_c (f := f) (t := t) (t' := t') (n := len) h0 h6 h.1 (fun x hx => ag x hx (by omega))
    have g := h'.2.2.2 len h.1 hlt
    rw [← p.1, ← p.2] at g
    rcases e with ⟨-, e, -⟩ | ⟨-, -, e, -⟩ | ⟨-, -, -, e, -⟩
    · have := h'.2.1
      omega
    · exact e g.2.1
    · rw [← g.1] at e
      exact e g.2.2
  have l1 := stop h e h' (fun j a b => ag (j + 1) j (by omega) a b)
  have l2 := stop h' e' h (fun j a b => (ag (j + 1) j (by omega) b a).symm)
  have l : len = len' := by omega
  subst l
  have p := zPD_c (f := f) (t := t) (t' := t') (n := len) h0 h6 h.1 (fun x hx => ag (x + 1) x (by omega) hx hx)
  refine ⟨rfl, ?_, ?_, fun j hj => ag (j + 1) j (by omega) hj hj⟩
  · unfold zEn at e e'
    rw [← p.1, ← p.2] at e'
    rcases e with ⟨e1, e2, e3⟩ | ⟨e1, e2, e3, e4⟩ | ⟨e1, e2, e3, e4, e5⟩ <;> rcases e' with ⟨g1, g2, g3⟩ | ⟨g1, g2, g3, g4⟩ | ⟨g1, g2, g3, g4, g5⟩ <;> first | omega | exact absurd e3 g3 | exact absurd g3 e3
  · unfold zEn at e e'
    rw [← p.1, ← p.2] at e'
    rcases e with ⟨e1, e2, e3⟩ | ⟨e1, e2, e3, e4⟩ | ⟨e1, e2, e3, e4, e5⟩ <;> rcases e' with ⟨g1, g2, g3⟩ | ⟨g1, g2, g3, g4⟩ | ⟨g1, g2, g3, g4, g5⟩ <;> first | omega | exact absurd e3 g3 | exact absurd g3 e3
/-- what is worked with to make a row's numbers -/
def ztr (w : jS) (m : Nat) (w1 : jS) : Prop := w1.2 = w.2 ∧ (∀ a, a ≠ m → a ≠ m + 4 → w1.1 a = w.1 a) ∧ ∀ j, j < 4 ∨ 7 < j → w1.1 m j = w.1 m j
theorem ztr_q {w w1 : jS} {m : Nat} (h : ztr w m w1) : mq w m w1 := ⟨h.1, fun a ha => h.2.1 a (by omega) (by omega), h.2.2 15 (by omega), h.2.2 24 (by omega), h.2.2 31 (by omega)⟩
/-- a number divided by one above 0: what stands in the longs -/
theorem zdm {p d : Int} (hp : -200000000000000000 ≤ p ∧ p ≤ 200000000000000000) (hd : 1 ≤ d ∧ d ≤ 100000000) : (-100000000 ≤ Int.tmod p d ∧ Int.tmod p d ≤ 100000000) ∧ -200000000000000000 ≤ Int.tdiv p d ∧ Int.tdiv p d ≤ 200000000000000000 := by
  have h1 : (Int.tmod p d).natAbs = p.natAbs % d.natAbs := Int.natAbs_tmod _ _
  have h2 : (Int.tdiv p d).natAbs = p.natAbs / d.natAbs := Int.natAbs_tdiv _ _
  have h3 : p.natAbs % d.natAbs < d.natAbs := Nat.mod_lt _ (by omega)
  have h4 : p.natAbs / d.natAbs ≤ p.natAbs := Nat.div_le_self _ _
  omega
set_option maxHeartbeats 4000000 in
set_option maxRecDepth 20000 in
theorem E_terms {w : jS} {m : Nat} (hW : MW w.2 m) {x : Nat} {law f : Int} (hx : x < 4) (hlaw : w.1 (m + 2) (1 + 10 * x) = law) (hfig : w.1 (m + 2) (2 + 10 * x) = f) (hl0 : 0 ≤ law) (hl6 : law ≤ 6) (hf : 0 ≤ f ∧ f ≤ 9) (hs : ∀ y, y < 8 → 1 ≤ w.1 (m + 2) (3 + 10 * x + y) ∧ w.1 (m + 2) (3 + 10 * x + y) ≤ 9) : jCall 146 [jO m, jI (x : Int)] w (fun v w1 => v = none ∧ ztr w m w1 ∧ ∃ (len : Nat) (why left : Int), w1.1 m 4 = (len : Int) ∧ w1.1 m 5 = why ∧ w1.1 m 6 = left ∧ zGr law f (fun y => w.1 (m + 2) (3 + 10 * x + y)) (w1.1 (m + 4)) len ∧ zEn law f (w1.1 (m + 4)) len why left) := by
  have mt : jtb 146 = jT146 := rfl
  have hob := zO_b hl0 hl6
  show jWp 146 0 [some (jO m), some (jI (x : Int)), none, none, none] [] 0 0 w _
  refine jWp.blk mt 2 ?_
  show _ ∧ jWp 146 2 [some (jO m), some (jI (x : Int)), none, none, none] [jI (x : Int), jO m] 0 0 w _
  refine ⟨rfl, ?_⟩
  refine jWp.callv (as := [jO m, jI (x : Int)]) (rest := []) mt rfl rfl rfl ⟨rfl, jtg hW.K0⟩ ?_
  refine jCall.mono ((by have h := E_law (w := w) (x := x) hW hx; rw [hlaw] at h; exact h)) (fun v9 w9 h9 => ?_)
  obtain ⟨rfl, h9⟩ := h9
  subst w9
  show jWp 146 5 [some (jO m), some (jI (x : Int)), none, none, none] [jI law] 0 0 w _
  refine jWp.blk mt 3 ?_
  show _ ∧ jWp 146 8 [some (jO m), some (jI (x : Int)), some (jI law), none, none] [jI law, jO m] 0 0 w _
  refine ⟨rfl, ?_⟩
  refine jWp.calls (as := [jI law]) (rest := [jO m]) mt rfl rfl rfl rfl ?_
  refine jCall.mono (E_order (by omega) (by omega)) (fun v9 w9 h9 => ?_)
  obtain ⟨rfl, h9⟩ := h9
  subst w9
  show jWp 146 11 [some (jO m), some (jI (x : Int)), some (jI law), none, none] [jI (zO law), jO m] 0 0 w _
  refine jWp.putI (pc' := 14) mt rfl rfl (jtg hW.K0) ?_
  show jWp 146 14 [some (jO m), some (jI (x : Int)), some (jI law), none, none] [] 0 0 (jW w m 4 (zO law)) _
  refine jWp.blk mt 2 ?_
  show _ ∧ jWp 146 16 [some (jO m), some (jI (x : Int)), some (jI law), none, none] [jI 0, jO m] 0 0 (jW w m 4 (zO law)) _
  refine ⟨rfl, ?_⟩
  refine jWp.putI (pc' := 19) mt rfl rfl (jtg hW.K0) ?_
  show jWp 146 19 [some (jO m), some (jI (x : Int)), some (jI law), none, none] [] 0 0 (jW (jW w m 4 (zO law)) m 5 0) _
  refine jWp.blk mt 2 ?_
  show _ ∧ jWp 146 21 [some (jO m), some (jI (x : Int)), some (jI law), none, none] [jJ 0, jO m] 0 0 (jW (jW w m 4 (zO law)) m 5 0) _
  refine ⟨rfl, ?_⟩
  refine jWp.putJ (pc' := 24) mt rfl rfl (jtg hW.K0) ?_
  show jWp 146 24 [some (jO m), some (jI (x : Int)), some (jI law), none, none] [] 0 0 (jW (jW (jW w m 4 (zO law)) m 5 0) m 6 0) _
  refine jWp.blk mt 2 ?_
  show jWp 146 26 [some (jO m), some (jI (x : Int)), some (jI law), some (jI 0), none] [] 0 0 (jW (jW (jW w m 4 (zO law)) m 5 0) m 6 0) _
  have lp1 : ∀ (N : Nat) (k : Nat) (M1 : Nat → Nat → Int) (hk : (k : Int) ≤ zO law) (hF : ztr w m (M1, w.2)) (k4 : M1 m 4 = zO law) (k5 : M1 m 5 = 0) (h6l : M1 m 6 = 0) (hA : ∀ y, y < k → M1 (m + 4) y = w.1 (m + 2) (3 + 10 * x + y)), 9 - k < N → jWp 146 26 [some (jO m), some (jI (x : Int)), some (jI law), some (jI (k : Int)), none] [] 0 0 (M1, w.2) (fun v w1 => v = none ∧ ztr w m w1 ∧ ∃ (len : Nat) (why left : Int), w1.1 m 4 = (len : Int) ∧ w1.1 m 5 = why ∧ w1.1 m 6 = left ∧ zGr law f (fun y => w.1 (m + 2) (3 + 10 * x + y)) (w1.1 (m + 4)) len ∧ zEn law f (w1.1 (m + 4)) len why left) := by
    intro N
    induction N with
    | zero => intro k M1 hk hF k4 k5 h6l hA hm; omega
    | succ N ih2 =>
      intro k M1 hk hF k4 k5 h6l hA hm
      have hsk : k < 8 → _ := fun h => hs k h
      have hFk : M1 (m + 2) (3 + 10 * x + k) = w.1 (m + 2) (3 + 10 * x + k) := congrFun (hF.2.1 (m + 2) (by omega) (by omega)) _
      refine jWp.blk mt 2 ?_
      show _ ∧ jWp 146 28 [some (jO m), some (jI (x : Int)), some (jI law), some (jI (k : Int)), none] [jO m, jI (k : Int)] 0 0 (M1, w.2) _
      refine ⟨rfl, ?_⟩
      refine jWp.getI (pc' := 31) mt rfl rfl (jtg hW.K0) ?_
      rw [show ((M1, w.2).1 m 4) = (zO law) from k4]
      show jWp 146 31 [some (jO m), some (jI (x : Int)), some (jI law), some (jI (k : Int)), none] [jI (zO law), jI (k : Int)] 0 0 (M1, w.2) _
      refine jWp.icmp (pc' := 34) mt rfl rfl (b32_id (by omega) (by omega)) (b32_id (by omega) (by omega)) (fun h3 => ?_) (fun h3 => ?_)
      · have h3 : (zO law) ≤ (k : Int) := h3
        have lp4 : ∀ (N : Nat) (len z : Nat) (M1 : Nat → Nat → Int) (hF : ztr w m (M1, w.2)) (k4 : M1 m 4 = (len : Int)) (hG : zGr law f (fun y => w.1 (m + 2) (3 + 10 * x + y)) (M1 (m + 4)) len) (hw : (z = 1 ∧ M1 m 5 = 0 ∧ M1 m 6 = 0) ∨ (z = 0 ∧ M1 m 5 = 1 ∧ len < 60 ∧ Int.tmod (zP law f (M1 (m + 4)) len) (zD law (M1 (m + 4)) len) ≠ 0 ∧ M1 m 6 = Int.tmod (zP law f (M1 (m + 4)) len) (zD law (M1 (m + 4)) len)) ∨ (z = 0 ∧ M1 m 5 = 2 ∧ len < 60 ∧ Int.tmod (zP law f (M1 (m + 4)) len) (zD law (M1 (m + 4)) len) = 0 ∧ ¬ (-100000000 ≤ Int.tdiv (zP law f (M1 (m + 4)) len) (zD law (M1 (m + 4)) len) ∧ Int.tdiv (zP law f (M1 (m + 4)) len) (zD law (M1 (m + 4)) len) ≤ 100000000) ∧ M1 m 6 = 0)), 2 * (60 - len) + z < N → jWp 146 60 [some (jO m), some (jI (x : Int)), some (jI law), none, none] [] 0 0 (M1, w.2) (fun v w1 => v = none ∧ ztr w m w1 ∧ ∃ (len : Nat) (why left : Int), w1.1 m 4 = (len : Int) ∧ w1.1 m 5 = why ∧ w1.1 m 6 = left ∧ zGr law f (fun y => w.1 (m + 2) (3 + 10 * x + y)) (w1.1 (m + 4)) len ∧ zEn law f (w1.1 (m + 4)) len why left) := by
          intro N
          induction N with
          | zero => intro len z M1 hF k4 hG hw hm; omega
          | succ N ih5 =>
            intro len z M1 hF k4 hG hw hm
            have hst := zGr_s hl0 hl6 hf hs hG
            have hl60 := hG.2.1
            have hlo := hG.1
            have hdm := zdm hst.1 hst.2
            refine jWp.blk mt 1 ?_
            show _ ∧ jWp 146 61 [some (jO m), some (jI (x : Int)), some (jI law), none, none] [jO m] 0 0 (M1, w.2) _
            refine ⟨rfl, ?_⟩
            refine jWp.getI (pc' := 64) mt rfl rfl (jtg hW.K0) ?_
            rw [show ((M1, w.2).1 m 4) = (len : Int) from k4]
            show jWp 146 64 [some (jO m), some (jI (x : Int)), some (jI law), none, none] [jI (len : Int)] 0 0 (M1, w.2) _
            refine jWp.blk mt 1 ?_
            show jWp 146 66 [some (jO m), some (jI (x : Int)), some (jI law), none, none] [jI 60, jI (len : Int)] 0 0 (M1, w.2) _
            refine jWp.icmp (pc' := 69) mt rfl rfl (b32_id (by omega) (by omega)) (show b32 60 = 60 by decide) (fun h6 => ?_) (fun h6 => ?_)
            · have h6 : 60 ≤ (len : Int) := h6
              refine jWp.blk mt 2 ?_
              show _ ∧ _ ∧ jWp 146 198 [some (jO m), some (jI (x : Int)), some (jI law), none, none] [jO m, jO m] 0 0 (M1, w.2) _
              refine ⟨rfl, rfl, ?_⟩
              refine jWp.getI (pc' := 201) mt rfl rfl (jtg hW.K0) ?_
              rw [show ((M1, w.2).1 m 5) = (M1 m 5) from rfl]
              show jWp 146 201 [some (jO m), some (jI (x : Int)), some (jI law), none, none] [jI (M1 m 5), jO m] 0 0 (M1, w.2) _
              refine jWp.blk mt 1 ?_
              show jWp 146 202 [some (jO m), some (jI (x : Int)), some (jI law), none, none] [jI 1, jI (M1 m 5), jO m] 0 0 (M1, w.2) _
              refine jWp.icmp (pc' := 205) mt rfl rfl (b32_id (by omega) (by omega)) (show b32 1 = 1 by decide) (fun h7 => ?_) (fun h7 => ?_)
              · have h7 : (M1 m 5) ≠ 1 := h7
                refine jWp.blk mt 1 ?_
                show jWp 146 213 [some (jO m), some (jI (x : Int)), some (jI law), none, none] [jJ 0, jO m] 0 0 (M1, w.2) _
                refine jWp.putJ (pc' := 216) mt rfl rfl (jtg hW.K0) ?_
                show jWp 146 216 [some (jO m), some (jI (x : Int)), some (jI law), none, none] [] 0 0 (jW (M1, w.2) m 6 0) _
                refine jWp.vret mt rfl ⟨rfl, rfl⟩ rfl ?_
                refine ⟨rfl, (⟨rfl, fun a ga gb => ((jW_f (by omega)).trans rfl).trans (hF.2.1 a ga gb), fun j gj => ((jW_k (by omega)).trans rfl).trans (hF.2.2 j gj)⟩ : ztr w m (jW (M1, w.2) m 6 0)), len, M1 m 5, 0, (((jW_k (by decide)).trans rfl)).trans k4, (((jW_k (by decide)).trans rfl)), (jW_s), ?_, ?_⟩
                · rw [show (jW (M1, w.2) m 6 0).1 (m + 4) = M1 (m + 4) from ((jW_f (by omega)).trans rfl)]
                  exact hG
                · rw [show (jW (M1, w.2) m 6 0).1 (m + 4) = M1 (m + 4) from ((jW_f (by omega)).trans rfl)]
                  rcases hw with ⟨g1, g2, g3⟩ | ⟨g1, g2, g3, g4, g5⟩ | ⟨g1, g2, g3, g4, g5, g6⟩
                  · exact Or.inl ⟨g2, by have := hG.2.1; omega, by omega⟩
                  · first
                    | exact Or.inr (Or.inl ⟨g2, g3, g4, g5⟩)
                    | (exfalso; omega)
                  · first
                    | exact Or.inr (Or.inr ⟨g2, g3, g4, g5, g6⟩)
                    | exact Or.inr (Or.inr ⟨g2, g3, g4, g5, rfl⟩)
                    | (exfalso; omega)
              · have h7 : (M1 m 5) = 1 := h7
                refine jWp.blk mt 1 ?_
                show _ ∧ jWp 146 206 [some (jO m), some (jI (x : Int)), some (jI law), none, none] [jO m, jO m] 0 0 (M1, w.2) _
                refine ⟨rfl, ?_⟩
                refine jWp.getJ (pc' := 209) mt rfl rfl (jtg hW.K0) ?_
                rw [show ((M1, w.2).1 m 6) = (M1 m 6) from rfl]
                show jWp 146 209 [some (jO m), some (jI (x : Int)), some (jI law), none, none] [jJ (M1 m 6), jO m] 0 0 (M1, w.2) _
                refine jWp.blk mt 1 ?_
                show jWp 146 213 [some (jO m), some (jI (x : Int)), some (jI law), none, none] [jJ (M1 m 6), jO m] 0 0 (M1, w.2) _
                refine jWp.putJ (pc' := 216) mt rfl rfl (jtg hW.K0) ?_
                show jWp 146 216 [some (jO m), some (jI (x : Int)), some (jI law), none, none] [] 0 0 (jW (M1, w.2) m 6 (M1 m 6)) _
                refine jWp.vret mt rfl ⟨rfl, rfl⟩ rfl ?_
                refine ⟨rfl, (⟨rfl, fun a ga gb => ((jW_f (by omega)).trans rfl).trans (hF.2.1 a ga gb), fun j gj => ((jW_k (by omega)).trans rfl).trans (hF.2.2 j gj)⟩ : ztr w m (jW (M1, w.2) m 6 (M1 m 6))), len, M1 m 5, M1 m 6, (((jW_k (by decide)).trans rfl)).trans k4, (((jW_k (by decide)).trans rfl)), (jW_s), ?_, ?_⟩
                · rw [show (jW (M1, w.2) m 6 (M1 m 6)).1 (m + 4) = M1 (m + 4) from ((jW_f (by omega)).trans rfl)]
                  exact hG
                · rw [show (jW (M1, w.2) m 6 (M1 m 6)).1 (m + 4) = M1 (m + 4) from ((jW_f (by omega)).trans rfl)]
                  rcases hw with ⟨g1, g2, g3⟩ | ⟨g1, g2, g3, g4, g5⟩ | ⟨g1, g2, g3, g4, g5, g6⟩
                  · exact Or.inl ⟨g2, by have := hG.2.1; omega, by omega⟩
                  · first
                    | exact Or.inr (Or.inl ⟨g2, g3, g4, g5⟩)
                    | (exfalso; omega)
                  · first
                    | exact Or.inr (Or.inr ⟨g2, g3, g4, g5, g6⟩)
                    | exact Or.inr (Or.inr ⟨g2, g3, g4, g5, rfl⟩)
                    | (exfalso; omega)
            · have h6 : (len : Int) < 60 := h6
              refine jWp.blk mt 1 ?_
              show _ ∧ jWp 146 70 [some (jO m), some (jI (x : Int)), some (jI law), none, none] [jO m] 0 0 (M1, w.2) _
              refine ⟨rfl, ?_⟩
              refine jWp.getI (pc' := 73) mt rfl rfl (jtg hW.K0) ?_
              rw [show ((M1, w.2).1 m 5) = (M1 m 5) from rfl]
              show jWp 146 73 [some (jO m), some (jI (x : Int)), some (jI law), none, none] [jI (M1 m 5)] 0 0 (M1, w.2) _
              refine jWp.ifz (pc' := 76) mt rfl rfl (b32_id (by omega) (by omega)) (fun h8 => ?_) (fun h8 => ?_)
              · have h8 : (M1 m 5) ≠ 0 := h8
                refine jWp.blk mt 2 ?_
                show _ ∧ _ ∧ jWp 146 198 [some (jO m), some (jI (x : Int)), some (jI law), none, none] [jO m, jO m] 0 0 (M1, w.2) _
                refine ⟨rfl, rfl, ?_⟩
                refine jWp.getI (pc' := 201) mt rfl rfl (jtg hW.K0) ?_
                rw [show ((M1, w.2).1 m 5) = (M1 m 5) from rfl]
                show jWp 146 201 [some (jO m), some (jI (x : Int)), some (jI law), none, none] [jI (M1 m 5), jO m] 0 0 (M1, w.2) _
                refine jWp.blk mt 1 ?_
                show jWp 146 202 [some (jO m), some (jI (x : Int)), some (jI law), none, none] [jI 1, jI (M1 m 5), jO m] 0 0 (M1, w.2) _
                refine jWp.icmp (pc' := 205) mt rfl rfl (b32_id (by omega) (by omega)) (show b32 1 = 1 by decide) (fun h9 => ?_) (fun h9 => ?_)
                · have h9 : (M1 m 5) ≠ 1 := h9
                  refine jWp.blk mt 1 ?_
                  show jWp 146 213 [some (jO m), some (jI (x : Int)), some (jI law), none, none] [jJ 0, jO m] 0 0 (M1, w.2) _
                  refine jWp.putJ (pc' := 216) mt rfl rfl (jtg hW.K0) ?_
                  show jWp 146 216 [some (jO m), some (jI (x : Int)), some (jI law), none, none] [] 0 0 (jW (M1, w.2) m 6 0) _
                  refine jWp.vret mt rfl ⟨rfl, rfl⟩ rfl ?_
                  refine ⟨rfl, (⟨rfl, fun a ga gb => ((jW_f (by omega)).trans rfl).trans (hF.2.1 a ga gb), fun j gj => ((jW_k (by omega)).trans rfl).trans (hF.2.2 j gj)⟩ : ztr w m (jW (M1, w.2) m 6 0)), len, M1 m 5, 0, (((jW_k (by decide)).trans rfl)).trans k4, (((jW_k (by decide)).trans rfl)), (jW_s), ?_, ?_⟩
                  · rw [show (jW (M1, w.2) m 6 0).1 (m + 4) = M1 (m + 4) from ((jW_f (by omega)).trans rfl)]
                    exact hG
                  · rw [show (jW (M1, w.2) m 6 0).1 (m + 4) = M1 (m + 4) from ((jW_f (by omega)).trans rfl)]
                    rcases hw with ⟨g1, g2, g3⟩ | ⟨g1, g2, g3, g4, g5⟩ | ⟨g1, g2, g3, g4, g5, g6⟩
                    · exact Or.inl ⟨g2, by have := hG.2.1; omega, by omega⟩
                    · first
                      | exact Or.inr (Or.inl ⟨g2, g3, g4, g5⟩)
                      | (exfalso; omega)
                    · first
                      | exact Or.inr (Or.inr ⟨g2, g3, g4, g5, g6⟩)
                      | exact Or.inr (Or.inr ⟨g2, g3, g4, g5, rfl⟩)
                      | (exfalso; omega)
                · have h9 : (M1 m 5) = 1 := h9
                  refine jWp.blk mt 1 ?_
                  show _ ∧ jWp 146 206 [some (jO m), some (jI (x : Int)), some (jI law), none, none] [jO m, jO m] 0 0 (M1, w.2) _
                  refine ⟨rfl, ?_⟩
                  refine jWp.getJ (pc' := 209) mt rfl rfl (jtg hW.K0) ?_
                  rw [show ((M1, w.2).1 m 6) = (M1 m 6) from rfl]
                  show jWp 146 209 [some (jO m), some (jI (x : Int)), some (jI law), none, none] [jJ (M1 m 6), jO m] 0 0 (M1, w.2) _
                  refine jWp.blk mt 1 ?_
                  show jWp 146 213 [some (jO m), some (jI (x : Int)), some (jI law), none, none] [jJ (M1 m 6), jO m] 0 0 (M1, w.2) _
                  refine jWp.putJ (pc' := 216) mt rfl rfl (jtg hW.K0) ?_
                  show jWp 146 216 [some (jO m), some (jI (x : Int)), some (jI law), none, none] [] 0 0 (jW (M1, w.2) m 6 (M1 m 6)) _
                  refine jWp.vret mt rfl ⟨rfl, rfl⟩ rfl ?_
                  refine ⟨rfl, (⟨rfl, fun a ga gb => ((jW_f (by omega)).trans rfl).trans (hF.2.1 a ga gb), fun j gj => ((jW_k (by omega)).trans rfl).trans (hF.2.2 j gj)⟩ : ztr w m (jW (M1, w.2) m 6 (M1 m 6))), len, M1 m 5, M1 m 6, (((jW_k (by decide)).trans rfl)).trans k4, (((jW_k (by decide)).trans rfl)), (jW_s), ?_, ?_⟩
                  · rw [show (jW (M1, w.2) m 6 (M1 m 6)).1 (m + 4) = M1 (m + 4) from ((jW_f (by omega)).trans rfl)]
                    exact hG
                  · rw [show (jW (M1, w.2) m 6 (M1 m 6)).1 (m + 4) = M1 (m + 4) from ((jW_f (by omega)).trans rfl)]
                    rcases hw with ⟨g1, g2, g3⟩ | ⟨g1, g2, g3, g4, g5⟩ | ⟨g1, g2, g3, g4, g5, g6⟩
                    · exact Or.inl ⟨g2, by have := hG.2.1; omega, by omega⟩
                    · first
                      | exact Or.inr (Or.inl ⟨g2, g3, g4, g5⟩)
                      | (exfalso; omega)
                    · first
                      | exact Or.inr (Or.inr ⟨g2, g3, g4, g5, g6⟩)
                      | exact Or.inr (Or.inr ⟨g2, g3, g4, g5, rfl⟩)
                      | (exfalso; omega)
              · have h8 : (M1 m 5) = 0 := h8
                refine jWp.blk mt 1 ?_
                show _ ∧ jWp 146 77 [some (jO m), some (jI (x : Int)), some (jI law), none, none] [jO m] 0 0 (M1, w.2) _
                refine ⟨rfl, ?_⟩
                refine jWp.getR (pc' := 80) (o := (m + 4)) mt rfl rfl (jtg hW.K0) hW.R3 ?_
                show jWp 146 80 [some (jO m), some (jI (x : Int)), some (jI law), none, none] [jO (m + 4)] 0 0 (M1, w.2) _
                refine jWp.blk mt 3 ?_
                show _ ∧ jWp 146 83 [some (jO m), some (jI (x : Int)), some (jI law), none, none] [jI (x : Int), jO m, jI law, jO (m + 4)] 0 0 (M1, w.2) _
                refine ⟨rfl, ?_⟩
                refine jWp.callv (as := [jO m, jI (x : Int)]) (rest := [jI law, jO (m + 4)]) mt rfl rfl rfl ⟨rfl, jtg hW.K0⟩ ?_
                refine jCall.mono ((by have h := E_figure (w := (M1, w.2)) (x := x) hW hx; rw [show ((M1, w.2) : jS).1 (m + 2) (2 + 10 * x) = f from (congrFun (hF.2.1 (m + 2) (by omega) (by omega)) _).trans hfig] at h; exact h)) (fun v9 w9 h9 => ?_)
                obtain ⟨rfl, h9⟩ := h9
                subst w9
                show jWp 146 86 [some (jO m), some (jI (x : Int)), some (jI law), none, none] [jI f, jI law, jO (m + 4)] 0 0 (M1, w.2) _
                refine jWp.i2l (pc' := 87) mt rfl rfl (b32_id (by omega) (by omega)) ?_
                show jWp 146 87 [some (jO m), some (jI (x : Int)), some (jI law), none, none] [jJ f, jI law, jO (m + 4)] 0 0 (M1, w.2) _
                refine jWp.blk mt 1 ?_
                show _ ∧ jWp 146 88 [some (jO m), some (jI (x : Int)), some (jI law), none, none] [jO m, jJ f, jI law, jO (m + 4)] 0 0 (M1, w.2) _
                refine ⟨rfl, ?_⟩
                refine jWp.getI (pc' := 91) mt rfl rfl (jtg hW.K0) ?_
                rw [show ((M1, w.2).1 m 4) = (len : Int) from k4]
                show jWp 146 91 [some (jO m), some (jI (x : Int)), some (jI law), none, none] [jI (len : Int), jJ f, jI law, jO (m + 4)] 0 0 (M1, w.2) _
                refine jWp.calls (as := [jO (m + 4), jI law, jJ f, jI (len : Int)]) (rest := []) mt rfl rfl rfl rfl ?_
                refine jCall.mono (E_above (w := (M1, w.2)) (a := m + 4) (n := len) (len := 60) hW.K4 hl0 hl6 hG.1 (by omega) (by omega)) (fun v9 w9 h9 => ?_)
                obtain ⟨rfl, h9⟩ := h9
                subst w9
                show jWp 146 94 [some (jO m), some (jI (x : Int)), some (jI law), none, none] [jJ (zP law f (M1 (m + 4)) len)] 0 0 (M1, w.2) _
                refine jWp.blk mt 3 ?_
                show _ ∧ _ ∧ jWp 146 97 [some (jO m), some (jI (x : Int)), some (jI law), some (jJ (zP law f (M1 (m + 4)) len)), none] [jO m, jO m] 0 0 (M1, w.2) _
                refine ⟨rfl, rfl, ?_⟩
                refine jWp.getR (pc' := 100) (o := (m + 4)) mt rfl rfl (jtg hW.K0) hW.R3 ?_
                show jWp 146 100 [some (jO m), some (jI (x : Int)), some (jI law), some (jJ (zP law f (M1 (m + 4)) len)), none] [jO (m + 4), jO m] 0 0 (M1, w.2) _
                refine jWp.blk mt 2 ?_
                show _ ∧ jWp 146 102 [some (jO m), some (jI (x : Int)), some (jI law), some (jJ (zP law f (M1 (m + 4)) len)), none] [jO m, jI law, jO (m + 4), jO m] 0 0 (M1, w.2) _
                refine ⟨rfl, ?_⟩
                refine jWp.getI (pc' := 105) mt rfl rfl (jtg hW.K0) ?_
                rw [show ((M1, w.2).1 m 4) = (len : Int) from k4]
                show jWp 146 105 [some (jO m), some (jI (x : Int)), some (jI law), some (jJ (zP law f (M1 (m + 4)) len)), none] [jI (len : Int), jI law, jO (m + 4), jO m] 0 0 (M1, w.2) _
                refine jWp.calls (as := [jO (m + 4), jI law, jI (len : Int)]) (rest := [jO m]) mt rfl rfl rfl rfl ?_
                refine jCall.mono (E_below (w := (M1, w.2)) (a := m + 4) (n := len) (len := 60) hW.K4 hl0 hl6 hG.1 (by omega) (by omega)) (fun v9 w9 h9 => ?_)
                obtain ⟨rfl, h9⟩ := h9
                subst w9
                show jWp 146 108 [some (jO m), some (jI (x : Int)), some (jI law), some (jJ (zP law f (M1 (m + 4)) len)), none] [jJ (zD law (M1 (m + 4)) len), jO m] 0 0 (M1, w.2) _
                refine jWp.putJ (pc' := 111) mt rfl rfl (jtg hW.K0) ?_
                show jWp 146 111 [some (jO m), some (jI (x : Int)), some (jI law), some (jJ (zP law f (M1 (m + 4)) len)), none] [] 0 0 (jW (M1, w.2) m 7 (zD law (M1 (m + 4)) len)) _
                refine jWp.blk mt 3 ?_
                show _ ∧ _ ∧ jWp 146 114 [some (jO m), some (jI (x : Int)), some (jI law), some (jJ (zP law f (M1 (m + 4)) len)), none] [jO m, jJ (zP law f (M1 (m + 4)) len), jO m] 0 0 (jW (M1, w.2) m 7 (zD law (M1 (m + 4)) len)) _
                refine ⟨rfl, rfl, ?_⟩
                refine jWp.getJ (pc' := 117) mt rfl rfl (jtg hW.K0) ?_
                rw [show ((jW (M1, w.2) m 7 (zD law (M1 (m + 4)) len)).1 m 7) = (zD law (M1 (m + 4)) len) from jW_s]
                show jWp 146 117 [some (jO m), some (jI (x : Int)), some (jI law), some (jJ (zP law f (M1 (m + 4)) len)), none] [jJ (zD law (M1 (m + 4)) len), jJ (zP law f (M1 (m + 4)) len), jO m] 0 0 (jW (M1, w.2) m 7 (zD law (M1 (m + 4)) len)) _
                refine jWp.lrem (pc' := 118) mt rfl rfl (b64_id (by omega) (by omega)) (b64_id (by omega) (by omega)) (by omega) ?_
                show jWp 146 118 [some (jO m), some (jI (x : Int)), some (jI law), some (jJ (zP law f (M1 (m + 4)) len)), none] [jJ (Int.tmod (zP law f (M1 (m + 4)) len) (zD law (M1 (m + 4)) len)), jO m] 0 0 (jW (M1, w.2) m 7 (zD law (M1 (m + 4)) len)) _
                refine jWp.putJ (pc' := 121) mt rfl rfl (jtg hW.K0) ?_
                show jWp 146 121 [some (jO m), some (jI (x : Int)), some (jI law), some (jJ (zP law f (M1 (m + 4)) len)), none] [] 0 0 (jW (jW (M1, w.2) m 7 (zD law (M1 (m + 4)) len)) m 6 (Int.tmod (zP law f (M1 (m + 4)) len) (zD law (M1 (m + 4)) len))) _
                refine jWp.blk mt 2 ?_
                show _ ∧ _ ∧ jWp 146 123 [some (jO m), some (jI (x : Int)), some (jI law), some (jJ (zP law f (M1 (m + 4)) len)), none] [jO m, jO m] 0 0 (jW (jW (M1, w.2) m 7 (zD law (M1 (m + 4)) len)) m 6 (Int.tmod (zP law f (M1 (m + 4)) len) (zD law (M1 (m + 4)) len))) _
                refine ⟨rfl, rfl, ?_⟩
                refine jWp.getJ (pc' := 126) mt rfl rfl (jtg hW.K0) ?_
                rw [show ((jW (jW (M1, w.2) m 7 (zD law (M1 (m + 4)) len)) m 6 (Int.tmod (zP law f (M1 (m + 4)) len) (zD law (M1 (m + 4)) len))).1 m 6) = (Int.tmod (zP law f (M1 (m + 4)) len) (zD law (M1 (m + 4)) len)) from jW_s]
                show jWp 146 126 [some (jO m), some (jI (x : Int)), some (jI law), some (jJ (zP law f (M1 (m + 4)) len)), none] [jJ (Int.tmod (zP law f (M1 (m + 4)) len) (zD law (M1 (m + 4)) len)), jO m] 0 0 (jW (jW (M1, w.2) m 7 (zD law (M1 (m + 4)) len)) m 6 (Int.tmod (zP law f (M1 (m + 4)) len) (zD law (M1 (m + 4)) len))) _
                refine jWp.blk mt 1 ?_
                show jWp 146 127 [some (jO m), some (jI (x : Int)), some (jI law), some (jJ (zP law f (M1 (m + 4)) len)), none] [jJ 0, jJ (Int.tmod (zP law f (M1 (m + 4)) len) (zD law (M1 (m + 4)) len)), jO m] 0 0 (jW (jW (M1, w.2) m 7 (zD law (M1 (m + 4)) len)) m 6 (Int.tmod (zP law f (M1 (m + 4)) len) (zD law (M1 (m + 4)) len))) _
                refine jWp.lcmp (pc' := 131) mt rfl rfl rfl (b64_id (by omega) (by omega)) (show b64 0 = 0 by decide) (fun h10 => ?_) (fun h10 => ?_)
                · have h10 : (Int.tmod (zP law f (M1 (m + 4)) len) (zD law (M1 (m + 4)) len)) = 0 := h10
                  refine jWp.blk mt 2 ?_
                  show _ ∧ jWp 146 137 [some (jO m), some (jI (x : Int)), some (jI law), some (jJ (zP law f (M1 (m + 4)) len)), none] [jO m, jJ (zP law f (M1 (m + 4)) len), jO m] 0 0 (jW (jW (M1, w.2) m 7 (zD law (M1 (m + 4)) len)) m 6 (Int.tmod (zP law f (M1 (m + 4)) len) (zD law (M1 (m + 4)) len))) _
                  refine ⟨rfl, ?_⟩
                  refine jWp.getJ (pc' := 140) mt rfl rfl (jtg hW.K0) ?_
                  rw [show ((jW (jW (M1, w.2) m 7 (zD law (M1 (m + 4)) len)) m 6 (Int.tmod (zP law f (M1 (m + 4)) len) (zD law (M1 (m + 4)) len))).1 m 7) = (zD law (M1 (m + 4)) len) from ((jW_k (by decide)).trans jW_s)]
                  show jWp 146 140 [some (jO m), some (jI (x : Int)), some (jI law), some (jJ (zP law f (M1 (m + 4)) len)), none] [jJ (zD law (M1 (m + 4)) len), jJ (zP law f (M1 (m + 4)) len), jO m] 0 0 (jW (jW (M1, w.2) m 7 (zD law (M1 (m + 4)) len)) m 6 (Int.tmod (zP law f (M1 (m + 4)) len) (zD law (M1 (m + 4)) len))) _
                  refine jWp.ldiv (pc' := 141) mt rfl rfl (b64_id (by omega) (by omega)) (b64_id (by omega) (by omega)) (by omega) ?_
                  show jWp 146 141 [some (jO m), some (jI (x : Int)), some (jI law), some (jJ (zP law f (M1 (m + 4)) len)), none] [jJ (Int.tdiv (zP law f (M1 (m + 4)) len) (zD law (M1 (m + 4)) len)), jO m] 0 0 (jW (jW (M1, w.2) m 7 (zD law (M1 (m + 4)) len)) m 6 (Int.tmod (zP law f (M1 (m + 4)) len) (zD law (M1 (m + 4)) len))) _
                  refine jWp.blk mt 2 ?_
                  show jWp 146 147 [some (jO m), some (jI (x : Int)), some (jI law), some (jJ (zP law f (M1 (m + 4)) len)), none] [jJ 100000000, jJ (-100000000), jJ (Int.tdiv (zP law f (M1 (m + 4)) len) (zD law (M1 (m + 4)) len)), jO m] 0 0 (jW (jW (M1, w.2) m 7 (zD law (M1 (m + 4)) len)) m 6 (Int.tmod (zP law f (M1 (m + 4)) len) (zD law (M1 (m + 4)) len))) _
                  refine jWp.calls (as := [jJ (Int.tdiv (zP law f (M1 (m + 4)) len) (zD law (M1 (m + 4)) len)), jJ (-100000000), jJ 100000000]) (rest := [jO m]) mt rfl rfl rfl rfl ?_
                  refine jCall.mono (E_in (b64_id (by omega) (by omega)) (show b64 (-100000000) = (-100000000) by decide) (show b64 100000000 = 100000000 by decide)) (fun v9 w9 h9 => ?_)
                  rcases h9 with ⟨rfl, h9, h11⟩ | ⟨rfl, h9, h11⟩ <;> subst w9
                  · have h11 : (-100000000) ≤ (Int.tdiv (zP law f (M1 (m + 4)) len) (zD law (M1 (m + 4)) len)) ∧ (Int.tdiv (zP law f (M1 (m + 4)) len) (zD law (M1 (m + 4)) len)) ≤ 100000000 := h11
                    show jWp 146 150 [some (jO m), some (jI (x : Int)), some (jI law), some (jJ (zP law f (M1 (m + 4)) len)), none] [jI 1, jO m] 0 0 (jW (jW (M1, w.2) m 7 (zD law (M1 (m + 4)) len)) m 6 (Int.tmod (zP law f (M1 (m + 4)) len) (zD law (M1 (m + 4)) len))) _
                    refine jWp.ifc (b := false) mt rfl (by decide) rfl ?_
                    show jWp 146 153 [some (jO m), some (jI (x : Int)), some (jI law), some (jJ (zP law f (M1 (m + 4)) len)), none] [jO m] 0 0 (jW (jW (M1, w.2) m 7 (zD law (M1 (m + 4)) len)) m 6 (Int.tmod (zP law f (M1 (m + 4)) len) (zD law (M1 (m + 4)) len))) _
                    refine jWp.blk mt 2 ?_
                    show jWp 146 158 [some (jO m), some (jI (x : Int)), some (jI law), some (jJ (zP law f (M1 (m + 4)) len)), none] [jI 0, jO m] 0 0 (jW (jW (M1, w.2) m 7 (zD law (M1 (m + 4)) len)) m 6 (Int.tmod (zP law f (M1 (m + 4)) len) (zD law (M1 (m + 4)) len))) _
                    refine jWp.putI (pc' := 161) mt rfl rfl (jtg hW.K0) ?_
                    show jWp 146 161 [some (jO m), some (jI (x : Int)), some (jI law), some (jJ (zP law f (M1 (m + 4)) len)), none] [] 0 0 (jW (jW (jW (M1, w.2) m 7 (zD law (M1 (m + 4)) len)) m 6 (Int.tmod (zP law f (M1 (m + 4)) len) (zD law (M1 (m + 4)) len))) m 5 0) _
                    refine jWp.blk mt 1 ?_
                    show _ ∧ jWp 146 162 [some (jO m), some (jI (x : Int)), some (jI law), some (jJ (zP law f (M1 (m + 4)) len)), none] [jO m] 0 0 (jW (jW (jW (M1, w.2) m 7 (zD law (M1 (m + 4)) len)) m 6 (Int.tmod (zP law f (M1 (m + 4)) len) (zD law (M1 (m + 4)) len))) m 5 0) _
                    refine ⟨rfl, ?_⟩
                    refine jWp.getI (pc' := 165) mt rfl rfl (jtg hW.K0) ?_
                    rw [show ((jW (jW (jW (M1, w.2) m 7 (zD law (M1 (m + 4)) len)) m 6 (Int.tmod (zP law f (M1 (m + 4)) len) (zD law (M1 (m + 4)) len))) m 5 0).1 m 5) = 0 from jW_s]
                    show jWp 146 165 [some (jO m), some (jI (x : Int)), some (jI law), some (jJ (zP law f (M1 (m + 4)) len)), none] [jI 0] 0 0 (jW (jW (jW (M1, w.2) m 7 (zD law (M1 (m + 4)) len)) m 6 (Int.tmod (zP law f (M1 (m + 4)) len) (zD law (M1 (m + 4)) len))) m 5 0) _
                    refine jWp.ifc (b := false) mt rfl (by decide) rfl ?_
                    show jWp 146 168 [some (jO m), some (jI (x : Int)), some (jI law), some (jJ (zP law f (M1 (m + 4)) len)), none] [] 0 0 (jW (jW (jW (M1, w.2) m 7 (zD law (M1 (m + 4)) len)) m 6 (Int.tmod (zP law f (M1 (m + 4)) len) (zD law (M1 (m + 4)) len))) m 5 0) _
                    refine jWp.blk mt 1 ?_
                    show _ ∧ jWp 146 169 [some (jO m), some (jI (x : Int)), some (jI law), some (jJ (zP law f (M1 (m + 4)) len)), none] [jO m] 0 0 (jW (jW (jW (M1, w.2) m 7 (zD law (M1 (m + 4)) len)) m 6 (Int.tmod (zP law f (M1 (m + 4)) len) (zD law (M1 (m + 4)) len))) m 5 0) _
                    refine ⟨rfl, ?_⟩
                    refine jWp.getR (pc' := 172) (o := (m + 4)) mt rfl rfl (jtg hW.K0) hW.R3 ?_
                    show jWp 146 172 [some (jO m), some (jI (x : Int)), some (jI law), some (jJ (zP law f (M1 (m + 4)) len)), none] [jO (m + 4)] 0 0 (jW (jW (jW (M1, w.2) m 7 (zD law (M1 (m + 4)) len)) m 6 (Int.tmod (zP law f (M1 (m + 4)) len) (zD law (M1 (m + 4)) len))) m 5 0) _
                    refine jWp.blk mt 1 ?_
                    show _ ∧ jWp 146 173 [some (jO m), some (jI (x : Int)), some (jI law), some (jJ (zP law f (M1 (m + 4)) len)), none] [jO m, jO (m + 4)] 0 0 (jW (jW (jW (M1, w.2) m 7 (zD law (M1 (m + 4)) len)) m 6 (Int.tmod (zP law f (M1 (m + 4)) len) (zD law (M1 (m + 4)) len))) m 5 0) _
                    refine ⟨rfl, ?_⟩
                    refine jWp.getI (pc' := 176) mt rfl rfl (jtg hW.K0) ?_
                    rw [show ((jW (jW (jW (M1, w.2) m 7 (zD law (M1 (m + 4)) len)) m 6 (Int.tmod (zP law f (M1 (m + 4)) len) (zD law (M1 (m + 4)) len))) m 5 0).1 m 4) = (len : Int) from (((jW_k (by decide)).trans ((jW_k (by decide)).trans ((jW_k (by decide)).trans rfl))).trans k4)]
                    show jWp 146 176 [some (jO m), some (jI (x : Int)), some (jI law), some (jJ (zP law f (M1 (m + 4)) len)), none] [jI (len : Int), jO (m + 4)] 0 0 (jW (jW (jW (M1, w.2) m 7 (zD law (M1 (m + 4)) len)) m 6 (Int.tmod (zP law f (M1 (m + 4)) len) (zD law (M1 (m + 4)) len))) m 5 0) _
                    refine jWp.blk mt 2 ?_
                    show _ ∧ jWp 146 178 [some (jO m), some (jI (x : Int)), some (jI law), some (jJ (zP law f (M1 (m + 4)) len)), none] [jO m, jJ (zP law f (M1 (m + 4)) len), jI (len : Int), jO (m + 4)] 0 0 (jW (jW (jW (M1, w.2) m 7 (zD law (M1 (m + 4)) len)) m 6 (Int.tmod (zP law f (M1 (m + 4)) len) (zD law (M1 (m + 4)) len))) m 5 0) _
                    refine ⟨rfl, ?_⟩
                    refine jWp.getJ (pc' := 181) mt rfl rfl (jtg hW.K0) ?_
                    rw [show ((jW (jW (jW (M1, w.2) m 7 (zD law (M1 (m + 4)) len)) m 6 (Int.tmod (zP law f (M1 (m + 4)) len) (zD law (M1 (m + 4)) len))) m 5 0).1 m 7) = (zD law (M1 (m + 4)) len) from ((jW_k (by decide)).trans ((jW_k (by decide)).trans jW_s))]
                    show jWp 146 181 [some (jO m), some (jI (x : Int)), some (jI law), some (jJ (zP law f (M1 (m + 4)) len)), none] [jJ (zD law (M1 (m + 4)) len), jJ (zP law f (M1 (m + 4)) len), jI (len : Int), jO (m + 4)] 0 0 (jW (jW (jW (M1, w.2) m 7 (zD law (M1 (m + 4)) len)) m 6 (Int.tmod (zP law f (M1 (m + 4)) len) (zD law (M1 (m + 4)) len))) m 5 0) _
                    refine jWp.ldiv (pc' := 182) mt rfl rfl (b64_id (by omega) (by omega)) (b64_id (by omega) (by omega)) (by omega) ?_
                    show jWp 146 182 [some (jO m), some (jI (x : Int)), some (jI law), some (jJ (zP law f (M1 (m + 4)) len)), none] [jJ (Int.tdiv (zP law f (M1 (m + 4)) len) (zD law (M1 (m + 4)) len)), jI (len : Int), jO (m + 4)] 0 0 (jW (jW (jW (M1, w.2) m 7 (zD law (M1 (m + 4)) len)) m 6 (Int.tmod (zP law f (M1 (m + 4)) len) (zD law (M1 (m + 4)) len))) m 5 0) _
                    refine jWp.last (pc' := 183) (j := len) mt rfl rfl (jtg hW.K4) (b32_id (by omega) (by omega)) (jlt hW.K4 (by omega)) ?_
                    show jWp 146 183 [some (jO m), some (jI (x : Int)), some (jI law), some (jJ (zP law f (M1 (m + 4)) len)), none] [] 0 0 (jW (jW (jW (jW (M1, w.2) m 7 (zD law (M1 (m + 4)) len)) m 6 (Int.tmod (zP law f (M1 (m + 4)) len) (zD law (M1 (m + 4)) len))) m 5 0) (m + 4) len (Int.tdiv (zP law f (M1 (m + 4)) len) (zD law (M1 (m + 4)) len))) _
                    refine jWp.blk mt 2 ?_
                    show _ ∧ _ ∧ jWp 146 185 [some (jO m), some (jI (x : Int)), some (jI law), some (jJ (zP law f (M1 (m + 4)) len)), none] [jO m, jO m] 0 0 (jW (jW (jW (jW (M1, w.2) m 7 (zD law (M1 (m + 4)) len)) m 6 (Int.tmod (zP law f (M1 (m + 4)) len) (zD law (M1 (m + 4)) len))) m 5 0) (m + 4) len (Int.tdiv (zP law f (M1 (m + 4)) len) (zD law (M1 (m + 4)) len))) _
                    refine ⟨rfl, rfl, ?_⟩
                    refine jWp.getI (pc' := 188) mt rfl rfl (jtg hW.K0) ?_
                    rw [show ((jW (jW (jW (jW (M1, w.2) m 7 (zD law (M1 (m + 4)) len)) m 6 (Int.tmod (zP law f (M1 (m + 4)) len) (zD law (M1 (m + 4)) len))) m 5 0) (m + 4) len (Int.tdiv (zP law f (M1 (m + 4)) len) (zD law (M1 (m + 4)) len))).1 m 4) = (len : Int) from (((jW_a (by omega)).trans ((jW_k (by decide)).trans ((jW_k (by decide)).trans ((jW_k (by decide)).trans rfl)))).trans k4)]
                    show jWp 146 188 [some (jO m), some (jI (x : Int)), some (jI law), some (jJ (zP law f (M1 (m + 4)) len)), none] [jI (len : Int), jO m] 0 0 (jW (jW (jW (jW (M1, w.2) m 7 (zD law (M1 (m + 4)) len)) m 6 (Int.tmod (zP law f (M1 (m + 4)) len) (zD law (M1 (m + 4)) len))) m 5 0) (m + 4) len (Int.tdiv (zP law f (M1 (m + 4)) len) (zD law (M1 (m + 4)) len))) _
                    refine jWp.blk mt 2 ?_
                    show jWp 146 190 [some (jO m), some (jI (x : Int)), some (jI law), some (jJ (zP law f (M1 (m + 4)) len)), none] [jI ((len : Int) + 1), jO m] 0 0 (jW (jW (jW (jW (M1, w.2) m 7 (zD law (M1 (m + 4)) len)) m 6 (Int.tmod (zP law f (M1 (m + 4)) len) (zD law (M1 (m + 4)) len))) m 5 0) (m + 4) len (Int.tdiv (zP law f (M1 (m + 4)) len) (zD law (M1 (m + 4)) len))) _
                    refine jWp.putI (pc' := 193) mt rfl rfl (jtg hW.K0) ?_
                    show jWp 146 193 [some (jO m), some (jI (x : Int)), some (jI law), some (jJ (zP law f (M1 (m + 4)) len)), none] [] 0 0 (jW (jW (jW (jW (jW (M1, w.2) m 7 (zD law (M1 (m + 4)) len)) m 6 (Int.tmod (zP law f (M1 (m + 4)) len) (zD law (M1 (m + 4)) len))) m 5 0) (m + 4) len (Int.tdiv (zP law f (M1 (m + 4)) len) (zD law (M1 (m + 4)) len))) m 4 ((len : Int) + 1)) _
                    refine jWp.blk mt 1 ?_
                    show jWp 146 60 [some (jO m), some (jI (x : Int)), some (jI law), some (jJ (zP law f (M1 (m + 4)) len)), none] [] 0 0 (jW (jW (jW (jW (jW (M1, w.2) m 7 (zD law (M1 (m + 4)) len)) m 6 (Int.tmod (zP law f (M1 (m + 4)) len) (zD law (M1 (m + 4)) len))) m 5 0) (m + 4) len (Int.tdiv (zP law f (M1 (m + 4)) len) (zD law (M1 (m + 4)) len))) m 4 ((len : Int) + 1)) _
                    refine jWp.le (l := [some (jO m), some (jI (x : Int)), some (jI law), none, none]) (by exact ⟨rfl, rfl, rfl, trivial⟩) ?_
                    exact ih5 (len + 1) 1 (jW (jW (jW (jW (jW (M1, w.2) m 7 (zD law (M1 (m + 4)) len)) m 6 (Int.tmod (zP law f (M1 (m + 4)) len) (zD law (M1 (m + 4)) len))) m 5 0) (m + 4) len (Int.tdiv (zP law f (M1 (m + 4)) len) (zD law (M1 (m + 4)) len))) m 4 ((len : Int) + 1)).1 (⟨rfl, fun a ga gb => ((jW_f (by omega)).trans ((jW_f (by omega)).trans ((jW_f (by omega)).trans ((jW_f (by omega)).trans ((jW_f (by omega)).trans rfl))))).trans (hF.2.1 a ga gb), fun j gj => ((jW_k (by omega)).trans ((jW_a (by omega)).trans ((jW_k (by omega)).trans ((jW_k (by omega)).trans ((jW_k (by omega)).trans rfl))))).trans (hF.2.2 j gj)⟩ : ztr w m (jW (jW (jW (jW (jW (M1, w.2) m 7 (zD law (M1 (m + 4)) len)) m 6 (Int.tmod (zP law f (M1 (m + 4)) len) (zD law (M1 (m + 4)) len))) m 5 0) (m + 4) len (Int.tdiv (zP law f (M1 (m + 4)) len) (zD law (M1 (m + 4)) len))) m 4 ((len : Int) + 1))) ((jW_s).trans (by omega)) (zGr_n hl0 hl6 hG (by omega) (by omega) (by assumption) (((jW_a (by omega)).trans jW_s)) (fun j hj => ((jW_a (by omega)).trans ((jW_k (by omega)).trans ((jW_a (by omega)).trans ((jW_a (by omega)).trans ((jW_a (by omega)).trans rfl))))))) (Or.inl ⟨rfl, (((jW_k (by decide)).trans ((jW_a (by omega)).trans jW_s))), (((jW_k (by decide)).trans ((jW_a (by omega)).trans ((jW_k (by decide)).trans jW_s)))).trans (by omega)⟩) (by omega)
                  · have h11 : ¬ ((-100000000) ≤ (Int.tdiv (zP law f (M1 (m + 4)) len) (zD law (M1 (m + 4)) len)) ∧ (Int.tdiv (zP law f (M1 (m + 4)) len) (zD law (M1 (m + 4)) len)) ≤ 100000000) := h11
                    show jWp 146 150 [some (jO m), some (jI (x : Int)), some (jI law), some (jJ (zP law f (M1 (m + 4)) len)), none] [jI 0, jO m] 0 0 (jW (jW (M1, w.2) m 7 (zD law (M1 (m + 4)) len)) m 6 (Int.tmod (zP law f (M1 (m + 4)) len) (zD law (M1 (m + 4)) len))) _
                    refine jWp.ifc (b := true) mt rfl (by decide) rfl ?_
                    show jWp 146 157 [some (jO m), some (jI (x : Int)), some (jI law), some (jJ (zP law f (M1 (m + 4)) len)), none] [jO m] 0 0 (jW (jW (M1, w.2) m 7 (zD law (M1 (m + 4)) len)) m 6 (Int.tmod (zP law f (M1 (m + 4)) len) (zD law (M1 (m + 4)) len))) _
                    refine jWp.blk mt 1 ?_
                    show jWp 146 158 [some (jO m), some (jI (x : Int)), some (jI law), some (jJ (zP law f (M1 (m + 4)) len)), none] [jI 2, jO m] 0 0 (jW (jW (M1, w.2) m 7 (zD law (M1 (m + 4)) len)) m 6 (Int.tmod (zP law f (M1 (m + 4)) len) (zD law (M1 (m + 4)) len))) _
                    refine jWp.putI (pc' := 161) mt rfl rfl (jtg hW.K0) ?_
                    show jWp 146 161 [some (jO m), some (jI (x : Int)), some (jI law), some (jJ (zP law f (M1 (m + 4)) len)), none] [] 0 0 (jW (jW (jW (M1, w.2) m 7 (zD law (M1 (m + 4)) len)) m 6 (Int.tmod (zP law f (M1 (m + 4)) len) (zD law (M1 (m + 4)) len))) m 5 2) _
                    refine jWp.blk mt 1 ?_
                    show _ ∧ jWp 146 162 [some (jO m), some (jI (x : Int)), some (jI law), some (jJ (zP law f (M1 (m + 4)) len)), none] [jO m] 0 0 (jW (jW (jW (M1, w.2) m 7 (zD law (M1 (m + 4)) len)) m 6 (Int.tmod (zP law f (M1 (m + 4)) len) (zD law (M1 (m + 4)) len))) m 5 2) _
                    refine ⟨rfl, ?_⟩
                    refine jWp.getI (pc' := 165) mt rfl rfl (jtg hW.K0) ?_
                    rw [show ((jW (jW (jW (M1, w.2) m 7 (zD law (M1 (m + 4)) len)) m 6 (Int.tmod (zP law f (M1 (m + 4)) len) (zD law (M1 (m + 4)) len))) m 5 2).1 m 5) = 2 from jW_s]
                    show jWp 146 165 [some (jO m), some (jI (x : Int)), some (jI law), some (jJ (zP law f (M1 (m + 4)) len)), none] [jI 2] 0 0 (jW (jW (jW (M1, w.2) m 7 (zD law (M1 (m + 4)) len)) m 6 (Int.tmod (zP law f (M1 (m + 4)) len) (zD law (M1 (m + 4)) len))) m 5 2) _
                    refine jWp.ifc (b := true) mt rfl (by decide) rfl ?_
                    show jWp 146 193 [some (jO m), some (jI (x : Int)), some (jI law), some (jJ (zP law f (M1 (m + 4)) len)), none] [] 0 0 (jW (jW (jW (M1, w.2) m 7 (zD law (M1 (m + 4)) len)) m 6 (Int.tmod (zP law f (M1 (m + 4)) len) (zD law (M1 (m + 4)) len))) m 5 2) _
                    refine jWp.blk mt 1 ?_
                    show jWp 146 60 [some (jO m), some (jI (x : Int)), some (jI law), some (jJ (zP law f (M1 (m + 4)) len)), none] [] 0 0 (jW (jW (jW (M1, w.2) m 7 (zD law (M1 (m + 4)) len)) m 6 (Int.tmod (zP law f (M1 (m + 4)) len) (zD law (M1 (m + 4)) len))) m 5 2) _
                    refine jWp.le (l := [some (jO m), some (jI (x : Int)), some (jI law), none, none]) (by exact ⟨rfl, rfl, rfl, trivial⟩) ?_
                    exact ih5 len 0 (jW (jW (jW (M1, w.2) m 7 (zD law (M1 (m + 4)) len)) m 6 (Int.tmod (zP law f (M1 (m + 4)) len) (zD law (M1 (m + 4)) len))) m 5 2).1 (⟨rfl, fun a ga gb => ((jW_f (by omega)).trans ((jW_f (by omega)).trans ((jW_f (by omega)).trans rfl))).trans (hF.2.1 a ga gb), fun j gj => ((jW_k (by omega)).trans ((jW_k (by omega)).trans ((jW_k (by omega)).trans rfl))).trans (hF.2.2 j gj)⟩ : ztr w m (jW (jW (jW (M1, w.2) m 7 (zD law (M1 (m + 4)) len)) m 6 (Int.tmod (zP law f (M1 (m + 4)) len) (zD law (M1 (m + 4)) len))) m 5 2)) ((((jW_k (by decide)).trans ((jW_k (by decide)).trans ((jW_k (by decide)).trans rfl)))).trans k4) (by rw [show (jW (jW (jW (M1, w.2) m 7 (zD law (M1 (m + 4)) len)) m 6 (Int.tmod (zP law f (M1 (m + 4)) len) (zD law (M1 (m + 4)) len))) m 5 2).1 (m + 4) = M1 (m + 4) from ((jW_f (by omega)).trans ((jW_f (by omega)).trans ((jW_f (by omega)).trans rfl)))]; exact hG) (Or.inr (Or.inr ⟨rfl, (jW_s), by omega, by rw [show (jW (jW (jW (M1, w.2) m 7 (zD law (M1 (m + 4)) len)) m 6 (Int.tmod (zP law f (M1 (m + 4)) len) (zD law (M1 (m + 4)) len))) m 5 2).1 (m + 4) = M1 (m + 4) from ((jW_f (by omega)).trans ((jW_f (by omega)).trans ((jW_f (by omega)).trans rfl)))]; omega, by rw [show (jW (jW (jW (M1, w.2) m 7 (zD law (M1 (m + 4)) len)) m 6 (Int.tmod (zP law f (M1 (m + 4)) len) (zD law (M1 (m + 4)) len))) m 5 2).1 (m + 4) = M1 (m + 4) from ((jW_f (by omega)).trans ((jW_f (by omega)).trans ((jW_f (by omega)).trans rfl)))]; assumption, (((jW_k (by decide)).trans jW_s)).trans (by omega)⟩)) (by omega)
                · have h10 : (Int.tmod (zP law f (M1 (m + 4)) len) (zD law (M1 (m + 4)) len)) ≠ 0 := h10
                  refine jWp.blk mt 2 ?_
                  show jWp 146 158 [some (jO m), some (jI (x : Int)), some (jI law), some (jJ (zP law f (M1 (m + 4)) len)), none] [jI 1, jO m] 0 0 (jW (jW (M1, w.2) m 7 (zD law (M1 (m + 4)) len)) m 6 (Int.tmod (zP law f (M1 (m + 4)) len) (zD law (M1 (m + 4)) len))) _
                  refine jWp.putI (pc' := 161) mt rfl rfl (jtg hW.K0) ?_
                  show jWp 146 161 [some (jO m), some (jI (x : Int)), some (jI law), some (jJ (zP law f (M1 (m + 4)) len)), none] [] 0 0 (jW (jW (jW (M1, w.2) m 7 (zD law (M1 (m + 4)) len)) m 6 (Int.tmod (zP law f (M1 (m + 4)) len) (zD law (M1 (m + 4)) len))) m 5 1) _
                  refine jWp.blk mt 1 ?_
                  show _ ∧ jWp 146 162 [some (jO m), some (jI (x : Int)), some (jI law), some (jJ (zP law f (M1 (m + 4)) len)), none] [jO m] 0 0 (jW (jW (jW (M1, w.2) m 7 (zD law (M1 (m + 4)) len)) m 6 (Int.tmod (zP law f (M1 (m + 4)) len) (zD law (M1 (m + 4)) len))) m 5 1) _
                  refine ⟨rfl, ?_⟩
                  refine jWp.getI (pc' := 165) mt rfl rfl (jtg hW.K0) ?_
                  rw [show ((jW (jW (jW (M1, w.2) m 7 (zD law (M1 (m + 4)) len)) m 6 (Int.tmod (zP law f (M1 (m + 4)) len) (zD law (M1 (m + 4)) len))) m 5 1).1 m 5) = 1 from jW_s]
                  show jWp 146 165 [some (jO m), some (jI (x : Int)), some (jI law), some (jJ (zP law f (M1 (m + 4)) len)), none] [jI 1] 0 0 (jW (jW (jW (M1, w.2) m 7 (zD law (M1 (m + 4)) len)) m 6 (Int.tmod (zP law f (M1 (m + 4)) len) (zD law (M1 (m + 4)) len))) m 5 1) _
                  refine jWp.ifc (b := true) mt rfl (by decide) rfl ?_
                  show jWp 146 193 [some (jO m), some (jI (x : Int)), some (jI law), some (jJ (zP law f (M1 (m + 4)) len)), none] [] 0 0 (jW (jW (jW (M1, w.2) m 7 (zD law (M1 (m + 4)) len)) m 6 (Int.tmod (zP law f (M1 (m + 4)) len) (zD law (M1 (m + 4)) len))) m 5 1) _
                  refine jWp.blk mt 1 ?_
                  show jWp 146 60 [some (jO m), some (jI (x : Int)), some (jI law), some (jJ (zP law f (M1 (m + 4)) len)), none] [] 0 0 (jW (jW (jW (M1, w.2) m 7 (zD law (M1 (m + 4)) len)) m 6 (Int.tmod (zP law f (M1 (m + 4)) len) (zD law (M1 (m + 4)) len))) m 5 1) _
                  refine jWp.le (l := [some (jO m), some (jI (x : Int)), some (jI law), none, none]) (by exact ⟨rfl, rfl, rfl, trivial⟩) ?_
                  exact ih5 len 0 (jW (jW (jW (M1, w.2) m 7 (zD law (M1 (m + 4)) len)) m 6 (Int.tmod (zP law f (M1 (m + 4)) len) (zD law (M1 (m + 4)) len))) m 5 1).1 (⟨rfl, fun a ga gb => ((jW_f (by omega)).trans ((jW_f (by omega)).trans ((jW_f (by omega)).trans rfl))).trans (hF.2.1 a ga gb), fun j gj => ((jW_k (by omega)).trans ((jW_k (by omega)).trans ((jW_k (by omega)).trans rfl))).trans (hF.2.2 j gj)⟩ : ztr w m (jW (jW (jW (M1, w.2) m 7 (zD law (M1 (m + 4)) len)) m 6 (Int.tmod (zP law f (M1 (m + 4)) len) (zD law (M1 (m + 4)) len))) m 5 1)) ((((jW_k (by decide)).trans ((jW_k (by decide)).trans ((jW_k (by decide)).trans rfl)))).trans k4) (by rw [show (jW (jW (jW (M1, w.2) m 7 (zD law (M1 (m + 4)) len)) m 6 (Int.tmod (zP law f (M1 (m + 4)) len) (zD law (M1 (m + 4)) len))) m 5 1).1 (m + 4) = M1 (m + 4) from ((jW_f (by omega)).trans ((jW_f (by omega)).trans ((jW_f (by omega)).trans rfl)))]; exact hG) (Or.inr (Or.inl ⟨rfl, (jW_s), by omega, by rw [show (jW (jW (jW (M1, w.2) m 7 (zD law (M1 (m + 4)) len)) m 6 (Int.tmod (zP law f (M1 (m + 4)) len) (zD law (M1 (m + 4)) len))) m 5 1).1 (m + 4) = M1 (m + 4) from ((jW_f (by omega)).trans ((jW_f (by omega)).trans ((jW_f (by omega)).trans rfl)))]; assumption, by rw [show (jW (jW (jW (M1, w.2) m 7 (zD law (M1 (m + 4)) len)) m 6 (Int.tmod (zP law f (M1 (m + 4)) len) (zD law (M1 (m + 4)) len))) m 5 1).1 (m + 4) = M1 (m + 4) from ((jW_f (by omega)).trans ((jW_f (by omega)).trans ((jW_f (by omega)).trans rfl)))]; exact (((jW_k (by decide)).trans jW_s))⟩)) (by omega)
        refine jWp.le (l := [some (jO m), some (jI (x : Int)), some (jI law), none, none]) (by exact ⟨rfl, rfl, rfl, trivial⟩) ?_
        exact lp4 _ (zO law).toNat 1 M1 hF (by omega) ⟨Nat.le_refl _, by omega, fun y hy => hA y (by omega), fun n g1 g2 => absurd g1 (by omega)⟩ (Or.inl ⟨rfl, k5, h6l⟩) (Nat.lt_succ_self _)
      · have h3 : (k : Int) < (zO law) := h3
        refine jWp.blk mt 1 ?_
        show _ ∧ jWp 146 35 [some (jO m), some (jI (x : Int)), some (jI law), some (jI (k : Int)), none] [jO m] 0 0 (M1, w.2) _
        refine ⟨rfl, ?_⟩
        refine jWp.getR (pc' := 38) (o := (m + 4)) mt rfl rfl (jtg hW.K0) hW.R3 ?_
        show jWp 146 38 [some (jO m), some (jI (x : Int)), some (jI law), some (jI (k : Int)), none] [jO (m + 4)] 0 0 (M1, w.2) _
        refine jWp.blk mt 2 ?_
        show _ ∧ jWp 146 40 [some (jO m), some (jI (x : Int)), some (jI law), some (jI (k : Int)), none] [jO m, jI (k : Int), jO (m + 4)] 0 0 (M1, w.2) _
        refine ⟨rfl, ?_⟩
        refine jWp.getR (pc' := 43) (o := (m + 2)) mt rfl rfl (jtg hW.K0) hW.R1 ?_
        show jWp 146 43 [some (jO m), some (jI (x : Int)), some (jI law), some (jI (k : Int)), none] [jO (m + 2), jI (k : Int), jO (m + 4)] 0 0 (M1, w.2) _
        refine jWp.blk mt 7 ?_
        show jWp 146 51 [some (jO m), some (jI (x : Int)), some (jI law), some (jI (k : Int)), none] [jI ((3 + (10 * (x : Int))) + (k : Int)), jO (m + 2), jI (k : Int), jO (m + 4)] 0 0 (M1, w.2) _
        refine jWp.iald (pc' := 52) (j := (3 + 10 * x + k)) mt rfl rfl (jird_of hW.K2) (by rw [b32_id (by omega) (by omega)]; omega) (jlt hW.K2 (by omega)) ?_
        rw [show ((M1, w.2).1 (m + 2) (3 + 10 * x + k)) = (M1 (m + 2) (3 + 10 * x + k)) from rfl]
        show jWp 146 52 [some (jO m), some (jI (x : Int)), some (jI law), some (jI (k : Int)), none] [jI (M1 (m + 2) (3 + 10 * x + k)), jI (k : Int), jO (m + 4)] 0 0 (M1, w.2) _
        refine jWp.i2l (pc' := 53) mt rfl rfl (b32_id (by omega) (by omega)) ?_
        show jWp 146 53 [some (jO m), some (jI (x : Int)), some (jI law), some (jI (k : Int)), none] [jJ (M1 (m + 2) (3 + 10 * x + k)), jI (k : Int), jO (m + 4)] 0 0 (M1, w.2) _
        refine jWp.last (pc' := 54) (j := k) mt rfl rfl (jtg hW.K4) (b32_id (by omega) (by omega)) (jlt hW.K4 (by omega)) ?_
        show jWp 146 54 [some (jO m), some (jI (x : Int)), some (jI law), some (jI (k : Int)), none] [] 0 0 (jW (M1, w.2) (m + 4) k (M1 (m + 2) (3 + 10 * x + k))) _
        refine jWp.blk mt 2 ?_
        show jWp 146 26 [some (jO m), some (jI (x : Int)), some (jI law), some (jI ((k : Int) + 1)), none] [] 0 0 (jW (M1, w.2) (m + 4) k (M1 (m + 2) (3 + 10 * x + k))) _
        refine jWp.le (l := [some (jO m), some (jI (x : Int)), some (jI law), some (jI ((k : Int) + 1)), none]) (by exact ⟨rfl, rfl, rfl, rfl, trivial⟩) ?_
        exact ih2 (k + 1) (jW (M1, w.2) (m + 4) k (M1 (m + 2) (3 + 10 * x + k))).1 (by omega) (⟨rfl, fun a ga gb => ((jW_f (by omega)).trans rfl).trans (hF.2.1 a ga gb), fun j gj => ((jW_a (by omega)).trans rfl).trans (hF.2.2 j gj)⟩ : ztr w m (jW (M1, w.2) (m + 4) k (M1 (m + 2) (3 + 10 * x + k)))) (((jW_a (by omega)).trans rfl).trans k4) (((jW_a (by omega)).trans rfl).trans k5) (((jW_a (by omega)).trans rfl).trans h6l) (fun y hy => by rcases Nat.lt_or_ge y k with e | e; exact (jW_k (by omega)).trans (hA y e); rw [show y = k by omega]; exact jW_s.trans (congrFun (hF.2.1 (m + 2) (by omega) (by omega)) _)) (by omega)
  refine jWp.le (l := [some (jO m), some (jI (x : Int)), some (jI law), some (jI 0), none]) (by exact ⟨rfl, rfl, rfl, rfl, trivial⟩) ?_
  exact lp1 _ 0 (jW (jW (jW w m 4 (zO law)) m 5 0) m 6 0).1 (by omega) (⟨rfl, fun a ga gb => ((jW_f (by omega)).trans ((jW_f (by omega)).trans ((jW_f (by omega)).trans rfl))), fun j gj => ((jW_k (by omega)).trans ((jW_k (by omega)).trans ((jW_k (by omega)).trans rfl)))⟩ : ztr w m (jW (jW (jW w m 4 (zO law)) m 5 0) m 6 0)) (((jW_k (by decide)).trans ((jW_k (by decide)).trans jW_s))) (((jW_k (by decide)).trans jW_s)) (jW_s) (fun y hy => absurd hy (by omega)) (Nat.lt_succ_self _)
end
section
/-- the first place, of so many from one on, at which something holds; -9 -/
noncomputable def zff (p : Nat → Prop) : Nat → Nat → Int
  | 0, _ => -9
  | f + 1, k => @ite Int (p k) (Classical.propDecidable (p k)) (k : Int) (zff p f (k + 1))
theorem zff_t {p : Nat → Prop} {f k : Nat} (h : p k) : zff p (f + 1) k = (k : Int) := if_pos h
theorem zff_f {p : Nat → Prop} {f k : Nat} (h : ¬ p k) : zff p (f + 1) k = zff p f (k + 1) := if_neg h
theorem zff_c {p r : Nat → Prop} : ∀ f k, (∀ i, k ≤ i → i < k + f → (p i ↔ r i)) → zff p f k = zff r f k
  | 0, _, _ => rfl
  | f + 1, k, h => by
    by_cases e : p k
    · rw [zff_t e, zff_t ((h k (by omega) (by omega)).mp e)]
    · rw [zff_f e, zff_f (fun g => e ((h k (by omega) (by omega)).mpr g)), zff_c f (k + 1) (fun i h1 h2 => h i (by omega) (by omega))]
/-- the same, as far as something else holds -/
noncomputable def zfs (c p : Nat → Prop) : Nat → Nat → Int
  | 0, _ => -9
  | f + 1, k => @ite Int (c k) (Classical.propDecidable (c k)) (@ite Int (p k) (Classical.propDecidable (p k)) (k : Int) (zfs c p f (k + 1))) (-9)
theorem zfs_n {c p : Nat → Prop} {f k : Nat} (h : ¬ c k) : zfs c p f k = -9 := by
  cases f with
  | zero => rfl
  | succ f => exact if_neg h
theorem zfs_t {c p : Nat → Prop} {f k : Nat} (g : c k) (h : p k) : zfs c p (f + 1) k = (k : Int) := (if_pos g).trans (if_pos h)
theorem zfs_f {c p : Nat → Prop} {f k : Nat} (g : c k) (h : ¬ p k) : zfs c p (f + 1) k = zfs c p f (k + 1) := (if_pos g).trans (if_neg h)
theorem zfs_c {c p d r : Nat → Prop} : ∀ f k, (∀ i, k ≤ i → (c i ↔ d i) ∧ (c i → (p i ↔ r i))) → zfs c p f k = zfs d r f k
  | 0, _, _ => rfl
  | f + 1, k, h => by
    have e := h k (Nat.le_refl k)
    by_cases g : c k
    · by_cases q : p k
      · rw [zfs_t g q, zfs_t (e.1.mp g) ((e.2 g).mp q)]
      · rw [zfs_f g q, zfs_f (e.1.mp g) (fun x => q ((e.2 g).mpr x)), zfs_c f (k + 1) (fun i hi => h i (by omega))]
    · rw [zfs_n g, zfs_n (fun x => g (e.1.mpr x))]
/-- a row of the reference: its numbers, how many, why it ends, what is left -/
def zTR (r : Nat → Int) (x : Nat) (t : Nat → Int) (len : Nat) (why left : Int) : Prop := zGr (r (1 + 10 * x)) (r (2 + 10 * x)) (fun y => r (3 + 10 * x + y)) t len ∧ zEn (r (1 + 10 * x)) (r (2 + 10 * x)) t len why left
theorem zTR_b {r t : Nat → Int} {x c len : Nat} {why left : Int} (hR : zRw r c) (hx : x < c) (h : zTR r x t len why left) : len ≤ 60 ∧ 2 ≤ len ∧ ∀ j, j < len → -100000000 ≤ t j ∧ t j ≤ 100000000 := by
  have g := hR.2.2 x hx
  have hb := zO_b g.1.1 g.1.2
  exact ⟨h.1.2.1, by have := h.1.1; omega, zGr_b g.1.1 g.1.2 g.2.2 h.1⟩
theorem zTR_u {r t t' : Nat → Int} {x c len len' : Nat} {why left why' left' : Int} (hR : zRw r c) (hx : x < c) (h : zTR r x t len why left) (h' : zTR r x t' len' why' left') : len = len' ∧ why = why' ∧ left = left' ∧ ∀ j, j < len → t j = t' j := by
  have g := hR.2.2 x hx
  exact zGr_u g.1.1 g.1.2 h.1 h.2 h'.1 h'.2
theorem zEn_b {r t : Nat → Int} {x c len : Nat} {why left : Int} (hR : zRw r c) (hx : x < c) (h : zTR r x t len why left) : (0 ≤ why ∧ why ≤ 2) ∧ -100000000 ≤ left ∧ left ≤ 100000000 := by
  have g := hR.2.2 x hx
  have s := zGr_s g.1.1 g.1.2 g.2.1 g.2.2 h.1
  have d := zdm s.1 s.2
  rcases h.2 with e | e | e <;> omega
set_option maxHeartbeats 4000000 in
set_option maxRecDepth 20000 in
theorem E_firstBelow {w : jS} {m : Nat} (hW : MW w.2 m) {len : Nat} (hl : w.1 m 4 = (len : Int)) (hl60 : len ≤ 60) (hb : ∀ j, j < len → -100000000 ≤ w.1 (m + 4) j ∧ w.1 (m + 4) j ≤ 100000000) : jCall 149 [jO m] w (jvi (zff (fun k => w.1 (m + 4) k < 1) len 0) w) := by
  have mt : jtb 149 = jT149 := rfl
  show jWp 149 0 [some (jO m), none] [] 0 0 w _
  refine jWp.blk mt 2 ?_
  show jWp 149 2 [some (jO m), some (jI 0)] [] 0 0 w _
  have lp1 : ∀ (N : Nat) (k : Nat) (hk : k ≤ len) (hr : zff (fun k => w.1 (m + 4) k < 1) (len - k) k = zff (fun k => w.1 (m + 4) k < 1) len 0), len - k < N → jWp 149 2 [some (jO m), some (jI (k : Int))] [] 0 0 w (jvi (zff (fun k => w.1 (m + 4) k < 1) len 0) w) := by
    intro N
    induction N with
    | zero => intro k hk hr hm; omega
    | succ N ih2 =>
      intro k hk hr hm
      have hf : k < len → _ := fun h => hb k h
      refine jWp.blk mt 2 ?_
      show _ ∧ jWp 149 4 [some (jO m), some (jI (k : Int))] [jO m, jI (k : Int)] 0 0 w _
      refine ⟨rfl, ?_⟩
      refine jWp.getI (pc' := 7) mt rfl rfl (jtg hW.K0) ?_
      rw [show (w.1 m 4) = (len : Int) from hl]
      show jWp 149 7 [some (jO m), some (jI (k : Int))] [jI (len : Int), jI (k : Int)] 0 0 w _
      refine jWp.icmp (pc' := 10) mt rfl rfl (b32_id (by omega) (by omega)) (b32_id (by omega) (by omega)) (fun h3 => ?_) (fun h3 => ?_)
      · have h3 : (len : Int) ≤ (k : Int) := h3
        refine jWp.blk mt 1 ?_
        show jWp 149 31 [some (jO m), some (jI (k : Int))] [jI (-9)] 0 0 w _
        refine jWp.ireti mt rfl ⟨rfl, rfl⟩ rfl ?_
        refine ⟨?_, rfl⟩
        rw [← hr, show len - k = 0 by omega]; rfl
      · have h3 : (k : Int) < (len : Int) := h3
        refine jWp.blk mt 1 ?_
        show _ ∧ jWp 149 11 [some (jO m), some (jI (k : Int))] [jO m] 0 0 w _
        refine ⟨rfl, ?_⟩
        refine jWp.getR (pc' := 14) (o := (m + 4)) mt rfl rfl (jtg hW.K0) hW.R3 ?_
        show jWp 149 14 [some (jO m), some (jI (k : Int))] [jO (m + 4)] 0 0 w _
        refine jWp.blk mt 1 ?_
        show jWp 149 15 [some (jO m), some (jI (k : Int))] [jI (k : Int), jO (m + 4)] 0 0 w _
        refine jWp.lald (pc' := 16) (j := k) mt rfl rfl (jtg hW.K4) (by rw [b32_id (by omega) (by omega)] <;> omega) (jlt hW.K4 (by omega)) ?_
        show jWp 149 16 [some (jO m), some (jI (k : Int))] [jJ (w.1 (m + 4) k)] 0 0 w _
        refine jWp.blk mt 1 ?_
        show jWp 149 17 [some (jO m), some (jI (k : Int))] [jJ 1, jJ (w.1 (m + 4) k)] 0 0 w _
        refine jWp.lcmp (pc' := 21) mt rfl rfl rfl (b64_id (by omega) (by omega)) (show b64 1 = 1 by decide) (fun h4 => ?_) (fun h4 => ?_)
        · have h4 : 1 ≤ (w.1 (m + 4) k) := h4
          refine jWp.blk mt 2 ?_
          show jWp 149 2 [some (jO m), some (jI ((k : Int) + 1))] [] 0 0 w _
          refine jWp.le (l := [some (jO m), some (jI ((k : Int) + 1))]) (by exact ⟨rfl, rfl, trivial⟩) ?_
          exact ih2 (k + 1) (by omega) (by rw [← hr, show len - k = (len - (k + 1)) + 1 by omega, zff_f (by omega)]) (by omega)
        · have h4 : (w.1 (m + 4) k) < 1 := h4
          refine jWp.blk mt 1 ?_
          show jWp 149 22 [some (jO m), some (jI (k : Int))] [jI (k : Int)] 0 0 w _
          refine jWp.ireti mt rfl ⟨rfl, rfl⟩ rfl ?_
          refine ⟨?_, rfl⟩
          rw [← hr, show len - k = (len - (k + 1)) + 1 by omega, zff_t (by omega)]
  refine jWp.le (l := [some (jO m), some (jI 0)]) (by exact ⟨rfl, rfl, trivial⟩) ?_
  exact lp1 _ 0 (by omega) rfl (Nat.lt_succ_self _)
set_option maxHeartbeats 4000000 in
set_option maxRecDepth 20000 in
theorem E_of {w : jS} {m : Nat} (hW : MW w.2 m) {c : Nat} (hR : zRw (w.1 (m + 2)) c) {r a : Int} (hrr : r32 r) (hra : r32 a) : jCall 150 [jO m, jI r, jI a] w (fun v w1 => ((¬ (0 ≤ r ∧ r < (c : Int))) → jno w m 1 (jI (-1)) v w1) ∧ (¬ (¬ (0 ≤ r ∧ r < (c : Int))) → (¬ (0 ≤ a ∧ a ≤ 6)) → jno w m 2 (jI (-2)) v w1) ∧ (¬ (¬ (0 ≤ r ∧ r < (c : Int))) → ¬ (¬ (0 ≤ a ∧ a ≤ 6)) → ∃ (t : Nat → Int) (len : Nat) (why left : Int), zTR (w.1 (m + 2)) r.toNat t len why left ∧ (a = 0 → v = some (jI (w.1 (m + 2) (1 + 10 * r.toNat)))) ∧ (a = 1 → v = some (jI (w.1 (m + 2) (2 + 10 * r.toNat)))) ∧ (a = 2 → v = some (jI (zO (w.1 (m + 2) (1 + 10 * r.toNat))))) ∧ (a = 3 → v = some (jI ((len : Int)))) ∧ (a = 4 → v = some (jI (why))) ∧ (a = 5 → v = some (jI (left))) ∧ (a = 6 → v = some (jI (zff (fun k => t k < 1) len 0))) ∧ mq w m w1)) := by
  have mt : jtb 150 = jT150 := rfl
  have hc4 := hR.2.1
  have hrr1 : -2147483648 ≤ r ∧ r < 2147483648 := hrr
  have hra1 : -2147483648 ≤ a ∧ a < 2147483648 := hra
  show jWp 150 0 [some (jO m), some (jI r), some (jI a)] [] 0 0 w _
  refine jWp.blk mt 2 ?_
  show _ ∧ jWp 150 2 [some (jO m), some (jI r), some (jI a)] [jI r, jO m] 0 0 w _
  refine ⟨rfl, ?_⟩
  refine jWp.callv (as := [jO m, jI r]) (rest := []) mt rfl rfl rfl ⟨rfl, jtg hW.K0⟩ ?_
  refine jCall.mono (E_isRow hW hR hrr) (fun v9 w9 h9 => ?_)
  rcases h9 with ⟨rfl, h9, h1⟩ | ⟨rfl, h9, h1⟩ <;> subst w9
  · have h1 : 0 ≤ r ∧ r < (c : Int) := h1
    show jWp 150 5 [some (jO m), some (jI r), some (jI a)] [jI 1] 0 0 w _
    obtain ⟨r1, rfl⟩ : ∃ r1 : Nat, r = (r1 : Int) := ⟨r.toNat, by omega⟩
    show jWp 150 5 [some (jO m), some (jI (r1 : Int)), some (jI a)] [jI 1] 0 0 w _
    have hRr := hR.2.2 r1 (by omega)
    have hRo := zO_b hRr.1.1 hRr.1.2
    refine jWp.ifc (b := true) mt rfl (by decide) rfl ?_
    show jWp 150 14 [some (jO m), some (jI (r1 : Int)), some (jI a)] [] 0 0 w _
    refine jWp.blk mt 1 ?_
    show jWp 150 15 [some (jO m), some (jI (r1 : Int)), some (jI a)] [jI a] 0 0 w _
    refine jWp.i2l (pc' := 16) mt rfl rfl (b32_id (by omega) (by omega)) ?_
    show jWp 150 16 [some (jO m), some (jI (r1 : Int)), some (jI a)] [jJ a] 0 0 w _
    refine jWp.blk mt 2 ?_
    show jWp 150 20 [some (jO m), some (jI (r1 : Int)), some (jI a)] [jJ 6, jJ 0, jJ a] 0 0 w _
    refine jWp.calls (as := [jJ a, jJ 0, jJ 6]) (rest := []) mt rfl rfl rfl rfl ?_
    refine jCall.mono (E_in (b64_id (by omega) (by omega)) (show b64 0 = 0 by decide) (show b64 6 = 6 by decide)) (fun v9 w9 h9 => ?_)
    rcases h9 with ⟨rfl, h9, h2⟩ | ⟨rfl, h9, h2⟩ <;> subst w9
    · have h2 : 0 ≤ a ∧ a ≤ 6 := h2
      show jWp 150 23 [some (jO m), some (jI (r1 : Int)), some (jI a)] [jI 1] 0 0 w _
      refine jWp.ifc (b := true) mt rfl (by decide) rfl ?_
      show jWp 150 33 [some (jO m), some (jI (r1 : Int)), some (jI a)] [] 0 0 w _
      refine jWp.blk mt 2 ?_
      show _ ∧ jWp 150 35 [some (jO m), some (jI (r1 : Int)), some (jI a)] [jI (r1 : Int), jO m] 0 0 w _
      refine ⟨rfl, ?_⟩
      refine jWp.callv (as := [jO m, jI (r1 : Int)]) (rest := []) mt rfl rfl rfl ⟨rfl, jtg hW.K0⟩ ?_
      refine jCall.mono (E_terms (w := w) (x := r1) hW (by omega) rfl rfl hRr.1.1 hRr.1.2 hRr.2.1 hRr.2.2) (fun v9 w9 h9 => ?_)
      obtain ⟨rfl, hF, len, why, left, k4, k5, k6, hG, hE⟩ := h9
      obtain ⟨M1, G9⟩ := w9
      have hg : G9 = w.2 := hF.1
      subst hg
      have k4 : M1 m 4 = (len : Int) := k4
      have k5 : M1 m 5 = why := k5
      have k6 : M1 m 6 = left := k6
      have hTR : zTR (w.1 (m + 2)) r1 (M1 (m + 4)) len why left := ⟨hG, hE⟩
      have hTb := zTR_b hR (by omega) hTR
      have hEb := zEn_b hR (by omega) hTR
      have hmq : mq w m (M1, w.2) := ztr_q hF
      have hM2 : M1 (m + 2) = w.1 (m + 2) := hmq.2.1 _ (by omega)
      show jWp 150 38 [some (jO m), some (jI (r1 : Int)), some (jI a)] [] 0 0 (M1, w.2) _
      refine jWp.blk mt 1 ?_
      show jWp 150 39 [some (jO m), some (jI (r1 : Int)), some (jI a)] [jI a] 0 0 (M1, w.2) _
      refine jWp.sw mt rfl (Or.inl ⟨_, _, _, _, rfl⟩) (b32_id (by omega) (by omega)) ?_
      show jWp 150 (jsw [(0, 76), (1, 82), (2, 88), (3, 97), (4, 102), (5, 107)] 113 a) [some (jO m), some (jI (r1 : Int)), some (jI a)] [] 0 0 (M1, w.2) _
      unfold jsw; by_cases h3 : 0 = a
      · rw [if_pos h3]
        refine jWp.blk mt 2 ?_
        show _ ∧ jWp 150 78 [some (jO m), some (jI (r1 : Int)), some (jI a)] [jI (r1 : Int), jO m] 0 0 (M1, w.2) _
        refine ⟨rfl, ?_⟩
        refine jWp.callv (as := [jO m, jI (r1 : Int)]) (rest := []) mt rfl rfl rfl ⟨rfl, jtg hW.K0⟩ ?_
        refine jCall.mono ((by have h := E_law (w := (M1, w.2)) (x := r1) hW (by omega); rw [show ((M1, w.2) : jS).1 (m + 2) = w.1 (m + 2) from hM2] at h; exact h)) (fun v9 w9 h9 => ?_)
        obtain ⟨rfl, h9⟩ := h9
        subst w9
        show jWp 150 81 [some (jO m), some (jI (r1 : Int)), some (jI a)] [jI (w.1 (m + 2) (1 + 10 * r1))] 0 0 (M1, w.2) _
        refine jWp.ireti mt rfl ⟨rfl, rfl⟩ rfl ?_
        try rw [show ((r1 : Nat) : Int).toNat = r1 from rfl]
        refine ⟨fun c0 => ?_, fun c0 c1 => ?_, fun c0 c1 => ?_⟩
        all_goals first
        | (exfalso; omega)
        | exact ⟨rfl, rfl⟩
        | (refine ⟨M1 (m + 4), len, why, left, hTR, fun c => ?_, fun c => ?_, fun c => ?_, fun c => ?_, fun c => ?_, fun c => ?_, fun c => ?_, hmq⟩ <;> first | (exfalso; omega) | rfl)
      · rw [if_neg h3]
        unfold jsw; by_cases h4 : 1 = a
        · rw [if_pos h4]
          refine jWp.blk mt 2 ?_
          show _ ∧ jWp 150 84 [some (jO m), some (jI (r1 : Int)), some (jI a)] [jI (r1 : Int), jO m] 0 0 (M1, w.2) _
          refine ⟨rfl, ?_⟩
          refine jWp.callv (as := [jO m, jI (r1 : Int)]) (rest := []) mt rfl rfl rfl ⟨rfl, jtg hW.K0⟩ ?_
          refine jCall.mono ((by have h := E_figure (w := (M1, w.2)) (x := r1) hW (by omega); rw [show ((M1, w.2) : jS).1 (m + 2) = w.1 (m + 2) from hM2] at h; exact h)) (fun v9 w9 h9 => ?_)
          obtain ⟨rfl, h9⟩ := h9
          subst w9
          show jWp 150 87 [some (jO m), some (jI (r1 : Int)), some (jI a)] [jI (w.1 (m + 2) (2 + 10 * r1))] 0 0 (M1, w.2) _
          refine jWp.ireti mt rfl ⟨rfl, rfl⟩ rfl ?_
          try rw [show ((r1 : Nat) : Int).toNat = r1 from rfl]
          refine ⟨fun c0 => ?_, fun c0 c1 => ?_, fun c0 c1 => ?_⟩
          all_goals first
          | (exfalso; omega)
          | exact ⟨rfl, rfl⟩
          | (refine ⟨M1 (m + 4), len, why, left, hTR, fun c => ?_, fun c => ?_, fun c => ?_, fun c => ?_, fun c => ?_, fun c => ?_, fun c => ?_, hmq⟩ <;> first | (exfalso; omega) | rfl)
        · rw [if_neg h4]
          unfold jsw; by_cases h5 : 2 = a
          · rw [if_pos h5]
            refine jWp.blk mt 2 ?_
            show _ ∧ jWp 150 90 [some (jO m), some (jI (r1 : Int)), some (jI a)] [jI (r1 : Int), jO m] 0 0 (M1, w.2) _
            refine ⟨rfl, ?_⟩
            refine jWp.callv (as := [jO m, jI (r1 : Int)]) (rest := []) mt rfl rfl rfl ⟨rfl, jtg hW.K0⟩ ?_
            refine jCall.mono ((by have h := E_law (w := (M1, w.2)) (x := r1) hW (by omega); rw [show ((M1, w.2) : jS).1 (m + 2) = w.1 (m + 2) from hM2] at h; exact h)) (fun v9 w9 h9 => ?_)
            obtain ⟨rfl, h9⟩ := h9
            subst w9
            show jWp 150 93 [some (jO m), some (jI (r1 : Int)), some (jI a)] [jI (w.1 (m + 2) (1 + 10 * r1))] 0 0 (M1, w.2) _
            refine jWp.calls (as := [jI (w.1 (m + 2) (1 + 10 * r1))]) (rest := []) mt rfl rfl rfl rfl ?_
            refine jCall.mono (E_order hRr.1.1 hRr.1.2) (fun v9 w9 h9 => ?_)
            obtain ⟨rfl, h9⟩ := h9
            subst w9
            show jWp 150 96 [some (jO m), some (jI (r1 : Int)), some (jI a)] [jI (zO (w.1 (m + 2) (1 + 10 * r1)))] 0 0 (M1, w.2) _
            refine jWp.ireti mt rfl ⟨rfl, rfl⟩ rfl ?_
            try rw [show ((r1 : Nat) : Int).toNat = r1 from rfl]
            refine ⟨fun c0 => ?_, fun c0 c1 => ?_, fun c0 c1 => ?_⟩
            all_goals first
            | (exfalso; omega)
            | exact ⟨rfl, rfl⟩
            | (refine ⟨M1 (m + 4), len, why, left, hTR, fun c => ?_, fun c => ?_, fun c => ?_, fun c => ?_, fun c => ?_, fun c => ?_, fun c => ?_, hmq⟩ <;> first | (exfalso; omega) | rfl)
          · rw [if_neg h5]
            unfold jsw; by_cases h6 : 3 = a
            · rw [if_pos h6]
              refine jWp.blk mt 1 ?_
              show _ ∧ jWp 150 98 [some (jO m), some (jI (r1 : Int)), some (jI a)] [jO m] 0 0 (M1, w.2) _
              refine ⟨rfl, ?_⟩
              refine jWp.getI (pc' := 101) mt rfl rfl (jtg hW.K0) ?_
              rw [show ((M1, w.2).1 m 4) = (len : Int) from k4]
              show jWp 150 101 [some (jO m), some (jI (r1 : Int)), some (jI a)] [jI (len : Int)] 0 0 (M1, w.2) _
              refine jWp.ireti mt rfl ⟨rfl, rfl⟩ rfl ?_
              try rw [show ((r1 : Nat) : Int).toNat = r1 from rfl]
              refine ⟨fun c0 => ?_, fun c0 c1 => ?_, fun c0 c1 => ?_⟩
              all_goals first
              | (exfalso; omega)
              | exact ⟨rfl, rfl⟩
              | (refine ⟨M1 (m + 4), len, why, left, hTR, fun c => ?_, fun c => ?_, fun c => ?_, fun c => ?_, fun c => ?_, fun c => ?_, fun c => ?_, hmq⟩ <;> first | (exfalso; omega) | rfl)
            · rw [if_neg h6]
              unfold jsw; by_cases h7 : 4 = a
              · rw [if_pos h7]
                refine jWp.blk mt 1 ?_
                show _ ∧ jWp 150 103 [some (jO m), some (jI (r1 : Int)), some (jI a)] [jO m] 0 0 (M1, w.2) _
                refine ⟨rfl, ?_⟩
                refine jWp.getI (pc' := 106) mt rfl rfl (jtg hW.K0) ?_
                rw [show ((M1, w.2).1 m 5) = why from k5]
                show jWp 150 106 [some (jO m), some (jI (r1 : Int)), some (jI a)] [jI why] 0 0 (M1, w.2) _
                refine jWp.ireti mt rfl ⟨rfl, rfl⟩ rfl ?_
                try rw [show ((r1 : Nat) : Int).toNat = r1 from rfl]
                refine ⟨fun c0 => ?_, fun c0 c1 => ?_, fun c0 c1 => ?_⟩
                all_goals first
                | (exfalso; omega)
                | exact ⟨rfl, rfl⟩
                | (refine ⟨M1 (m + 4), len, why, left, hTR, fun c => ?_, fun c => ?_, fun c => ?_, fun c => ?_, fun c => ?_, fun c => ?_, fun c => ?_, hmq⟩ <;> first | (exfalso; omega) | rfl)
              · rw [if_neg h7]
                unfold jsw; by_cases h8 : 5 = a
                · rw [if_pos h8]
                  refine jWp.blk mt 1 ?_
                  show _ ∧ jWp 150 108 [some (jO m), some (jI (r1 : Int)), some (jI a)] [jO m] 0 0 (M1, w.2) _
                  refine ⟨rfl, ?_⟩
                  refine jWp.getJ (pc' := 111) mt rfl rfl (jtg hW.K0) ?_
                  rw [show ((M1, w.2).1 m 6) = left from k6]
                  show jWp 150 111 [some (jO m), some (jI (r1 : Int)), some (jI a)] [jJ left] 0 0 (M1, w.2) _
                  refine jWp.blk mt 1 ?_
                  show jWp 150 112 [some (jO m), some (jI (r1 : Int)), some (jI a)] [jI left] 0 0 (M1, w.2) _
                  refine jWp.ireti mt rfl ⟨rfl, rfl⟩ rfl ?_
                  try rw [show ((r1 : Nat) : Int).toNat = r1 from rfl]
                  refine ⟨fun c0 => ?_, fun c0 c1 => ?_, fun c0 c1 => ?_⟩
                  all_goals first
                  | (exfalso; omega)
                  | exact ⟨rfl, rfl⟩
                  | (refine ⟨M1 (m + 4), len, why, left, hTR, fun c => ?_, fun c => ?_, fun c => ?_, fun c => ?_, fun c => ?_, fun c => ?_, fun c => ?_, hmq⟩ <;> first | (exfalso; omega) | rfl)
                · rw [if_neg h8]
                  unfold jsw
                  refine jWp.blk mt 1 ?_
                  show _ ∧ jWp 150 114 [some (jO m), some (jI (r1 : Int)), some (jI a)] [jO m] 0 0 (M1, w.2) _
                  refine ⟨rfl, ?_⟩
                  refine jWp.callv (as := [jO m]) (rest := []) mt rfl rfl rfl ⟨rfl, jtg hW.K0⟩ ?_
                  refine jCall.mono (E_firstBelow (w := (M1, w.2)) (len := len) hW k4 hTb.1 hTb.2.2) (fun v9 w9 h9 => ?_)
                  obtain ⟨rfl, h9⟩ := h9
                  subst w9
                  show jWp 150 117 [some (jO m), some (jI (r1 : Int)), some (jI a)] [jI (zff (fun k => M1 (m + 4) k < 1) len 0)] 0 0 (M1, w.2) _
                  refine jWp.ireti mt rfl ⟨rfl, rfl⟩ rfl ?_
                  try rw [show ((r1 : Nat) : Int).toNat = r1 from rfl]
                  refine ⟨fun c0 => ?_, fun c0 c1 => ?_, fun c0 c1 => ?_⟩
                  all_goals first
                  | (exfalso; omega)
                  | exact ⟨rfl, rfl⟩
                  | (refine ⟨M1 (m + 4), len, why, left, hTR, fun c => ?_, fun c => ?_, fun c => ?_, fun c => ?_, fun c => ?_, fun c => ?_, fun c => ?_, hmq⟩ <;> first | (exfalso; omega) | rfl)
    · have h2 : ¬ (0 ≤ a ∧ a ≤ 6) := h2
      show jWp 150 23 [some (jO m), some (jI (r1 : Int)), some (jI a)] [jI 0] 0 0 w _
      refine jWp.ifc (b := false) mt rfl (by decide) rfl ?_
      show jWp 150 26 [some (jO m), some (jI (r1 : Int)), some (jI a)] [] 0 0 w _
      refine jWp.blk mt 2 ?_
      show _ ∧ jWp 150 29 [some (jO m), some (jI (r1 : Int)), some (jI a)] [jI (-2), jO m] 0 0 w _
      refine ⟨rfl, ?_⟩
      refine jWp.callv (as := [jO m, jI (-2)]) (rest := []) mt rfl rfl rfl ⟨rfl, jtg hW.K0⟩ ?_
      refine jCall.mono (E_refuses (w := w) (j := 2) hW (by decide) (by decide)) (fun v9 w9 h9 => ?_)
      obtain ⟨rfl, h9⟩ := h9
      subst h9
      show jWp 150 32 [some (jO m), some (jI (r1 : Int)), some (jI a)] [jI (-2)] 0 0 (jW w (m + 3) 2 ((w.1 (m + 3) 2) + 1)) _
      refine jWp.ireti mt rfl ⟨rfl, rfl⟩ rfl ?_
      try rw [show ((r1 : Nat) : Int).toNat = r1 from rfl]
      refine ⟨fun c0 => ?_, fun c0 c1 => ?_, fun c0 c1 => ?_⟩
      all_goals first
      | (exfalso; omega)
      | exact ⟨rfl, rfl⟩
      | (refine ⟨M1 (m + 4), len, why, left, hTR, fun c => ?_, fun c => ?_, fun c => ?_, fun c => ?_, fun c => ?_, fun c => ?_, fun c => ?_, hmq⟩ <;> first | (exfalso; omega) | rfl)
  · have h1 : ¬ (0 ≤ r ∧ r < (c : Int)) := h1
    show jWp 150 5 [some (jO m), some (jI r), some (jI a)] [jI 0] 0 0 w _
    refine jWp.ifc (b := false) mt rfl (by decide) rfl ?_
    show jWp 150 8 [some (jO m), some (jI r), some (jI a)] [] 0 0 w _
    refine jWp.blk mt 2 ?_
    show _ ∧ jWp 150 10 [some (jO m), some (jI r), some (jI a)] [jI (-1), jO m] 0 0 w _
    refine ⟨rfl, ?_⟩
    refine jWp.callv (as := [jO m, jI (-1)]) (rest := []) mt rfl rfl rfl ⟨rfl, jtg hW.K0⟩ ?_
    refine jCall.mono (E_refuses (w := w) (j := 1) hW (by decide) (by decide)) (fun v9 w9 h9 => ?_)
    obtain ⟨rfl, h9⟩ := h9
    subst h9
    show jWp 150 13 [some (jO m), some (jI r), some (jI a)] [jI (-1)] 0 0 (jW w (m + 3) 1 ((w.1 (m + 3) 1) + 1)) _
    refine jWp.ireti mt rfl ⟨rfl, rfl⟩ rfl ?_
    try rw [show ((r1 : Nat) : Int).toNat = r1 from rfl]
    refine ⟨fun c0 => ?_, fun c0 c1 => ?_, fun c0 c1 => ?_⟩
    all_goals first
    | (exfalso; omega)
    | exact ⟨rfl, rfl⟩
    | (refine ⟨M1 (m + 4), len, why, left, hTR, fun c => ?_, fun c => ?_, fun c => ?_, fun c => ?_, fun c => ?_, fun c => ?_, fun c => ?_, hmq⟩ <;> first | (exfalso; omega) | rfl)
set_option maxHeartbeats 4000000 in
set_option maxRecDepth 20000 in
theorem E_term {w : jS} {m : Nat} (hW : MW w.2 m) {c : Nat} (hR : zRw (w.1 (m + 2)) c) {r n : Int} (hrr : r32 r) (hrn : r32 n) : jCall 151 [jO m, jI r, jI n] w (fun v w1 => ((¬ (0 ≤ r ∧ r < (c : Int))) → jno w m 1 (jI (1000000000 - (-1))) v w1) ∧ (¬ (¬ (0 ≤ r ∧ r < (c : Int))) → (n < 0) → jno w m 4 (jI (1000000000 - (-4))) v w1) ∧ (¬ (¬ (0 ≤ r ∧ r < (c : Int))) → ¬ (n < 0) → ∃ (t : Nat → Int) (len : Nat) (why left : Int), zTR (w.1 (m + 2)) r.toNat t len why left ∧ ((n.toNat < len ∧ v = some (jI (t n.toNat)) ∧ mq w m w1) ∨ (¬ n.toNat < len ∧ jnq w m 3 (jI (1000000000 - (-3))) v w1)))) := by
  have mt : jtb 151 = jT151 := rfl
  have hc4 := hR.2.1
  have hrr1 : -2147483648 ≤ r ∧ r < 2147483648 := hrr
  have hrn1 : -2147483648 ≤ n ∧ n < 2147483648 := hrn
  show jWp 151 0 [some (jO m), some (jI r), some (jI n)] [] 0 0 w _
  refine jWp.blk mt 2 ?_
  show _ ∧ jWp 151 2 [some (jO m), some (jI r), some (jI n)] [jI r, jO m] 0 0 w _
  refine ⟨rfl, ?_⟩
  refine jWp.callv (as := [jO m, jI r]) (rest := []) mt rfl rfl rfl ⟨rfl, jtg hW.K0⟩ ?_
  refine jCall.mono (E_isRow hW hR hrr) (fun v9 w9 h9 => ?_)
  rcases h9 with ⟨rfl, h9, h1⟩ | ⟨rfl, h9, h1⟩ <;> subst w9
  · have h1 : 0 ≤ r ∧ r < (c : Int) := h1
    show jWp 151 5 [some (jO m), some (jI r), some (jI n)] [jI 1] 0 0 w _
    obtain ⟨r1, rfl⟩ : ∃ r1 : Nat, r = (r1 : Int) := ⟨r.toNat, by omega⟩
    show jWp 151 5 [some (jO m), some (jI (r1 : Int)), some (jI n)] [jI 1] 0 0 w _
    have hRr := hR.2.2 r1 (by omega)
    have hRo := zO_b hRr.1.1 hRr.1.2
    refine jWp.ifc (b := true) mt rfl (by decide) rfl ?_
    show jWp 151 14 [some (jO m), some (jI (r1 : Int)), some (jI n)] [] 0 0 w _
    refine jWp.blk mt 1 ?_
    show jWp 151 15 [some (jO m), some (jI (r1 : Int)), some (jI n)] [jI n] 0 0 w _
    refine jWp.ifz (pc' := 18) mt rfl rfl (b32_id (by omega) (by omega)) (fun h2 => ?_) (fun h2 => ?_)
    · have h2 : 0 ≤ n := h2
      obtain ⟨n1, rfl⟩ : ∃ n1 : Nat, n = (n1 : Int) := ⟨n.toNat, by omega⟩
      show jWp 151 25 [some (jO m), some (jI (r1 : Int)), some (jI (n1 : Int))] [] 0 0 w _
      refine jWp.blk mt 2 ?_
      show _ ∧ jWp 151 27 [some (jO m), some (jI (r1 : Int)), some (jI (n1 : Int))] [jI (r1 : Int), jO m] 0 0 w _
      refine ⟨rfl, ?_⟩
      refine jWp.callv (as := [jO m, jI (r1 : Int)]) (rest := []) mt rfl rfl rfl ⟨rfl, jtg hW.K0⟩ ?_
      refine jCall.mono (E_terms (w := w) (x := r1) hW (by omega) rfl rfl hRr.1.1 hRr.1.2 hRr.2.1 hRr.2.2) (fun v9 w9 h9 => ?_)
      obtain ⟨rfl, hF, len, why, left, k4, k5, k6, hG, hE⟩ := h9
      obtain ⟨M1, G9⟩ := w9
      have hg : G9 = w.2 := hF.1
      subst hg
      have k4 : M1 m 4 = (len : Int) := k4
      have k5 : M1 m 5 = why := k5
      have k6 : M1 m 6 = left := k6
      have hTR : zTR (w.1 (m + 2)) r1 (M1 (m + 4)) len why left := ⟨hG, hE⟩
      have hTb := zTR_b hR (by omega) hTR
      have hEb := zEn_b hR (by omega) hTR
      have hmq : mq w m (M1, w.2) := ztr_q hF
      have hM2 : M1 (m + 2) = w.1 (m + 2) := hmq.2.1 _ (by omega)
      show jWp 151 30 [some (jO m), some (jI (r1 : Int)), some (jI (n1 : Int))] [] 0 0 (M1, w.2) _
      refine jWp.blk mt 2 ?_
      show _ ∧ jWp 151 32 [some (jO m), some (jI (r1 : Int)), some (jI (n1 : Int))] [jO m, jI (n1 : Int)] 0 0 (M1, w.2) _
      refine ⟨rfl, ?_⟩
      refine jWp.getI (pc' := 35) mt rfl rfl (jtg hW.K0) ?_
      rw [show ((M1, w.2).1 m 4) = (len : Int) from k4]
      show jWp 151 35 [some (jO m), some (jI (r1 : Int)), some (jI (n1 : Int))] [jI (len : Int), jI (n1 : Int)] 0 0 (M1, w.2) _
      refine jWp.icmp (pc' := 38) mt rfl rfl (b32_id (by omega) (by omega)) (b32_id (by omega) (by omega)) (fun h3 => ?_) (fun h3 => ?_)
      · have h3 : (len : Int) ≤ (n1 : Int) := h3
        refine jWp.blk mt 2 ?_
        show _ ∧ jWp 151 51 [some (jO m), some (jI (r1 : Int)), some (jI (n1 : Int))] [jI (-3), jO m] 0 0 (M1, w.2) _
        refine ⟨rfl, ?_⟩
        refine jWp.callv (as := [jO m, jI (-3)]) (rest := []) mt rfl rfl rfl ⟨rfl, jtg hW.K0⟩ ?_
        refine jCall.mono (E_far (w := (M1, w.2)) (j := 3) hW (by decide) (by decide)) (fun v9 w9 h9 => ?_)
        obtain ⟨rfl, h9⟩ := h9
        subst h9
        show jWp 151 54 [some (jO m), some (jI (r1 : Int)), some (jI (n1 : Int))] [jI (1000000000 - (-3))] 0 0 (jW (M1, w.2) (m + 3) 3 (((M1, w.2).1 (m + 3) 3) + 1)) _
        refine jWp.ireti mt rfl ⟨rfl, rfl⟩ rfl ?_
        try rw [show ((r1 : Nat) : Int).toNat = r1 from rfl]
        try rw [show ((n1 : Nat) : Int).toNat = n1 from rfl]
        refine ⟨fun c0 => ?_, fun c0 c1 => ?_, fun c0 c1 => ?_⟩
        all_goals first
        | (exfalso; omega)
        | exact ⟨rfl, rfl⟩
        | exact ⟨M1 (m + 4), len, why, left, hTR, Or.inl ⟨by omega, rfl, hmq⟩⟩
        | exact ⟨M1 (m + 4), len, why, left, hTR, Or.inr ⟨by omega, jnq_2 hmq⟩⟩
      · have h3 : (n1 : Int) < (len : Int) := h3
        refine jWp.blk mt 1 ?_
        show _ ∧ jWp 151 39 [some (jO m), some (jI (r1 : Int)), some (jI (n1 : Int))] [jO m] 0 0 (M1, w.2) _
        refine ⟨rfl, ?_⟩
        refine jWp.getR (pc' := 42) (o := (m + 4)) mt rfl rfl (jtg hW.K0) hW.R3 ?_
        show jWp 151 42 [some (jO m), some (jI (r1 : Int)), some (jI (n1 : Int))] [jO (m + 4)] 0 0 (M1, w.2) _
        refine jWp.blk mt 1 ?_
        show jWp 151 43 [some (jO m), some (jI (r1 : Int)), some (jI (n1 : Int))] [jI (n1 : Int), jO (m + 4)] 0 0 (M1, w.2) _
        refine jWp.lald (pc' := 44) (j := n1) mt rfl rfl (jtg hW.K4) (b32_id (by omega) (by omega)) (jlt hW.K4 (by omega)) ?_
        rw [show ((M1, w.2).1 (m + 4) n1) = (M1 (m + 4) n1) from rfl]
        show jWp 151 44 [some (jO m), some (jI (r1 : Int)), some (jI (n1 : Int))] [jJ (M1 (m + 4) n1)] 0 0 (M1, w.2) _
        refine jWp.blk mt 2 ?_
        show jWp 151 54 [some (jO m), some (jI (r1 : Int)), some (jI (n1 : Int))] [jI (M1 (m + 4) n1)] 0 0 (M1, w.2) _
        refine jWp.ireti mt rfl ⟨rfl, rfl⟩ rfl ?_
        try rw [show ((r1 : Nat) : Int).toNat = r1 from rfl]
        try rw [show ((n1 : Nat) : Int).toNat = n1 from rfl]
        refine ⟨fun c0 => ?_, fun c0 c1 => ?_, fun c0 c1 => ?_⟩
        all_goals first
        | (exfalso; omega)
        | exact ⟨rfl, rfl⟩
        | exact ⟨M1 (m + 4), len, why, left, hTR, Or.inl ⟨by omega, rfl, hmq⟩⟩
        | exact ⟨M1 (m + 4), len, why, left, hTR, Or.inr ⟨by omega, jnq_2 hmq⟩⟩
    · have h2 : n < 0 := h2
      refine jWp.blk mt 2 ?_
      show _ ∧ jWp 151 21 [some (jO m), some (jI (r1 : Int)), some (jI n)] [jI (-4), jO m] 0 0 w _
      refine ⟨rfl, ?_⟩
      refine jWp.callv (as := [jO m, jI (-4)]) (rest := []) mt rfl rfl rfl ⟨rfl, jtg hW.K0⟩ ?_
      refine jCall.mono (E_far (w := w) (j := 4) hW (by decide) (by decide)) (fun v9 w9 h9 => ?_)
      obtain ⟨rfl, h9⟩ := h9
      subst h9
      show jWp 151 24 [some (jO m), some (jI (r1 : Int)), some (jI n)] [jI (1000000000 - (-4))] 0 0 (jW w (m + 3) 4 ((w.1 (m + 3) 4) + 1)) _
      refine jWp.ireti mt rfl ⟨rfl, rfl⟩ rfl ?_
      try rw [show ((r1 : Nat) : Int).toNat = r1 from rfl]
      try rw [show ((n1 : Nat) : Int).toNat = n1 from rfl]
      refine ⟨fun c0 => ?_, fun c0 c1 => ?_, fun c0 c1 => ?_⟩
      all_goals first
      | (exfalso; omega)
      | exact ⟨rfl, rfl⟩
      | exact ⟨M1 (m + 4), len, why, left, hTR, Or.inl ⟨by omega, rfl, hmq⟩⟩
      | exact ⟨M1 (m + 4), len, why, left, hTR, Or.inr ⟨by omega, jnq_2 hmq⟩⟩
  · have h1 : ¬ (0 ≤ r ∧ r < (c : Int)) := h1
    show jWp 151 5 [some (jO m), some (jI r), some (jI n)] [jI 0] 0 0 w _
    refine jWp.ifc (b := false) mt rfl (by decide) rfl ?_
    show jWp 151 8 [some (jO m), some (jI r), some (jI n)] [] 0 0 w _
    refine jWp.blk mt 2 ?_
    show _ ∧ jWp 151 10 [some (jO m), some (jI r), some (jI n)] [jI (-1), jO m] 0 0 w _
    refine ⟨rfl, ?_⟩
    refine jWp.callv (as := [jO m, jI (-1)]) (rest := []) mt rfl rfl rfl ⟨rfl, jtg hW.K0⟩ ?_
    refine jCall.mono (E_far (w := w) (j := 1) hW (by decide) (by decide)) (fun v9 w9 h9 => ?_)
    obtain ⟨rfl, h9⟩ := h9
    subst h9
    show jWp 151 13 [some (jO m), some (jI r), some (jI n)] [jI (1000000000 - (-1))] 0 0 (jW w (m + 3) 1 ((w.1 (m + 3) 1) + 1)) _
    refine jWp.ireti mt rfl ⟨rfl, rfl⟩ rfl ?_
    try rw [show ((r1 : Nat) : Int).toNat = r1 from rfl]
    try rw [show ((n1 : Nat) : Int).toNat = n1 from rfl]
    refine ⟨fun c0 => ?_, fun c0 c1 => ?_, fun c0 c1 => ?_⟩
    all_goals first
    | (exfalso; omega)
    | exact ⟨rfl, rfl⟩
    | exact ⟨M1 (m + 4), len, why, left, hTR, Or.inl ⟨by omega, rfl, hmq⟩⟩
    | exact ⟨M1 (m + 4), len, why, left, hTR, Or.inr ⟨by omega, jnq_2 hmq⟩⟩
set_option maxHeartbeats 4000000 in
set_option maxRecDepth 20000 in
theorem E_areKept {w : jS} {m : Nat} (hW : MW w.2 m) {len n q : Nat} (hl : w.1 m 4 = (len : Int)) (hl60 : len ≤ 60) (hb : ∀ j, j < len → -100000000 ≤ w.1 (m + 4) j ∧ w.1 (m + 4) j ≤ 100000000) (hn : n < 60) (hq : q ≤ 4) : jCall 152 [jO m, jI (n : Int), jI (q : Int)] w (jvb (∀ k, n ≤ k → k < n + q → k < len ∧ 1 ≤ w.1 (m + 4) k ∧ w.1 (m + 4) k ≤ 9999) w) := by
  have mt : jtb 152 = jT152 := rfl
  show jWp 152 0 [some (jO m), some (jI (n : Int)), some (jI (q : Int)), none] [] 0 0 w _
  refine jWp.blk mt 2 ?_
  show jWp 152 2 [some (jO m), some (jI (n : Int)), some (jI (q : Int)), some (jI (n : Int))] [] 0 0 w _
  have lp1 : ∀ (N : Nat) (k : Nat) (hk : n ≤ k ∧ k ≤ n + q) (hA : ∀ x, n ≤ x → x < k → x < len ∧ 1 ≤ w.1 (m + 4) x ∧ w.1 (m + 4) x ≤ 9999), n + q - k < N → jWp 152 2 [some (jO m), some (jI (n : Int)), some (jI (q : Int)), some (jI (k : Int))] [] 0 0 w (jvb (∀ k, n ≤ k → k < n + q → k < len ∧ 1 ≤ w.1 (m + 4) k ∧ w.1 (m + 4) k ≤ 9999) w) := by
    intro N
    induction N with
    | zero => intro k hk hA hm; omega
    | succ N ih2 =>
      intro k hk hA hm
      have hf : k < len → _ := fun h => hb k h
      refine jWp.blk mt 4 ?_
      show jWp 152 6 [some (jO m), some (jI (n : Int)), some (jI (q : Int)), some (jI (k : Int))] [jI ((n : Int) + (q : Int)), jI (k : Int)] 0 0 w _
      refine jWp.icmp (pc' := 9) mt rfl rfl (b32_id (by omega) (by omega)) (b32_id (by omega) (by omega)) (fun h3 => ?_) (fun h3 => ?_)
      · have h3 : ((n : Int) + (q : Int)) ≤ (k : Int) := h3
        refine jWp.blk mt 1 ?_
        show jWp 152 42 [some (jO m), some (jI (n : Int)), some (jI (q : Int)), some (jI (k : Int))] [jI 1] 0 0 w _
        refine jWp.iretz mt rfl ⟨rfl, rfl⟩ rfl (Or.inr rfl) ?_
        exact Or.inl ⟨rfl, rfl, fun x h1 h2 => hA x h1 (by omega)⟩
      · have h3 : (k : Int) < ((n : Int) + (q : Int)) := h3
        refine jWp.blk mt 2 ?_
        show _ ∧ jWp 152 11 [some (jO m), some (jI (n : Int)), some (jI (q : Int)), some (jI (k : Int))] [jO m, jI (k : Int)] 0 0 w _
        refine ⟨rfl, ?_⟩
        refine jWp.getI (pc' := 14) mt rfl rfl (jtg hW.K0) ?_
        rw [show (w.1 m 4) = (len : Int) from hl]
        show jWp 152 14 [some (jO m), some (jI (n : Int)), some (jI (q : Int)), some (jI (k : Int))] [jI (len : Int), jI (k : Int)] 0 0 w _
        refine jWp.icmp (pc' := 17) mt rfl rfl (b32_id (by omega) (by omega)) (b32_id (by omega) (by omega)) (fun h4 => ?_) (fun h4 => ?_)
        · have h4 : (len : Int) ≤ (k : Int) := h4
          refine jWp.blk mt 1 ?_
          show jWp 152 34 [some (jO m), some (jI (n : Int)), some (jI (q : Int)), some (jI (k : Int))] [jI 0] 0 0 w _
          refine jWp.iretz mt rfl ⟨rfl, rfl⟩ rfl (Or.inl rfl) ?_
          exact Or.inr ⟨rfl, rfl, fun g => by have g := g k (by omega) (by omega); omega⟩
        · have h4 : (k : Int) < (len : Int) := h4
          refine jWp.blk mt 1 ?_
          show _ ∧ jWp 152 18 [some (jO m), some (jI (n : Int)), some (jI (q : Int)), some (jI (k : Int))] [jO m] 0 0 w _
          refine ⟨rfl, ?_⟩
          refine jWp.getR (pc' := 21) (o := (m + 4)) mt rfl rfl (jtg hW.K0) hW.R3 ?_
          show jWp 152 21 [some (jO m), some (jI (n : Int)), some (jI (q : Int)), some (jI (k : Int))] [jO (m + 4)] 0 0 w _
          refine jWp.blk mt 1 ?_
          show jWp 152 22 [some (jO m), some (jI (n : Int)), some (jI (q : Int)), some (jI (k : Int))] [jI (k : Int), jO (m + 4)] 0 0 w _
          refine jWp.lald (pc' := 23) (j := k) mt rfl rfl (jtg hW.K4) (b32_id (by omega) (by omega)) (jlt hW.K4 (by omega)) ?_
          show jWp 152 23 [some (jO m), some (jI (n : Int)), some (jI (q : Int)), some (jI (k : Int))] [jJ (w.1 (m + 4) k)] 0 0 w _
          refine jWp.blk mt 2 ?_
          show jWp 152 27 [some (jO m), some (jI (n : Int)), some (jI (q : Int)), some (jI (k : Int))] [jJ 9999, jJ 1, jJ (w.1 (m + 4) k)] 0 0 w _
          refine jWp.calls (as := [jJ (w.1 (m + 4) k), jJ 1, jJ 9999]) (rest := []) mt rfl rfl rfl rfl ?_
          refine jCall.mono (E_in (b64_id (by omega) (by omega)) (show b64 1 = 1 by decide) (show b64 9999 = 9999 by decide)) (fun v9 w9 h9 => ?_)
          rcases h9 with ⟨rfl, h9, h5⟩ | ⟨rfl, h9, h5⟩ <;> subst w9
          · have h5 : 1 ≤ (w.1 (m + 4) k) ∧ (w.1 (m + 4) k) ≤ 9999 := h5
            show jWp 152 30 [some (jO m), some (jI (n : Int)), some (jI (q : Int)), some (jI (k : Int))] [jI 1] 0 0 w _
            refine jWp.ifc (b := true) mt rfl (by decide) rfl ?_
            show jWp 152 35 [some (jO m), some (jI (n : Int)), some (jI (q : Int)), some (jI (k : Int))] [] 0 0 w _
            refine jWp.blk mt 2 ?_
            show jWp 152 2 [some (jO m), some (jI (n : Int)), some (jI (q : Int)), some (jI ((k : Int) + 1))] [] 0 0 w _
            refine jWp.le (l := [some (jO m), some (jI (n : Int)), some (jI (q : Int)), some (jI ((k : Int) + 1))]) (by exact ⟨rfl, rfl, rfl, rfl, trivial⟩) ?_
            exact ih2 (k + 1) (by omega) (fun x h1 h2 => by rcases Nat.lt_or_ge x k with e | e; exact hA x h1 e; rw [show x = k by omega]; exact ⟨by omega, by omega, by omega⟩) (by omega)
          · have h5 : ¬ (1 ≤ (w.1 (m + 4) k) ∧ (w.1 (m + 4) k) ≤ 9999) := h5
            show jWp 152 30 [some (jO m), some (jI (n : Int)), some (jI (q : Int)), some (jI (k : Int))] [jI 0] 0 0 w _
            refine jWp.ifc (b := false) mt rfl (by decide) rfl ?_
            show jWp 152 33 [some (jO m), some (jI (n : Int)), some (jI (q : Int)), some (jI (k : Int))] [] 0 0 w _
            refine jWp.blk mt 1 ?_
            show jWp 152 34 [some (jO m), some (jI (n : Int)), some (jI (q : Int)), some (jI (k : Int))] [jI 0] 0 0 w _
            refine jWp.iretz mt rfl ⟨rfl, rfl⟩ rfl (Or.inl rfl) ?_
            exact Or.inr ⟨rfl, rfl, fun g => by have g := g k (by omega) (by omega); omega⟩
  refine jWp.le (l := [some (jO m), some (jI (n : Int)), some (jI (q : Int)), some (jI (n : Int))]) (by exact ⟨rfl, rfl, rfl, rfl, trivial⟩) ?_
  exact lp1 _ n (by omega) (fun x h1 h2 => absurd h1 (by omega)) (Nat.lt_succ_self _)
end
section
theorem E_termsW {w W : jS} {m c x : Nat} (hW : MW w.2 m) (hR : zRw (w.1 (m + 2)) c) (hx : x < c) (hq : mq w m W) : jCall 146 [jO m, jI (x : Int)] W (fun v w1 => v = none ∧ ztr W m w1 ∧ mq w m w1 ∧ ∃ (len : Nat) (why left : Int), w1.1 m 4 = (len : Int) ∧ w1.1 m 5 = why ∧ w1.1 m 6 = left ∧ zTR (w.1 (m + 2)) x (w1.1 (m + 4)) len why left) := by
  have e2 : W.1 (m + 2) = w.1 (m + 2) := hq.2.1 _ (by omega)
  have g := hR.2.2 x hx
  have c4 := hR.2.1
  have hW2 : MW W.2 m := by rw [hq.1]; exact hW
  refine jCall.mono (E_terms (w := W) (x := x) (law := w.1 (m + 2) (1 + 10 * x)) (f := w.1 (m + 2) (2 + 10 * x)) hW2 (by omega) (congrFun e2 _) (congrFun e2 _) g.1.1 g.1.2 g.2.1 (by rw [e2]; exact g.2.2)) (fun v w1 h => ?_)
  obtain ⟨h1, h2, len, why, left, h4, h5, h6, h7, h8⟩ := h
  rw [e2] at h7
  exact ⟨h1, h2, mq_t hq (ztr_q h2), len, why, left, h4, h5, h6, h7, h8⟩
theorem jW4 {w : jS} {m : Nat} {a b c d : Int} : jW (jW (jW (jW w m 8 a) m 9 b) m 8 c) m 9 d = jW (jW w m 8 c) m 9 d := by
  unfold jW jup
  refine Prod.ext (funext fun x => funext fun j => ?_) rfl
  dsimp only
  by_cases h9 : x = m ∧ j = 9
  · simp only [if_pos h9]
  · by_cases h8 : x = m ∧ j = 8
    · simp only [if_neg h9, if_pos h8]
    · simp only [if_neg h9, if_neg h8]
/-- how many terms are looked at for what is kept -/
def zkm (law : Int) : Nat := if law = 0 then 2 else if law = 1 then 3 else if law = 3 then 4 else 0
def zku (law f : Int) (t : Nat → Int) (n : Nat) : Int := if law = 0 then t n * t n + t (n + 1) * t (n + 1) - f * t n * t (n + 1) else if law = 1 then t n + t (n + 2) else (t n * t (n + 3)) * (t n * t (n + 3)) + t (n + 1) * t (n + 1) * t (n + 1) * t (n + 3) + t (n + 2) * t (n + 2) * t n * t (n + 2) + f * (t (n + 1) * t (n + 2)) * (t (n + 1) * t (n + 2))
def zkd (law : Int) (t : Nat → Int) (n : Nat) : Int := if law = 0 then 1 else if law = 1 then t (n + 1) else (t n * t (n + 3)) * (t (n + 1) * t (n + 2))
def zkp (law : Int) (t : Nat → Int) (len n : Nat) : Prop := zkm law ≠ 0 ∧ ∀ k, n ≤ k → k < n + zkm law → k < len ∧ 1 ≤ t k ∧ t k ≤ 9999
theorem zkp_l {law : Int} {t : Nat → Int} {len n : Nat} (h : zkp law t len n) : n < len := (h.2 n (Nat.le_refl n) (by have := h.1; omega)).1
theorem zk2 {x y a b : Int} (hx : 1 ≤ x ∧ x ≤ a) (hy : 1 ≤ y ∧ y ≤ b) : 1 ≤ x * y ∧ x * y ≤ a * b := ⟨zmul1 hx.1 hy.1, Int.mul_le_mul hx.2 hy.2 (by omega) (by omega)⟩
theorem zkU0 {f a b : Int} (hf : 0 ≤ f ∧ f ≤ 9) (ha : 1 ≤ a ∧ a ≤ 9999) (hb : 1 ≤ b ∧ b ≤ 9999) : -10000000000 ≤ a * a + b * b - f * a * b ∧ a * a + b * b - f * a * b ≤ 10000000000 := by
  have h1 := zk2 ha ha
  have h2 := zk2 hb hb
  have h3 := zk2 ha hb
  have h4 := zmulA (x := f) (y := a * b) (a := 9) (b := 9999 * 9999) (by omega) (by omega) (by decide) (by decide)
  rw [Int.mul_assoc]
  omega
theorem zkU3 {f a b c d : Int} (hf : 0 ≤ f ∧ f ≤ 9) (ha : 1 ≤ a ∧ a ≤ 9999) (hb : 1 ≤ b ∧ b ≤ 9999) (hc : 1 ≤ c ∧ c ≤ 9999) (hd : 1 ≤ d ∧ d ≤ 9999) : (1 ≤ (a * d) * (a * d) + b * b * b * d + c * c * a * c + f * (b * c) * (b * c) ∧ (a * d) * (a * d) + b * b * b * d + c * c * a * c + f * (b * c) * (b * c) ≤ 200000000000000000) ∧ 1 ≤ (a * d) * (b * c) ∧ (a * d) * (b * c) ≤ 10000000000000000 := by
  have h1 := zk2 (zk2 ha hd) (zk2 ha hd)
  have h2 := zk2 (zk2 (zk2 hb hb) hb) hd
  have h3 := zk2 (zk2 (zk2 hc hc) ha) hc
  have h4 := zk2 (zk2 hb hc) (zk2 hb hc)
  have h5 := zk2 (zk2 ha hd) (zk2 hb hc)
  have h6 := zmulA (x := f) (y := (b * c) * (b * c)) (a := 9) (b := 9999 * 9999 * (9999 * 9999)) (by omega) (by omega) (by decide) (by decide)
  rw [← Int.mul_assoc f (b * c) (b * c)] at h6
  have h7 : 0 ≤ f * (b * c) * (b * c) := Int.mul_nonneg (Int.mul_nonneg hf.1 (by have := zk2 hb hc; omega)) (by have := zk2 hb hc; omega)
  omega
theorem zuA {a b : Int} (hb : 0 < b) : (zu a b).natAbs ≤ a.natAbs := by
  unfold zu
  rw [Int.natAbs_tdiv]
  exact Nat.div_le_self _ _
theorem zg_r {a b : Int} (ha : -100000000 ≤ a ∧ a ≤ 100000000) (hb : -100000000 ≤ b ∧ b ≤ 100000000) : 0 ≤ zg a b ∧ zg a b ≤ 100000000 := by
  unfold zg
  refine ⟨by omega, ?_⟩
  by_cases h : a = 0
  · subst h
    rw [Int.gcd_zero_left]
    omega
  · have := Int.gcd_le_natAbs_left b h
    omega
set_option maxHeartbeats 4000000 in
set_option maxRecDepth 20000 in
theorem E_keeps {w : jS} {m : Nat} (hW : MW w.2 m) {len x n : Nat} {law f : Int} (hl : w.1 m 4 = (len : Int)) (hl60 : len ≤ 60) (hb : ∀ j, j < len → -100000000 ≤ w.1 (m + 4) j ∧ w.1 (m + 4) j ≤ 100000000) (hx : x < 4) (hlaw : w.1 (m + 2) (1 + 10 * x) = law) (hfig : w.1 (m + 2) (2 + 10 * x) = f) (hl0 : 0 ≤ law) (hl6 : law ≤ 6) (hf : 0 ≤ f ∧ f ≤ 9) (hn : n < 2147483648) : jCall 153 [jO m, jI (x : Int), jI (n : Int)] w (fun v w1 => (v = some (jI 1) ∧ zkp law (w.1 (m + 4)) len n ∧ w1 = jW (jW w m 8 (zu (zku law f (w.1 (m + 4)) n) (zkd law (w.1 (m + 4)) n))) m 9 (zv (zku law f (w.1 (m + 4)) n) (zkd law (w.1 (m + 4)) n)) ∧ (-200000000000000000 ≤ (zu (zku law f (w.1 (m + 4)) n) (zkd law (w.1 (m + 4)) n)) ∧ (zu (zku law f (w.1 (m + 4)) n) (zkd law (w.1 (m + 4)) n)) ≤ 200000000000000000) ∧ 1 ≤ (zv (zku law f (w.1 (m + 4)) n) (zkd law (w.1 (m + 4)) n)) ∧ (zv (zku law f (w.1 (m + 4)) n) (zkd law (w.1 (m + 4)) n)) ≤ 200000000000000000) ∨ (v = some (jI 0) ∧ ¬ zkp law (w.1 (m + 4)) len n ∧ w1 = w)) := by
  have mt : jtb 153 = jT153 := rfl
  show jWp 153 0 [some (jO m), some (jI (x : Int)), some (jI (n : Int)), none, none, none, none, none, none, none, none] [] 0 0 w _
  refine jWp.blk mt 2 ?_
  show _ ∧ jWp 153 2 [some (jO m), some (jI (x : Int)), some (jI (n : Int)), none, none, none, none, none, none, none, none] [jI (x : Int), jO m] 0 0 w _
  refine ⟨rfl, ?_⟩
  refine jWp.callv (as := [jO m, jI (x : Int)]) (rest := []) mt rfl rfl rfl ⟨rfl, jtg hW.K0⟩ ?_
  refine jCall.mono ((by have h := E_law (w := w) (x := x) hW hx; rw [hlaw] at h; exact h)) (fun v9 w9 h9 => ?_)
  obtain ⟨rfl, h9⟩ := h9
  subst w9
  show jWp 153 5 [some (jO m), some (jI (x : Int)), some (jI (n : Int)), none, none, none, none, none, none, none, none] [jI law] 0 0 w _
  refine jWp.blk mt 2 ?_
  show jWp 153 7 [some (jO m), some (jI (x : Int)), some (jI (n : Int)), some (jI law), none, none, none, none, none, none, none] [jI law] 0 0 w _
  refine jWp.ifz (pc' := 10) mt rfl rfl (b32_id (by omega) (by omega)) (fun h1 => ?_) (fun h1 => ?_)
  · have h1 : law ≠ 0 := h1
    refine jWp.blk mt 2 ?_
    show jWp 153 16 [some (jO m), some (jI (x : Int)), some (jI (n : Int)), some (jI law), none, none, none, none, none, none, none] [jI 1, jI law] 0 0 w _
    refine jWp.icmp (pc' := 19) mt rfl rfl (b32_id (by omega) (by omega)) (show b32 1 = 1 by decide) (fun h2 => ?_) (fun h2 => ?_)
    · have h2 : law ≠ 1 := h2
      refine jWp.blk mt 2 ?_
      show jWp 153 25 [some (jO m), some (jI (x : Int)), some (jI (n : Int)), some (jI law), none, none, none, none, none, none, none] [jI 3, jI law] 0 0 w _
      refine jWp.icmp (pc' := 28) mt rfl rfl (b32_id (by omega) (by omega)) (show b32 3 = 3 by decide) (fun h3 => ?_) (fun h3 => ?_)
      · have h3 : law ≠ 3 := h3
        refine jWp.blk mt 3 ?_
        show jWp 153 37 [some (jO m), some (jI (x : Int)), some (jI (n : Int)), some (jI law), some (jI 0), none, none, none, none, none, none] [jI 0] 0 0 w _
        refine jWp.ifc (b := true) mt rfl (by decide) rfl ?_
        show jWp 153 56 [some (jO m), some (jI (x : Int)), some (jI (n : Int)), some (jI law), some (jI 0), none, none, none, none, none, none] [] 0 0 w _
        refine jWp.blk mt 1 ?_
        show jWp 153 57 [some (jO m), some (jI (x : Int)), some (jI (n : Int)), some (jI law), some (jI 0), none, none, none, none, none, none] [jI 0] 0 0 w _
        refine jWp.iretz mt rfl ⟨rfl, rfl⟩ rfl (Or.inl rfl) ?_
        refine Or.inr ⟨rfl, fun g => ?_, rfl⟩
        first
        | (exact g.1 (by unfold zkm; rw [if_neg (by omega), if_neg (by omega), if_neg (by omega)]))
        | (have := zkp_l g; omega)
        | (have ez : zkm law = 2 := by unfold zkm; rw [if_pos (by omega)]
           have g2 := g.2; rw [ez] at g2; exact absurd g2 (by assumption))
        | (have ez : zkm law = 3 := by unfold zkm; rw [if_neg (by omega), if_pos (by omega)]
           have g2 := g.2; rw [ez] at g2; exact absurd g2 (by assumption))
        | (have ez : zkm law = 4 := by unfold zkm; rw [if_neg (by omega), if_neg (by omega), if_pos (by omega)]
           have g2 := g.2; rw [ez] at g2; exact absurd g2 (by assumption))
      · have h3 : law = 3 := h3
        refine jWp.blk mt 4 ?_
        show jWp 153 37 [some (jO m), some (jI (x : Int)), some (jI (n : Int)), some (jI law), some (jI 4), none, none, none, none, none, none] [jI 4] 0 0 w _
        refine jWp.ifc (b := false) mt rfl (by decide) rfl ?_
        show jWp 153 40 [some (jO m), some (jI (x : Int)), some (jI (n : Int)), some (jI law), some (jI 4), none, none, none, none, none, none] [] 0 0 w _
        refine jWp.blk mt 2 ?_
        show jWp 153 43 [some (jO m), some (jI (x : Int)), some (jI (n : Int)), some (jI law), some (jI 4), none, none, none, none, none, none] [jI 60, jI (n : Int)] 0 0 w _
        refine jWp.icmp (pc' := 46) mt rfl rfl (b32_id (by omega) (by omega)) (show b32 60 = 60 by decide) (fun h4 => ?_) (fun h4 => ?_)
        · have h4 : 60 ≤ (n : Int) := h4
          refine jWp.blk mt 1 ?_
          show jWp 153 57 [some (jO m), some (jI (x : Int)), some (jI (n : Int)), some (jI law), some (jI 4), none, none, none, none, none, none] [jI 0] 0 0 w _
          refine jWp.iretz mt rfl ⟨rfl, rfl⟩ rfl (Or.inl rfl) ?_
          refine Or.inr ⟨rfl, fun g => ?_, rfl⟩
          first
          | (exact g.1 (by unfold zkm; rw [if_neg (by omega), if_neg (by omega), if_neg (by omega)]))
          | (have := zkp_l g; omega)
          | (have ez : zkm law = 2 := by unfold zkm; rw [if_pos (by omega)]
             have g2 := g.2; rw [ez] at g2; exact absurd g2 (by assumption))
          | (have ez : zkm law = 3 := by unfold zkm; rw [if_neg (by omega), if_pos (by omega)]
             have g2 := g.2; rw [ez] at g2; exact absurd g2 (by assumption))
          | (have ez : zkm law = 4 := by unfold zkm; rw [if_neg (by omega), if_neg (by omega), if_pos (by omega)]
             have g2 := g.2; rw [ez] at g2; exact absurd g2 (by assumption))
        · have h4 : (n : Int) < 60 := h4
          refine jWp.blk mt 3 ?_
          show _ ∧ jWp 153 50 [some (jO m), some (jI (x : Int)), some (jI (n : Int)), some (jI law), some (jI 4), none, none, none, none, none, none] [jI 4, jI (n : Int), jO m] 0 0 w _
          refine ⟨rfl, ?_⟩
          refine jWp.callv (as := [jO m, jI (n : Int), jI 4]) (rest := []) mt rfl rfl rfl ⟨rfl, jtg hW.K0⟩ ?_
          refine jCall.mono (E_areKept (w := w) (len := len) (n := n) (q := 4) hW hl hl60 hb (by omega) (by decide)) (fun v9 w9 h9 => ?_)
          rcases h9 with ⟨rfl, h9, h5⟩ | ⟨rfl, h9, h5⟩ <;> subst w9
          · have h5 : ∀ k, n ≤ k → k < n + 4 → k < len ∧ 1 ≤ w.1 (m + 4) k ∧ w.1 (m + 4) k ≤ 9999 := h5
            show jWp 153 53 [some (jO m), some (jI (x : Int)), some (jI (n : Int)), some (jI law), some (jI 4), none, none, none, none, none, none] [jI 1] 0 0 w _
            have b0 := h5 (n + 0) (by omega) (by omega)
            have b1 := h5 (n + 1) (by omega) (by omega)
            have b2 := h5 (n + 2) (by omega) (by omega)
            have b3 := h5 (n + 3) (by omega) (by omega)
            have hU := zkU3 hf b0.2 b1.2 b2.2 b3.2
            rw [show n + 0 = n from rfl] at b0 hU
            refine jWp.ifc (b := true) mt rfl (by decide) rfl ?_
            show jWp 153 58 [some (jO m), some (jI (x : Int)), some (jI (n : Int)), some (jI law), some (jI 4), none, none, none, none, none, none] [] 0 0 w _
            refine jWp.blk mt 2 ?_
            show _ ∧ jWp 153 60 [some (jO m), some (jI (x : Int)), some (jI (n : Int)), some (jI law), some (jI 4), none, none, none, none, none, none] [jI (x : Int), jO m] 0 0 w _
            refine ⟨rfl, ?_⟩
            refine jWp.callv (as := [jO m, jI (x : Int)]) (rest := []) mt rfl rfl rfl ⟨rfl, jtg hW.K0⟩ ?_
            refine jCall.mono ((by have h := E_figure (w := w) (x := x) hW hx; rw [hfig] at h; exact h)) (fun v9 w9 h9 => ?_)
            obtain ⟨rfl, h9⟩ := h9
            subst w9
            show jWp 153 63 [some (jO m), some (jI (x : Int)), some (jI (n : Int)), some (jI law), some (jI 4), none, none, none, none, none, none] [jI f] 0 0 w _
            refine jWp.i2l (pc' := 64) mt rfl rfl (b32_id (by omega) (by omega)) ?_
            show jWp 153 64 [some (jO m), some (jI (x : Int)), some (jI (n : Int)), some (jI law), some (jI 4), none, none, none, none, none, none] [jJ f] 0 0 w _
            refine jWp.blk mt 2 ?_
            show jWp 153 67 [some (jO m), some (jI (x : Int)), some (jI (n : Int)), some (jI law), some (jI 4), some (jJ f), none, none, none, none, none] [jI law] 0 0 w _
            refine jWp.ifz (pc' := 70) mt rfl rfl (b32_id (by omega) (by omega)) (fun h6 => ?_) (fun h6 => ?_)
            · have h6 : law ≠ 0 := h6
              refine jWp.blk mt 2 ?_
              show jWp 153 134 [some (jO m), some (jI (x : Int)), some (jI (n : Int)), some (jI law), some (jI 4), some (jJ f), none, none, none, none, none] [jI 1, jI law] 0 0 w _
              refine jWp.icmp (pc' := 137) mt rfl rfl (b32_id (by omega) (by omega)) (show b32 1 = 1 by decide) (fun h7 => ?_) (fun h7 => ?_)
              · have h7 : law ≠ 1 := h7
                refine jWp.blk mt 1 ?_
                show _ ∧ jWp 153 172 [some (jO m), some (jI (x : Int)), some (jI (n : Int)), some (jI law), some (jI 4), some (jJ f), none, none, none, none, none] [jO m] 0 0 w _
                refine ⟨rfl, ?_⟩
                refine jWp.getR (pc' := 175) (o := (m + 4)) mt rfl rfl (jtg hW.K0) hW.R3 ?_
                show jWp 153 175 [some (jO m), some (jI (x : Int)), some (jI (n : Int)), some (jI law), some (jI 4), some (jJ f), none, none, none, none, none] [jO (m + 4)] 0 0 w _
                refine jWp.blk mt 1 ?_
                show jWp 153 176 [some (jO m), some (jI (x : Int)), some (jI (n : Int)), some (jI law), some (jI 4), some (jJ f), none, none, none, none, none] [jI (n : Int), jO (m + 4)] 0 0 w _
                refine jWp.lald (pc' := 177) (j := n) mt rfl rfl (jtg hW.K4) (b32_id (by omega) (by omega)) (jlt hW.K4 (by omega)) ?_
                show jWp 153 177 [some (jO m), some (jI (x : Int)), some (jI (n : Int)), some (jI law), some (jI 4), some (jJ f), none, none, none, none, none] [jJ (w.1 (m + 4) n)] 0 0 w _
                refine jWp.blk mt 1 ?_
                show _ ∧ jWp 153 178 [some (jO m), some (jI (x : Int)), some (jI (n : Int)), some (jI law), some (jI 4), some (jJ f), none, none, none, none, none] [jO m, jJ (w.1 (m + 4) n)] 0 0 w _
                refine ⟨rfl, ?_⟩
                refine jWp.getR (pc' := 181) (o := (m + 4)) mt rfl rfl (jtg hW.K0) hW.R3 ?_
                show jWp 153 181 [some (jO m), some (jI (x : Int)), some (jI (n : Int)), some (jI law), some (jI 4), some (jJ f), none, none, none, none, none] [jO (m + 4), jJ (w.1 (m + 4) n)] 0 0 w _
                refine jWp.blk mt 3 ?_
                show jWp 153 184 [some (jO m), some (jI (x : Int)), some (jI (n : Int)), some (jI law), some (jI 4), some (jJ f), none, none, none, none, none] [jI ((n : Int) + 3), jO (m + 4), jJ (w.1 (m + 4) n)] 0 0 w _
                refine jWp.lald (pc' := 185) (j := (n + 3)) mt rfl rfl (jtg hW.K4) (by rw [b32_id (by omega) (by omega)]; omega) (jlt hW.K4 (by omega)) ?_
                show jWp 153 185 [some (jO m), some (jI (x : Int)), some (jI (n : Int)), some (jI law), some (jI 4), some (jJ f), none, none, none, none, none] [jJ (w.1 (m + 4) (n + 3)), jJ (w.1 (m + 4) n)] 0 0 w _
                refine jWp.blk mt 3 ?_
                show _ ∧ jWp 153 189 [some (jO m), some (jI (x : Int)), some (jI (n : Int)), some (jI law), some (jI 4), some (jJ f), none, some (jJ ((w.1 (m + 4) n) * (w.1 (m + 4) (n + 3)))), none, none, none] [jO m] 0 0 w _
                refine ⟨rfl, ?_⟩
                refine jWp.getR (pc' := 192) (o := (m + 4)) mt rfl rfl (jtg hW.K0) hW.R3 ?_
                show jWp 153 192 [some (jO m), some (jI (x : Int)), some (jI (n : Int)), some (jI law), some (jI 4), some (jJ f), none, some (jJ ((w.1 (m + 4) n) * (w.1 (m + 4) (n + 3)))), none, none, none] [jO (m + 4)] 0 0 w _
                refine jWp.blk mt 3 ?_
                show jWp 153 195 [some (jO m), some (jI (x : Int)), some (jI (n : Int)), some (jI law), some (jI 4), some (jJ f), none, some (jJ ((w.1 (m + 4) n) * (w.1 (m + 4) (n + 3)))), none, none, none] [jI ((n : Int) + 1), jO (m + 4)] 0 0 w _
                refine jWp.lald (pc' := 196) (j := (n + 1)) mt rfl rfl (jtg hW.K4) (by rw [b32_id (by omega) (by omega)]; omega) (jlt hW.K4 (by omega)) ?_
                show jWp 153 196 [some (jO m), some (jI (x : Int)), some (jI (n : Int)), some (jI law), some (jI 4), some (jJ f), none, some (jJ ((w.1 (m + 4) n) * (w.1 (m + 4) (n + 3)))), none, none, none] [jJ (w.1 (m + 4) (n + 1))] 0 0 w _
                refine jWp.blk mt 1 ?_
                show _ ∧ jWp 153 197 [some (jO m), some (jI (x : Int)), some (jI (n : Int)), some (jI law), some (jI 4), some (jJ f), none, some (jJ ((w.1 (m + 4) n) * (w.1 (m + 4) (n + 3)))), none, none, none] [jO m, jJ (w.1 (m + 4) (n + 1))] 0 0 w _
                refine ⟨rfl, ?_⟩
                refine jWp.getR (pc' := 200) (o := (m + 4)) mt rfl rfl (jtg hW.K0) hW.R3 ?_
                show jWp 153 200 [some (jO m), some (jI (x : Int)), some (jI (n : Int)), some (jI law), some (jI 4), some (jJ f), none, some (jJ ((w.1 (m + 4) n) * (w.1 (m + 4) (n + 3)))), none, none, none] [jO (m + 4), jJ (w.1 (m + 4) (n + 1))] 0 0 w _
                refine jWp.blk mt 3 ?_
                show jWp 153 203 [some (jO m), some (jI (x : Int)), some (jI (n : Int)), some (jI law), some (jI 4), some (jJ f), none, some (jJ ((w.1 (m + 4) n) * (w.1 (m + 4) (n + 3)))), none, none, none] [jI ((n : Int) + 2), jO (m + 4), jJ (w.1 (m + 4) (n + 1))] 0 0 w _
                refine jWp.lald (pc' := 204) (j := (n + 2)) mt rfl rfl (jtg hW.K4) (by rw [b32_id (by omega) (by omega)]; omega) (jlt hW.K4 (by omega)) ?_
                show jWp 153 204 [some (jO m), some (jI (x : Int)), some (jI (n : Int)), some (jI law), some (jI 4), some (jJ f), none, some (jJ ((w.1 (m + 4) n) * (w.1 (m + 4) (n + 3)))), none, none, none] [jJ (w.1 (m + 4) (n + 2)), jJ (w.1 (m + 4) (n + 1))] 0 0 w _
                refine jWp.blk mt 7 ?_
                show _ ∧ _ ∧ jWp 153 214 [some (jO m), some (jI (x : Int)), some (jI (n : Int)), some (jI law), some (jI 4), some (jJ f), none, some (jJ ((w.1 (m + 4) n) * (w.1 (m + 4) (n + 3)))), none, some (jJ ((w.1 (m + 4) (n + 1)) * (w.1 (m + 4) (n + 2)))), none] [jO m, jJ (((w.1 (m + 4) n) * (w.1 (m + 4) (n + 3))) * ((w.1 (m + 4) n) * (w.1 (m + 4) (n + 3)))), jO m] 0 0 w _
                refine ⟨rfl, rfl, ?_⟩
                refine jWp.getR (pc' := 217) (o := (m + 4)) mt rfl rfl (jtg hW.K0) hW.R3 ?_
                show jWp 153 217 [some (jO m), some (jI (x : Int)), some (jI (n : Int)), some (jI law), some (jI 4), some (jJ f), none, some (jJ ((w.1 (m + 4) n) * (w.1 (m + 4) (n + 3)))), none, some (jJ ((w.1 (m + 4) (n + 1)) * (w.1 (m + 4) (n + 2)))), none] [jO (m + 4), jJ (((w.1 (m + 4) n) * (w.1 (m + 4) (n + 3))) * ((w.1 (m + 4) n) * (w.1 (m + 4) (n + 3)))), jO m] 0 0 w _
                refine jWp.blk mt 3 ?_
                show jWp 153 220 [some (jO m), some (jI (x : Int)), some (jI (n : Int)), some (jI law), some (jI 4), some (jJ f), none, some (jJ ((w.1 (m + 4) n) * (w.1 (m + 4) (n + 3)))), none, some (jJ ((w.1 (m + 4) (n + 1)) * (w.1 (m + 4) (n + 2)))), none] [jI ((n : Int) + 1), jO (m + 4), jJ (((w.1 (m + 4) n) * (w.1 (m + 4) (n + 3))) * ((w.1 (m + 4) n) * (w.1 (m + 4) (n + 3)))), jO m] 0 0 w _
                refine jWp.lald (pc' := 221) (j := (n + 1)) mt rfl rfl (jtg hW.K4) (by rw [b32_id (by omega) (by omega)]; omega) (jlt hW.K4 (by omega)) ?_
                show jWp 153 221 [some (jO m), some (jI (x : Int)), some (jI (n : Int)), some (jI law), some (jI 4), some (jJ f), none, some (jJ ((w.1 (m + 4) n) * (w.1 (m + 4) (n + 3)))), none, some (jJ ((w.1 (m + 4) (n + 1)) * (w.1 (m + 4) (n + 2)))), none] [jJ (w.1 (m + 4) (n + 1)), jJ (((w.1 (m + 4) n) * (w.1 (m + 4) (n + 3))) * ((w.1 (m + 4) n) * (w.1 (m + 4) (n + 3)))), jO m] 0 0 w _
                refine jWp.blk mt 1 ?_
                show _ ∧ jWp 153 222 [some (jO m), some (jI (x : Int)), some (jI (n : Int)), some (jI law), some (jI 4), some (jJ f), none, some (jJ ((w.1 (m + 4) n) * (w.1 (m + 4) (n + 3)))), none, some (jJ ((w.1 (m + 4) (n + 1)) * (w.1 (m + 4) (n + 2)))), none] [jO m, jJ (w.1 (m + 4) (n + 1)), jJ (((w.1 (m + 4) n) * (w.1 (m + 4) (n + 3))) * ((w.1 (m + 4) n) * (w.1 (m + 4) (n + 3)))), jO m] 0 0 w _
                refine ⟨rfl, ?_⟩
                refine jWp.getR (pc' := 225) (o := (m + 4)) mt rfl rfl (jtg hW.K0) hW.R3 ?_
                show jWp 153 225 [some (jO m), some (jI (x : Int)), some (jI (n : Int)), some (jI law), some (jI 4), some (jJ f), none, some (jJ ((w.1 (m + 4) n) * (w.1 (m + 4) (n + 3)))), none, some (jJ ((w.1 (m + 4) (n + 1)) * (w.1 (m + 4) (n + 2)))), none] [jO (m + 4), jJ (w.1 (m + 4) (n + 1)), jJ (((w.1 (m + 4) n) * (w.1 (m + 4) (n + 3))) * ((w.1 (m + 4) n) * (w.1 (m + 4) (n + 3)))), jO m] 0 0 w _
                refine jWp.blk mt 3 ?_
                show jWp 153 228 [some (jO m), some (jI (x : Int)), some (jI (n : Int)), some (jI law), some (jI 4), some (jJ f), none, some (jJ ((w.1 (m + 4) n) * (w.1 (m + 4) (n + 3)))), none, some (jJ ((w.1 (m + 4) (n + 1)) * (w.1 (m + 4) (n + 2)))), none] [jI ((n : Int) + 1), jO (m + 4), jJ (w.1 (m + 4) (n + 1)), jJ (((w.1 (m + 4) n) * (w.1 (m + 4) (n + 3))) * ((w.1 (m + 4) n) * (w.1 (m + 4) (n + 3)))), jO m] 0 0 w _
                refine jWp.lald (pc' := 229) (j := (n + 1)) mt rfl rfl (jtg hW.K4) (by rw [b32_id (by omega) (by omega)]; omega) (jlt hW.K4 (by omega)) ?_
                show jWp 153 229 [some (jO m), some (jI (x : Int)), some (jI (n : Int)), some (jI law), some (jI 4), some (jJ f), none, some (jJ ((w.1 (m + 4) n) * (w.1 (m + 4) (n + 3)))), none, some (jJ ((w.1 (m + 4) (n + 1)) * (w.1 (m + 4) (n + 2)))), none] [jJ (w.1 (m + 4) (n + 1)), jJ (w.1 (m + 4) (n + 1)), jJ (((w.1 (m + 4) n) * (w.1 (m + 4) (n + 3))) * ((w.1 (m + 4) n) * (w.1 (m + 4) (n + 3)))), jO m] 0 0 w _
                refine jWp.blk mt 2 ?_
                show _ ∧ jWp 153 231 [some (jO m), some (jI (x : Int)), some (jI (n : Int)), some (jI law), some (jI 4), some (jJ f), none, some (jJ ((w.1 (m + 4) n) * (w.1 (m + 4) (n + 3)))), none, some (jJ ((w.1 (m + 4) (n + 1)) * (w.1 (m + 4) (n + 2)))), none] [jO m, jJ ((w.1 (m + 4) (n + 1)) * (w.1 (m + 4) (n + 1))), jJ (((w.1 (m + 4) n) * (w.1 (m + 4) (n + 3))) * ((w.1 (m + 4) n) * (w.1 (m + 4) (n + 3)))), jO m] 0 0 w _
                refine ⟨rfl, ?_⟩
                refine jWp.getR (pc' := 234) (o := (m + 4)) mt rfl rfl (jtg hW.K0) hW.R3 ?_
                show jWp 153 234 [some (jO m), some (jI (x : Int)), some (jI (n : Int)), some (jI law), some (jI 4), some (jJ f), none, some (jJ ((w.1 (m + 4) n) * (w.1 (m + 4) (n + 3)))), none, some (jJ ((w.1 (m + 4) (n + 1)) * (w.1 (m + 4) (n + 2)))), none] [jO (m + 4), jJ ((w.1 (m + 4) (n + 1)) * (w.1 (m + 4) (n + 1))), jJ (((w.1 (m + 4) n) * (w.1 (m + 4) (n + 3))) * ((w.1 (m + 4) n) * (w.1 (m + 4) (n + 3)))), jO m] 0 0 w _
                refine jWp.blk mt 3 ?_
                show jWp 153 237 [some (jO m), some (jI (x : Int)), some (jI (n : Int)), some (jI law), some (jI 4), some (jJ f), none, some (jJ ((w.1 (m + 4) n) * (w.1 (m + 4) (n + 3)))), none, some (jJ ((w.1 (m + 4) (n + 1)) * (w.1 (m + 4) (n + 2)))), none] [jI ((n : Int) + 1), jO (m + 4), jJ ((w.1 (m + 4) (n + 1)) * (w.1 (m + 4) (n + 1))), jJ (((w.1 (m + 4) n) * (w.1 (m + 4) (n + 3))) * ((w.1 (m + 4) n) * (w.1 (m + 4) (n + 3)))), jO m] 0 0 w _
                refine jWp.lald (pc' := 238) (j := (n + 1)) mt rfl rfl (jtg hW.K4) (by rw [b32_id (by omega) (by omega)]; omega) (jlt hW.K4 (by omega)) ?_
                show jWp 153 238 [some (jO m), some (jI (x : Int)), some (jI (n : Int)), some (jI law), some (jI 4), some (jJ f), none, some (jJ ((w.1 (m + 4) n) * (w.1 (m + 4) (n + 3)))), none, some (jJ ((w.1 (m + 4) (n + 1)) * (w.1 (m + 4) (n + 2)))), none] [jJ (w.1 (m + 4) (n + 1)), jJ ((w.1 (m + 4) (n + 1)) * (w.1 (m + 4) (n + 1))), jJ (((w.1 (m + 4) n) * (w.1 (m + 4) (n + 3))) * ((w.1 (m + 4) n) * (w.1 (m + 4) (n + 3)))), jO m] 0 0 w _
                refine jWp.blk mt 2 ?_
                show _ ∧ jWp 153 240 [some (jO m), some (jI (x : Int)), some (jI (n : Int)), some (jI law), some (jI 4), some (jJ f), none, some (jJ ((w.1 (m + 4) n) * (w.1 (m + 4) (n + 3)))), none, some (jJ ((w.1 (m + 4) (n + 1)) * (w.1 (m + 4) (n + 2)))), none] [jO m, jJ (((w.1 (m + 4) (n + 1)) * (w.1 (m + 4) (n + 1))) * (w.1 (m + 4) (n + 1))), jJ (((w.1 (m + 4) n) * (w.1 (m + 4) (n + 3))) * ((w.1 (m + 4) n) * (w.1 (m + 4) (n + 3)))), jO m] 0 0 w _
                refine ⟨rfl, ?_⟩
                refine jWp.getR (pc' := 243) (o := (m + 4)) mt rfl rfl (jtg hW.K0) hW.R3 ?_
                show jWp 153 243 [some (jO m), some (jI (x : Int)), some (jI (n : Int)), some (jI law), some (jI 4), some (jJ f), none, some (jJ ((w.1 (m + 4) n) * (w.1 (m + 4) (n + 3)))), none, some (jJ ((w.1 (m + 4) (n + 1)) * (w.1 (m + 4) (n + 2)))), none] [jO (m + 4), jJ (((w.1 (m + 4) (n + 1)) * (w.1 (m + 4) (n + 1))) * (w.1 (m + 4) (n + 1))), jJ (((w.1 (m + 4) n) * (w.1 (m + 4) (n + 3))) * ((w.1 (m + 4) n) * (w.1 (m + 4) (n + 3)))), jO m] 0 0 w _
                refine jWp.blk mt 3 ?_
                show jWp 153 246 [some (jO m), some (jI (x : Int)), some (jI (n : Int)), some (jI law), some (jI 4), some (jJ f), none, some (jJ ((w.1 (m + 4) n) * (w.1 (m + 4) (n + 3)))), none, some (jJ ((w.1 (m + 4) (n + 1)) * (w.1 (m + 4) (n + 2)))), none] [jI ((n : Int) + 3), jO (m + 4), jJ (((w.1 (m + 4) (n + 1)) * (w.1 (m + 4) (n + 1))) * (w.1 (m + 4) (n + 1))), jJ (((w.1 (m + 4) n) * (w.1 (m + 4) (n + 3))) * ((w.1 (m + 4) n) * (w.1 (m + 4) (n + 3)))), jO m] 0 0 w _
                refine jWp.lald (pc' := 247) (j := (n + 3)) mt rfl rfl (jtg hW.K4) (by rw [b32_id (by omega) (by omega)]; omega) (jlt hW.K4 (by omega)) ?_
                show jWp 153 247 [some (jO m), some (jI (x : Int)), some (jI (n : Int)), some (jI law), some (jI 4), some (jJ f), none, some (jJ ((w.1 (m + 4) n) * (w.1 (m + 4) (n + 3)))), none, some (jJ ((w.1 (m + 4) (n + 1)) * (w.1 (m + 4) (n + 2)))), none] [jJ (w.1 (m + 4) (n + 3)), jJ (((w.1 (m + 4) (n + 1)) * (w.1 (m + 4) (n + 1))) * (w.1 (m + 4) (n + 1))), jJ (((w.1 (m + 4) n) * (w.1 (m + 4) (n + 3))) * ((w.1 (m + 4) n) * (w.1 (m + 4) (n + 3)))), jO m] 0 0 w _
                refine jWp.blk mt 3 ?_
                show _ ∧ jWp 153 250 [some (jO m), some (jI (x : Int)), some (jI (n : Int)), some (jI law), some (jI 4), some (jJ f), none, some (jJ ((w.1 (m + 4) n) * (w.1 (m + 4) (n + 3)))), none, some (jJ ((w.1 (m + 4) (n + 1)) * (w.1 (m + 4) (n + 2)))), none] [jO m, jJ ((((w.1 (m + 4) n) * (w.1 (m + 4) (n + 3))) * ((w.1 (m + 4) n) * (w.1 (m + 4) (n + 3)))) + ((((w.1 (m + 4) (n + 1)) * (w.1 (m + 4) (n + 1))) * (w.1 (m + 4) (n + 1))) * (w.1 (m + 4) (n + 3)))), jO m] 0 0 w _
                refine ⟨rfl, ?_⟩
                refine jWp.getR (pc' := 253) (o := (m + 4)) mt rfl rfl (jtg hW.K0) hW.R3 ?_
                show jWp 153 253 [some (jO m), some (jI (x : Int)), some (jI (n : Int)), some (jI law), some (jI 4), some (jJ f), none, some (jJ ((w.1 (m + 4) n) * (w.1 (m + 4) (n + 3)))), none, some (jJ ((w.1 (m + 4) (n + 1)) * (w.1 (m + 4) (n + 2)))), none] [jO (m + 4), jJ ((((w.1 (m + 4) n) * (w.1 (m + 4) (n + 3))) * ((w.1 (m + 4) n) * (w.1 (m + 4) (n + 3)))) + ((((w.1 (m + 4) (n + 1)) * (w.1 (m + 4) (n + 1))) * (w.1 (m + 4) (n + 1))) * (w.1 (m + 4) (n + 3)))), jO m] 0 0 w _
                refine jWp.blk mt 3 ?_
                show jWp 153 256 [some (jO m), some (jI (x : Int)), some (jI (n : Int)), some (jI law), some (jI 4), some (jJ f), none, some (jJ ((w.1 (m + 4) n) * (w.1 (m + 4) (n + 3)))), none, some (jJ ((w.1 (m + 4) (n + 1)) * (w.1 (m + 4) (n + 2)))), none] [jI ((n : Int) + 2), jO (m + 4), jJ ((((w.1 (m + 4) n) * (w.1 (m + 4) (n + 3))) * ((w.1 (m + 4) n) * (w.1 (m + 4) (n + 3)))) + ((((w.1 (m + 4) (n + 1)) * (w.1 (m + 4) (n + 1))) * (w.1 (m + 4) (n + 1))) * (w.1 (m + 4) (n + 3)))), jO m] 0 0 w _
                refine jWp.lald (pc' := 257) (j := (n + 2)) mt rfl rfl (jtg hW.K4) (by rw [b32_id (by omega) (by omega)]; omega) (jlt hW.K4 (by omega)) ?_
                show jWp 153 257 [some (jO m), some (jI (x : Int)), some (jI (n : Int)), some (jI law), some (jI 4), some (jJ f), none, some (jJ ((w.1 (m + 4) n) * (w.1 (m + 4) (n + 3)))), none, some (jJ ((w.1 (m + 4) (n + 1)) * (w.1 (m + 4) (n + 2)))), none] [jJ (w.1 (m + 4) (n + 2)), jJ ((((w.1 (m + 4) n) * (w.1 (m + 4) (n + 3))) * ((w.1 (m + 4) n) * (w.1 (m + 4) (n + 3)))) + ((((w.1 (m + 4) (n + 1)) * (w.1 (m + 4) (n + 1))) * (w.1 (m + 4) (n + 1))) * (w.1 (m + 4) (n + 3)))), jO m] 0 0 w _
                refine jWp.blk mt 1 ?_
                show _ ∧ jWp 153 258 [some (jO m), some (jI (x : Int)), some (jI (n : Int)), some (jI law), some (jI 4), some (jJ f), none, some (jJ ((w.1 (m + 4) n) * (w.1 (m + 4) (n + 3)))), none, some (jJ ((w.1 (m + 4) (n + 1)) * (w.1 (m + 4) (n + 2)))), none] [jO m, jJ (w.1 (m + 4) (n + 2)), jJ ((((w.1 (m + 4) n) * (w.1 (m + 4) (n + 3))) * ((w.1 (m + 4) n) * (w.1 (m + 4) (n + 3)))) + ((((w.1 (m + 4) (n + 1)) * (w.1 (m + 4) (n + 1))) * (w.1 (m + 4) (n + 1))) * (w.1 (m + 4) (n + 3)))), jO m] 0 0 w _
                refine ⟨rfl, ?_⟩
                refine jWp.getR (pc' := 261) (o := (m + 4)) mt rfl rfl (jtg hW.K0) hW.R3 ?_
                show jWp 153 261 [some (jO m), some (jI (x : Int)), some (jI (n : Int)), some (jI law), some (jI 4), some (jJ f), none, some (jJ ((w.1 (m + 4) n) * (w.1 (m + 4) (n + 3)))), none, some (jJ ((w.1 (m + 4) (n + 1)) * (w.1 (m + 4) (n + 2)))), none] [jO (m + 4), jJ (w.1 (m + 4) (n + 2)), jJ ((((w.1 (m + 4) n) * (w.1 (m + 4) (n + 3))) * ((w.1 (m + 4) n) * (w.1 (m + 4) (n + 3)))) + ((((w.1 (m + 4) (n + 1)) * (w.1 (m + 4) (n + 1))) * (w.1 (m + 4) (n + 1))) * (w.1 (m + 4) (n + 3)))), jO m] 0 0 w _
                refine jWp.blk mt 3 ?_
                show jWp 153 264 [some (jO m), some (jI (x : Int)), some (jI (n : Int)), some (jI law), some (jI 4), some (jJ f), none, some (jJ ((w.1 (m + 4) n) * (w.1 (m + 4) (n + 3)))), none, some (jJ ((w.1 (m + 4) (n + 1)) * (w.1 (m + 4) (n + 2)))), none] [jI ((n : Int) + 2), jO (m + 4), jJ (w.1 (m + 4) (n + 2)), jJ ((((w.1 (m + 4) n) * (w.1 (m + 4) (n + 3))) * ((w.1 (m + 4) n) * (w.1 (m + 4) (n + 3)))) + ((((w.1 (m + 4) (n + 1)) * (w.1 (m + 4) (n + 1))) * (w.1 (m + 4) (n + 1))) * (w.1 (m + 4) (n + 3)))), jO m] 0 0 w _
                refine jWp.lald (pc' := 265) (j := (n + 2)) mt rfl rfl (jtg hW.K4) (by rw [b32_id (by omega) (by omega)]; omega) (jlt hW.K4 (by omega)) ?_
                show jWp 153 265 [some (jO m), some (jI (x : Int)), some (jI (n : Int)), some (jI law), some (jI 4), some (jJ f), none, some (jJ ((w.1 (m + 4) n) * (w.1 (m + 4) (n + 3)))), none, some (jJ ((w.1 (m + 4) (n + 1)) * (w.1 (m + 4) (n + 2)))), none] [jJ (w.1 (m + 4) (n + 2)), jJ (w.1 (m + 4) (n + 2)), jJ ((((w.1 (m + 4) n) * (w.1 (m + 4) (n + 3))) * ((w.1 (m + 4) n) * (w.1 (m + 4) (n + 3)))) + ((((w.1 (m + 4) (n + 1)) * (w.1 (m + 4) (n + 1))) * (w.1 (m + 4) (n + 1))) * (w.1 (m + 4) (n + 3)))), jO m] 0 0 w _
                refine jWp.blk mt 2 ?_
                show _ ∧ jWp 153 267 [some (jO m), some (jI (x : Int)), some (jI (n : Int)), some (jI law), some (jI 4), some (jJ f), none, some (jJ ((w.1 (m + 4) n) * (w.1 (m + 4) (n + 3)))), none, some (jJ ((w.1 (m + 4) (n + 1)) * (w.1 (m + 4) (n + 2)))), none] [jO m, jJ ((w.1 (m + 4) (n + 2)) * (w.1 (m + 4) (n + 2))), jJ ((((w.1 (m + 4) n) * (w.1 (m + 4) (n + 3))) * ((w.1 (m + 4) n) * (w.1 (m + 4) (n + 3)))) + ((((w.1 (m + 4) (n + 1)) * (w.1 (m + 4) (n + 1))) * (w.1 (m + 4) (n + 1))) * (w.1 (m + 4) (n + 3)))), jO m] 0 0 w _
                refine ⟨rfl, ?_⟩
                refine jWp.getR (pc' := 270) (o := (m + 4)) mt rfl rfl (jtg hW.K0) hW.R3 ?_
                show jWp 153 270 [some (jO m), some (jI (x : Int)), some (jI (n : Int)), some (jI law), some (jI 4), some (jJ f), none, some (jJ ((w.1 (m + 4) n) * (w.1 (m + 4) (n + 3)))), none, some (jJ ((w.1 (m + 4) (n + 1)) * (w.1 (m + 4) (n + 2)))), none] [jO (m + 4), jJ ((w.1 (m + 4) (n + 2)) * (w.1 (m + 4) (n + 2))), jJ ((((w.1 (m + 4) n) * (w.1 (m + 4) (n + 3))) * ((w.1 (m + 4) n) * (w.1 (m + 4) (n + 3)))) + ((((w.1 (m + 4) (n + 1)) * (w.1 (m + 4) (n + 1))) * (w.1 (m + 4) (n + 1))) * (w.1 (m + 4) (n + 3)))), jO m] 0 0 w _
                refine jWp.blk mt 1 ?_
                show jWp 153 271 [some (jO m), some (jI (x : Int)), some (jI (n : Int)), some (jI law), some (jI 4), some (jJ f), none, some (jJ ((w.1 (m + 4) n) * (w.1 (m + 4) (n + 3)))), none, some (jJ ((w.1 (m + 4) (n + 1)) * (w.1 (m + 4) (n + 2)))), none] [jI (n : Int), jO (m + 4), jJ ((w.1 (m + 4) (n + 2)) * (w.1 (m + 4) (n + 2))), jJ ((((w.1 (m + 4) n) * (w.1 (m + 4) (n + 3))) * ((w.1 (m + 4) n) * (w.1 (m + 4) (n + 3)))) + ((((w.1 (m + 4) (n + 1)) * (w.1 (m + 4) (n + 1))) * (w.1 (m + 4) (n + 1))) * (w.1 (m + 4) (n + 3)))), jO m] 0 0 w _
                refine jWp.lald (pc' := 272) (j := n) mt rfl rfl (jtg hW.K4) (b32_id (by omega) (by omega)) (jlt hW.K4 (by omega)) ?_
                show jWp 153 272 [some (jO m), some (jI (x : Int)), some (jI (n : Int)), some (jI law), some (jI 4), some (jJ f), none, some (jJ ((w.1 (m + 4) n) * (w.1 (m + 4) (n + 3)))), none, some (jJ ((w.1 (m + 4) (n + 1)) * (w.1 (m + 4) (n + 2)))), none] [jJ (w.1 (m + 4) n), jJ ((w.1 (m + 4) (n + 2)) * (w.1 (m + 4) (n + 2))), jJ ((((w.1 (m + 4) n) * (w.1 (m + 4) (n + 3))) * ((w.1 (m + 4) n) * (w.1 (m + 4) (n + 3)))) + ((((w.1 (m + 4) (n + 1)) * (w.1 (m + 4) (n + 1))) * (w.1 (m + 4) (n + 1))) * (w.1 (m + 4) (n + 3)))), jO m] 0 0 w _
                refine jWp.blk mt 2 ?_
                show _ ∧ jWp 153 274 [some (jO m), some (jI (x : Int)), some (jI (n : Int)), some (jI law), some (jI 4), some (jJ f), none, some (jJ ((w.1 (m + 4) n) * (w.1 (m + 4) (n + 3)))), none, some (jJ ((w.1 (m + 4) (n + 1)) * (w.1 (m + 4) (n + 2)))), none] [jO m, jJ (((w.1 (m + 4) (n + 2)) * (w.1 (m + 4) (n + 2))) * (w.1 (m + 4) n)), jJ ((((w.1 (m + 4) n) * (w.1 (m + 4) (n + 3))) * ((w.1 (m + 4) n) * (w.1 (m + 4) (n + 3)))) + ((((w.1 (m + 4) (n + 1)) * (w.1 (m + 4) (n + 1))) * (w.1 (m + 4) (n + 1))) * (w.1 (m + 4) (n + 3)))), jO m] 0 0 w _
                refine ⟨rfl, ?_⟩
                refine jWp.getR (pc' := 277) (o := (m + 4)) mt rfl rfl (jtg hW.K0) hW.R3 ?_
                show jWp 153 277 [some (jO m), some (jI (x : Int)), some (jI (n : Int)), some (jI law), some (jI 4), some (jJ f), none, some (jJ ((w.1 (m + 4) n) * (w.1 (m + 4) (n + 3)))), none, some (jJ ((w.1 (m + 4) (n + 1)) * (w.1 (m + 4) (n + 2)))), none] [jO (m + 4), jJ (((w.1 (m + 4) (n + 2)) * (w.1 (m + 4) (n + 2))) * (w.1 (m + 4) n)), jJ ((((w.1 (m + 4) n) * (w.1 (m + 4) (n + 3))) * ((w.1 (m + 4) n) * (w.1 (m + 4) (n + 3)))) + ((((w.1 (m + 4) (n + 1)) * (w.1 (m + 4) (n + 1))) * (w.1 (m + 4) (n + 1))) * (w.1 (m + 4) (n + 3)))), jO m] 0 0 w _
                refine jWp.blk mt 3 ?_
                show jWp 153 280 [some (jO m), some (jI (x : Int)), some (jI (n : Int)), some (jI law), some (jI 4), some (jJ f), none, some (jJ ((w.1 (m + 4) n) * (w.1 (m + 4) (n + 3)))), none, some (jJ ((w.1 (m + 4) (n + 1)) * (w.1 (m + 4) (n + 2)))), none] [jI ((n : Int) + 2), jO (m + 4), jJ (((w.1 (m + 4) (n + 2)) * (w.1 (m + 4) (n + 2))) * (w.1 (m + 4) n)), jJ ((((w.1 (m + 4) n) * (w.1 (m + 4) (n + 3))) * ((w.1 (m + 4) n) * (w.1 (m + 4) (n + 3)))) + ((((w.1 (m + 4) (n + 1)) * (w.1 (m + 4) (n + 1))) * (w.1 (m + 4) (n + 1))) * (w.1 (m + 4) (n + 3)))), jO m] 0 0 w _
                refine jWp.lald (pc' := 281) (j := (n + 2)) mt rfl rfl (jtg hW.K4) (by rw [b32_id (by omega) (by omega)]; omega) (jlt hW.K4 (by omega)) ?_
                show jWp 153 281 [some (jO m), some (jI (x : Int)), some (jI (n : Int)), some (jI law), some (jI 4), some (jJ f), none, some (jJ ((w.1 (m + 4) n) * (w.1 (m + 4) (n + 3)))), none, some (jJ ((w.1 (m + 4) (n + 1)) * (w.1 (m + 4) (n + 2)))), none] [jJ (w.1 (m + 4) (n + 2)), jJ (((w.1 (m + 4) (n + 2)) * (w.1 (m + 4) (n + 2))) * (w.1 (m + 4) n)), jJ ((((w.1 (m + 4) n) * (w.1 (m + 4) (n + 3))) * ((w.1 (m + 4) n) * (w.1 (m + 4) (n + 3)))) + ((((w.1 (m + 4) (n + 1)) * (w.1 (m + 4) (n + 1))) * (w.1 (m + 4) (n + 1))) * (w.1 (m + 4) (n + 3)))), jO m] 0 0 w _
                refine jWp.blk mt 8 ?_
                show jWp 153 292 [some (jO m), some (jI (x : Int)), some (jI (n : Int)), some (jI law), some (jI 4), some (jJ f), none, some (jJ ((w.1 (m + 4) n) * (w.1 (m + 4) (n + 3)))), none, some (jJ ((w.1 (m + 4) (n + 1)) * (w.1 (m + 4) (n + 2)))), none] [jJ ((((((w.1 (m + 4) n) * (w.1 (m + 4) (n + 3))) * ((w.1 (m + 4) n) * (w.1 (m + 4) (n + 3)))) + ((((w.1 (m + 4) (n + 1)) * (w.1 (m + 4) (n + 1))) * (w.1 (m + 4) (n + 1))) * (w.1 (m + 4) (n + 3)))) + ((((w.1 (m + 4) (n + 2)) * (w.1 (m + 4) (n + 2))) * (w.1 (m + 4) n)) * (w.1 (m + 4) (n + 2)))) + ((f * ((w.1 (m + 4) (n + 1)) * (w.1 (m + 4) (n + 2)))) * ((w.1 (m + 4) (n + 1)) * (w.1 (m + 4) (n + 2))))), jO m] 0 0 w _
                refine jWp.putJ (pc' := 295) mt rfl rfl (jtg hW.K0) ?_
                show jWp 153 295 [some (jO m), some (jI (x : Int)), some (jI (n : Int)), some (jI law), some (jI 4), some (jJ f), none, some (jJ ((w.1 (m + 4) n) * (w.1 (m + 4) (n + 3)))), none, some (jJ ((w.1 (m + 4) (n + 1)) * (w.1 (m + 4) (n + 2)))), none] [] 0 0 (jW w m 8 ((((((w.1 (m + 4) n) * (w.1 (m + 4) (n + 3))) * ((w.1 (m + 4) n) * (w.1 (m + 4) (n + 3)))) + ((((w.1 (m + 4) (n + 1)) * (w.1 (m + 4) (n + 1))) * (w.1 (m + 4) (n + 1))) * (w.1 (m + 4) (n + 3)))) + ((((w.1 (m + 4) (n + 2)) * (w.1 (m + 4) (n + 2))) * (w.1 (m + 4) n)) * (w.1 (m + 4) (n + 2)))) + ((f * ((w.1 (m + 4) (n + 1)) * (w.1 (m + 4) (n + 2)))) * ((w.1 (m + 4) (n + 1)) * (w.1 (m + 4) (n + 2)))))) _
                refine jWp.blk mt 4 ?_
                show _ ∧ jWp 153 301 [some (jO m), some (jI (x : Int)), some (jI (n : Int)), some (jI law), some (jI 4), some (jJ f), none, some (jJ ((w.1 (m + 4) n) * (w.1 (m + 4) (n + 3)))), none, some (jJ ((w.1 (m + 4) (n + 1)) * (w.1 (m + 4) (n + 2)))), none] [jJ (((w.1 (m + 4) n) * (w.1 (m + 4) (n + 3))) * ((w.1 (m + 4) (n + 1)) * (w.1 (m + 4) (n + 2)))), jO m] 0 0 (jW w m 8 ((((((w.1 (m + 4) n) * (w.1 (m + 4) (n + 3))) * ((w.1 (m + 4) n) * (w.1 (m + 4) (n + 3)))) + ((((w.1 (m + 4) (n + 1)) * (w.1 (m + 4) (n + 1))) * (w.1 (m + 4) (n + 1))) * (w.1 (m + 4) (n + 3)))) + ((((w.1 (m + 4) (n + 2)) * (w.1 (m + 4) (n + 2))) * (w.1 (m + 4) n)) * (w.1 (m + 4) (n + 2)))) + ((f * ((w.1 (m + 4) (n + 1)) * (w.1 (m + 4) (n + 2)))) * ((w.1 (m + 4) (n + 1)) * (w.1 (m + 4) (n + 2)))))) _
                refine ⟨rfl, ?_⟩
                refine jWp.putJ (pc' := 304) mt rfl rfl (jtg hW.K0) ?_
                show jWp 153 304 [some (jO m), some (jI (x : Int)), some (jI (n : Int)), some (jI law), some (jI 4), some (jJ f), none, some (jJ ((w.1 (m + 4) n) * (w.1 (m + 4) (n + 3)))), none, some (jJ ((w.1 (m + 4) (n + 1)) * (w.1 (m + 4) (n + 2)))), none] [] 0 0 (jW (jW w m 8 ((((((w.1 (m + 4) n) * (w.1 (m + 4) (n + 3))) * ((w.1 (m + 4) n) * (w.1 (m + 4) (n + 3)))) + ((((w.1 (m + 4) (n + 1)) * (w.1 (m + 4) (n + 1))) * (w.1 (m + 4) (n + 1))) * (w.1 (m + 4) (n + 3)))) + ((((w.1 (m + 4) (n + 2)) * (w.1 (m + 4) (n + 2))) * (w.1 (m + 4) n)) * (w.1 (m + 4) (n + 2)))) + ((f * ((w.1 (m + 4) (n + 1)) * (w.1 (m + 4) (n + 2)))) * ((w.1 (m + 4) (n + 1)) * (w.1 (m + 4) (n + 2)))))) m 9 (((w.1 (m + 4) n) * (w.1 (m + 4) (n + 3))) * ((w.1 (m + 4) (n + 1)) * (w.1 (m + 4) (n + 2))))) _
                refine jWp.blk mt 1 ?_
                show _ ∧ jWp 153 305 [some (jO m), some (jI (x : Int)), some (jI (n : Int)), some (jI law), some (jI 4), some (jJ f), none, some (jJ ((w.1 (m + 4) n) * (w.1 (m + 4) (n + 3)))), none, some (jJ ((w.1 (m + 4) (n + 1)) * (w.1 (m + 4) (n + 2)))), none] [jO m] 0 0 (jW (jW w m 8 ((((((w.1 (m + 4) n) * (w.1 (m + 4) (n + 3))) * ((w.1 (m + 4) n) * (w.1 (m + 4) (n + 3)))) + ((((w.1 (m + 4) (n + 1)) * (w.1 (m + 4) (n + 1))) * (w.1 (m + 4) (n + 1))) * (w.1 (m + 4) (n + 3)))) + ((((w.1 (m + 4) (n + 2)) * (w.1 (m + 4) (n + 2))) * (w.1 (m + 4) n)) * (w.1 (m + 4) (n + 2)))) + ((f * ((w.1 (m + 4) (n + 1)) * (w.1 (m + 4) (n + 2)))) * ((w.1 (m + 4) (n + 1)) * (w.1 (m + 4) (n + 2)))))) m 9 (((w.1 (m + 4) n) * (w.1 (m + 4) (n + 3))) * ((w.1 (m + 4) (n + 1)) * (w.1 (m + 4) (n + 2))))) _
                refine ⟨rfl, ?_⟩
                refine jWp.getJ (pc' := 308) mt rfl rfl (jtg hW.K0) ?_
                rw [show ((jW (jW w m 8 ((((((w.1 (m + 4) n) * (w.1 (m + 4) (n + 3))) * ((w.1 (m + 4) n) * (w.1 (m + 4) (n + 3)))) + ((((w.1 (m + 4) (n + 1)) * (w.1 (m + 4) (n + 1))) * (w.1 (m + 4) (n + 1))) * (w.1 (m + 4) (n + 3)))) + ((((w.1 (m + 4) (n + 2)) * (w.1 (m + 4) (n + 2))) * (w.1 (m + 4) n)) * (w.1 (m + 4) (n + 2)))) + ((f * ((w.1 (m + 4) (n + 1)) * (w.1 (m + 4) (n + 2)))) * ((w.1 (m + 4) (n + 1)) * (w.1 (m + 4) (n + 2)))))) m 9 (((w.1 (m + 4) n) * (w.1 (m + 4) (n + 3))) * ((w.1 (m + 4) (n + 1)) * (w.1 (m + 4) (n + 2))))).1 m 8) = ((((((w.1 (m + 4) n) * (w.1 (m + 4) (n + 3))) * ((w.1 (m + 4) n) * (w.1 (m + 4) (n + 3)))) + ((((w.1 (m + 4) (n + 1)) * (w.1 (m + 4) (n + 1))) * (w.1 (m + 4) (n + 1))) * (w.1 (m + 4) (n + 3)))) + ((((w.1 (m + 4) (n + 2)) * (w.1 (m + 4) (n + 2))) * (w.1 (m + 4) n)) * (w.1 (m + 4) (n + 2)))) + ((f * ((w.1 (m + 4) (n + 1)) * (w.1 (m + 4) (n + 2)))) * ((w.1 (m + 4) (n + 1)) * (w.1 (m + 4) (n + 2))))) from ((jW_k (by decide)).trans jW_s)]
                show jWp 153 308 [some (jO m), some (jI (x : Int)), some (jI (n : Int)), some (jI law), some (jI 4), some (jJ f), none, some (jJ ((w.1 (m + 4) n) * (w.1 (m + 4) (n + 3)))), none, some (jJ ((w.1 (m + 4) (n + 1)) * (w.1 (m + 4) (n + 2)))), none] [jJ ((((((w.1 (m + 4) n) * (w.1 (m + 4) (n + 3))) * ((w.1 (m + 4) n) * (w.1 (m + 4) (n + 3)))) + ((((w.1 (m + 4) (n + 1)) * (w.1 (m + 4) (n + 1))) * (w.1 (m + 4) (n + 1))) * (w.1 (m + 4) (n + 3)))) + ((((w.1 (m + 4) (n + 2)) * (w.1 (m + 4) (n + 2))) * (w.1 (m + 4) n)) * (w.1 (m + 4) (n + 2)))) + ((f * ((w.1 (m + 4) (n + 1)) * (w.1 (m + 4) (n + 2)))) * ((w.1 (m + 4) (n + 1)) * (w.1 (m + 4) (n + 2)))))] 0 0 (jW (jW w m 8 ((((((w.1 (m + 4) n) * (w.1 (m + 4) (n + 3))) * ((w.1 (m + 4) n) * (w.1 (m + 4) (n + 3)))) + ((((w.1 (m + 4) (n + 1)) * (w.1 (m + 4) (n + 1))) * (w.1 (m + 4) (n + 1))) * (w.1 (m + 4) (n + 3)))) + ((((w.1 (m + 4) (n + 2)) * (w.1 (m + 4) (n + 2))) * (w.1 (m + 4) n)) * (w.1 (m + 4) (n + 2)))) + ((f * ((w.1 (m + 4) (n + 1)) * (w.1 (m + 4) (n + 2)))) * ((w.1 (m + 4) (n + 1)) * (w.1 (m + 4) (n + 2)))))) m 9 (((w.1 (m + 4) n) * (w.1 (m + 4) (n + 3))) * ((w.1 (m + 4) (n + 1)) * (w.1 (m + 4) (n + 2))))) _
                refine jWp.blk mt 1 ?_
                show _ ∧ jWp 153 309 [some (jO m), some (jI (x : Int)), some (jI (n : Int)), some (jI law), some (jI 4), some (jJ f), none, some (jJ ((w.1 (m + 4) n) * (w.1 (m + 4) (n + 3)))), none, some (jJ ((w.1 (m + 4) (n + 1)) * (w.1 (m + 4) (n + 2)))), none] [jO m, jJ ((((((w.1 (m + 4) n) * (w.1 (m + 4) (n + 3))) * ((w.1 (m + 4) n) * (w.1 (m + 4) (n + 3)))) + ((((w.1 (m + 4) (n + 1)) * (w.1 (m + 4) (n + 1))) * (w.1 (m + 4) (n + 1))) * (w.1 (m + 4) (n + 3)))) + ((((w.1 (m + 4) (n + 2)) * (w.1 (m + 4) (n + 2))) * (w.1 (m + 4) n)) * (w.1 (m + 4) (n + 2)))) + ((f * ((w.1 (m + 4) (n + 1)) * (w.1 (m + 4) (n + 2)))) * ((w.1 (m + 4) (n + 1)) * (w.1 (m + 4) (n + 2)))))] 0 0 (jW (jW w m 8 ((((((w.1 (m + 4) n) * (w.1 (m + 4) (n + 3))) * ((w.1 (m + 4) n) * (w.1 (m + 4) (n + 3)))) + ((((w.1 (m + 4) (n + 1)) * (w.1 (m + 4) (n + 1))) * (w.1 (m + 4) (n + 1))) * (w.1 (m + 4) (n + 3)))) + ((((w.1 (m + 4) (n + 2)) * (w.1 (m + 4) (n + 2))) * (w.1 (m + 4) n)) * (w.1 (m + 4) (n + 2)))) + ((f * ((w.1 (m + 4) (n + 1)) * (w.1 (m + 4) (n + 2)))) * ((w.1 (m + 4) (n + 1)) * (w.1 (m + 4) (n + 2)))))) m 9 (((w.1 (m + 4) n) * (w.1 (m + 4) (n + 3))) * ((w.1 (m + 4) (n + 1)) * (w.1 (m + 4) (n + 2))))) _
                refine ⟨rfl, ?_⟩
                refine jWp.getJ (pc' := 312) mt rfl rfl (jtg hW.K0) ?_
                rw [show ((jW (jW w m 8 ((((((w.1 (m + 4) n) * (w.1 (m + 4) (n + 3))) * ((w.1 (m + 4) n) * (w.1 (m + 4) (n + 3)))) + ((((w.1 (m + 4) (n + 1)) * (w.1 (m + 4) (n + 1))) * (w.1 (m + 4) (n + 1))) * (w.1 (m + 4) (n + 3)))) + ((((w.1 (m + 4) (n + 2)) * (w.1 (m + 4) (n + 2))) * (w.1 (m + 4) n)) * (w.1 (m + 4) (n + 2)))) + ((f * ((w.1 (m + 4) (n + 1)) * (w.1 (m + 4) (n + 2)))) * ((w.1 (m + 4) (n + 1)) * (w.1 (m + 4) (n + 2)))))) m 9 (((w.1 (m + 4) n) * (w.1 (m + 4) (n + 3))) * ((w.1 (m + 4) (n + 1)) * (w.1 (m + 4) (n + 2))))).1 m 9) = (((w.1 (m + 4) n) * (w.1 (m + 4) (n + 3))) * ((w.1 (m + 4) (n + 1)) * (w.1 (m + 4) (n + 2)))) from jW_s]
                show jWp 153 312 [some (jO m), some (jI (x : Int)), some (jI (n : Int)), some (jI law), some (jI 4), some (jJ f), none, some (jJ ((w.1 (m + 4) n) * (w.1 (m + 4) (n + 3)))), none, some (jJ ((w.1 (m + 4) (n + 1)) * (w.1 (m + 4) (n + 2)))), none] [jJ (((w.1 (m + 4) n) * (w.1 (m + 4) (n + 3))) * ((w.1 (m + 4) (n + 1)) * (w.1 (m + 4) (n + 2)))), jJ ((((((w.1 (m + 4) n) * (w.1 (m + 4) (n + 3))) * ((w.1 (m + 4) n) * (w.1 (m + 4) (n + 3)))) + ((((w.1 (m + 4) (n + 1)) * (w.1 (m + 4) (n + 1))) * (w.1 (m + 4) (n + 1))) * (w.1 (m + 4) (n + 3)))) + ((((w.1 (m + 4) (n + 2)) * (w.1 (m + 4) (n + 2))) * (w.1 (m + 4) n)) * (w.1 (m + 4) (n + 2)))) + ((f * ((w.1 (m + 4) (n + 1)) * (w.1 (m + 4) (n + 2)))) * ((w.1 (m + 4) (n + 1)) * (w.1 (m + 4) (n + 2)))))] 0 0 (jW (jW w m 8 ((((((w.1 (m + 4) n) * (w.1 (m + 4) (n + 3))) * ((w.1 (m + 4) n) * (w.1 (m + 4) (n + 3)))) + ((((w.1 (m + 4) (n + 1)) * (w.1 (m + 4) (n + 1))) * (w.1 (m + 4) (n + 1))) * (w.1 (m + 4) (n + 3)))) + ((((w.1 (m + 4) (n + 2)) * (w.1 (m + 4) (n + 2))) * (w.1 (m + 4) n)) * (w.1 (m + 4) (n + 2)))) + ((f * ((w.1 (m + 4) (n + 1)) * (w.1 (m + 4) (n + 2)))) * ((w.1 (m + 4) (n + 1)) * (w.1 (m + 4) (n + 2)))))) m 9 (((w.1 (m + 4) n) * (w.1 (m + 4) (n + 3))) * ((w.1 (m + 4) (n + 1)) * (w.1 (m + 4) (n + 2))))) _
                refine jWp.calls (as := [jJ ((((((w.1 (m + 4) n) * (w.1 (m + 4) (n + 3))) * ((w.1 (m + 4) n) * (w.1 (m + 4) (n + 3)))) + ((((w.1 (m + 4) (n + 1)) * (w.1 (m + 4) (n + 1))) * (w.1 (m + 4) (n + 1))) * (w.1 (m + 4) (n + 3)))) + ((((w.1 (m + 4) (n + 2)) * (w.1 (m + 4) (n + 2))) * (w.1 (m + 4) n)) * (w.1 (m + 4) (n + 2)))) + ((f * ((w.1 (m + 4) (n + 1)) * (w.1 (m + 4) (n + 2)))) * ((w.1 (m + 4) (n + 1)) * (w.1 (m + 4) (n + 2))))), jJ (((w.1 (m + 4) n) * (w.1 (m + 4) (n + 3))) * ((w.1 (m + 4) (n + 1)) * (w.1 (m + 4) (n + 2))))]) (rest := []) mt rfl rfl rfl rfl ?_
                refine jCall.mono (E_div (by omega) (by omega)) (fun v9 w9 h9 => ?_)
                obtain ⟨rfl, h9⟩ := h9
                subst w9
                show jWp 153 315 [some (jO m), some (jI (x : Int)), some (jI (n : Int)), some (jI law), some (jI 4), some (jJ f), none, some (jJ ((w.1 (m + 4) n) * (w.1 (m + 4) (n + 3)))), none, some (jJ ((w.1 (m + 4) (n + 1)) * (w.1 (m + 4) (n + 2)))), none] [jJ (zg ((((((w.1 (m + 4) n) * (w.1 (m + 4) (n + 3))) * ((w.1 (m + 4) n) * (w.1 (m + 4) (n + 3)))) + ((((w.1 (m + 4) (n + 1)) * (w.1 (m + 4) (n + 1))) * (w.1 (m + 4) (n + 1))) * (w.1 (m + 4) (n + 3)))) + ((((w.1 (m + 4) (n + 2)) * (w.1 (m + 4) (n + 2))) * (w.1 (m + 4) n)) * (w.1 (m + 4) (n + 2)))) + ((f * ((w.1 (m + 4) (n + 1)) * (w.1 (m + 4) (n + 2)))) * ((w.1 (m + 4) (n + 1)) * (w.1 (m + 4) (n + 2))))) (((w.1 (m + 4) n) * (w.1 (m + 4) (n + 3))) * ((w.1 (m + 4) (n + 1)) * (w.1 (m + 4) (n + 2)))))] 0 0 (jW (jW w m 8 ((((((w.1 (m + 4) n) * (w.1 (m + 4) (n + 3))) * ((w.1 (m + 4) n) * (w.1 (m + 4) (n + 3)))) + ((((w.1 (m + 4) (n + 1)) * (w.1 (m + 4) (n + 1))) * (w.1 (m + 4) (n + 1))) * (w.1 (m + 4) (n + 3)))) + ((((w.1 (m + 4) (n + 2)) * (w.1 (m + 4) (n + 2))) * (w.1 (m + 4) n)) * (w.1 (m + 4) (n + 2)))) + ((f * ((w.1 (m + 4) (n + 1)) * (w.1 (m + 4) (n + 2)))) * ((w.1 (m + 4) (n + 1)) * (w.1 (m + 4) (n + 2)))))) m 9 (((w.1 (m + 4) n) * (w.1 (m + 4) (n + 3))) * ((w.1 (m + 4) (n + 1)) * (w.1 (m + 4) (n + 2))))) _
                have hgp := zg_pos (a := ((((((w.1 (m + 4) n) * (w.1 (m + 4) (n + 3))) * ((w.1 (m + 4) n) * (w.1 (m + 4) (n + 3)))) + ((((w.1 (m + 4) (n + 1)) * (w.1 (m + 4) (n + 1))) * (w.1 (m + 4) (n + 1))) * (w.1 (m + 4) (n + 3)))) + ((((w.1 (m + 4) (n + 2)) * (w.1 (m + 4) (n + 2))) * (w.1 (m + 4) n)) * (w.1 (m + 4) (n + 2)))) + ((f * ((w.1 (m + 4) (n + 1)) * (w.1 (m + 4) (n + 2)))) * ((w.1 (m + 4) (n + 1)) * (w.1 (m + 4) (n + 2)))))) (b := (((w.1 (m + 4) n) * (w.1 (m + 4) (n + 3))) * ((w.1 (m + 4) (n + 1)) * (w.1 (m + 4) (n + 2))))) (by omega)
                have hgl := zg_le (a := ((((((w.1 (m + 4) n) * (w.1 (m + 4) (n + 3))) * ((w.1 (m + 4) n) * (w.1 (m + 4) (n + 3)))) + ((((w.1 (m + 4) (n + 1)) * (w.1 (m + 4) (n + 1))) * (w.1 (m + 4) (n + 1))) * (w.1 (m + 4) (n + 3)))) + ((((w.1 (m + 4) (n + 2)) * (w.1 (m + 4) (n + 2))) * (w.1 (m + 4) n)) * (w.1 (m + 4) (n + 2)))) + ((f * ((w.1 (m + 4) (n + 1)) * (w.1 (m + 4) (n + 2)))) * ((w.1 (m + 4) (n + 1)) * (w.1 (m + 4) (n + 2)))))) (b := (((w.1 (m + 4) n) * (w.1 (m + 4) (n + 3))) * ((w.1 (m + 4) (n + 1)) * (w.1 (m + 4) (n + 2))))) (by omega)
                refine jWp.blk mt 3 ?_
                show _ ∧ _ ∧ jWp 153 319 [some (jO m), some (jI (x : Int)), some (jI (n : Int)), some (jI law), some (jI 4), some (jJ f), none, some (jJ (zg ((((((w.1 (m + 4) n) * (w.1 (m + 4) (n + 3))) * ((w.1 (m + 4) n) * (w.1 (m + 4) (n + 3)))) + ((((w.1 (m + 4) (n + 1)) * (w.1 (m + 4) (n + 1))) * (w.1 (m + 4) (n + 1))) * (w.1 (m + 4) (n + 3)))) + ((((w.1 (m + 4) (n + 2)) * (w.1 (m + 4) (n + 2))) * (w.1 (m + 4) n)) * (w.1 (m + 4) (n + 2)))) + ((f * ((w.1 (m + 4) (n + 1)) * (w.1 (m + 4) (n + 2)))) * ((w.1 (m + 4) (n + 1)) * (w.1 (m + 4) (n + 2))))) (((w.1 (m + 4) n) * (w.1 (m + 4) (n + 3))) * ((w.1 (m + 4) (n + 1)) * (w.1 (m + 4) (n + 2)))))), none, some (jJ ((w.1 (m + 4) (n + 1)) * (w.1 (m + 4) (n + 2)))), none] [jO m, jO m] 0 0 (jW (jW w m 8 ((((((w.1 (m + 4) n) * (w.1 (m + 4) (n + 3))) * ((w.1 (m + 4) n) * (w.1 (m + 4) (n + 3)))) + ((((w.1 (m + 4) (n + 1)) * (w.1 (m + 4) (n + 1))) * (w.1 (m + 4) (n + 1))) * (w.1 (m + 4) (n + 3)))) + ((((w.1 (m + 4) (n + 2)) * (w.1 (m + 4) (n + 2))) * (w.1 (m + 4) n)) * (w.1 (m + 4) (n + 2)))) + ((f * ((w.1 (m + 4) (n + 1)) * (w.1 (m + 4) (n + 2)))) * ((w.1 (m + 4) (n + 1)) * (w.1 (m + 4) (n + 2)))))) m 9 (((w.1 (m + 4) n) * (w.1 (m + 4) (n + 3))) * ((w.1 (m + 4) (n + 1)) * (w.1 (m + 4) (n + 2))))) _
                refine ⟨rfl, rfl, ?_⟩
                refine jWp.getJ (pc' := 322) mt rfl rfl (jtg hW.K0) ?_
                rw [show ((jW (jW w m 8 ((((((w.1 (m + 4) n) * (w.1 (m + 4) (n + 3))) * ((w.1 (m + 4) n) * (w.1 (m + 4) (n + 3)))) + ((((w.1 (m + 4) (n + 1)) * (w.1 (m + 4) (n + 1))) * (w.1 (m + 4) (n + 1))) * (w.1 (m + 4) (n + 3)))) + ((((w.1 (m + 4) (n + 2)) * (w.1 (m + 4) (n + 2))) * (w.1 (m + 4) n)) * (w.1 (m + 4) (n + 2)))) + ((f * ((w.1 (m + 4) (n + 1)) * (w.1 (m + 4) (n + 2)))) * ((w.1 (m + 4) (n + 1)) * (w.1 (m + 4) (n + 2)))))) m 9 (((w.1 (m + 4) n) * (w.1 (m + 4) (n + 3))) * ((w.1 (m + 4) (n + 1)) * (w.1 (m + 4) (n + 2))))).1 m 8) = ((((((w.1 (m + 4) n) * (w.1 (m + 4) (n + 3))) * ((w.1 (m + 4) n) * (w.1 (m + 4) (n + 3)))) + ((((w.1 (m + 4) (n + 1)) * (w.1 (m + 4) (n + 1))) * (w.1 (m + 4) (n + 1))) * (w.1 (m + 4) (n + 3)))) + ((((w.1 (m + 4) (n + 2)) * (w.1 (m + 4) (n + 2))) * (w.1 (m + 4) n)) * (w.1 (m + 4) (n + 2)))) + ((f * ((w.1 (m + 4) (n + 1)) * (w.1 (m + 4) (n + 2)))) * ((w.1 (m + 4) (n + 1)) * (w.1 (m + 4) (n + 2))))) from ((jW_k (by decide)).trans jW_s)]
                show jWp 153 322 [some (jO m), some (jI (x : Int)), some (jI (n : Int)), some (jI law), some (jI 4), some (jJ f), none, some (jJ (zg ((((((w.1 (m + 4) n) * (w.1 (m + 4) (n + 3))) * ((w.1 (m + 4) n) * (w.1 (m + 4) (n + 3)))) + ((((w.1 (m + 4) (n + 1)) * (w.1 (m + 4) (n + 1))) * (w.1 (m + 4) (n + 1))) * (w.1 (m + 4) (n + 3)))) + ((((w.1 (m + 4) (n + 2)) * (w.1 (m + 4) (n + 2))) * (w.1 (m + 4) n)) * (w.1 (m + 4) (n + 2)))) + ((f * ((w.1 (m + 4) (n + 1)) * (w.1 (m + 4) (n + 2)))) * ((w.1 (m + 4) (n + 1)) * (w.1 (m + 4) (n + 2))))) (((w.1 (m + 4) n) * (w.1 (m + 4) (n + 3))) * ((w.1 (m + 4) (n + 1)) * (w.1 (m + 4) (n + 2)))))), none, some (jJ ((w.1 (m + 4) (n + 1)) * (w.1 (m + 4) (n + 2)))), none] [jJ ((((((w.1 (m + 4) n) * (w.1 (m + 4) (n + 3))) * ((w.1 (m + 4) n) * (w.1 (m + 4) (n + 3)))) + ((((w.1 (m + 4) (n + 1)) * (w.1 (m + 4) (n + 1))) * (w.1 (m + 4) (n + 1))) * (w.1 (m + 4) (n + 3)))) + ((((w.1 (m + 4) (n + 2)) * (w.1 (m + 4) (n + 2))) * (w.1 (m + 4) n)) * (w.1 (m + 4) (n + 2)))) + ((f * ((w.1 (m + 4) (n + 1)) * (w.1 (m + 4) (n + 2)))) * ((w.1 (m + 4) (n + 1)) * (w.1 (m + 4) (n + 2))))), jO m] 0 0 (jW (jW w m 8 ((((((w.1 (m + 4) n) * (w.1 (m + 4) (n + 3))) * ((w.1 (m + 4) n) * (w.1 (m + 4) (n + 3)))) + ((((w.1 (m + 4) (n + 1)) * (w.1 (m + 4) (n + 1))) * (w.1 (m + 4) (n + 1))) * (w.1 (m + 4) (n + 3)))) + ((((w.1 (m + 4) (n + 2)) * (w.1 (m + 4) (n + 2))) * (w.1 (m + 4) n)) * (w.1 (m + 4) (n + 2)))) + ((f * ((w.1 (m + 4) (n + 1)) * (w.1 (m + 4) (n + 2)))) * ((w.1 (m + 4) (n + 1)) * (w.1 (m + 4) (n + 2)))))) m 9 (((w.1 (m + 4) n) * (w.1 (m + 4) (n + 3))) * ((w.1 (m + 4) (n + 1)) * (w.1 (m + 4) (n + 2))))) _
                refine jWp.blk mt 1 ?_
                show jWp 153 324 [some (jO m), some (jI (x : Int)), some (jI (n : Int)), some (jI law), some (jI 4), some (jJ f), none, some (jJ (zg ((((((w.1 (m + 4) n) * (w.1 (m + 4) (n + 3))) * ((w.1 (m + 4) n) * (w.1 (m + 4) (n + 3)))) + ((((w.1 (m + 4) (n + 1)) * (w.1 (m + 4) (n + 1))) * (w.1 (m + 4) (n + 1))) * (w.1 (m + 4) (n + 3)))) + ((((w.1 (m + 4) (n + 2)) * (w.1 (m + 4) (n + 2))) * (w.1 (m + 4) n)) * (w.1 (m + 4) (n + 2)))) + ((f * ((w.1 (m + 4) (n + 1)) * (w.1 (m + 4) (n + 2)))) * ((w.1 (m + 4) (n + 1)) * (w.1 (m + 4) (n + 2))))) (((w.1 (m + 4) n) * (w.1 (m + 4) (n + 3))) * ((w.1 (m + 4) (n + 1)) * (w.1 (m + 4) (n + 2)))))), none, some (jJ ((w.1 (m + 4) (n + 1)) * (w.1 (m + 4) (n + 2)))), none] [jJ (zg ((((((w.1 (m + 4) n) * (w.1 (m + 4) (n + 3))) * ((w.1 (m + 4) n) * (w.1 (m + 4) (n + 3)))) + ((((w.1 (m + 4) (n + 1)) * (w.1 (m + 4) (n + 1))) * (w.1 (m + 4) (n + 1))) * (w.1 (m + 4) (n + 3)))) + ((((w.1 (m + 4) (n + 2)) * (w.1 (m + 4) (n + 2))) * (w.1 (m + 4) n)) * (w.1 (m + 4) (n + 2)))) + ((f * ((w.1 (m + 4) (n + 1)) * (w.1 (m + 4) (n + 2)))) * ((w.1 (m + 4) (n + 1)) * (w.1 (m + 4) (n + 2))))) (((w.1 (m + 4) n) * (w.1 (m + 4) (n + 3))) * ((w.1 (m + 4) (n + 1)) * (w.1 (m + 4) (n + 2))))), jJ ((((((w.1 (m + 4) n) * (w.1 (m + 4) (n + 3))) * ((w.1 (m + 4) n) * (w.1 (m + 4) (n + 3)))) + ((((w.1 (m + 4) (n + 1)) * (w.1 (m + 4) (n + 1))) * (w.1 (m + 4) (n + 1))) * (w.1 (m + 4) (n + 3)))) + ((((w.1 (m + 4) (n + 2)) * (w.1 (m + 4) (n + 2))) * (w.1 (m + 4) n)) * (w.1 (m + 4) (n + 2)))) + ((f * ((w.1 (m + 4) (n + 1)) * (w.1 (m + 4) (n + 2)))) * ((w.1 (m + 4) (n + 1)) * (w.1 (m + 4) (n + 2))))), jO m] 0 0 (jW (jW w m 8 ((((((w.1 (m + 4) n) * (w.1 (m + 4) (n + 3))) * ((w.1 (m + 4) n) * (w.1 (m + 4) (n + 3)))) + ((((w.1 (m + 4) (n + 1)) * (w.1 (m + 4) (n + 1))) * (w.1 (m + 4) (n + 1))) * (w.1 (m + 4) (n + 3)))) + ((((w.1 (m + 4) (n + 2)) * (w.1 (m + 4) (n + 2))) * (w.1 (m + 4) n)) * (w.1 (m + 4) (n + 2)))) + ((f * ((w.1 (m + 4) (n + 1)) * (w.1 (m + 4) (n + 2)))) * ((w.1 (m + 4) (n + 1)) * (w.1 (m + 4) (n + 2)))))) m 9 (((w.1 (m + 4) n) * (w.1 (m + 4) (n + 3))) * ((w.1 (m + 4) (n + 1)) * (w.1 (m + 4) (n + 2))))) _
                refine jWp.ldiv (pc' := 325) mt rfl rfl (b64_id (by omega) (by omega)) (b64_id (by omega) (by omega)) (by omega) ?_
                show jWp 153 325 [some (jO m), some (jI (x : Int)), some (jI (n : Int)), some (jI law), some (jI 4), some (jJ f), none, some (jJ (zg ((((((w.1 (m + 4) n) * (w.1 (m + 4) (n + 3))) * ((w.1 (m + 4) n) * (w.1 (m + 4) (n + 3)))) + ((((w.1 (m + 4) (n + 1)) * (w.1 (m + 4) (n + 1))) * (w.1 (m + 4) (n + 1))) * (w.1 (m + 4) (n + 3)))) + ((((w.1 (m + 4) (n + 2)) * (w.1 (m + 4) (n + 2))) * (w.1 (m + 4) n)) * (w.1 (m + 4) (n + 2)))) + ((f * ((w.1 (m + 4) (n + 1)) * (w.1 (m + 4) (n + 2)))) * ((w.1 (m + 4) (n + 1)) * (w.1 (m + 4) (n + 2))))) (((w.1 (m + 4) n) * (w.1 (m + 4) (n + 3))) * ((w.1 (m + 4) (n + 1)) * (w.1 (m + 4) (n + 2)))))), none, some (jJ ((w.1 (m + 4) (n + 1)) * (w.1 (m + 4) (n + 2)))), none] [jJ (Int.tdiv ((((((w.1 (m + 4) n) * (w.1 (m + 4) (n + 3))) * ((w.1 (m + 4) n) * (w.1 (m + 4) (n + 3)))) + ((((w.1 (m + 4) (n + 1)) * (w.1 (m + 4) (n + 1))) * (w.1 (m + 4) (n + 1))) * (w.1 (m + 4) (n + 3)))) + ((((w.1 (m + 4) (n + 2)) * (w.1 (m + 4) (n + 2))) * (w.1 (m + 4) n)) * (w.1 (m + 4) (n + 2)))) + ((f * ((w.1 (m + 4) (n + 1)) * (w.1 (m + 4) (n + 2)))) * ((w.1 (m + 4) (n + 1)) * (w.1 (m + 4) (n + 2))))) (zg ((((((w.1 (m + 4) n) * (w.1 (m + 4) (n + 3))) * ((w.1 (m + 4) n) * (w.1 (m + 4) (n + 3)))) + ((((w.1 (m + 4) (n + 1)) * (w.1 (m + 4) (n + 1))) * (w.1 (m + 4) (n + 1))) * (w.1 (m + 4) (n + 3)))) + ((((w.1 (m + 4) (n + 2)) * (w.1 (m + 4) (n + 2))) * (w.1 (m + 4) n)) * (w.1 (m + 4) (n + 2)))) + ((f * ((w.1 (m + 4) (n + 1)) * (w.1 (m + 4) (n + 2)))) * ((w.1 (m + 4) (n + 1)) * (w.1 (m + 4) (n + 2))))) (((w.1 (m + 4) n) * (w.1 (m + 4) (n + 3))) * ((w.1 (m + 4) (n + 1)) * (w.1 (m + 4) (n + 2)))))), jO m] 0 0 (jW (jW w m 8 ((((((w.1 (m + 4) n) * (w.1 (m + 4) (n + 3))) * ((w.1 (m + 4) n) * (w.1 (m + 4) (n + 3)))) + ((((w.1 (m + 4) (n + 1)) * (w.1 (m + 4) (n + 1))) * (w.1 (m + 4) (n + 1))) * (w.1 (m + 4) (n + 3)))) + ((((w.1 (m + 4) (n + 2)) * (w.1 (m + 4) (n + 2))) * (w.1 (m + 4) n)) * (w.1 (m + 4) (n + 2)))) + ((f * ((w.1 (m + 4) (n + 1)) * (w.1 (m + 4) (n + 2)))) * ((w.1 (m + 4) (n + 1)) * (w.1 (m + 4) (n + 2)))))) m 9 (((w.1 (m + 4) n) * (w.1 (m + 4) (n + 3))) * ((w.1 (m + 4) (n + 1)) * (w.1 (m + 4) (n + 2))))) _
                refine jWp.putJ (pc' := 328) mt rfl rfl (jtg hW.K0) ?_
                show jWp 153 328 [some (jO m), some (jI (x : Int)), some (jI (n : Int)), some (jI law), some (jI 4), some (jJ f), none, some (jJ (zg ((((((w.1 (m + 4) n) * (w.1 (m + 4) (n + 3))) * ((w.1 (m + 4) n) * (w.1 (m + 4) (n + 3)))) + ((((w.1 (m + 4) (n + 1)) * (w.1 (m + 4) (n + 1))) * (w.1 (m + 4) (n + 1))) * (w.1 (m + 4) (n + 3)))) + ((((w.1 (m + 4) (n + 2)) * (w.1 (m + 4) (n + 2))) * (w.1 (m + 4) n)) * (w.1 (m + 4) (n + 2)))) + ((f * ((w.1 (m + 4) (n + 1)) * (w.1 (m + 4) (n + 2)))) * ((w.1 (m + 4) (n + 1)) * (w.1 (m + 4) (n + 2))))) (((w.1 (m + 4) n) * (w.1 (m + 4) (n + 3))) * ((w.1 (m + 4) (n + 1)) * (w.1 (m + 4) (n + 2)))))), none, some (jJ ((w.1 (m + 4) (n + 1)) * (w.1 (m + 4) (n + 2)))), none] [] 0 0 (jW (jW (jW w m 8 ((((((w.1 (m + 4) n) * (w.1 (m + 4) (n + 3))) * ((w.1 (m + 4) n) * (w.1 (m + 4) (n + 3)))) + ((((w.1 (m + 4) (n + 1)) * (w.1 (m + 4) (n + 1))) * (w.1 (m + 4) (n + 1))) * (w.1 (m + 4) (n + 3)))) + ((((w.1 (m + 4) (n + 2)) * (w.1 (m + 4) (n + 2))) * (w.1 (m + 4) n)) * (w.1 (m + 4) (n + 2)))) + ((f * ((w.1 (m + 4) (n + 1)) * (w.1 (m + 4) (n + 2)))) * ((w.1 (m + 4) (n + 1)) * (w.1 (m + 4) (n + 2)))))) m 9 (((w.1 (m + 4) n) * (w.1 (m + 4) (n + 3))) * ((w.1 (m + 4) (n + 1)) * (w.1 (m + 4) (n + 2))))) m 8 (Int.tdiv ((((((w.1 (m + 4) n) * (w.1 (m + 4) (n + 3))) * ((w.1 (m + 4) n) * (w.1 (m + 4) (n + 3)))) + ((((w.1 (m + 4) (n + 1)) * (w.1 (m + 4) (n + 1))) * (w.1 (m + 4) (n + 1))) * (w.1 (m + 4) (n + 3)))) + ((((w.1 (m + 4) (n + 2)) * (w.1 (m + 4) (n + 2))) * (w.1 (m + 4) n)) * (w.1 (m + 4) (n + 2)))) + ((f * ((w.1 (m + 4) (n + 1)) * (w.1 (m + 4) (n + 2)))) * ((w.1 (m + 4) (n + 1)) * (w.1 (m + 4) (n + 2))))) (zg ((((((w.1 (m + 4) n) * (w.1 (m + 4) (n + 3))) * ((w.1 (m + 4) n) * (w.1 (m + 4) (n + 3)))) + ((((w.1 (m + 4) (n + 1)) * (w.1 (m + 4) (n + 1))) * (w.1 (m + 4) (n + 1))) * (w.1 (m + 4) (n + 3)))) + ((((w.1 (m + 4) (n + 2)) * (w.1 (m + 4) (n + 2))) * (w.1 (m + 4) n)) * (w.1 (m + 4) (n + 2)))) + ((f * ((w.1 (m + 4) (n + 1)) * (w.1 (m + 4) (n + 2)))) * ((w.1 (m + 4) (n + 1)) * (w.1 (m + 4) (n + 2))))) (((w.1 (m + 4) n) * (w.1 (m + 4) (n + 3))) * ((w.1 (m + 4) (n + 1)) * (w.1 (m + 4) (n + 2))))))) _
                refine jWp.blk mt 2 ?_
                show _ ∧ _ ∧ jWp 153 330 [some (jO m), some (jI (x : Int)), some (jI (n : Int)), some (jI law), some (jI 4), some (jJ f), none, some (jJ (zg ((((((w.1 (m + 4) n) * (w.1 (m + 4) (n + 3))) * ((w.1 (m + 4) n) * (w.1 (m + 4) (n + 3)))) + ((((w.1 (m + 4) (n + 1)) * (w.1 (m + 4) (n + 1))) * (w.1 (m + 4) (n + 1))) * (w.1 (m + 4) (n + 3)))) + ((((w.1 (m + 4) (n + 2)) * (w.1 (m + 4) (n + 2))) * (w.1 (m + 4) n)) * (w.1 (m + 4) (n + 2)))) + ((f * ((w.1 (m + 4) (n + 1)) * (w.1 (m + 4) (n + 2)))) * ((w.1 (m + 4) (n + 1)) * (w.1 (m + 4) (n + 2))))) (((w.1 (m + 4) n) * (w.1 (m + 4) (n + 3))) * ((w.1 (m + 4) (n + 1)) * (w.1 (m + 4) (n + 2)))))), none, some (jJ ((w.1 (m + 4) (n + 1)) * (w.1 (m + 4) (n + 2)))), none] [jO m, jO m] 0 0 (jW (jW (jW w m 8 ((((((w.1 (m + 4) n) * (w.1 (m + 4) (n + 3))) * ((w.1 (m + 4) n) * (w.1 (m + 4) (n + 3)))) + ((((w.1 (m + 4) (n + 1)) * (w.1 (m + 4) (n + 1))) * (w.1 (m + 4) (n + 1))) * (w.1 (m + 4) (n + 3)))) + ((((w.1 (m + 4) (n + 2)) * (w.1 (m + 4) (n + 2))) * (w.1 (m + 4) n)) * (w.1 (m + 4) (n + 2)))) + ((f * ((w.1 (m + 4) (n + 1)) * (w.1 (m + 4) (n + 2)))) * ((w.1 (m + 4) (n + 1)) * (w.1 (m + 4) (n + 2)))))) m 9 (((w.1 (m + 4) n) * (w.1 (m + 4) (n + 3))) * ((w.1 (m + 4) (n + 1)) * (w.1 (m + 4) (n + 2))))) m 8 (Int.tdiv ((((((w.1 (m + 4) n) * (w.1 (m + 4) (n + 3))) * ((w.1 (m + 4) n) * (w.1 (m + 4) (n + 3)))) + ((((w.1 (m + 4) (n + 1)) * (w.1 (m + 4) (n + 1))) * (w.1 (m + 4) (n + 1))) * (w.1 (m + 4) (n + 3)))) + ((((w.1 (m + 4) (n + 2)) * (w.1 (m + 4) (n + 2))) * (w.1 (m + 4) n)) * (w.1 (m + 4) (n + 2)))) + ((f * ((w.1 (m + 4) (n + 1)) * (w.1 (m + 4) (n + 2)))) * ((w.1 (m + 4) (n + 1)) * (w.1 (m + 4) (n + 2))))) (zg ((((((w.1 (m + 4) n) * (w.1 (m + 4) (n + 3))) * ((w.1 (m + 4) n) * (w.1 (m + 4) (n + 3)))) + ((((w.1 (m + 4) (n + 1)) * (w.1 (m + 4) (n + 1))) * (w.1 (m + 4) (n + 1))) * (w.1 (m + 4) (n + 3)))) + ((((w.1 (m + 4) (n + 2)) * (w.1 (m + 4) (n + 2))) * (w.1 (m + 4) n)) * (w.1 (m + 4) (n + 2)))) + ((f * ((w.1 (m + 4) (n + 1)) * (w.1 (m + 4) (n + 2)))) * ((w.1 (m + 4) (n + 1)) * (w.1 (m + 4) (n + 2))))) (((w.1 (m + 4) n) * (w.1 (m + 4) (n + 3))) * ((w.1 (m + 4) (n + 1)) * (w.1 (m + 4) (n + 2))))))) _
                refine ⟨rfl, rfl, ?_⟩
                refine jWp.getJ (pc' := 333) mt rfl rfl (jtg hW.K0) ?_
                rw [show ((jW (jW (jW w m 8 ((((((w.1 (m + 4) n) * (w.1 (m + 4) (n + 3))) * ((w.1 (m + 4) n) * (w.1 (m + 4) (n + 3)))) + ((((w.1 (m + 4) (n + 1)) * (w.1 (m + 4) (n + 1))) * (w.1 (m + 4) (n + 1))) * (w.1 (m + 4) (n + 3)))) + ((((w.1 (m + 4) (n + 2)) * (w.1 (m + 4) (n + 2))) * (w.1 (m + 4) n)) * (w.1 (m + 4) (n + 2)))) + ((f * ((w.1 (m + 4) (n + 1)) * (w.1 (m + 4) (n + 2)))) * ((w.1 (m + 4) (n + 1)) * (w.1 (m + 4) (n + 2)))))) m 9 (((w.1 (m + 4) n) * (w.1 (m + 4) (n + 3))) * ((w.1 (m + 4) (n + 1)) * (w.1 (m + 4) (n + 2))))) m 8 (Int.tdiv ((((((w.1 (m + 4) n) * (w.1 (m + 4) (n + 3))) * ((w.1 (m + 4) n) * (w.1 (m + 4) (n + 3)))) + ((((w.1 (m + 4) (n + 1)) * (w.1 (m + 4) (n + 1))) * (w.1 (m + 4) (n + 1))) * (w.1 (m + 4) (n + 3)))) + ((((w.1 (m + 4) (n + 2)) * (w.1 (m + 4) (n + 2))) * (w.1 (m + 4) n)) * (w.1 (m + 4) (n + 2)))) + ((f * ((w.1 (m + 4) (n + 1)) * (w.1 (m + 4) (n + 2)))) * ((w.1 (m + 4) (n + 1)) * (w.1 (m + 4) (n + 2))))) (zg ((((((w.1 (m + 4) n) * (w.1 (m + 4) (n + 3))) * ((w.1 (m + 4) n) * (w.1 (m + 4) (n + 3)))) + ((((w.1 (m + 4) (n + 1)) * (w.1 (m + 4) (n + 1))) * (w.1 (m + 4) (n + 1))) * (w.1 (m + 4) (n + 3)))) + ((((w.1 (m + 4) (n + 2)) * (w.1 (m + 4) (n + 2))) * (w.1 (m + 4) n)) * (w.1 (m + 4) (n + 2)))) + ((f * ((w.1 (m + 4) (n + 1)) * (w.1 (m + 4) (n + 2)))) * ((w.1 (m + 4) (n + 1)) * (w.1 (m + 4) (n + 2))))) (((w.1 (m + 4) n) * (w.1 (m + 4) (n + 3))) * ((w.1 (m + 4) (n + 1)) * (w.1 (m + 4) (n + 2))))))).1 m 9) = (((w.1 (m + 4) n) * (w.1 (m + 4) (n + 3))) * ((w.1 (m + 4) (n + 1)) * (w.1 (m + 4) (n + 2)))) from ((jW_k (by decide)).trans jW_s)]
                show jWp 153 333 [some (jO m), some (jI (x : Int)), some (jI (n : Int)), some (jI law), some (jI 4), some (jJ f), none, some (jJ (zg ((((((w.1 (m + 4) n) * (w.1 (m + 4) (n + 3))) * ((w.1 (m + 4) n) * (w.1 (m + 4) (n + 3)))) + ((((w.1 (m + 4) (n + 1)) * (w.1 (m + 4) (n + 1))) * (w.1 (m + 4) (n + 1))) * (w.1 (m + 4) (n + 3)))) + ((((w.1 (m + 4) (n + 2)) * (w.1 (m + 4) (n + 2))) * (w.1 (m + 4) n)) * (w.1 (m + 4) (n + 2)))) + ((f * ((w.1 (m + 4) (n + 1)) * (w.1 (m + 4) (n + 2)))) * ((w.1 (m + 4) (n + 1)) * (w.1 (m + 4) (n + 2))))) (((w.1 (m + 4) n) * (w.1 (m + 4) (n + 3))) * ((w.1 (m + 4) (n + 1)) * (w.1 (m + 4) (n + 2)))))), none, some (jJ ((w.1 (m + 4) (n + 1)) * (w.1 (m + 4) (n + 2)))), none] [jJ (((w.1 (m + 4) n) * (w.1 (m + 4) (n + 3))) * ((w.1 (m + 4) (n + 1)) * (w.1 (m + 4) (n + 2)))), jO m] 0 0 (jW (jW (jW w m 8 ((((((w.1 (m + 4) n) * (w.1 (m + 4) (n + 3))) * ((w.1 (m + 4) n) * (w.1 (m + 4) (n + 3)))) + ((((w.1 (m + 4) (n + 1)) * (w.1 (m + 4) (n + 1))) * (w.1 (m + 4) (n + 1))) * (w.1 (m + 4) (n + 3)))) + ((((w.1 (m + 4) (n + 2)) * (w.1 (m + 4) (n + 2))) * (w.1 (m + 4) n)) * (w.1 (m + 4) (n + 2)))) + ((f * ((w.1 (m + 4) (n + 1)) * (w.1 (m + 4) (n + 2)))) * ((w.1 (m + 4) (n + 1)) * (w.1 (m + 4) (n + 2)))))) m 9 (((w.1 (m + 4) n) * (w.1 (m + 4) (n + 3))) * ((w.1 (m + 4) (n + 1)) * (w.1 (m + 4) (n + 2))))) m 8 (Int.tdiv ((((((w.1 (m + 4) n) * (w.1 (m + 4) (n + 3))) * ((w.1 (m + 4) n) * (w.1 (m + 4) (n + 3)))) + ((((w.1 (m + 4) (n + 1)) * (w.1 (m + 4) (n + 1))) * (w.1 (m + 4) (n + 1))) * (w.1 (m + 4) (n + 3)))) + ((((w.1 (m + 4) (n + 2)) * (w.1 (m + 4) (n + 2))) * (w.1 (m + 4) n)) * (w.1 (m + 4) (n + 2)))) + ((f * ((w.1 (m + 4) (n + 1)) * (w.1 (m + 4) (n + 2)))) * ((w.1 (m + 4) (n + 1)) * (w.1 (m + 4) (n + 2))))) (zg ((((((w.1 (m + 4) n) * (w.1 (m + 4) (n + 3))) * ((w.1 (m + 4) n) * (w.1 (m + 4) (n + 3)))) + ((((w.1 (m + 4) (n + 1)) * (w.1 (m + 4) (n + 1))) * (w.1 (m + 4) (n + 1))) * (w.1 (m + 4) (n + 3)))) + ((((w.1 (m + 4) (n + 2)) * (w.1 (m + 4) (n + 2))) * (w.1 (m + 4) n)) * (w.1 (m + 4) (n + 2)))) + ((f * ((w.1 (m + 4) (n + 1)) * (w.1 (m + 4) (n + 2)))) * ((w.1 (m + 4) (n + 1)) * (w.1 (m + 4) (n + 2))))) (((w.1 (m + 4) n) * (w.1 (m + 4) (n + 3))) * ((w.1 (m + 4) (n + 1)) * (w.1 (m + 4) (n + 2))))))) _
                refine jWp.blk mt 1 ?_
                show jWp 153 335 [some (jO m), some (jI (x : Int)), some (jI (n : Int)), some (jI law), some (jI 4), some (jJ f), none, some (jJ (zg ((((((w.1 (m + 4) n) * (w.1 (m + 4) (n + 3))) * ((w.1 (m + 4) n) * (w.1 (m + 4) (n + 3)))) + ((((w.1 (m + 4) (n + 1)) * (w.1 (m + 4) (n + 1))) * (w.1 (m + 4) (n + 1))) * (w.1 (m + 4) (n + 3)))) + ((((w.1 (m + 4) (n + 2)) * (w.1 (m + 4) (n + 2))) * (w.1 (m + 4) n)) * (w.1 (m + 4) (n + 2)))) + ((f * ((w.1 (m + 4) (n + 1)) * (w.1 (m + 4) (n + 2)))) * ((w.1 (m + 4) (n + 1)) * (w.1 (m + 4) (n + 2))))) (((w.1 (m + 4) n) * (w.1 (m + 4) (n + 3))) * ((w.1 (m + 4) (n + 1)) * (w.1 (m + 4) (n + 2)))))), none, some (jJ ((w.1 (m + 4) (n + 1)) * (w.1 (m + 4) (n + 2)))), none] [jJ (zg ((((((w.1 (m + 4) n) * (w.1 (m + 4) (n + 3))) * ((w.1 (m + 4) n) * (w.1 (m + 4) (n + 3)))) + ((((w.1 (m + 4) (n + 1)) * (w.1 (m + 4) (n + 1))) * (w.1 (m + 4) (n + 1))) * (w.1 (m + 4) (n + 3)))) + ((((w.1 (m + 4) (n + 2)) * (w.1 (m + 4) (n + 2))) * (w.1 (m + 4) n)) * (w.1 (m + 4) (n + 2)))) + ((f * ((w.1 (m + 4) (n + 1)) * (w.1 (m + 4) (n + 2)))) * ((w.1 (m + 4) (n + 1)) * (w.1 (m + 4) (n + 2))))) (((w.1 (m + 4) n) * (w.1 (m + 4) (n + 3))) * ((w.1 (m + 4) (n + 1)) * (w.1 (m + 4) (n + 2))))), jJ (((w.1 (m + 4) n) * (w.1 (m + 4) (n + 3))) * ((w.1 (m + 4) (n + 1)) * (w.1 (m + 4) (n + 2)))), jO m] 0 0 (jW (jW (jW w m 8 ((((((w.1 (m + 4) n) * (w.1 (m + 4) (n + 3))) * ((w.1 (m + 4) n) * (w.1 (m + 4) (n + 3)))) + ((((w.1 (m + 4) (n + 1)) * (w.1 (m + 4) (n + 1))) * (w.1 (m + 4) (n + 1))) * (w.1 (m + 4) (n + 3)))) + ((((w.1 (m + 4) (n + 2)) * (w.1 (m + 4) (n + 2))) * (w.1 (m + 4) n)) * (w.1 (m + 4) (n + 2)))) + ((f * ((w.1 (m + 4) (n + 1)) * (w.1 (m + 4) (n + 2)))) * ((w.1 (m + 4) (n + 1)) * (w.1 (m + 4) (n + 2)))))) m 9 (((w.1 (m + 4) n) * (w.1 (m + 4) (n + 3))) * ((w.1 (m + 4) (n + 1)) * (w.1 (m + 4) (n + 2))))) m 8 (Int.tdiv ((((((w.1 (m + 4) n) * (w.1 (m + 4) (n + 3))) * ((w.1 (m + 4) n) * (w.1 (m + 4) (n + 3)))) + ((((w.1 (m + 4) (n + 1)) * (w.1 (m + 4) (n + 1))) * (w.1 (m + 4) (n + 1))) * (w.1 (m + 4) (n + 3)))) + ((((w.1 (m + 4) (n + 2)) * (w.1 (m + 4) (n + 2))) * (w.1 (m + 4) n)) * (w.1 (m + 4) (n + 2)))) + ((f * ((w.1 (m + 4) (n + 1)) * (w.1 (m + 4) (n + 2)))) * ((w.1 (m + 4) (n + 1)) * (w.1 (m + 4) (n + 2))))) (zg ((((((w.1 (m + 4) n) * (w.1 (m + 4) (n + 3))) * ((w.1 (m + 4) n) * (w.1 (m + 4) (n + 3)))) + ((((w.1 (m + 4) (n + 1)) * (w.1 (m + 4) (n + 1))) * (w.1 (m + 4) (n + 1))) * (w.1 (m + 4) (n + 3)))) + ((((w.1 (m + 4) (n + 2)) * (w.1 (m + 4) (n + 2))) * (w.1 (m + 4) n)) * (w.1 (m + 4) (n + 2)))) + ((f * ((w.1 (m + 4) (n + 1)) * (w.1 (m + 4) (n + 2)))) * ((w.1 (m + 4) (n + 1)) * (w.1 (m + 4) (n + 2))))) (((w.1 (m + 4) n) * (w.1 (m + 4) (n + 3))) * ((w.1 (m + 4) (n + 1)) * (w.1 (m + 4) (n + 2))))))) _
                refine jWp.ldiv (pc' := 336) mt rfl rfl (b64_id (by omega) (by omega)) (b64_id (by omega) (by omega)) (by omega) ?_
                show jWp 153 336 [some (jO m), some (jI (x : Int)), some (jI (n : Int)), some (jI law), some (jI 4), some (jJ f), none, some (jJ (zg ((((((w.1 (m + 4) n) * (w.1 (m + 4) (n + 3))) * ((w.1 (m + 4) n) * (w.1 (m + 4) (n + 3)))) + ((((w.1 (m + 4) (n + 1)) * (w.1 (m + 4) (n + 1))) * (w.1 (m + 4) (n + 1))) * (w.1 (m + 4) (n + 3)))) + ((((w.1 (m + 4) (n + 2)) * (w.1 (m + 4) (n + 2))) * (w.1 (m + 4) n)) * (w.1 (m + 4) (n + 2)))) + ((f * ((w.1 (m + 4) (n + 1)) * (w.1 (m + 4) (n + 2)))) * ((w.1 (m + 4) (n + 1)) * (w.1 (m + 4) (n + 2))))) (((w.1 (m + 4) n) * (w.1 (m + 4) (n + 3))) * ((w.1 (m + 4) (n + 1)) * (w.1 (m + 4) (n + 2)))))), none, some (jJ ((w.1 (m + 4) (n + 1)) * (w.1 (m + 4) (n + 2)))), none] [jJ (Int.tdiv (((w.1 (m + 4) n) * (w.1 (m + 4) (n + 3))) * ((w.1 (m + 4) (n + 1)) * (w.1 (m + 4) (n + 2)))) (zg ((((((w.1 (m + 4) n) * (w.1 (m + 4) (n + 3))) * ((w.1 (m + 4) n) * (w.1 (m + 4) (n + 3)))) + ((((w.1 (m + 4) (n + 1)) * (w.1 (m + 4) (n + 1))) * (w.1 (m + 4) (n + 1))) * (w.1 (m + 4) (n + 3)))) + ((((w.1 (m + 4) (n + 2)) * (w.1 (m + 4) (n + 2))) * (w.1 (m + 4) n)) * (w.1 (m + 4) (n + 2)))) + ((f * ((w.1 (m + 4) (n + 1)) * (w.1 (m + 4) (n + 2)))) * ((w.1 (m + 4) (n + 1)) * (w.1 (m + 4) (n + 2))))) (((w.1 (m + 4) n) * (w.1 (m + 4) (n + 3))) * ((w.1 (m + 4) (n + 1)) * (w.1 (m + 4) (n + 2)))))), jO m] 0 0 (jW (jW (jW w m 8 ((((((w.1 (m + 4) n) * (w.1 (m + 4) (n + 3))) * ((w.1 (m + 4) n) * (w.1 (m + 4) (n + 3)))) + ((((w.1 (m + 4) (n + 1)) * (w.1 (m + 4) (n + 1))) * (w.1 (m + 4) (n + 1))) * (w.1 (m + 4) (n + 3)))) + ((((w.1 (m + 4) (n + 2)) * (w.1 (m + 4) (n + 2))) * (w.1 (m + 4) n)) * (w.1 (m + 4) (n + 2)))) + ((f * ((w.1 (m + 4) (n + 1)) * (w.1 (m + 4) (n + 2)))) * ((w.1 (m + 4) (n + 1)) * (w.1 (m + 4) (n + 2)))))) m 9 (((w.1 (m + 4) n) * (w.1 (m + 4) (n + 3))) * ((w.1 (m + 4) (n + 1)) * (w.1 (m + 4) (n + 2))))) m 8 (Int.tdiv ((((((w.1 (m + 4) n) * (w.1 (m + 4) (n + 3))) * ((w.1 (m + 4) n) * (w.1 (m + 4) (n + 3)))) + ((((w.1 (m + 4) (n + 1)) * (w.1 (m + 4) (n + 1))) * (w.1 (m + 4) (n + 1))) * (w.1 (m + 4) (n + 3)))) + ((((w.1 (m + 4) (n + 2)) * (w.1 (m + 4) (n + 2))) * (w.1 (m + 4) n)) * (w.1 (m + 4) (n + 2)))) + ((f * ((w.1 (m + 4) (n + 1)) * (w.1 (m + 4) (n + 2)))) * ((w.1 (m + 4) (n + 1)) * (w.1 (m + 4) (n + 2))))) (zg ((((((w.1 (m + 4) n) * (w.1 (m + 4) (n + 3))) * ((w.1 (m + 4) n) * (w.1 (m + 4) (n + 3)))) + ((((w.1 (m + 4) (n + 1)) * (w.1 (m + 4) (n + 1))) * (w.1 (m + 4) (n + 1))) * (w.1 (m + 4) (n + 3)))) + ((((w.1 (m + 4) (n + 2)) * (w.1 (m + 4) (n + 2))) * (w.1 (m + 4) n)) * (w.1 (m + 4) (n + 2)))) + ((f * ((w.1 (m + 4) (n + 1)) * (w.1 (m + 4) (n + 2)))) * ((w.1 (m + 4) (n + 1)) * (w.1 (m + 4) (n + 2))))) (((w.1 (m + 4) n) * (w.1 (m + 4) (n + 3))) * ((w.1 (m + 4) (n + 1)) * (w.1 (m + 4) (n + 2))))))) _
                refine jWp.putJ (pc' := 339) mt rfl rfl (jtg hW.K0) ?_
                show jWp 153 339 [some (jO m), some (jI (x : Int)), some (jI (n : Int)), some (jI law), some (jI 4), some (jJ f), none, some (jJ (zg ((((((w.1 (m + 4) n) * (w.1 (m + 4) (n + 3))) * ((w.1 (m + 4) n) * (w.1 (m + 4) (n + 3)))) + ((((w.1 (m + 4) (n + 1)) * (w.1 (m + 4) (n + 1))) * (w.1 (m + 4) (n + 1))) * (w.1 (m + 4) (n + 3)))) + ((((w.1 (m + 4) (n + 2)) * (w.1 (m + 4) (n + 2))) * (w.1 (m + 4) n)) * (w.1 (m + 4) (n + 2)))) + ((f * ((w.1 (m + 4) (n + 1)) * (w.1 (m + 4) (n + 2)))) * ((w.1 (m + 4) (n + 1)) * (w.1 (m + 4) (n + 2))))) (((w.1 (m + 4) n) * (w.1 (m + 4) (n + 3))) * ((w.1 (m + 4) (n + 1)) * (w.1 (m + 4) (n + 2)))))), none, some (jJ ((w.1 (m + 4) (n + 1)) * (w.1 (m + 4) (n + 2)))), none] [] 0 0 (jW (jW (jW (jW w m 8 ((((((w.1 (m + 4) n) * (w.1 (m + 4) (n + 3))) * ((w.1 (m + 4) n) * (w.1 (m + 4) (n + 3)))) + ((((w.1 (m + 4) (n + 1)) * (w.1 (m + 4) (n + 1))) * (w.1 (m + 4) (n + 1))) * (w.1 (m + 4) (n + 3)))) + ((((w.1 (m + 4) (n + 2)) * (w.1 (m + 4) (n + 2))) * (w.1 (m + 4) n)) * (w.1 (m + 4) (n + 2)))) + ((f * ((w.1 (m + 4) (n + 1)) * (w.1 (m + 4) (n + 2)))) * ((w.1 (m + 4) (n + 1)) * (w.1 (m + 4) (n + 2)))))) m 9 (((w.1 (m + 4) n) * (w.1 (m + 4) (n + 3))) * ((w.1 (m + 4) (n + 1)) * (w.1 (m + 4) (n + 2))))) m 8 (Int.tdiv ((((((w.1 (m + 4) n) * (w.1 (m + 4) (n + 3))) * ((w.1 (m + 4) n) * (w.1 (m + 4) (n + 3)))) + ((((w.1 (m + 4) (n + 1)) * (w.1 (m + 4) (n + 1))) * (w.1 (m + 4) (n + 1))) * (w.1 (m + 4) (n + 3)))) + ((((w.1 (m + 4) (n + 2)) * (w.1 (m + 4) (n + 2))) * (w.1 (m + 4) n)) * (w.1 (m + 4) (n + 2)))) + ((f * ((w.1 (m + 4) (n + 1)) * (w.1 (m + 4) (n + 2)))) * ((w.1 (m + 4) (n + 1)) * (w.1 (m + 4) (n + 2))))) (zg ((((((w.1 (m + 4) n) * (w.1 (m + 4) (n + 3))) * ((w.1 (m + 4) n) * (w.1 (m + 4) (n + 3)))) + ((((w.1 (m + 4) (n + 1)) * (w.1 (m + 4) (n + 1))) * (w.1 (m + 4) (n + 1))) * (w.1 (m + 4) (n + 3)))) + ((((w.1 (m + 4) (n + 2)) * (w.1 (m + 4) (n + 2))) * (w.1 (m + 4) n)) * (w.1 (m + 4) (n + 2)))) + ((f * ((w.1 (m + 4) (n + 1)) * (w.1 (m + 4) (n + 2)))) * ((w.1 (m + 4) (n + 1)) * (w.1 (m + 4) (n + 2))))) (((w.1 (m + 4) n) * (w.1 (m + 4) (n + 3))) * ((w.1 (m + 4) (n + 1)) * (w.1 (m + 4) (n + 2))))))) m 9 (Int.tdiv (((w.1 (m + 4) n) * (w.1 (m + 4) (n + 3))) * ((w.1 (m + 4) (n + 1)) * (w.1 (m + 4) (n + 2)))) (zg ((((((w.1 (m + 4) n) * (w.1 (m + 4) (n + 3))) * ((w.1 (m + 4) n) * (w.1 (m + 4) (n + 3)))) + ((((w.1 (m + 4) (n + 1)) * (w.1 (m + 4) (n + 1))) * (w.1 (m + 4) (n + 1))) * (w.1 (m + 4) (n + 3)))) + ((((w.1 (m + 4) (n + 2)) * (w.1 (m + 4) (n + 2))) * (w.1 (m + 4) n)) * (w.1 (m + 4) (n + 2)))) + ((f * ((w.1 (m + 4) (n + 1)) * (w.1 (m + 4) (n + 2)))) * ((w.1 (m + 4) (n + 1)) * (w.1 (m + 4) (n + 2))))) (((w.1 (m + 4) n) * (w.1 (m + 4) (n + 3))) * ((w.1 (m + 4) (n + 1)) * (w.1 (m + 4) (n + 2))))))) _
                refine jWp.blk mt 1 ?_
                show jWp 153 340 [some (jO m), some (jI (x : Int)), some (jI (n : Int)), some (jI law), some (jI 4), some (jJ f), none, some (jJ (zg ((((((w.1 (m + 4) n) * (w.1 (m + 4) (n + 3))) * ((w.1 (m + 4) n) * (w.1 (m + 4) (n + 3)))) + ((((w.1 (m + 4) (n + 1)) * (w.1 (m + 4) (n + 1))) * (w.1 (m + 4) (n + 1))) * (w.1 (m + 4) (n + 3)))) + ((((w.1 (m + 4) (n + 2)) * (w.1 (m + 4) (n + 2))) * (w.1 (m + 4) n)) * (w.1 (m + 4) (n + 2)))) + ((f * ((w.1 (m + 4) (n + 1)) * (w.1 (m + 4) (n + 2)))) * ((w.1 (m + 4) (n + 1)) * (w.1 (m + 4) (n + 2))))) (((w.1 (m + 4) n) * (w.1 (m + 4) (n + 3))) * ((w.1 (m + 4) (n + 1)) * (w.1 (m + 4) (n + 2)))))), none, some (jJ ((w.1 (m + 4) (n + 1)) * (w.1 (m + 4) (n + 2)))), none] [jI 1] 0 0 (jW (jW (jW (jW w m 8 ((((((w.1 (m + 4) n) * (w.1 (m + 4) (n + 3))) * ((w.1 (m + 4) n) * (w.1 (m + 4) (n + 3)))) + ((((w.1 (m + 4) (n + 1)) * (w.1 (m + 4) (n + 1))) * (w.1 (m + 4) (n + 1))) * (w.1 (m + 4) (n + 3)))) + ((((w.1 (m + 4) (n + 2)) * (w.1 (m + 4) (n + 2))) * (w.1 (m + 4) n)) * (w.1 (m + 4) (n + 2)))) + ((f * ((w.1 (m + 4) (n + 1)) * (w.1 (m + 4) (n + 2)))) * ((w.1 (m + 4) (n + 1)) * (w.1 (m + 4) (n + 2)))))) m 9 (((w.1 (m + 4) n) * (w.1 (m + 4) (n + 3))) * ((w.1 (m + 4) (n + 1)) * (w.1 (m + 4) (n + 2))))) m 8 (Int.tdiv ((((((w.1 (m + 4) n) * (w.1 (m + 4) (n + 3))) * ((w.1 (m + 4) n) * (w.1 (m + 4) (n + 3)))) + ((((w.1 (m + 4) (n + 1)) * (w.1 (m + 4) (n + 1))) * (w.1 (m + 4) (n + 1))) * (w.1 (m + 4) (n + 3)))) + ((((w.1 (m + 4) (n + 2)) * (w.1 (m + 4) (n + 2))) * (w.1 (m + 4) n)) * (w.1 (m + 4) (n + 2)))) + ((f * ((w.1 (m + 4) (n + 1)) * (w.1 (m + 4) (n + 2)))) * ((w.1 (m + 4) (n + 1)) * (w.1 (m + 4) (n + 2))))) (zg ((((((w.1 (m + 4) n) * (w.1 (m + 4) (n + 3))) * ((w.1 (m + 4) n) * (w.1 (m + 4) (n + 3)))) + ((((w.1 (m + 4) (n + 1)) * (w.1 (m + 4) (n + 1))) * (w.1 (m + 4) (n + 1))) * (w.1 (m + 4) (n + 3)))) + ((((w.1 (m + 4) (n + 2)) * (w.1 (m + 4) (n + 2))) * (w.1 (m + 4) n)) * (w.1 (m + 4) (n + 2)))) + ((f * ((w.1 (m + 4) (n + 1)) * (w.1 (m + 4) (n + 2)))) * ((w.1 (m + 4) (n + 1)) * (w.1 (m + 4) (n + 2))))) (((w.1 (m + 4) n) * (w.1 (m + 4) (n + 3))) * ((w.1 (m + 4) (n + 1)) * (w.1 (m + 4) (n + 2))))))) m 9 (Int.tdiv (((w.1 (m + 4) n) * (w.1 (m + 4) (n + 3))) * ((w.1 (m + 4) (n + 1)) * (w.1 (m + 4) (n + 2)))) (zg ((((((w.1 (m + 4) n) * (w.1 (m + 4) (n + 3))) * ((w.1 (m + 4) n) * (w.1 (m + 4) (n + 3)))) + ((((w.1 (m + 4) (n + 1)) * (w.1 (m + 4) (n + 1))) * (w.1 (m + 4) (n + 1))) * (w.1 (m + 4) (n + 3)))) + ((((w.1 (m + 4) (n + 2)) * (w.1 (m + 4) (n + 2))) * (w.1 (m + 4) n)) * (w.1 (m + 4) (n + 2)))) + ((f * ((w.1 (m + 4) (n + 1)) * (w.1 (m + 4) (n + 2)))) * ((w.1 (m + 4) (n + 1)) * (w.1 (m + 4) (n + 2))))) (((w.1 (m + 4) n) * (w.1 (m + 4) (n + 3))) * ((w.1 (m + 4) (n + 1)) * (w.1 (m + 4) (n + 2))))))) _
                refine jWp.iretz mt rfl ⟨rfl, rfl⟩ rfl (Or.inr rfl) ?_
                have ez : zkm law = 4 := by unfold zkm; rw [if_neg (by omega), if_neg (by omega), if_pos (by omega)]
                have eu : zku law f (w.1 (m + 4)) n = ((((((w.1 (m + 4) n) * (w.1 (m + 4) (n + 3))) * ((w.1 (m + 4) n) * (w.1 (m + 4) (n + 3)))) + ((((w.1 (m + 4) (n + 1)) * (w.1 (m + 4) (n + 1))) * (w.1 (m + 4) (n + 1))) * (w.1 (m + 4) (n + 3)))) + ((((w.1 (m + 4) (n + 2)) * (w.1 (m + 4) (n + 2))) * (w.1 (m + 4) n)) * (w.1 (m + 4) (n + 2)))) + ((f * ((w.1 (m + 4) (n + 1)) * (w.1 (m + 4) (n + 2)))) * ((w.1 (m + 4) (n + 1)) * (w.1 (m + 4) (n + 2))))) := by unfold zku; rw [if_neg (by omega), if_neg (by omega)]
                have ed : zkd law (w.1 (m + 4)) n = (((w.1 (m + 4) n) * (w.1 (m + 4) (n + 3))) * ((w.1 (m + 4) (n + 1)) * (w.1 (m + 4) (n + 2)))) := by unfold zkd; rw [if_neg (by omega), if_neg (by omega)]
                have hua := zuA (a := ((((((w.1 (m + 4) n) * (w.1 (m + 4) (n + 3))) * ((w.1 (m + 4) n) * (w.1 (m + 4) (n + 3)))) + ((((w.1 (m + 4) (n + 1)) * (w.1 (m + 4) (n + 1))) * (w.1 (m + 4) (n + 1))) * (w.1 (m + 4) (n + 3)))) + ((((w.1 (m + 4) (n + 2)) * (w.1 (m + 4) (n + 2))) * (w.1 (m + 4) n)) * (w.1 (m + 4) (n + 2)))) + ((f * ((w.1 (m + 4) (n + 1)) * (w.1 (m + 4) (n + 2)))) * ((w.1 (m + 4) (n + 1)) * (w.1 (m + 4) (n + 2)))))) (b := (((w.1 (m + 4) n) * (w.1 (m + 4) (n + 3))) * ((w.1 (m + 4) (n + 1)) * (w.1 (m + 4) (n + 2))))) (by omega)
                have hvb := zv_b (a := ((((((w.1 (m + 4) n) * (w.1 (m + 4) (n + 3))) * ((w.1 (m + 4) n) * (w.1 (m + 4) (n + 3)))) + ((((w.1 (m + 4) (n + 1)) * (w.1 (m + 4) (n + 1))) * (w.1 (m + 4) (n + 1))) * (w.1 (m + 4) (n + 3)))) + ((((w.1 (m + 4) (n + 2)) * (w.1 (m + 4) (n + 2))) * (w.1 (m + 4) n)) * (w.1 (m + 4) (n + 2)))) + ((f * ((w.1 (m + 4) (n + 1)) * (w.1 (m + 4) (n + 2)))) * ((w.1 (m + 4) (n + 1)) * (w.1 (m + 4) (n + 2)))))) (b := (((w.1 (m + 4) n) * (w.1 (m + 4) (n + 3))) * ((w.1 (m + 4) (n + 1)) * (w.1 (m + 4) (n + 2))))) (by omega)
                refine Or.inl ⟨rfl, ⟨by rw [ez]; decide, by rw [ez]; exact h5⟩, ?_, ?_⟩
                · rw [eu, ed]
                  exact jW4
                · rw [eu, ed]
                  omega
              · have h7 : law = 1 := h7
                exfalso; omega
            · have h6 : law = 0 := h6
              exfalso; omega
          · have h5 : ¬ (∀ k, n ≤ k → k < n + 4 → k < len ∧ 1 ≤ w.1 (m + 4) k ∧ w.1 (m + 4) k ≤ 9999) := h5
            show jWp 153 53 [some (jO m), some (jI (x : Int)), some (jI (n : Int)), some (jI law), some (jI 4), none, none, none, none, none, none] [jI 0] 0 0 w _
            refine jWp.ifc (b := false) mt rfl (by decide) rfl ?_
            show jWp 153 56 [some (jO m), some (jI (x : Int)), some (jI (n : Int)), some (jI law), some (jI 4), none, none, none, none, none, none] [] 0 0 w _
            refine jWp.blk mt 1 ?_
            show jWp 153 57 [some (jO m), some (jI (x : Int)), some (jI (n : Int)), some (jI law), some (jI 4), none, none, none, none, none, none] [jI 0] 0 0 w _
            refine jWp.iretz mt rfl ⟨rfl, rfl⟩ rfl (Or.inl rfl) ?_
            refine Or.inr ⟨rfl, fun g => ?_, rfl⟩
            first
            | (exact g.1 (by unfold zkm; rw [if_neg (by omega), if_neg (by omega), if_neg (by omega)]))
            | (have := zkp_l g; omega)
            | (have ez : zkm law = 2 := by unfold zkm; rw [if_pos (by omega)]
               have g2 := g.2; rw [ez] at g2; exact absurd g2 (by assumption))
            | (have ez : zkm law = 3 := by unfold zkm; rw [if_neg (by omega), if_pos (by omega)]
               have g2 := g.2; rw [ez] at g2; exact absurd g2 (by assumption))
            | (have ez : zkm law = 4 := by unfold zkm; rw [if_neg (by omega), if_neg (by omega), if_pos (by omega)]
               have g2 := g.2; rw [ez] at g2; exact absurd g2 (by assumption))
    · have h2 : law = 1 := h2
      refine jWp.blk mt 4 ?_
      show jWp 153 37 [some (jO m), some (jI (x : Int)), some (jI (n : Int)), some (jI law), some (jI 3), none, none, none, none, none, none] [jI 3] 0 0 w _
      refine jWp.ifc (b := false) mt rfl (by decide) rfl ?_
      show jWp 153 40 [some (jO m), some (jI (x : Int)), some (jI (n : Int)), some (jI law), some (jI 3), none, none, none, none, none, none] [] 0 0 w _
      refine jWp.blk mt 2 ?_
      show jWp 153 43 [some (jO m), some (jI (x : Int)), some (jI (n : Int)), some (jI law), some (jI 3), none, none, none, none, none, none] [jI 60, jI (n : Int)] 0 0 w _
      refine jWp.icmp (pc' := 46) mt rfl rfl (b32_id (by omega) (by omega)) (show b32 60 = 60 by decide) (fun h8 => ?_) (fun h8 => ?_)
      · have h8 : 60 ≤ (n : Int) := h8
        refine jWp.blk mt 1 ?_
        show jWp 153 57 [some (jO m), some (jI (x : Int)), some (jI (n : Int)), some (jI law), some (jI 3), none, none, none, none, none, none] [jI 0] 0 0 w _
        refine jWp.iretz mt rfl ⟨rfl, rfl⟩ rfl (Or.inl rfl) ?_
        refine Or.inr ⟨rfl, fun g => ?_, rfl⟩
        first
        | (exact g.1 (by unfold zkm; rw [if_neg (by omega), if_neg (by omega), if_neg (by omega)]))
        | (have := zkp_l g; omega)
        | (have ez : zkm law = 2 := by unfold zkm; rw [if_pos (by omega)]
           have g2 := g.2; rw [ez] at g2; exact absurd g2 (by assumption))
        | (have ez : zkm law = 3 := by unfold zkm; rw [if_neg (by omega), if_pos (by omega)]
           have g2 := g.2; rw [ez] at g2; exact absurd g2 (by assumption))
        | (have ez : zkm law = 4 := by unfold zkm; rw [if_neg (by omega), if_neg (by omega), if_pos (by omega)]
           have g2 := g.2; rw [ez] at g2; exact absurd g2 (by assumption))
      · have h8 : (n : Int) < 60 := h8
        refine jWp.blk mt 3 ?_
        show _ ∧ jWp 153 50 [some (jO m), some (jI (x : Int)), some (jI (n : Int)), some (jI law), some (jI 3), none, none, none, none, none, none] [jI 3, jI (n : Int), jO m] 0 0 w _
        refine ⟨rfl, ?_⟩
        refine jWp.callv (as := [jO m, jI (n : Int), jI 3]) (rest := []) mt rfl rfl rfl ⟨rfl, jtg hW.K0⟩ ?_
        refine jCall.mono (E_areKept (w := w) (len := len) (n := n) (q := 3) hW hl hl60 hb (by omega) (by decide)) (fun v9 w9 h9 => ?_)
        rcases h9 with ⟨rfl, h9, h9⟩ | ⟨rfl, h9, h9⟩ <;> subst w9
        · have h9 : ∀ k, n ≤ k → k < n + 3 → k < len ∧ 1 ≤ w.1 (m + 4) k ∧ w.1 (m + 4) k ≤ 9999 := h9
          show jWp 153 53 [some (jO m), some (jI (x : Int)), some (jI (n : Int)), some (jI law), some (jI 3), none, none, none, none, none, none] [jI 1] 0 0 w _
          have b0 := h9 (n + 0) (by omega) (by omega)
          have b1 := h9 (n + 1) (by omega) (by omega)
          have b2 := h9 (n + 2) (by omega) (by omega)
          rw [show n + 0 = n from rfl] at b0
          refine jWp.ifc (b := true) mt rfl (by decide) rfl ?_
          show jWp 153 58 [some (jO m), some (jI (x : Int)), some (jI (n : Int)), some (jI law), some (jI 3), none, none, none, none, none, none] [] 0 0 w _
          refine jWp.blk mt 2 ?_
          show _ ∧ jWp 153 60 [some (jO m), some (jI (x : Int)), some (jI (n : Int)), some (jI law), some (jI 3), none, none, none, none, none, none] [jI (x : Int), jO m] 0 0 w _
          refine ⟨rfl, ?_⟩
          refine jWp.callv (as := [jO m, jI (x : Int)]) (rest := []) mt rfl rfl rfl ⟨rfl, jtg hW.K0⟩ ?_
          refine jCall.mono ((by have h := E_figure (w := w) (x := x) hW hx; rw [hfig] at h; exact h)) (fun v9 w9 h9 => ?_)
          obtain ⟨rfl, h9⟩ := h9
          subst w9
          show jWp 153 63 [some (jO m), some (jI (x : Int)), some (jI (n : Int)), some (jI law), some (jI 3), none, none, none, none, none, none] [jI f] 0 0 w _
          refine jWp.i2l (pc' := 64) mt rfl rfl (b32_id (by omega) (by omega)) ?_
          show jWp 153 64 [some (jO m), some (jI (x : Int)), some (jI (n : Int)), some (jI law), some (jI 3), none, none, none, none, none, none] [jJ f] 0 0 w _
          refine jWp.blk mt 2 ?_
          show jWp 153 67 [some (jO m), some (jI (x : Int)), some (jI (n : Int)), some (jI law), some (jI 3), some (jJ f), none, none, none, none, none] [jI law] 0 0 w _
          refine jWp.ifz (pc' := 70) mt rfl rfl (b32_id (by omega) (by omega)) (fun h10 => ?_) (fun h10 => ?_)
          · have h10 : law ≠ 0 := h10
            refine jWp.blk mt 2 ?_
            show jWp 153 134 [some (jO m), some (jI (x : Int)), some (jI (n : Int)), some (jI law), some (jI 3), some (jJ f), none, none, none, none, none] [jI 1, jI law] 0 0 w _
            refine jWp.icmp (pc' := 137) mt rfl rfl (b32_id (by omega) (by omega)) (show b32 1 = 1 by decide) (fun h11 => ?_) (fun h11 => ?_)
            · have h11 : law ≠ 1 := h11
              exfalso; omega
            · have h11 : law = 1 := h11
              refine jWp.blk mt 2 ?_
              show _ ∧ _ ∧ jWp 153 139 [some (jO m), some (jI (x : Int)), some (jI (n : Int)), some (jI law), some (jI 3), some (jJ f), none, none, none, none, none] [jO m, jO m] 0 0 w _
              refine ⟨rfl, rfl, ?_⟩
              refine jWp.getR (pc' := 142) (o := (m + 4)) mt rfl rfl (jtg hW.K0) hW.R3 ?_
              show jWp 153 142 [some (jO m), some (jI (x : Int)), some (jI (n : Int)), some (jI law), some (jI 3), some (jJ f), none, none, none, none, none] [jO (m + 4), jO m] 0 0 w _
              refine jWp.blk mt 1 ?_
              show jWp 153 143 [some (jO m), some (jI (x : Int)), some (jI (n : Int)), some (jI law), some (jI 3), some (jJ f), none, none, none, none, none] [jI (n : Int), jO (m + 4), jO m] 0 0 w _
              refine jWp.lald (pc' := 144) (j := n) mt rfl rfl (jtg hW.K4) (b32_id (by omega) (by omega)) (jlt hW.K4 (by omega)) ?_
              show jWp 153 144 [some (jO m), some (jI (x : Int)), some (jI (n : Int)), some (jI law), some (jI 3), some (jJ f), none, none, none, none, none] [jJ (w.1 (m + 4) n), jO m] 0 0 w _
              refine jWp.blk mt 1 ?_
              show _ ∧ jWp 153 145 [some (jO m), some (jI (x : Int)), some (jI (n : Int)), some (jI law), some (jI 3), some (jJ f), none, none, none, none, none] [jO m, jJ (w.1 (m + 4) n), jO m] 0 0 w _
              refine ⟨rfl, ?_⟩
              refine jWp.getR (pc' := 148) (o := (m + 4)) mt rfl rfl (jtg hW.K0) hW.R3 ?_
              show jWp 153 148 [some (jO m), some (jI (x : Int)), some (jI (n : Int)), some (jI law), some (jI 3), some (jJ f), none, none, none, none, none] [jO (m + 4), jJ (w.1 (m + 4) n), jO m] 0 0 w _
              refine jWp.blk mt 3 ?_
              show jWp 153 151 [some (jO m), some (jI (x : Int)), some (jI (n : Int)), some (jI law), some (jI 3), some (jJ f), none, none, none, none, none] [jI ((n : Int) + 2), jO (m + 4), jJ (w.1 (m + 4) n), jO m] 0 0 w _
              refine jWp.lald (pc' := 152) (j := (n + 2)) mt rfl rfl (jtg hW.K4) (by rw [b32_id (by omega) (by omega)]; omega) (jlt hW.K4 (by omega)) ?_
              show jWp 153 152 [some (jO m), some (jI (x : Int)), some (jI (n : Int)), some (jI law), some (jI 3), some (jJ f), none, none, none, none, none] [jJ (w.1 (m + 4) (n + 2)), jJ (w.1 (m + 4) n), jO m] 0 0 w _
              refine jWp.blk mt 1 ?_
              show jWp 153 153 [some (jO m), some (jI (x : Int)), some (jI (n : Int)), some (jI law), some (jI 3), some (jJ f), none, none, none, none, none] [jJ ((w.1 (m + 4) n) + (w.1 (m + 4) (n + 2))), jO m] 0 0 w _
              refine jWp.putJ (pc' := 156) mt rfl rfl (jtg hW.K0) ?_
              show jWp 153 156 [some (jO m), some (jI (x : Int)), some (jI (n : Int)), some (jI law), some (jI 3), some (jJ f), none, none, none, none, none] [] 0 0 (jW w m 8 ((w.1 (m + 4) n) + (w.1 (m + 4) (n + 2)))) _
              refine jWp.blk mt 2 ?_
              show _ ∧ _ ∧ jWp 153 158 [some (jO m), some (jI (x : Int)), some (jI (n : Int)), some (jI law), some (jI 3), some (jJ f), none, none, none, none, none] [jO m, jO m] 0 0 (jW w m 8 ((w.1 (m + 4) n) + (w.1 (m + 4) (n + 2)))) _
              refine ⟨rfl, rfl, ?_⟩
              refine jWp.getR (pc' := 161) (o := (m + 4)) mt rfl rfl (jtg hW.K0) hW.R3 ?_
              show jWp 153 161 [some (jO m), some (jI (x : Int)), some (jI (n : Int)), some (jI law), some (jI 3), some (jJ f), none, none, none, none, none] [jO (m + 4), jO m] 0 0 (jW w m 8 ((w.1 (m + 4) n) + (w.1 (m + 4) (n + 2)))) _
              refine jWp.blk mt 3 ?_
              show jWp 153 164 [some (jO m), some (jI (x : Int)), some (jI (n : Int)), some (jI law), some (jI 3), some (jJ f), none, none, none, none, none] [jI ((n : Int) + 1), jO (m + 4), jO m] 0 0 (jW w m 8 ((w.1 (m + 4) n) + (w.1 (m + 4) (n + 2)))) _
              refine jWp.lald (pc' := 165) (j := (n + 1)) mt rfl rfl (jtg hW.K4) (by rw [b32_id (by omega) (by omega)]; omega) (jlt hW.K4 (by omega)) ?_
              rw [show ((jW w m 8 ((w.1 (m + 4) n) + (w.1 (m + 4) (n + 2)))).1 (m + 4) (n + 1)) = (w.1 (m + 4) (n + 1)) from ((jW_a (by omega)).trans rfl)]
              show jWp 153 165 [some (jO m), some (jI (x : Int)), some (jI (n : Int)), some (jI law), some (jI 3), some (jJ f), none, none, none, none, none] [jJ (w.1 (m + 4) (n + 1)), jO m] 0 0 (jW w m 8 ((w.1 (m + 4) n) + (w.1 (m + 4) (n + 2)))) _
              refine jWp.putJ (pc' := 168) mt rfl rfl (jtg hW.K0) ?_
              show jWp 153 168 [some (jO m), some (jI (x : Int)), some (jI (n : Int)), some (jI law), some (jI 3), some (jJ f), none, none, none, none, none] [] 0 0 (jW (jW w m 8 ((w.1 (m + 4) n) + (w.1 (m + 4) (n + 2)))) m 9 (w.1 (m + 4) (n + 1))) _
              refine jWp.blk mt 2 ?_
              show _ ∧ jWp 153 305 [some (jO m), some (jI (x : Int)), some (jI (n : Int)), some (jI law), some (jI 3), some (jJ f), none, none, none, none, none] [jO m] 0 0 (jW (jW w m 8 ((w.1 (m + 4) n) + (w.1 (m + 4) (n + 2)))) m 9 (w.1 (m + 4) (n + 1))) _
              refine ⟨rfl, ?_⟩
              refine jWp.getJ (pc' := 308) mt rfl rfl (jtg hW.K0) ?_
              rw [show ((jW (jW w m 8 ((w.1 (m + 4) n) + (w.1 (m + 4) (n + 2)))) m 9 (w.1 (m + 4) (n + 1))).1 m 8) = ((w.1 (m + 4) n) + (w.1 (m + 4) (n + 2))) from ((jW_k (by decide)).trans jW_s)]
              show jWp 153 308 [some (jO m), some (jI (x : Int)), some (jI (n : Int)), some (jI law), some (jI 3), some (jJ f), none, none, none, none, none] [jJ ((w.1 (m + 4) n) + (w.1 (m + 4) (n + 2)))] 0 0 (jW (jW w m 8 ((w.1 (m + 4) n) + (w.1 (m + 4) (n + 2)))) m 9 (w.1 (m + 4) (n + 1))) _
              refine jWp.blk mt 1 ?_
              show _ ∧ jWp 153 309 [some (jO m), some (jI (x : Int)), some (jI (n : Int)), some (jI law), some (jI 3), some (jJ f), none, none, none, none, none] [jO m, jJ ((w.1 (m + 4) n) + (w.1 (m + 4) (n + 2)))] 0 0 (jW (jW w m 8 ((w.1 (m + 4) n) + (w.1 (m + 4) (n + 2)))) m 9 (w.1 (m + 4) (n + 1))) _
              refine ⟨rfl, ?_⟩
              refine jWp.getJ (pc' := 312) mt rfl rfl (jtg hW.K0) ?_
              rw [show ((jW (jW w m 8 ((w.1 (m + 4) n) + (w.1 (m + 4) (n + 2)))) m 9 (w.1 (m + 4) (n + 1))).1 m 9) = (w.1 (m + 4) (n + 1)) from jW_s]
              show jWp 153 312 [some (jO m), some (jI (x : Int)), some (jI (n : Int)), some (jI law), some (jI 3), some (jJ f), none, none, none, none, none] [jJ (w.1 (m + 4) (n + 1)), jJ ((w.1 (m + 4) n) + (w.1 (m + 4) (n + 2)))] 0 0 (jW (jW w m 8 ((w.1 (m + 4) n) + (w.1 (m + 4) (n + 2)))) m 9 (w.1 (m + 4) (n + 1))) _
              refine jWp.calls (as := [jJ ((w.1 (m + 4) n) + (w.1 (m + 4) (n + 2))), jJ (w.1 (m + 4) (n + 1))]) (rest := []) mt rfl rfl rfl rfl ?_
              refine jCall.mono (E_div (by omega) (by omega)) (fun v9 w9 h9 => ?_)
              obtain ⟨rfl, h9⟩ := h9
              subst w9
              show jWp 153 315 [some (jO m), some (jI (x : Int)), some (jI (n : Int)), some (jI law), some (jI 3), some (jJ f), none, none, none, none, none] [jJ (zg ((w.1 (m + 4) n) + (w.1 (m + 4) (n + 2))) (w.1 (m + 4) (n + 1)))] 0 0 (jW (jW w m 8 ((w.1 (m + 4) n) + (w.1 (m + 4) (n + 2)))) m 9 (w.1 (m + 4) (n + 1))) _
              have hgp := zg_pos (a := ((w.1 (m + 4) n) + (w.1 (m + 4) (n + 2)))) (b := (w.1 (m + 4) (n + 1))) (by omega)
              have hgl := zg_le (a := ((w.1 (m + 4) n) + (w.1 (m + 4) (n + 2)))) (b := (w.1 (m + 4) (n + 1))) (by omega)
              refine jWp.blk mt 3 ?_
              show _ ∧ _ ∧ jWp 153 319 [some (jO m), some (jI (x : Int)), some (jI (n : Int)), some (jI law), some (jI 3), some (jJ f), none, some (jJ (zg ((w.1 (m + 4) n) + (w.1 (m + 4) (n + 2))) (w.1 (m + 4) (n + 1)))), none, none, none] [jO m, jO m] 0 0 (jW (jW w m 8 ((w.1 (m + 4) n) + (w.1 (m + 4) (n + 2)))) m 9 (w.1 (m + 4) (n + 1))) _
              refine ⟨rfl, rfl, ?_⟩
              refine jWp.getJ (pc' := 322) mt rfl rfl (jtg hW.K0) ?_
              rw [show ((jW (jW w m 8 ((w.1 (m + 4) n) + (w.1 (m + 4) (n + 2)))) m 9 (w.1 (m + 4) (n + 1))).1 m 8) = ((w.1 (m + 4) n) + (w.1 (m + 4) (n + 2))) from ((jW_k (by decide)).trans jW_s)]
              show jWp 153 322 [some (jO m), some (jI (x : Int)), some (jI (n : Int)), some (jI law), some (jI 3), some (jJ f), none, some (jJ (zg ((w.1 (m + 4) n) + (w.1 (m + 4) (n + 2))) (w.1 (m + 4) (n + 1)))), none, none, none] [jJ ((w.1 (m + 4) n) + (w.1 (m + 4) (n + 2))), jO m] 0 0 (jW (jW w m 8 ((w.1 (m + 4) n) + (w.1 (m + 4) (n + 2)))) m 9 (w.1 (m + 4) (n + 1))) _
              refine jWp.blk mt 1 ?_
              show jWp 153 324 [some (jO m), some (jI (x : Int)), some (jI (n : Int)), some (jI law), some (jI 3), some (jJ f), none, some (jJ (zg ((w.1 (m + 4) n) + (w.1 (m + 4) (n + 2))) (w.1 (m + 4) (n + 1)))), none, none, none] [jJ (zg ((w.1 (m + 4) n) + (w.1 (m + 4) (n + 2))) (w.1 (m + 4) (n + 1))), jJ ((w.1 (m + 4) n) + (w.1 (m + 4) (n + 2))), jO m] 0 0 (jW (jW w m 8 ((w.1 (m + 4) n) + (w.1 (m + 4) (n + 2)))) m 9 (w.1 (m + 4) (n + 1))) _
              refine jWp.ldiv (pc' := 325) mt rfl rfl (b64_id (by omega) (by omega)) (b64_id (by omega) (by omega)) (by omega) ?_
              show jWp 153 325 [some (jO m), some (jI (x : Int)), some (jI (n : Int)), some (jI law), some (jI 3), some (jJ f), none, some (jJ (zg ((w.1 (m + 4) n) + (w.1 (m + 4) (n + 2))) (w.1 (m + 4) (n + 1)))), none, none, none] [jJ (Int.tdiv ((w.1 (m + 4) n) + (w.1 (m + 4) (n + 2))) (zg ((w.1 (m + 4) n) + (w.1 (m + 4) (n + 2))) (w.1 (m + 4) (n + 1)))), jO m] 0 0 (jW (jW w m 8 ((w.1 (m + 4) n) + (w.1 (m + 4) (n + 2)))) m 9 (w.1 (m + 4) (n + 1))) _
              refine jWp.putJ (pc' := 328) mt rfl rfl (jtg hW.K0) ?_
              show jWp 153 328 [some (jO m), some (jI (x : Int)), some (jI (n : Int)), some (jI law), some (jI 3), some (jJ f), none, some (jJ (zg ((w.1 (m + 4) n) + (w.1 (m + 4) (n + 2))) (w.1 (m + 4) (n + 1)))), none, none, none] [] 0 0 (jW (jW (jW w m 8 ((w.1 (m + 4) n) + (w.1 (m + 4) (n + 2)))) m 9 (w.1 (m + 4) (n + 1))) m 8 (Int.tdiv ((w.1 (m + 4) n) + (w.1 (m + 4) (n + 2))) (zg ((w.1 (m + 4) n) + (w.1 (m + 4) (n + 2))) (w.1 (m + 4) (n + 1))))) _
              refine jWp.blk mt 2 ?_
              show _ ∧ _ ∧ jWp 153 330 [some (jO m), some (jI (x : Int)), some (jI (n : Int)), some (jI law), some (jI 3), some (jJ f), none, some (jJ (zg ((w.1 (m + 4) n) + (w.1 (m + 4) (n + 2))) (w.1 (m + 4) (n + 1)))), none, none, none] [jO m, jO m] 0 0 (jW (jW (jW w m 8 ((w.1 (m + 4) n) + (w.1 (m + 4) (n + 2)))) m 9 (w.1 (m + 4) (n + 1))) m 8 (Int.tdiv ((w.1 (m + 4) n) + (w.1 (m + 4) (n + 2))) (zg ((w.1 (m + 4) n) + (w.1 (m + 4) (n + 2))) (w.1 (m + 4) (n + 1))))) _
              refine ⟨rfl, rfl, ?_⟩
              refine jWp.getJ (pc' := 333) mt rfl rfl (jtg hW.K0) ?_
              rw [show ((jW (jW (jW w m 8 ((w.1 (m + 4) n) + (w.1 (m + 4) (n + 2)))) m 9 (w.1 (m + 4) (n + 1))) m 8 (Int.tdiv ((w.1 (m + 4) n) + (w.1 (m + 4) (n + 2))) (zg ((w.1 (m + 4) n) + (w.1 (m + 4) (n + 2))) (w.1 (m + 4) (n + 1))))).1 m 9) = (w.1 (m + 4) (n + 1)) from ((jW_k (by decide)).trans jW_s)]
              show jWp 153 333 [some (jO m), some (jI (x : Int)), some (jI (n : Int)), some (jI law), some (jI 3), some (jJ f), none, some (jJ (zg ((w.1 (m + 4) n) + (w.1 (m + 4) (n + 2))) (w.1 (m + 4) (n + 1)))), none, none, none] [jJ (w.1 (m + 4) (n + 1)), jO m] 0 0 (jW (jW (jW w m 8 ((w.1 (m + 4) n) + (w.1 (m + 4) (n + 2)))) m 9 (w.1 (m + 4) (n + 1))) m 8 (Int.tdiv ((w.1 (m + 4) n) + (w.1 (m + 4) (n + 2))) (zg ((w.1 (m + 4) n) + (w.1 (m + 4) (n + 2))) (w.1 (m + 4) (n + 1))))) _
              refine jWp.blk mt 1 ?_
              show jWp 153 335 [some (jO m), some (jI (x : Int)), some (jI (n : Int)), some (jI law), some (jI 3), some (jJ f), none, some (jJ (zg ((w.1 (m + 4) n) + (w.1 (m + 4) (n + 2))) (w.1 (m + 4) (n + 1)))), none, none, none] [jJ (zg ((w.1 (m + 4) n) + (w.1 (m + 4) (n + 2))) (w.1 (m + 4) (n + 1))), jJ (w.1 (m + 4) (n + 1)), jO m] 0 0 (jW (jW (jW w m 8 ((w.1 (m + 4) n) + (w.1 (m + 4) (n + 2)))) m 9 (w.1 (m + 4) (n + 1))) m 8 (Int.tdiv ((w.1 (m + 4) n) + (w.1 (m + 4) (n + 2))) (zg ((w.1 (m + 4) n) + (w.1 (m + 4) (n + 2))) (w.1 (m + 4) (n + 1))))) _
              refine jWp.ldiv (pc' := 336) mt rfl rfl (b64_id (by omega) (by omega)) (b64_id (by omega) (by omega)) (by omega) ?_
              show jWp 153 336 [some (jO m), some (jI (x : Int)), some (jI (n : Int)), some (jI law), some (jI 3), some (jJ f), none, some (jJ (zg ((w.1 (m + 4) n) + (w.1 (m + 4) (n + 2))) (w.1 (m + 4) (n + 1)))), none, none, none] [jJ (Int.tdiv (w.1 (m + 4) (n + 1)) (zg ((w.1 (m + 4) n) + (w.1 (m + 4) (n + 2))) (w.1 (m + 4) (n + 1)))), jO m] 0 0 (jW (jW (jW w m 8 ((w.1 (m + 4) n) + (w.1 (m + 4) (n + 2)))) m 9 (w.1 (m + 4) (n + 1))) m 8 (Int.tdiv ((w.1 (m + 4) n) + (w.1 (m + 4) (n + 2))) (zg ((w.1 (m + 4) n) + (w.1 (m + 4) (n + 2))) (w.1 (m + 4) (n + 1))))) _
              refine jWp.putJ (pc' := 339) mt rfl rfl (jtg hW.K0) ?_
              show jWp 153 339 [some (jO m), some (jI (x : Int)), some (jI (n : Int)), some (jI law), some (jI 3), some (jJ f), none, some (jJ (zg ((w.1 (m + 4) n) + (w.1 (m + 4) (n + 2))) (w.1 (m + 4) (n + 1)))), none, none, none] [] 0 0 (jW (jW (jW (jW w m 8 ((w.1 (m + 4) n) + (w.1 (m + 4) (n + 2)))) m 9 (w.1 (m + 4) (n + 1))) m 8 (Int.tdiv ((w.1 (m + 4) n) + (w.1 (m + 4) (n + 2))) (zg ((w.1 (m + 4) n) + (w.1 (m + 4) (n + 2))) (w.1 (m + 4) (n + 1))))) m 9 (Int.tdiv (w.1 (m + 4) (n + 1)) (zg ((w.1 (m + 4) n) + (w.1 (m + 4) (n + 2))) (w.1 (m + 4) (n + 1))))) _
              refine jWp.blk mt 1 ?_
              show jWp 153 340 [some (jO m), some (jI (x : Int)), some (jI (n : Int)), some (jI law), some (jI 3), some (jJ f), none, some (jJ (zg ((w.1 (m + 4) n) + (w.1 (m + 4) (n + 2))) (w.1 (m + 4) (n + 1)))), none, none, none] [jI 1] 0 0 (jW (jW (jW (jW w m 8 ((w.1 (m + 4) n) + (w.1 (m + 4) (n + 2)))) m 9 (w.1 (m + 4) (n + 1))) m 8 (Int.tdiv ((w.1 (m + 4) n) + (w.1 (m + 4) (n + 2))) (zg ((w.1 (m + 4) n) + (w.1 (m + 4) (n + 2))) (w.1 (m + 4) (n + 1))))) m 9 (Int.tdiv (w.1 (m + 4) (n + 1)) (zg ((w.1 (m + 4) n) + (w.1 (m + 4) (n + 2))) (w.1 (m + 4) (n + 1))))) _
              refine jWp.iretz mt rfl ⟨rfl, rfl⟩ rfl (Or.inr rfl) ?_
              have ez : zkm law = 3 := by unfold zkm; rw [if_neg (by omega), if_pos (by omega)]
              have eu : zku law f (w.1 (m + 4)) n = ((w.1 (m + 4) n) + (w.1 (m + 4) (n + 2))) := by unfold zku; rw [if_neg (by omega), if_pos (by omega)]
              have ed : zkd law (w.1 (m + 4)) n = (w.1 (m + 4) (n + 1)) := by unfold zkd; rw [if_neg (by omega), if_pos (by omega)]
              have hua := zuA (a := ((w.1 (m + 4) n) + (w.1 (m + 4) (n + 2)))) (b := (w.1 (m + 4) (n + 1))) (by omega)
              have hvb := zv_b (a := ((w.1 (m + 4) n) + (w.1 (m + 4) (n + 2)))) (b := (w.1 (m + 4) (n + 1))) (by omega)
              refine Or.inl ⟨rfl, ⟨by rw [ez]; decide, by rw [ez]; exact h9⟩, ?_, ?_⟩
              · rw [eu, ed]
                exact jW4
              · rw [eu, ed]
                omega
          · have h10 : law = 0 := h10
            exfalso; omega
        · have h9 : ¬ (∀ k, n ≤ k → k < n + 3 → k < len ∧ 1 ≤ w.1 (m + 4) k ∧ w.1 (m + 4) k ≤ 9999) := h9
          show jWp 153 53 [some (jO m), some (jI (x : Int)), some (jI (n : Int)), some (jI law), some (jI 3), none, none, none, none, none, none] [jI 0] 0 0 w _
          refine jWp.ifc (b := false) mt rfl (by decide) rfl ?_
          show jWp 153 56 [some (jO m), some (jI (x : Int)), some (jI (n : Int)), some (jI law), some (jI 3), none, none, none, none, none, none] [] 0 0 w _
          refine jWp.blk mt 1 ?_
          show jWp 153 57 [some (jO m), some (jI (x : Int)), some (jI (n : Int)), some (jI law), some (jI 3), none, none, none, none, none, none] [jI 0] 0 0 w _
          refine jWp.iretz mt rfl ⟨rfl, rfl⟩ rfl (Or.inl rfl) ?_
          refine Or.inr ⟨rfl, fun g => ?_, rfl⟩
          first
          | (exact g.1 (by unfold zkm; rw [if_neg (by omega), if_neg (by omega), if_neg (by omega)]))
          | (have := zkp_l g; omega)
          | (have ez : zkm law = 2 := by unfold zkm; rw [if_pos (by omega)]
             have g2 := g.2; rw [ez] at g2; exact absurd g2 (by assumption))
          | (have ez : zkm law = 3 := by unfold zkm; rw [if_neg (by omega), if_pos (by omega)]
             have g2 := g.2; rw [ez] at g2; exact absurd g2 (by assumption))
          | (have ez : zkm law = 4 := by unfold zkm; rw [if_neg (by omega), if_neg (by omega), if_pos (by omega)]
             have g2 := g.2; rw [ez] at g2; exact absurd g2 (by assumption))
  · have h1 : law = 0 := h1
    refine jWp.blk mt 4 ?_
    show jWp 153 37 [some (jO m), some (jI (x : Int)), some (jI (n : Int)), some (jI law), some (jI 2), none, none, none, none, none, none] [jI 2] 0 0 w _
    refine jWp.ifc (b := false) mt rfl (by decide) rfl ?_
    show jWp 153 40 [some (jO m), some (jI (x : Int)), some (jI (n : Int)), some (jI law), some (jI 2), none, none, none, none, none, none] [] 0 0 w _
    refine jWp.blk mt 2 ?_
    show jWp 153 43 [some (jO m), some (jI (x : Int)), some (jI (n : Int)), some (jI law), some (jI 2), none, none, none, none, none, none] [jI 60, jI (n : Int)] 0 0 w _
    refine jWp.icmp (pc' := 46) mt rfl rfl (b32_id (by omega) (by omega)) (show b32 60 = 60 by decide) (fun h12 => ?_) (fun h12 => ?_)
    · have h12 : 60 ≤ (n : Int) := h12
      refine jWp.blk mt 1 ?_
      show jWp 153 57 [some (jO m), some (jI (x : Int)), some (jI (n : Int)), some (jI law), some (jI 2), none, none, none, none, none, none] [jI 0] 0 0 w _
      refine jWp.iretz mt rfl ⟨rfl, rfl⟩ rfl (Or.inl rfl) ?_
      refine Or.inr ⟨rfl, fun g => ?_, rfl⟩
      first
      | (exact g.1 (by unfold zkm; rw [if_neg (by omega), if_neg (by omega), if_neg (by omega)]))
      | (have := zkp_l g; omega)
      | (have ez : zkm law = 2 := by unfold zkm; rw [if_pos (by omega)]
         have g2 := g.2; rw [ez] at g2; exact absurd g2 (by assumption))
      | (have ez : zkm law = 3 := by unfold zkm; rw [if_neg (by omega), if_pos (by omega)]
         have g2 := g.2; rw [ez] at g2; exact absurd g2 (by assumption))
      | (have ez : zkm law = 4 := by unfold zkm; rw [if_neg (by omega), if_neg (by omega), if_pos (by omega)]
         have g2 := g.2; rw [ez] at g2; exact absurd g2 (by assumption))
    · have h12 : (n : Int) < 60 := h12
      refine jWp.blk mt 3 ?_
      show _ ∧ jWp 153 50 [some (jO m), some (jI (x : Int)), some (jI (n : Int)), some (jI law), some (jI 2), none, none, none, none, none, none] [jI 2, jI (n : Int), jO m] 0 0 w _
      refine ⟨rfl, ?_⟩
      refine jWp.callv (as := [jO m, jI (n : Int), jI 2]) (rest := []) mt rfl rfl rfl ⟨rfl, jtg hW.K0⟩ ?_
      refine jCall.mono (E_areKept (w := w) (len := len) (n := n) (q := 2) hW hl hl60 hb (by omega) (by decide)) (fun v9 w9 h9 => ?_)
      rcases h9 with ⟨rfl, h9, h13⟩ | ⟨rfl, h9, h13⟩ <;> subst w9
      · have h13 : ∀ k, n ≤ k → k < n + 2 → k < len ∧ 1 ≤ w.1 (m + 4) k ∧ w.1 (m + 4) k ≤ 9999 := h13
        show jWp 153 53 [some (jO m), some (jI (x : Int)), some (jI (n : Int)), some (jI law), some (jI 2), none, none, none, none, none, none] [jI 1] 0 0 w _
        have b0 := h13 (n + 0) (by omega) (by omega)
        have b1 := h13 (n + 1) (by omega) (by omega)
        have hU := zkU0 hf b0.2 b1.2
        rw [show n + 0 = n from rfl] at b0 hU
        refine jWp.ifc (b := true) mt rfl (by decide) rfl ?_
        show jWp 153 58 [some (jO m), some (jI (x : Int)), some (jI (n : Int)), some (jI law), some (jI 2), none, none, none, none, none, none] [] 0 0 w _
        refine jWp.blk mt 2 ?_
        show _ ∧ jWp 153 60 [some (jO m), some (jI (x : Int)), some (jI (n : Int)), some (jI law), some (jI 2), none, none, none, none, none, none] [jI (x : Int), jO m] 0 0 w _
        refine ⟨rfl, ?_⟩
        refine jWp.callv (as := [jO m, jI (x : Int)]) (rest := []) mt rfl rfl rfl ⟨rfl, jtg hW.K0⟩ ?_
        refine jCall.mono ((by have h := E_figure (w := w) (x := x) hW hx; rw [hfig] at h; exact h)) (fun v9 w9 h9 => ?_)
        obtain ⟨rfl, h9⟩ := h9
        subst w9
        show jWp 153 63 [some (jO m), some (jI (x : Int)), some (jI (n : Int)), some (jI law), some (jI 2), none, none, none, none, none, none] [jI f] 0 0 w _
        refine jWp.i2l (pc' := 64) mt rfl rfl (b32_id (by omega) (by omega)) ?_
        show jWp 153 64 [some (jO m), some (jI (x : Int)), some (jI (n : Int)), some (jI law), some (jI 2), none, none, none, none, none, none] [jJ f] 0 0 w _
        refine jWp.blk mt 2 ?_
        show jWp 153 67 [some (jO m), some (jI (x : Int)), some (jI (n : Int)), some (jI law), some (jI 2), some (jJ f), none, none, none, none, none] [jI law] 0 0 w _
        refine jWp.ifz (pc' := 70) mt rfl rfl (b32_id (by omega) (by omega)) (fun h14 => ?_) (fun h14 => ?_)
        · have h14 : law ≠ 0 := h14
          exfalso; omega
        · have h14 : law = 0 := h14
          refine jWp.blk mt 2 ?_
          show _ ∧ _ ∧ jWp 153 72 [some (jO m), some (jI (x : Int)), some (jI (n : Int)), some (jI law), some (jI 2), some (jJ f), none, none, none, none, none] [jO m, jO m] 0 0 w _
          refine ⟨rfl, rfl, ?_⟩
          refine jWp.getR (pc' := 75) (o := (m + 4)) mt rfl rfl (jtg hW.K0) hW.R3 ?_
          show jWp 153 75 [some (jO m), some (jI (x : Int)), some (jI (n : Int)), some (jI law), some (jI 2), some (jJ f), none, none, none, none, none] [jO (m + 4), jO m] 0 0 w _
          refine jWp.blk mt 1 ?_
          show jWp 153 76 [some (jO m), some (jI (x : Int)), some (jI (n : Int)), some (jI law), some (jI 2), some (jJ f), none, none, none, none, none] [jI (n : Int), jO (m + 4), jO m] 0 0 w _
          refine jWp.lald (pc' := 77) (j := n) mt rfl rfl (jtg hW.K4) (b32_id (by omega) (by omega)) (jlt hW.K4 (by omega)) ?_
          show jWp 153 77 [some (jO m), some (jI (x : Int)), some (jI (n : Int)), some (jI law), some (jI 2), some (jJ f), none, none, none, none, none] [jJ (w.1 (m + 4) n), jO m] 0 0 w _
          refine jWp.blk mt 1 ?_
          show _ ∧ jWp 153 78 [some (jO m), some (jI (x : Int)), some (jI (n : Int)), some (jI law), some (jI 2), some (jJ f), none, none, none, none, none] [jO m, jJ (w.1 (m + 4) n), jO m] 0 0 w _
          refine ⟨rfl, ?_⟩
          refine jWp.getR (pc' := 81) (o := (m + 4)) mt rfl rfl (jtg hW.K0) hW.R3 ?_
          show jWp 153 81 [some (jO m), some (jI (x : Int)), some (jI (n : Int)), some (jI law), some (jI 2), some (jJ f), none, none, none, none, none] [jO (m + 4), jJ (w.1 (m + 4) n), jO m] 0 0 w _
          refine jWp.blk mt 1 ?_
          show jWp 153 82 [some (jO m), some (jI (x : Int)), some (jI (n : Int)), some (jI law), some (jI 2), some (jJ f), none, none, none, none, none] [jI (n : Int), jO (m + 4), jJ (w.1 (m + 4) n), jO m] 0 0 w _
          refine jWp.lald (pc' := 83) (j := n) mt rfl rfl (jtg hW.K4) (b32_id (by omega) (by omega)) (jlt hW.K4 (by omega)) ?_
          show jWp 153 83 [some (jO m), some (jI (x : Int)), some (jI (n : Int)), some (jI law), some (jI 2), some (jJ f), none, none, none, none, none] [jJ (w.1 (m + 4) n), jJ (w.1 (m + 4) n), jO m] 0 0 w _
          refine jWp.blk mt 2 ?_
          show _ ∧ jWp 153 85 [some (jO m), some (jI (x : Int)), some (jI (n : Int)), some (jI law), some (jI 2), some (jJ f), none, none, none, none, none] [jO m, jJ ((w.1 (m + 4) n) * (w.1 (m + 4) n)), jO m] 0 0 w _
          refine ⟨rfl, ?_⟩
          refine jWp.getR (pc' := 88) (o := (m + 4)) mt rfl rfl (jtg hW.K0) hW.R3 ?_
          show jWp 153 88 [some (jO m), some (jI (x : Int)), some (jI (n : Int)), some (jI law), some (jI 2), some (jJ f), none, none, none, none, none] [jO (m + 4), jJ ((w.1 (m + 4) n) * (w.1 (m + 4) n)), jO m] 0 0 w _
          refine jWp.blk mt 3 ?_
          show jWp 153 91 [some (jO m), some (jI (x : Int)), some (jI (n : Int)), some (jI law), some (jI 2), some (jJ f), none, none, none, none, none] [jI ((n : Int) + 1), jO (m + 4), jJ ((w.1 (m + 4) n) * (w.1 (m + 4) n)), jO m] 0 0 w _
          refine jWp.lald (pc' := 92) (j := (n + 1)) mt rfl rfl (jtg hW.K4) (by rw [b32_id (by omega) (by omega)]; omega) (jlt hW.K4 (by omega)) ?_
          show jWp 153 92 [some (jO m), some (jI (x : Int)), some (jI (n : Int)), some (jI law), some (jI 2), some (jJ f), none, none, none, none, none] [jJ (w.1 (m + 4) (n + 1)), jJ ((w.1 (m + 4) n) * (w.1 (m + 4) n)), jO m] 0 0 w _
          refine jWp.blk mt 1 ?_
          show _ ∧ jWp 153 93 [some (jO m), some (jI (x : Int)), some (jI (n : Int)), some (jI law), some (jI 2), some (jJ f), none, none, none, none, none] [jO m, jJ (w.1 (m + 4) (n + 1)), jJ ((w.1 (m + 4) n) * (w.1 (m + 4) n)), jO m] 0 0 w _
          refine ⟨rfl, ?_⟩
          refine jWp.getR (pc' := 96) (o := (m + 4)) mt rfl rfl (jtg hW.K0) hW.R3 ?_
          show jWp 153 96 [some (jO m), some (jI (x : Int)), some (jI (n : Int)), some (jI law), some (jI 2), some (jJ f), none, none, none, none, none] [jO (m + 4), jJ (w.1 (m + 4) (n + 1)), jJ ((w.1 (m + 4) n) * (w.1 (m + 4) n)), jO m] 0 0 w _
          refine jWp.blk mt 3 ?_
          show jWp 153 99 [some (jO m), some (jI (x : Int)), some (jI (n : Int)), some (jI law), some (jI 2), some (jJ f), none, none, none, none, none] [jI ((n : Int) + 1), jO (m + 4), jJ (w.1 (m + 4) (n + 1)), jJ ((w.1 (m + 4) n) * (w.1 (m + 4) n)), jO m] 0 0 w _
          refine jWp.lald (pc' := 100) (j := (n + 1)) mt rfl rfl (jtg hW.K4) (by rw [b32_id (by omega) (by omega)]; omega) (jlt hW.K4 (by omega)) ?_
          show jWp 153 100 [some (jO m), some (jI (x : Int)), some (jI (n : Int)), some (jI law), some (jI 2), some (jJ f), none, none, none, none, none] [jJ (w.1 (m + 4) (n + 1)), jJ (w.1 (m + 4) (n + 1)), jJ ((w.1 (m + 4) n) * (w.1 (m + 4) n)), jO m] 0 0 w _
          refine jWp.blk mt 4 ?_
          show _ ∧ jWp 153 105 [some (jO m), some (jI (x : Int)), some (jI (n : Int)), some (jI law), some (jI 2), some (jJ f), none, none, none, none, none] [jO m, jJ f, jJ (((w.1 (m + 4) n) * (w.1 (m + 4) n)) + ((w.1 (m + 4) (n + 1)) * (w.1 (m + 4) (n + 1)))), jO m] 0 0 w _
          refine ⟨rfl, ?_⟩
          refine jWp.getR (pc' := 108) (o := (m + 4)) mt rfl rfl (jtg hW.K0) hW.R3 ?_
          show jWp 153 108 [some (jO m), some (jI (x : Int)), some (jI (n : Int)), some (jI law), some (jI 2), some (jJ f), none, none, none, none, none] [jO (m + 4), jJ f, jJ (((w.1 (m + 4) n) * (w.1 (m + 4) n)) + ((w.1 (m + 4) (n + 1)) * (w.1 (m + 4) (n + 1)))), jO m] 0 0 w _
          refine jWp.blk mt 1 ?_
          show jWp 153 109 [some (jO m), some (jI (x : Int)), some (jI (n : Int)), some (jI law), some (jI 2), some (jJ f), none, none, none, none, none] [jI (n : Int), jO (m + 4), jJ f, jJ (((w.1 (m + 4) n) * (w.1 (m + 4) n)) + ((w.1 (m + 4) (n + 1)) * (w.1 (m + 4) (n + 1)))), jO m] 0 0 w _
          refine jWp.lald (pc' := 110) (j := n) mt rfl rfl (jtg hW.K4) (b32_id (by omega) (by omega)) (jlt hW.K4 (by omega)) ?_
          show jWp 153 110 [some (jO m), some (jI (x : Int)), some (jI (n : Int)), some (jI law), some (jI 2), some (jJ f), none, none, none, none, none] [jJ (w.1 (m + 4) n), jJ f, jJ (((w.1 (m + 4) n) * (w.1 (m + 4) n)) + ((w.1 (m + 4) (n + 1)) * (w.1 (m + 4) (n + 1)))), jO m] 0 0 w _
          refine jWp.blk mt 2 ?_
          show _ ∧ jWp 153 112 [some (jO m), some (jI (x : Int)), some (jI (n : Int)), some (jI law), some (jI 2), some (jJ f), none, none, none, none, none] [jO m, jJ (f * (w.1 (m + 4) n)), jJ (((w.1 (m + 4) n) * (w.1 (m + 4) n)) + ((w.1 (m + 4) (n + 1)) * (w.1 (m + 4) (n + 1)))), jO m] 0 0 w _
          refine ⟨rfl, ?_⟩
          refine jWp.getR (pc' := 115) (o := (m + 4)) mt rfl rfl (jtg hW.K0) hW.R3 ?_
          show jWp 153 115 [some (jO m), some (jI (x : Int)), some (jI (n : Int)), some (jI law), some (jI 2), some (jJ f), none, none, none, none, none] [jO (m + 4), jJ (f * (w.1 (m + 4) n)), jJ (((w.1 (m + 4) n) * (w.1 (m + 4) n)) + ((w.1 (m + 4) (n + 1)) * (w.1 (m + 4) (n + 1)))), jO m] 0 0 w _
          refine jWp.blk mt 3 ?_
          show jWp 153 118 [some (jO m), some (jI (x : Int)), some (jI (n : Int)), some (jI law), some (jI 2), some (jJ f), none, none, none, none, none] [jI ((n : Int) + 1), jO (m + 4), jJ (f * (w.1 (m + 4) n)), jJ (((w.1 (m + 4) n) * (w.1 (m + 4) n)) + ((w.1 (m + 4) (n + 1)) * (w.1 (m + 4) (n + 1)))), jO m] 0 0 w _
          refine jWp.lald (pc' := 119) (j := (n + 1)) mt rfl rfl (jtg hW.K4) (by rw [b32_id (by omega) (by omega)]; omega) (jlt hW.K4 (by omega)) ?_
          show jWp 153 119 [some (jO m), some (jI (x : Int)), some (jI (n : Int)), some (jI law), some (jI 2), some (jJ f), none, none, none, none, none] [jJ (w.1 (m + 4) (n + 1)), jJ (f * (w.1 (m + 4) n)), jJ (((w.1 (m + 4) n) * (w.1 (m + 4) n)) + ((w.1 (m + 4) (n + 1)) * (w.1 (m + 4) (n + 1)))), jO m] 0 0 w _
          refine jWp.blk mt 2 ?_
          show jWp 153 121 [some (jO m), some (jI (x : Int)), some (jI (n : Int)), some (jI law), some (jI 2), some (jJ f), none, none, none, none, none] [jJ ((((w.1 (m + 4) n) * (w.1 (m + 4) n)) + ((w.1 (m + 4) (n + 1)) * (w.1 (m + 4) (n + 1)))) - ((f * (w.1 (m + 4) n)) * (w.1 (m + 4) (n + 1)))), jO m] 0 0 w _
          refine jWp.putJ (pc' := 124) mt rfl rfl (jtg hW.K0) ?_
          show jWp 153 124 [some (jO m), some (jI (x : Int)), some (jI (n : Int)), some (jI law), some (jI 2), some (jJ f), none, none, none, none, none] [] 0 0 (jW w m 8 ((((w.1 (m + 4) n) * (w.1 (m + 4) n)) + ((w.1 (m + 4) (n + 1)) * (w.1 (m + 4) (n + 1)))) - ((f * (w.1 (m + 4) n)) * (w.1 (m + 4) (n + 1))))) _
          refine jWp.blk mt 2 ?_
          show _ ∧ jWp 153 126 [some (jO m), some (jI (x : Int)), some (jI (n : Int)), some (jI law), some (jI 2), some (jJ f), none, none, none, none, none] [jJ 1, jO m] 0 0 (jW w m 8 ((((w.1 (m + 4) n) * (w.1 (m + 4) n)) + ((w.1 (m + 4) (n + 1)) * (w.1 (m + 4) (n + 1)))) - ((f * (w.1 (m + 4) n)) * (w.1 (m + 4) (n + 1))))) _
          refine ⟨rfl, ?_⟩
          refine jWp.putJ (pc' := 129) mt rfl rfl (jtg hW.K0) ?_
          show jWp 153 129 [some (jO m), some (jI (x : Int)), some (jI (n : Int)), some (jI law), some (jI 2), some (jJ f), none, none, none, none, none] [] 0 0 (jW (jW w m 8 ((((w.1 (m + 4) n) * (w.1 (m + 4) n)) + ((w.1 (m + 4) (n + 1)) * (w.1 (m + 4) (n + 1)))) - ((f * (w.1 (m + 4) n)) * (w.1 (m + 4) (n + 1))))) m 9 1) _
          refine jWp.blk mt 2 ?_
          show _ ∧ jWp 153 305 [some (jO m), some (jI (x : Int)), some (jI (n : Int)), some (jI law), some (jI 2), some (jJ f), none, none, none, none, none] [jO m] 0 0 (jW (jW w m 8 ((((w.1 (m + 4) n) * (w.1 (m + 4) n)) + ((w.1 (m + 4) (n + 1)) * (w.1 (m + 4) (n + 1)))) - ((f * (w.1 (m + 4) n)) * (w.1 (m + 4) (n + 1))))) m 9 1) _
          refine ⟨rfl, ?_⟩
          refine jWp.getJ (pc' := 308) mt rfl rfl (jtg hW.K0) ?_
          rw [show ((jW (jW w m 8 ((((w.1 (m + 4) n) * (w.1 (m + 4) n)) + ((w.1 (m + 4) (n + 1)) * (w.1 (m + 4) (n + 1)))) - ((f * (w.1 (m + 4) n)) * (w.1 (m + 4) (n + 1))))) m 9 1).1 m 8) = ((((w.1 (m + 4) n) * (w.1 (m + 4) n)) + ((w.1 (m + 4) (n + 1)) * (w.1 (m + 4) (n + 1)))) - ((f * (w.1 (m + 4) n)) * (w.1 (m + 4) (n + 1)))) from ((jW_k (by decide)).trans jW_s)]
          show jWp 153 308 [some (jO m), some (jI (x : Int)), some (jI (n : Int)), some (jI law), some (jI 2), some (jJ f), none, none, none, none, none] [jJ ((((w.1 (m + 4) n) * (w.1 (m + 4) n)) + ((w.1 (m + 4) (n + 1)) * (w.1 (m + 4) (n + 1)))) - ((f * (w.1 (m + 4) n)) * (w.1 (m + 4) (n + 1))))] 0 0 (jW (jW w m 8 ((((w.1 (m + 4) n) * (w.1 (m + 4) n)) + ((w.1 (m + 4) (n + 1)) * (w.1 (m + 4) (n + 1)))) - ((f * (w.1 (m + 4) n)) * (w.1 (m + 4) (n + 1))))) m 9 1) _
          refine jWp.blk mt 1 ?_
          show _ ∧ jWp 153 309 [some (jO m), some (jI (x : Int)), some (jI (n : Int)), some (jI law), some (jI 2), some (jJ f), none, none, none, none, none] [jO m, jJ ((((w.1 (m + 4) n) * (w.1 (m + 4) n)) + ((w.1 (m + 4) (n + 1)) * (w.1 (m + 4) (n + 1)))) - ((f * (w.1 (m + 4) n)) * (w.1 (m + 4) (n + 1))))] 0 0 (jW (jW w m 8 ((((w.1 (m + 4) n) * (w.1 (m + 4) n)) + ((w.1 (m + 4) (n + 1)) * (w.1 (m + 4) (n + 1)))) - ((f * (w.1 (m + 4) n)) * (w.1 (m + 4) (n + 1))))) m 9 1) _
          refine ⟨rfl, ?_⟩
          refine jWp.getJ (pc' := 312) mt rfl rfl (jtg hW.K0) ?_
          rw [show ((jW (jW w m 8 ((((w.1 (m + 4) n) * (w.1 (m + 4) n)) + ((w.1 (m + 4) (n + 1)) * (w.1 (m + 4) (n + 1)))) - ((f * (w.1 (m + 4) n)) * (w.1 (m + 4) (n + 1))))) m 9 1).1 m 9) = 1 from jW_s]
          show jWp 153 312 [some (jO m), some (jI (x : Int)), some (jI (n : Int)), some (jI law), some (jI 2), some (jJ f), none, none, none, none, none] [jJ 1, jJ ((((w.1 (m + 4) n) * (w.1 (m + 4) n)) + ((w.1 (m + 4) (n + 1)) * (w.1 (m + 4) (n + 1)))) - ((f * (w.1 (m + 4) n)) * (w.1 (m + 4) (n + 1))))] 0 0 (jW (jW w m 8 ((((w.1 (m + 4) n) * (w.1 (m + 4) n)) + ((w.1 (m + 4) (n + 1)) * (w.1 (m + 4) (n + 1)))) - ((f * (w.1 (m + 4) n)) * (w.1 (m + 4) (n + 1))))) m 9 1) _
          refine jWp.calls (as := [jJ ((((w.1 (m + 4) n) * (w.1 (m + 4) n)) + ((w.1 (m + 4) (n + 1)) * (w.1 (m + 4) (n + 1)))) - ((f * (w.1 (m + 4) n)) * (w.1 (m + 4) (n + 1)))), jJ 1]) (rest := []) mt rfl rfl rfl rfl ?_
          refine jCall.mono (E_div (by omega) (by omega)) (fun v9 w9 h9 => ?_)
          obtain ⟨rfl, h9⟩ := h9
          subst w9
          show jWp 153 315 [some (jO m), some (jI (x : Int)), some (jI (n : Int)), some (jI law), some (jI 2), some (jJ f), none, none, none, none, none] [jJ (zg ((((w.1 (m + 4) n) * (w.1 (m + 4) n)) + ((w.1 (m + 4) (n + 1)) * (w.1 (m + 4) (n + 1)))) - ((f * (w.1 (m + 4) n)) * (w.1 (m + 4) (n + 1)))) 1)] 0 0 (jW (jW w m 8 ((((w.1 (m + 4) n) * (w.1 (m + 4) n)) + ((w.1 (m + 4) (n + 1)) * (w.1 (m + 4) (n + 1)))) - ((f * (w.1 (m + 4) n)) * (w.1 (m + 4) (n + 1))))) m 9 1) _
          have hgp := zg_pos (a := ((((w.1 (m + 4) n) * (w.1 (m + 4) n)) + ((w.1 (m + 4) (n + 1)) * (w.1 (m + 4) (n + 1)))) - ((f * (w.1 (m + 4) n)) * (w.1 (m + 4) (n + 1))))) (b := 1) (by omega)
          have hgl := zg_le (a := ((((w.1 (m + 4) n) * (w.1 (m + 4) n)) + ((w.1 (m + 4) (n + 1)) * (w.1 (m + 4) (n + 1)))) - ((f * (w.1 (m + 4) n)) * (w.1 (m + 4) (n + 1))))) (b := 1) (by omega)
          refine jWp.blk mt 3 ?_
          show _ ∧ _ ∧ jWp 153 319 [some (jO m), some (jI (x : Int)), some (jI (n : Int)), some (jI law), some (jI 2), some (jJ f), none, some (jJ (zg ((((w.1 (m + 4) n) * (w.1 (m + 4) n)) + ((w.1 (m + 4) (n + 1)) * (w.1 (m + 4) (n + 1)))) - ((f * (w.1 (m + 4) n)) * (w.1 (m + 4) (n + 1)))) 1)), none, none, none] [jO m, jO m] 0 0 (jW (jW w m 8 ((((w.1 (m + 4) n) * (w.1 (m + 4) n)) + ((w.1 (m + 4) (n + 1)) * (w.1 (m + 4) (n + 1)))) - ((f * (w.1 (m + 4) n)) * (w.1 (m + 4) (n + 1))))) m 9 1) _
          refine ⟨rfl, rfl, ?_⟩
          refine jWp.getJ (pc' := 322) mt rfl rfl (jtg hW.K0) ?_
          rw [show ((jW (jW w m 8 ((((w.1 (m + 4) n) * (w.1 (m + 4) n)) + ((w.1 (m + 4) (n + 1)) * (w.1 (m + 4) (n + 1)))) - ((f * (w.1 (m + 4) n)) * (w.1 (m + 4) (n + 1))))) m 9 1).1 m 8) = ((((w.1 (m + 4) n) * (w.1 (m + 4) n)) + ((w.1 (m + 4) (n + 1)) * (w.1 (m + 4) (n + 1)))) - ((f * (w.1 (m + 4) n)) * (w.1 (m + 4) (n + 1)))) from ((jW_k (by decide)).trans jW_s)]
          show jWp 153 322 [some (jO m), some (jI (x : Int)), some (jI (n : Int)), some (jI law), some (jI 2), some (jJ f), none, some (jJ (zg ((((w.1 (m + 4) n) * (w.1 (m + 4) n)) + ((w.1 (m + 4) (n + 1)) * (w.1 (m + 4) (n + 1)))) - ((f * (w.1 (m + 4) n)) * (w.1 (m + 4) (n + 1)))) 1)), none, none, none] [jJ ((((w.1 (m + 4) n) * (w.1 (m + 4) n)) + ((w.1 (m + 4) (n + 1)) * (w.1 (m + 4) (n + 1)))) - ((f * (w.1 (m + 4) n)) * (w.1 (m + 4) (n + 1)))), jO m] 0 0 (jW (jW w m 8 ((((w.1 (m + 4) n) * (w.1 (m + 4) n)) + ((w.1 (m + 4) (n + 1)) * (w.1 (m + 4) (n + 1)))) - ((f * (w.1 (m + 4) n)) * (w.1 (m + 4) (n + 1))))) m 9 1) _
          refine jWp.blk mt 1 ?_
          show jWp 153 324 [some (jO m), some (jI (x : Int)), some (jI (n : Int)), some (jI law), some (jI 2), some (jJ f), none, some (jJ (zg ((((w.1 (m + 4) n) * (w.1 (m + 4) n)) + ((w.1 (m + 4) (n + 1)) * (w.1 (m + 4) (n + 1)))) - ((f * (w.1 (m + 4) n)) * (w.1 (m + 4) (n + 1)))) 1)), none, none, none] [jJ (zg ((((w.1 (m + 4) n) * (w.1 (m + 4) n)) + ((w.1 (m + 4) (n + 1)) * (w.1 (m + 4) (n + 1)))) - ((f * (w.1 (m + 4) n)) * (w.1 (m + 4) (n + 1)))) 1), jJ ((((w.1 (m + 4) n) * (w.1 (m + 4) n)) + ((w.1 (m + 4) (n + 1)) * (w.1 (m + 4) (n + 1)))) - ((f * (w.1 (m + 4) n)) * (w.1 (m + 4) (n + 1)))), jO m] 0 0 (jW (jW w m 8 ((((w.1 (m + 4) n) * (w.1 (m + 4) n)) + ((w.1 (m + 4) (n + 1)) * (w.1 (m + 4) (n + 1)))) - ((f * (w.1 (m + 4) n)) * (w.1 (m + 4) (n + 1))))) m 9 1) _
          refine jWp.ldiv (pc' := 325) mt rfl rfl (b64_id (by omega) (by omega)) (b64_id (by omega) (by omega)) (by omega) ?_
          show jWp 153 325 [some (jO m), some (jI (x : Int)), some (jI (n : Int)), some (jI law), some (jI 2), some (jJ f), none, some (jJ (zg ((((w.1 (m + 4) n) * (w.1 (m + 4) n)) + ((w.1 (m + 4) (n + 1)) * (w.1 (m + 4) (n + 1)))) - ((f * (w.1 (m + 4) n)) * (w.1 (m + 4) (n + 1)))) 1)), none, none, none] [jJ (Int.tdiv ((((w.1 (m + 4) n) * (w.1 (m + 4) n)) + ((w.1 (m + 4) (n + 1)) * (w.1 (m + 4) (n + 1)))) - ((f * (w.1 (m + 4) n)) * (w.1 (m + 4) (n + 1)))) (zg ((((w.1 (m + 4) n) * (w.1 (m + 4) n)) + ((w.1 (m + 4) (n + 1)) * (w.1 (m + 4) (n + 1)))) - ((f * (w.1 (m + 4) n)) * (w.1 (m + 4) (n + 1)))) 1)), jO m] 0 0 (jW (jW w m 8 ((((w.1 (m + 4) n) * (w.1 (m + 4) n)) + ((w.1 (m + 4) (n + 1)) * (w.1 (m + 4) (n + 1)))) - ((f * (w.1 (m + 4) n)) * (w.1 (m + 4) (n + 1))))) m 9 1) _
          refine jWp.putJ (pc' := 328) mt rfl rfl (jtg hW.K0) ?_
          show jWp 153 328 [some (jO m), some (jI (x : Int)), some (jI (n : Int)), some (jI law), some (jI 2), some (jJ f), none, some (jJ (zg ((((w.1 (m + 4) n) * (w.1 (m + 4) n)) + ((w.1 (m + 4) (n + 1)) * (w.1 (m + 4) (n + 1)))) - ((f * (w.1 (m + 4) n)) * (w.1 (m + 4) (n + 1)))) 1)), none, none, none] [] 0 0 (jW (jW (jW w m 8 ((((w.1 (m + 4) n) * (w.1 (m + 4) n)) + ((w.1 (m + 4) (n + 1)) * (w.1 (m + 4) (n + 1)))) - ((f * (w.1 (m + 4) n)) * (w.1 (m + 4) (n + 1))))) m 9 1) m 8 (Int.tdiv ((((w.1 (m + 4) n) * (w.1 (m + 4) n)) + ((w.1 (m + 4) (n + 1)) * (w.1 (m + 4) (n + 1)))) - ((f * (w.1 (m + 4) n)) * (w.1 (m + 4) (n + 1)))) (zg ((((w.1 (m + 4) n) * (w.1 (m + 4) n)) + ((w.1 (m + 4) (n + 1)) * (w.1 (m + 4) (n + 1)))) - ((f * (w.1 (m + 4) n)) * (w.1 (m + 4) (n + 1)))) 1))) _
          refine jWp.blk mt 2 ?_
          show _ ∧ _ ∧ jWp 153 330 [some (jO m), some (jI (x : Int)), some (jI (n : Int)), some (jI law), some (jI 2), some (jJ f), none, some (jJ (zg ((((w.1 (m + 4) n) * (w.1 (m + 4) n)) + ((w.1 (m + 4) (n + 1)) * (w.1 (m + 4) (n + 1)))) - ((f * (w.1 (m + 4) n)) * (w.1 (m + 4) (n + 1)))) 1)), none, none, none] [jO m, jO m] 0 0 (jW (jW (jW w m 8 ((((w.1 (m + 4) n) * (w.1 (m + 4) n)) + ((w.1 (m + 4) (n + 1)) * (w.1 (m + 4) (n + 1)))) - ((f * (w.1 (m + 4) n)) * (w.1 (m + 4) (n + 1))))) m 9 1) m 8 (Int.tdiv ((((w.1 (m + 4) n) * (w.1 (m + 4) n)) + ((w.1 (m + 4) (n + 1)) * (w.1 (m + 4) (n + 1)))) - ((f * (w.1 (m + 4) n)) * (w.1 (m + 4) (n + 1)))) (zg ((((w.1 (m + 4) n) * (w.1 (m + 4) n)) + ((w.1 (m + 4) (n + 1)) * (w.1 (m + 4) (n + 1)))) - ((f * (w.1 (m + 4) n)) * (w.1 (m + 4) (n + 1)))) 1))) _
          refine ⟨rfl, rfl, ?_⟩
          refine jWp.getJ (pc' := 333) mt rfl rfl (jtg hW.K0) ?_
          rw [show ((jW (jW (jW w m 8 ((((w.1 (m + 4) n) * (w.1 (m + 4) n)) + ((w.1 (m + 4) (n + 1)) * (w.1 (m + 4) (n + 1)))) - ((f * (w.1 (m + 4) n)) * (w.1 (m + 4) (n + 1))))) m 9 1) m 8 (Int.tdiv ((((w.1 (m + 4) n) * (w.1 (m + 4) n)) + ((w.1 (m + 4) (n + 1)) * (w.1 (m + 4) (n + 1)))) - ((f * (w.1 (m + 4) n)) * (w.1 (m + 4) (n + 1)))) (zg ((((w.1 (m + 4) n) * (w.1 (m + 4) n)) + ((w.1 (m + 4) (n + 1)) * (w.1 (m + 4) (n + 1)))) - ((f * (w.1 (m + 4) n)) * (w.1 (m + 4) (n + 1)))) 1))).1 m 9) = 1 from ((jW_k (by decide)).trans jW_s)]
          show jWp 153 333 [some (jO m), some (jI (x : Int)), some (jI (n : Int)), some (jI law), some (jI 2), some (jJ f), none, some (jJ (zg ((((w.1 (m + 4) n) * (w.1 (m + 4) n)) + ((w.1 (m + 4) (n + 1)) * (w.1 (m + 4) (n + 1)))) - ((f * (w.1 (m + 4) n)) * (w.1 (m + 4) (n + 1)))) 1)), none, none, none] [jJ 1, jO m] 0 0 (jW (jW (jW w m 8 ((((w.1 (m + 4) n) * (w.1 (m + 4) n)) + ((w.1 (m + 4) (n + 1)) * (w.1 (m + 4) (n + 1)))) - ((f * (w.1 (m + 4) n)) * (w.1 (m + 4) (n + 1))))) m 9 1) m 8 (Int.tdiv ((((w.1 (m + 4) n) * (w.1 (m + 4) n)) + ((w.1 (m + 4) (n + 1)) * (w.1 (m + 4) (n + 1)))) - ((f * (w.1 (m + 4) n)) * (w.1 (m + 4) (n + 1)))) (zg ((((w.1 (m + 4) n) * (w.1 (m + 4) n)) + ((w.1 (m + 4) (n + 1)) * (w.1 (m + 4) (n + 1)))) - ((f * (w.1 (m + 4) n)) * (w.1 (m + 4) (n + 1)))) 1))) _
          refine jWp.blk mt 1 ?_
          show jWp 153 335 [some (jO m), some (jI (x : Int)), some (jI (n : Int)), some (jI law), some (jI 2), some (jJ f), none, some (jJ (zg ((((w.1 (m + 4) n) * (w.1 (m + 4) n)) + ((w.1 (m + 4) (n + 1)) * (w.1 (m + 4) (n + 1)))) - ((f * (w.1 (m + 4) n)) * (w.1 (m + 4) (n + 1)))) 1)), none, none, none] [jJ (zg ((((w.1 (m + 4) n) * (w.1 (m + 4) n)) + ((w.1 (m + 4) (n + 1)) * (w.1 (m + 4) (n + 1)))) - ((f * (w.1 (m + 4) n)) * (w.1 (m + 4) (n + 1)))) 1), jJ 1, jO m] 0 0 (jW (jW (jW w m 8 ((((w.1 (m + 4) n) * (w.1 (m + 4) n)) + ((w.1 (m + 4) (n + 1)) * (w.1 (m + 4) (n + 1)))) - ((f * (w.1 (m + 4) n)) * (w.1 (m + 4) (n + 1))))) m 9 1) m 8 (Int.tdiv ((((w.1 (m + 4) n) * (w.1 (m + 4) n)) + ((w.1 (m + 4) (n + 1)) * (w.1 (m + 4) (n + 1)))) - ((f * (w.1 (m + 4) n)) * (w.1 (m + 4) (n + 1)))) (zg ((((w.1 (m + 4) n) * (w.1 (m + 4) n)) + ((w.1 (m + 4) (n + 1)) * (w.1 (m + 4) (n + 1)))) - ((f * (w.1 (m + 4) n)) * (w.1 (m + 4) (n + 1)))) 1))) _
          refine jWp.ldiv (pc' := 336) mt rfl rfl (b64_id (by omega) (by omega)) (b64_id (by omega) (by omega)) (by omega) ?_
          show jWp 153 336 [some (jO m), some (jI (x : Int)), some (jI (n : Int)), some (jI law), some (jI 2), some (jJ f), none, some (jJ (zg ((((w.1 (m + 4) n) * (w.1 (m + 4) n)) + ((w.1 (m + 4) (n + 1)) * (w.1 (m + 4) (n + 1)))) - ((f * (w.1 (m + 4) n)) * (w.1 (m + 4) (n + 1)))) 1)), none, none, none] [jJ (Int.tdiv 1 (zg ((((w.1 (m + 4) n) * (w.1 (m + 4) n)) + ((w.1 (m + 4) (n + 1)) * (w.1 (m + 4) (n + 1)))) - ((f * (w.1 (m + 4) n)) * (w.1 (m + 4) (n + 1)))) 1)), jO m] 0 0 (jW (jW (jW w m 8 ((((w.1 (m + 4) n) * (w.1 (m + 4) n)) + ((w.1 (m + 4) (n + 1)) * (w.1 (m + 4) (n + 1)))) - ((f * (w.1 (m + 4) n)) * (w.1 (m + 4) (n + 1))))) m 9 1) m 8 (Int.tdiv ((((w.1 (m + 4) n) * (w.1 (m + 4) n)) + ((w.1 (m + 4) (n + 1)) * (w.1 (m + 4) (n + 1)))) - ((f * (w.1 (m + 4) n)) * (w.1 (m + 4) (n + 1)))) (zg ((((w.1 (m + 4) n) * (w.1 (m + 4) n)) + ((w.1 (m + 4) (n + 1)) * (w.1 (m + 4) (n + 1)))) - ((f * (w.1 (m + 4) n)) * (w.1 (m + 4) (n + 1)))) 1))) _
          refine jWp.putJ (pc' := 339) mt rfl rfl (jtg hW.K0) ?_
          show jWp 153 339 [some (jO m), some (jI (x : Int)), some (jI (n : Int)), some (jI law), some (jI 2), some (jJ f), none, some (jJ (zg ((((w.1 (m + 4) n) * (w.1 (m + 4) n)) + ((w.1 (m + 4) (n + 1)) * (w.1 (m + 4) (n + 1)))) - ((f * (w.1 (m + 4) n)) * (w.1 (m + 4) (n + 1)))) 1)), none, none, none] [] 0 0 (jW (jW (jW (jW w m 8 ((((w.1 (m + 4) n) * (w.1 (m + 4) n)) + ((w.1 (m + 4) (n + 1)) * (w.1 (m + 4) (n + 1)))) - ((f * (w.1 (m + 4) n)) * (w.1 (m + 4) (n + 1))))) m 9 1) m 8 (Int.tdiv ((((w.1 (m + 4) n) * (w.1 (m + 4) n)) + ((w.1 (m + 4) (n + 1)) * (w.1 (m + 4) (n + 1)))) - ((f * (w.1 (m + 4) n)) * (w.1 (m + 4) (n + 1)))) (zg ((((w.1 (m + 4) n) * (w.1 (m + 4) n)) + ((w.1 (m + 4) (n + 1)) * (w.1 (m + 4) (n + 1)))) - ((f * (w.1 (m + 4) n)) * (w.1 (m + 4) (n + 1)))) 1))) m 9 (Int.tdiv 1 (zg ((((w.1 (m + 4) n) * (w.1 (m + 4) n)) + ((w.1 (m + 4) (n + 1)) * (w.1 (m + 4) (n + 1)))) - ((f * (w.1 (m + 4) n)) * (w.1 (m + 4) (n + 1)))) 1))) _
          refine jWp.blk mt 1 ?_
          show jWp 153 340 [some (jO m), some (jI (x : Int)), some (jI (n : Int)), some (jI law), some (jI 2), some (jJ f), none, some (jJ (zg ((((w.1 (m + 4) n) * (w.1 (m + 4) n)) + ((w.1 (m + 4) (n + 1)) * (w.1 (m + 4) (n + 1)))) - ((f * (w.1 (m + 4) n)) * (w.1 (m + 4) (n + 1)))) 1)), none, none, none] [jI 1] 0 0 (jW (jW (jW (jW w m 8 ((((w.1 (m + 4) n) * (w.1 (m + 4) n)) + ((w.1 (m + 4) (n + 1)) * (w.1 (m + 4) (n + 1)))) - ((f * (w.1 (m + 4) n)) * (w.1 (m + 4) (n + 1))))) m 9 1) m 8 (Int.tdiv ((((w.1 (m + 4) n) * (w.1 (m + 4) n)) + ((w.1 (m + 4) (n + 1)) * (w.1 (m + 4) (n + 1)))) - ((f * (w.1 (m + 4) n)) * (w.1 (m + 4) (n + 1)))) (zg ((((w.1 (m + 4) n) * (w.1 (m + 4) n)) + ((w.1 (m + 4) (n + 1)) * (w.1 (m + 4) (n + 1)))) - ((f * (w.1 (m + 4) n)) * (w.1 (m + 4) (n + 1)))) 1))) m 9 (Int.tdiv 1 (zg ((((w.1 (m + 4) n) * (w.1 (m + 4) n)) + ((w.1 (m + 4) (n + 1)) * (w.1 (m + 4) (n + 1)))) - ((f * (w.1 (m + 4) n)) * (w.1 (m + 4) (n + 1)))) 1))) _
          refine jWp.iretz mt rfl ⟨rfl, rfl⟩ rfl (Or.inr rfl) ?_
          have ez : zkm law = 2 := by unfold zkm; rw [if_pos (by omega)]
          have eu : zku law f (w.1 (m + 4)) n = ((((w.1 (m + 4) n) * (w.1 (m + 4) n)) + ((w.1 (m + 4) (n + 1)) * (w.1 (m + 4) (n + 1)))) - ((f * (w.1 (m + 4) n)) * (w.1 (m + 4) (n + 1)))) := by unfold zku; rw [if_pos (by omega)]
          have ed : zkd law (w.1 (m + 4)) n = 1 := by unfold zkd; rw [if_pos (by omega)]
          have hua := zuA (a := ((((w.1 (m + 4) n) * (w.1 (m + 4) n)) + ((w.1 (m + 4) (n + 1)) * (w.1 (m + 4) (n + 1)))) - ((f * (w.1 (m + 4) n)) * (w.1 (m + 4) (n + 1))))) (b := 1) (by omega)
          have hvb := zv_b (a := ((((w.1 (m + 4) n) * (w.1 (m + 4) n)) + ((w.1 (m + 4) (n + 1)) * (w.1 (m + 4) (n + 1)))) - ((f * (w.1 (m + 4) n)) * (w.1 (m + 4) (n + 1))))) (b := 1) (by omega)
          refine Or.inl ⟨rfl, ⟨by rw [ez]; decide, by rw [ez]; exact h13⟩, ?_, ?_⟩
          · rw [eu, ed]
            exact jW4
          · rw [eu, ed]
            omega
      · have h13 : ¬ (∀ k, n ≤ k → k < n + 2 → k < len ∧ 1 ≤ w.1 (m + 4) k ∧ w.1 (m + 4) k ≤ 9999) := h13
        show jWp 153 53 [some (jO m), some (jI (x : Int)), some (jI (n : Int)), some (jI law), some (jI 2), none, none, none, none, none, none] [jI 0] 0 0 w _
        refine jWp.ifc (b := false) mt rfl (by decide) rfl ?_
        show jWp 153 56 [some (jO m), some (jI (x : Int)), some (jI (n : Int)), some (jI law), some (jI 2), none, none, none, none, none, none] [] 0 0 w _
        refine jWp.blk mt 1 ?_
        show jWp 153 57 [some (jO m), some (jI (x : Int)), some (jI (n : Int)), some (jI law), some (jI 2), none, none, none, none, none, none] [jI 0] 0 0 w _
        refine jWp.iretz mt rfl ⟨rfl, rfl⟩ rfl (Or.inl rfl) ?_
        refine Or.inr ⟨rfl, fun g => ?_, rfl⟩
        first
        | (exact g.1 (by unfold zkm; rw [if_neg (by omega), if_neg (by omega), if_neg (by omega)]))
        | (have := zkp_l g; omega)
        | (have ez : zkm law = 2 := by unfold zkm; rw [if_pos (by omega)]
           have g2 := g.2; rw [ez] at g2; exact absurd g2 (by assumption))
        | (have ez : zkm law = 3 := by unfold zkm; rw [if_neg (by omega), if_pos (by omega)]
           have g2 := g.2; rw [ez] at g2; exact absurd g2 (by assumption))
        | (have ez : zkm law = 4 := by unfold zkm; rw [if_neg (by omega), if_neg (by omega), if_pos (by omega)]
           have g2 := g.2; rw [ez] at g2; exact absurd g2 (by assumption))
end
