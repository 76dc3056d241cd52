/-- the reference as it was, but for what it works with -/
def mq (w : jS) (m : Nat) (w1 : jS) : Prop := w1.2 = w.2 ∧ (∀ a, (a < m ∨ m + 430 ≤ a ∨ a = m + 1 ∨ a = m + 2 ∨ a = m + 3 ∨ (m + 8 ≤ a ∧ a ≤ m + 15) ∨ a = m + 421 ∨ a = m + 423 ∨ (m + 425 ≤ a ∧ a ≤ m + 429)) → w1.1 a = w.1 a) ∧ w1.1 m 15 = w.1 m 15 ∧ w1.1 m 24 = w.1 m 24 ∧ w1.1 m 31 = w.1 m 31
theorem mq_0 {w : jS} {m : Nat} : mq w m w := ⟨rfl, fun _ _ => rfl, rfl, rfl, rfl⟩
theorem mq_t {w w1 w2 : jS} {m : Nat} (h : mq w m w1) (g : mq w1 m w2) : mq w m w2 :=
  ⟨g.1.trans h.1, fun a ha => (g.2.1 a ha).trans (h.2.1 a ha), g.2.2.1.trans h.2.2.1, g.2.2.2.1.trans h.2.2.2.1, g.2.2.2.2.trans h.2.2.2.2⟩
theorem mq_W {w w1 : jS} {m a k : Nat} {x : Int} (h : mq w m w1) (ha : m < a ∧ a < m + 430 ∧ a ≠ m + 1 ∧ a ≠ m + 2 ∧ a ≠ m + 3 ∧ (a < m + 8 ∨ m + 15 < a) ∧ a ≠ m + 421 ∧ a ≠ m + 423 ∧ a < m + 425) : mq w m (jW w1 a k x) :=
  mq_t h ⟨rfl, fun b hb => jW_f (by omega), jW_a (by omega), jW_a (by omega), jW_a (by omega)⟩
theorem mq_A {w w1 : jS} {m a : Nat} {T : Nat → Int} (h : mq w m w1) (ha : m < a ∧ a < m + 430 ∧ a ≠ m + 1 ∧ a ≠ m + 2 ∧ a ≠ m + 3 ∧ (a < m + 8 ∨ m + 15 < a) ∧ a ≠ m + 421 ∧ a ≠ m + 423 ∧ a < m + 425) : mq w m (kA w1 a T) :=
  mq_t h ⟨rfl, fun b hb => kA_f (by omega), kA_a (by omega), kA_a (by omega), kA_a (by omega)⟩
theorem mq_S {w w1 : jS} {m k : Nat} {x : Int} (h : mq w m w1) (hk : k ≠ 15 ∧ k ≠ 24 ∧ k ≠ 31) : mq w m (jW w1 m k x) :=
  mq_t h ⟨rfl, fun b hb => jW_f (by omega), jW_k (Ne.symm hk.1), jW_k (Ne.symm hk.2.1), jW_k (Ne.symm hk.2.2)⟩
theorem mq_F {w w1 : jS} {m : Nat} {x y : Int} (h : mq w m w1) : mq w m (jF2 w1 m x y) := mq_S (mq_S h (by decide)) (by decide)
/-- a refusal behind some work -/
def jnq (w : jS) (m j : Nat) (x : jV) (v : Option jV) (w1 : jS) : Prop := v = some x ∧ ∃ w2, mq w m w2 ∧ w1 = jW w2 (m + 3) j (w.1 (m + 3) j + 1)
theorem jnq_0 {w w1 : jS} {m j : Nat} {x : jV} {v : Option jV} (h : jno w m j x v w1) : jnq w m j x v w1 := ⟨h.1, w, mq_0, h.2⟩
theorem jnq_2 {w w2 : jS} {m j : Nat} {x : jV} (h : mq w m w2) : jnq w m j x (some x) (jW w2 (m + 3) j (w2.1 (m + 3) j + 1)) := ⟨rfl, w2, h, by rw [h.2.1 (m + 3) (by omega)]⟩
/-- seeds that agree -/
def zeq (S q : Nat → Int) : Prop := ∀ j, j < 45 → S j = q j
theorem zeq_29 {S q : Nat → Int} (h : zeq S q) : ∀ j, j < 29 → S j = q j := fun j hj => h j (by omega)
theorem zeq_s {S q : Nat → Int} (h : zeq S q) : zeq q S := fun j hj => (h j hj).symm
theorem zeq_t {S q r : Nat → Int} (h : zeq S q) (g : zeq q r) : zeq S r := fun j hj => (h j hj).trans (g j hj)
theorem zeq_S {S q : Nat → Int} {n : Nat} (h : zeq S q) (hS : zS q n) : zS S n := zS_c (zeq_29 h) hS
/-- the seed behind an exchange -/
def zxF (q : Nat → Int) (n k : Nat) : Nat → Int := fun j => if 1 ≤ j ∧ j < 17 then zxe (fun e => q (1 + e)) k (j - 1) else if j = 21 + k then ((zxv q n k).getD (0, 0)).1 else if j = 25 + k then ((zxv q n k).getD (0, 0)).2 else if 29 + 4 * k ≤ j ∧ j < 29 + 4 * k + 4 then zdn q n k (j - (29 + 4 * k)) else q j
theorem zxF_b {q : Nat → Int} {n k e : Nat} (he : e < 16) : zxF q n k (1 + e) = zxe (fun e => q (1 + e)) k e := by
  unfold zxF
  rw [if_pos (by omega), show 1 + e - 1 = e by omega]
theorem zxF_u {q : Nat → Int} {n k : Nat} : zxF q n k (21 + k) = ((zxv q n k).getD (0, 0)).1 := by
  unfold zxF
  rw [if_neg (by omega), if_pos rfl]
theorem zxF_v {q : Nat → Int} {n k : Nat} (hk : k < 4) : zxF q n k (25 + k) = ((zxv q n k).getD (0, 0)).2 := by
  unfold zxF
  rw [if_neg (by omega), if_neg (by omega), if_pos rfl]
theorem zxF_d {q : Nat → Int} {n k c : Nat} (hk : k < 4) (hc : c < 4) : zxF q n k (29 + 4 * k + c) = zdn q n k c := by
  unfold zxF
  rw [if_neg (by omega), if_neg (by omega), if_neg (by omega), if_pos (by omega), show 29 + 4 * k + c - (29 + 4 * k) = c by omega]
theorem zxF_o {q : Nat → Int} {n k j : Nat} (h1 : ¬ (1 ≤ j ∧ j < 17)) (h2 : j ≠ 21 + k) (h3 : j ≠ 25 + k) (h4 : ¬ (29 + 4 * k ≤ j ∧ j < 29 + 4 * k + 4)) : zxF q n k j = q j := by
  unfold zxF
  rw [if_neg h1, if_neg h2, if_neg h3, if_neg h4]
theorem zxn_F {q S : Nat → Int} {n k : Nat} (hk : k < 4) (h : zxn q S n k) : zeq S (zxF q n k) := by
  intro j hj
  by_cases h1 : 1 ≤ j ∧ j < 17
  · have := h.2.2.1 (j - 1) (by omega)
    rw [show j = 1 + (j - 1) by omega, zxF_b (by omega)]
    exact this
  · by_cases h2 : j = 21 + k
    · subst h2
      rw [zxF_u, h.2.1]
      rfl
    · by_cases h3 : j = 25 + k
      · subst h3
        rw [zxF_v hk, h.2.1]
        rfl
      · by_cases h4 : 29 + 4 * k ≤ j ∧ j < 29 + 4 * k + 4
        · rw [show j = 29 + 4 * k + (j - (29 + 4 * k)) by omega, zxF_d hk (by omega)]
          exact h.2.2.2.2.1 _ (by omega)
        · rw [zxF_o h1 h2 h3 h4]
          rcases Nat.lt_or_ge j 29 with e | e
          · exact h.2.2.2.1 j e (by omega) h2 h3
          · have := h.2.2.2.2.2 ((j - 29) / 4) ((j - 29) % 4) (by omega) (by omega) (by omega)
            rw [show 29 + 4 * ((j - 29) / 4) + (j - 29) % 4 = j by omega] at this
            exact this
theorem zxF_n {q : Nat → Int} {n k : Nat} (hk : k < 4) (hc : zcan q n k) : zxn q (zxF q n k) n k := by
  obtain ⟨p, hp⟩ := Option.isSome_iff_exists.mp hc.2
  refine ⟨hc, ?_, fun e he => zxF_b he, fun j hj h1 h2 h3 => zxF_o (by omega) h2 h3 (by omega), fun c hc => zxF_d hk hc, fun i c hi hc hik => zxF_o (by omega) (by omega) (by omega) (by omega)⟩
  rw [zxF_u, zxF_v hk, hp]
  rfl
theorem zcan_q {S q : Nat → Int} {n k : Nat} (h : zeq S q) (hn : n ≤ 4) (hk : k < 4) : zcan S n k ↔ zcan q n k := zcan_c (zeq_29 h) hn hk
theorem zxF_c {S q : Nat → Int} {n k : Nat} (h : zeq S q) (hn : n ≤ 4) (hk : k < 4) : zeq (zxF S n k) (zxF q n k) := by
  intro j hj
  unfold zxF
  rw [zxv_c (zeq_29 h) hn hk, h j hj]
  by_cases h1 : 1 ≤ j ∧ j < 17
  · rw [if_pos h1, if_pos h1]
    exact zxe_c (zeq_29 h) hk (by omega)
  · rw [if_neg h1, if_neg h1]
    by_cases h4 : 29 + 4 * k ≤ j ∧ j < 29 + 4 * k + 4
    · rw [zdn_c hn hk (by omega) (fun j hj _ => h j hj)]
    · rw [if_neg h4, if_neg h4]
theorem zcnt_c {u v u' v' : Nat → Int} {x y : Int} : ∀ j, (∀ i, i < j → u i = u' i ∧ v i = v' i) → zcnt u v j x y = zcnt u' v' j x y
  | 0, _ => rfl
  | j + 1, h => by
    unfold zcnt
    rw [zcnt_c j (fun i hi => h i (by omega)), (h j (by omega)).1, (h j (by omega)).2]
theorem zsame_c {S q P p : Nat → Int} {n : Nat} (hn : n ≤ 4) (h : zeq S q) (g : zeq P p) : zsame S P n ↔ zsame q p n := by
  have e : ∀ i, i < n → (zcnt (fun j => S (21 + j)) (fun j => S (25 + j)) n (S (21 + i)) (S (25 + i)) = zcnt (fun j => P (21 + j)) (fun j => P (25 + j)) n (S (21 + i)) (S (25 + i)) ↔ zcnt (fun j => q (21 + j)) (fun j => q (25 + j)) n (q (21 + i)) (q (25 + i)) = zcnt (fun j => p (21 + j)) (fun j => p (25 + j)) n (q (21 + i)) (q (25 + i))) := by
    intro i hi
    rw [h (21 + i) (by omega), h (25 + i) (by omega), zcnt_c (u' := fun j => q (21 + j)) (v' := fun j => q (25 + j)) n (fun i hi => ⟨h _ (by omega), h _ (by omega)⟩), zcnt_c (u := fun j => P (21 + j)) (v := fun j => P (25 + j)) (u' := fun j => p (21 + j)) (v' := fun j => p (25 + j)) n (fun i hi => ⟨g _ (by omega), g _ (by omega)⟩)]
  exact ⟨fun z i hi => (e i hi).mp (z i hi), fun z i hi => (e i hi).mpr (z i hi)⟩
theorem zal_c {S q P p : Nat → Int} {n : Nat} (hn : n ≤ 4) (h : zeq S q) (g : zeq P p) : zal S P n ↔ zal q p n := by
  constructor
  · intro z
    exact ⟨fun e he => by rw [← h _ (by omega), ← g _ (by omega)]; exact z.1 e he, fun i hi => by rw [← h _ (by omega), ← g _ (by omega), ← h _ (by omega), ← g _ (by omega)]; exact z.2 i hi⟩
  · intro z
    exact ⟨fun e he => by rw [h _ (by omega), g _ (by omega)]; exact z.1 e he, fun i hi => by rw [h (21 + i) (by omega), g (21 + i) (by omega), h (25 + i) (by omega), g (25 + i) (by omega)]; exact z.2 i hi⟩
theorem zgi_c {S q : Nat → Int} {i : Nat} (h : zeq S q) (hi : i < 4) (y : Int) : ∀ c, c ≤ 4 → zgi S i c y = zgi q i c y
  | 0, _ => rfl
  | c + 1, hc => by
    unfold zgi
    rw [zgi_c h hi y c (by omega), h (29 + 4 * i + c) (by omega)]
theorem zgo_c {S q : Nat → Int} {n : Nat} (h : zeq S q) (hn : n ≤ 4) : ∀ i, i ≤ 4 → zgo S n i = zgo q n i
  | 0, _ => rfl
  | i + 1, hi => by
    unfold zgo
    rw [zgo_c h hn i (by omega), zgi_c h (by omega) _ n hn]
/-- an exchange of one of the reference's seeds -/
theorem E_xany {w : jS} {m n k o : Nat} (hW : MW w.2 m) (hq : w.2.1 (m + o) = (101, 45)) (hS : zS (w.1 (m + o)) n) (hk : k < 4) : jCall 178 [jO m, jO (m + o), jI (k : Int)] w (fun v w1 => (w1.2 = w.2 ∧ (∀ a, a ≠ m → a ≠ m + 6 → a ≠ m + o → w1.1 a = w.1 a) ∧ ∀ j, j ≠ 11 → j ≠ 12 → w1.1 m j = w.1 m j) ∧ ((v = some (jI 1) ∧ zxn (w.1 (m + o)) (w1.1 (m + o)) n k) ∨ (v = some (jI 0) ∧ w1.1 (m + o) = w.1 (m + o) ∧ ¬ zcan (w.1 (m + o)) n k))) := by
  have hom : m + o ≠ m := kne hq hW.K0 (by decide)
  have hot : m + o ≠ m + 6 := kne2 hq hW.K6 (by decide)
  refine jCall.mono (E_exchanges (w := w) (q := m + o) (tb := m + 6) (n := n) hW.K0 hW.R13 hq hW.K6 hS hk) (fun v w1 h => ?_)
  obtain ⟨x, y, T6, S, h1, h2⟩ := h
  have e : w1.1 (m + o) = S := by rw [h1]; exact funext fun _ => jX_q
  refine ⟨⟨by rw [h1]; rfl, fun a h0 h6 ho => by rw [h1]; exact (kA_f ho).trans ((kA_f h6).trans (jF2_f h0)), fun j h11 h12 => by rw [h1]; exact (kA_a (by omega)).trans ((kA_a (by omega)).trans (jF2_k h11 h12))⟩, ?_⟩
  rw [e]
  rcases h2 with ⟨hv, h3, h4, h5, h6, h7, h8, hg⟩ | ⟨hv, h3, h4⟩
  · exact Or.inl ⟨hv, ⟨h4, by rw [h3]; rfl⟩, by rw [h3, h6, h7], h5, h8, hg⟩
  · exact Or.inr ⟨hv, h3, fun hc => h4 hc⟩
theorem mq_x {w w1 : jS} {m o : Nat} (ho : o = 16 ∨ (18 ≤ o ∧ o < 418)) (h : w1.2 = w.2 ∧ (∀ a, a ≠ m → a ≠ m + 6 → a ≠ m + o → w1.1 a = w.1 a) ∧ ∀ j, j ≠ 11 → j ≠ 12 → w1.1 m j = w.1 m j) : mq w m w1 :=
  ⟨h.1, fun a ha => h.2.1 a (by omega) (by omega) (by omega), h.2.2 15 (by decide) (by decide), h.2.2 24 (by decide) (by decide), h.2.2 31 (by decide) (by decide)⟩
/-- bits of what holds -/
noncomputable def zbt (p : Nat → Prop) : Nat → Int
  | 0 => 0
  | k + 1 => @ite Int (p k) (Classical.propDecidable (p k)) (jor (zbt p k) (jshl 1 (k : Int))) (zbt p k)
theorem zbt_t {p : Nat → Prop} {k : Nat} (h : p k) : zbt p (k + 1) = jor (zbt p k) (jshl 1 (k : Int)) := if_pos h
theorem zbt_f {p : Nat → Prop} {k : Nat} (h : ¬ p k) : zbt p (k + 1) = zbt p k := if_neg h
theorem b32_i32 (x : Int32) : b32 x.toInt = x.toInt := b32_id (by have := Int32.le_toInt x; omega) (by have := Int32.toInt_lt x; omega)
theorem zbt_r (p : Nat → Prop) : ∀ k, b32 (zbt p k) = zbt p k
  | 0 => show b32 0 = 0 from by decide
  | k + 1 => by
    by_cases h : p k
    · rw [zbt_t h]
      exact b32_i32 _
    · rw [zbt_f h]
      exact zbt_r p k
theorem jor_0 {x : Int} (h : b32 x = x) : jor x 0 = x := by
  unfold jor
  rw [show Int32.ofInt 0 = 0 from rfl, Int32.or_zero, Int32.toInt_ofInt]
  exact h
theorem zbt_c {p r : Nat → Prop} : ∀ k, (∀ i, i < k → (p i ↔ r i)) → zbt p k = zbt r k
  | 0, _ => rfl
  | k + 1, h => by
    by_cases hk : p k
    · rw [zbt_t hk, zbt_t ((h k (by omega)).mp hk), zbt_c k (fun i hi => h i (by omega))]
    · rw [zbt_f hk, zbt_f (fun g => hk ((h k (by omega)).mpr g)), zbt_c k (fun i hi => h i (by omega))]
