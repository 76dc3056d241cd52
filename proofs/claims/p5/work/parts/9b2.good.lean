/-! the seeds near the first one: a table of zeros, values 1 or 2, small degrees -/
def zGq (q : Nat → Int) : Prop := (∀ e, e < 16 → q (1 + e) = 0) ∧ (∀ i, i < 4 → (q (21 + i) = 1 ∨ q (21 + i) = 2) ∧ q (25 + i) = 1) ∧ ∀ j, 29 ≤ j → j < 45 → -1 ≤ q j ∧ q j ≤ 1
theorem zml_0 {up dn tm : Nat → Int} {p : Int × Int} : ∀ (r i : Nat), (∀ j, i ≤ j → j < i + r → tm j = 0) → zml up dn tm r i p = some p
  | 0, _, _ => rfl
  | r + 1, i, h => by
    show (zmt (up i) (dn i) (tm i).toNat p).bind (zml up dn tm r (i + 1)) = some p
    rw [h i (Nat.le_refl _) (by omega)]
    show (some p).bind (zml up dn tm r (i + 1)) = some p
    exact zml_0 r (i + 1) (fun j h1 h2 => h j (by omega) (by omega))
theorem zdu_0 {q : Nat → Int} {k c : Nat} : ∀ n, (∀ i, i < n → q (1 + (4 * i + k)) = 0) → zdu q k c n = 0
  | 0, _ => rfl
  | n + 1, h => by
    rw [zdu_f (by rw [h n (by omega)]; decide), zdu_0 n (fun i hi => h i (by omega))]
    rfl
theorem zdw_0 {q : Nat → Int} {k c : Nat} : ∀ n, (∀ i, i < n → q (1 + (4 * i + k)) = 0) → zdw q k c n = 0
  | 0, _ => rfl
  | n + 1, h => by
    show zdw q k c n + (if q (1 + (4 * n + k)) < 0 then _ else _) = 0
    rw [if_neg (by rw [h n (by omega)]; decide), zdw_0 n (fun i hi => h i (by omega))]
    rfl
theorem zxv_0 {q : Nat → Int} {n k : Nat} (h : zGq q) (hn : n ≤ 4) (hk : k < 4) : zxv q n k = some (if q (21 + k) = 1 then 2 else 1, 1) := by
  have m1 : ∀ sg : Int, zmk q n k sg = some (1, 1) := fun sg => zml_0 n 0 (fun j h1 h2 => by
    rw [h.1 (4 * j + k) (by omega), Int.mul_zero])
  unfold zxv
  rw [m1 1, m1 (-1)]
  dsimp only
  rw [(h.2.1 k hk).2]
  rcases (h.2.1 k hk).1 with e | e <;> rw [e] <;> decide
theorem zG1 : zG zGq := by
  refine ⟨fun S q e h => ⟨fun j hj => by rw [e _ (by omega)]; exact h.1 j hj, fun i hi => by rw [e _ (by omega), e _ (by omega)]; exact h.2.1 i hi, fun j h1 h2 => by rw [e _ h2]; exact h.2.2 j h1 h2⟩, fun q n k hQ hk hc h => ?_, fun q n _ h j h1 h2 => by have := h.2.2 j h1 h2; omega, fun q n hQ h => ⟨0, 0, by have := hQ.1.2.1; omega, by have := hQ.1.2.1; omega, (h.2.2 _ (by omega) (by omega)).1⟩, fun q n hQ h i hi => (h.2.1 i (by have := hQ.1.2.2.1; omega)).2⟩
  have hn := hQ.1.2.2.1
  have hk4 : k < 4 := by omega
  have hv := zxv_0 h hn hk4
  refine ⟨fun e he => ?_, fun i hi => ?_, fun j h1 h2 => ?_⟩
  · rw [zxF_b he]
    unfold zxe zxb
    dsimp only
    rw [h.1 (4 * (e / 4) + e % 4) (by omega), h.1 (4 * (e / 4) + k) (by omega), h.1 (4 * k + e % 4) (by omega)]
    split <;> decide
  · by_cases e : i = k
    · subst e
      rw [zxF_u, zxF_v hk4, hv]
      refine ⟨?_, rfl⟩
      show (if q (21 + i) = 1 then 2 else 1) = (1 : Int) ∨ (if q (21 + i) = 1 then 2 else 1) = (2 : Int)
      split
      · exact Or.inr rfl
      · exact Or.inl rfl
    · rw [zxF_o (by omega) (by omega) (by omega) (by omega), zxF_o (by omega) (by omega) (by omega) (by omega)]
      exact h.2.1 i hi
  · by_cases e : 29 + 4 * k ≤ j ∧ j < 29 + 4 * k + 4
    · obtain ⟨c, rfl⟩ : ∃ c, j = 29 + 4 * k + c := ⟨j - (29 + 4 * k), by omega⟩
      rw [zxF_d hk4 (by omega)]
      unfold zdn
      rw [zdu_0 n (fun i hi => h.1 (4 * i + k) (by omega)), zdw_0 n (fun i hi => h.1 (4 * i + k) (by omega)), if_neg (by omega)]
      have := h.2.2 (29 + 4 * k + c) (by omega) (by omega)
      omega
    · rw [zxF_o (by omega) (by omega) (by omega) e]
      exact h.2.2 j h1 h2
theorem zG1_0 {S : Nat → Int} (e : zeq S (zNw 2)) : zGq S := by
  refine ⟨fun j hj => ?_, fun i hi => ?_, fun j h1 h2 => ?_⟩
  · rw [e _ (by omega)]
    unfold zNw
    rw [if_neg (by omega), if_pos (by omega)]
  · rw [e _ (by omega), e _ (by omega)]
    unfold zNw
    rw [if_neg (by omega), if_neg (by omega), if_pos (by omega), if_neg (by omega), if_neg (by omega), if_pos (by omega)]
    exact ⟨Or.inl rfl, rfl⟩
  · rw [e _ h2]
    unfold zNw
    rw [if_neg (by omega), if_neg (by omega), if_neg (by omega)]
    split <;> omega
