theorem j32 (x : Int) : (Int32.ofInt x).toInt = b32 x := Int32.toInt_ofInt
theorem j64 (x : Int) : (Int64.ofInt x).toInt = b64 x := Int64.toInt_ofInt
theorem j32_inj {x y : Int32} (h : x.toInt = y.toInt) : x = y := Int32.toInt_inj.mp h
theorem j64_inj {x y : Int64} (h : x.toInt = y.toInt) : x = y := Int64.toInt_inj.mp h
theorem b32_b32 (x : Int) : b32 (b32 x) = b32 x := Int.bmod_bmod
theorem b64_b64 (x : Int) : b64 (b64 x) = b64 x := Int.bmod_bmod
theorem b32_lo (x : Int) : -2147483648 ≤ b32 x := by unfold b32; have := @Int.le_bmod x 4294967296 (by decide); omega
theorem b32_hi (x : Int) : b32 x < 2147483648 := by unfold b32; have := @Int.bmod_lt x 4294967296 (by decide); omega
theorem b64_lo (x : Int) : -9223372036854775808 ≤ b64 x := by unfold b64; have := @Int.le_bmod x 18446744073709551616 (by decide); omega
theorem b64_hi (x : Int) : b64 x < 9223372036854775808 := by unfold b64; have := @Int.bmod_lt x 18446744073709551616 (by decide); omega
theorem b32_id {x : Int} (h1 : -2147483648 ≤ x) (h2 : x < 2147483648) : b32 x = x := by unfold b32; exact Int.bmod_eq_of_le (by omega) (by omega)
theorem b64_id {x : Int} (h1 : -9223372036854775808 ≤ x) (h2 : x < 9223372036854775808) : b64 x = x := by unfold b64; exact Int.bmod_eq_of_le (by omega) (by omega)
theorem b64_b32 (x : Int) : b64 (b32 x) = b32 x := b64_id (by have := b32_lo x; omega) (by have := b32_hi x; omega)
theorem b32_b64 (x : Int) : b32 (b64 x) = b32 x := by
  unfold b32 b64
  exact Int.bmod_bmod_of_dvd (by decide)
theorem j32_of (x : Int) : Int32.ofInt (b32 x) = Int32.ofInt x := j32_inj (by rw [j32, j32, b32_b32])
theorem j64_of (x : Int) : Int64.ofInt (b64 x) = Int64.ofInt x := j64_inj (by rw [j64, j64, b64_b64])
theorem j32_lt (x y : Int) : Int32.ofInt x < Int32.ofInt y ↔ b32 x < b32 y := by rw [Int32.lt_iff_toInt_lt, j32, j32]
theorem j32_le (x y : Int) : Int32.ofInt x ≤ Int32.ofInt y ↔ b32 x ≤ b32 y := by rw [Int32.le_iff_toInt_le, j32, j32]
theorem j32_eq (x y : Int) : Int32.ofInt x = Int32.ofInt y ↔ b32 x = b32 y := by rw [← Int32.toInt_inj, j32, j32]
theorem j64_lt (x y : Int) : Int64.ofInt x < Int64.ofInt y ↔ b64 x < b64 y := by rw [Int64.lt_iff_toInt_lt, j64, j64]
theorem j64_le (x y : Int) : Int64.ofInt x ≤ Int64.ofInt y ↔ b64 x ≤ b64 y := by rw [Int64.le_iff_toInt_le, j64, j64]
theorem j64_eq (x y : Int) : Int64.ofInt x = Int64.ofInt y ↔ b64 x = b64 y := by rw [← Int64.toInt_inj, j64, j64]
theorem j32_0 : (0 : Int32) = Int32.ofInt 0 := rfl
theorem j64_0 : (0 : Int64) = Int64.ofInt 0 := rfl
theorem b32_0 : b32 0 = 0 := by decide
theorem b64_0 : b64 0 = 0 := by decide
theorem j32_nz (x : Int) : Int32.ofInt x = 0 ↔ b32 x = 0 := by rw [j32_0, j32_eq, b32_0]
theorem j64_nz (x : Int) : Int64.ofInt x = 0 ↔ b64 x = 0 := by rw [j64_0, j64_eq, b64_0]
theorem j32_cl (x : Int) : (Int32.ofInt x).toNatClampNeg = (b32 x).toNat := by show (Int32.ofInt x).toInt.toNat = _; rw [j32]
theorem j32_in {x : Int} {n : Nat} (h1 : 0 ≤ b32 x) (h2 : b32 x < (n : Int)) : vp_in (Int32.ofInt x) n := by
  rw [vp_in_iff, j32]
  exact ⟨h1, h2⟩
theorem j32_neg0 {x : Int} (h : 0 ≤ b32 x) : ¬ Int32.ofInt x < 0 := by rw [j32_0, j32_lt, b32_0]; omega
theorem j32_div (x y : Int) : Int32.ofInt x / Int32.ofInt y = Int32.ofInt ((b32 x).tdiv (b32 y)) := j32_inj (by rw [Int32.toInt_div, j32, j32, j32]; rfl)
theorem j64_div (x y : Int) : Int64.ofInt x / Int64.ofInt y = Int64.ofInt ((b64 x).tdiv (b64 y)) := j64_inj (by rw [Int64.toInt_div, j64, j64, j64]; rfl)
theorem j32_rem (x y : Int) : Int32.ofInt x - Int32.ofInt x / Int32.ofInt y * Int32.ofInt y = Int32.ofInt ((b32 x).tmod (b32 y)) := by
  have e : (b32 x).tmod (b32 y) = b32 x - (b32 x).tdiv (b32 y) * b32 y := by rw [Int.tmod_def, Int.mul_comm]
  rw [j32_div, e, Int32.ofInt_sub, Int32.ofInt_mul, j32_of, j32_of]
theorem j64_rem (x y : Int) : Int64.ofInt x - Int64.ofInt x / Int64.ofInt y * Int64.ofInt y = Int64.ofInt ((b64 x).tmod (b64 y)) := by
  have e : (b64 x).tmod (b64 y) = b64 x - (b64 x).tdiv (b64 y) * b64 y := by rw [Int.tmod_def, Int.mul_comm]
  rw [j64_div, e, Int64.ofInt_sub, Int64.ofInt_mul, j64_of, j64_of]
theorem j_i2l (x : Int) : (Int32.ofInt x).toInt64 = Int64.ofInt (b32 x) := j64_inj (by rw [Int32.toInt_toInt64, j32, j64, b64_b32])
theorem j_l2i (x : Int) : (Int64.ofInt x).toInt32 = Int32.ofInt x := j32_inj (by
  rw [Int64.toInt_toInt32, j64, j32]
  exact b32_b64 x)
theorem j_lcmp (x y : Int) : lg_cmp (Int64.ofInt x) (Int64.ofInt y) = Int32.ofInt (jlc (b64 x) (b64 y)) := by
  unfold lg_cmp jlc
  by_cases h1 : b64 y < b64 x
  · simp [j64_lt, h1]
  · by_cases h2 : b64 x = b64 y
    · simp [j64_lt, j64_eq, h2]
    · simp [j64_lt, j64_eq, h1, h2]
theorem j32_and (x y : Int) : Int32.ofInt x &&& Int32.ofInt y = Int32.ofInt (jand x y) := (Int32.ofInt_toInt _).symm
theorem j32_or (x y : Int) : Int32.ofInt x ||| Int32.ofInt y = Int32.ofInt (jor x y) := (Int32.ofInt_toInt _).symm
theorem j32_shl (x y : Int) : Int32.ofInt x <<< (Int32.ofInt y &&& 31) = Int32.ofInt (jshl x y) := (Int32.ofInt_toInt _).symm
theorem j32_nat (n : Nat) : Int32.ofNat n = Int32.ofInt (n : Int) := rfl
theorem jcat_g (v : jV) : (jg v).category = jcat v := by
  rcases v with x | x | r
  · rfl
  · rfl
  · cases r <;> rfl
theorem jlong_cat (v : jV) : jlong (some v) = true ↔ jcat v = 2 := by
  rcases v with x | x | r <;> simp [jlong, jcat]
theorem jset_len (v : jV) : ∀ (i : Nat) (l : jF), (jset v i l).length = l.length
  | _, [] => by cases ‹Nat› <;> simp [jset]
  | 0, x :: r => by
    cases h : jlong (some v) <;> simp [jset, h]
    cases r <;> simp [jcut]
  | 1, x :: r => by simp [jset, jset_len v 0 r]
  | i + 2, x :: r => by simp [jset, jset_len v (i + 1) r]
theorem jget_lt {l : jF} : ∀ {i : Nat} {v : jV}, jget l i = some v → i < l.length := by
  induction l with
  | nil => intro i v h; simp [jget] at h
  | cons x r ih =>
    intro i v h
    cases i with
    | zero => simp
    | succ i => have := ih (i := i) (v := v) h; simp; omega
theorem jget_cut (r : jF) (j : Nat) {u : jV} (h : jget (jcut r) j = some u) : jget r j = some u ∧ j ≠ 0 := by
  cases r with
  | nil => simp [jcut, jget] at h
  | cons x r => cases j with
    | zero => simp [jcut, jget] at h
    | succ j => exact ⟨h, by omega⟩
/-- what a store leaves: the value at its place, else an old one that it doesn't spoil -/
theorem jget_jset (v : jV) : ∀ (i : Nat) (l : jF) (j : Nat) (u : jV), jget (jset v i l) j = some u → (j = i ∧ u = v) ∨ (j ≠ i ∧ jget l j = some u ∧ (j + 1 = i → jlong (some u) = false) ∧ (j = i + 1 → jlong (some v) = false))
  | i, [], j, u, h => by cases i <;> simp [jset, jget] at h
  | 0, x :: r, 0, u, h => by simp [jset, jget] at h; exact Or.inl ⟨rfl, h.symm⟩
  | 0, x :: r, j + 1, u, h => by
    cases hv : jlong (some v) with
    | false => simp only [jset, hv, cond_false, jget] at h; exact Or.inr ⟨by omega, h, by omega, fun _ => rfl⟩
    | true =>
      simp only [jset, hv, cond_true, jget] at h
      obtain ⟨h1, h2⟩ := jget_cut r j h
      exact Or.inr ⟨by omega, h1, by omega, by omega⟩
  | 1, x :: r, 0, u, h => by
    cases hx : jlong x with
    | true => simp [jset, hx, jget] at h
    | false =>
      simp only [jset, hx, cond_false, jget] at h
      exact Or.inr ⟨by omega, h, fun _ => by rw [← h]; exact hx, by omega⟩
  | 1, x :: r, j + 1, u, h => by
    simp only [jset, jget] at h
    rcases jget_jset v 0 r j u h with ⟨a, b⟩ | ⟨a, b, c, d⟩
    · exact Or.inl ⟨by omega, b⟩
    · exact Or.inr ⟨by omega, b, by omega, fun e => d (by omega)⟩
  | i + 2, x :: r, 0, u, h => by
    simp only [jset, jget] at h
    exact Or.inr ⟨by omega, h, by omega, by omega⟩
  | i + 2, x :: r, j + 1, u, h => by
    simp only [jset, jget] at h
    rcases jget_jset v (i + 1) r j u h with ⟨a, b⟩ | ⟨a, b, c, d⟩
    · exact Or.inl ⟨by omega, b⟩
    · exact Or.inr ⟨by omega, b, fun e => c (by omega), fun e => d (by omega)⟩
