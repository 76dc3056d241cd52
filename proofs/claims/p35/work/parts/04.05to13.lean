section
theorem j32 (x : Int) : (Int32.ofInt x).toInt = b32 x := Int32.toInt_ofInt
theorem j64 (x : Int) : (Int64.ofInt x).toInt = b64 x := Int64.toInt_ofInt
theorem j32_inj {x y : Int32} (h : x.toInt = y.toInt) : x = y := Int32.toInt_inj.mp h
theorem j64_inj {x y : Int64} (h : x.toInt = y.toInt) : x = y := Int64.toInt_inj.mp h
theorem b32_b32 (x : Int) : b32 (b32 x) = b32 x := Int.bmod_bmod
theorem b64_b64 (x : Int) : b64 (b64 x) = b64 x := Int.bmod_bmod
theorem b32_lo (x : Int) : -2147483648 ≤ b32 x := by unfold b32; have := @Int.le_bmod x 4294967296 (by decide); omega
theorem b32_hi (x : Int) : b32 x < 2147483648 := by unfold b32; have := @Int.bmod_lt x 4294967296 (by decide); omega
theorem b64_lo (x : Int) : -9223372036854775808 ≤ b64 x := by unfold b64; have := @Int.le_bmod x 18446744073709551616 (by decide); omega
theorem b64_hi (x : Int) : b64 x < 9223372036854775808 := by unfold b64; have := @Int.bmod_lt x 18446744073709551616 (by decide); omega
theorem b32_id {x : Int} (h1 : -2147483648 ≤ x) (h2 : x < 2147483648) : b32 x = x := by unfold b32; exact Int.bmod_eq_of_le (by omega) (by omega)
theorem b64_id {x : Int} (h1 : -9223372036854775808 ≤ x) (h2 : x < 9223372036854775808) : b64 x = x := by unfold b64; exact Int.bmod_eq_of_le (by omega) (by omega)
theorem b64_b32 (x : Int) : b64 (b32 x) = b32 x := b64_id (by have := b32_lo x; omega) (by have := b32_hi x; omega)
theorem b32_b64 (x : Int) : b32 (b64 x) = b32 x := by
  unfold b32 b64
  exact Int.bmod_bmod_of_dvd (by decide)
theorem j32_of (x : Int) : Int32.ofInt (b32 x) = Int32.ofInt x := j32_inj (by rw [j32, j32, b32_b32])
theorem j64_of (x : Int) : Int64.ofInt (b64 x) = Int64.ofInt x := j64_inj (by rw [j64, j64, b64_b64])
theorem j32_lt (x y : Int) : Int32.ofInt x < Int32.ofInt y ↔ b32 x < b32 y := by rw [Int32.lt_iff_toInt_lt, j32, j32]
theorem j32_le (x y : Int) : Int32.ofInt x ≤ Int32.ofInt y ↔ b32 x ≤ b32 y := by rw [Int32.le_iff_toInt_le, j32, j32]
theorem j32_eq (x y : Int) : Int32.ofInt x = Int32.ofInt y ↔ b32 x = b32 y := by rw [← Int32.toInt_inj, j32, j32]
theorem j64_lt (x y : Int) : Int64.ofInt x < Int64.ofInt y ↔ b64 x < b64 y := by rw [Int64.lt_iff_toInt_lt, j64, j64]
theorem j64_le (x y : Int) : Int64.ofInt x ≤ Int64.ofInt y ↔ b64 x ≤ b64 y := by rw [Int64.le_iff_toInt_le, j64, j64]
theorem j64_eq (x y : Int) : Int64.ofInt x = Int64.ofInt y ↔ b64 x = b64 y := by rw [← Int64.toInt_inj, j64, j64]
theorem j32_0 : (0 : Int32) = Int32.ofInt 0 := rfl
theorem j64_0 : (0 : Int64) = Int64.ofInt 0 := rfl
theorem b32_0 : b32 0 = 0 := by decide
theorem b64_0 : b64 0 = 0 := by decide
theorem j32_nz (x : Int) : Int32.ofInt x = 0 ↔ b32 x = 0 := by rw [j32_0, j32_eq, b32_0]
theorem j64_nz (x : Int) : Int64.ofInt x = 0 ↔ b64 x = 0 := by rw [j64_0, j64_eq, b64_0]
theorem j32_cl (x : Int) : (Int32.ofInt x).toNatClampNeg = (b32 x).toNat := by show (Int32.ofInt x).toInt.toNat = _; rw [j32]
theorem j32_in {x : Int} {n : Nat} (h1 : 0 ≤ b32 x) (h2 : b32 x < (n : Int)) : vp_in (Int32.ofInt x) n := by
  rw [vp_in_iff, j32]
  exact ⟨h1, h2⟩
theorem j32_neg0 {x : Int} (h : 0 ≤ b32 x) : ¬ Int32.ofInt x < 0 := by rw [j32_0, j32_lt, b32_0]; omega
theorem j32_div (x y : Int) : Int32.ofInt x / Int32.ofInt y = Int32.ofInt ((b32 x).tdiv (b32 y)) := j32_inj (by rw [Int32.toInt_div, j32, j32, j32]; rfl)
theorem j64_div (x y : Int) : Int64.ofInt x / Int64.ofInt y = Int64.ofInt ((b64 x).tdiv (b64 y)) := j64_inj (by rw [Int64.toInt_div, j64, j64, j64]; rfl)
theorem j32_rem (x y : Int) : Int32.ofInt x - Int32.ofInt x / Int32.ofInt y * Int32.ofInt y = Int32.ofInt ((b32 x).tmod (b32 y)) := by
  have e : (b32 x).tmod (b32 y) = b32 x - (b32 x).tdiv (b32 y) * b32 y := by rw [Int.tmod_def, Int.mul_comm]
  rw [j32_div, e, Int32.ofInt_sub, Int32.ofInt_mul, j32_of, j32_of]
theorem j64_rem (x y : Int) : Int64.ofInt x - Int64.ofInt x / Int64.ofInt y * Int64.ofInt y = Int64.ofInt ((b64 x).tmod (b64 y)) := by
  have e : (b64 x).tmod (b64 y) = b64 x - (b64 x).tdiv (b64 y) * b64 y := by rw [Int.tmod_def, Int.mul_comm]
  rw [j64_div, e, Int64.ofInt_sub, Int64.ofInt_mul, j64_of, j64_of]
theorem j_i2l (x : Int) : (Int32.ofInt x).toInt64 = Int64.ofInt (b32 x) := j64_inj (by rw [Int32.toInt_toInt64, j32, j64, b64_b32])
theorem j_l2i (x : Int) : (Int64.ofInt x).toInt32 = Int32.ofInt x := j32_inj (by
  rw [Int64.toInt_toInt32, j64, j32]
  exact b32_b64 x)
theorem j_lcmp (x y : Int) : lg_cmp (Int64.ofInt x) (Int64.ofInt y) = Int32.ofInt (jlc (b64 x) (b64 y)) := by
  unfold lg_cmp jlc
  by_cases h1 : b64 y < b64 x
  · simp [j64_lt, h1]
  · by_cases h2 : b64 x = b64 y
    · simp [j64_lt, j64_eq, h2]
    · simp [j64_lt, j64_eq, h1, h2]
theorem j32_and (x y : Int) : Int32.ofInt x &&& Int32.ofInt y = Int32.ofInt (jand x y) := (Int32.ofInt_toInt _).symm
theorem j32_or (x y : Int) : Int32.ofInt x ||| Int32.ofInt y = Int32.ofInt (jor x y) := (Int32.ofInt_toInt _).symm
theorem j32_shl (x y : Int) : Int32.ofInt x <<< (Int32.ofInt y &&& 31) = Int32.ofInt (jshl x y) := (Int32.ofInt_toInt _).symm
theorem j32_nat (n : Nat) : Int32.ofNat n = Int32.ofInt (n : Int) := rfl
theorem jcat_g (v : jV) : (jg v).category = jcat v := by
  rcases v with x | x | r
  · rfl
  · rfl
  · cases r <;> rfl
theorem jlong_cat (v : jV) : jlong (some v) = true ↔ jcat v = 2 := by
  rcases v with x | x | r <;> simp [jlong, jcat]
theorem jset_len (v : jV) : ∀ (i : Nat) (l : jF), (jset v i l).length = l.length
  | _, [] => by cases ‹Nat› <;> simp [jset]
  | 0, x :: r => by
    cases h : jlong (some v) <;> simp [jset, h]
    cases r <;> simp [jcut]
  | 1, x :: r => by simp [jset, jset_len v 0 r]
  | i + 2, x :: r => by simp [jset, jset_len v (i + 1) r]
theorem jget_lt {l : jF} : ∀ {i : Nat} {v : jV}, jget l i = some v → i < l.length := by
  induction l with
  | nil => intro i v h; simp [jget] at h
  | cons x r ih =>
    intro i v h
    cases i with
    | zero => simp
    | succ i => have := ih (i := i) (v := v) h; simp; omega
theorem jget_cut (r : jF) (j : Nat) {u : jV} (h : jget (jcut r) j = some u) : jget r j = some u ∧ j ≠ 0 := by
  cases r with
  | nil => simp [jcut, jget] at h
  | cons x r => cases j with
    | zero => simp [jcut, jget] at h
    | succ j => exact ⟨h, by omega⟩
/-- what a store leaves: the value at its place, else an old one that it doesn't spoil -/
theorem jget_jset (v : jV) : ∀ (i : Nat) (l : jF) (j : Nat) (u : jV), jget (jset v i l) j = some u → (j = i ∧ u = v) ∨ (j ≠ i ∧ jget l j = some u ∧ (j + 1 = i → jlong (some u) = false) ∧ (j = i + 1 → jlong (some v) = false))
  | i, [], j, u, h => by cases i <;> simp [jset, jget] at h
  | 0, x :: r, 0, u, h => by simp [jset, jget] at h; exact Or.inl ⟨rfl, h.symm⟩
  | 0, x :: r, j + 1, u, h => by
    cases hv : jlong (some v) with
    | false => simp only [jset, hv, cond_false, jget] at h; exact Or.inr ⟨by omega, h, by omega, fun _ => rfl⟩
    | true =>
      simp only [jset, hv, cond_true, jget] at h
      obtain ⟨h1, h2⟩ := jget_cut r j h
      exact Or.inr ⟨by omega, h1, by omega, by omega⟩
  | 1, x :: r, 0, u, h => by
    cases hx : jlong x with
    | true => simp [jset, hx, jget] at h
    | false =>
      simp only [jset, hx, cond_false, jget] at h
      exact Or.inr ⟨by omega, h, fun _ => by rw [← h]; exact hx, by omega⟩
  | 1, x :: r, j + 1, u, h => by
    simp only [jset, jget] at h
    rcases jget_jset v 0 r j u h with ⟨a, b⟩ | ⟨a, b, c, d⟩
    · exact Or.inl ⟨by omega, b⟩
    · exact Or.inr ⟨by omega, b, by omega, fun e => d (by omega)⟩
  | i + 2, x :: r, 0, u, h => by
    simp only [jset, jget] at h
    exact Or.inr ⟨by omega, h, by omega, by omega⟩
  | i + 2, x :: r, j + 1, u, h => by
    simp only [jset, jget] at h
    rcases jget_jset v (i + 1) r j u h with ⟨a, b⟩ | ⟨a, b, c, d⟩
    · exact Or.inl ⟨by omega, b⟩
    · exact Or.inr ⟨by omega, b, fun e => c (by omega), fun e => d (by omega)⟩
end
section
def jisNest : Jvm.Cond → Bool
  | .fieldLinkNest _ _ _ _ _ _ => true
  | .methodLinkNest _ _ _ _ => true
  | _ => false
def jord (j : Nat) : Int := [2, 2, 3, 4, 5, 6, 8].getD j 0
def jfs (ci : Nat) (w : jS) (a : Nat) : List Value := (List.range (jFN ci)).map (fun k => jg (jfv (jtyc (jFy ci k)) k w a))
def jel (cA : Nat → ClassId) (w : jS) (a : Nat) : va_E :=
  if (w.2.1 a).1 = 100 then .inl (cA 0, (w.2.1 a).2, .inl (fun j => Int32.ofInt (w.1 a j)))
  else if (w.2.1 a).1 = 101 then .inl (cA 1, (w.2.1 a).2, .inr (.inl (fun j => Int64.ofInt (w.1 a j))))
  else if 102 ≤ (w.2.1 a).1 then .inl (cA ((w.2.1 a).1 - 100), (w.2.1 a).2, .inr (.inr (.inr (.inr (fun j => w.2.2.1 a j)))))
  else .inr ((w.2.1 a).1 - 1, jfs ((w.2.1 a).1 - 1) w a)
def jws (cA : Nat → ClassId) (z0 : Nat) (w : jS) : va_W := (List.range' z0 (w.2.2.2.1 - z0)).map (fun a => (a, jel cA w a))
def jtys (cA : Nat → ClassId) : List (ClassId × FieldType) := [(cA 0, .int), (cA 1, .long), (cA 2, .object "ExchangeRows$Row"), (cA 3, .object "ExchangeRows$Seed"), (cA 4, .object "ExchangeRows$Tale"), (cA 5, .array .long)]
def jK (D : va_G) (cA : Nat → ClassId) (z0 ao : Nat) (s : State) : Prop :=
  va_K D vwCl (jtys cA) s ∧ va_Z RX2 "ORDERS" "[I" (.ref ao) (fun q => z0 ≤ q) s s.heap ∧ va_T .int ao 7 (fun j => .int (Int32.ofInt (jord j))) (fun q => z0 ≤ q) s s.heap ∧
  (∀ w ∈ lw_tbl.filter jisNest, va_Nw w s) ∧ (va_AO "ExchangeRows$Row" s ∧ va_AO "ExchangeRows$Seed" s ∧ va_AO "ExchangeRows$Tale" s) ∧ (Cond.arrayOver (.array .long)).before #[] s = true
def jGood (D : va_G) (cA : Nat → ClassId) (z0 ao : Nat) (w : jS) (H : Heap) : Prop :=
  H.size = w.2.2.2.1 ∧ z0 ≤ w.2.2.2.1 ∧ va_P D vwCl (jws cA z0 w) H ∧ (∀ a, (w.2.1 a).1 ≠ 0 → a = ao ∨ (z0 ≤ a ∧ a < w.2.2.2.1)) ∧ w.2.1 ao = (99, 7) ∧ (∀ j, w.1 ao j = jord j) ∧ w.2.2.2.2 = ao ∧ ao < z0
def jrm (k : Nat) : Room := { frames := jfr k, cells := jmc k, slots := jms k, locals := jlo k }
def jls (ls : Array Slot) (n : Nat) (l : jF) : Prop := ls.size = n ∧ lv_wf ls ∧ ∀ i v, jget l i = some v → ls[i]? = some (.val (jg v))
def jpr (l : jF) : List (Nat × Value) := (List.range l.length).filterMap (fun i => (jget l i).map (fun v => (i, jg v)))
theorem jpr_in {l : jF} {i : Nat} {v : jV} (h : jget l i = some v) : (i, jg v) ∈ jpr l :=
  List.mem_filterMap.mpr ⟨i, List.mem_range.mpr (jget_lt h), by rw [h]; rfl⟩
theorem jls_has {ls : Array Slot} {n : Nat} {l : jF} (h : jls ls n l) : lv_has ls n (jpr l) := by
  refine ⟨h.1, h.2.1, fun q hq => ?_⟩
  obtain ⟨i, -, hi⟩ := List.mem_filterMap.mp hq
  cases hv : jget l i with
  | none => rw [hv] at hi; cases hi
  | some v =>
    rw [hv] at hi
    cases hi
    exact h.2.2 i v hv
theorem jls_st1 {ls' : Array Slot} {n i : Nat} {l : jF} {v : jV} (hc : jcat v = 1) (h : lv_has ls' n ((i, jg v) :: (jpr l).filter (fun q => !(q.1 == i) && !(q.1 + 1 == i && q.2.category == 2)))) : jls ls' n (jset v i l) := by
  refine ⟨h.1, h.2.1, fun j u hu => ?_⟩
  rcases jget_jset v i l j u hu with ⟨rfl, rfl⟩ | ⟨h1, h2, h3, -⟩
  · exact h.2.2 (j, jg u) List.mem_cons_self
  · refine h.2.2 (j, jg u) (List.mem_cons_of_mem _ (List.mem_filter.mpr ⟨jpr_in h2, ?_⟩))
    have hcat : (jg u).category = jcat u := jcat_g u
    by_cases e : j + 1 = i
    · have h4 := h3 e
      have h5 : jcat u ≠ 2 := fun q => by rw [(jlong_cat u).mpr q] at h4; cases h4
      simp [h1, hcat, h5]
    · simp [h1, e]
theorem jls_st2 {ls' : Array Slot} {n i : Nat} {l : jF} {v : jV} (hc : jcat v = 2) (h : lv_has ls' n ((i, jg v) :: (jpr l).filter (fun q => !(q.1 == i) && (!(q.1 == i + 1) && !(q.1 + 1 == i && q.2.category == 2))))) : jls ls' n (jset v i l) := by
  refine ⟨h.1, h.2.1, fun j u hu => ?_⟩
  rcases jget_jset v i l j u hu with ⟨rfl, rfl⟩ | ⟨h1, h2, h3, h4⟩
  · exact h.2.2 (j, jg u) List.mem_cons_self
  · refine h.2.2 (j, jg u) (List.mem_cons_of_mem _ (List.mem_filter.mpr ⟨jpr_in h2, ?_⟩))
    have hcat : (jg u).category = jcat u := jcat_g u
    have h6 : j ≠ i + 1 := fun q => by have := h4 q; rw [(jlong_cat v).mpr hc] at this; cases this
    by_cases e : j + 1 = i
    · have h4 := h3 e
      have h5 : jcat u ≠ 2 := fun q => by rw [(jlong_cat u).mpr q] at h4; cases h4
      simp [h1, hcat, h5, h6]
    · simp [h1, e, h6]
theorem jws_at {cA : Nat → ClassId} {z0 : Nat} {w : jS} {a : Nat} (h1 : z0 ≤ a) (h2 : a < w.2.2.2.1) : (jws cA z0 w)[a - z0]? = some (a, jel cA w a) := by
  unfold jws
  rw [List.getElem?_map, List.getElem?_range' (by omega)]
  simp [show z0 + (a - z0) = a by omega]
theorem jws_get {cA : Nat → ClassId} {z0 : Nat} {w : jS} {i : Nat} {q : Nat × va_E} (h : (jws cA z0 w)[i]? = some q) : q = (z0 + i, jel cA w (z0 + i)) ∧ i < w.2.2.2.1 - z0 := by
  have hl : i < w.2.2.2.1 - z0 := by
    have := (List.getElem?_eq_some_iff.mp h).1
    simpa [jws] using this
  have h2 := jws_at (cA := cA) (z0 := z0) (w := w) (a := z0 + i) (by omega) (by omega)
  rw [show z0 + i - z0 = i by omega, h] at h2
  exact ⟨Option.some.inj h2, hl⟩
theorem jws_D {cA : Nat → ClassId} {z0 : Nat} {w : jS} : va_D (fun q => z0 ≤ q) (jws cA z0 w) := by
  refine ⟨fun i j p q hi hj e => ?_, fun k q h => ?_⟩
  · rw [(jws_get hi).1, (jws_get hj).1] at e
    dsimp only at e
    omega
  · rw [(jws_get h).1]
    dsimp only
    omega
theorem jws_set {cA : Nat → ClassId} {z0 : Nat} {w w' : jS} {a : Nat} {e' : va_E} (h1 : z0 ≤ a) (h2 : a < w.2.2.2.1) (hn : w'.2.2.2.1 = w.2.2.2.1) (ho : ∀ b, b ≠ a → jel cA w' b = jel cA w b) (he : jel cA w' a = e') : (jws cA z0 w).set (a - z0) (a, e') = jws cA z0 w' := by
  apply List.ext_getElem?
  intro i
  rw [List.getElem?_set]
  by_cases hi : a - z0 = i
  · subst hi
    have hl : a - z0 < (jws cA z0 w).length := by simp [jws]; omega
    rw [if_pos rfl, if_pos hl, jws_at (w := w') h1 (by omega), he]
  · rw [if_neg hi]
    by_cases hl : i < w.2.2.2.1 - z0
    · have e1 := jws_at (cA := cA) (z0 := z0) (w := w) (a := z0 + i) (by omega) (by omega)
      have e2 := jws_at (cA := cA) (z0 := z0) (w := w') (a := z0 + i) (by omega) (by omega)
      rw [show z0 + i - z0 = i by omega] at e1 e2
      rw [e1, e2, ho (z0 + i) (by omega)]
    · rw [List.getElem?_eq_none (by simp [jws]; omega), List.getElem?_eq_none (by simp [jws]; omega)]
theorem jel_i {cA : Nat → ClassId} {w : jS} {a : Nat} (h : (w.2.1 a).1 = 100) : jel cA w a = .inl (cA 0, (w.2.1 a).2, .inl (fun j => Int32.ofInt (w.1 a j))) := by simp [jel, h]
theorem jel_l {cA : Nat → ClassId} {w : jS} {a : Nat} (h : (w.2.1 a).1 = 101) : jel cA w a = .inl (cA 1, (w.2.1 a).2, .inr (.inl (fun j => Int64.ofInt (w.1 a j)))) := by simp [jel, h]
theorem jel_q {cA : Nat → ClassId} {w : jS} {a : Nat} (h : 102 ≤ (w.2.1 a).1) : jel cA w a = .inl (cA ((w.2.1 a).1 - 100), (w.2.1 a).2, .inr (.inr (.inr (.inr (fun j => w.2.2.1 a j))))) := by
  unfold jel
  rw [if_neg (by omega), if_neg (by omega), if_pos h]
theorem jel_o {cA : Nat → ClassId} {w : jS} {a ci : Nat} (h : (w.2.1 a).1 = ci + 1) (hc : ci < 10) : jel cA w a = .inr (ci, jfs ci w a) := by
  unfold jel
  rw [if_neg (by omega), if_neg (by omega), if_neg (by omega), h]
  rfl
theorem jel_congr {cA : Nat → ClassId} {w w' : jS} {a : Nat} (h1 : w'.2.1 a = w.2.1 a) (h2 : ∀ j, w'.1 a j = w.1 a j) (h3 : ∀ j, w'.2.2.1 a j = w.2.2.1 a j) : jel cA w' a = jel cA w a := by
  have e1 : w'.1 a = w.1 a := funext h2
  have e2 : w'.2.2.1 a = w.2.2.1 a := funext h3
  unfold jel jfs jfv
  rw [h1, e1, e2]
theorem jfs_at {ci k : Nat} {w : jS} {a : Nat} (h : k < jFN ci) : (jfs ci w a)[k]? = some (jg (jfv (jtyc (jFy ci k)) k w a)) := by
  unfold jfs
  rw [List.getElem?_map, List.getElem?_range h]
  rfl
theorem jcl_at {ci : Nat} (h : ci < 10) : vwCl[ci]? = some (jFR ci, jFT ci, jFN ci) := by
  match ci, h with
  | 0, _ => rfl
  | 1, _ => rfl
  | 2, _ => rfl
  | 3, _ => rfl
  | 4, _ => rfl
  | 5, _ => rfl
  | 6, _ => rfl
  | 7, _ => rfl
  | 8, _ => rfl
  | 9, _ => rfl
  | n + 10, h => omega
theorem jty_ok {ci : Nat} (h : ci < 10) : ∀ k, k < jFN ci → parseFieldDescriptor (jFT ci k).2.2.1 = some (jFy ci k) := by
  match ci, h with
  | 0, _ => exact tyX0_ok
  | 1, _ => exact tyX1_ok
  | 2, _ => exact tyX3_ok
  | 3, _ => exact tyX4_ok
  | 4, _ => exact tyX5_ok
  | 5, _ => exact tyX6_ok
  | 6, _ => exact tyX7_ok
  | 7, _ => exact tyX8_ok
  | 8, _ => exact tyX9_ok
  | 9, _ => exact tyX10_ok
  | n + 10, h => omega
theorem jnm_ok {ci : Nat} (h : ci < 10) : ∀ a, a < jFN ci → ∀ b, b < jFN ci → a ≠ b → (jFT ci a).2.1 ≠ (jFT ci b).2.1 := by
  match ci, h with
  | 0, _ => exact nmX0
  | 1, _ => exact nmX1
  | 2, _ => exact nmX3
  | 3, _ => exact nmX4
  | 4, _ => exact nmX5
  | 5, _ => exact nmX6
  | 6, _ => exact nmX7
  | 7, _ => exact nmX8
  | 8, _ => exact nmX9
  | 9, _ => exact nmX10
  | n + 10, h => omega
set_option maxRecDepth 100000 in
theorem jlay_dec : (List.range 10).all (fun ci => (u_ws (jFR ci) (jFT ci) (jFN ci)).all (fun w => decide (w ∈ lw_tbl) && goodWord w)) = true := by decide +kernel
theorem jlay_in {ci : Nat} (h : ci < 10) : ∀ w ∈ u_ws (jFR ci) (jFT ci) (jFN ci), w ∈ jWS := by
  intro w hw
  have h1 := List.all_eq_true.mp (List.all_eq_true.mp jlay_dec ci (List.mem_range.mpr h)) w hw
  simp only [Bool.and_eq_true, decide_eq_true_eq] at h1
  exact List.mem_filter.mpr h1
theorem jWS_good : GoodIn jWS jWS := fun w hw => ⟨hw, good_of_word (List.mem_filter.mp hw).2⟩
theorem jhas3_ok {L : List (Nat × Nat × Nat × Nat)} {a b c : Nat} (h : jhas3 L a b c = true) : ∃ i, (a, b, c, i) ∈ L := by
  obtain ⟨q, hq, h2⟩ := List.any_eq_true.mp h
  simp only [Bool.and_eq_true, Nat.beq_eq] at h2
  obtain ⟨⟨h3, h4⟩, h5⟩ := h2
  refine ⟨q.2.2.2, ?_⟩
  rw [← h3, ← h4, ← h5]
  exact hq
theorem jhas4_ok {L : List (Nat × Nat × Nat × Nat × Nat)} {a b c d : Nat} (h : jhas4 L a b c d = true) : ∃ i, (a, b, c, d, i) ∈ L := by
  obtain ⟨q, hq, h2⟩ := List.any_eq_true.mp h
  simp only [Bool.and_eq_true, Nat.beq_eq] at h2
  obtain ⟨⟨⟨h3, h4⟩, h5⟩, h6⟩ := h2
  refine ⟨q.2.2.2.2, ?_⟩
  rw [← h3, ← h4, ← h5, ← h6]
  exact hq
theorem jhasZ_ok {L : List (Nat × Nat × Int × Nat)} {a b : Nat} {z : Int} (h : jhasZ L a b z = true) : ∃ i, (a, b, z, i) ∈ L := by
  obtain ⟨q, hq, h2⟩ := List.any_eq_true.mp h
  simp only [Bool.and_eq_true, Nat.beq_eq, decide_eq_true_eq] at h2
  obtain ⟨⟨h3, h4⟩, h5⟩ := h2
  refine ⟨q.2.2.2, ?_⟩
  rw [← h3, ← h4, ← h5]
  exact hq
theorem jlk_ML {a b c : Nat} (h : jhas3 jML a b c = true) : Cond.methodLink (jCn a) b (jY c) ∈ jWS := by
  obtain ⟨i, hi⟩ := jhas3_ok h
  exact jwd_in (List.all_eq_true.mp jML_ok _ hi)
theorem jlk_MN {a b c : Nat} (h : jhas3 jMN a b c = true) : Cond.methodLinkNest (jCn a) b (jY c) RX9 ∈ lw_tbl.filter jisNest := by
  obtain ⟨i, hi⟩ := jhas3_ok h
  exact List.mem_filter.mpr ⟨List.mem_of_getElem? (of_decide_eq_true (List.all_eq_true.mp jMN_ok _ hi)), rfl⟩
theorem jlk_FL {a b c d : Nat} (h : jhas4 jFL a b c d = true) : Cond.fieldLink (jCn a) b (jFT c d).1 (jFT c d).2.1 (jFT c d).2.2.1 ∈ jWS ∧ d < jFN c := by
  obtain ⟨i, hi⟩ := jhas4_ok h
  have h1 := List.all_eq_true.mp jFL_ok _ hi
  simp only [Bool.and_eq_true, decide_eq_true_eq] at h1
  exact ⟨jwd_in h1.1, h1.2⟩
theorem jlk_FX {a b c d : Nat} (h : jhas4 jFX a b c d = true) : Cond.fieldLinkNest (jCn a) b (jFT c d).1 (jFT c d).2.1 (jFT c d).2.2.1 RX9 ∈ lw_tbl.filter jisNest ∧ d < jFN c := by
  obtain ⟨i, hi⟩ := jhas4_ok h
  have h1 := List.all_eq_true.mp jFX_ok _ hi
  simp only [Bool.and_eq_true, decide_eq_true_eq] at h1
  exact ⟨List.mem_filter.mpr ⟨List.mem_of_getElem? h1.1, rfl⟩, h1.2⟩
theorem jlk_BL {a b c : Nat} (h : jhas3 jBL a b c = true) : Cond.methodLink (jCn a) b (jBY c) ∈ jWS := by
  obtain ⟨i, hi⟩ := jhas3_ok h
  exact jwd_in (List.all_eq_true.mp jBL_ok _ hi)
theorem jlk_KI {a b : Nat} {z : Int} (h : jhasZ jKI a b z = true) : Cond.constant (jCn a) b (Int32.ofInt z) ∈ jWS := by
  obtain ⟨i, hi⟩ := jhasZ_ok h
  exact jwd_in (List.all_eq_true.mp jKI_ok _ hi)
theorem jlk_KJ {a b : Nat} {z : Int} (h : jhasZ jKJ a b z = true) : Cond.constantLong (jCn a) b (Int64.ofInt z) ∈ jWS := by
  obtain ⟨i, hi⟩ := jhasZ_ok h
  exact jwd_in (List.all_eq_true.mp jKJ_ok _ hi)
theorem jlk_CK {a b c : Nat} (h : jhas3 jCK a b c = true) : Cond.classLink (jCn a) b (jFR c) ∈ jWS := by
  obtain ⟨i, hi⟩ := jhas3_ok h
  exact jwd_in (List.all_eq_true.mp jCK_ok _ hi)
theorem jMW_at {k : Nat} (h : k < 221) : Cond.code (jY k) (jcode k) (jmaxL k) (jret k) ∈ jWS ∧ (jkd k = 1 → Cond.static (jY k) ∈ jWS) ∧ (jkd k ≠ 1 → Cond.instanceMethod (jY k) ∈ jWS) ∧ (jkd k = 0 → Cond.selects (jCn (jown k)) (jY k) (jY k) ∈ jWS) := by
  have h1 : k ∈ jMW.map (·.1) := by rw [jMW_len]; exact List.mem_range.mpr h
  obtain ⟨q, hq, rfl⟩ := List.mem_map.mp h1
  obtain ⟨a, b, c⟩ := jMW_ok q hq
  refine ⟨List.mem_filter.mpr ⟨List.mem_of_getElem? a, rfl⟩, fun e => ?_, fun e => ?_, fun e => List.mem_filter.mpr ⟨List.mem_of_getElem? (c e), rfl⟩⟩
  · rw [e] at b
    exact List.mem_filter.mpr ⟨List.mem_of_getElem? b, rfl⟩
  · rw [show Nat.beq (jkd q.1) 1 = false from by rw [Bool.eq_false_iff]; exact fun z => e (Nat.beq_eq.mp z)] at b
    exact List.mem_filter.mpr ⟨List.mem_of_getElem? b, rfl⟩
theorem jwf_at {k : Nat} {e : jE} (hk : k < 221) (h : e ∈ jtb k) : jwf k e = true := by
  have key : ∀ a b, (List.range' a b).all (fun k => (jtb k).all (jwf k)) = true → a ≤ k → k < a + b → jwf k e = true := fun a b h1 h2 h3 =>
    List.all_eq_true.mp (List.all_eq_true.mp h1 k (List.mem_range'_1.mpr ⟨h2, h3⟩)) e h
  rcases Nat.lt_or_ge k 20 with q | q
  · exact key 0 20 jwfS0 (by omega) (by omega)
  rcases Nat.lt_or_ge k 40 with q | q
  · exact key 20 20 jwfS1 (by omega) (by omega)
  rcases Nat.lt_or_ge k 60 with q | q
  · exact key 40 20 jwfS2 (by omega) (by omega)
  rcases Nat.lt_or_ge k 80 with q | q
  · exact key 60 20 jwfS3 (by omega) (by omega)
  rcases Nat.lt_or_ge k 100 with q | q
  · exact key 80 20 jwfS4 (by omega) (by omega)
  rcases Nat.lt_or_ge k 120 with q | q
  · exact key 100 20 jwfS5 (by omega) (by omega)
  rcases Nat.lt_or_ge k 140 with q | q
  · exact key 120 20 jwfS6 (by omega) (by omega)
  rcases Nat.lt_or_ge k 160 with q | q
  · exact key 140 20 jwfS7 (by omega) (by omega)
  rcases Nat.lt_or_ge k 180 with q | q
  · exact key 160 20 jwfS8 (by omega) (by omega)
  rcases Nat.lt_or_ge k 200 with q | q
  · exact key 180 20 jwfS9 (by omega) (by omega)
  rcases Nat.lt_or_ge k 220 with q | q
  · exact key 200 20 jwfS10 (by omega) (by omega)
  · exact key 220 1 jwfS11 (by omega) (by omega)
theorem jfind_ok : ∀ {T : List jE} {p : Nat} {e : jE}, jfind T p = some e → e ∈ T ∧ e.1 = p
  | [], _, _, h => by cases h
  | x :: r, p, e, h => by
    unfold jfind at h
    cases hb : Nat.beq x.1 p with
    | true =>
      rw [hb] at h
      cases h
      exact ⟨List.mem_cons_self, Nat.beq_eq.mp hb⟩
    | false =>
      rw [hb] at h
      obtain ⟨h1, h2⟩ := jfind_ok h
      exact ⟨List.mem_cons_of_mem _ h1, h2⟩
theorem jnok_at {k : Nat} (h : k < 221) : plainName (jY k).cls = true ∧ (jY k).cls = jCn (jown k) ∧ (jY k).cls ≠ "java/lang/invoke/MethodHandle" ∧ (jY k).cls ≠ "java/lang/invoke/VarHandle" ∧ (parseMethodDescriptor (jY k).desc).map (fun d => d.parameters.length) = some (jna k) ∧ (jkd k = 2 → (jY k).name = "<init>") := by
  have h1 := List.all_eq_true.mp jnok_all k (List.mem_range.mpr h)
  simp only [jnok, Bool.and_eq_true, decide_eq_true_eq, Bool.or_eq_true, Bool.not_eq_true'] at h1
  obtain ⟨⟨⟨⟨⟨a, b⟩, c⟩, d⟩, e⟩, f⟩ := h1
  refine ⟨a, b, c, d, e, fun q => ?_⟩
  rcases f with f | f
  · rw [q] at f
    cases f
  · exact f
end
section
def jCtx (k : Nat) (p : Program) (R : Room) (s : State) (m : MethodId) (args : Array Value) (meth : Method) (c : Code) (D : va_G) (cA : Nat → ClassId) (z0 ao : Nat) : Prop :=
  p.tables.exec = Jvm.exec ∧ c.code = jcode k ∧ c.maxLocals = jmaxL k ∧ meth.sig.returnType = jret k ∧ meth.locks = false ∧ s.vm.findClass (jCn (jown k)) = some m.cls ∧ (jkd k = 2 → meth.name = "<init>") ∧ (∀ w ∈ jWS, w.before args s = true) ∧ R = jrm k ∧ jK D cA z0 ao s ∧ z0 ≤ s.heap.size
theorem jGood_in {D : va_G} {cA : Nat → ClassId} {z0 ao : Nat} {w : jS} {H : Heap} (h : jGood D cA z0 ao w H) {a : Nat} (h1 : (w.2.1 a).1 ≠ 0) (h2 : (w.2.1 a).1 ≠ 99) : z0 ≤ a ∧ a < w.2.2.2.1 := by
  obtain ⟨-, -, -, hv, ho, -⟩ := h
  rcases hv a h1 with rfl | q
  · rw [ho] at h2
    exact absurd rfl h2
  · exact q
theorem jGood_at {D : va_G} {cA : Nat → ClassId} {z0 ao : Nat} {w : jS} {H : Heap} (h : jGood D cA z0 ao w H) {a : Nat} (h1 : (w.2.1 a).1 ≠ 0) (h2 : (w.2.1 a).1 ≠ 99) : (jws cA z0 w)[a - z0]? = some (a, jel cA w a) :=
  jws_at (jGood_in h h1 h2).1 (jGood_in h h1 h2).2
/-- the world after a write of numbers -/
theorem jGood_up {D : va_G} {cA : Nat → ClassId} {z0 ao : Nat} {w : jS} {H H1 : Heap} (h : jGood D cA z0 ao w H) {a k : Nat} {x : Int} {e' : va_E} (h1 : (w.2.1 a).1 ≠ 0) (h2 : (w.2.1 a).1 ≠ 99) (he : jel cA (jup w.1 a k x, w.2) a = e') (hs : H1.size = H.size) (hP : va_P D vwCl ((jws cA z0 w).set (a - z0) (a, e')) H1) : jGood D cA z0 ao (jup w.1 a k x, w.2) H1 := by
  have hi := jGood_in h h1 h2
  rw [jws_set (w' := (jup w.1 a k x, w.2)) hi.1 hi.2 rfl (fun b hb => jel_congr rfl (fun j => by simp [jup, hb]) (fun j => rfl)) he] at hP
  obtain ⟨g1, g2, g3, g4, g5, g6, g7, g8⟩ := h
  refine ⟨hs.trans g1, g2, hP, g4, g5, fun j => ?_, g7, g8⟩
  show jup w.1 a k x ao j = _
  have : ao ≠ a := by omega
  simp [jup, this, g6]
theorem jGood_upr {D : va_G} {cA : Nat → ClassId} {z0 ao : Nat} {w : jS} {H H1 : Heap} (h : jGood D cA z0 ao w H) {a k : Nat} {x : Option Nat} {e' : va_E} (h1 : (w.2.1 a).1 ≠ 0) (h2 : (w.2.1 a).1 ≠ 99) (he : jel cA (w.1, w.2.1, jupr w.2.2.1 a k x, w.2.2.2) a = e') (hs : H1.size = H.size) (hP : va_P D vwCl ((jws cA z0 w).set (a - z0) (a, e')) H1) : jGood D cA z0 ao (w.1, w.2.1, jupr w.2.2.1 a k x, w.2.2.2) H1 := by
  have hi := jGood_in h h1 h2
  rw [jws_set (w' := (w.1, w.2.1, jupr w.2.2.1 a k x, w.2.2.2)) hi.1 hi.2 rfl (fun b hb => jel_congr rfl (fun j => rfl) (fun j => by simp [jupr, hb])) he] at hP
  obtain ⟨g1, g2, g3, g4, g5, g6, g7, g8⟩ := h
  exact ⟨hs.trans g1, g2, hP, g4, g5, g6, g7, g8⟩
theorem jrf_some {q : Option Nat} (h : q.isSome = true) : q = some (jdr q) := by
  cases q with
  | none => cases h
  | some a => rfl
theorem jsum (r : List jV) : ((r.map jg).map fun v => v.category).sum = jcats r := by
  unfold jcats
  rw [List.map_map]
  congr 1
  apply List.map_congr_left
  intro v _
  exact jcat_g v
theorem jfs_len (ci : Nat) (w : jS) (a : Nat) : (jfs ci w a).length = jFN ci := by simp [jfs]
theorem jfs_set {ci k : Nat} {w : jS} {a : Nat} {x : Int} (hk : k < jFN ci) (hx : jtyc (jFy ci k) ≠ 2) : jfs ci (jup w.1 a k x, w.2) a = (jfs ci w a).set k (jg (match jtyc (jFy ci k) with | 1 => .inr (.inl x) | _ => .inl x)) := by
  apply List.ext_getElem?
  intro i
  rw [List.getElem?_set]
  by_cases hi : k = i
  · subst hi
    rw [if_pos rfl, if_pos (by rw [jfs_len]; exact hk), jfs_at hk]
    unfold jfv
    rcases ht : jtyc (jFy ci k) with _ | _ | _ | _ <;> simp_all [jup]
  · rw [if_neg hi]
    by_cases hl : i < jFN ci
    · rw [jfs_at hl, jfs_at hl]
      have hi2 : ¬ i = k := fun q => hi q.symm
      unfold jfv
      rcases ht : jtyc (jFy ci i) with _ | _ | _ | _ <;> simp [jup, hi2]
    · rw [List.getElem?_eq_none (by rw [jfs_len]; omega), List.getElem?_eq_none (by rw [jfs_len]; omega)]
theorem jfs_setr {ci k : Nat} {w : jS} {a : Nat} {v : Option Nat} (hk : k < jFN ci) (hx : jtyc (jFy ci k) = 2) : jfs ci (w.1, w.2.1, jupr w.2.2.1 a k v, w.2.2.2) a = (jfs ci w a).set k (va_rf v) := by
  apply List.ext_getElem?
  intro i
  rw [List.getElem?_set]
  by_cases hi : k = i
  · subst hi
    rw [if_pos rfl, if_pos (by rw [jfs_len]; exact hk), jfs_at hk]
    unfold jfv
    rw [hx]
    simp [jupr, jg]
  · rw [if_neg hi]
    by_cases hl : i < jFN ci
    · rw [jfs_at hl, jfs_at hl]
      have hi2 : ¬ i = k := fun q => hi q.symm
      unfold jfv
      rcases ht : jtyc (jFy ci i) with _ | _ | _ | _ <;> simp [jupr, hi2]
    · rw [List.getElem?_eq_none (by rw [jfs_len]; omega), List.getElem?_eq_none (by rw [jfs_len]; omega)]
theorem jtyc_0 {t : FieldType} (h : jtyc t = 0) : t = .int := by cases t <;> simp [jtyc] at h <;> rfl
theorem jtyc_1 {t : FieldType} (h : jtyc t = 1) : t = .long := by cases t <;> simp [jtyc] at h <;> rfl
theorem jtyc_3 {t : FieldType} (h : jtyc t = 3) : t = .boolean := by cases t <;> simp [jtyc] at h <;> rfl
section JST
variable {p : Program} {l : Launch} {ev : Env} {R : Room} {s : State} {m : MethodId} {args : Array Value} {below : List Frame} {meth : Method} {c : Code} {H : Heap} {locs : List Loc} {cells slots : Nat} {Q : State → Prop}
variable {k : Nat} {D : va_G} {cA : Nat → ClassId} {z0 ao : Nat} {ls : Array Slot} {lc : jF} {st : List jV} {w : jS} {pc len r1 r2 r3 : Nat} {z : Int} {x y : Int} {q : Option Nat}
theorem jA (hC : jCtx k p R s m args meth c D cA z0 ao) : ∀ q, s.heap.size ≤ q → (fun q : Nat => z0 ≤ q) q := fun q h => Nat.le_trans hC.2.2.2.2.2.2.2.2.2.2 h
theorem j_getf {i : Nat} (hC : jCtx k p R s m args meth c D cA z0 ao) (hG : jGood D cA z0 ao w H) (hwf : jwf k (pc, .getfield i, len, r1, r2, r3, z) = true) (hq : q.isSome = true) (hk : (w.2.1 (jdr q)).1 = r1 + 1)
    (kk : W p l ev R s m args below meth c H locs cells slots Q (F0 m (pc + len) ls (jg (jfv r3 r2 w (jdr q)) :: st.map jg))) : W p l ev R s m args below meth c H locs cells slots Q (F0 m pc ls (va_rf q :: st.map jg)) := by
  obtain ⟨hx, hb, -, -, -, hown, -, hts, -, hK, -⟩ := hC
  simp only [jwf, jlen, Bool.and_eq_true, decide_eq_true_eq, Nat.beq_eq, Nat.blt_eq, Bool.or_eq_true] at hwf
  obtain ⟨⟨hd, rfl⟩, ⟨hlk, hci⟩, hty⟩ := hwf
  rw [jrf_some hq]
  have hat := jGood_at hG (a := jdr q) (by omega) (by omega)
  rw [jel_o hk hci] at hat
  have hr2 : r2 < jFN r1 := by
    rcases hlk with h | h
    · exact (jlk_FL h).2
    · exact (jlk_FX h).2
  have hv := jfs_at (w := w) (a := jdr q) hr2
  rw [hty] at hv
  rcases hlk with h | h
  · exact va_get hx hb hts (jlay_in hci) hown hK.1 hG.2.2.1 _ hat (jcl_at hci) r2 hr2 (hts _ (jlk_FL h).1) (fun _ h9 => h9) hv hd kk
  · exact va_getN hx hb hts (jlay_in hci) hown hK.1 hG.2.2.1 _ hat (jcl_at hci) r2 hr2 (va_Nw.use rfl (hK.2.2.2.1 _ (jlk_FX h).1)) (fun _ h9 => h9) hv hd kk
theorem W.sz {g : JFrame} (h : H.size ≤ s.heap.size + cells → W p l ev R s m args below meth c H locs cells slots Q g) : W p l ev R s m args below meth c H locs cells slots Q g := by
  intro T hT X
  refine h ?_ T hT X
  have := X.same.2.2.1
  rw [← hT]
  exact this
theorem jP_lo {D : va_G} {cA : Nat → ClassId} {z0 : Nat} {w : jS} {H1 : Heap} {a : Nat} {e' : va_E} (hP : va_P D vwCl ((jws cA z0 w).set (a - z0) (a, e')) H1) (h1 : z0 ≤ a) (h2 : a < w.2.2.2.1) : w.2.2.2.1 ≤ H1.size := by
  have hat : ((jws cA z0 w).set (a - z0) (a, e'))[w.2.2.2.1 - 1 - z0]? = some (if a = w.2.2.2.1 - 1 then (a, e') else (w.2.2.2.1 - 1, jel cA w (w.2.2.2.1 - 1))) := by
    rw [List.getElem?_set]
    by_cases e : a = w.2.2.2.1 - 1
    · rw [if_pos (by omega), if_pos (by simp [jws]; omega), if_pos e]
    · rw [if_neg (by omega), jws_at (by omega) (by omega), if_neg e]
  have := (hP _ _ hat).lt
  split at this <;> (dsimp only at this; omega)
/-- a write into a field, whatever it is -/
theorem j_putf {i : Nat} {v : Value} {w' : jS} (hC : jCtx k p R s m args meth c D cA z0 ao) (hG : jGood D cA z0 ao w H) (hS : va_S (fun q => z0 ≤ q) s.heap H locs) (hz : H.size = s.heap.size + cells) (hwf : jwf k (pc, .putfield i, len, r1, r2, r3, z) = true) (hq : q.isSome = true) (hk : (w.2.1 (jdr q)).1 = r1 + 1)
    (hn : narrow (jFy r1 r2) v = v) (hf : fits (jFy r1 r2) v = true) (hw : ∀ H1 : Heap, r2 < jFN r1 → H1.size = H.size → va_P D vwCl ((jws cA z0 w).set (jdr q - z0) (jdr q, .inr (r1, (jfs r1 w (jdr q)).set r2 v))) H1 → jGood D cA z0 ao w' H1)
    (kk : ∀ (H1 : Heap) (locs1 : List Loc), jGood D cA z0 ao w' H1 → va_S (fun q => z0 ≤ q) s.heap H1 locs1 → H1.size = H.size → W p l ev R s m args below meth c H1 locs1 cells slots Q (F0 m (pc + len) ls (st.map jg))) : W p l ev R s m args below meth c H locs cells slots Q (F0 m pc ls (v :: va_rf q :: st.map jg)) := by
  obtain ⟨hx, hb, -, -, -, hown, hini, hts, -, hK, -⟩ := hC
  simp only [jwf, jlen, Bool.and_eq_true, decide_eq_true_eq, Nat.beq_eq, Nat.blt_eq, Bool.or_eq_true, Bool.not_eq_true'] at hwf
  obtain ⟨⟨hd, rfl⟩, ⟨⟨hlk, hci⟩, hty⟩, hfin⟩ := hwf
  rw [jrf_some hq]
  have hat := jGood_at hG (a := jdr q) (by omega) (by omega)
  rw [jel_o hk hci] at hat
  obtain ⟨hl, hr2⟩ := jlk_FL hlk
  have hln : r2 < (jfs r1 w (jdr q)).length := by rw [jfs_len]; exact hr2
  have hin := jGood_in hG (a := jdr q) (by omega) (by omega)
  have fin : ∀ (H1 : Heap) (locs1 : List Loc), va_P D vwCl ((jws cA z0 w).set (jdr q - z0) (jdr q, .inr (r1, (jfs r1 w (jdr q)).set r2 v))) H1 → va_S (fun q => z0 ≤ q) s.heap H1 locs1 → W p l ev R s m args below meth c H1 locs1 cells slots Q (F0 m (pc + 3) ls (st.map jg)) := by
    intro H1 locs1 hP hS1
    refine W.sz (fun hle => ?_)
    have hlo := jP_lo hP hin.1 hin.2
    have hsz : H1.size = H.size := by have := hG.1; omega
    exact kk H1 locs1 (hw H1 hr2 hsz hP) hS1 hsz
  cases hfi : (jFT r1 r2).2.2.2 with
  | false => exact va_put (A := fun q => z0 ≤ q) hx hb hts (jlay_in hci) (jFy r1) (jty_ok hci) (jnm_ok hci) hown hK.1 hG.2.2.1 jws_D hS _ hat (jcl_at hci) r2 hr2 (hts _ hl) (fun _ h9 => h9) hfi (jty_ok hci r2 hr2) hn hf hln hd (fun H1 locs1 hP hD hS1 => fin H1 locs1 hP hS1)
  | true =>
    rw [hfi] at hfin
    obtain ⟨h2, h3⟩ : jkd k = 2 ∧ (jFT r1 r2).1 = jCn (jown k) := by
      rcases hfin with h | h
      · cases h
      · exact h
    exact va_putF (A := fun q => z0 ≤ q) hx hb hts (jlay_in hci) (jFy r1) (jty_ok hci) (jnm_ok hci) hown hK.1 hG.2.2.1 jws_D hS _ hat (jcl_at hci) r2 hr2 (hts _ hl) (fun _ h9 => h9) hfi (hini h2) h3 (jty_ok hci r2 hr2) hn hf hln hd (fun H1 locs1 hP hD hS1 => fin H1 locs1 hP hS1)
end JST
end
section
section JSU
variable {p : Program} {l : Launch} {ev : Env} {R : Room} {s : State} {m : MethodId} {args : Array Value} {below : List Frame} {meth : Method} {c : Code} {H : Heap} {locs : List Loc} {cells slots : Nat} {Q : State → Prop}
variable {k : Nat} {D : va_G} {cA : Nat → ClassId} {z0 ao : Nat} {ls : Array Slot} {lc : jF} {st : List jV} {w : jS} {pc len r1 r2 r3 : Nat} {z : Int} {x i : Int} {q v : Option Nat}
theorem j_iald (hC : jCtx k p R s m args meth c D cA z0 ao) (hG : jGood D cA z0 ao w H) (hS : va_S (fun q => z0 ≤ q) s.heap H locs) (hd : decode (jcode k) pc = .ok (.iaload, 1)) (hq : q.isSome = true) (hk : jird (w.2.1 (jdr q))) (h1 : 0 ≤ b32 i) (h2 : b32 i < ((w.2.1 (jdr q)).2 : Int))
    (kk : W p l ev R s m args below meth c H locs cells slots Q (F0 m (pc + 1) ls (.int (Int32.ofInt (w.1 (jdr q) (b32 i).toNat)) :: st.map jg))) : W p l ev R s m args below meth c H locs cells slots Q (F0 m pc ls (.int (Int32.ofInt i) :: va_rf q :: st.map jg)) := by
  obtain ⟨hx, hb, -, -, -, hown, -, hts, -, hK, -⟩ := hC
  rw [jrf_some hq]
  by_cases h99 : (w.2.1 (jdr q)).1 = 99
  · have ha : jdr q = ao := by
      rcases hG.2.2.2.1 (jdr q) (by omega) with e | ⟨e1, e2⟩
      · exact e
      · exfalso
        have hat := jws_at (cA := cA) (w := w) e1 e2
        unfold jel at hat
        rw [if_neg (by omega), if_neg (by omega), if_neg (by omega), h99] at hat
        obtain ⟨r, hr, -⟩ := hG.2.2.1 _ _ hat
        cases hr
    rw [ha] at h2 kk ⊢
    rw [hG.2.2.2.2.1] at h2
    rw [hG.2.2.2.2.2.1] at kk
    exact va_ti hx hb hK.2.2.1 hS (j32_in h1 h2) (by rw [j32_cl]) hd kk
  · have hk : (w.2.1 (jdr q)).1 = 100 := hk.resolve_right h99
    have hat := jGood_at hG (a := jdr q) (by omega) (by omega)
    rw [jel_i hk] at hat
    refine va_iald hx hb hK.1 hG.2.2.1 _ 0 hat rfl (j32_in h1 h2) hd ?_
    rw [j32_cl]
    exact kk
theorem j_lald (hC : jCtx k p R s m args meth c D cA z0 ao) (hG : jGood D cA z0 ao w H) (hd : decode (jcode k) pc = .ok (.laload, 1)) (hq : q.isSome = true) (hk : (w.2.1 (jdr q)).1 = 101) (h1 : 0 ≤ b32 i) (h2 : b32 i < ((w.2.1 (jdr q)).2 : Int))
    (kk : W p l ev R s m args below meth c H locs cells slots Q (F0 m (pc + 1) ls (.long (Int64.ofInt (w.1 (jdr q) (b32 i).toNat)) :: st.map jg))) : W p l ev R s m args below meth c H locs cells slots Q (F0 m pc ls (.int (Int32.ofInt i) :: va_rf q :: st.map jg)) := by
  obtain ⟨hx, hb, -, -, -, hown, -, hts, -, hK, -⟩ := hC
  rw [jrf_some hq]
  have hat := jGood_at hG (a := jdr q) (by omega) (by omega)
  rw [jel_l hk] at hat
  refine va_lald hx hb hK.1 hG.2.2.1 _ 1 hat rfl (j32_in h1 h2) hd ?_
  rw [j32_cl]
  exact kk
theorem j_aald (hC : jCtx k p R s m args meth c D cA z0 ao) (hG : jGood D cA z0 ao w H) (hd : decode (jcode k) pc = .ok (.aaload, 1)) (hq : q.isSome = true) (hk : 102 ≤ (w.2.1 (jdr q)).1 ∧ (w.2.1 (jdr q)).1 ≤ 105) (h1 : 0 ≤ b32 i) (h2 : b32 i < ((w.2.1 (jdr q)).2 : Int))
    (kk : W p l ev R s m args below meth c H locs cells slots Q (F0 m (pc + 1) ls (va_rf (w.2.2.1 (jdr q) (b32 i).toNat) :: st.map jg))) : W p l ev R s m args below meth c H locs cells slots Q (F0 m pc ls (.int (Int32.ofInt i) :: va_rf q :: st.map jg)) := by
  obtain ⟨hx, hb, -, -, -, hown, -, hts, -, hK, -⟩ := hC
  rw [jrf_some hq]
  have hat := jGood_at hG (a := jdr q) (by omega) (by omega)
  rw [jel_q hk.1] at hat
  have hin := j32_in h1 h2
  have hlt : (Int32.ofInt i).toNatClampNeg < (w.2.1 (jdr q)).2 := Nat.not_le.mp fun z => hin (Or.inr z)
  have hT : ∃ ty : FieldType, (jtys cA)[(w.2.1 (jdr q)).1 - 100]? = some (cA ((w.2.1 (jdr q)).1 - 100), ty) ∧ ty.isReference = true := by
    rcases (show (w.2.1 (jdr q)).1 = 102 ∨ (w.2.1 (jdr q)).1 = 103 ∨ (w.2.1 (jdr q)).1 = 104 ∨ (w.2.1 (jdr q)).1 = 105 by omega) with e | e | e | e <;> rw [e] <;> exact ⟨_, rfl, rfl⟩
  obtain ⟨ty, ht, hr⟩ := hT
  rw [← j32_cl] at kk
  exact W.aald (v := va_rf (w.2.2.1 (jdr q) (Int32.ofInt i).toNatClampNeg)) (ty := ty) hx hb (hG.2.2.1 _ _ hat) ((hK.1.2 _ _ ht).1 (w.2.1 (jdr q)).2 (fun j => va_rf (w.2.2.1 (jdr q) j))) hr (fun z => by cases z) (by show ¬ (Int32.ofInt i < 0 ∨ (arrV _ _ _).slots.size ≤ _); rw [arrV_size]; exact hin) (by show (arrV _ _ _).slots[_]? = _; rw [arrV_read _ _ hlt]) rfl rfl hd kk
theorem j_iast (hC : jCtx k p R s m args meth c D cA z0 ao) (hG : jGood D cA z0 ao w H) (hS : va_S (fun q => z0 ≤ q) s.heap H locs) (hz : H.size = s.heap.size + cells) (hd : decode (jcode k) pc = .ok (.iastore, 1)) (hq : q.isSome = true) (hk : (w.2.1 (jdr q)).1 = 100) (h1 : 0 ≤ b32 i) (h2 : b32 i < ((w.2.1 (jdr q)).2 : Int))
    (kk : ∀ (H1 : Heap) (locs1 : List Loc), jGood D cA z0 ao (jup w.1 (jdr q) (b32 i).toNat x, w.2) H1 → va_S (fun q => z0 ≤ q) s.heap H1 locs1 → H1.size = H.size → W p l ev R s m args below meth c H1 locs1 cells slots Q (F0 m (pc + 1) ls (st.map jg))) : W p l ev R s m args below meth c H locs cells slots Q (F0 m pc ls (.int (Int32.ofInt x) :: .int (Int32.ofInt i) :: va_rf q :: st.map jg)) := by
  obtain ⟨hx, hb, -, -, -, hown, -, hts, -, hK, -⟩ := hC
  rw [jrf_some hq]
  have hat := jGood_at hG (a := jdr q) (by omega) (by omega)
  rw [jel_i hk] at hat
  have hin := jGood_in hG (a := jdr q) (by omega) (by omega)
  refine va_iast (A := fun q => z0 ≤ q) hx hb hK.1 hG.2.2.1 jws_D hS _ 0 hat rfl (j32_in h1 h2) hd (fun H1 locs1 hP hD hS1 => ?_)
  refine W.sz (fun hle => ?_)
  have hlo := jP_lo hP hin.1 hin.2
  have hsz : H1.size = H.size := by have := hG.1; omega
  refine kk H1 locs1 (jGood_up hG (by omega) (by omega) ?_ hsz hP) hS1 hsz
  rw [jel_i (by exact hk), j32_cl]
  congr 4
  funext j
  by_cases e : j = (b32 i).toNat
  · subst e
    simp [jup, upd]
  · simp [jup, upd, e]
theorem j_last (hC : jCtx k p R s m args meth c D cA z0 ao) (hG : jGood D cA z0 ao w H) (hS : va_S (fun q => z0 ≤ q) s.heap H locs) (hz : H.size = s.heap.size + cells) (hd : decode (jcode k) pc = .ok (.lastore, 1)) (hq : q.isSome = true) (hk : (w.2.1 (jdr q)).1 = 101) (h1 : 0 ≤ b32 i) (h2 : b32 i < ((w.2.1 (jdr q)).2 : Int))
    (kk : ∀ (H1 : Heap) (locs1 : List Loc), jGood D cA z0 ao (jup w.1 (jdr q) (b32 i).toNat x, w.2) H1 → va_S (fun q => z0 ≤ q) s.heap H1 locs1 → H1.size = H.size → W p l ev R s m args below meth c H1 locs1 cells slots Q (F0 m (pc + 1) ls (st.map jg))) : W p l ev R s m args below meth c H locs cells slots Q (F0 m pc ls (.long (Int64.ofInt x) :: .int (Int32.ofInt i) :: va_rf q :: st.map jg)) := by
  obtain ⟨hx, hb, -, -, -, hown, -, hts, -, hK, -⟩ := hC
  rw [jrf_some hq]
  have hat := jGood_at hG (a := jdr q) (by omega) (by omega)
  rw [jel_l hk] at hat
  have hin := jGood_in hG (a := jdr q) (by omega) (by omega)
  refine va_last (A := fun q => z0 ≤ q) hx hb hK.1 hG.2.2.1 jws_D hS _ 1 hat rfl (j32_in h1 h2) hd (fun H1 locs1 hP hD hS1 => ?_)
  refine W.sz (fun hle => ?_)
  have hlo := jP_lo hP hin.1 hin.2
  have hsz : H1.size = H.size := by have := hG.1; omega
  refine kk H1 locs1 (jGood_up hG (by omega) (by omega) ?_ hsz hP) hS1 hsz
  rw [jel_l (by exact hk), j32_cl]
  congr 5
  funext j
  by_cases e : j = (b32 i).toNat
  · subst e
    simp [jup, vp_updL]
  · simp [jup, vp_updL, e]
theorem j_aast (hC : jCtx k p R s m args meth c D cA z0 ao) (hG : jGood D cA z0 ao w H) (hS : va_S (fun q => z0 ≤ q) s.heap H locs) (hz : H.size = s.heap.size + cells) (hd : decode (jcode k) pc = .ok (.aastore, 1)) (hq : q.isSome = true) (hv : v.isSome = true) (hk : 102 ≤ (w.2.1 (jdr q)).1 ∧ (w.2.1 (jdr q)).1 ≤ 104 ∧ (w.2.1 (jdr v)).1 = jrk (w.2.1 (jdr q)).1) (h1 : 0 ≤ b32 i) (h2 : b32 i < ((w.2.1 (jdr q)).2 : Int))
    (kk : ∀ (H1 : Heap) (locs1 : List Loc), jGood D cA z0 ao (w.1, w.2.1, jupr w.2.2.1 (jdr q) (b32 i).toNat v, w.2.2.2) H1 → va_S (fun q => z0 ≤ q) s.heap H1 locs1 → H1.size = H.size → W p l ev R s m args below meth c H1 locs1 cells slots Q (F0 m (pc + 1) ls (st.map jg))) : W p l ev R s m args below meth c H locs cells slots Q (F0 m pc ls (va_rf v :: .int (Int32.ofInt i) :: va_rf q :: st.map jg)) := by
  obtain ⟨hx, hb, -, -, -, hown, -, hts, -, hK, -⟩ := hC
  have hqe := jrf_some hq
  have hve := jrf_some hv
  have hat := jGood_at hG (a := jdr q) (by omega) (by omega)
  have hin := jGood_in hG (a := jdr q) (by omega) (by omega)
  have hT : ∃ (ci : Nat), ci < 10 ∧ (w.2.1 (jdr v)).1 = ci + 1 ∧ (jtys cA)[(w.2.1 (jdr q)).1 - 100]? = some (cA ((w.2.1 (jdr q)).1 - 100), .object (jFR ci)) := by
    rcases (show (w.2.1 (jdr q)).1 = 102 ∨ (w.2.1 (jdr q)).1 = 103 ∨ (w.2.1 (jdr q)).1 = 104 by omega) with e | e | e
    · exact ⟨3, by omega, by rw [hk.2.2, e]; rfl, by rw [e]; rfl⟩
    · exact ⟨5, by omega, by rw [hk.2.2, e]; rfl, by rw [e]; rfl⟩
    · exact ⟨6, by omega, by rw [hk.2.2, e]; rfl, by rw [e]; rfl⟩
  obtain ⟨ci, hc, hkv, ht⟩ := hT
  have hatv := jGood_at hG (a := jdr v) (by omega) (by omega)
  rw [jel_o hkv hc] at hatv
  rw [jel_q hk.1] at hat
  rw [hve, hqe]
  refine va_astq (A := fun q => z0 ≤ q) (r := (jFR ci, jFT ci, jFN ci)) hx hb hK.1 hG.2.2.1 jws_D hS _ _ _ ci hat ht hatv (jcl_at hc) (j32_in h1 h2) hd (fun H1 locs1 hP hD hS1 => ?_)
  refine W.sz (fun hle => ?_)
  have hlo := jP_lo hP hin.1 hin.2
  have hsz : H1.size = H.size := by have := hG.1; omega
  refine kk H1 locs1 (jGood_upr hG (by omega) (by omega) ?_ hsz hP) hS1 hsz
  rw [jel_q (by exact hk.1), j32_cl]
  congr 8
  funext j
  by_cases e : j = (b32 i).toNat
  · subst e
    simp [jupr, va_up]
    exact hve
  · simp [jupr, va_up, e]
theorem jWS_bui : Cond.instanceMethod objectInit ∈ jWS ∧ Cond.code objectInit ⟨#[0xb1]⟩ 1 none ∈ jWS ∧ Cond.static Lib.Math.abs.name ∈ jWS ∧ Cond.code Lib.Math.abs.name Lib.Math.abs.code 1 (some .int) ∈ jWS ∧ Cond.static Lib.MathLoose.abs_long.x ∈ jWS ∧ Cond.code Lib.MathLoose.abs_long.x Lib.MathLoose.abs_long.code 2 (some .long) ∈ jWS ∧
    Cond.static Lib.Math.max.name ∈ jWS ∧ Cond.code Lib.Math.max.name Lib.Math.max.code 2 (some .int) ∈ jWS ∧ Cond.initialized "java/lang/Math" ∈ jWS ∧ Cond.native arraycopyName ∈ jWS ∧ Cond.static arraycopyName ∈ jWS ∧ Cond.initialized "java/lang/System" ∈ jWS := by
  have h : ([Cond.instanceMethod objectInit, Cond.code objectInit ⟨#[0xb1]⟩ 1 none, Cond.static Lib.Math.abs.name, Cond.code Lib.Math.abs.name Lib.Math.abs.code 1 (some .int), Cond.static Lib.MathLoose.abs_long.x, Cond.code Lib.MathLoose.abs_long.x Lib.MathLoose.abs_long.code 2 (some .long), Cond.static Lib.Math.max.name, Cond.code Lib.Math.max.name Lib.Math.max.code 2 (some .int), Cond.initialized "java/lang/Math", Cond.native arraycopyName, Cond.static arraycopyName, Cond.initialized "java/lang/System"] : List Jvm.Cond).all (fun w => decide (w ∈ lw_tbl) && goodWord w) = true := by decide +kernel
  have key : ∀ w ∈ ([Cond.instanceMethod objectInit, Cond.code objectInit ⟨#[0xb1]⟩ 1 none, Cond.static Lib.Math.abs.name, Cond.code Lib.Math.abs.name Lib.Math.abs.code 1 (some .int), Cond.static Lib.MathLoose.abs_long.x, Cond.code Lib.MathLoose.abs_long.x Lib.MathLoose.abs_long.code 2 (some .long), Cond.static Lib.Math.max.name, Cond.code Lib.Math.max.name Lib.Math.max.code 2 (some .int), Cond.initialized "java/lang/Math", Cond.native arraycopyName, Cond.static arraycopyName, Cond.initialized "java/lang/System"] : List Jvm.Cond), w ∈ jWS := fun w hw => by
    have h1 := List.all_eq_true.mp h w hw
    simp only [Bool.and_eq_true, decide_eq_true_eq] at h1
    exact List.mem_filter.mpr h1
  exact ⟨key _ (List.mem_of_getElem? (i := 0) rfl), key _ (List.mem_of_getElem? (i := 1) rfl), key _ (List.mem_of_getElem? (i := 2) rfl), key _ (List.mem_of_getElem? (i := 3) rfl), key _ (List.mem_of_getElem? (i := 4) rfl), key _ (List.mem_of_getElem? (i := 5) rfl), key _ (List.mem_of_getElem? (i := 6) rfl), key _ (List.mem_of_getElem? (i := 7) rfl), key _ (List.mem_of_getElem? (i := 8) rfl), key _ (List.mem_of_getElem? (i := 9) rfl), key _ (List.mem_of_getElem? (i := 10) rfl), key _ (List.mem_of_getElem? (i := 11) rfl)⟩
end JSU
end
section
section JSV
variable {p : Program} {l : Launch} {ev : Env} {R : Room} {s : State} {m : MethodId} {args : Array Value} {below : List Frame} {meth : Method} {c : Code} {H : Heap} {locs : List Loc} {cells slots : Nat} {Q : State → Prop}
variable {k : Nat} {D : va_G} {cA : Nat → ClassId} {z0 ao : Nat} {ls : Array Slot} {lc : jF} {st : List jV} {w : jS} {pc len r1 r2 r3 : Nat} {z : Int} {x i : Int} {q v : Option Nat}
theorem j_copy {i0 : Nat} {n d sp : Int} {a a0 : Option Nat} (hC : jCtx k p R s m args meth c D cA z0 ao) (hG : jGood D cA z0 ao w H) (hS : va_S (fun q => z0 ≤ q) s.heap H locs) (hz : H.size = s.heap.size + cells) (hls : ls.size = jmaxL k) (hlk : jhas3 jBL (jown k) i0 1004 = true) (hfr : 1 ≤ jfr k) (hlo : 26 ≤ jlo k) (hd : decode (jcode k) pc = .ok (.invokestatic i0, 3)) (hc8 : jcats st ≤ 8)
    (ha : a.isSome = true) (ha0 : a0.isSome = true) (hk : (w.2.1 (jdr a)).1 = 100) (hk0 : (w.2.1 (jdr a0)).1 = 100) (h1 : 0 ≤ b32 n) (h2 : 0 ≤ b32 d) (h3 : 0 ≤ b32 sp) (h4 : b32 sp + b32 n ≤ ((w.2.1 (jdr a0)).2 : Int)) (h5 : b32 d + b32 n ≤ ((w.2.1 (jdr a)).2 : Int))
    (kk : ∀ (H1 : Heap) (locs1 : List Loc), jGood D cA z0 ao (jcpy w.1 (jdr a0) (b32 sp).toNat (jdr a) (b32 d).toNat (b32 n).toNat, w.2) H1 → va_S (fun q => z0 ≤ q) s.heap H1 locs1 → H1.size = H.size → W p l ev R s m args below meth c H1 locs1 cells slots Q (F0 m (pc + 3) ls (st.map jg))) : W p l ev R s m args below meth c H locs cells slots Q (F0 m pc ls (.int (Int32.ofInt n) :: .int (Int32.ofInt d) :: va_rf a :: .int (Int32.ofInt sp) :: va_rf a0 :: st.map jg)) := by
  obtain ⟨hx, hb, hml, -, -, hown, -, hts, rfl, hK, -⟩ := hC
  rw [jrf_some ha, jrf_some ha0]
  have hat := jGood_at hG (a := jdr a) (by omega) (by omega)
  rw [jel_i hk] at hat
  have hat0 := jGood_at hG (a := jdr a0) (by omega) (by omega)
  rw [jel_i hk0] at hat0
  have hin := jGood_in hG (a := jdr a) (by omega) (by omega)
  obtain ⟨-, -, -, -, -, -, -, -, -, w1, w2, w3⟩ := jWS_bui
  refine va_copyi (A := fun q => z0 ≤ q) (ty := .int) hx hb (hml.trans hls.symm) hown (hts _ (jlk_BL hlk)) (hts _ w1) (hts _ w2) (hts _ w3) hK.1 hG.2.2.1 jws_D hS _ _ 0 0 hat0 hat rfl rfl rfl (j32_neg0 h3) (j32_neg0 h2) (j32_neg0 h1) (by rw [j32_cl, j32_cl]; omega) (by rw [j32_cl, j32_cl]; omega) (fun _ _ => rfl) hfr (by rw [jsum, show nativeFrameWords "java/lang/System" "arraycopy" 5 = 7 by decide]; show jcats st + (7 + 11) ≤ jlo k; omega) hd (fun H1 locs1 hP hD hS1 => ?_)
  refine W.sz (fun hle => ?_)
  have hlo := jP_lo hP hin.1 hin.2
  have hsz : H1.size = H.size := by have := hG.1; omega
  have hGn : jGood D cA z0 ao (jcpy w.1 (jdr a0) (b32 sp).toNat (jdr a) (b32 d).toNat (b32 n).toNat, w.2) H1 := by
    rw [jws_set (w' := (jcpy w.1 (jdr a0) (b32 sp).toNat (jdr a) (b32 d).toNat (b32 n).toNat, w.2)) hin.1 hin.2 rfl (fun b hb => jel_congr rfl (fun j => by simp [jcpy, hb]) (fun j => rfl)) ?_] at hP
    · obtain ⟨g1, g2, g3, g4, g5, g6, g7, g8⟩ := hG
      refine ⟨hsz.trans g1, g2, hP, g4, g5, fun j => ?_, g7, g8⟩
      show jcpy w.1 (jdr a0) (b32 sp).toNat (jdr a) (b32 d).toNat (b32 n).toNat ao j = _
      have : ao ≠ jdr a := by omega
      simp [jcpy, this, g6]
    · rw [jel_i (by exact hk), j32_cl, j32_cl, j32_cl]
      congr 4
      funext j
      by_cases e : (b32 d).toNat ≤ j ∧ j < (b32 d).toNat + (b32 n).toNat
      · simp only [jcpy, va_cpy]
        rw [if_pos ⟨trivial, e⟩, if_pos e]
      · simp only [jcpy, va_cpy]
        rw [if_neg (fun q => e q.2), if_neg e]
  exact kk H1 locs1 hGn hS1 hsz
theorem j_abs (x : Int) : (if 0 ≤ Int32.ofInt x then Int32.ofInt x else 0 - Int32.ofInt x) = Int32.ofInt (if 0 ≤ b32 x then b32 x else 0 - b32 x) := by
  have e : (0 ≤ Int32.ofInt x) ↔ 0 ≤ b32 x := by rw [j32_0, j32_le, b32_0]
  by_cases h : 0 ≤ b32 x
  · rw [if_pos (e.mpr h), if_pos h, j32_of]
  · rw [if_neg (fun q => h (e.mp q)), if_neg h, Int32.ofInt_sub, j32_of]
    rfl
theorem j_max (x y : Int) : (if Int32.ofInt x < Int32.ofInt y then Int32.ofInt y else Int32.ofInt x) = Int32.ofInt (if b32 x < b32 y then b32 y else b32 x) := by
  have e := j32_lt x y
  by_cases h : b32 x < b32 y
  · rw [if_pos (e.mpr h), if_pos h, j32_of]
  · rw [if_neg (fun q => h (e.mp q)), if_neg h, j32_of]

def jisrf : FieldType → Bool
  | .object _ => true
  | .array _ => true
  | _ => false
theorem jisrf_dec : (List.range 10).all (fun ci => (List.range (jFN ci)).all (fun k => !(Nat.beq (jtyc (jFy ci k)) 2) || jisrf (jFy ci k))) = true := by decide +kernel
theorem jty_ref {ci k a : Nat} (hc : ci < 10) (hk : k < jFN ci) (h : jtyc (jFy ci k) = 2) : narrow (jFy ci k) (.ref a) = .ref a ∧ fits (jFy ci k) (.ref a) = true := by
  have h1 := List.all_eq_true.mp (List.all_eq_true.mp jisrf_dec ci (List.mem_range.mpr hc)) k (List.mem_range.mpr hk)
  rw [h] at h1
  have h2 : jisrf (jFy ci k) = true := h1
  cases ht : jFy ci k <;> rw [ht] at h2 <;> first | (cases h2; done) | exact ⟨rfl, rfl⟩
theorem jWS_ord : Cond.fieldLink (jCn 2) 7 RX2 "ORDERS" "[I" ∈ jWS := by
  have h : (decide (Cond.fieldLink (jCn 2) 7 RX2 "ORDERS" "[I" ∈ lw_tbl) && goodWord (Cond.fieldLink (jCn 2) 7 RX2 "ORDERS" "[I")) = true := by decide +kernel
  simp only [Bool.and_eq_true, decide_eq_true_eq] at h
  exact List.mem_filter.mpr h
theorem jbui_r1 {b pc : Nat} {l : jF} {st : List jV} {w : jS} {x} (h : jbui b pc l st w = some x) : b = 1000 ∨ b = 1001 ∨ b = 1002 ∨ b = 1003 ∨ b = 1004 := by
  unfold jbui at h
  split at h <;> simp_all
theorem jbui_lo {b pc : Nat} {l : jF} {st : List jV} {w : jS} {x} (h : jbui b pc l st w = some x) : 1000 ≤ b := by
  rcases jbui_r1 h with e | e | e | e | e <;> omega
theorem j_alen (hC : jCtx k p R s m args meth c D cA z0 ao) (hG : jGood D cA z0 ao w H) (hS : va_S (fun q => z0 ≤ q) s.heap H locs) (hd : decode (jcode k) pc = .ok (.arraylength, 1)) (hq : q.isSome = true) (hk : jird (w.2.1 (jdr q)))
    (kk : W p l ev R s m args below meth c H locs cells slots Q (F0 m (pc + 1) ls (.int (Int32.ofInt ((w.2.1 (jdr q)).2 : Int)) :: st.map jg))) : W p l ev R s m args below meth c H locs cells slots Q (F0 m pc ls (va_rf q :: st.map jg)) := by
  obtain ⟨hx, hb, -, -, -, hown, -, hts, -, hK, -⟩ := hC
  rw [jrf_some hq]
  by_cases h99 : (w.2.1 (jdr q)).1 = 99
  · have ha : jdr q = ao := by
      rcases hG.2.2.2.1 (jdr q) (by omega) with e | ⟨e1, e2⟩
      · exact e
      · exfalso
        have hat := jws_at (cA := cA) (w := w) e1 e2
        unfold jel at hat
        rw [if_neg (by omega), if_neg (by omega), if_neg (by omega), h99] at hat
        obtain ⟨r, hr, -⟩ := hG.2.2.1 _ _ hat
        cases hr
    rw [ha] at kk ⊢
    rw [hG.2.2.2.2.1] at kk
    exact va_tlen hx hb hK.2.2.1 hS rfl hd kk
  · have hk : (w.2.1 (jdr q)).1 = 100 := hk.resolve_right h99
    have hat := jGood_at hG (a := jdr q) (by omega) (by omega)
    rw [jel_i hk] at hat
    exact va_alen hx hb hK.1 hG.2.2.1 _ 0 hat (ty := .int) rfl (j32_nat _) hd kk
theorem j_absL {i0 : Nat} {cc : ByteArray} (hexec : p.tables.exec = Jvm.exec) (hb : c.code = cc) (hml : c.maxLocals = ls.size) {own : String} (hown : s.vm.findClass own = some m.cls) (hlink : (Cond.methodLink own i0 Lib.MathLoose.abs_long.x).before args s = true) (hstat : (Cond.static Lib.MathLoose.abs_long.x).before args s = true) (hini : (Cond.initialized "java/lang/Math").before args s = true) (hcode : (Cond.code Lib.MathLoose.abs_long.x Lib.MathLoose.abs_long.code 2 (some .long)).before args s = true)
    (hframes : 1 ≤ R.frames) (hlocals : ((st.map jg).map fun v => v.category).sum + 13 ≤ R.locals) (hc : cells ≤ R.cells) (hs : slots ≤ R.slots) (hdg : decode cc pc = .ok (.invokestatic i0, 3))
    (kk : W p l ev R s m args below meth c H locs cells slots Q (F0 m (pc + 3) ls (.long (Int64.ofInt (if 0 ≤ b64 x then b64 x else 0 - b64 x)) :: st.map jg))) : W p l ev R s m args below meth c H locs cells slots Q (F0 m pc ls (.long (Int64.ofInt x) :: st.map jg)) := by
  refine va_mabs_long hexec hb hml hown hlink hstat hini hcode hframes hlocals hc hs hdg ?_
  have e : (if 0 < Int64.ofInt x then Int64.ofInt x else -Int64.ofInt x) = Int64.ofInt (if 0 ≤ b64 x then b64 x else 0 - b64 x) := by
    have e : (0 < Int64.ofInt x) ↔ 0 < b64 x := by rw [j64_0, j64_lt, b64_0]
    by_cases h : 0 < b64 x
    · rw [if_pos (e.mpr h), if_pos (by omega), j64_of]
    · rw [if_neg (fun q => h (e.mp q))]
      by_cases h0 : b64 x = 0
      · rw [if_pos (by omega), (j64_nz x).mpr h0, h0]
        rfl
      · rw [if_neg (by omega), Int64.ofInt_sub, j64_of]
        exact (Int64.zero_sub _).symm
  rw [e]
  exact kk

/-- one step, and what it leads to -/
theorem jstep_ok {e : jE} {g : Prop} {pc' : Nat} {l' : jF} {st' : List jV} {w' : jS} (hC : jCtx k p R s m args meth c D cA z0 ao) (hG : jGood D cA z0 ao w H) (hS : va_S (fun q => z0 ≤ q) s.heap H locs) (hz : H.size = s.heap.size + cells) (hcs : cells ≤ jmc k ∧ slots ≤ jms k) (hls : jls ls (jmaxL k) lc) (hwf : jwf k e = true) (h : jstep e lc st w = some (g, pc', l', st', w')) (hg : g)
    (kk : ∀ (H1 : Heap) (locs1 : List Loc) (ls1 : Array Slot), jGood D cA z0 ao w' H1 → va_S (fun q => z0 ≤ q) s.heap H1 locs1 → H1.size = H.size → jls ls1 (jmaxL k) l' → W p l ev R s m args below meth c H1 locs1 cells slots Q (F0 m pc' ls1 (st'.map jg))) :
    W p l ev R s m args below meth c H locs cells slots Q (F0 m e.1 ls (st.map jg)) := by
  have hC0 := hC
  obtain ⟨hx, hb, hml, -, -, hown, -, hts, hR, hK, -⟩ := hC
  obtain ⟨pc, ins, len, r1, r2, r3, z⟩ := e
  show W p l ev R s m args below meth c H locs cells slots Q (F0 m pc ls (st.map jg))
  have hwf0 := hwf
  cases ins <;> (try (simp only [jstep] at h; cases h; done))
  case iload i =>
    simp only [jwf, jlen, Bool.and_eq_true, decide_eq_true_eq, Nat.beq_eq, Nat.blt_eq] at hwf
    obtain ⟨⟨hd, rfl⟩, -⟩ := hwf
    simp only [jstep] at h
    rcases hv : jget lc i with _ | x | x | r <;> rw [hv] at h <;> simp only [jldv] at h <;> (try (cases h; done))
    obtain ⟨rfl, rfl, rfl, rfl, rfl⟩ : _ ∧ _ ∧ _ ∧ _ ∧ _ := by simpa only [Option.some.injEq, Prod.mk.injEq] using h
    exact lv_iload hx hb hd (hls.2.2 _ _ hv) (kk H locs ls hG hS rfl hls)
  case iload_n i =>
    simp only [jwf, jlen, Bool.and_eq_true, decide_eq_true_eq, Nat.beq_eq, Nat.blt_eq] at hwf
    obtain ⟨⟨hd, rfl⟩, -⟩ := hwf
    simp only [jstep] at h
    rcases hv : jget lc i.val with _ | x | x | r <;> rw [hv] at h <;> simp only [jldv] at h <;> (try (cases h; done))
    obtain ⟨rfl, rfl, rfl, rfl, rfl⟩ : _ ∧ _ ∧ _ ∧ _ ∧ _ := by simpa only [Option.some.injEq, Prod.mk.injEq] using h
    exact lv_iload_n hx hb hd rfl (hls.2.2 _ _ hv) (kk H locs ls hG hS rfl hls)
  case lload i =>
    simp only [jwf, jlen, Bool.and_eq_true, decide_eq_true_eq, Nat.beq_eq, Nat.blt_eq] at hwf
    obtain ⟨⟨hd, rfl⟩, -⟩ := hwf
    simp only [jstep] at h
    rcases hv : jget lc i with _ | x | x | r <;> rw [hv] at h <;> simp only [jldv] at h <;> (try (cases h; done))
    obtain ⟨rfl, rfl, rfl, rfl, rfl⟩ : _ ∧ _ ∧ _ ∧ _ ∧ _ := by simpa only [Option.some.injEq, Prod.mk.injEq] using h
    exact lv_lload hx hb hd (hls.2.2 _ _ hv) (kk H locs ls hG hS rfl hls)
  case lload_n i =>
    simp only [jwf, jlen, Bool.and_eq_true, decide_eq_true_eq, Nat.beq_eq, Nat.blt_eq] at hwf
    obtain ⟨⟨hd, rfl⟩, -⟩ := hwf
    simp only [jstep] at h
    rcases hv : jget lc i.val with _ | x | x | r <;> rw [hv] at h <;> simp only [jldv] at h <;> (try (cases h; done))
    obtain ⟨rfl, rfl, rfl, rfl, rfl⟩ : _ ∧ _ ∧ _ ∧ _ ∧ _ := by simpa only [Option.some.injEq, Prod.mk.injEq] using h
    exact lv_lload_n hx hb hd rfl (hls.2.2 _ _ hv) (kk H locs ls hG hS rfl hls)
  case aload i =>
    simp only [jwf, jlen, Bool.and_eq_true, decide_eq_true_eq, Nat.beq_eq, Nat.blt_eq] at hwf
    obtain ⟨⟨hd, rfl⟩, -⟩ := hwf
    simp only [jstep] at h
    rcases hv : jget lc i with _ | x | x | r <;> rw [hv] at h <;> simp only [jldv] at h <;> (try (cases h; done))
    obtain ⟨rfl, rfl, rfl, rfl, rfl⟩ : _ ∧ _ ∧ _ ∧ _ ∧ _ := by simpa only [Option.some.injEq, Prod.mk.injEq] using h
    have hv2 := hls.2.2 _ _ hv
    obtain ⟨a, rfl⟩ : ∃ a, r = some a := ⟨_, jrf_some hg⟩
    exact lv_aload hx hb hd (hls.2.2 _ _ hv) (kk H locs ls hG hS rfl hls)
  case aload_n i =>
    simp only [jwf, jlen, Bool.and_eq_true, decide_eq_true_eq, Nat.beq_eq, Nat.blt_eq] at hwf
    obtain ⟨⟨hd, rfl⟩, -⟩ := hwf
    simp only [jstep] at h
    rcases hv : jget lc i.val with _ | x | x | r <;> rw [hv] at h <;> simp only [jldv] at h <;> (try (cases h; done))
    obtain ⟨rfl, rfl, rfl, rfl, rfl⟩ : _ ∧ _ ∧ _ ∧ _ ∧ _ := by simpa only [Option.some.injEq, Prod.mk.injEq] using h
    have hv2 := hls.2.2 _ _ hv
    obtain ⟨a, rfl⟩ : ∃ a, r = some a := ⟨_, jrf_some hg⟩
    exact lv_aload_n hx hb hd rfl (hls.2.2 _ _ hv) (kk H locs ls hG hS rfl hls)
  case istore i =>
    simp only [jwf, jlen, Bool.and_eq_true, decide_eq_true_eq, Nat.beq_eq, Nat.blt_eq] at hwf
    obtain ⟨⟨hd, rfl⟩, hi⟩ := hwf
    simp only [jstep] at h
    rcases st with _ | ⟨x | x | r, st⟩ <;> simp only [jstv] at h <;> (try (cases h; done))
    obtain ⟨rfl, rfl, rfl, rfl, rfl⟩ : _ ∧ _ ∧ _ ∧ _ ∧ _ := by simpa only [Option.some.injEq, Prod.mk.injEq] using h
    exact lv_istore hx hb hd (jls_has hls) hi rfl (fun ls1 h1 => kk H locs ls1 hG hS rfl (jls_st1 rfl h1))
  case istore_n i =>
    simp only [jwf, jlen, Bool.and_eq_true, decide_eq_true_eq, Nat.beq_eq, Nat.blt_eq] at hwf
    obtain ⟨⟨hd, rfl⟩, hi⟩ := hwf
    simp only [jstep] at h
    rcases st with _ | ⟨x | x | r, st⟩ <;> simp only [jstv] at h <;> (try (cases h; done))
    obtain ⟨rfl, rfl, rfl, rfl, rfl⟩ : _ ∧ _ ∧ _ ∧ _ ∧ _ := by simpa only [Option.some.injEq, Prod.mk.injEq] using h
    exact lv_istore_n hx hb hd rfl (jls_has hls) hi rfl (fun ls1 h1 => kk H locs ls1 hG hS rfl (jls_st1 rfl h1))
  case lstore i =>
    simp only [jwf, jlen, Bool.and_eq_true, decide_eq_true_eq, Nat.beq_eq, Nat.blt_eq] at hwf
    obtain ⟨⟨hd, rfl⟩, hi⟩ := hwf
    simp only [jstep] at h
    rcases st with _ | ⟨x | x | r, st⟩ <;> simp only [jstv] at h <;> (try (cases h; done))
    obtain ⟨rfl, rfl, rfl, rfl, rfl⟩ : _ ∧ _ ∧ _ ∧ _ ∧ _ := by simpa only [Option.some.injEq, Prod.mk.injEq] using h
    exact lv_lstore hx hb hd (jls_has hls) hi rfl (fun ls1 h1 => kk H locs ls1 hG hS rfl (jls_st2 rfl h1))
  case lstore_n i =>
    simp only [jwf, jlen, Bool.and_eq_true, decide_eq_true_eq, Nat.beq_eq, Nat.blt_eq] at hwf
    obtain ⟨⟨hd, rfl⟩, hi⟩ := hwf
    simp only [jstep] at h
    rcases st with _ | ⟨x | x | r, st⟩ <;> simp only [jstv] at h <;> (try (cases h; done))
    obtain ⟨rfl, rfl, rfl, rfl, rfl⟩ : _ ∧ _ ∧ _ ∧ _ ∧ _ := by simpa only [Option.some.injEq, Prod.mk.injEq] using h
    exact lv_lstore_n hx hb hd rfl (jls_has hls) hi rfl (fun ls1 h1 => kk H locs ls1 hG hS rfl (jls_st2 rfl h1))
  case astore i =>
    simp only [jwf, jlen, Bool.and_eq_true, decide_eq_true_eq, Nat.beq_eq, Nat.blt_eq] at hwf
    obtain ⟨⟨hd, rfl⟩, hi⟩ := hwf
    simp only [jstep] at h
    rcases st with _ | ⟨x | x | r, st⟩ <;> simp only [jstv] at h <;> (try (cases h; done))
    obtain ⟨rfl, rfl, rfl, rfl, rfl⟩ : _ ∧ _ ∧ _ ∧ _ ∧ _ := by simpa only [Option.some.injEq, Prod.mk.injEq] using h
    obtain ⟨a, rfl⟩ : ∃ a, r = some a := ⟨_, jrf_some hg⟩
    exact lv_astore hx hb hd (jls_has hls) hi rfl (fun ls1 h1 => kk H locs ls1 hG hS rfl (jls_st1 rfl h1))
  case astore_n i =>
    simp only [jwf, jlen, Bool.and_eq_true, decide_eq_true_eq, Nat.beq_eq, Nat.blt_eq] at hwf
    obtain ⟨⟨hd, rfl⟩, hi⟩ := hwf
    simp only [jstep] at h
    rcases st with _ | ⟨x | x | r, st⟩ <;> simp only [jstv] at h <;> (try (cases h; done))
    obtain ⟨rfl, rfl, rfl, rfl, rfl⟩ : _ ∧ _ ∧ _ ∧ _ ∧ _ := by simpa only [Option.some.injEq, Prod.mk.injEq] using h
    obtain ⟨a, rfl⟩ : ∃ a, r = some a := ⟨_, jrf_some hg⟩
    exact lv_astore_n hx hb hd rfl (jls_has hls) hi rfl (fun ls1 h1 => kk H locs ls1 hG hS rfl (jls_st1 rfl h1))
  case iconst n =>
    simp only [jwf, jlen, Bool.and_eq_true, decide_eq_true_eq, Nat.beq_eq, Nat.blt_eq] at hwf
    obtain ⟨⟨hd, rfl⟩, hi⟩ := hwf
    simp only [jstep] at h
    obtain ⟨rfl, rfl, rfl, rfl, rfl⟩ : _ ∧ _ ∧ _ ∧ _ ∧ _ := by simpa only [Option.some.injEq, Prod.mk.injEq] using h
    exact lv_iconst hx hb hd (by rw [← hi]) (kk H locs ls hG hS rfl hls)
  case bipush n =>
    simp only [jwf, jlen, Bool.and_eq_true, decide_eq_true_eq, Nat.beq_eq, Nat.blt_eq] at hwf
    obtain ⟨⟨hd, rfl⟩, hi⟩ := hwf
    simp only [jstep] at h
    obtain ⟨rfl, rfl, rfl, rfl, rfl⟩ : _ ∧ _ ∧ _ ∧ _ ∧ _ := by simpa only [Option.some.injEq, Prod.mk.injEq] using h
    exact lv_bipush hx hb hd hi (kk H locs ls hG hS rfl hls)
  case sipush n =>
    simp only [jwf, jlen, Bool.and_eq_true, decide_eq_true_eq, Nat.beq_eq, Nat.blt_eq] at hwf
    obtain ⟨⟨hd, rfl⟩, hi⟩ := hwf
    simp only [jstep] at h
    obtain ⟨rfl, rfl, rfl, rfl, rfl⟩ : _ ∧ _ ∧ _ ∧ _ ∧ _ := by simpa only [Option.some.injEq, Prod.mk.injEq] using h
    exact lv_sipush hx hb hd hi (kk H locs ls hG hS rfl hls)
  case lconst n =>
    simp only [jwf, jlen, Bool.and_eq_true, decide_eq_true_eq, Nat.beq_eq, Nat.blt_eq] at hwf
    obtain ⟨⟨hd, rfl⟩, hi⟩ := hwf
    simp only [jstep] at h
    obtain ⟨rfl, rfl, rfl, rfl, rfl⟩ : _ ∧ _ ∧ _ ∧ _ ∧ _ := by simpa only [Option.some.injEq, Prod.mk.injEq] using h
    exact lv_lconst hx hb hd hi (kk H locs ls hG hS rfl hls)
  case ldc n =>
    simp only [jwf, jlen, Bool.and_eq_true, decide_eq_true_eq, Nat.beq_eq, Nat.blt_eq] at hwf
    obtain ⟨⟨hd, rfl⟩, hi⟩ := hwf
    simp only [jstep] at h
    obtain ⟨rfl, rfl, rfl, rfl, rfl⟩ : _ ∧ _ ∧ _ ∧ _ ∧ _ := by simpa only [Option.some.injEq, Prod.mk.injEq] using h
    exact lv_ldc hx hb hown (hts _ (jlk_KI hi)) hd (kk H locs ls hG hS rfl hls)
  case ldc_w n =>
    simp only [jwf, jlen, Bool.and_eq_true, decide_eq_true_eq, Nat.beq_eq, Nat.blt_eq] at hwf
    obtain ⟨⟨hd, rfl⟩, hi⟩ := hwf
    simp only [jstep] at h
    obtain ⟨rfl, rfl, rfl, rfl, rfl⟩ : _ ∧ _ ∧ _ ∧ _ ∧ _ := by simpa only [Option.some.injEq, Prod.mk.injEq] using h
    exact lv_ldcw hx hb hown (hts _ (jlk_KI hi)) hd (kk H locs ls hG hS rfl hls)
  case ldc2_w n =>
    simp only [jwf, jlen, Bool.and_eq_true, decide_eq_true_eq, Nat.beq_eq, Nat.blt_eq] at hwf
    obtain ⟨⟨hd, rfl⟩, hi⟩ := hwf
    simp only [jstep] at h
    obtain ⟨rfl, rfl, rfl, rfl, rfl⟩ : _ ∧ _ ∧ _ ∧ _ ∧ _ := by simpa only [Option.some.injEq, Prod.mk.injEq] using h
    exact lv_ldc2 hx hb hown (hts _ (jlk_KJ hi)) hd (kk H locs ls hG hS rfl hls)
  case iadd =>
    simp only [jwf, jlen, Bool.and_eq_true, decide_eq_true_eq, Nat.beq_eq, Nat.blt_eq] at hwf
    obtain ⟨⟨hd, rfl⟩, -⟩ := hwf
    simp only [jstep] at h
    rcases st with _ | ⟨y | y | r, _ | ⟨x | x | r2, st⟩⟩ <;> simp only [jbin] at h <;> (try (cases h; done))
    obtain ⟨rfl, rfl, rfl, rfl, rfl⟩ : _ ∧ _ ∧ _ ∧ _ ∧ _ := by simpa only [Option.some.injEq, Prod.mk.injEq] using h
    refine lv_iadd hx hb hd ?_
    rw [← Int32.ofInt_add]
    exact kk H locs ls hG hS rfl hls
  case isub =>
    simp only [jwf, jlen, Bool.and_eq_true, decide_eq_true_eq, Nat.beq_eq, Nat.blt_eq] at hwf
    obtain ⟨⟨hd, rfl⟩, -⟩ := hwf
    simp only [jstep] at h
    rcases st with _ | ⟨y | y | r, _ | ⟨x | x | r2, st⟩⟩ <;> simp only [jbin] at h <;> (try (cases h; done))
    obtain ⟨rfl, rfl, rfl, rfl, rfl⟩ : _ ∧ _ ∧ _ ∧ _ ∧ _ := by simpa only [Option.some.injEq, Prod.mk.injEq] using h
    refine lv_isub hx hb hd ?_
    rw [← Int32.ofInt_sub]
    exact kk H locs ls hG hS rfl hls
  case imul =>
    simp only [jwf, jlen, Bool.and_eq_true, decide_eq_true_eq, Nat.beq_eq, Nat.blt_eq] at hwf
    obtain ⟨⟨hd, rfl⟩, -⟩ := hwf
    simp only [jstep] at h
    rcases st with _ | ⟨y | y | r, _ | ⟨x | x | r2, st⟩⟩ <;> simp only [jbin] at h <;> (try (cases h; done))
    obtain ⟨rfl, rfl, rfl, rfl, rfl⟩ : _ ∧ _ ∧ _ ∧ _ ∧ _ := by simpa only [Option.some.injEq, Prod.mk.injEq] using h
    refine lv_imul hx hb hd ?_
    rw [← Int32.ofInt_mul]
    exact kk H locs ls hG hS rfl hls
  case iand =>
    simp only [jwf, jlen, Bool.and_eq_true, decide_eq_true_eq, Nat.beq_eq, Nat.blt_eq] at hwf
    obtain ⟨⟨hd, rfl⟩, -⟩ := hwf
    simp only [jstep] at h
    rcases st with _ | ⟨y | y | r, _ | ⟨x | x | r2, st⟩⟩ <;> simp only [jbin] at h <;> (try (cases h; done))
    obtain ⟨rfl, rfl, rfl, rfl, rfl⟩ : _ ∧ _ ∧ _ ∧ _ ∧ _ := by simpa only [Option.some.injEq, Prod.mk.injEq] using h
    refine lv_iand hx hb hd ?_
    rw [j32_and]
    exact kk H locs ls hG hS rfl hls
  case ior =>
    simp only [jwf, jlen, Bool.and_eq_true, decide_eq_true_eq, Nat.beq_eq, Nat.blt_eq] at hwf
    obtain ⟨⟨hd, rfl⟩, -⟩ := hwf
    simp only [jstep] at h
    rcases st with _ | ⟨y | y | r, _ | ⟨x | x | r2, st⟩⟩ <;> simp only [jbin] at h <;> (try (cases h; done))
    obtain ⟨rfl, rfl, rfl, rfl, rfl⟩ : _ ∧ _ ∧ _ ∧ _ ∧ _ := by simpa only [Option.some.injEq, Prod.mk.injEq] using h
    refine lv_ior hx hb hd ?_
    rw [j32_or]
    exact kk H locs ls hG hS rfl hls
  case ishl =>
    simp only [jwf, jlen, Bool.and_eq_true, decide_eq_true_eq, Nat.beq_eq, Nat.blt_eq] at hwf
    obtain ⟨⟨hd, rfl⟩, -⟩ := hwf
    simp only [jstep] at h
    rcases st with _ | ⟨y | y | r, _ | ⟨x | x | r2, st⟩⟩ <;> simp only [jbin] at h <;> (try (cases h; done))
    obtain ⟨rfl, rfl, rfl, rfl, rfl⟩ : _ ∧ _ ∧ _ ∧ _ ∧ _ := by simpa only [Option.some.injEq, Prod.mk.injEq] using h
    refine lv_ishl hx hb hd ?_
    rw [j32_shl]
    exact kk H locs ls hG hS rfl hls
  case ladd =>
    simp only [jwf, jlen, Bool.and_eq_true, decide_eq_true_eq, Nat.beq_eq, Nat.blt_eq] at hwf
    obtain ⟨⟨hd, rfl⟩, -⟩ := hwf
    simp only [jstep] at h
    rcases st with _ | ⟨y | y | r, _ | ⟨x | x | r2, st⟩⟩ <;> simp only [jbinL] at h <;> (try (cases h; done))
    obtain ⟨rfl, rfl, rfl, rfl, rfl⟩ : _ ∧ _ ∧ _ ∧ _ ∧ _ := by simpa only [Option.some.injEq, Prod.mk.injEq] using h
    refine lv_ladd hx hb hd ?_
    rw [← Int64.ofInt_add]
    exact kk H locs ls hG hS rfl hls
  case lsub =>
    simp only [jwf, jlen, Bool.and_eq_true, decide_eq_true_eq, Nat.beq_eq, Nat.blt_eq] at hwf
    obtain ⟨⟨hd, rfl⟩, -⟩ := hwf
    simp only [jstep] at h
    rcases st with _ | ⟨y | y | r, _ | ⟨x | x | r2, st⟩⟩ <;> simp only [jbinL] at h <;> (try (cases h; done))
    obtain ⟨rfl, rfl, rfl, rfl, rfl⟩ : _ ∧ _ ∧ _ ∧ _ ∧ _ := by simpa only [Option.some.injEq, Prod.mk.injEq] using h
    refine lv_lsub hx hb hd ?_
    rw [← Int64.ofInt_sub]
    exact kk H locs ls hG hS rfl hls
  case lmul =>
    simp only [jwf, jlen, Bool.and_eq_true, decide_eq_true_eq, Nat.beq_eq, Nat.blt_eq] at hwf
    obtain ⟨⟨hd, rfl⟩, -⟩ := hwf
    simp only [jstep] at h
    rcases st with _ | ⟨y | y | r, _ | ⟨x | x | r2, st⟩⟩ <;> simp only [jbinL] at h <;> (try (cases h; done))
    obtain ⟨rfl, rfl, rfl, rfl, rfl⟩ : _ ∧ _ ∧ _ ∧ _ ∧ _ := by simpa only [Option.some.injEq, Prod.mk.injEq] using h
    refine lv_lmul hx hb hd ?_
    rw [← Int64.ofInt_mul]
    exact kk H locs ls hG hS rfl hls
  case idiv =>
    simp only [jwf, jlen, Bool.and_eq_true, decide_eq_true_eq, Nat.beq_eq, Nat.blt_eq] at hwf
    obtain ⟨⟨hd, rfl⟩, -⟩ := hwf
    simp only [jstep] at h
    rcases st with _ | ⟨y | y | r, _ | ⟨x | x | r2, st⟩⟩ <;> (try (simp only at h; cases h; done))
    simp only at h
    obtain ⟨rfl, rfl, rfl, rfl, rfl⟩ : _ ∧ _ ∧ _ ∧ _ ∧ _ := by simpa only [Option.some.injEq, Prod.mk.injEq] using h
    refine lv_idiv hx hb hd (fun e => hg ((j32_nz y).mp e)) ?_
    rw [j32_div]
    exact kk H locs ls hG hS rfl hls
  case irem =>
    simp only [jwf, jlen, Bool.and_eq_true, decide_eq_true_eq, Nat.beq_eq, Nat.blt_eq] at hwf
    obtain ⟨⟨hd, rfl⟩, -⟩ := hwf
    simp only [jstep] at h
    rcases st with _ | ⟨y | y | r, _ | ⟨x | x | r2, st⟩⟩ <;> (try (simp only at h; cases h; done))
    simp only at h
    obtain ⟨rfl, rfl, rfl, rfl, rfl⟩ : _ ∧ _ ∧ _ ∧ _ ∧ _ := by simpa only [Option.some.injEq, Prod.mk.injEq] using h
    refine lv_irem hx hb hd (fun e => hg ((j32_nz y).mp e)) ?_
    rw [j32_rem]
    exact kk H locs ls hG hS rfl hls
  case ldiv =>
    simp only [jwf, jlen, Bool.and_eq_true, decide_eq_true_eq, Nat.beq_eq, Nat.blt_eq] at hwf
    obtain ⟨⟨hd, rfl⟩, -⟩ := hwf
    simp only [jstep] at h
    rcases st with _ | ⟨y | y | r, _ | ⟨x | x | r2, st⟩⟩ <;> (try (simp only at h; cases h; done))
    simp only at h
    obtain ⟨rfl, rfl, rfl, rfl, rfl⟩ : _ ∧ _ ∧ _ ∧ _ ∧ _ := by simpa only [Option.some.injEq, Prod.mk.injEq] using h
    refine lv_ldiv hx hb hd (fun e => hg ((j64_nz y).mp e)) ?_
    rw [j64_div]
    exact kk H locs ls hG hS rfl hls
  case lrem =>
    simp only [jwf, jlen, Bool.and_eq_true, decide_eq_true_eq, Nat.beq_eq, Nat.blt_eq] at hwf
    obtain ⟨⟨hd, rfl⟩, -⟩ := hwf
    simp only [jstep] at h
    rcases st with _ | ⟨y | y | r, _ | ⟨x | x | r2, st⟩⟩ <;> (try (simp only at h; cases h; done))
    simp only at h
    obtain ⟨rfl, rfl, rfl, rfl, rfl⟩ : _ ∧ _ ∧ _ ∧ _ ∧ _ := by simpa only [Option.some.injEq, Prod.mk.injEq] using h
    refine lv_lrem hx hb hd (fun e => hg ((j64_nz y).mp e)) ?_
    rw [j64_rem]
    exact kk H locs ls hG hS rfl hls
  case ineg =>
    simp only [jwf, jlen, Bool.and_eq_true, decide_eq_true_eq, Nat.beq_eq, Nat.blt_eq] at hwf
    obtain ⟨⟨hd, rfl⟩, -⟩ := hwf
    simp only [jstep] at h
    rcases st with _ | ⟨x | x | r, st⟩ <;> (try (simp only at h; cases h; done))
    simp only at h
    obtain ⟨rfl, rfl, rfl, rfl, rfl⟩ : _ ∧ _ ∧ _ ∧ _ ∧ _ := by simpa only [Option.some.injEq, Prod.mk.injEq] using h
    refine lv_ineg hx hb hd ?_
    rw [← Int32.ofInt_neg]
    exact kk H locs ls hG hS rfl hls
  case lneg =>
    simp only [jwf, jlen, Bool.and_eq_true, decide_eq_true_eq, Nat.beq_eq, Nat.blt_eq] at hwf
    obtain ⟨⟨hd, rfl⟩, -⟩ := hwf
    simp only [jstep] at h
    rcases st with _ | ⟨x | x | r, st⟩ <;> (try (simp only at h; cases h; done))
    simp only at h
    obtain ⟨rfl, rfl, rfl, rfl, rfl⟩ : _ ∧ _ ∧ _ ∧ _ ∧ _ := by simpa only [Option.some.injEq, Prod.mk.injEq] using h
    refine lv_lneg hx hb hd ?_
    rw [← Int64.ofInt_neg]
    exact kk H locs ls hG hS rfl hls
  case i2l =>
    simp only [jwf, jlen, Bool.and_eq_true, decide_eq_true_eq, Nat.beq_eq, Nat.blt_eq] at hwf
    obtain ⟨⟨hd, rfl⟩, -⟩ := hwf
    simp only [jstep] at h
    rcases st with _ | ⟨x | x | r, st⟩ <;> (try (simp only at h; cases h; done))
    simp only at h
    obtain ⟨rfl, rfl, rfl, rfl, rfl⟩ : _ ∧ _ ∧ _ ∧ _ ∧ _ := by simpa only [Option.some.injEq, Prod.mk.injEq] using h
    exact lv_i2l hx hb hd (j_i2l x) (kk H locs ls hG hS rfl hls)
  case l2i =>
    simp only [jwf, jlen, Bool.and_eq_true, decide_eq_true_eq, Nat.beq_eq, Nat.blt_eq] at hwf
    obtain ⟨⟨hd, rfl⟩, -⟩ := hwf
    simp only [jstep] at h
    rcases st with _ | ⟨x | x | r, st⟩ <;> (try (simp only at h; cases h; done))
    simp only at h
    obtain ⟨rfl, rfl, rfl, rfl, rfl⟩ : _ ∧ _ ∧ _ ∧ _ ∧ _ := by simpa only [Option.some.injEq, Prod.mk.injEq] using h
    exact lv_l2i hx hb hd (j_l2i x) (kk H locs ls hG hS rfl hls)
  case lcmp =>
    simp only [jwf, jlen, Bool.and_eq_true, decide_eq_true_eq, Nat.beq_eq, Nat.blt_eq] at hwf
    obtain ⟨⟨hd, rfl⟩, -⟩ := hwf
    simp only [jstep] at h
    rcases st with _ | ⟨y | y | r, _ | ⟨x | x | r2, st⟩⟩ <;> (try (simp only at h; cases h; done))
    simp only at h
    obtain ⟨rfl, rfl, rfl, rfl, rfl⟩ : _ ∧ _ ∧ _ ∧ _ ∧ _ := by simpa only [Option.some.injEq, Prod.mk.injEq] using h
    refine W.lcmp hx hb hd ?_
    rw [j_lcmp]
    exact kk H locs ls hG hS rfl hls
  case iinc i n =>
    simp only [jwf, jlen, Bool.and_eq_true, decide_eq_true_eq, Nat.beq_eq, Nat.blt_eq] at hwf
    obtain ⟨⟨hd, rfl⟩, hi⟩ := hwf
    simp only [jstep] at h
    rcases hv : jget lc i with _ | x | x | r <;> rw [hv] at h <;> (try (simp only at h; cases h; done))
    simp only at h
    obtain ⟨rfl, rfl, rfl, rfl, rfl⟩ : _ ∧ _ ∧ _ ∧ _ ∧ _ := by simpa only [Option.some.injEq, Prod.mk.injEq] using h
    obtain ⟨k9, hk9⟩ := List.getElem?_of_mem (jpr_in hv)
    exact lv_iinc (v := Int32.ofInt (x + n)) hx hb hd (jls_has hls) hk9 (Int32.ofInt_add ..).symm hi rfl (fun ls1 h1 => kk H locs ls1 hG hS rfl (jls_st1 (v := .inl (x + n)) rfl h1))
  case dup =>
    simp only [jwf, jlen, Bool.and_eq_true, decide_eq_true_eq, Nat.beq_eq, Nat.blt_eq] at hwf
    obtain ⟨⟨hd, rfl⟩, -⟩ := hwf
    simp only [jstep] at h
    rcases st with _ | ⟨x | x | r, st⟩ <;> (try (simp only at h; cases h; done)) <;> simp only at h
    · obtain ⟨rfl, rfl, rfl, rfl, rfl⟩ : _ ∧ _ ∧ _ ∧ _ ∧ _ := by simpa only [Option.some.injEq, Prod.mk.injEq] using h
      exact lv_dup hx hb hd rfl (kk H locs ls hG hS rfl hls)
    · obtain ⟨rfl, rfl, rfl, rfl, rfl⟩ : _ ∧ _ ∧ _ ∧ _ ∧ _ := by simpa only [Option.some.injEq, Prod.mk.injEq] using h
      exact lv_dup hx hb hd (jcat_g (.inr (.inr r))) (kk H locs ls hG hS rfl hls)
  case dup2 =>
    simp only [jwf, jlen, Bool.and_eq_true, decide_eq_true_eq, Nat.beq_eq, Nat.blt_eq] at hwf
    obtain ⟨⟨hd, rfl⟩, -⟩ := hwf
    simp only [jstep] at h
    rcases st with _ | ⟨x | x | r, _ | ⟨y | y | r2, st⟩⟩ <;> (try (simp only at h; cases h; done))
    simp only at h
    obtain ⟨rfl, rfl, rfl, rfl, rfl⟩ : _ ∧ _ ∧ _ ∧ _ ∧ _ := by simpa only [Option.some.injEq, Prod.mk.injEq] using h
    exact lv_dup2_11 hx hb hd rfl (jcat_g (.inr (.inr r2))) (kk H locs ls hG hS rfl hls)
  case pop =>
    simp only [jwf, jlen, Bool.and_eq_true, decide_eq_true_eq, Nat.beq_eq, Nat.blt_eq] at hwf
    obtain ⟨⟨hd, rfl⟩, -⟩ := hwf
    simp only [jstep] at h
    rcases st with _ | ⟨x | x | r, st⟩ <;> (try (simp only at h; cases h; done))
    simp only at h
    obtain ⟨rfl, rfl, rfl, rfl, rfl⟩ : _ ∧ _ ∧ _ ∧ _ ∧ _ := by simpa only [Option.some.injEq, Prod.mk.injEq] using h
    exact lv_pop hx hb hd rfl (kk H locs ls hG hS rfl hls)
  case goto off =>
    simp only [jwf, jlen, Bool.and_eq_true, decide_eq_true_eq, Nat.beq_eq, Nat.blt_eq] at hwf
    obtain ⟨⟨hd, rfl⟩, hi⟩ := hwf
    simp only [jstep] at h
    obtain ⟨rfl, rfl, rfl, rfl, rfl⟩ : _ ∧ _ ∧ _ ∧ _ ∧ _ := by simpa only [Option.some.injEq, Prod.mk.injEq] using h
    exact lv_goto hx hb hd hi (kk H locs ls hG hS rfl hls)
  case getfield i =>
    simp only [jstep] at h
    rcases st with _ | ⟨x | x | r, st⟩ <;> (try (simp only at h; cases h; done))
    simp only at h
    obtain ⟨rfl, rfl, rfl, rfl, rfl⟩ : _ ∧ _ ∧ _ ∧ _ ∧ _ := by simpa only [Option.some.injEq, Prod.mk.injEq] using h
    exact j_getf hC0 hG hwf0 hg.1 hg.2 (kk H locs ls hG hS rfl hls)
  case putfield i =>
    have hwf1 := hwf
    simp only [jwf, jlen, Bool.and_eq_true, decide_eq_true_eq, Nat.beq_eq, Nat.blt_eq] at hwf1
    obtain ⟨-, ⟨⟨hlk9, hci⟩, hty⟩, -⟩ := hwf1
    simp only [jstep] at h
    rcases st with _ | ⟨x, _ | ⟨y | y | r, st⟩⟩ <;> (try (simp only at h; cases h; done))
    simp only at h
    rcases r3 with _ | _ | _ | _ | r3 <;> rcases x with x | x | x <;> simp only [jput] at h <;> (try (cases h; done))
    · obtain ⟨rfl, rfl, rfl, rfl, rfl⟩ : _ ∧ _ ∧ _ ∧ _ ∧ _ := by simpa only [Option.some.injEq, Prod.mk.injEq] using h
      refine j_putf (v := .int (Int32.ofInt x)) (w' := (jup w.1 (jdr r) r2 x, w.2)) hC0 hG hS hz hwf0 hg.2 hg.1 (by rw [jtyc_0 hty]; rfl) (by rw [jtyc_0 hty]; rfl) (fun H1 hr2 hsz hP => jGood_up hG (by omega) (by omega) ?_ hsz hP) (fun H1 locs1 a b e => kk H1 locs1 ls a b e hls)
      rw [jel_o (by exact hg.1) hci, jfs_set hr2 (by rw [hty]; decide), hty]
      rfl
    · obtain ⟨rfl, rfl, rfl, rfl, rfl⟩ : _ ∧ _ ∧ _ ∧ _ ∧ _ := by simpa only [Option.some.injEq, Prod.mk.injEq] using h
      refine j_putf (v := .long (Int64.ofInt x)) (w' := (jup w.1 (jdr r) r2 x, w.2)) hC0 hG hS hz hwf0 hg.2 hg.1 (by rw [jtyc_1 hty]; rfl) (by rw [jtyc_1 hty]; rfl) (fun H1 hr2 hsz hP => jGood_up hG (by omega) (by omega) ?_ hsz hP) (fun H1 locs1 a b e => kk H1 locs1 ls a b e hls)
      rw [jel_o (by exact hg.1) hci, jfs_set hr2 (by rw [hty]; decide), hty]
      rfl
    · obtain ⟨rfl, rfl, rfl, rfl, rfl⟩ : _ ∧ _ ∧ _ ∧ _ ∧ _ := by simpa only [Option.some.injEq, Prod.mk.injEq] using h
      obtain ⟨a, rfl⟩ : ∃ a, x = some a := ⟨_, jrf_some hg.2.2⟩
      have hnf : narrow (jFy r1 r2) (.ref a) = .ref a ∧ fits (jFy r1 r2) (.ref a) = true := jty_ref hci (jlk_FL hlk9).2 hty
      refine j_putf (v := .ref a) (w' := (w.1, w.2.1, jupr w.2.2.1 (jdr r) r2 (some a), w.2.2.2)) hC0 hG hS hz hwf0 hg.2.1 hg.1 hnf.1 hnf.2 (fun H1 hr2 hsz hP => jGood_upr hG (by omega) (by omega) ?_ hsz hP) (fun H1 locs1 a b e => kk H1 locs1 ls a b e hls)
      rw [jel_o (by exact hg.1) hci, jfs_setr hr2 hty]
      rfl
    · obtain ⟨rfl, rfl, rfl, rfl, rfl⟩ : _ ∧ _ ∧ _ ∧ _ ∧ _ := by simpa only [Option.some.injEq, Prod.mk.injEq] using h
      have h01 : Int32.ofInt x = 0 ∨ Int32.ofInt x = 1 := by rcases hg.2.2 with e | e; exact Or.inl ((j32_nz x).mpr e); exact Or.inr (by rw [show (1 : Int32) = Int32.ofInt 1 from rfl, j32_eq, e]; decide)
      refine j_putf (v := .int (Int32.ofInt x)) (w' := (jup w.1 (jdr r) r2 x, w.2)) hC0 hG hS hz hwf0 hg.2.1 hg.1 (by rw [jtyc_3 hty]; rcases h01 with e | e <;> rw [e] <;> decide) (by rw [jtyc_3 hty]; rcases h01 with e | e <;> rw [e] <;> decide) (fun H1 hr2 hsz hP => jGood_up hG (by omega) (by omega) ?_ hsz hP) (fun H1 locs1 a b e => kk H1 locs1 ls a b e hls)
      rw [jel_o (by exact hg.1) hci, jfs_set hr2 (by rw [hty]; decide), hty]
      rfl
  case getstatic i =>
    simp only [jwf, jlen, Bool.and_eq_true, decide_eq_true_eq, Nat.beq_eq, Nat.blt_eq] at hwf
    obtain ⟨⟨hd, rfl⟩, h1, rfl⟩ := hwf
    simp only [jstep] at h
    obtain ⟨rfl, rfl, rfl, rfl, rfl⟩ : _ ∧ _ ∧ _ ∧ _ ∧ _ := by simpa only [Option.some.injEq, Prod.mk.injEq] using h
    rw [h1] at hown
    refine va_gets hx hb hK.2.1 hS hown (hts _ jWS_ord) (fun _ h9 => h9) hd ?_
    have := kk H locs ls hG hS rfl hls
    rw [hG.2.2.2.2.2.2.1] at this
    exact this
  case arraylength =>
    simp only [jwf, jlen, Bool.and_eq_true, decide_eq_true_eq, Nat.beq_eq, Nat.blt_eq] at hwf
    obtain ⟨⟨hd, rfl⟩, -⟩ := hwf
    simp only [jstep] at h
    rcases st with _ | ⟨x | x | r, st⟩ <;> (try (simp only at h; cases h; done))
    simp only at h
    obtain ⟨rfl, rfl, rfl, rfl, rfl⟩ : _ ∧ _ ∧ _ ∧ _ ∧ _ := by simpa only [Option.some.injEq, Prod.mk.injEq] using h
    refine j_alen hC0 hG hS hd hg.1 hg.2 ?_
    exact kk H locs ls hG hS rfl hls
  case iaload =>
    simp only [jwf, jlen, Bool.and_eq_true, decide_eq_true_eq, Nat.beq_eq, Nat.blt_eq] at hwf
    obtain ⟨⟨hd, rfl⟩, -⟩ := hwf
    simp only [jstep] at h
    rcases st with _ | ⟨i | i | i, _ | ⟨x | x | r, st⟩⟩ <;> (try (simp only at h; cases h; done))
    simp only at h
    obtain ⟨rfl, rfl, rfl, rfl, rfl⟩ : _ ∧ _ ∧ _ ∧ _ ∧ _ := by simpa only [Option.some.injEq, Prod.mk.injEq] using h
    exact j_iald hC0 hG hS hd hg.1 hg.2.1 hg.2.2.1 hg.2.2.2 (kk H locs ls hG hS rfl hls)
  case laload =>
    simp only [jwf, jlen, Bool.and_eq_true, decide_eq_true_eq, Nat.beq_eq, Nat.blt_eq] at hwf
    obtain ⟨⟨hd, rfl⟩, -⟩ := hwf
    simp only [jstep] at h
    rcases st with _ | ⟨i | i | i, _ | ⟨x | x | r, st⟩⟩ <;> (try (simp only at h; cases h; done))
    simp only at h
    obtain ⟨rfl, rfl, rfl, rfl, rfl⟩ : _ ∧ _ ∧ _ ∧ _ ∧ _ := by simpa only [Option.some.injEq, Prod.mk.injEq] using h
    exact j_lald hC0 hG hd hg.1 hg.2.1 hg.2.2.1 hg.2.2.2 (kk H locs ls hG hS rfl hls)
  case aaload =>
    simp only [jwf, jlen, Bool.and_eq_true, decide_eq_true_eq, Nat.beq_eq, Nat.blt_eq] at hwf
    obtain ⟨⟨hd, rfl⟩, -⟩ := hwf
    simp only [jstep] at h
    rcases st with _ | ⟨i | i | i, _ | ⟨x | x | r, st⟩⟩ <;> (try (simp only at h; cases h; done))
    simp only at h
    obtain ⟨rfl, rfl, rfl, rfl, rfl⟩ : _ ∧ _ ∧ _ ∧ _ ∧ _ := by simpa only [Option.some.injEq, Prod.mk.injEq] using h
    exact j_aald hC0 hG hd hg.1 hg.2.1 hg.2.2.1 hg.2.2.2 (kk H locs ls hG hS rfl hls)
  case iastore =>
    simp only [jwf, jlen, Bool.and_eq_true, decide_eq_true_eq, Nat.beq_eq, Nat.blt_eq] at hwf
    obtain ⟨⟨hd, rfl⟩, -⟩ := hwf
    simp only [jstep] at h
    rcases st with _ | ⟨x | x | x, _ | ⟨i | i | i, _ | ⟨y | y | r, st⟩⟩⟩ <;> (try (simp only at h; cases h; done))
    simp only at h
    obtain ⟨rfl, rfl, rfl, rfl, rfl⟩ : _ ∧ _ ∧ _ ∧ _ ∧ _ := by simpa only [Option.some.injEq, Prod.mk.injEq] using h
    exact j_iast hC0 hG hS hz hd hg.1 hg.2.1 hg.2.2.1 hg.2.2.2 (fun H1 locs1 a b e => kk H1 locs1 ls a b e hls)
  case lastore =>
    simp only [jwf, jlen, Bool.and_eq_true, decide_eq_true_eq, Nat.beq_eq, Nat.blt_eq] at hwf
    obtain ⟨⟨hd, rfl⟩, -⟩ := hwf
    simp only [jstep] at h
    rcases st with _ | ⟨x | x | x, _ | ⟨i | i | i, _ | ⟨y | y | r, st⟩⟩⟩ <;> (try (simp only at h; cases h; done))
    simp only at h
    obtain ⟨rfl, rfl, rfl, rfl, rfl⟩ : _ ∧ _ ∧ _ ∧ _ ∧ _ := by simpa only [Option.some.injEq, Prod.mk.injEq] using h
    exact j_last hC0 hG hS hz hd hg.1 hg.2.1 hg.2.2.1 hg.2.2.2 (fun H1 locs1 a b e => kk H1 locs1 ls a b e hls)
  case aastore =>
    simp only [jwf, jlen, Bool.and_eq_true, decide_eq_true_eq, Nat.beq_eq, Nat.blt_eq] at hwf
    obtain ⟨⟨hd, rfl⟩, -⟩ := hwf
    simp only [jstep] at h
    rcases st with _ | ⟨x | x | x, _ | ⟨i | i | i, _ | ⟨y | y | r, st⟩⟩⟩ <;> (try (simp only at h; cases h; done))
    simp only at h
    obtain ⟨rfl, rfl, rfl, rfl, rfl⟩ : _ ∧ _ ∧ _ ∧ _ ∧ _ := by simpa only [Option.some.injEq, Prod.mk.injEq] using h
    exact j_aast hC0 hG hS hz hd hg.1 hg.2.1 hg.2.2.1 hg.2.2.2.1 hg.2.2.2.2 (fun H1 locs1 a b e => kk H1 locs1 ls a b e hls)
  case invokestatic i =>
    simp only [jstep] at h
    have hr1 : 1000 ≤ r1 := jbui_lo h
    simp only [jwf, jlen, Bool.and_eq_true, decide_eq_true_eq, Nat.beq_eq, Nat.blt_eq, Bool.or_eq_true] at hwf
    obtain ⟨⟨hd, rfl⟩, hw⟩ := hwf
    have hw := hw.resolve_left (fun q => by have := q.1.1; omega)
    obtain ⟨hr2, hw⟩ := hw
    simp only [jwbui, Bool.and_eq_true, Bool.or_eq_true, Bool.not_eq_true', Nat.ble_eq] at hw
    obtain ⟨⟨⟨hlk, hfr⟩, hlo⟩, hlo2⟩ := hw
    have hlk2 := hts _ (jlk_BL hlk)
    obtain ⟨-, -, w1, w2, w3, w4, w5, w6, w7, -⟩ := jWS_bui
    subst hR
    rcases jbui_r1 h with rfl | rfl | rfl | rfl | rfl
    · omega
    · rcases st with _ | ⟨x | x | r, st⟩ <;> simp only [jbui] at h <;> (try (cases h; done))
      obtain ⟨rfl, rfl, rfl, rfl, rfl⟩ : _ ∧ _ ∧ _ ∧ _ ∧ _ := by simpa only [Option.some.injEq, Prod.mk.injEq] using h
      refine va_mabs hx hb (hml.trans hls.1.symm) hown hlk2 (hts _ w1) (hts _ w7) (hts _ w2) hfr (by rw [jsum]; show _ ≤ jlo k; omega) hcs.1 hcs.2 hd ?_
      rw [j_abs]
      exact kk H locs ls hG hS rfl hls
    · rcases st with _ | ⟨x | x | r, st⟩ <;> simp only [jbui] at h <;> (try (cases h; done))
      obtain ⟨rfl, rfl, rfl, rfl, rfl⟩ : _ ∧ _ ∧ _ ∧ _ ∧ _ := by simpa only [Option.some.injEq, Prod.mk.injEq] using h
      exact j_absL hx hb (hml.trans hls.1.symm) hown hlk2 (hts _ w3) (hts _ w7) (hts _ w4) hfr (by rw [jsum]; show _ ≤ jlo k; omega) hcs.1 hcs.2 hd (kk H locs ls hG hS rfl hls)
    · rcases st with _ | ⟨y | y | r, _ | ⟨x | x | r2, st⟩⟩ <;> simp only [jbui] at h <;> (try (cases h; done))
      obtain ⟨rfl, rfl, rfl, rfl, rfl⟩ : _ ∧ _ ∧ _ ∧ _ ∧ _ := by simpa only [Option.some.injEq, Prod.mk.injEq] using h
      refine va_mmax hx hb (hml.trans hls.1.symm) hown hlk2 (hts _ w5) (hts _ w7) (hts _ w6) hfr (by rw [jsum]; show _ ≤ jlo k; omega) hcs.1 hcs.2 hd ?_
      rw [j_max]
      exact kk H locs ls hG hS rfl hls
    · rcases st with _ | ⟨n | n | n, _ | ⟨d | d | d, _ | ⟨a | a | a, _ | ⟨sp | sp | sp, _ | ⟨a0 | a0 | a0, st⟩⟩⟩⟩⟩ <;> simp only [jbui] at h <;> (try (cases h; done))
      obtain ⟨rfl, rfl, rfl, rfl, rfl⟩ : _ ∧ _ ∧ _ ∧ _ ∧ _ := by simpa only [Option.some.injEq, Prod.mk.injEq] using h
      exact j_copy hC0 hG hS hz hls.1 hlk hfr (by rcases hlo2 with q | q; (cases q); exact q) hd hg.1 hg.2.1.1 hg.2.1.2.1 hg.2.1.2.2.1 hg.2.1.2.2.2 hg.2.2.1.1 hg.2.2.1.2.1 hg.2.2.1.2.2 hg.2.2.2.1 hg.2.2.2.2 (fun H1 locs1 a b e => kk H1 locs1 ls a b e hls)
  case invokespecial i =>
    simp only [jstep] at h
    have hr1 : 1000 ≤ r1 := jbui_lo h
    simp only [jwf, jlen, Bool.and_eq_true, decide_eq_true_eq, Nat.beq_eq, Nat.blt_eq, Bool.or_eq_true] at hwf
    obtain ⟨⟨hd, rfl⟩, hw⟩ := hwf
    have hw := hw.resolve_left (fun q => by have := q.1.1; omega)
    obtain ⟨rfl, hw⟩ := hw
    simp only [jwbui, Bool.and_eq_true, Bool.or_eq_true, Bool.not_eq_true', Nat.ble_eq] at hw
    obtain ⟨⟨⟨hlk, hfr⟩, hlo⟩, -⟩ := hw
    have hlk2 := hts _ (jlk_BL hlk)
    obtain ⟨w1, w2, -⟩ := jWS_bui
    subst hR
    rcases st with _ | ⟨x | x | r, st⟩ <;> simp only [jbui] at h <;> (try (cases h; done))
    obtain ⟨rfl, rfl, rfl, rfl, rfl⟩ : _ ∧ _ ∧ _ ∧ _ ∧ _ := by simpa only [Option.some.injEq, Prod.mk.injEq] using h
    obtain ⟨a, rfl⟩ : ∃ a, r = some a := ⟨_, jrf_some hg.1⟩
    exact W.objInit hx hb hown hlk2 (hts _ w1) (hts _ w2) rfl (hls.1.trans hml.symm) rfl hd hfr (by rw [jsum]; show 2 * 0 + _ + 12 ≤ jlo k; have := hg.2; omega) (kk H locs ls hG hS rfl hls)
end JSV
end
section
/-- what the machine's frame needs of the state, carried over -/
theorem jAOA {s U : State} (al : s.vm.Alike U.vm) (h : (Cond.arrayOver (.array .long)).before #[] s = true) : (Cond.arrayOver (.array .long)).before #[] U = true := by
  have h1 : (Cond.arrayOver (.array .long)).before #[] (s.setVm U.vm) = true := by rw [Cond.arrayOver_setVmC al]; exact h
  simp only [Cond.before, Cond.holds, Cond.value, State.vm_setVm] at h1 ⊢
  exact h1
theorem jK.moved {D : va_G} {cA : Nat → ClassId} {z0 ao : Nat} {s U : State} {H : Heap} (hW : s.WarmedH U.vm) (hU : U.heap = H) (hS : ∀ q : Nat, q < s.heap.size → ¬ z0 ≤ q → H[q]? = s.heap[q]?) (h : jK D cA z0 ao s) : jK D cA z0 ao U := by
  obtain ⟨h1, h2, h3, h4, ⟨h5, h6, h7⟩, h8⟩ := h
  have al := hW.alike
  subst hU
  refine ⟨va_K.moved al h1, (va_Z.moved al h2).kept hS, (va_T.moved al h3).kept hS, fun w hw => ?_, ⟨va_AO.moved al h5, va_AO.moved al h6, va_AO.moved al h7⟩, ?_⟩
  · have h9 := h4 w hw
    have hn := (List.mem_filter.mp hw).2
    cases w <;> first | (cases hn; done) | exact va_Nw.warmF hW h9 | exact va_Nw.warmM hW h9
  · exact jAOA al h8
theorem jK.same {D : va_G} {cA : Nat → ClassId} {z0 ao : Nat} {s U : State} (hv : s.vm = U.vm) (hh : U.heap = s.heap) (h : jK D cA z0 ao s) : jK D cA z0 ao U := by
  obtain ⟨h1, h2, h3, h4, ⟨h5, h6, h7⟩, h8⟩ := h
  have al : s.vm.Alike U.vm := by rw [hv]; exact Vm.Alike.refl _
  refine ⟨va_K.moved al h1, by rw [hh]; exact va_Z.moved al h2, by rw [hh]; exact va_T.moved al h3, fun w hw => ?_, ⟨va_AO.moved al h5, va_AO.moved al h6, va_AO.moved al h7⟩, jAOA al h8⟩
  have h9 := h4 w hw
  have hn := (List.mem_filter.mp hw).2
  cases w <;> first | (cases hn; done) | exact va_Nw.same rfl hv h9
def jQ (D : va_G) (cA : Nat → ClassId) (z0 ao : Nat) (v : Option jV) (w : jS) (mc : Nat) : Array Value → State → Outcome → State → Prop := fun _ st o t =>
  o = .returned (v.map jg) ∧ jGood D cA z0 ao w t.heap ∧ jK D cA z0 ao t ∧ va_F (fun q => z0 ≤ q) st t ∧ t.heap.size = st.heap.size + mc
def jB (D : va_G) (cA : Nat → ClassId) (z0 ao : Nat) (w : jS) (U : State) : Prop := jGood D cA z0 ao w U.heap ∧ jK D cA z0 ao U ∧ z0 ≤ U.heap.size
section JCT
variable {p : Program} {l : Launch} {ev : Env} {R : Room} {s : State} {m : MethodId} {args : Array Value} {below : List Frame} {meth : Method} {c : Code} {H : Heap} {locs : List Loc} {cells slots : Nat} {Q : State → Prop}
variable {k : Nat} {D : va_G} {cA : Nat → ClassId} {z0 ao : Nat} {ls : Array Slot} {lc : jF} {st : List jV} {w : jS} {pc len r1 r2 r3 : Nat} {z : Int} {x y i : Int} {q v : Option Nat}
theorem jcb_f {cd : Jvm.ClassFile.Cond} {a b : Int} : jcb cd a b = false ↔ ¬ jcb cd a b = true := by simp
theorem j_if {cd : Jvm.ClassFile.Cond} {off : Int} {cc : ByteArray} (hx : p.tables.exec = Jvm.exec) (hb : c.code = cc) (hd : decode cc pc = .ok (.ifCond cd off, 3)) (ht : (pc : Int) + off = (r1 : Int))
    (kk : W p l ev R s m args below meth c H locs cells slots Q (F0 m (bif jcb cd (b32 x) 0 then r1 else pc + 3) ls (st.map jg))) : W p l ev R s m args below meth c H locs cells slots Q (F0 m pc ls (.int (Int32.ofInt x) :: st.map jg)) := by
  have go : ∀ b : Bool, jcb cd (b32 x) 0 = b → W p l ev R s m args below meth c H locs cells slots Q (F0 m (bif b then r1 else pc + 3) ls (st.map jg)) := fun b e => by rw [← e]; exact kk
  have lt0 : Int32.ofInt x < 0 ↔ b32 x < 0 := by rw [j32_0, j32_lt, b32_0]
  have le0 : Int32.ofInt x ≤ 0 ↔ b32 x ≤ 0 := by rw [j32_0, j32_le, b32_0]
  have gt0 : 0 < Int32.ofInt x ↔ 0 < b32 x := by rw [j32_0, j32_lt, b32_0]
  have ge0 : 0 ≤ Int32.ofInt x ↔ 0 ≤ b32 x := by rw [j32_0, j32_le, b32_0]
  have eq0 := j32_nz x
  cases cd with
  | eq => exact lv_if_eq hx hb hd ht (fun h => go true (decide_eq_true (eq0.mp h))) (fun h => go false (decide_eq_false (fun q => h (eq0.mpr q))))
  | ne => exact lv_if_ne hx hb hd ht (fun h => go true (decide_eq_true (fun q => h (eq0.mpr q)))) (fun h => go false (decide_eq_false (fun q => q (eq0.mp h))))
  | lt => exact lv_if_lt hx hb hd ht (fun h => go true (decide_eq_true (lt0.mp h))) (fun h => go false (decide_eq_false (fun q => h (lt0.mpr q))))
  | ge => exact lv_if_ge hx hb hd ht (fun h => go true (decide_eq_true (ge0.mp h))) (fun h => go false (decide_eq_false (fun q => h (ge0.mpr q))))
  | gt => exact lv_if_gt hx hb hd ht (fun h => go true (decide_eq_true (gt0.mp h))) (fun h => go false (decide_eq_false (fun q => h (gt0.mpr q))))
  | le => exact lv_if_le hx hb hd ht (fun h => go true (decide_eq_true (le0.mp h))) (fun h => go false (decide_eq_false (fun q => h (le0.mpr q))))
theorem j_icmp {cd : Jvm.ClassFile.Cond} {off : Int} {cc : ByteArray} (hx : p.tables.exec = Jvm.exec) (hb : c.code = cc) (hd : decode cc pc = .ok (.if_icmp cd off, 3)) (ht : (pc : Int) + off = (r1 : Int))
    (kk : W p l ev R s m args below meth c H locs cells slots Q (F0 m (bif jcb cd (b32 x) (b32 y) then r1 else pc + 3) ls (st.map jg))) : W p l ev R s m args below meth c H locs cells slots Q (F0 m pc ls (.int (Int32.ofInt y) :: .int (Int32.ofInt x) :: st.map jg)) := by
  have go : ∀ b : Bool, jcb cd (b32 x) (b32 y) = b → W p l ev R s m args below meth c H locs cells slots Q (F0 m (bif b then r1 else pc + 3) ls (st.map jg)) := fun b e => by rw [← e]; exact kk
  have lt0 := j32_lt x y
  have le0 := j32_le x y
  have gt0 := j32_lt y x
  have ge0 := j32_le y x
  have eq0 := j32_eq x y
  cases cd with
  | eq => exact lv_icmp_eq hx hb hd ht (fun h => go true (decide_eq_true (eq0.mp h))) (fun h => go false (decide_eq_false (fun q => h (eq0.mpr q))))
  | ne => exact lv_icmp_ne hx hb hd ht (fun h => go true (decide_eq_true (fun q => h (eq0.mpr q)))) (fun h => go false (decide_eq_false (fun q => q (eq0.mp h))))
  | lt => exact lv_icmp_lt hx hb hd ht (fun h => go true (decide_eq_true (lt0.mp h))) (fun h => go false (decide_eq_false (fun q => h (lt0.mpr q))))
  | ge => exact lv_icmp_ge hx hb hd ht (fun h => go true (decide_eq_true (ge0.mp h))) (fun h => go false (decide_eq_false (fun q => h (ge0.mpr q))))
  | gt => exact lv_icmp_gt hx hb hd ht (fun h => go true (decide_eq_true (gt0.mp h))) (fun h => go false (decide_eq_false (fun q => h (gt0.mpr q))))
  | le => exact lv_icmp_le hx hb hd ht (fun h => go true (decide_eq_true (le0.mp h))) (fun h => go false (decide_eq_false (fun q => h (le0.mpr q))))
theorem jsw_table (lo : Int) (pc : Nat) (d : Nat) : ∀ (offs : List Int) (n : Nat) (ps : List (Int × Nat)) (x : Int), ps.map (fun q => (q.1, (q.2 : Int))) = (offs.zipIdx n).map (fun o => (lo + o.2, (pc : Int) + o.1)) →
    (x < lo + n ∨ lo + n + offs.length ≤ x → jsw ps d x = d) ∧ (∀ off, lo + n ≤ x → offs[(x - lo - n).toNat]? = some off → (pc : Int) + off = (jsw ps d x : Int))
  | [], n, ps, x, h => by
    have : ps = [] := by simpa using h
    subst this
    exact ⟨fun _ => rfl, fun off _ h => by simp at h⟩
  | o :: offs, n, [], x, h => by simp at h
  | o :: offs, n, q :: ps, x, h => by
    simp only [List.zipIdx_cons, List.map_cons, List.cons.injEq, Prod.mk.injEq] at h
    obtain ⟨⟨h1, h2⟩, h3⟩ := h
    obtain ⟨i1, i2⟩ := jsw_table lo pc d offs (n + 1) ps x h3
    constructor
    · intro hx
      have hl : (o :: offs).length = offs.length + 1 := rfl
      rw [hl] at hx
      unfold jsw
      rw [if_neg (by omega)]
      exact i1 (by omega)
    · intro off hx ho
      unfold jsw
      by_cases e : q.1 = x
      · rw [if_pos e]
        rw [show (x - lo - n).toNat = 0 by omega] at ho
        simp at ho
        omega
      · rw [if_neg e]
        refine i2 off (by omega) ?_
        rw [show (x - lo - (n : Int)).toNat = (x - lo - ((n + 1 : Nat) : Int)).toNat + 1 by omega] at ho
        simpa using ho
theorem jsw_look (pc d : Nat) (dd : Int) (hd : (pc : Int) + dd = (d : Int)) : ∀ (os : List (Int × Int)) (ps : List (Int × Nat)) (x : Int), ps.map (fun q => (q.1, (q.2 : Int))) = os.map (fun o => (o.1, (pc : Int) + o.2)) → (pc : Int) + Op.lookupswitch.offset os dd x = (jsw ps d x : Int)
  | [], ps, x, h => by
    have : ps = [] := by simpa using h
    subst this
    exact hd
  | o :: os, [], x, h => by simp at h
  | o :: os, q :: ps, x, h => by
    simp only [List.map_cons, List.cons.injEq, Prod.mk.injEq] at h
    obtain ⟨⟨h1, h2⟩, h3⟩ := h
    have ih := jsw_look pc d dd hd os ps x h3
    obtain ⟨a, o⟩ := o
    rw [Op.lookupswitch.offset_cons]
    unfold jsw
    by_cases e : q.1 = x
    · rw [if_pos e, if_pos (by omega)]
      exact h2.symm
    · rw [if_neg e, if_neg (by omega)]
      exact ih
theorem j_tsw {d lo hi : Int} {offs : Array Int} (hC : jCtx k p R s m args meth c D cA z0 ao) (hwf : jwf k (pc, .tableswitch d lo hi offs, len, r1, r2, r3, z) = true)
    (kk : W p l ev R s m args below meth c H locs cells slots Q (F0 m (jsw (jswt r1).1 (jswt r1).2 (b32 x)) ls (st.map jg))) : W p l ev R s m args below meth c H locs cells slots Q (F0 m pc ls (.int (Int32.ofInt x) :: st.map jg)) := by
  obtain ⟨hx, hb, -⟩ := hC
  simp only [jwf, Bool.and_eq_true, decide_eq_true_eq] at hwf
  obtain ⟨⟨hd, -⟩, ⟨h1, h2⟩, h3⟩ := hwf
  obtain ⟨i1, i2⟩ := jsw_table lo pc (jswt r1).2 offs.toList 0 (jswt r1).1 (b32 x) h3
  have hsz : (offs.toList.length : Int) = offs.size := by simp
  by_cases hin : (Int32.ofInt x).toInt < lo ∨ hi < (Int32.ofInt x).toInt
  · have hin2 := hin
    rw [j32] at hin2
    have h9 : b32 x < lo + ((0 : Nat) : Int) ∨ lo + ((0 : Nat) : Int) + (offs.toList.length : Int) ≤ b32 x := by rw [hsz]; omega
    rw [i1 h9] at kk
    exact lv_tableOut hx hb hd hin h1 kk
  · have hin2 := hin
    rw [j32] at hin2
    have hlt : (b32 x - lo).toNat < offs.size := by omega
    have ho : offs[(b32 x - lo).toNat]? = some offs[(b32 x - lo).toNat] := Array.getElem?_eq_getElem hlt
    refine lv_tableIn hx hb hd (by rw [j32]; omega) (by rw [j32]; omega) (by rw [j32]; exact ho) (i2 _ (by omega) ?_) kk
    rw [show (b32 x - lo - ((0 : Nat) : Int)).toNat = (b32 x - lo).toNat by omega, Array.getElem?_toList]
    exact ho
theorem j_lsw {d : Int} {ps : Array (Int × Int)} (hC : jCtx k p R s m args meth c D cA z0 ao) (hwf : jwf k (pc, .lookupswitch d ps, len, r1, r2, r3, z) = true)
    (kk : W p l ev R s m args below meth c H locs cells slots Q (F0 m (jsw (jswt r1).1 (jswt r1).2 (b32 x)) ls (st.map jg))) : W p l ev R s m args below meth c H locs cells slots Q (F0 m pc ls (.int (Int32.ofInt x) :: st.map jg)) := by
  obtain ⟨hx, hb, -⟩ := hC
  simp only [jwf, Bool.and_eq_true, decide_eq_true_eq] at hwf
  obtain ⟨⟨hd, -⟩, ⟨h1, h2⟩, h3⟩ := hwf
  refine lv_lookup hx hb hd h3 rfl ?_ kk
  rw [j32]
  exact jsw_look pc (jswt r1).2 d h1 ps.toList (jswt r1).1 (b32 x) h2
/-- behind a call -/
theorem j_call {cells slots mc ms : Nat} {rest : List jV} {st0 : List Value} {a : Array Value} {v1 : Option jV} {w1 : jS} (hr : va_Run p l ev R s m args below meth c H locs cells slots mc ms (F0 m pc ls st0) (rest.map jg) (jQ D cA z0 ao v1 w1 mc a) (fun q => z0 ≤ q)) (hS : va_S (fun q => z0 ≤ q) s.heap H locs) (hz : H.size = s.heap.size + cells)
    (kk : ∀ (H1 : Heap) (locs1 : List Loc), jGood D cA z0 ao w1 H1 → va_S (fun q => z0 ≤ q) s.heap H1 locs1 → H1.size = s.heap.size + (cells + mc) → W p l ev R s m args below meth c H1 locs1 (cells + mc) (slots + ms) Q (F0 m (pc + 3) ls ((v1.toList ++ rest).map jg))) : W p l ev R s m args below meth c H locs cells slots Q (F0 m pc ls st0) := by
  intro T hT X
  obtain ⟨v, st₀, t, T', L, h0, X', hL, e1, e2, ⟨hv, hg, -, ⟨hz1, hk⟩, hsz⟩, st⟩ := hr T hT X
  have hv : v = v1.map jg := by
    have := hv
    injection this
  subst hv
  rw [h0] at hz1 hk hsz
  obtain ⟨t2, a1, b1⟩ := kk T'.heap (locs ++ L) (by rw [e1]; exact hg) ⟨Nat.le_trans hS.1 (by rw [e1]; exact hz1), fun q h1 h2 => by rw [e1, hk q (Nat.lt_of_lt_of_le h1 hS.1) h2]; exact hS.2.1 q h1 h2, fun q hq => by
      rcases List.mem_append.mp hq with h | h
      · exact hS.2.2 q h
      · exact hL q h⟩ (by rw [e1, hsz]; omega) T' rfl X'
  refine ⟨t2, st t2 ?_, b1⟩
  have e : (v1.map jg).toList ++ rest.map jg = (v1.toList ++ rest).map jg := by cases v1 <;> simp
  show Steps _ _ _ (T'.setTop { F0 m pc ls st0 with pc := pc + 3, stack := (v1.map jg).toList ++ rest.map jg }) t2
  rw [e]
  exact a1
end JCT
end
section
theorem jins_dec : (List.range 10).all (fun ci => decide (Cond.instantiable (jFR ci) (jFN ci) ∈ lw_tbl) && goodWord (Cond.instantiable (jFR ci) (jFN ci)) && decide (Cond.initialized (jFR ci) ∈ lw_tbl) && goodWord (Cond.initialized (jFR ci))) = true := by decide +kernel
theorem jins_in {ci : Nat} (h : ci < 10) : Cond.instantiable (jFR ci) (jFN ci) ∈ jWS ∧ Cond.initialized (jFR ci) ∈ jWS := by
  have h1 := List.all_eq_true.mp jins_dec ci (List.mem_range.mpr h)
  simp only [Bool.and_eq_true, decide_eq_true_eq] at h1
  exact ⟨List.mem_filter.mpr ⟨h1.1.1.1, h1.1.1.2⟩, List.mem_filter.mpr ⟨h1.1.2, h1.2⟩⟩
theorem jarr_in : Cond.arrayClass .int ∈ jWS ∧ Cond.arrayClass .long ∈ jWS := by
  have h : ([Cond.arrayClass .int, Cond.arrayClass .long] : List Jvm.Cond).all (fun w => decide (w ∈ lw_tbl) && goodWord w) = true := by decide +kernel
  have key : ∀ w ∈ ([Cond.arrayClass .int, Cond.arrayClass .long] : List Jvm.Cond), w ∈ jWS := fun w hw => by
    have h1 := List.all_eq_true.mp h w hw
    simp only [Bool.and_eq_true, decide_eq_true_eq] at h1
    exact List.mem_filter.mpr h1
  exact ⟨key _ (List.mem_of_getElem? (i := 0) rfl), key _ (List.mem_of_getElem? (i := 1) rfl)⟩
theorem jws_len {cA : Nat → ClassId} {z0 : Nat} {w : jS} : (jws cA z0 w).length = w.2.2.2.1 - z0 := by simp [jws]
/-- a new cell stands at the heap's end -/
theorem jnew_q {D : va_G} {cA : Nat → ClassId} {z0 ao q : Nat} {w : jS} {H H1 : Heap} {e : va_E} (hG : jGood D cA z0 ao w H) (hP : va_P D vwCl (jws cA z0 w ++ [(q, e)]) H1) (hD : va_D (fun q => z0 ≤ q) (jws cA z0 w ++ [(q, e)])) (hle : H1.size ≤ H.size + 1) : q = H.size ∧ H1.size = H.size + 1 := by
  have hq : (jws cA z0 w ++ [(q, e)])[w.2.2.2.1 - z0]? = some (q, e) := by
    rw [← jws_len (cA := cA), List.getElem?_append_right (Nat.le_refl _)]
    simp
  have h1 : q < H1.size := (hP _ _ hq).lt
  have h2 : z0 ≤ q := hD.2 _ _ hq
  have h3 : H.size ≤ q := by
    rcases Nat.lt_or_ge q H.size with h | h
    · exfalso
      have hat : (jws cA z0 w ++ [(q, e)])[q - z0]? = some (q, jel cA w q) := by
        rw [List.getElem?_append_left (by rw [jws_len]; have := hG.1; omega)]
        exact jws_at h2 (by have := hG.1; omega)
      have := hD.1 _ _ _ _ hq hat rfl
      have := hG.1
      omega
    · exact h
  omega
theorem jGood_new {D : va_G} {cA : Nat → ClassId} {z0 ao t n : Nat} {w : jS} {H H1 : Heap} {e : va_E} (hG : jGood D cA z0 ao w H) (hs : H1.size = H.size + 1) (ht : t ≠ 99) (he : jel cA (jnewo w t n) w.2.2.2.1 = e) (hP : va_P D vwCl (jws cA z0 w ++ [(w.2.2.2.1, e)]) H1) : jGood D cA z0 ao (jnewo w t n) H1 := by
  obtain ⟨g1, g2, g3, g4, g5, g6, g7, g8⟩ := hG
  have hne : ao ≠ w.2.2.2.1 := by omega
  refine ⟨by show H1.size = w.2.2.2.1 + 1; omega, by show z0 ≤ w.2.2.2.1 + 1; omega, ?_, fun a ha => ?_, ?_, fun j => ?_, g7, g8⟩
  · intro i q hq
    obtain ⟨rfl, hi⟩ := jws_get hq
    have hi : i < w.2.2.2.1 + 1 - z0 := hi
    by_cases hl : i < w.2.2.2.1 - z0
    · have hne : z0 + i ≠ w.2.2.2.1 := by omega
      have e1 : jel cA (jnewo w t n) (z0 + i) = jel cA w (z0 + i) := jel_congr (by simp [jnewo, hne]) (fun j => by simp [jnewo, hne]) (fun j => by simp [jnewo, hne])
      rw [e1]
      refine hP i _ ?_
      rw [List.getElem?_append_left (by rw [jws_len]; exact hl)]
      have := jws_at (cA := cA) (w := w) (a := z0 + i) (z0 := z0) (by omega) (by omega)
      rw [show z0 + i - z0 = i by omega] at this
      exact this
    · have hi2 : z0 + i = w.2.2.2.1 := by omega
      rw [hi2, he]
      refine hP i _ ?_
      rw [List.getElem?_append_right (by rw [jws_len]; omega), jws_len, show i - (w.2.2.2.1 - z0) = 0 by omega]
      rfl
  · by_cases e : a = w.2.2.2.1
    · exact Or.inr ⟨by omega, by show a < w.2.2.2.1 + 1; omega⟩
    · have : (w.2.1 a).1 ≠ 0 := by simpa [jnewo, e] using ha
      rcases g4 a this with h | h
      · exact Or.inl h
      · exact Or.inr ⟨h.1, by show a < w.2.2.2.1 + 1; omega⟩
  · show (if ao = w.2.2.2.1 then (t, n) else w.2.1 ao) = _
    rw [if_neg hne]
    exact g5
  · show (if ao = w.2.2.2.1 then 0 else w.1 ao j) = _
    rw [if_neg hne]
    exact g6 j
theorem jelN_kd {w : jS} {t n : Nat} : (jnewo w t n).2.1 w.2.2.2.1 = (t, n) := by simp [jnewo]
section JAL
variable {p : Program} {l : Launch} {ev : Env} {R : Room} {s : State} {m : MethodId} {args : Array Value} {below : List Frame} {meth : Method} {c : Code} {H : Heap} {locs : List Loc} {cells slots : Nat} {Q : State → Prop}
variable {k : Nat} {D : va_G} {cA : Nat → ClassId} {z0 ao : Nat} {ls : Array Slot} {lc : jF} {st : List jV} {w : jS} {pc len r1 r2 r3 : Nat} {z : Int} {x y i : Int} {q v : Option Nat}
theorem j_new {i : Nat} (hC : jCtx k p R s m args meth c D cA z0 ao) (hG : jGood D cA z0 ao w H) (hS : va_S (fun q => z0 ≤ q) s.heap H locs) (hz : H.size = s.heap.size + cells) (hwf : jwf k (pc, .new i, len, r1, r2, r3, z) = true) (hc : cells + 1 ≤ jmc k) (hs : slots + r2 ≤ jms k)
    (kk : ∀ (H1 : Heap), jGood D cA z0 ao (jnewo w (r1 + 1) 0) H1 → va_S (fun q => z0 ≤ q) s.heap H1 locs → H1.size = s.heap.size + (cells + 1) → W p l ev R s m args below meth c H1 locs (cells + 1) (slots + r2) Q (F0 m (pc + len) ls (.ref w.2.2.2.1 :: st.map jg))) : W p l ev R s m args below meth c H locs cells slots Q (F0 m pc ls (st.map jg)) := by
  have hA := jA hC
  obtain ⟨hx, hb, -, -, -, hown, -, hts, rfl, hK, -⟩ := hC
  simp only [jwf, jlen, Bool.and_eq_true, decide_eq_true_eq, Nat.beq_eq, Nat.blt_eq] at hwf
  obtain ⟨⟨hd, rfl⟩, ⟨h1, hci⟩, rfl⟩ := hwf
  obtain ⟨w1, w2⟩ := jins_in hci
  have hfs : ∀ j, j < jFN r1 → defaultValue (jFy r1 j) = vp_V (jfs r1 (jnewo w (r1 + 1) 0) w.2.2.2.1) j := by
    intro j hj
    show _ = (jfs r1 (jnewo w (r1 + 1) 0) w.2.2.2.1).getD j .null
    rw [List.getD_eq_getElem?_getD, jfs_at hj]
    have hr := List.all_eq_true.mp (List.all_eq_true.mp jisrf_dec r1 (List.mem_range.mpr hci)) j (List.mem_range.mpr hj)
    cases ht : jFy r1 j <;> rw [ht] at hr <;> first | (cases hr; done) | simp [jtyc, jfv, jnewo, jg, va_rf, defaultValue]
  refine va_new (A := fun q => z0 ≤ q) hx hb hts (jlay_in hci) (jFy r1) (jty_ok hci) hown (hts _ (jlk_CK h1)) (hts _ w1) (hts _ w2) hK.1 hG.2.2.1 jws_D hS hA (jcl_at hci) hfs hc hs hd (fun q H1 hP hD hS1 => ?_)
  refine W.sz (fun hle => ?_)
  obtain ⟨rfl, hsz⟩ := jnew_q hG hP hD (by omega)
  rw [hG.1] at hP ⊢
  exact kk H1 (jGood_new hG hsz (by omega) (jel_o (by rw [jelN_kd]) hci) hP) hS1 (by omega)
theorem jKc {s : State} (h : va_K D vwCl (jtys cA) s) {t : Nat} {c1 : ClassId} {ty : FieldType} (ht : (jtys cA)[t]? = some (cA t, ty)) (h1 : va_K D vwCl (jtys cA ++ [(c1, ty)]) s) : c1 = cA t := by
  have a := (h.2 _ _ ht).2
  have b := (h1.2 (jtys cA).length (c1, ty) (by rw [List.getElem?_append_right (Nat.le_refl _)]; simp)).2
  cases ty with
  | object C =>
    obtain ⟨_, _, -, -, -, f1⟩ := a
    obtain ⟨_, _, -, -, -, f2⟩ := b
    exact Option.some.inj (f2.symm.trans f1)
  | _ => exact Option.some.inj (Eq.trans (Eq.symm (show s.vm.findClass _ = some c1 from b)) (show s.vm.findClass _ = some (cA t) from a))
theorem j_newa {t : ArrayType} (hC : jCtx k p R s m args meth c D cA z0 ao) (hG : jGood D cA z0 ao w H) (hS : va_S (fun q => z0 ≤ q) s.heap H locs) (hz : H.size = s.heap.size + cells) (hwf : jwf k (pc, .newarray t, len, r1, r2, r3, z) = true) (hx0 : 0 ≤ b32 x ∧ b32 x ≤ 1000) (hc : cells + 1 ≤ jmc k) (hs : slots + (b32 x).toNat ≤ jms k)
    (kk : ∀ (H1 : Heap), jGood D cA z0 ao (jnewo w r1 (b32 x).toNat) H1 → va_S (fun q => z0 ≤ q) s.heap H1 locs → H1.size = s.heap.size + (cells + 1) → W p l ev R s m args below meth c H1 locs (cells + 1) (slots + (b32 x).toNat) Q (F0 m (pc + len) ls (.ref w.2.2.2.1 :: st.map jg))) : W p l ev R s m args below meth c H locs cells slots Q (F0 m pc ls (.int (Int32.ofInt x) :: st.map jg)) := by
  have hA := jA hC
  obtain ⟨hx, hb, -, -, -, hown, -, hts, rfl, hK, -⟩ := hC
  cases t <;> simp only [jwf, jlen, Bool.and_eq_true, decide_eq_true_eq, Nat.beq_eq, Nat.blt_eq] at hwf <;> (try (cases hwf.2; done))
  · obtain ⟨⟨hd, rfl⟩, rfl⟩ := hwf
    refine va_newa (A := fun q => z0 ≤ q) (atype := .int) (ty := .int) (a0 := ((b32 x).toNat, .inl (fun _ => 0))) hx hb (hts _ jarr_in.1) rfl hK.1 hG.2.2.1 jws_D hS hA (fun _ => rfl) (j32_neg0 hx0.1) (j32_cl x) (by show (b32 x).toNat * 4 ≤ _; omega) hc hs hd (fun q c1 H1 hK1 hP hD hS1 => ?_)
    refine W.sz (fun hle => ?_)
    obtain ⟨rfl, hsz⟩ := jnew_q hG hP hD (by omega)
    rw [hG.1] at hP ⊢
    have hc1 := jKc (t := 0) hK.1 rfl hK1
    subst hc1
    refine kk H1 (jGood_new hG hsz (by omega) ?_ hP) hS1 (by omega)
    rw [jel_i (by rw [jelN_kd]), jelN_kd]
    simp [jnewo]
  · obtain ⟨⟨hd, rfl⟩, rfl⟩ := hwf
    refine va_newa (A := fun q => z0 ≤ q) (atype := .long) (ty := .long) (a0 := ((b32 x).toNat, .inr (.inl (fun _ => 0)))) hx hb (hts _ jarr_in.2) rfl hK.1 hG.2.2.1 jws_D hS hA (fun _ => rfl) (j32_neg0 hx0.1) (j32_cl x) (by show (b32 x).toNat * 8 ≤ _; omega) hc hs hd (fun q c1 H1 hK1 hP hD hS1 => ?_)
    refine W.sz (fun hle => ?_)
    obtain ⟨rfl, hsz⟩ := jnew_q hG hP hD (by omega)
    rw [hG.1] at hP ⊢
    have hc1 := jKc (t := 1) hK.1 rfl hK1
    subst hc1
    refine kk H1 (jGood_new hG hsz (by omega) ?_ hP) hS1 (by omega)
    rw [jel_l (by rw [jelN_kd]), jelN_kd]
    simp [jnewo]
theorem j_newq {i : Nat} (hC : jCtx k p R s m args meth c D cA z0 ao) (hG : jGood D cA z0 ao w H) (hS : va_S (fun q => z0 ≤ q) s.heap H locs) (hz : H.size = s.heap.size + cells) (hwf : jwf k (pc, .anewarray i, len, r1, r2, r3, z) = true) (hx0 : 0 ≤ b32 x ∧ b32 x ≤ 1000) (hc : cells + 1 ≤ jmc k) (hs : slots + (b32 x).toNat ≤ jms k)
    (kk : ∀ (H1 : Heap), jGood D cA z0 ao (jnewo w r1 (b32 x).toNat) H1 → va_S (fun q => z0 ≤ q) s.heap H1 locs → H1.size = s.heap.size + (cells + 1) → W p l ev R s m args below meth c H1 locs (cells + 1) (slots + (b32 x).toNat) Q (F0 m (pc + len) ls (.ref w.2.2.2.1 :: st.map jg))) : W p l ev R s m args below meth c H locs cells slots Q (F0 m pc ls (.int (Int32.ofInt x) :: st.map jg)) := by
  have hA := jA hC
  obtain ⟨hx, hb, -, -, -, hown, -, hts, rfl, hK, -⟩ := hC
  simp only [jwf, jlen, Bool.and_eq_true, decide_eq_true_eq, Nat.beq_eq, Nat.blt_eq, Bool.or_eq_true] at hwf
  obtain ⟨⟨hd, rfl⟩, hw⟩ := hwf
  have key : ∀ (t : Nat) (C : String), (jtys cA)[t]? = some (cA t, .object C) → r1 = t + 100 → 2 ≤ t → (Cond.classLink (jCn (jown k)) i C).before args s = true → va_AO C s → W p l ev (jrm k) s m args below meth c H locs cells slots Q (F0 m pc ls (.int (Int32.ofInt x) :: st.map jg)) := by
    intro t C ht hr h2 hcl hao
    refine va_newq (A := fun q => z0 ≤ q) (N' := (b32 x).toNat) hx hb hown hcl hao hK.1 hG.2.2.1 jws_D hS hA (j32_neg0 hx0.1) (j32_cl x) (by omega) hc hs hd (fun q c1 H1 hK1 hP hD hS1 => ?_)
    refine W.sz (fun hle => ?_)
    obtain ⟨rfl, hsz⟩ := jnew_q hG hP hD (by omega)
    rw [hG.1] at hP ⊢
    have hc1 := jKc hK.1 ht hK1
    subst hc1
    refine kk H1 (jGood_new hG hsz (by omega) ?_ hP) hS1 (by omega)
    rw [jel_q (by rw [jelN_kd]; show 102 ≤ r1; omega), jelN_kd]
    simp [jnewo, show r1 - 100 = t by omega]
  rcases hw with (⟨h1, h2⟩ | ⟨h1, h2⟩) | ⟨h1, h2⟩
  · exact key 2 _ rfl h1 (by omega) (hts _ (jlk_CK h2)) hK.2.2.2.2.1.1
  · exact key 3 _ rfl h1 (by omega) (hts _ (jlk_CK h2)) hK.2.2.2.2.1.2.1
  · exact key 4 _ rfl h1 (by omega) (hts _ (jlk_CK h2)) hK.2.2.2.2.1.2.2
end JAL
end
section
theorem jvr_outer (c : ClassId) (N h0 : Nat) : ∀ i : Nat, Jvm.Free.Multi.outerC c N h0 i = arrV c N (fun j => va_rf (if j < i then some (h0 + 1 + j) else none))
  | 0 => by
    show ({ cls := c, slots := Array.replicate N .null, vm := .none } : Cell) = _
    rw [arrV_new]
    refine congrArg (arrV c N) (funext fun j => ?_)
    simp [va_rf]
  | i + 1 => by
    show (Jvm.Free.Multi.outerC c N h0 i).setSlot i (.ref (h0 + 1 + i)) = _
    rw [jvr_outer c N h0 i, arrV_store]
    refine congrArg (arrV c N) (funext fun j => ?_)
    by_cases e : j = i
    · subst e
      simp [updV, va_rf]
    · by_cases h : j < i
      · simp [updV, e, h, Nat.lt_succ_of_lt h]
      · simp [updV, e, h, show ¬ j < i + 1 by omega]
theorem jGood_new2 {D : va_G} {cA : Nat → ClassId} {z0 ao n k : Nat} {w : jS} {H H1 : Heap} (hG : jGood D cA z0 ao w H) (hs : H1.size = H.size + 1 + n) (ho : ∀ q : Nat, q < H.size → H1[q]? = H[q]?)
    (h1 : H1[H.size]? = some (vp_cell (cA 5) (n, .inr (.inr (.inr (.inr (fun i => if i < n then some (H.size + 1 + i) else none)))))))
    (h2 : ∀ j, j < n → H1[H.size + 1 + j]? = some (vp_cell (cA 1) (k, .inr (.inl (fun _ => 0))))) : jGood D cA z0 ao (jnew2 w n k) H1 := by
  obtain ⟨g1, g2, g3, g4, g5, g6, g7, g8⟩ := hG
  rw [g1] at h1 h2 ho hs
  refine ⟨hs, by show z0 ≤ w.2.2.2.1 + 1 + n; omega, ?_, fun a ha => ?_, ?_, fun j => ?_, g7, g8⟩
  · intro i q hq
    obtain ⟨rfl, hi⟩ := jws_get hq
    have hi : i < w.2.2.2.1 + 1 + n - z0 := hi
    rcases Nat.lt_trichotomy (z0 + i) w.2.2.2.1 with hl | hl | hl
    · have hne : z0 + i ≠ w.2.2.2.1 := by omega
      have hn1 : ¬ (w.2.2.2.1 < z0 + i ∧ z0 + i ≤ w.2.2.2.1 + n) := by omega
      have hn2 : ¬ (w.2.2.2.1 ≤ z0 + i ∧ z0 + i ≤ w.2.2.2.1 + n) := by omega
      have e1 : jel cA (jnew2 w n k) (z0 + i) = jel cA w (z0 + i) := jel_congr (by simp only [jnew2]; rw [if_neg hne, if_neg hn1]) (fun j => by simp only [jnew2]; rw [if_neg hn2]) (fun j => by simp only [jnew2]; rw [if_neg hne, if_neg hn1])
      rw [e1]
      have h3 := jws_at (cA := cA) (w := w) (a := z0 + i) (z0 := z0) (by omega) (by omega)
      exact (g3 _ _ h3).kept (ho _ hl)
    · have hkd : (jnew2 w n k).2.1 (z0 + i) = (105, n) := by simp only [jnew2]; rw [if_pos hl]
      rw [jel_q (by rw [hkd]; show 102 ≤ 105; omega), hkd]
      show H1[z0 + i]? = _
      rw [hl, h1]
      congr 7
      funext j
      simp only [jnew2]
      rw [if_pos trivial]
    · have hkd : (jnew2 w n k).2.1 (z0 + i) = (101, k) := by simp only [jnew2]; rw [if_neg (by omega), if_pos (by omega)]
      rw [jel_l (by rw [hkd]), hkd]
      show H1[z0 + i]? = _
      rw [show z0 + i = w.2.2.2.1 + 1 + (z0 + i - w.2.2.2.1 - 1) by omega, h2 _ (by omega)]
      congr 5
      funext j
      simp only [jnew2]
      rw [if_pos (by omega)]
      rfl
  · by_cases e : w.2.2.2.1 ≤ a ∧ a ≤ w.2.2.2.1 + n
    · exact Or.inr ⟨by omega, by show a < w.2.2.2.1 + 1 + n; omega⟩
    · have : (w.2.1 a).1 ≠ 0 := by
        simp only [jnew2] at ha
        rw [if_neg (by omega), if_neg (by omega)] at ha
        exact ha
      rcases g4 a this with h | h
      · exact Or.inl h
      · exact Or.inr ⟨h.1, by show a < w.2.2.2.1 + 1 + n; omega⟩
  · simp only [jnew2]
    rw [if_neg (by omega), if_neg (by omega)]
    exact g5
  · simp only [jnew2]
    rw [if_neg (by omega)]
    exact g6 j
theorem jmul_in : Cond.classLink RX10 29 ("[" ++ (FieldType.array .long).toString) ∈ jWS := by
  have h : (decide (Cond.classLink RX10 29 ("[" ++ (FieldType.array .long).toString) ∈ lw_tbl) && goodWord (Cond.classLink RX10 29 ("[" ++ (FieldType.array .long).toString))) = true := by decide +kernel
  simp only [Bool.and_eq_true, decide_eq_true_eq] at h
  exact List.mem_filter.mpr h
section JMU
variable {p : Program} {l : Launch} {ev : Env} {R : Room} {s : State} {m : MethodId} {args : Array Value} {below : List Frame} {meth : Method} {c : Code} {H : Heap} {locs : List Loc} {cells slots : Nat} {Q : State → Prop}
variable {k : Nat} {D : va_G} {cA : Nat → ClassId} {z0 ao : Nat} {ls : Array Slot} {lc : jF} {st : List jV} {w : jS} {pc len r1 r2 r3 : Nat} {z : Int} {x y i : Int} {q v : Option Nat}
theorem j_mna {i d : Nat} (hC : jCtx k p R s m args meth c D cA z0 ao) (hG : jGood D cA z0 ao w H) (hS : va_S (fun q => z0 ≤ q) s.heap H locs) (hz : H.size = s.heap.size + cells) (hwf : jwf k (pc, .multianewarray i d, len, r1, r2, r3, z) = true) (hx0 : 0 ≤ b32 x ∧ b32 x ≤ 1000 ∧ 0 ≤ b32 y ∧ b32 y ≤ 1000) (hc : cells + (1 + (b32 x).toNat) ≤ jmc k) (hs : slots + ((b32 x).toNat + (b32 x).toNat * (b32 y).toNat) ≤ jms k)
    (kk : ∀ (H1 : Heap), jGood D cA z0 ao (jnew2 w (b32 x).toNat (b32 y).toNat) H1 → va_S (fun q => z0 ≤ q) s.heap H1 locs → H1.size = s.heap.size + (cells + 1 + (b32 x).toNat) → W p l ev R s m args below meth c H1 locs (cells + 1 + (b32 x).toNat) (slots + (b32 x).toNat + (b32 x).toNat * (b32 y).toNat) Q (F0 m (pc + len) ls (.ref w.2.2.2.1 :: st.map jg))) : W p l ev R s m args below meth c H locs cells slots Q (F0 m pc ls (.int (Int32.ofInt y) :: .int (Int32.ofInt x) :: st.map jg)) := by
  have hA := jA hC
  obtain ⟨hx, hb, -, -, -, hown, -, hts, rfl, hK, -⟩ := hC
  simp only [jwf, jlen, Bool.and_eq_true, decide_eq_true_eq, Nat.beq_eq, Nat.blt_eq] at hwf
  obtain ⟨⟨hd, rfl⟩, ⟨hw, rfl⟩, rfl⟩ := hwf
  rw [hw] at hown
  have hover : (Cond.arrayOver (.array .long)).before args s = true := by
    have := hK.2.2.2.2.2
    simp only [Cond.before, Cond.holds, Cond.value] at this ⊢
    exact this
  intro T hT Xs
  have e1 : (Int32.ofInt x).toNatClampNeg = (b32 x).toNat := j32_cl x
  have e2 : (Int32.ofInt y).toNatClampNeg = (b32 y).toNat := j32_cl y
  obtain ⟨vm₁, c5, comp, -, fA, fC, hO, -, X', step⟩ := Xs.multianewarray2F hx (own := RX10) (ty := .long) hown (hts _ jmul_in) hover (hts _ jarr_in.2) (g := F0 m pc ls (.int (Int32.ofInt y) :: .int (Int32.ofInt x) :: st.map jg)) rfl (by rw [hb]; exact hd) rfl (j32_neg0 hx0.1) (j32_neg0 hx0.2.2.1) (by rw [e1]; omega) (by rw [e2]; show (b32 y).toNat * 8 ≤ _; omega) (by rw [e2]; omega) rfl rfl (by rw [e1]; exact hc) (by rw [e1, e2]; exact hs)
  rw [e1, e2] at X' step
  have hc5 : c5 = cA 5 := by
    have b : s.vm.findClass ("[" ++ (FieldType.array .long).toString) = some (cA 5) := (hK.1.2 5 _ rfl).2
    exact Option.some.inj (fA.symm.trans b)
  have hc1 : comp = cA 1 := by
    have b : s.vm.findClass ("[" ++ FieldType.long.toString) = some (cA 1) := (hK.1.2 1 _ rfl).2
    exact Option.some.inj (fC.symm.trans b)
  subst hc5
  subst hc1
  generalize hF : Jvm.Free.Multi.fill (T.setVm vm₁) (cA 5) (cA 1) (b32 x).toNat (b32 y).toNat (defaultValue .long) (b32 x).toNat = F at X' step
  have hTh : (T.setVm vm₁).heap = H := hT
  obtain ⟨f1, f2, -, -⟩ := Jvm.Free.Multi.fill_facts (T.setVm vm₁) (cA 5) (cA 1) (b32 x).toNat (b32 y).toNat (defaultValue .long) (b32 x).toNat
  rw [hF, hTh] at f1 f2
  have hold : ∀ q : Nat, q < H.size → F.heap[q]? = H[q]? := fun q hq => by
    have := Jvm.Free.Multi.fill_old (T.setVm vm₁) (cA 5) (cA 1) (b32 x).toNat (b32 y).toNat (defaultValue .long) (a := q) (by rw [hTh]; exact hq) (b32 x).toNat
    rw [hF, hTh] at this
    exact this
  have hrow : ∀ j : Nat, j < (b32 x).toNat → F.heap[H.size + 1 + j]? = some (vp_cell (cA 1) ((b32 y).toNat, .inr (.inl (fun _ => 0)))) := fun j hj => by
    have := Jvm.Free.Multi.fill_inner (T.setVm vm₁) (cA 5) (cA 1) (b32 x).toNat (b32 y).toNat (defaultValue .long) (b32 x).toNat j hj
    rw [hF, hTh] at this
    rw [this, vp_cell_l, ← arrV_new]
    rfl
  rw [jvr_outer] at f2
  have hGn := jGood_new2 hG f1 hold f2 hrow
  rw [hT, hG.1] at step
  obtain ⟨t, a1, b1⟩ := kk F.heap hGn ⟨by have := hS.1; omega, fun q h1 h2 => (hold q (Nat.lt_of_lt_of_le h1 hS.1)).trans (hS.2.1 q h1 h2), hS.2.2⟩ (by omega) F rfl X'
  exact ⟨t, step t a1, b1⟩
end JMU
end
section
theorem jlay_sl : ∀ as : List jV, (lg_sl (as.map jg)).length = (jlay as).length
  | [] => rfl
  | v :: r => by
    have ih := jlay_sl r
    have hc := jcat_g v
    unfold lg_sl at ih ⊢
    rw [List.map_cons, List.flatMap_cons, List.length_append, ih]
    by_cases h : jcat v = 2
    · rw [if_pos (hc.trans h)]
      simp [jlay, (jlong_cat v).mpr h]
      omega
    · rw [if_neg (fun q => h (hc.symm.trans q))]
      have : jlong (some v) = false := by
        rw [Bool.eq_false_iff]
        exact fun q => h ((jlong_cat v).mp q)
      simp [jlay, this]
      omega
theorem jget_rep (n : Nat) : ∀ (i : Nat), jget (List.replicate n none) i = none := by
  induction n with
  | zero => intro i; simp [jget]
  | succ n ih =>
    intro i
    cases i with
    | zero => simp [List.replicate_succ, jget]
    | succ i => rw [List.replicate_succ]; exact ih i
theorem jlay_get (R : jF) (hR : ∀ i, jget R i = none) : ∀ (as : List jV) (b i : Nat) (v : jV), jget (jlay as ++ R) i = some v → (b + i, jg v) ∈ lv_args b (as.map jg)
  | [], b, i, v, h => by
    rw [show jlay [] ++ R = R from rfl, hR] at h
    cases h
  | u :: r, b, 0, v, h => by
    have : some u = some v := h
    cases this
    exact List.mem_cons_self
  | u :: r, b, i + 1, v, h => by
    rw [List.map_cons]
    unfold lv_args
    refine List.mem_cons_of_mem _ ?_
    by_cases hl : jlong (some u) = true
    · rw [if_pos ((jcat_g u).trans ((jlong_cat u).mp hl))]
      have h2 : jget (none :: (jlay r ++ R)) i = some v := by simpa [jlay, hl, jget] using h
      cases i with
      | zero => simp [jget] at h2
      | succ i =>
        have h3 := jlay_get R hR r (b + 2) i v h2
        rw [show b + (i + 1 + 1) = b + 2 + i by omega]
        exact h3
    · have hl2 : jlong (some u) = false := by rw [Bool.eq_false_iff]; exact hl
      rw [if_neg (fun q => hl ((jlong_cat u).mpr ((jcat_g u).symm.trans q)))]
      have h2 : jget (jlay r ++ R) i = some v := by simpa [jlay, hl2, jget] using h
      have h3 := jlay_get R hR r (b + 1) i v h2
      rw [show b + (i + 1) = b + 1 + i by omega]
      exact h3
theorem jls_entry {n : Nat} {as : List jV} {ls : Array Slot} (h : lv_has ls n (lv_args 0 (as.map jg))) : jls ls n (jent n as) := by
  refine ⟨h.1, h.2.1, fun i v hv => ?_⟩
  have h2 := jlay_get _ (jget_rep _) as 0 i v hv
  rw [Nat.zero_add] at h2
  exact h.2.2 _ h2
def jwsk (k : Nat) : List Jvm.Cond := Cond.code (jY k) (jcode k) (jmaxL k) (jret k) :: jWS
theorem jwsk_good {k : Nat} (hk : k < 221) : GoodIn jWS (jwsk k) := fun w hw => by
  rcases List.mem_cons.mp hw with rfl | h
  · exact jWS_good _ (jMW_at hk).1
  · exact jWS_good _ h
theorem jini_dec : (List.range 221).all (fun k => (!(Nat.beq (jkd k) 2) || Nat.beq (jrc k) 0) && jCW.any (fun q => Nat.beq q.1 (jown k)) && (!(Nat.beq (jkd k) 0) || (Nat.blt 0 (jtag (jown k)) && Nat.ble (jtag (jown k)) 10 && decide (jFR (jtag (jown k) - 1) = jCn (jown k))))) = true := by decide +kernel
theorem jini_at {k : Nat} (hk : k < 221) : (jkd k = 2 → jret k = none) ∧ Cond.initialized (jCn (jown k)) ∈ jWS ∧ (jkd k = 0 → 0 < jtag (jown k) ∧ jtag (jown k) ≤ 10 ∧ jFR (jtag (jown k) - 1) = jCn (jown k)) := by
  have h1 := List.all_eq_true.mp jini_dec k (List.mem_range.mpr hk)
  simp only [Bool.and_eq_true, Bool.or_eq_true, Bool.not_eq_true', Nat.beq_eq, Nat.blt_eq, Nat.ble_eq, decide_eq_true_eq] at h1
  obtain ⟨⟨a, b⟩, c⟩ := h1
  refine ⟨fun e => ?_, ?_, fun e => ?_⟩
  · rcases a with a | a
    · rw [e] at a; cases a
    · unfold jret; rw [a]; rfl
  · obtain ⟨q, hq, h2⟩ := List.any_eq_true.mp b
    have h3 := List.all_eq_true.mp jCW_ok q hq
    rw [Nat.beq_eq.mp h2] at h3
    exact jwd_in h3
  · rcases c with c | c
    · rw [e] at c; cases c
    · exact ⟨c.1.1, c.1.2, c.2⟩
def jPc (D : va_G) (cA : Nat → ClassId) (z0 ao : Nat) (as : List jV) (w : jS) : Array Value → State → Prop := va_Pc (as.map jg) (jB D cA z0 ao w)
theorem jPc_blind {D : va_G} {cA : Nat → ClassId} {z0 ao : Nat} {as : List jV} {w : jS} : FrameBlind (jPc D cA z0 ao as w) := by
  intro a U g mk h
  obtain ⟨h1, h2, h3, h4⟩ := h
  exact ⟨h1, h2, jK.same (s := U) (U := U.calling g mk a) rfl rfl h3, h4⟩
/-- what is to be shown of so many steps -/
def jSnd (l : Launch) (D : va_G) (cA : Nat → ClassId) (z0 ao : Nat) (n : Nat) : Prop :=
  ∀ (k pc : Nat) (lc : jF) (st : List jV) (cells slots : Nat) (w : jS) (v : Option jV) (w' : jS), k < 221 → jrun n k pc lc st cells slots w = some (v, w') →
    ∀ {p : Program} {ev : Env} {R : Room} {s : State} {m : MethodId} {args : Array Value} {below : List Frame} {meth : Method} {c : Code} {H : Heap} {locs : List Loc} {ls : Array Slot},
      jCtx k p R s m args meth c D cA z0 ao → jGood D cA z0 ao w H → va_S (fun q => z0 ≤ q) s.heap H locs → H.size = s.heap.size + cells → cells ≤ jmc k ∧ slots ≤ jms k → jls ls (jmaxL k) lc →
        W p l ev R s m args below meth c H locs cells slots (MQ below (jQ D cA z0 ao v w' (jmc k)) args s (jmc k) (jms k) (fun q => z0 ≤ q)) (F0 m pc ls (st.map jg))
theorem jmet {l : Launch} {D : va_G} {cA : Nat → ClassId} {z0 ao n k : Nat} {as : List jV} {w w' : jS} {v : Option jV} (h : jSnd l D cA z0 ao n) (hk : k < 221) (hr : jrun n k 0 (jent (jmaxL k) as) [] 0 0 w = some (v, w')) (hl : (jlay as).length ≤ jmaxL k) :
    Met l (jY k) (jwsk k) (jrm k) (jPc D cA z0 ao as w) (jQ D cA z0 ao v w' (jmc k)) (jmc k) (jms k) (fun q => z0 ≤ q) := by
  obtain ⟨n1, n2, n3, n4, n5, n6⟩ := jnok_at hk
  refine Met.ofW (cc := jcode k) (maxL := jmaxL k) (ret := jret k) n1 rfl ?_
  intro p e s m args below meth c s₁ B hml hv
  obtain ⟨rfl, hG, hK, hz⟩ := hv
  have hts := atoms_spec (ws := jwsk k) B.pre
  have hown : s.vm.findClass (jCn (jown k)) = some m.cls := n2 ▸ findClass_of_methodNamed B.named
  have hl2 := lv_entry (as.map jg) (n := jmaxL k) (by rw [jlay_sl]; exact hl)
  rw [lg_entry_eq]
  generalize (lg_sl (as.map jg) ++ List.replicate (jmaxL k - (lg_sl (as.map jg)).length) Slot.unset).toArray = ls at hl2 ⊢
  exact h k 0 _ [] 0 0 w v w' hk hr ⟨B.exec, B.bytes, hml, B.returns, B.notSynchronized, hown, fun e => (name_of_methodNamed B.named B.method).1.trans (n6 e), fun w hw => hts w (List.mem_cons_of_mem _ hw), rfl, hK, hz⟩ hG va_S.rf rfl ⟨Nat.zero_le _, Nat.zero_le _⟩ (jls_entry hl2)
theorem jtake_ok : ∀ (n : Nat) (acc st as rest : List jV), jtake n acc st = some (as, rest) → ∃ ts : List jV, ts.length = n ∧ as = ts ++ acc ∧ st = ts.reverse ++ rest
  | 0, acc, st, as, rest, h => by
    have : some (acc, st) = some (as, rest) := h
    cases this
    exact ⟨[], rfl, rfl, rfl⟩
  | n + 1, acc, [], as, rest, h => by cases h
  | n + 1, acc, v :: st, as, rest, h => by
    obtain ⟨ts, h1, h2, h3⟩ := jtake_ok n (v :: acc) st as rest h
    refine ⟨ts ++ [v], by simp [h1], by simp [h2], by simp [h3]⟩
theorem jrm_room {k k' : Nat} (h1 : jfr k' + 1 ≤ jfr k) (h2 : 8 + (jmaxL k' + 11) + jlo k' ≤ jlo k) : (jrm k').frames + 1 ≤ (jrm k).frames ∧ 8 + (jmaxL k' + 11) + (jrm k').locals ≤ (jrm k).locals := ⟨h1, h2⟩
section JCA
variable {p : Program} {l : Launch} {ev : Env} {R : Room} {s : State} {m : MethodId} {args : Array Value} {below : List Frame} {meth : Method} {c : Code} {H : Heap} {locs : List Loc} {cells slots : Nat} {Q : State → Prop}
variable {k k' : Nat} {D : va_G} {cA : Nat → ClassId} {z0 ao : Nat} {ls : Array Slot} {lc : jF} {st : List jV} {w : jS} {pc len r1 r2 r3 : Nat} {z : Int} {x y i : Int} {q v : Option Nat}
theorem jPre (hC : jCtx k p R s m args meth c D cA z0 ao) (hG : jGood D cA z0 ao w H) (hS : va_S (fun q => z0 ≤ q) s.heap H locs) (as : List jV) : ∀ U : State, U.heap = H → s.WarmedH U.vm → jPc D cA z0 ao as w (as.map jg).toArray U := by
  obtain ⟨-, -, -, -, -, -, -, -, -, hK, hz⟩ := hC
  intro U hU hW
  exact ⟨rfl, by rw [hU]; exact hG, jK.moved hW hU hS.2.1 hK, by rw [hU]; exact Nat.le_trans hz hS.1⟩
theorem jcell (hC : jCtx k p R s m args meth c D cA z0 ao) (hG : jGood D cA z0 ao w H) {a t : Nat} (ht0 : 0 < t) (ht : t ≤ 10) (ha : (w.2.1 a).1 = t) : ∃ cell : Cell, H[a]? = some cell ∧ cell.vm.isStatics = false ∧ s.vm.findClass (jFR (t - 1)) = some cell.cls := by
  obtain ⟨-, -, -, -, -, -, -, -, -, hK, -⟩ := hC
  have hat := jGood_at hG (a := a) (by omega) (by omega)
  rw [jel_o (ci := t - 1) (by omega) (by omega)] at hat
  exact va_recv hK.1 hG.2.2.1 (jcl_at (by omega)) hat
theorem j_virt {i : Nat} {as rest : List jV} {v1 : Option jV} {w1 : jS} (hC : jCtx k p R s m args meth c D cA z0 ao) (hG : jGood D cA z0 ao w H) (hS : va_S (fun q => z0 ≤ q) s.heap H locs) (hz : H.size = s.heap.size + cells) (hls : ls.size = jmaxL k) (hd : decode (jcode k) pc = .ok (.invokevirtual i, 3)) (hlk : jhas3 jML (jown k) i k' = true ∨ jhas3 jMN (jown k) i k' = true) (hw : jwcall k k' 0 r2 = true)
    (htk : jtake (r2 + 1) [] st = some (as, rest)) (hb1 : cells + jmc k' ≤ jmc k) (hb2 : slots + jms k' ≤ jms k) (h8 : jcats rest ≤ 8) (hrec : jrecv k' as w) (hM : Met l (jY k') (jwsk k') (jrm k') (jPc D cA z0 ao as w) (jQ D cA z0 ao v1 w1 (jmc k')) (jmc k') (jms k') (fun q => z0 ≤ q))
    (kk : ∀ (H1 : Heap) (locs1 : List Loc), jGood D cA z0 ao w1 H1 → va_S (fun q => z0 ≤ q) s.heap H1 locs1 → H1.size = s.heap.size + (cells + jmc k') → W p l ev R s m args below meth c H1 locs1 (cells + jmc k') (slots + jms k') Q (F0 m (pc + 3) ls ((v1.toList ++ rest).map jg))) : W p l ev R s m args below meth c H locs cells slots Q (F0 m pc ls (st.map jg)) := by
  have hC0 := hC
  obtain ⟨hx, hb, hml, -, -, hown, -, hts, rfl, hK, -⟩ := hC
  simp only [jwcall, Bool.and_eq_true, Nat.blt_eq, Nat.beq_eq, Nat.ble_eq] at hw
  obtain ⟨⟨⟨⟨hk', hkd⟩, hna⟩, hf1⟩, hf2⟩ := hw
  obtain ⟨n1, n2, n3, n4, n5, n6⟩ := jnok_at hk'
  obtain ⟨m1, m2, m3, m4⟩ := jMW_at hk'
  obtain ⟨i1, i2, i3⟩ := jini_at hk'
  obtain ⟨t0, t1, t2⟩ := i3 hkd
  obtain ⟨ts, e1, e2, e3⟩ := jtake_ok _ _ _ _ _ htk
  rw [List.append_nil] at e2
  subst e2
  match as, hrec, e1, e3, hM with
  | .inr (.inr qo) :: bs, hrec, e1, e3, hM =>
    obtain ⟨a, rfl⟩ : ∃ a, qo = some a := ⟨_, jrf_some hrec.1⟩
    have hcell := jcell hC0 hG t0 t1 hrec.2
    rw [t2] at hcell
    have hstk : st.map jg = (bs.map jg).reverse ++ .ref a :: rest.map jg := by
      rw [e3]
      simp [jg, va_rf]
    have hlen : (bs.map jg).length = r2 := by simpa using e1
    have hd3 : (jY k').cls = jCn (jown k') ∧ (jY k').cls ≠ "java/lang/invoke/MethodHandle" ∧ (jY k').cls ≠ "java/lang/invoke/VarHandle" ∧ (parseMethodDescriptor (jY k').desc).map (fun d => d.parameters.length) = some r2 := ⟨n2, n3, n4, by rw [n5, hna]⟩
    refine j_call (rest := rest) (a := (Value.ref a :: bs.map jg).toArray) (v1 := v1) (w1 := w1) (mc := jmc k') (ms := jms k') (D := D) (cA := cA) (z0 := z0) (ao := ao) ?_ hS hz kk
    rcases hlk with h | h
    · have hT : GoodIn jWS (wsV (jCn (jown k)) i (jCn (jown k')) (jY k') (jwsk k')) := fun x hx => by
        unfold wsV at hx
        rcases List.mem_append.mp hx with h5 | h5
        · simp only [List.mem_cons, List.not_mem_nil, or_false] at h5
          rcases h5 with rfl | rfl | rfl | rfl
          · exact jWS_good _ (jlk_ML h)
          · exact jWS_good _ (m3 (by omega))
          · exact jWS_good _ (m4 hkd)
          · exact jWS_good _ i2
        · exact jwsk_good hk' _ h5
      exact va_runV (C := jCn (jown k')) (b := a) (As := bs.map jg) ⟨hx, hb, hml, hown, hts⟩ hM (cwV r2 hts hT rfl rfl rfl hd3 (jrm_room hf1 hf2)) ⟨jPc_blind, hcell, fun U hU hW => jPre hC0 hG hS _ U hU hW⟩ rfl hlen hls hstk (by rw [jsum]; show 2 * 0 + _ ≤ 8; omega) hd ⟨hb1, hb2⟩
    · exact va_runVN (C := jCn (jown k')) (b := a) (As := bs.map jg) (host := RX9) ⟨hx, hb, hml, hown, hts⟩ hM ⟨va_cnB r2 hts (jwsk_good hk') rfl rfl rfl (hK.2.2.2.1 _ (jlk_MN h)) (by rw [n2]; exact hts _ i2) ⟨n3, n4, by rw [n5, hna]⟩ (jrm_room hf1 hf2), hts _ (m3 (by omega)), hts _ (m4 hkd)⟩ ⟨jPc_blind, hcell, fun U hU hW => jPre hC0 hG hS _ U hU hW⟩ rfl hlen hls hstk (by rw [jsum]; show 2 * 0 + _ ≤ 8; omega) hd ⟨hb1, hb2⟩
theorem j_stat {i : Nat} {as rest : List jV} {v1 : Option jV} {w1 : jS} (hC : jCtx k p R s m args meth c D cA z0 ao) (hG : jGood D cA z0 ao w H) (hS : va_S (fun q => z0 ≤ q) s.heap H locs) (hz : H.size = s.heap.size + cells) (hls : ls.size = jmaxL k) (hd : decode (jcode k) pc = .ok (.invokestatic i, 3)) (hlk : jhas3 jML (jown k) i k' = true ∨ jhas3 jMN (jown k) i k' = true) (hw : jwcall k k' 1 r2 = true)
    (htk : jtake r2 [] st = some (as, rest)) (hb1 : cells + jmc k' ≤ jmc k) (hb2 : slots + jms k' ≤ jms k) (h8 : jcats rest ≤ 8) (hM : Met l (jY k') (jwsk k') (jrm k') (jPc D cA z0 ao as w) (jQ D cA z0 ao v1 w1 (jmc k')) (jmc k') (jms k') (fun q => z0 ≤ q))
    (kk : ∀ (H1 : Heap) (locs1 : List Loc), jGood D cA z0 ao w1 H1 → va_S (fun q => z0 ≤ q) s.heap H1 locs1 → H1.size = s.heap.size + (cells + jmc k') → W p l ev R s m args below meth c H1 locs1 (cells + jmc k') (slots + jms k') Q (F0 m (pc + 3) ls ((v1.toList ++ rest).map jg))) : W p l ev R s m args below meth c H locs cells slots Q (F0 m pc ls (st.map jg)) := by
  have hC0 := hC
  obtain ⟨hx, hb, hml, -, -, hown, -, hts, rfl, hK, -⟩ := hC
  simp only [jwcall, Bool.and_eq_true, Nat.blt_eq, Nat.beq_eq, Nat.ble_eq] at hw
  obtain ⟨⟨⟨⟨hk', hkd⟩, hna⟩, hf1⟩, hf2⟩ := hw
  obtain ⟨n1, n2, n3, n4, n5, n6⟩ := jnok_at hk'
  obtain ⟨m1, m2, m3, m4⟩ := jMW_at hk'
  obtain ⟨i1, i2, i3⟩ := jini_at hk'
  obtain ⟨ts, e1, e2, e3⟩ := jtake_ok _ _ _ _ _ htk
  rw [List.append_nil] at e2
  subst e2
  have hstk : st.map jg = (as.map jg).reverse ++ rest.map jg := by
    rw [e3]
    simp
  have hlen : (as.map jg).length = r2 := by simpa using e1
  refine j_call (rest := rest) (a := (as.map jg).toArray) (v1 := v1) (w1 := w1) (mc := jmc k') (ms := jms k') (D := D) (cA := cA) (z0 := z0) (ao := ao) ?_ hS hz kk
  rcases hlk with h | h
  · have hT : GoodIn jWS (va_wsS (jCn (jown k)) i (jY k') (jwsk k')) := fun x hx => by
      unfold va_wsS at hx
      rcases List.mem_append.mp hx with h5 | h5
      · simp only [List.mem_cons, List.not_mem_nil, or_false] at h5
        rcases h5 with rfl | rfl | rfl
        · exact jWS_good _ (jlk_ML h)
        · exact jWS_good _ (m2 hkd)
        · rw [n2]; exact jWS_good _ i2
      · exact jwsk_good hk' _ h5
    exact va_runS (As := as.map jg) ⟨hx, hb, hml, hown, hts⟩ hM (va_cwS r2 hts hT rfl rfl rfl ⟨n3, n4, by rw [n5, hna]⟩ (jrm_room hf1 hf2)) ⟨jPc_blind, fun U hU hW => jPre hC0 hG hS _ U hU hW⟩ rfl hlen hls hstk (by rw [jsum]; show 2 * 0 + _ ≤ 8; omega) hd ⟨hb1, hb2⟩
  · exact va_runSN (As := as.map jg) (host := RX9) ⟨hx, hb, hml, hown, hts⟩ hM ⟨va_cnB r2 hts (jwsk_good hk') rfl rfl rfl (hK.2.2.2.1 _ (jlk_MN h)) (by rw [n2]; exact hts _ i2) ⟨n3, n4, by rw [n5, hna]⟩ (jrm_room hf1 hf2), hts _ (m2 hkd), trivial⟩ ⟨jPc_blind, fun U hU hW => jPre hC0 hG hS _ U hU hW⟩ rfl hlen hls hstk (by rw [jsum]; show 2 * 0 + _ ≤ 8; omega) hd ⟨hb1, hb2⟩
theorem j_spec {i : Nat} {as rest : List jV} {v1 : Option jV} {w1 : jS} (hC : jCtx k p R s m args meth c D cA z0 ao) (hG : jGood D cA z0 ao w H) (hS : va_S (fun q => z0 ≤ q) s.heap H locs) (hz : H.size = s.heap.size + cells) (hls : ls.size = jmaxL k) (hd : decode (jcode k) pc = .ok (.invokespecial i, 3)) (hlk : jhas3 jML (jown k) i k' = true ∨ jhas3 jMN (jown k) i k' = true) (hw : jwcall k k' 2 r2 = true)
    (htk : jtake (r2 + 1) [] st = some (as, rest)) (hb1 : cells + jmc k' ≤ jmc k) (hb2 : slots + jms k' ≤ jms k) (h8 : jcats rest ≤ 8) (hrec : jrecv k' as w) (hM : Met l (jY k') (jwsk k') (jrm k') (jPc D cA z0 ao as w) (jQ D cA z0 ao v1 w1 (jmc k')) (jmc k') (jms k') (fun q => z0 ≤ q))
    (kk : ∀ (H1 : Heap) (locs1 : List Loc), jGood D cA z0 ao w1 H1 → va_S (fun q => z0 ≤ q) s.heap H1 locs1 → H1.size = s.heap.size + (cells + jmc k') → W p l ev R s m args below meth c H1 locs1 (cells + jmc k') (slots + jms k') Q (F0 m (pc + 3) ls ((v1.toList ++ rest).map jg))) : W p l ev R s m args below meth c H locs cells slots Q (F0 m pc ls (st.map jg)) := by
  have hC0 := hC
  obtain ⟨hx, hb, hml, -, -, hown, -, hts, rfl, hK, -⟩ := hC
  simp only [jwcall, Bool.and_eq_true, Nat.blt_eq, Nat.beq_eq, Nat.ble_eq] at hw
  obtain ⟨⟨⟨⟨hk', hkd⟩, hna⟩, hf1⟩, hf2⟩ := hw
  obtain ⟨n1, n2, n3, n4, n5, n6⟩ := jnok_at hk'
  obtain ⟨m1, m2, m3, m4⟩ := jMW_at hk'
  obtain ⟨i1, i2, i3⟩ := jini_at hk'
  obtain ⟨ts, e1, e2, e3⟩ := jtake_ok _ _ _ _ _ htk
  rw [List.append_nil] at e2
  subst e2
  have hret := i1 hkd
  have hws : jwsk k' = Cond.code (jY k') (jcode k') (jmaxL k') none :: jWS := by unfold jwsk; rw [hret]
  match as, hrec, e1, e3, hM with
  | .inr (.inr qo) :: bs, hrec, e1, e3, hM =>
    obtain ⟨a, rfl⟩ : ∃ a, qo = some a := ⟨_, jrf_some hrec.1⟩
    have hstk : st.map jg = (bs.map jg).reverse ++ .ref a :: rest.map jg := by
      rw [e3]
      simp [jg, va_rf]
    have hlen : (bs.map jg).length = r2 := by simpa using e1
    refine j_call (rest := rest) (a := (Value.ref a :: bs.map jg).toArray) (v1 := v1) (w1 := w1) (mc := jmc k') (ms := jms k') (D := D) (cA := cA) (z0 := z0) (ao := ao) ?_ hS hz kk
    rcases hlk with h | h
    · exact va_runI (b := a) (As := bs.map jg) ⟨hx, hb, hml, hown, hts⟩ hM (cwI r2 hts (jwsk_good hk') hws rfl rfl (by rw [n2]; exact hts _ i2) (hts _ (jlk_ML h)) (hts _ (m3 (by omega))) (n6 hkd) ⟨n3, n4, by rw [n5, hna]⟩ (jrm_room hf1 hf2)) ⟨jPc_blind, fun U hU hW => jPre hC0 hG hS _ U hU hW⟩ rfl hlen hls hstk (by rw [jsum]; show 2 * 0 + _ ≤ 8; omega) hd ⟨hb1, hb2⟩
    · exact va_runIN (b := a) (As := bs.map jg) (host := RX9) ⟨hx, hb, hml, hown, hts⟩ hM ⟨va_cnB r2 hts (jwsk_good hk') hws rfl rfl (hK.2.2.2.1 _ (jlk_MN h)) (by rw [n2]; exact hts _ i2) ⟨n3, n4, by rw [n5, hna]⟩ (jrm_room hf1 hf2), n6 hkd, hts _ (m3 (by omega))⟩ ⟨jPc_blind, fun U hU hW => jPre hC0 hG hS _ U hU hW⟩ rfl hlen hls hstk (by rw [jsum]; show 2 * 0 + _ ≤ 8; omega) hd ⟨hb1, hb2⟩
end JCA
end
