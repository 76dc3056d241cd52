theorem jWp.newm {k pc pc' c sl jn jm : Nat} {T : List jE} {l : jF} {st : List jV} {w : jS} {Q : Option jV → jS → Prop} {x y z : Int} {ix d r1 r2 r3 : Nat} (hT : jtb k = T) (hf : jfind T pc = some (pc, .multianewarray ix d, 4, r1, r2, r3, z)) (hp : pc + 4 = pc') (hx : b32 x = (jn : Int)) (hy : b32 y = (jm : Int)) (hg : (Nat.ble jn 1000 && Nat.ble jm 1000 && Nat.ble (c + (1 + jn)) (jmc k) && Nat.ble (sl + (jn + jn * jm)) (jms k)) = true) (kk : jWp k pc' l (jO w.2.2.2.1 :: st) (c + 1 + jn) (sl + jn + jn * jm) (jnew2 w jn jm) Q) : jWp k pc l (jI y :: jI x :: st) c sl w Q := by
  subst hp
  simp only [Bool.and_eq_true, Nat.ble_eq] at hg
  have e : (b32 x).toNat = jn := by rw [hx]; rfl
  have e2 : (b32 y).toNat = jm := by rw [hy]; rfl
  have kk2 : jWp k (pc + 4) l (jO w.2.2.2.1 :: st) (c + 1 + (b32 x).toNat) (sl + (b32 x).toNat + (b32 x).toNat * (b32 y).toNat) (jnew2 w (b32 x).toNat (b32 y).toNat) Q := by
    rw [e, e2]
    exact kk
  refine jWp.of_new (e := (pc, .multianewarray ix d, 4, r1, r2, r3, z)) hT hf rfl rfl ?_ kk2
  rw [e, e2, hx, hy]
  exact ⟨⟨by omega, by omega, by omega, by omega⟩, hg.1.2, hg.2⟩
/-- an array of arrays made -/
theorem jM_k {w : jS} {n m a : Nat} (h : a < w.2.2.2.1 ∨ w.2.2.2.1 + n < a) : (jnew2 w n m).2.1 a = w.2.1 a := (if_neg (by omega)).trans (if_neg (by omega))
theorem jM_s {w : jS} {n m : Nat} : (jnew2 w n m).2.1 w.2.2.2.1 = (105, n) := if_pos rfl
theorem jM_i {w : jS} {n m a : Nat} (h : w.2.2.2.1 < a ∧ a ≤ w.2.2.2.1 + n) : (jnew2 w n m).2.1 a = (101, m) := (if_neg (by omega)).trans (if_pos h)
theorem jM_r {w : jS} {n m a j : Nat} (h : a < w.2.2.2.1 ∨ w.2.2.2.1 + n < a) : (jnew2 w n m).2.2.1 a j = w.2.2.1 a j := (if_neg (by omega)).trans (if_neg (by omega))
theorem jM_q {w : jS} {n m j : Nat} (h : j < n) : (jnew2 w n m).2.2.1 w.2.2.2.1 j = some (w.2.2.2.1 + 1 + j) := (if_pos rfl).trans (if_pos h)
theorem jM_m {w : jS} {n m a j : Nat} (h : a < w.2.2.2.1 ∨ w.2.2.2.1 + n < a) : (jnew2 w n m).1 a j = w.1 a j := if_neg (by omega)
theorem jM_z {w : jS} {n m a j : Nat} (h : w.2.2.2.1 ≤ a ∧ a ≤ w.2.2.2.1 + n) : (jnew2 w n m).1 a j = 0 := if_pos h
theorem ini_M {w : jS} {s n m : Nat} : ini w s (1 + n) (jnew2 w n m) := ⟨by show w.2.2.2.1 + 1 + n = _; omega, rfl, fun a ha => jM_k (Or.inl ha), fun a ha _ => ⟨funext fun j => jM_r (Or.inl ha), funext fun j => jM_m (Or.inl ha)⟩⟩
