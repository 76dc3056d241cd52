theorem zS_c {S q : Nat → Int} {n : Nat} (h : ∀ j, j < 29 → S j = q j) (hS : zS q n) : zS S n :=
  ⟨(h 0 (by omega)).trans hS.n0, hS.n2, hS.n4, fun i hi => by rw [h _ (by omega), h _ (by omega)]; exact hS.v i hi, fun j hj => by rw [h _ (by omega)]; exact hS.b j hj⟩
theorem zml_c {up dn tm up' dn' tm' : Nat → Int} : ∀ (r i : Nat) (p : Int × Int), (∀ x, x < i + r → up x = up' x ∧ dn x = dn' x ∧ tm x = tm' x) → zml up dn tm r i p = zml up' dn' tm' r i p
  | 0, _, _, _ => rfl
  | r + 1, i, p, h => by
    show (zmt (up i) (dn i) (tm i).toNat p).bind (zml up dn tm r (i + 1)) = (zmt (up' i) (dn' i) (tm' i).toNat p).bind (zml up' dn' tm' r (i + 1))
    have e := h i (by omega)
    rw [e.1, e.2.1, e.2.2, show zml up dn tm r (i + 1) = zml up' dn' tm' r (i + 1) from funext fun p => zml_c r (i + 1) p (fun x hx => h x (by omega))]
theorem zmk_c {S q : Nat → Int} {n k : Nat} {sg : Int} (h : ∀ j, j < 29 → S j = q j) (hn : n ≤ 4) (hk : k < 4) : zmk S n k sg = zmk q n k sg :=
  zml_c n 0 _ (fun x hx => ⟨h _ (by omega), h _ (by omega), by show sg * S (1 + (4 * x + k)) = sg * q (1 + (4 * x + k)); rw [h _ (by omega)]⟩)
theorem zxv_c {S q : Nat → Int} {n k : Nat} (h : ∀ j, j < 29 → S j = q j) (hn : n ≤ 4) (hk : k < 4) : zxv S n k = zxv q n k := by
  unfold zxv
  rw [zmk_c h hn hk, zmk_c h hn hk, h (25 + k) (by omega), h (21 + k) (by omega)]
theorem zxe_c {S q : Nat → Int} {k e : Nat} (h : ∀ j, j < 29 → S j = q j) (hk : k < 4) (he : e < 16) : zxe (fun e => S (1 + e)) k e = zxe (fun e => q (1 + e)) k e := by
  have h4 : e / 4 < 4 := by omega
  have h5 : e % 4 < 4 := by omega
  unfold zxe zxb
  dsimp only
  rw [h (1 + (4 * (e / 4) + e % 4)) (by omega), h (1 + (4 * (e / 4) + k)) (by omega), h (1 + (4 * k + e % 4)) (by omega)]
theorem zxt_c {S q : Nat → Int} {k : Nat} (h : ∀ j, j < 29 → S j = q j) (hk : k < 4) : zxt (fun e => S (1 + e)) k ↔ zxt (fun e => q (1 + e)) k := by
  unfold zxt
  constructor
  · intro g e he; rw [← zxe_c h hk he]; exact g e he
  · intro g e he; rw [zxe_c h hk he]; exact g e he
/-- whether a letter can be exchanged, and what the seed is then -/
def zcan (q : Nat → Int) (n k : Nat) : Prop := zxt (fun e => q (1 + e)) k ∧ (zxv q n k).isSome = true
theorem zcan_c {S q : Nat → Int} {n k : Nat} (h : ∀ j, j < 29 → S j = q j) (hn : n ≤ 4) (hk : k < 4) : zcan S n k ↔ zcan q n k := by
  unfold zcan
  rw [zxv_c h hn hk, zxt_c h hk]
def zxn (q S : Nat → Int) (n k : Nat) : Prop := zcan q n k ∧ zxv q n k = some (S (21 + k), S (25 + k)) ∧ (∀ e, e < 16 → S (1 + e) = zxe (fun e => q (1 + e)) k e) ∧ (∀ j, j < 29 → (j < 1 ∨ 17 ≤ j) → j ≠ 21 + k → j ≠ 25 + k → S j = q j) ∧ zdg q S n k
theorem zdg_c {S q R : Nat → Int} {n k : Nat} (h : ∀ j, j < 45 → S j = q j) (hn : n ≤ 4) (hk : k < 4) (hx : zdg S R n k) : zdg q R n k :=
  ⟨fun c hc => (hx.1 c hc).trans (zdn_c hn hk hc (fun j hj _ => h j hj)), fun i c hi hc hik => (hx.2 i c hi hc hik).trans (h _ (by omega))⟩
theorem zxn_c {S q R : Nat → Int} {n k : Nat} (h45 : ∀ j, j < 45 → S j = q j) (hn : n ≤ 4) (hk : k < 4) (hx : zxn S R n k) : zxn q R n k :=
  have h : ∀ j, j < 29 → S j = q j := fun j hj => h45 j (by omega)
  ⟨(zcan_c h hn hk).mp hx.1, by rw [← zxv_c h hn hk]; exact hx.2.1, fun e he => by rw [← zxe_c h hk he]; exact hx.2.2.1 e he, fun j hj h1 h2 h3 => by rw [← h j hj]; exact hx.2.2.2.1 j hj h1 h2 h3, zdg_c h45 hn hk hx.2.2.2.2⟩
theorem zxv_sm {q : Nat → Int} {n k : Nat} {p : Int × Int} (hS : zS q n) (hk : k < 4) (h : zxv q n k = some p) : zsm p := by
  have hm : ∀ sg p, zmk q n k sg = some p → zsm p := by
    have ht : ∀ (x y : Int) (hx : zsm (x, y)) (t : Nat) (p r : Int × Int), zsm p → zmt x y t p = some r → zsm r := by
      intro x y hx t
      induction t with
      | zero => intro p r hp h; cases h; exact hp
      | succ t ih =>
        intro p r hp h
        unfold zmt at h
        split at h
        · rename_i hz
          have a1 := zmul_b hp.1 hp.2.1 hx.1 hx.2.1
          have a2 := zmul_b hp.2.2.1 hp.2.2.2 hx.2.2.1 hx.2.2.2
          exact ih _ _ (zok_sm (a := p.1 * x) (b := p.2 * y) a1.1 a2.1 hz) h
        · cases h
    have hl : ∀ (sg : Int) (r i : Nat) (p s : Int × Int), i + r ≤ 4 → zsm p → zml (fun i => q (21 + i)) (fun i => q (25 + i)) (fun i => sg * q (1 + (4 * i + k))) r i p = some s → zsm s := by
      intro sg r
      induction r with
      | zero => intro i p s _ hp h; cases h; exact hp
      | succ r ih =>
        intro i p s hi hp h
        unfold zml at h
        cases hz : zmt (q (21 + i)) (q (25 + i)) (sg * q (1 + (4 * i + k))).toNat p with
        | none => rw [hz] at h; cases h
        | some p' =>
          rw [hz] at h
          exact ih (i + 1) p' s (by omega) (ht _ _ (hS.v i (by omega)) _ _ _ hp hz) h
    intro sg p h
    exact hl sg n 0 (1, 1) p (by have := hS.n4; omega) (by decide) h
  unfold zxv at h
  cases h1 : zmk q n k 1 with
  | none => rw [h1] at h; cases h
  | some a =>
    cases h2 : zmk q n k (-1) with
    | none => rw [h1, h2] at h; cases h
    | some b =>
      rw [h1, h2] at h
      dsimp only at h
      have s1 := hm _ _ h1
      have s2 := hm _ _ h2
      have q1 := zmul_b s1.1 s1.2.1 s2.2.2.1 s2.2.2.2
      have q2 := zmul_b s2.1 s2.2.1 s1.2.2.1 s1.2.2.2
      have q3 := zmul_b s1.2.2.1 s1.2.2.2 s2.2.2.1 s2.2.2.2
      split at h
      · rename_i z1
        have g1 := zok_sm (by omega) (by omega) z1
        have hv := hS.v k hk
        have g2 := zmul_b g1.1 g1.2.1 hv.2.2.1 hv.2.2.2
        have g3 := zmul_b g1.2.2.1 g1.2.2.2 hv.1 hv.2.1
        split at h
        · rename_i z2
          cases h
          exact zok_sm g2.1 g3.1 z2
        · cases h
      · cases h
/-- an exchange leads from seeds to seeds -/
theorem zxn_S {q S : Nat → Int} {n k : Nat} (hS : zS q n) (hk : k < 4) (h : zxn q S n k) : zS S n := by
  refine ⟨(h.2.2.2.1 0 (by omega) (by omega) (by omega) (by omega)).trans hS.n0, hS.n2, hS.n4, fun i hi => ?_, fun j hj => ?_⟩
  · by_cases e : i = k
    · subst e
      exact zxv_sm hS hk h.2.1
    · rw [h.2.2.2.1 (21 + i) (by omega) (by omega) (by omega) (by omega), h.2.2.2.1 (25 + i) (by omega) (by omega) (by omega) (by omega)]
      exact hS.v i hi
  · rw [h.2.2.1 j hj]
    exact h.1.1 j hj
