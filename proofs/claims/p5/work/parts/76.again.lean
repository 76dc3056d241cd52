theorem zml_z {up dn tm up' dn' tm' : Nat → Int} : ∀ (r i : Nat) (p : Int × Int), (∀ x, x < i + r → tm x = tm' x ∧ (tm x ≤ 0 ∨ (up x = up' x ∧ dn x = dn' x))) → zml up dn tm r i p = zml up' dn' tm' r i p
  | 0, _, _, _ => rfl
  | r + 1, i, p, h => by
    show (zmt (up i) (dn i) (tm i).toNat p).bind (zml up dn tm r (i + 1)) = (zmt (up' i) (dn' i) (tm' i).toNat p).bind (zml up' dn' tm' r (i + 1))
    have e := h i (by omega)
    have t : zmt (up i) (dn i) (tm i).toNat p = zmt (up' i) (dn' i) (tm' i).toNat p := by
      rw [← e.1]
      rcases e.2 with g | g
      · rw [zmt_0 g, zmt_0 g]
      · rw [g.1, g.2]
    rw [t, show zml up dn tm r (i + 1) = zml up' dn' tm' r (i + 1) from funext fun p => zml_z r (i + 1) p (fun x hx => h x (by omega))]
theorem zkk {q : Nat → Int} {n k : Nat} (hQ : zQ q n) (hk : k < 4) : q (1 + (4 * k + k)) = 0 := by
  have := hQ.a k k hk hk
  omega
/-- an exchange again takes the same factors, the two sides changed -/
theorem zmk_a {q : Nat → Int} {n k : Nat} {sg : Int} (hQ : zQ q n) (hk : k < 4) : zmk (zxF q n k) n k sg = zmk q n k (-sg) := by
  have h4 := hQ.S.n4
  unfold zmk
  refine zml_z n 0 (1, 1) (fun x hx => ?_)
  have b : zxF q n k (1 + (4 * x + k)) = -(q (1 + (4 * x + k))) := by
    rw [zxF_b (by omega), zxe_at _ _ _ _ hk]
    unfold zxb
    rw [if_pos (Or.inr rfl)]
  refine ⟨by rw [b, Int.mul_neg, Int.neg_mul], ?_⟩
  by_cases e : x = k
  · subst e
    rw [b, zkk hQ hk]
    exact Or.inl (by omega)
  · exact Or.inr ⟨zxF_o (by omega) (by omega) (by omega) (by omega), zxF_o (by omega) (by omega) (by omega) (by omega)⟩
theorem zxb_2 {q : Nat → Int} {n k i j : Nat} (hQ : zQ q n) (hk : k < 4) (hi : i < 4) (hj : j < 4) : zxb (fun e => zxF q n k (1 + e)) k i j = q (1 + (4 * i + j)) := by
  have f : ∀ a b, a < 4 → b < 4 → zxF q n k (1 + (4 * a + b)) = zxb (fun e => q (1 + e)) k a b := fun a b ha hb => by rw [zxF_b (by omega), zxe_at _ _ _ _ hb]
  unfold zxb
  dsimp only
  rw [f i j hi hj, f i k hi hk, f k j hk hj]
  by_cases h : i = k ∨ j = k
  · rw [if_pos h]
    unfold zxb
    rw [if_pos h]
    show - -(q _) = _
    omega
  · rw [if_neg h]
    unfold zxb
    rw [if_neg h, if_pos (Or.inr rfl), if_pos (Or.inl rfl)]
    show q (1 + (4 * i + j)) + Int.tdiv (jabs (q (1 + (4 * i + k))) * q (1 + (4 * k + j)) + q (1 + (4 * i + k)) * jabs (q (1 + (4 * k + j)))) 2 + Int.tdiv (jabs (-(q (1 + (4 * i + k)))) * -(q (1 + (4 * k + j))) + -(q (1 + (4 * i + k))) * jabs (-(q (1 + (4 * k + j))))) 2 = _
    rw [jabs_neg, jabs_neg, Int.mul_neg, Int.neg_mul, ← Int.neg_add, Int.neg_tdiv]
    omega
/-- fractions that are the same, one of them in least terms -/
theorem zlt1 {X Y a b : Int} (hX : 0 < X) (hY : 0 < Y) (ha : 0 < a) (hb : 0 < b) (hg : zg a b = 1) (h : X * b = Y * a) : zu X Y = a ∧ zv X Y = b := by
  have hc : Int.gcd a b = 1 := by
    have : (Int.gcd a b : Int) = 1 := hg
    omega
  have hd : a ∣ X := by
    have h1 : a ∣ X * b := ⟨Y, by rw [h, Int.mul_comm]⟩
    have h2 : a.natAbs ∣ X.natAbs * b.natAbs := by
      rw [← Int.natAbs_mul]
      exact Int.natAbs_dvd_natAbs.mpr h1
    have h3 : Nat.Coprime a.natAbs b.natAbs := hc
    exact Int.natAbs_dvd_natAbs.mp (Nat.Coprime.dvd_of_dvd_mul_right h3 h2)
  obtain ⟨t, ht⟩ := hd
  have ht0 : 0 < t := by
    rcases (show t ≤ 0 ∨ 0 < t by omega) with g | g
    · have := Int.mul_nonpos_of_nonneg_of_nonpos (show 0 ≤ a by omega) g
      omega
    · exact g
  have hYt : Y = b * t := by
    have e : a * Y = a * (b * t) := by
      rw [Int.mul_comm a Y, ← h, ht, Int.mul_assoc, Int.mul_comm t b]
    exact Int.eq_of_mul_eq_mul_left (show a ≠ 0 by omega) e
  have hgt : zg X Y = t := by
    unfold zg
    rw [ht, hYt, Int.gcd_mul_right, hc, Nat.one_mul]
    omega
  unfold zu zv
  rw [hgt, ht, hYt, Int.mul_tdiv_cancel _ (by omega), Int.mul_tdiv_cancel _ (by omega)]
  exact ⟨rfl, rfl⟩
theorem zuv_x {X Y : Int} (hX : 0 < X) (hY : 0 < Y) : zu X Y * Y = zv X Y * X := by
  have hg := zg_pos (a := X) hY
  have d1 : zg X Y ∣ X := Int.gcd_dvd_left X Y
  have d2 : zg X Y ∣ Y := Int.gcd_dvd_right X Y
  obtain ⟨s, hs⟩ := d1
  obtain ⟨t, ht⟩ := d2
  have e1 : zu X Y = s := by
    unfold zu
    rw [show Int.tdiv X (zg X Y) = Int.tdiv (zg X Y * s) (zg X Y) by rw [← hs]]
    exact Int.mul_tdiv_cancel_left _ (by omega)
  have e2 : zv X Y = t := by
    unfold zv
    rw [show Int.tdiv Y (zg X Y) = Int.tdiv (zg X Y * t) (zg X Y) by rw [← ht]]
    exact Int.mul_tdiv_cancel_left _ (by omega)
  rw [e1, e2]
  calc s * Y = s * (zg X Y * t) := by rw [← ht]
    _ = t * (zg X Y * s) := by simp only [Int.mul_comm, Int.mul_left_comm, Int.mul_assoc]
    _ = t * X := by rw [← hs]
/-- what zxv is made of -/
theorem zxv_d {q : Nat → Int} {n k : Nat} {u v : Int} (h : zxv q n k = some (u, v)) : ∃ x1 y1 x2 y2, zmk q n k 1 = some (x1, y1) ∧ zmk q n k (-1) = some (x2, y2) ∧ zok (x1 * y2 + x2 * y1) (y1 * y2) ∧ u = zu (zu (x1 * y2 + x2 * y1) (y1 * y2) * q (25 + k)) (zv (x1 * y2 + x2 * y1) (y1 * y2) * q (21 + k)) ∧ v = zv (zu (x1 * y2 + x2 * y1) (y1 * y2) * q (25 + k)) (zv (x1 * y2 + x2 * y1) (y1 * y2) * q (21 + k)) := by
  unfold zxv at h
  cases h1 : zmk q n k 1 with
  | none => rw [h1] at h; cases h
  | some a =>
    cases h2 : zmk q n k (-1) with
    | none => rw [h1, h2] at h; cases h
    | some b =>
      rw [h1, h2] at h
      dsimp only at h
      split at h
      · rename_i z1
        split at h
        · cases h
          exact ⟨a.1, a.2, b.1, b.2, rfl, rfl, z1, rfl, rfl⟩
        · cases h
      · cases h
/-- an exchange made twice leads back -/
theorem zxF_2 {q : Nat → Int} {n k : Nat} (hQ : zQ q n) (hk : k < n) (hc : zcan q n k) (hc2 : zcan (zxF q n k) n k) : zal q (zxF (zxF q n k) n k) n := by
  have h4 := hQ.S.n4
  have hk4 : k < 4 := by omega
  obtain ⟨p, hp⟩ := Option.isSome_iff_exists.mp hc.2
  obtain ⟨p2, hp2⟩ := Option.isSome_iff_exists.mp hc2.2
  obtain ⟨u, v⟩ := p
  obtain ⟨u2, v2⟩ := p2
  obtain ⟨x1, y1, x2, y2, e1, e2, z, hu, hv⟩ := zxv_d hp
  obtain ⟨x1', y1', x2', y2', e1', e2', z', hu', hv'⟩ := zxv_d hp2
  rw [zmk_a hQ hk4] at e1' e2'
  rw [show -(-1 : Int) = 1 from rfl, e1] at e2'
  rw [e2] at e1'
  cases e1'
  cases e2'
  have su : zxF q n k (21 + k) = u := by rw [zxF_u, hp]; rfl
  have sv : zxF q n k (25 + k) = v := by rw [zxF_v hk4, hp]; rfl
  have s1 := zmk_sm hQ.S hk4 e1
  have s2 := zmk_sm hQ.S hk4 e2
  have hva := hQ.S.v k hk4
  have w1 : 0 < x1 := by have := s1.1; omega
  have w2 : 0 < y1 := by have := s1.2.2.1; omega
  have w3 : 0 < x2 := by have := s2.1; omega
  have w4 : 0 < y2 := by have := s2.2.2.1; omega
  have w5 : 0 < q (21 + k) := by have := hva.1; omega
  have w6 : 0 < q (25 + k) := by have := hva.2.2.1; omega
  have sm : x2 * y1 + x1 * y2 = x1 * y2 + x2 * y1 := Int.add_comm _ _
  have sd : y2 * y1 = y1 * y2 := Int.mul_comm _ _
  rw [sm, sd, su, sv] at hu' hv'
  have p1 : 0 < x1 * y2 + x2 * y1 := by have := Int.mul_pos w1 w4; have := Int.mul_pos w3 w2; omega
  have p2 : 0 < y1 * y2 := Int.mul_pos w2 w4
  generalize hN : zu (x1 * y2 + x2 * y1) (y1 * y2) = N at hu hv hu' hv'
  generalize hD : zv (x1 * y2 + x2 * y1) (y1 * y2) = D at hu hv hu' hv'
  have n1 : 0 < N := by rw [← hN]; have := zu_p p1 p2; omega
  have d1 : 0 < D := by rw [← hD]; have := (zv_b (a := x1 * y2 + x2 * y1) p2).1; omega
  have X1 : 0 < N * q (25 + k) := Int.mul_pos n1 w6
  have Y1 : 0 < D * q (21 + k) := Int.mul_pos d1 w5
  have cr := zuv_x X1 Y1
  rw [← hu, ← hv] at cr
  have u0 : 0 < u := by rw [hu]; have := zu_p X1 Y1; omega
  have v0 : 0 < v := by rw [hv]; have := (zv_b (a := N * q (25 + k)) Y1).1; omega
  have fin := zlt1 (X := N * v) (Y := D * u) (Int.mul_pos n1 v0) (Int.mul_pos d1 u0) w5 w6 (hQ.g k hk4) (by
    calc N * v * q (25 + k) = v * (N * q (25 + k)) := by simp only [Int.mul_comm, Int.mul_left_comm, Int.mul_assoc]
      _ = u * (D * q (21 + k)) := cr.symm
      _ = D * u * q (21 + k) := by simp only [Int.mul_comm, Int.mul_left_comm, Int.mul_assoc])
  refine ⟨fun e he => ?_, fun i hi => ?_⟩
  · rw [zxF_b he]
    have := zxb_2 hQ hk4 (i := e / 4) (j := e % 4) (by omega) (by omega)
    rw [show 1 + (4 * (e / 4) + e % 4) = 1 + e by omega] at this
    exact this.symm
  · by_cases e : i = k
    · subst e
      rw [zxF_u, zxF_v hk4, hp2]
      exact ⟨(hu'.trans fin.1).symm, (hv'.trans fin.2).symm⟩
    · rw [zxF_o (by omega) (by omega) (by omega) (by omega), zxF_o (by omega) (by omega) (by omega) (by omega), zxF_o (j := 25 + i) (by omega) (by omega) (by omega) (by omega), zxF_o (j := 25 + i) (by omega) (by omega) (by omega) (by omega)]
      exact ⟨rfl, rfl⟩
/-- the letter by which a seed came leads to nothing new -/
theorem zba_s {n a : Nat} {q : Nat → Int} {L : List zE} (h : zBL n q L) (ha : a < L.length) (h1 : 1 ≤ a) : zba n a (zL L a).2.2.1 L = L := by
  refine zba_f (fun g => ?_)
  have f := (h.2.2.2 a ha).2 h1
  have p := h.2.2.2 (zL L a).2.1 (by omega)
  have e := f.2.2.2.2.2
  have c := f.2.2.2.2.1
  have g1 := g.1
  have g2 := g.2 (zL L a).2.1 (by omega)
  rw [e] at g1 g2
  exact g2 (zxF_2 p.1 f.2.1 c g1)
/-- a letter by which a seed didn't come has a value that stands ahead -/
theorem zni_s {n o i j : Nat} {q : Nat → Int} {L : List zE} (h : zBL n q L) (ho : o < L.length) (h1 : 1 ≤ o) (hi : i < n) (hne : i ≠ (zL L o).2.2.1) : ¬ zni L n o i j := by
  intro g
  have f := (h.2.2.2 o ho).2 h1
  have h4 := (h.2.2.2 o ho).1.S.n4
  refine g.1 ⟨(zL L o).2.1, i, f.1, hi, ?_, ?_⟩
  · rw [f.2.2.2.2.2, zxF_o (by omega) (by omega) (by omega) (by omega)]
  · rw [f.2.2.2.2.2, zxF_o (by omega) (by omega) (by omega) (by omega)]
