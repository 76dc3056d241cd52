theorem zbh_cd {t : Nat → Int} {F p : Nat} (h : 0 ≤ zbh t F p) : zcd (zlt t F p) := by
  unfold zbh at h
  unfold zcd
  by_cases h1 : zlt t F p = 110 ∨ zlt t F p = 109
  · omega
  · rw [if_neg h1] at h
    by_cases h2 : zlt t F p = 115 ∨ zlt t F p = 119
    · omega
    · rw [if_neg h2] at h
      by_cases h3 : zlt t F p = 98
      · omega
      · rw [if_neg h3] at h
        omega
theorem zfg_b (c : Int) : -1 ≤ zfg c ∧ zfg c ≤ 9 := by
  unfold zfg
  split <;> omega
theorem znm_b (t : Nat → Int) (F p : Nat) : -9 ≤ znm t F p ∧ znm t F p ≤ 9 := by
  have h1 := zfg_b (zlt t F p)
  have h2 := zfg_b (zlt t F (p + 1))
  unfold znm
  split <;> omega
/-- the statements of a text, one behind the other: how many; or -1 less the place of the first misplaced letter -/
def zw1 (t : Nat → Int) (F : Nat) : Nat → Nat → Nat → Int
  | 0, _, k => (k : Int)
  | f + 1, p, k => if zbh t F p < 0 then zbh t F p else if (F : Int) ≤ zbh t F p then ((k + 1 : Nat) : Int) else zw1 t F f (zbh t F p).toNat (k + 1)
theorem zw1_n {t : Nat → Int} {F f p k : Nat} (h : zbh t F p < 0) : zw1 t F (f + 1) p k = zbh t F p := if_pos h
theorem zw1_e {t : Nat → Int} {F f p k b : Nat} (h : zbh t F p = (b : Int)) (g : F ≤ b) : zw1 t F (f + 1) p k = ((k + 1 : Nat) : Int) := (if_neg (by omega)).trans (if_pos (by omega))
theorem zw1_g {t : Nat → Int} {F f p k b : Nat} (h : zbh t F p = (b : Int)) (g : b < F) : zw1 t F (f + 1) p k = zw1 t F f b (k + 1) := by
  show (if _ then _ else if _ then _ else _) = _
  rw [if_neg (by omega), if_neg (by omega), show (zbh t F p).toNat = b by omega]
/-- the statements of a text done: the seed then, or the place of the first that can't be -/
noncomputable def zw2 (t : Nat → Int) (F : Nat) : Nat → Nat → (Nat → Int) → (Nat → Int) ⊕ Nat
  | 0, _, q => .inl q
  | f + 1, p, q => if F ≤ p then .inl q else if zbh t F p < 0 then .inr p else
    match zdo (zlt t F p) (zfg (zlt t F (p + 1))) (zfg (zlt t F (p + 2))) (znm t F (p + 3)) q with
    | none => .inr p
    | some q' => zw2 t F f (zbh t F p).toNat q'
theorem zw2_e {t : Nat → Int} {F f p : Nat} {q : Nat → Int} (h : F ≤ p) : zw2 t F (f + 1) p q = .inl q := if_pos h
theorem zw2_n {t : Nat → Int} {F f p : Nat} {q : Nat → Int} (h : ¬ F ≤ p) (g : zbh t F p < 0) : zw2 t F (f + 1) p q = .inr p := (if_neg h).trans (if_pos g)
theorem zw2_f {t : Nat → Int} {F f p : Nat} {q : Nat → Int} (h : ¬ F ≤ p) (g : ¬ zbh t F p < 0) (d : zdo (zlt t F p) (zfg (zlt t F (p + 1))) (zfg (zlt t F (p + 2))) (znm t F (p + 3)) q = none) : zw2 t F (f + 1) p q = .inr p := by
  refine ((if_neg h).trans (if_neg g)).trans ?_
  rw [d]
theorem zw2_g {t : Nat → Int} {F f p b : Nat} {q q' : Nat → Int} (h : ¬ F ≤ p) (g : zbh t F p = (b : Int)) (d : zdo (zlt t F p) (zfg (zlt t F (p + 1))) (zfg (zlt t F (p + 2))) (znm t F (p + 3)) q = some q') : zw2 t F (f + 1) p q = zw2 t F f b q' := by
  refine ((if_neg h).trans (if_neg (by omega))).trans ?_
  rw [d, g]
  rfl
def zr2 : (Nat → Int) ⊕ Nat → (Nat → Int) ⊕ Nat → Prop
  | .inl S, .inl q => zeq S q
  | .inr x, .inr y => x = y
  | _, _ => False
theorem zr2_0 : ∀ a, zr2 a a
  | .inl _ => fun _ _ => rfl
  | .inr _ => rfl
theorem zr2_t : ∀ {a b c}, zr2 a b → zr2 b c → zr2 a c
  | .inl _, .inl _, .inl _, h, g => zeq_t h g
  | .inr _, .inr _, .inr _, h, g => Eq.trans h g
  | .inl _, .inl _, .inr _, _, g => g.elim
  | .inl _, .inr _, _, h, _ => h.elim
  | .inr _, .inl _, _, h, _ => h.elim
  | .inr _, .inr _, .inl _, _, g => g.elim
theorem zw2_c {t : Nat → Int} {F : Nat} : ∀ (f p n : Nat) (S q : Nat → Int), zQ q n → zeq S q → zr2 (zw2 t F f p S) (zw2 t F f p q)
  | 0, _, _, _, _, _, h => h
  | f + 1, p, n, S, q, hq, h => by
    by_cases e : F ≤ p
    · rw [zw2_e e, zw2_e e]
      exact h
    · by_cases g : zbh t F p < 0
      · rw [zw2_n e g, zw2_n e g]
        rfl
      · have hc := zbh_cd (t := t) (F := F) (p := p) (by omega)
        obtain ⟨b, hb⟩ : ∃ b : Nat, zbh t F p = (b : Int) := ⟨(zbh t F p).toNat, by omega⟩
        rcases zdo_c (i := zfg (zlt t F (p + 1))) (j := zfg (zlt t F (p + 2))) (v := znm t F (p + 3)) hq hc h with ⟨d1, d2⟩ | ⟨S', q', d1, d2, h'⟩
        · rw [zw2_f e g d1, zw2_f e g d2]
          rfl
        · rw [zw2_g e hb d1, zw2_g e hb d2]
          obtain ⟨n', hq'⟩ := zdo_Q hq hc (fun _ => (zfg_b _).2) (fun _ => znm_b _ _ _) d2
          exact zw2_c f b n' S' q' hq' h'
/-- the reference but for the seed and the past; the letters are no more -/
def mfW (w : jS) (m : Nat) (w1 : jS) : Prop := w1.2 = w.2 ∧ (∀ a, (a < m ∨ m + 430 ≤ a ∨ a = m + 2 ∨ a = m + 3 ∨ a = m + 421 ∨ a = m + 423 ∨ (m + 425 ≤ a ∧ a ≤ m + 429)) → w1.1 a = w.1 a) ∧ w1.1 m 24 = 0 ∧ w1.1 m 31 = w.1 m 31
theorem zfinW {w W w3 : jS} {m u : Nat} {T : Nat → Int} (hq : mq w m W) (hc : zcom (jW W m 24 0) m u ((jW W m 24 0).1 (m + 1)) w3) : mfW w m (kA w3 (m + 1) T) ∧ zpst w m u (w.1 (m + 1)) (kA w3 (m + 1) T) ∧ w3.1 (m + 16) = W.1 (m + 16) := by
  obtain ⟨f1, f2, hg, hc⟩ := hc
  have e1 : (jW W m 24 0).1 (m + 1) = w.1 (m + 1) := (jW_f (by omega)).trans (hq.2.1 _ (by omega))
  have e8 : ∀ x, x < 8 → (jW W m 24 0).1 (m + (8 + x)) = w.1 (m + (8 + x)) := fun x hx => (jW_f (by omega)).trans (hq.2.1 _ (by omega))
  rw [e1] at hc
  refine ⟨⟨hg.trans hq.1, fun a ha => ?_, ?_, ?_⟩, ?_, (f1 (m + 16) (by omega) (fun x hx => by omega)).trans (jW_f (by omega))⟩
  · exact (kA_f (by omega)).trans ((f1 a (by omega) (fun x hx => by omega)).trans ((jW_f (by omega)).trans (hq.2.1 a (by omega))))
  · exact (kA_a (by omega)).trans ((f2 24 (by decide)).trans jW_s)
  · exact (kA_a (by omega)).trans ((f2 31 (by decide)).trans ((jW_k (by decide)).trans hq.2.2.2.2))
  · rcases hc with ⟨a1, a2, a3, a4⟩ | ⟨a1, a2, a3, a4⟩
    · exact Or.inl ⟨a1, (kA_a (by omega)).trans a2, fun x hx => (kA_f (by omega)).trans ((a3 x hx).trans (e8 x (by omega))), fun c hc => (kA_a (by omega)).trans (a4 c hc)⟩
    · exact Or.inr ⟨a1, (kA_a (by omega)).trans a2, fun x hx c hc => (kA_a (by omega)).trans ((a3 x hx c hc).trans (congrFun (e8 (x + 1) (by omega)) c)), fun c hc => (kA_a (by omega)).trans (a4 c hc)⟩
/-- what both parts of a walk work with -/
def zwf (w : jS) (m : Nat) (w1 : jS) : Prop := w1.2 = w.2 ∧ (∀ a, a ≠ m → a ≠ m + 6 → a ≠ m + 16 → a ≠ m + 422 → w1.1 a = w.1 a) ∧ ∀ j, j ≠ 11 → j ≠ 12 → j ≠ 25 → w1.1 m j = w.1 m j
theorem zwf_q {w w1 : jS} {m : Nat} (h : zwf w m w1) : mq w m w1 := ⟨h.1, fun a ha => h.2.1 a (by omega) (by omega) (by omega) (by omega), h.2.2 15 (by decide) (by decide) (by decide), h.2.2 24 (by decide) (by decide) (by decide), h.2.2 31 (by decide) (by decide) (by decide)⟩
theorem zwf_t {w w1 w2 : jS} {m : Nat} (h : zwf w m w1) (g : zwf w1 m w2) : zwf w m w2 := ⟨g.1.trans h.1, fun a h0 h6 h16 h4 => (g.2.1 a h0 h6 h16 h4).trans (h.2.1 a h0 h6 h16 h4), fun j h1 h2 h3 => (g.2.2 j h1 h2 h3).trans (h.2.2 j h1 h2 h3)⟩
theorem zwf_s {w w1 : jS} {m : Nat} (h : zsg w m w1) : zwf w m w1 := ⟨h.1, fun a h0 _ _ h4 => h.2.1 a h0 h4, fun j _ _ h3 => h.2.2 j h3⟩
theorem zwf_d {w w1 : jS} {m : Nat} (h : zdf w m w1) : zwf w m w1 := ⟨h.1, fun a h0 h6 h16 _ => h.2.1 a h0 h6 h16, fun j h1 h2 _ => h.2.2 j h1 h2⟩
theorem zwf_0 {w : jS} {m : Nat} : zwf w m w := ⟨rfl, fun _ _ _ _ _ => rfl, fun _ _ _ _ => rfl⟩
theorem zwf_p {w : jS} {m : Nat} {x : Int} : zwf w m (jW w m 25 x) := ⟨rfl, fun _ h _ _ _ => jW_f h, fun _ _ _ h => jW_k h⟩
theorem zwf_A {w : jS} {m : Nat} {T : Nat → Int} : zwf w m (kA w (m + 16) T) := ⟨rfl, fun _ _ _ h _ => kA_f h, fun _ _ _ _ => kA_a (by omega)⟩
/-- what isn't told by a statement doesn't matter to it -/
theorem zdoN {t N q q' : Nat → Int} {F p : Nat} (h : zst1 t F p N) (hq : q = q') : zdo (zlt t F p) (N 0) (N 1) (N 2) q = zdo (zlt t F p) (zfg (zlt t F (p + 1))) (zfg (zlt t F (p + 2))) (znm t F (p + 3)) q' := by
  subst hq
  obtain ⟨h0, h1, h2, h3⟩ := h
  rw [h1.1]
  rcases h0 with e | e | e | e | e
  · rw [e, zdo_n, zdo_n]
  · rw [e]
    by_cases g : 0 ≤ zfg (zlt t F (p + 1)) ∧ zfg (zlt t F (p + 1)) < q 0
    · rw [zdo_m g, zdo_m g]
    · rw [zdo_i (by decide) g, zdo_i (by decide) g]
  · rw [(h2 (Or.inl e)).1, e]
    by_cases g : 0 ≤ zfg (zlt t F (p + 1)) ∧ zfg (zlt t F (p + 1)) < q 0
    · rw [zdo_s g, zdo_s g]
    · rw [zdo_i (by decide) g, zdo_i (by decide) g]
  · rw [(h2 (Or.inr (Or.inl e))).1, e]
    by_cases g : 0 ≤ zfg (zlt t F (p + 1)) ∧ zfg (zlt t F (p + 1)) < q 0
    · by_cases k : ¬ (0 ≤ zfg (zlt t F (p + 2)) ∧ zfg (zlt t F (p + 2)) < q 0) ∨ zfg (zlt t F (p + 1)) = zfg (zlt t F (p + 2))
      · rw [zdo_j (by decide) (by decide) (by decide) g k, zdo_j (by decide) (by decide) (by decide) g k]
      · rw [zdo_w g k, zdo_w g k]
    · rw [zdo_i (by decide) g, zdo_i (by decide) g]
  · rw [(h2 (Or.inr (Or.inr e))).1, (h3 e).1]
theorem zr2_i : ∀ {a : (Nat → Int) ⊕ Nat} {x : Nat}, zr2 (.inr x) a → a = .inr x
  | .inr _, _, h => by rw [show _ = _ from h]
  | .inl _, _, h => h.elim
theorem zr2_l : ∀ {a : (Nat → Int) ⊕ Nat} {S : Nat → Int}, zr2 (.inl S) a → ∃ q, a = .inl q ∧ zeq S q
  | .inl q, _, h => ⟨q, rfl, h⟩
  | .inr _, _, h => h.elim
set_option maxHeartbeats 4000000 in
set_option maxRecDepth 20000 in
theorem E_walk {w : jS} {m : Nat} (hW : MW w.2 m) {n u F : Nat} {t : Nat → Int} (hQ : zQ (w.1 (m + 1)) n) (hu : w.1 m 15 = (u : Int)) (hu8 : u ≤ 8) (hF : w.1 m 24 = (F : Int)) (hF72 : F ≤ 72) (ht : w.1 (m + 421) = t) (hL : ∀ j, j < F → 0 ≤ t j ∧ t j ≤ 255) : jCall 206 [jO m] w (fun v w1 => ((zw1 t F 73 0 0) < 0 → v = some (jI (-999 + (zw1 t F 73 0 0))) ∧ ∃ w2, mq w m w2 ∧ w1 = jW w2 m 24 0) ∧ (0 ≤ (zw1 t F 73 0 0) → (∀ b, (zw2 t F 73 0 (w.1 (m + 1))) = .inr b → v = some (jI (-2000 - (b : Int))) ∧ ∃ w2, mq w m w2 ∧ w1 = jW w2 m 24 0) ∧ ∀ q, (zw2 t F 73 0 (w.1 (m + 1))) = .inl q → v = some (jI (zw1 t F 73 0 0)) ∧ zeq (w1.1 (m + 1)) q ∧ zpst w m u (w.1 (m + 1)) w1 ∧ mfW w m w1)) := by
  have mt : jtb 206 = jT206 := rfl
  show jWp 206 0 [some (jO m), none, none, none, none, none] [] 0 0 w _
  refine jWp.blk mt 1 ?_
  show _ ∧ jWp 206 1 [some (jO m), none, none, none, none, none] [jO m] 0 0 w _
  refine ⟨rfl, ?_⟩
  refine jWp.getI (pc' := 4) mt rfl rfl (jtg hW.K0) ?_
  rw [show (w.1 m 24) = (F : Int) from hF]
  show jWp 206 4 [some (jO m), none, none, none, none, none] [jI (F : Int)] 0 0 w _
  refine jWp.blk mt 3 ?_
  show _ ∧ jWp 206 7 [some (jO m), some (jI (F : Int)), none, none, none, none] [jI 0, jO m] 0 0 w _
  refine ⟨rfl, ?_⟩
  refine jWp.putI (pc' := 10) mt rfl rfl (jtg hW.K0) ?_
  show jWp 206 10 [some (jO m), some (jI (F : Int)), none, none, none, none] [] 0 0 (jW w m 25 0) _
  refine jWp.blk mt 4 ?_
  show jWp 206 14 [some (jO m), some (jI (F : Int)), some (jI 0), some (jI 1), none, none] [] 0 0 (jW w m 25 0) _
  have lp1 : ∀ (N : Nat) (k p : Nat) (s : Int) (M1 : Nat → Nat → Int) (hw1 : zwf w m (M1, w.2)) (hp : M1 m 25 = (p : Int)) (hp1 : (s = 1 ∧ k ≤ p ∧ p ≤ F ∧ (k = 0 ∨ p < F → zw1 t F (73 - k) p k = (zw1 t F 73 0 0)) ∧ (k ≠ 0 → F ≤ p → (k : Int) = (zw1 t F 73 0 0))) ∨ (s = 0 ∧ (zw1 t F 73 0 0) = -1 - (p : Int) ∧ p ≤ 100)) (hk : k ≤ 73), 80 - k < N → jWp 206 14 [some (jO m), some (jI (F : Int)), some (jI (k : Int)), some (jI s), none, none] [] 0 0 (M1, w.2) (fun v w1 => ((zw1 t F 73 0 0) < 0 → v = some (jI (-999 + (zw1 t F 73 0 0))) ∧ ∃ w2, mq w m w2 ∧ w1 = jW w2 m 24 0) ∧ (0 ≤ (zw1 t F 73 0 0) → (∀ b, (zw2 t F 73 0 (w.1 (m + 1))) = .inr b → v = some (jI (-2000 - (b : Int))) ∧ ∃ w2, mq w m w2 ∧ w1 = jW w2 m 24 0) ∧ ∀ q, (zw2 t F 73 0 (w.1 (m + 1))) = .inl q → v = some (jI (zw1 t F 73 0 0)) ∧ zeq (w1.1 (m + 1)) q ∧ zpst w m u (w.1 (m + 1)) w1 ∧ mfW w m w1)) := by
    intro N
    induction N with
    | zero => intro k p s M1 hw1 hp hp1 hk hm; omega
    | succ N ih2 =>
      intro k p s M1 hw1 hp hp1 hk hm
      have hr1 : s = 1 → k = 0 ∨ p < F → zw1 t F (73 - k) p k = (zw1 t F 73 0 0) := fun e => by
        rcases hp1 with ⟨_, _, _, h, _⟩ | ⟨e2, _⟩
        · exact h
        · omega
      have hk1 : s = 1 → k ≠ 0 → F ≤ p → (k : Int) = (zw1 t F 73 0 0) := fun e => by
        rcases hp1 with ⟨_, _, _, _, h⟩ | ⟨e2, _⟩
        · exact h
        · omega
      refine jWp.blk mt 1 ?_
      show jWp 206 15 [some (jO m), some (jI (F : Int)), some (jI (k : Int)), some (jI s), none, none] [jI s] 0 0 (M1, w.2) _
      refine jWp.ifz (pc' := 18) mt rfl rfl (b32_id (by omega) (by omega)) (fun h3 => ?_) (fun h3 => ?_)
      · have h3 : s = 0 := h3
        refine jWp.blk mt 1 ?_
        show jWp 206 42 [some (jO m), some (jI (F : Int)), some (jI (k : Int)), some (jI s), none, none] [jI s] 0 0 (M1, w.2) _
        refine jWp.ifz (pc' := 45) mt rfl rfl (b32_id (by omega) (by omega)) (fun h4 => ?_) (fun h4 => ?_)
        · have h4 : s ≠ 0 := h4
          refine jWp.blk mt 1 ?_
          show _ ∧ jWp 206 60 [some (jO m), some (jI (F : Int)), some (jI (k : Int)), some (jI s), none, none] [jO m] 0 0 (M1, w.2) _
          refine ⟨rfl, ?_⟩
          refine jWp.getR (pc' := 63) (o := (m + 1)) mt rfl rfl (jtg hW.K0) hW.R0 ?_
          show jWp 206 63 [some (jO m), some (jI (F : Int)), some (jI (k : Int)), some (jI s), none, none] [jO (m + 1)] 0 0 (M1, w.2) _
          refine jWp.blk mt 1 ?_
          show _ ∧ jWp 206 64 [some (jO m), some (jI (F : Int)), some (jI (k : Int)), some (jI s), none, none] [jO m, jO (m + 1)] 0 0 (M1, w.2) _
          refine ⟨rfl, ?_⟩
          refine jWp.getR (pc' := 67) (o := (m + 16)) mt rfl rfl (jtg hW.K0) hW.R16 ?_
          show jWp 206 67 [some (jO m), some (jI (F : Int)), some (jI (k : Int)), some (jI s), none, none] [jO (m + 16), jO (m + 1)] 0 0 (M1, w.2) _
          refine jWp.calls (as := [jO (m + 1), jO (m + 16)]) (rest := []) mt rfl rfl rfl rfl ?_
          refine jCall.mono (E_copies (w := (M1, w.2)) (a := m + 1) (q := m + 16) hW.K1 hW.K16 (by omega)) (fun v9 w9 h9 => ?_)
          obtain ⟨rfl, T5, h9, hT6⟩ := h9
          subst h9
          show jWp 206 70 [some (jO m), some (jI (F : Int)), some (jI (k : Int)), some (jI s), none, none] [] 0 0 (kA (M1, w.2) (m + 16) T5) _
          refine jWp.blk mt 2 ?_
          show _ ∧ jWp 206 72 [some (jO m), some (jI (F : Int)), some (jI (k : Int)), some (jI s), none, none] [jI 0, jO m] 0 0 (kA (M1, w.2) (m + 16) T5) _
          refine ⟨rfl, ?_⟩
          refine jWp.putI (pc' := 75) mt rfl rfl (jtg hW.K0) ?_
          show jWp 206 75 [some (jO m), some (jI (F : Int)), some (jI (k : Int)), some (jI s), none, none] [] 0 0 (jW (kA (M1, w.2) (m + 16) T5) m 25 0) _
          refine jWp.blk mt 2 ?_
          show jWp 206 78 [some (jO m), some (jI (F : Int)), some (jI (k : Int)), some (jI s), some (jI 0), none] [] 0 0 (jW (kA (M1, w.2) (m + 16) T5) m 25 0) _
          have lp7 : ∀ (N : Nat) (f p bb : Nat) (s : Int) (M2 : Nat → Nat → Int) (hw2 : zwf w m (M2, w.2)) (hp : M2 m 25 = (p : Int)) (hp2 : (s = 1 ∧ zr2 (zw2 t F f p (M2 (m + 16))) (zw2 t F 73 0 (w.1 (m + 1))) ∧ F + 1 ≤ p + f ∧ p ≤ F ∧ ∃ n2, zQ (M2 (m + 16)) n2) ∨ (s = 0 ∧ (zw2 t F 73 0 (w.1 (m + 1))) = .inr bb)) (hpF : p ≤ 100) (hbF : bb ≤ 100), (101 - p) + s.toNat < N → jWp 206 78 [some (jO m), some (jI (F : Int)), some (jI (k : Int)), some (jI s), some (jI (bb : Int)), none] [] 0 0 (M2, w.2) (fun v w1 => ((zw1 t F 73 0 0) < 0 → v = some (jI (-999 + (zw1 t F 73 0 0))) ∧ ∃ w2, mq w m w2 ∧ w1 = jW w2 m 24 0) ∧ (0 ≤ (zw1 t F 73 0 0) → (∀ b, (zw2 t F 73 0 (w.1 (m + 1))) = .inr b → v = some (jI (-2000 - (b : Int))) ∧ ∃ w2, mq w m w2 ∧ w1 = jW w2 m 24 0) ∧ ∀ q, (zw2 t F 73 0 (w.1 (m + 1))) = .inl q → v = some (jI (zw1 t F 73 0 0)) ∧ zeq (w1.1 (m + 1)) q ∧ zpst w m u (w.1 (m + 1)) w1 ∧ mfW w m w1)) := by
            intro N
            induction N with
            | zero => intro f p bb s M2 hw2 hp hp2 hpF hbF hm; omega
            | succ N ih8 =>
              intro f p bb s M2 hw2 hp hp2 hpF hbF hm
              have hr2 : s = 1 → zr2 (zw2 t F f p (M2 (m + 16))) (zw2 t F 73 0 (w.1 (m + 1))) := fun e => by
                rcases hp2 with ⟨_, h, _⟩ | ⟨e2, _⟩
                · exact h
                · omega
              have hx2 : ∃ n2, s = 1 → zQ (M2 (m + 16)) n2 := by
                rcases hp2 with ⟨_, _, _, _, n2, h⟩ | ⟨e2, _⟩
                · exact ⟨n2, fun _ => h⟩
                · exact ⟨0, fun e => by omega⟩
              obtain ⟨n2, hQ2⟩ := hx2
              refine jWp.blk mt 1 ?_
              show jWp 206 79 [some (jO m), some (jI (F : Int)), some (jI (k : Int)), some (jI s), some (jI (bb : Int)), none] [jI s] 0 0 (M2, w.2) _
              refine jWp.ifz (pc' := 82) mt rfl rfl (b32_id (by omega) (by omega)) (fun h9 => ?_) (fun h9 => ?_)
              · have h9 : s = 0 := h9
                refine jWp.blk mt 2 ?_
                show _ ∧ jWp 206 129 [some (jO m), some (jI (F : Int)), some (jI (k : Int)), some (jI s), some (jI (bb : Int)), none] [jI 0, jO m] 0 0 (M2, w.2) _
                refine ⟨rfl, ?_⟩
                refine jWp.putI (pc' := 132) mt rfl rfl (jtg hW.K0) ?_
                show jWp 206 132 [some (jO m), some (jI (F : Int)), some (jI (k : Int)), some (jI s), some (jI (bb : Int)), none] [] 0 0 (jW (M2, w.2) m 24 0) _
                refine jWp.blk mt 1 ?_
                show jWp 206 133 [some (jO m), some (jI (F : Int)), some (jI (k : Int)), some (jI s), some (jI (bb : Int)), none] [jI s] 0 0 (jW (M2, w.2) m 24 0) _
                refine jWp.ifz (pc' := 136) mt rfl rfl (b32_id (by omega) (by omega)) (fun h10 => ?_) (fun h10 => ?_)
                · have h10 : s ≠ 0 := h10
                  refine jWp.blk mt 2 ?_
                  show _ ∧ _ ∧ jWp 206 145 [some (jO m), some (jI (F : Int)), some (jI (k : Int)), some (jI s), some (jI (bb : Int)), none] [jO m, jO m] 0 0 (jW (M2, w.2) m 24 0) _
                  refine ⟨rfl, rfl, ?_⟩
                  refine jWp.getR (pc' := 148) (o := (m + 1)) mt rfl rfl (jtg hW.K0) hW.R0 ?_
                  show jWp 206 148 [some (jO m), some (jI (F : Int)), some (jI (k : Int)), some (jI s), some (jI (bb : Int)), none] [jO (m + 1), jO m] 0 0 (jW (M2, w.2) m 24 0) _
                  refine jWp.callv (as := [jO m, jO (m + 1)]) (rest := []) mt rfl rfl rfl ⟨rfl, jtg hW.K0⟩ ?_
                  refine jCall.mono (E_comes (w := (jW (M2, w.2) m 24 0)) (u := u) (b := 1) hW ((jW_k (by decide)).trans ((hw2.2.2 15 (by decide) (by decide) (by decide)).trans hu)) hu8 hW.K1 (by decide) (Or.inl (by decide))) (fun v9 w9 h9 => ?_)
                  obtain ⟨rfl, hzc⟩ := h9
                  obtain ⟨M5, G5⟩ := w9
                  have hg : G5 = w.2 := hzc.2.2.1
                  subst hg
                  show jWp 206 151 [some (jO m), some (jI (F : Int)), some (jI (k : Int)), some (jI s), some (jI (bb : Int)), none] [] 0 0 (M5, w.2) _
                  refine jWp.blk mt 1 ?_
                  show _ ∧ jWp 206 152 [some (jO m), some (jI (F : Int)), some (jI (k : Int)), some (jI s), some (jI (bb : Int)), none] [jO m] 0 0 (M5, w.2) _
                  refine ⟨rfl, ?_⟩
                  refine jWp.getR (pc' := 155) (o := (m + 16)) mt rfl rfl (jtg hW.K0) hW.R16 ?_
                  show jWp 206 155 [some (jO m), some (jI (F : Int)), some (jI (k : Int)), some (jI s), some (jI (bb : Int)), none] [jO (m + 16)] 0 0 (M5, w.2) _
                  refine jWp.blk mt 1 ?_
                  show _ ∧ jWp 206 156 [some (jO m), some (jI (F : Int)), some (jI (k : Int)), some (jI s), some (jI (bb : Int)), none] [jO m, jO (m + 16)] 0 0 (M5, w.2) _
                  refine ⟨rfl, ?_⟩
                  refine jWp.getR (pc' := 159) (o := (m + 1)) mt rfl rfl (jtg hW.K0) hW.R0 ?_
                  show jWp 206 159 [some (jO m), some (jI (F : Int)), some (jI (k : Int)), some (jI s), some (jI (bb : Int)), none] [jO (m + 1), jO (m + 16)] 0 0 (M5, w.2) _
                  refine jWp.calls (as := [jO (m + 16), jO (m + 1)]) (rest := []) mt rfl rfl rfl rfl ?_
                  refine jCall.mono (E_copies (w := (M5, w.2)) (a := m + 16) (q := m + 1) hW.K16 hW.K1 (by omega)) (fun v9 w9 h9 => ?_)
                  obtain ⟨rfl, T11, h9, hT12⟩ := h9
                  subst h9
                  show jWp 206 162 [some (jO m), some (jI (F : Int)), some (jI (k : Int)), some (jI s), some (jI (bb : Int)), none] [] 0 0 (kA (M5, w.2) (m + 1) T11) _
                  refine jWp.blk mt 1 ?_
                  show jWp 206 163 [some (jO m), some (jI (F : Int)), some (jI (k : Int)), some (jI s), some (jI (bb : Int)), none] [jI (k : Int)] 0 0 (kA (M5, w.2) (m + 1) T11) _
                  refine jWp.ireti mt rfl ⟨rfl, rfl⟩ rfl ?_
                  have hZ := zfinW (T := T11) (zwf_q hw2) hzc
                  have hin : ∃ q, (zw2 t F 73 0 (w.1 (m + 1))) = .inl q ∧ zeq (M2 (m + 16)) q := by
                    rcases hp2 with ⟨e, hr2, g1, g2, g3⟩ | ⟨e, g⟩
                    · rw [show f = (f - 1) + 1 by omega, zw2_e (by omega)] at hr2
                      exact zr2_l hr2
                    · exfalso; omega
                  obtain ⟨q9, hq9, he9⟩ := hin
                  refine ⟨fun hn => ?_, fun hn => ⟨fun b2 hb2 => ?_, fun q2 hq2 => ⟨?_, ?_, hZ.2.1, hZ.1⟩⟩⟩
                  · exfalso; omega
                  · rw [hq9] at hb2
                    cases hb2
                  · rw [hk1 (by omega) (by omega) (by omega)]
                  · rw [hq9] at hq2
                    cases hq2
                    rw [kA_fs]
                    exact fun j hj => ((hT12 j hj).trans (congrFun hZ.2.2 j)).trans (he9 j hj)
                · have h10 : s = 0 := h10
                  refine jWp.blk mt 3 ?_
                  show jWp 206 142 [some (jO m), some (jI (F : Int)), some (jI (k : Int)), some (jI s), some (jI (bb : Int)), none] [jI ((-2000) - (bb : Int))] 0 0 (jW (M2, w.2) m 24 0) _
                  refine jWp.ireti mt rfl ⟨rfl, rfl⟩ rfl ?_
                  refine ⟨fun hn => ?_, fun hn => ⟨fun b2 hb2 => ⟨?_, (M2, w.2), zwf_q hw2, rfl⟩, fun q2 hq2 => ?_⟩⟩
                  · exfalso; omega
                  · rcases hp2 with ⟨e, _⟩ | ⟨e, g⟩
                    · exfalso; omega
                    · rw [g] at hb2
                      cases hb2
                      rfl
                  · exfalso
                    rcases hp2 with ⟨e, _⟩ | ⟨e, g⟩
                    · omega
                    · rw [g] at hq2
                      cases hq2
              · have h9 : s ≠ 0 := h9
                refine jWp.blk mt 1 ?_
                show _ ∧ jWp 206 83 [some (jO m), some (jI (F : Int)), some (jI (k : Int)), some (jI s), some (jI (bb : Int)), none] [jO m] 0 0 (M2, w.2) _
                refine ⟨rfl, ?_⟩
                refine jWp.getI (pc' := 86) mt rfl rfl (jtg hW.K0) ?_
                rw [show ((M2, w.2).1 m 25) = (p : Int) from hp]
                show jWp 206 86 [some (jO m), some (jI (F : Int)), some (jI (k : Int)), some (jI s), some (jI (bb : Int)), none] [jI (p : Int)] 0 0 (M2, w.2) _
                refine jWp.blk mt 1 ?_
                show jWp 206 87 [some (jO m), some (jI (F : Int)), some (jI (k : Int)), some (jI s), some (jI (bb : Int)), none] [jI (F : Int), jI (p : Int)] 0 0 (M2, w.2) _
                refine jWp.icmp (pc' := 90) mt rfl rfl (b32_id (by omega) (by omega)) (b32_id (by omega) (by omega)) (fun h13 => ?_) (fun h13 => ?_)
                · have h13 : (F : Int) ≤ (p : Int) := h13
                  refine jWp.blk mt 2 ?_
                  show _ ∧ jWp 206 129 [some (jO m), some (jI (F : Int)), some (jI (k : Int)), some (jI s), some (jI (bb : Int)), none] [jI 0, jO m] 0 0 (M2, w.2) _
                  refine ⟨rfl, ?_⟩
                  refine jWp.putI (pc' := 132) mt rfl rfl (jtg hW.K0) ?_
                  show jWp 206 132 [some (jO m), some (jI (F : Int)), some (jI (k : Int)), some (jI s), some (jI (bb : Int)), none] [] 0 0 (jW (M2, w.2) m 24 0) _
                  refine jWp.blk mt 1 ?_
                  show jWp 206 133 [some (jO m), some (jI (F : Int)), some (jI (k : Int)), some (jI s), some (jI (bb : Int)), none] [jI s] 0 0 (jW (M2, w.2) m 24 0) _
                  refine jWp.ifz (pc' := 136) mt rfl rfl (b32_id (by omega) (by omega)) (fun h14 => ?_) (fun h14 => ?_)
                  · have h14 : s ≠ 0 := h14
                    refine jWp.blk mt 2 ?_
                    show _ ∧ _ ∧ jWp 206 145 [some (jO m), some (jI (F : Int)), some (jI (k : Int)), some (jI s), some (jI (bb : Int)), none] [jO m, jO m] 0 0 (jW (M2, w.2) m 24 0) _
                    refine ⟨rfl, rfl, ?_⟩
                    refine jWp.getR (pc' := 148) (o := (m + 1)) mt rfl rfl (jtg hW.K0) hW.R0 ?_
                    show jWp 206 148 [some (jO m), some (jI (F : Int)), some (jI (k : Int)), some (jI s), some (jI (bb : Int)), none] [jO (m + 1), jO m] 0 0 (jW (M2, w.2) m 24 0) _
                    refine jWp.callv (as := [jO m, jO (m + 1)]) (rest := []) mt rfl rfl rfl ⟨rfl, jtg hW.K0⟩ ?_
                    refine jCall.mono (E_comes (w := (jW (M2, w.2) m 24 0)) (u := u) (b := 1) hW ((jW_k (by decide)).trans ((hw2.2.2 15 (by decide) (by decide) (by decide)).trans hu)) hu8 hW.K1 (by decide) (Or.inl (by decide))) (fun v9 w9 h9 => ?_)
                    obtain ⟨rfl, hzc⟩ := h9
                    obtain ⟨M5, G5⟩ := w9
                    have hg : G5 = w.2 := hzc.2.2.1
                    subst hg
                    show jWp 206 151 [some (jO m), some (jI (F : Int)), some (jI (k : Int)), some (jI s), some (jI (bb : Int)), none] [] 0 0 (M5, w.2) _
                    refine jWp.blk mt 1 ?_
                    show _ ∧ jWp 206 152 [some (jO m), some (jI (F : Int)), some (jI (k : Int)), some (jI s), some (jI (bb : Int)), none] [jO m] 0 0 (M5, w.2) _
                    refine ⟨rfl, ?_⟩
                    refine jWp.getR (pc' := 155) (o := (m + 16)) mt rfl rfl (jtg hW.K0) hW.R16 ?_
                    show jWp 206 155 [some (jO m), some (jI (F : Int)), some (jI (k : Int)), some (jI s), some (jI (bb : Int)), none] [jO (m + 16)] 0 0 (M5, w.2) _
                    refine jWp.blk mt 1 ?_
                    show _ ∧ jWp 206 156 [some (jO m), some (jI (F : Int)), some (jI (k : Int)), some (jI s), some (jI (bb : Int)), none] [jO m, jO (m + 16)] 0 0 (M5, w.2) _
                    refine ⟨rfl, ?_⟩
                    refine jWp.getR (pc' := 159) (o := (m + 1)) mt rfl rfl (jtg hW.K0) hW.R0 ?_
                    show jWp 206 159 [some (jO m), some (jI (F : Int)), some (jI (k : Int)), some (jI s), some (jI (bb : Int)), none] [jO (m + 1), jO (m + 16)] 0 0 (M5, w.2) _
                    refine jWp.calls (as := [jO (m + 16), jO (m + 1)]) (rest := []) mt rfl rfl rfl rfl ?_
                    refine jCall.mono (E_copies (w := (M5, w.2)) (a := m + 16) (q := m + 1) hW.K16 hW.K1 (by omega)) (fun v9 w9 h9 => ?_)
                    obtain ⟨rfl, T15, h9, hT16⟩ := h9
                    subst h9
                    show jWp 206 162 [some (jO m), some (jI (F : Int)), some (jI (k : Int)), some (jI s), some (jI (bb : Int)), none] [] 0 0 (kA (M5, w.2) (m + 1) T15) _
                    refine jWp.blk mt 1 ?_
                    show jWp 206 163 [some (jO m), some (jI (F : Int)), some (jI (k : Int)), some (jI s), some (jI (bb : Int)), none] [jI (k : Int)] 0 0 (kA (M5, w.2) (m + 1) T15) _
                    refine jWp.ireti mt rfl ⟨rfl, rfl⟩ rfl ?_
                    have hZ := zfinW (T := T15) (zwf_q hw2) hzc
                    have hin : ∃ q, (zw2 t F 73 0 (w.1 (m + 1))) = .inl q ∧ zeq (M2 (m + 16)) q := by
                      rcases hp2 with ⟨e, hr2, g1, g2, g3⟩ | ⟨e, g⟩
                      · rw [show f = (f - 1) + 1 by omega, zw2_e (by omega)] at hr2
                        exact zr2_l hr2
                      · exfalso; omega
                    obtain ⟨q9, hq9, he9⟩ := hin
                    refine ⟨fun hn => ?_, fun hn => ⟨fun b2 hb2 => ?_, fun q2 hq2 => ⟨?_, ?_, hZ.2.1, hZ.1⟩⟩⟩
                    · exfalso; omega
                    · rw [hq9] at hb2
                      cases hb2
                    · rw [hk1 (by omega) (by omega) (by omega)]
                    · rw [hq9] at hq2
                      cases hq2
                      rw [kA_fs]
                      exact fun j hj => ((hT16 j hj).trans (congrFun hZ.2.2 j)).trans (he9 j hj)
                  · have h14 : s = 0 := h14
                    refine jWp.blk mt 3 ?_
                    show jWp 206 142 [some (jO m), some (jI (F : Int)), some (jI (k : Int)), some (jI s), some (jI (bb : Int)), none] [jI ((-2000) - (bb : Int))] 0 0 (jW (M2, w.2) m 24 0) _
                    refine jWp.ireti mt rfl ⟨rfl, rfl⟩ rfl ?_
                    refine ⟨fun hn => ?_, fun hn => ⟨fun b2 hb2 => ⟨?_, (M2, w.2), zwf_q hw2, rfl⟩, fun q2 hq2 => ?_⟩⟩
                    · exfalso; omega
                    · rcases hp2 with ⟨e, _⟩ | ⟨e, g⟩
                      · exfalso; omega
                      · rw [g] at hb2
                        cases hb2
                        rfl
                    · exfalso
                      rcases hp2 with ⟨e, _⟩ | ⟨e, g⟩
                      · omega
                      · rw [g] at hq2
                        cases hq2
                · have h13 : (p : Int) < (F : Int) := h13
                  refine jWp.blk mt 1 ?_
                  show _ ∧ jWp 206 91 [some (jO m), some (jI (F : Int)), some (jI (k : Int)), some (jI s), some (jI (bb : Int)), none] [jO m] 0 0 (M2, w.2) _
                  refine ⟨rfl, ?_⟩
                  refine jWp.getI (pc' := 94) mt rfl rfl (jtg hW.K0) ?_
                  rw [show ((M2, w.2).1 m 25) = (p : Int) from hp]
                  show jWp 206 94 [some (jO m), some (jI (F : Int)), some (jI (k : Int)), some (jI s), some (jI (bb : Int)), none] [jI (p : Int)] 0 0 (M2, w.2) _
                  refine jWp.blk mt 2 ?_
                  show _ ∧ jWp 206 97 [some (jO m), some (jI (F : Int)), some (jI (k : Int)), some (jI s), some (jI (p : Int)), none] [jO m] 0 0 (M2, w.2) _
                  refine ⟨rfl, ?_⟩
                  refine jWp.callv (as := [jO m]) (rest := []) mt rfl rfl rfl ⟨rfl, jtg hW.K0⟩ ?_
                  refine jCall.mono (E_here (w := (M2, w.2)) (F := F) (p := p) (t := t) hW ((hw2.2.2 24 (by decide) (by decide) (by decide)).trans hF) hF72 hp (by omega) ((hw2.2.1 (m + 421) (by omega) (by omega) (by omega) (by omega)).trans ht) hL) (fun v9 w9 h9 => ?_)
                  obtain ⟨rfl, h9⟩ := h9
                  subst w9
                  show jWp 206 100 [some (jO m), some (jI (F : Int)), some (jI (k : Int)), some (jI s), some (jI (p : Int)), none] [jI (zlt t F p)] 0 0 (M2, w.2) _
                  refine jWp.blk mt 2 ?_
                  show _ ∧ jWp 206 103 [some (jO m), some (jI (F : Int)), some (jI (k : Int)), some (jI s), some (jI (p : Int)), some (jI (zlt t F p))] [jO m] 0 0 (M2, w.2) _
                  refine ⟨rfl, ?_⟩
                  refine jWp.callv (as := [jO m]) (rest := []) mt rfl rfl rfl ⟨rfl, jtg hW.K0⟩ ?_
                  refine jCall.mono (E_hasStatement (w := (M2, w.2)) (F := F) (p := p) (t := t) hW ((hw2.2.2 24 (by decide) (by decide) (by decide)).trans hF) hF72 hp (by omega) ((hw2.2.1 (m + 421) (by omega) (by omega) (by omega) (by omega)).trans ht) hL) (fun v9 w9 h9 => ?_)
                  obtain ⟨b, hsg, hb, hh⟩ := h9
                  obtain ⟨M3, G9⟩ := w9
                  have hg : G9 = w.2 := hsg.1
                  subst hg
                  have hw3 : zwf w m (M3, w.2) := zwf_t hw2 (zwf_s hsg)
                  have hb : M3 m 25 = (b : Int) := hb
                  rcases hh with ⟨rfl, hz, hz1, hz2, hz3, hz4⟩ | ⟨rfl, hz, hz1, hz2⟩
                  · have hz' := hz
                    show jWp 206 106 [some (jO m), some (jI (F : Int)), some (jI (k : Int)), some (jI s), some (jI (p : Int)), some (jI (zlt t F p))] [jI 1] 0 0 (M3, w.2) _
                    refine jWp.ifc (b := false) mt rfl (by decide) rfl ?_
                    show jWp 206 109 [some (jO m), some (jI (F : Int)), some (jI (k : Int)), some (jI s), some (jI (p : Int)), some (jI (zlt t F p))] [] 0 0 (M3, w.2) _
                    refine jWp.blk mt 2 ?_
                    show _ ∧ jWp 206 112 [some (jO m), some (jI (F : Int)), some (jI (k : Int)), some (jI s), some (jI (p : Int)), some (jI (zlt t F p))] [jI (zlt t F p), jO m] 0 0 (M3, w.2) _
                    refine ⟨rfl, ?_⟩
                    refine jWp.callv (as := [jO m, jI (zlt t F p)]) (rest := []) mt rfl rfl rfl ⟨rfl, jtg hW.K0⟩ ?_
                    refine jCall.mono (E_isDone (w := (M3, w.2)) (n := n2) (c := zlt t F p) hW (by rw [show ((M3, w.2) : jS).1 (m + 16) = M2 (m + 16) from hsg.2.1 (m + 16) (by omega) (by omega)]; exact hQ2 (by omega)) (zbh_cd (by omega)) ⟨hz4.2.1.2.1, hz4.2.1.2.2⟩ (fun h => (hz4.2.2.1 h).2) (fun h => (hz4.2.2.2 h).2)) (fun v9 w9 h9 => ?_)
                    obtain ⟨hdf, hh⟩ := h9
                    obtain ⟨M4, G9⟩ := w9
                    have hg : G9 = w.2 := hdf.1
                    subst hg
                    have hw4 : zwf w m (M4, w.2) := zwf_t hw3 (zwf_d hdf)
                    have hb4 : M4 m 25 = (b : Int) := (hdf.2.2 25 (by decide) (by decide)).trans hb
                    have hc3 : M3 (m + 16) = M2 (m + 16) := hsg.2.1 (m + 16) (by omega) (by omega)
                    rcases hh with ⟨rfl, q4, hd, he⟩ | ⟨rfl, hd⟩
                    · have hd : zdo (zlt t F p) (M3 (m + 422) 0) (M3 (m + 422) 1) (M3 (m + 422) 2) (M3 (m + 16)) = some q4 := hd
                      have hD := (zdoN hz4 hc3).symm.trans hd
                      show jWp 206 115 [some (jO m), some (jI (F : Int)), some (jI (k : Int)), some (jI s), some (jI (p : Int)), some (jI (zlt t F p))] [jI 1] 0 0 (M4, w.2) _
                      refine jWp.ifc (b := false) mt rfl (by decide) rfl ?_
                      show jWp 206 118 [some (jO m), some (jI (F : Int)), some (jI (k : Int)), some (jI s), some (jI (p : Int)), some (jI (zlt t F p))] [] 0 0 (M4, w.2) _
                      refine jWp.blk mt 4 ?_
                      show jWp 206 78 [some (jO m), some (jI (F : Int)), some (jI (k : Int)), some (jI 1), some (jI (p : Int)), some (jI (zlt t F p))] [] 0 0 (M4, w.2) _
                      refine jWp.le (l := [some (jO m), some (jI (F : Int)), some (jI (k : Int)), some (jI 1), some (jI (p : Int)), none]) (by exact ⟨rfl, rfl, rfl, rfl, rfl, trivial⟩) ?_
                      exact ih8 (f - 1) b p 1 M4 hw4 hb4 (Or.inl ⟨rfl, by
                have q2 := hr2 (by omega)
                rw [show f = (f - 1) + 1 by omega, zw2_g (by omega) hz hD] at q2
                obtain ⟨n4, hQ4⟩ := zdo_Q (hQ2 (by omega)) (zbh_cd (by omega)) (fun _ => (zfg_b _).2) (fun _ => znm_b _ _ _) hD
                exact zr2_t (zw2_c (f - 1) b n4 _ _ hQ4 he) q2, by omega, by omega, by
                obtain ⟨n4, hQ4⟩ := zdo_Q (hQ2 (by omega)) (zbh_cd (by omega)) (fun _ => (zfg_b _).2) (fun _ => znm_b _ _ _) hD
                exact ⟨n4, zQ_c he hQ4⟩⟩) (by omega) (by omega) (by omega)
                    · have hd : zdo (zlt t F p) (M3 (m + 422) 0) (M3 (m + 422) 1) (M3 (m + 422) 2) (M3 (m + 16)) = none := hd
                      have hD := (zdoN hz4 hc3).symm.trans hd
                      show jWp 206 115 [some (jO m), some (jI (F : Int)), some (jI (k : Int)), some (jI s), some (jI (p : Int)), some (jI (zlt t F p))] [jI 0] 0 0 (M4, w.2) _
                      refine jWp.ifc (b := true) mt rfl (by decide) rfl ?_
                      show jWp 206 122 [some (jO m), some (jI (F : Int)), some (jI (k : Int)), some (jI s), some (jI (p : Int)), some (jI (zlt t F p))] [] 0 0 (M4, w.2) _
                      refine jWp.blk mt 3 ?_
                      show jWp 206 78 [some (jO m), some (jI (F : Int)), some (jI (k : Int)), some (jI 0), some (jI (p : Int)), some (jI (zlt t F p))] [] 0 0 (M4, w.2) _
                      refine jWp.le (l := [some (jO m), some (jI (F : Int)), some (jI (k : Int)), some (jI 0), some (jI (p : Int)), none]) (by exact ⟨rfl, rfl, rfl, rfl, rfl, trivial⟩) ?_
                      exact ih8 f b p 0 M4 hw4 hb4 (Or.inr ⟨rfl, by
                have q2 := hr2 (by omega)
                rw [show f = (f - 1) + 1 by omega, zw2_f (by omega) (by omega) hD] at q2
                exact zr2_i q2⟩) (by omega) (by omega) (by omega)
                  · have hz' := hz
                    show jWp 206 106 [some (jO m), some (jI (F : Int)), some (jI (k : Int)), some (jI s), some (jI (p : Int)), some (jI (zlt t F p))] [jI 0] 0 0 (M3, w.2) _
                    refine jWp.ifc (b := true) mt rfl (by decide) rfl ?_
                    show jWp 206 122 [some (jO m), some (jI (F : Int)), some (jI (k : Int)), some (jI s), some (jI (p : Int)), some (jI (zlt t F p))] [] 0 0 (M3, w.2) _
                    refine jWp.blk mt 3 ?_
                    show jWp 206 78 [some (jO m), some (jI (F : Int)), some (jI (k : Int)), some (jI 0), some (jI (p : Int)), some (jI (zlt t F p))] [] 0 0 (M3, w.2) _
                    refine jWp.le (l := [some (jO m), some (jI (F : Int)), some (jI (k : Int)), some (jI 0), some (jI (p : Int)), none]) (by exact ⟨rfl, rfl, rfl, rfl, rfl, trivial⟩) ?_
                    exact ih8 f b p 0 M3 hw3 hb (Or.inr ⟨rfl, by
                have q2 := hr2 (by omega)
                rw [show f = (f - 1) + 1 by omega, zw2_n (by omega) (by omega)] at q2
                exact zr2_i q2⟩) (by omega) (by omega) (by omega)
          refine jWp.le (l := [some (jO m), some (jI (F : Int)), some (jI (k : Int)), some (jI s), some (jI 0), none]) (by exact ⟨rfl, rfl, rfl, rfl, rfl, trivial⟩) ?_
          exact lp7 _ 73 0 0 s (jW (kA (M1, w.2) (m + 16) T5) m 25 0).1 (zwf_t hw1 (zwf_t zwf_A zwf_p)) jW_s (Or.inl ⟨by omega, by rw [show (jW (kA (M1, w.2) (m + 16) T5) m 25 0).1 (m + 16) = T5 from (jW_f (by omega)).trans kA_fs]; exact zw2_c 73 0 n _ _ hQ (fun j hj => ((hT6 j hj).trans (congrFun (hw1.2.1 (m + 1) (by omega) (by omega) (by omega) (by omega)) j)) : zeq T5 (w.1 (m + 1))), by omega, by omega, n, by rw [show (jW (kA (M1, w.2) (m + 16) T5) m 25 0).1 (m + 16) = T5 from (jW_f (by omega)).trans kA_fs]; exact zQ_c (fun j hj => ((hT6 j hj).trans (congrFun (hw1.2.1 (m + 1) (by omega) (by omega) (by omega) (by omega)) j)) : zeq T5 (w.1 (m + 1))) hQ⟩) (by omega) (by omega) (Nat.lt_succ_self _)
        · have h4 : s = 0 := h4
          refine jWp.blk mt 2 ?_
          show _ ∧ jWp 206 47 [some (jO m), some (jI (F : Int)), some (jI (k : Int)), some (jI s), none, none] [jI 0, jO m] 0 0 (M1, w.2) _
          refine ⟨rfl, ?_⟩
          refine jWp.putI (pc' := 50) mt rfl rfl (jtg hW.K0) ?_
          show jWp 206 50 [some (jO m), some (jI (F : Int)), some (jI (k : Int)), some (jI s), none, none] [] 0 0 (jW (M1, w.2) m 24 0) _
          refine jWp.blk mt 2 ?_
          show _ ∧ jWp 206 54 [some (jO m), some (jI (F : Int)), some (jI (k : Int)), some (jI s), none, none] [jO m, jI (-1000)] 0 0 (jW (M1, w.2) m 24 0) _
          refine ⟨rfl, ?_⟩
          refine jWp.getI (pc' := 57) mt rfl rfl (jtg hW.K0) ?_
          rw [show ((jW (M1, w.2) m 24 0).1 m 25) = (p : Int) from (((jW_k (by decide)).trans rfl).trans hp)]
          show jWp 206 57 [some (jO m), some (jI (F : Int)), some (jI (k : Int)), some (jI s), none, none] [jI (p : Int), jI (-1000)] 0 0 (jW (M1, w.2) m 24 0) _
          refine jWp.blk mt 1 ?_
          show jWp 206 58 [some (jO m), some (jI (F : Int)), some (jI (k : Int)), some (jI s), none, none] [jI ((-1000) - (p : Int))] 0 0 (jW (M1, w.2) m 24 0) _
          refine jWp.ireti mt rfl ⟨rfl, rfl⟩ rfl ?_
          refine ⟨fun hn => ⟨?_, (M1, w.2), zwf_q hw1, rfl⟩, fun hn => ?_⟩
          · rcases hp1 with ⟨e, _⟩ | ⟨e, g, _⟩
            · exfalso; omega
            · rw [show ((-1000) - (p : Int)) = -999 + (zw1 t F 73 0 0) by omega]
          · exfalso
            rcases hp1 with ⟨e, _⟩ | ⟨e, g, _⟩ <;> omega
      · have h3 : s ≠ 0 := h3
        refine jWp.blk mt 1 ?_
        show jWp 206 19 [some (jO m), some (jI (F : Int)), some (jI (k : Int)), some (jI s), none, none] [jI (k : Int)] 0 0 (M1, w.2) _
        refine jWp.ifz (pc' := 22) mt rfl rfl (b32_id (by omega) (by omega)) (fun h17 => ?_) (fun h17 => ?_)
        · have h17 : (k : Int) = 0 := h17
          refine jWp.blk mt 1 ?_
          show _ ∧ jWp 206 31 [some (jO m), some (jI (F : Int)), some (jI (k : Int)), some (jI s), none, none] [jO m] 0 0 (M1, w.2) _
          refine ⟨rfl, ?_⟩
          refine jWp.callv (as := [jO m]) (rest := []) mt rfl rfl rfl ⟨rfl, jtg hW.K0⟩ ?_
          refine jCall.mono (E_hasStatement (w := (M1, w.2)) (F := F) (p := p) (t := t) hW ((hw1.2.2 24 (by decide) (by decide) (by decide)).trans hF) hF72 hp (by omega) ((hw1.2.1 (m + 421) (by omega) (by omega) (by omega) (by omega)).trans ht) hL) (fun v9 w9 h9 => ?_)
          obtain ⟨b, hsg, hb, hh⟩ := h9
          obtain ⟨M2, G9⟩ := w9
          have hg : G9 = w.2 := hsg.1
          subst hg
          have hw2 : zwf w m (M2, w.2) := zwf_t hw1 (zwf_s hsg)
          have hb : M2 m 25 = (b : Int) := hb
          rcases hh with ⟨rfl, hz, hz1, hz2, hz3, hz4⟩ | ⟨rfl, hz, hz1, hz2⟩
          · have hz' := hz
            show jWp 206 34 [some (jO m), some (jI (F : Int)), some (jI (k : Int)), some (jI s), none, none] [jI 1] 0 0 (M2, w.2) _
            refine jWp.blk mt 3 ?_
            show jWp 206 14 [some (jO m), some (jI (F : Int)), some (jI ((k : Int) + 1)), some (jI 1), none, none] [] 0 0 (M2, w.2) _
            refine jWp.le (l := [some (jO m), some (jI (F : Int)), some (jI ((k : Int) + 1)), some (jI 1), none, none]) (by exact ⟨rfl, rfl, rfl, rfl, trivial⟩) ?_
            exact ih2 (k + 1) b 1 M2 hw2 hb (Or.inl ⟨rfl, by omega, by omega, fun g => by rw [← hr1 (by omega) (by omega), show 73 - k = (73 - (k + 1)) + 1 by omega, zw1_g hz (by omega)], fun _ g => by rw [← hr1 (by omega) (by omega), show 73 - k = (72 - k) + 1 by omega, zw1_e hz g]⟩) (by omega) (by omega)
          · have hz' := hz
            show jWp 206 34 [some (jO m), some (jI (F : Int)), some (jI (k : Int)), some (jI s), none, none] [jI 0] 0 0 (M2, w.2) _
            refine jWp.blk mt 3 ?_
            show jWp 206 14 [some (jO m), some (jI (F : Int)), some (jI ((k : Int) + 1)), some (jI 0), none, none] [] 0 0 (M2, w.2) _
            refine jWp.le (l := [some (jO m), some (jI (F : Int)), some (jI ((k : Int) + 1)), some (jI 0), none, none]) (by exact ⟨rfl, rfl, rfl, rfl, trivial⟩) ?_
            exact ih2 (k + 1) b 0 M2 hw2 hb (Or.inr ⟨rfl, by rw [← hr1 (by omega) (by omega), show 73 - k = (72 - k) + 1 by omega, zw1_n (by omega), hz], by omega⟩) (by omega) (by omega)
        · have h17 : (k : Int) ≠ 0 := h17
          refine jWp.blk mt 1 ?_
          show _ ∧ jWp 206 23 [some (jO m), some (jI (F : Int)), some (jI (k : Int)), some (jI s), none, none] [jO m] 0 0 (M1, w.2) _
          refine ⟨rfl, ?_⟩
          refine jWp.getI (pc' := 26) mt rfl rfl (jtg hW.K0) ?_
          rw [show ((M1, w.2).1 m 25) = (p : Int) from hp]
          show jWp 206 26 [some (jO m), some (jI (F : Int)), some (jI (k : Int)), some (jI s), none, none] [jI (p : Int)] 0 0 (M1, w.2) _
          refine jWp.blk mt 1 ?_
          show jWp 206 27 [some (jO m), some (jI (F : Int)), some (jI (k : Int)), some (jI s), none, none] [jI (F : Int), jI (p : Int)] 0 0 (M1, w.2) _
          refine jWp.icmp (pc' := 30) mt rfl rfl (b32_id (by omega) (by omega)) (b32_id (by omega) (by omega)) (fun h18 => ?_) (fun h18 => ?_)
          · have h18 : (F : Int) ≤ (p : Int) := h18
            refine jWp.blk mt 1 ?_
            show jWp 206 42 [some (jO m), some (jI (F : Int)), some (jI (k : Int)), some (jI s), none, none] [jI s] 0 0 (M1, w.2) _
            refine jWp.ifz (pc' := 45) mt rfl rfl (b32_id (by omega) (by omega)) (fun h19 => ?_) (fun h19 => ?_)
            · have h19 : s ≠ 0 := h19
              refine jWp.blk mt 1 ?_
              show _ ∧ jWp 206 60 [some (jO m), some (jI (F : Int)), some (jI (k : Int)), some (jI s), none, none] [jO m] 0 0 (M1, w.2) _
              refine ⟨rfl, ?_⟩
              refine jWp.getR (pc' := 63) (o := (m + 1)) mt rfl rfl (jtg hW.K0) hW.R0 ?_
              show jWp 206 63 [some (jO m), some (jI (F : Int)), some (jI (k : Int)), some (jI s), none, none] [jO (m + 1)] 0 0 (M1, w.2) _
              refine jWp.blk mt 1 ?_
              show _ ∧ jWp 206 64 [some (jO m), some (jI (F : Int)), some (jI (k : Int)), some (jI s), none, none] [jO m, jO (m + 1)] 0 0 (M1, w.2) _
              refine ⟨rfl, ?_⟩
              refine jWp.getR (pc' := 67) (o := (m + 16)) mt rfl rfl (jtg hW.K0) hW.R16 ?_
              show jWp 206 67 [some (jO m), some (jI (F : Int)), some (jI (k : Int)), some (jI s), none, none] [jO (m + 16), jO (m + 1)] 0 0 (M1, w.2) _
              refine jWp.calls (as := [jO (m + 1), jO (m + 16)]) (rest := []) mt rfl rfl rfl rfl ?_
              refine jCall.mono (E_copies (w := (M1, w.2)) (a := m + 1) (q := m + 16) hW.K1 hW.K16 (by omega)) (fun v9 w9 h9 => ?_)
              obtain ⟨rfl, T20, h9, hT21⟩ := h9
              subst h9
              show jWp 206 70 [some (jO m), some (jI (F : Int)), some (jI (k : Int)), some (jI s), none, none] [] 0 0 (kA (M1, w.2) (m + 16) T20) _
              refine jWp.blk mt 2 ?_
              show _ ∧ jWp 206 72 [some (jO m), some (jI (F : Int)), some (jI (k : Int)), some (jI s), none, none] [jI 0, jO m] 0 0 (kA (M1, w.2) (m + 16) T20) _
              refine ⟨rfl, ?_⟩
              refine jWp.putI (pc' := 75) mt rfl rfl (jtg hW.K0) ?_
              show jWp 206 75 [some (jO m), some (jI (F : Int)), some (jI (k : Int)), some (jI s), none, none] [] 0 0 (jW (kA (M1, w.2) (m + 16) T20) m 25 0) _
              refine jWp.blk mt 2 ?_
              show jWp 206 78 [some (jO m), some (jI (F : Int)), some (jI (k : Int)), some (jI s), some (jI 0), none] [] 0 0 (jW (kA (M1, w.2) (m + 16) T20) m 25 0) _
              have lp22 : ∀ (N : Nat) (f p bb : Nat) (s : Int) (M2 : Nat → Nat → Int) (hw2 : zwf w m (M2, w.2)) (hp : M2 m 25 = (p : Int)) (hp2 : (s = 1 ∧ zr2 (zw2 t F f p (M2 (m + 16))) (zw2 t F 73 0 (w.1 (m + 1))) ∧ F + 1 ≤ p + f ∧ p ≤ F ∧ ∃ n2, zQ (M2 (m + 16)) n2) ∨ (s = 0 ∧ (zw2 t F 73 0 (w.1 (m + 1))) = .inr bb)) (hpF : p ≤ 100) (hbF : bb ≤ 100), (101 - p) + s.toNat < N → jWp 206 78 [some (jO m), some (jI (F : Int)), some (jI (k : Int)), some (jI s), some (jI (bb : Int)), none] [] 0 0 (M2, w.2) (fun v w1 => ((zw1 t F 73 0 0) < 0 → v = some (jI (-999 + (zw1 t F 73 0 0))) ∧ ∃ w2, mq w m w2 ∧ w1 = jW w2 m 24 0) ∧ (0 ≤ (zw1 t F 73 0 0) → (∀ b, (zw2 t F 73 0 (w.1 (m + 1))) = .inr b → v = some (jI (-2000 - (b : Int))) ∧ ∃ w2, mq w m w2 ∧ w1 = jW w2 m 24 0) ∧ ∀ q, (zw2 t F 73 0 (w.1 (m + 1))) = .inl q → v = some (jI (zw1 t F 73 0 0)) ∧ zeq (w1.1 (m + 1)) q ∧ zpst w m u (w.1 (m + 1)) w1 ∧ mfW w m w1)) := by
                intro N
                induction N with
                | zero => intro f p bb s M2 hw2 hp hp2 hpF hbF hm; omega
                | succ N ih23 =>
                  intro f p bb s M2 hw2 hp hp2 hpF hbF hm
                  have hr2 : s = 1 → zr2 (zw2 t F f p (M2 (m + 16))) (zw2 t F 73 0 (w.1 (m + 1))) := fun e => by
                    rcases hp2 with ⟨_, h, _⟩ | ⟨e2, _⟩
                    · exact h
                    · omega
                  have hx2 : ∃ n2, s = 1 → zQ (M2 (m + 16)) n2 := by
                    rcases hp2 with ⟨_, _, _, _, n2, h⟩ | ⟨e2, _⟩
                    · exact ⟨n2, fun _ => h⟩
                    · exact ⟨0, fun e => by omega⟩
                  obtain ⟨n2, hQ2⟩ := hx2
                  refine jWp.blk mt 1 ?_
                  show jWp 206 79 [some (jO m), some (jI (F : Int)), some (jI (k : Int)), some (jI s), some (jI (bb : Int)), none] [jI s] 0 0 (M2, w.2) _
                  refine jWp.ifz (pc' := 82) mt rfl rfl (b32_id (by omega) (by omega)) (fun h24 => ?_) (fun h24 => ?_)
                  · have h24 : s = 0 := h24
                    refine jWp.blk mt 2 ?_
                    show _ ∧ jWp 206 129 [some (jO m), some (jI (F : Int)), some (jI (k : Int)), some (jI s), some (jI (bb : Int)), none] [jI 0, jO m] 0 0 (M2, w.2) _
                    refine ⟨rfl, ?_⟩
                    refine jWp.putI (pc' := 132) mt rfl rfl (jtg hW.K0) ?_
                    show jWp 206 132 [some (jO m), some (jI (F : Int)), some (jI (k : Int)), some (jI s), some (jI (bb : Int)), none] [] 0 0 (jW (M2, w.2) m 24 0) _
                    refine jWp.blk mt 1 ?_
                    show jWp 206 133 [some (jO m), some (jI (F : Int)), some (jI (k : Int)), some (jI s), some (jI (bb : Int)), none] [jI s] 0 0 (jW (M2, w.2) m 24 0) _
                    refine jWp.ifz (pc' := 136) mt rfl rfl (b32_id (by omega) (by omega)) (fun h25 => ?_) (fun h25 => ?_)
                    · have h25 : s ≠ 0 := h25
                      refine jWp.blk mt 2 ?_
                      show _ ∧ _ ∧ jWp 206 145 [some (jO m), some (jI (F : Int)), some (jI (k : Int)), some (jI s), some (jI (bb : Int)), none] [jO m, jO m] 0 0 (jW (M2, w.2) m 24 0) _
                      refine ⟨rfl, rfl, ?_⟩
                      refine jWp.getR (pc' := 148) (o := (m + 1)) mt rfl rfl (jtg hW.K0) hW.R0 ?_
                      show jWp 206 148 [some (jO m), some (jI (F : Int)), some (jI (k : Int)), some (jI s), some (jI (bb : Int)), none] [jO (m + 1), jO m] 0 0 (jW (M2, w.2) m 24 0) _
                      refine jWp.callv (as := [jO m, jO (m + 1)]) (rest := []) mt rfl rfl rfl ⟨rfl, jtg hW.K0⟩ ?_
                      refine jCall.mono (E_comes (w := (jW (M2, w.2) m 24 0)) (u := u) (b := 1) hW ((jW_k (by decide)).trans ((hw2.2.2 15 (by decide) (by decide) (by decide)).trans hu)) hu8 hW.K1 (by decide) (Or.inl (by decide))) (fun v9 w9 h9 => ?_)
                      obtain ⟨rfl, hzc⟩ := h9
                      obtain ⟨M5, G5⟩ := w9
                      have hg : G5 = w.2 := hzc.2.2.1
                      subst hg
                      show jWp 206 151 [some (jO m), some (jI (F : Int)), some (jI (k : Int)), some (jI s), some (jI (bb : Int)), none] [] 0 0 (M5, w.2) _
                      refine jWp.blk mt 1 ?_
                      show _ ∧ jWp 206 152 [some (jO m), some (jI (F : Int)), some (jI (k : Int)), some (jI s), some (jI (bb : Int)), none] [jO m] 0 0 (M5, w.2) _
                      refine ⟨rfl, ?_⟩
                      refine jWp.getR (pc' := 155) (o := (m + 16)) mt rfl rfl (jtg hW.K0) hW.R16 ?_
                      show jWp 206 155 [some (jO m), some (jI (F : Int)), some (jI (k : Int)), some (jI s), some (jI (bb : Int)), none] [jO (m + 16)] 0 0 (M5, w.2) _
                      refine jWp.blk mt 1 ?_
                      show _ ∧ jWp 206 156 [some (jO m), some (jI (F : Int)), some (jI (k : Int)), some (jI s), some (jI (bb : Int)), none] [jO m, jO (m + 16)] 0 0 (M5, w.2) _
                      refine ⟨rfl, ?_⟩
                      refine jWp.getR (pc' := 159) (o := (m + 1)) mt rfl rfl (jtg hW.K0) hW.R0 ?_
                      show jWp 206 159 [some (jO m), some (jI (F : Int)), some (jI (k : Int)), some (jI s), some (jI (bb : Int)), none] [jO (m + 1), jO (m + 16)] 0 0 (M5, w.2) _
                      refine jWp.calls (as := [jO (m + 16), jO (m + 1)]) (rest := []) mt rfl rfl rfl rfl ?_
                      refine jCall.mono (E_copies (w := (M5, w.2)) (a := m + 16) (q := m + 1) hW.K16 hW.K1 (by omega)) (fun v9 w9 h9 => ?_)
                      obtain ⟨rfl, T26, h9, hT27⟩ := h9
                      subst h9
                      show jWp 206 162 [some (jO m), some (jI (F : Int)), some (jI (k : Int)), some (jI s), some (jI (bb : Int)), none] [] 0 0 (kA (M5, w.2) (m + 1) T26) _
                      refine jWp.blk mt 1 ?_
                      show jWp 206 163 [some (jO m), some (jI (F : Int)), some (jI (k : Int)), some (jI s), some (jI (bb : Int)), none] [jI (k : Int)] 0 0 (kA (M5, w.2) (m + 1) T26) _
                      refine jWp.ireti mt rfl ⟨rfl, rfl⟩ rfl ?_
                      have hZ := zfinW (T := T26) (zwf_q hw2) hzc
                      have hin : ∃ q, (zw2 t F 73 0 (w.1 (m + 1))) = .inl q ∧ zeq (M2 (m + 16)) q := by
                        rcases hp2 with ⟨e, hr2, g1, g2, g3⟩ | ⟨e, g⟩
                        · rw [show f = (f - 1) + 1 by omega, zw2_e (by omega)] at hr2
                          exact zr2_l hr2
                        · exfalso; omega
                      obtain ⟨q9, hq9, he9⟩ := hin
                      refine ⟨fun hn => ?_, fun hn => ⟨fun b2 hb2 => ?_, fun q2 hq2 => ⟨?_, ?_, hZ.2.1, hZ.1⟩⟩⟩
                      · exfalso; omega
                      · rw [hq9] at hb2
                        cases hb2
                      · rw [hk1 (by omega) (by omega) (by omega)]
                      · rw [hq9] at hq2
                        cases hq2
                        rw [kA_fs]
                        exact fun j hj => ((hT27 j hj).trans (congrFun hZ.2.2 j)).trans (he9 j hj)
                    · have h25 : s = 0 := h25
                      refine jWp.blk mt 3 ?_
                      show jWp 206 142 [some (jO m), some (jI (F : Int)), some (jI (k : Int)), some (jI s), some (jI (bb : Int)), none] [jI ((-2000) - (bb : Int))] 0 0 (jW (M2, w.2) m 24 0) _
                      refine jWp.ireti mt rfl ⟨rfl, rfl⟩ rfl ?_
                      refine ⟨fun hn => ?_, fun hn => ⟨fun b2 hb2 => ⟨?_, (M2, w.2), zwf_q hw2, rfl⟩, fun q2 hq2 => ?_⟩⟩
                      · exfalso; omega
                      · rcases hp2 with ⟨e, _⟩ | ⟨e, g⟩
                        · exfalso; omega
                        · rw [g] at hb2
                          cases hb2
                          rfl
                      · exfalso
                        rcases hp2 with ⟨e, _⟩ | ⟨e, g⟩
                        · omega
                        · rw [g] at hq2
                          cases hq2
                  · have h24 : s ≠ 0 := h24
                    refine jWp.blk mt 1 ?_
                    show _ ∧ jWp 206 83 [some (jO m), some (jI (F : Int)), some (jI (k : Int)), some (jI s), some (jI (bb : Int)), none] [jO m] 0 0 (M2, w.2) _
                    refine ⟨rfl, ?_⟩
                    refine jWp.getI (pc' := 86) mt rfl rfl (jtg hW.K0) ?_
                    rw [show ((M2, w.2).1 m 25) = (p : Int) from hp]
                    show jWp 206 86 [some (jO m), some (jI (F : Int)), some (jI (k : Int)), some (jI s), some (jI (bb : Int)), none] [jI (p : Int)] 0 0 (M2, w.2) _
                    refine jWp.blk mt 1 ?_
                    show jWp 206 87 [some (jO m), some (jI (F : Int)), some (jI (k : Int)), some (jI s), some (jI (bb : Int)), none] [jI (F : Int), jI (p : Int)] 0 0 (M2, w.2) _
                    refine jWp.icmp (pc' := 90) mt rfl rfl (b32_id (by omega) (by omega)) (b32_id (by omega) (by omega)) (fun h28 => ?_) (fun h28 => ?_)
                    · have h28 : (F : Int) ≤ (p : Int) := h28
                      refine jWp.blk mt 2 ?_
                      show _ ∧ jWp 206 129 [some (jO m), some (jI (F : Int)), some (jI (k : Int)), some (jI s), some (jI (bb : Int)), none] [jI 0, jO m] 0 0 (M2, w.2) _
                      refine ⟨rfl, ?_⟩
                      refine jWp.putI (pc' := 132) mt rfl rfl (jtg hW.K0) ?_
                      show jWp 206 132 [some (jO m), some (jI (F : Int)), some (jI (k : Int)), some (jI s), some (jI (bb : Int)), none] [] 0 0 (jW (M2, w.2) m 24 0) _
                      refine jWp.blk mt 1 ?_
                      show jWp 206 133 [some (jO m), some (jI (F : Int)), some (jI (k : Int)), some (jI s), some (jI (bb : Int)), none] [jI s] 0 0 (jW (M2, w.2) m 24 0) _
                      refine jWp.ifz (pc' := 136) mt rfl rfl (b32_id (by omega) (by omega)) (fun h29 => ?_) (fun h29 => ?_)
                      · have h29 : s ≠ 0 := h29
                        refine jWp.blk mt 2 ?_
                        show _ ∧ _ ∧ jWp 206 145 [some (jO m), some (jI (F : Int)), some (jI (k : Int)), some (jI s), some (jI (bb : Int)), none] [jO m, jO m] 0 0 (jW (M2, w.2) m 24 0) _
                        refine ⟨rfl, rfl, ?_⟩
                        refine jWp.getR (pc' := 148) (o := (m + 1)) mt rfl rfl (jtg hW.K0) hW.R0 ?_
                        show jWp 206 148 [some (jO m), some (jI (F : Int)), some (jI (k : Int)), some (jI s), some (jI (bb : Int)), none] [jO (m + 1), jO m] 0 0 (jW (M2, w.2) m 24 0) _
                        refine jWp.callv (as := [jO m, jO (m + 1)]) (rest := []) mt rfl rfl rfl ⟨rfl, jtg hW.K0⟩ ?_
                        refine jCall.mono (E_comes (w := (jW (M2, w.2) m 24 0)) (u := u) (b := 1) hW ((jW_k (by decide)).trans ((hw2.2.2 15 (by decide) (by decide) (by decide)).trans hu)) hu8 hW.K1 (by decide) (Or.inl (by decide))) (fun v9 w9 h9 => ?_)
                        obtain ⟨rfl, hzc⟩ := h9
                        obtain ⟨M5, G5⟩ := w9
                        have hg : G5 = w.2 := hzc.2.2.1
                        subst hg
                        show jWp 206 151 [some (jO m), some (jI (F : Int)), some (jI (k : Int)), some (jI s), some (jI (bb : Int)), none] [] 0 0 (M5, w.2) _
                        refine jWp.blk mt 1 ?_
                        show _ ∧ jWp 206 152 [some (jO m), some (jI (F : Int)), some (jI (k : Int)), some (jI s), some (jI (bb : Int)), none] [jO m] 0 0 (M5, w.2) _
                        refine ⟨rfl, ?_⟩
                        refine jWp.getR (pc' := 155) (o := (m + 16)) mt rfl rfl (jtg hW.K0) hW.R16 ?_
                        show jWp 206 155 [some (jO m), some (jI (F : Int)), some (jI (k : Int)), some (jI s), some (jI (bb : Int)), none] [jO (m + 16)] 0 0 (M5, w.2) _
                        refine jWp.blk mt 1 ?_
                        show _ ∧ jWp 206 156 [some (jO m), some (jI (F : Int)), some (jI (k : Int)), some (jI s), some (jI (bb : Int)), none] [jO m, jO (m + 16)] 0 0 (M5, w.2) _
                        refine ⟨rfl, ?_⟩
                        refine jWp.getR (pc' := 159) (o := (m + 1)) mt rfl rfl (jtg hW.K0) hW.R0 ?_
                        show jWp 206 159 [some (jO m), some (jI (F : Int)), some (jI (k : Int)), some (jI s), some (jI (bb : Int)), none] [jO (m + 1), jO (m + 16)] 0 0 (M5, w.2) _
                        refine jWp.calls (as := [jO (m + 16), jO (m + 1)]) (rest := []) mt rfl rfl rfl rfl ?_
                        refine jCall.mono (E_copies (w := (M5, w.2)) (a := m + 16) (q := m + 1) hW.K16 hW.K1 (by omega)) (fun v9 w9 h9 => ?_)
                        obtain ⟨rfl, T30, h9, hT31⟩ := h9
                        subst h9
                        show jWp 206 162 [some (jO m), some (jI (F : Int)), some (jI (k : Int)), some (jI s), some (jI (bb : Int)), none] [] 0 0 (kA (M5, w.2) (m + 1) T30) _
                        refine jWp.blk mt 1 ?_
                        show jWp 206 163 [some (jO m), some (jI (F : Int)), some (jI (k : Int)), some (jI s), some (jI (bb : Int)), none] [jI (k : Int)] 0 0 (kA (M5, w.2) (m + 1) T30) _
                        refine jWp.ireti mt rfl ⟨rfl, rfl⟩ rfl ?_
                        have hZ := zfinW (T := T30) (zwf_q hw2) hzc
                        have hin : ∃ q, (zw2 t F 73 0 (w.1 (m + 1))) = .inl q ∧ zeq (M2 (m + 16)) q := by
                          rcases hp2 with ⟨e, hr2, g1, g2, g3⟩ | ⟨e, g⟩
                          · rw [show f = (f - 1) + 1 by omega, zw2_e (by omega)] at hr2
                            exact zr2_l hr2
                          · exfalso; omega
                        obtain ⟨q9, hq9, he9⟩ := hin
                        refine ⟨fun hn => ?_, fun hn => ⟨fun b2 hb2 => ?_, fun q2 hq2 => ⟨?_, ?_, hZ.2.1, hZ.1⟩⟩⟩
                        · exfalso; omega
                        · rw [hq9] at hb2
                          cases hb2
                        · rw [hk1 (by omega) (by omega) (by omega)]
                        · rw [hq9] at hq2
                          cases hq2
                          rw [kA_fs]
                          exact fun j hj => ((hT31 j hj).trans (congrFun hZ.2.2 j)).trans (he9 j hj)
                      · have h29 : s = 0 := h29
                        refine jWp.blk mt 3 ?_
                        show jWp 206 142 [some (jO m), some (jI (F : Int)), some (jI (k : Int)), some (jI s), some (jI (bb : Int)), none] [jI ((-2000) - (bb : Int))] 0 0 (jW (M2, w.2) m 24 0) _
                        refine jWp.ireti mt rfl ⟨rfl, rfl⟩ rfl ?_
                        refine ⟨fun hn => ?_, fun hn => ⟨fun b2 hb2 => ⟨?_, (M2, w.2), zwf_q hw2, rfl⟩, fun q2 hq2 => ?_⟩⟩
                        · exfalso; omega
                        · rcases hp2 with ⟨e, _⟩ | ⟨e, g⟩
                          · exfalso; omega
                          · rw [g] at hb2
                            cases hb2
                            rfl
                        · exfalso
                          rcases hp2 with ⟨e, _⟩ | ⟨e, g⟩
                          · omega
                          · rw [g] at hq2
                            cases hq2
                    · have h28 : (p : Int) < (F : Int) := h28
                      refine jWp.blk mt 1 ?_
                      show _ ∧ jWp 206 91 [some (jO m), some (jI (F : Int)), some (jI (k : Int)), some (jI s), some (jI (bb : Int)), none] [jO m] 0 0 (M2, w.2) _
                      refine ⟨rfl, ?_⟩
                      refine jWp.getI (pc' := 94) mt rfl rfl (jtg hW.K0) ?_
                      rw [show ((M2, w.2).1 m 25) = (p : Int) from hp]
                      show jWp 206 94 [some (jO m), some (jI (F : Int)), some (jI (k : Int)), some (jI s), some (jI (bb : Int)), none] [jI (p : Int)] 0 0 (M2, w.2) _
                      refine jWp.blk mt 2 ?_
                      show _ ∧ jWp 206 97 [some (jO m), some (jI (F : Int)), some (jI (k : Int)), some (jI s), some (jI (p : Int)), none] [jO m] 0 0 (M2, w.2) _
                      refine ⟨rfl, ?_⟩
                      refine jWp.callv (as := [jO m]) (rest := []) mt rfl rfl rfl ⟨rfl, jtg hW.K0⟩ ?_
                      refine jCall.mono (E_here (w := (M2, w.2)) (F := F) (p := p) (t := t) hW ((hw2.2.2 24 (by decide) (by decide) (by decide)).trans hF) hF72 hp (by omega) ((hw2.2.1 (m + 421) (by omega) (by omega) (by omega) (by omega)).trans ht) hL) (fun v9 w9 h9 => ?_)
                      obtain ⟨rfl, h9⟩ := h9
                      subst w9
                      show jWp 206 100 [some (jO m), some (jI (F : Int)), some (jI (k : Int)), some (jI s), some (jI (p : Int)), none] [jI (zlt t F p)] 0 0 (M2, w.2) _
                      refine jWp.blk mt 2 ?_
                      show _ ∧ jWp 206 103 [some (jO m), some (jI (F : Int)), some (jI (k : Int)), some (jI s), some (jI (p : Int)), some (jI (zlt t F p))] [jO m] 0 0 (M2, w.2) _
                      refine ⟨rfl, ?_⟩
                      refine jWp.callv (as := [jO m]) (rest := []) mt rfl rfl rfl ⟨rfl, jtg hW.K0⟩ ?_
                      refine jCall.mono (E_hasStatement (w := (M2, w.2)) (F := F) (p := p) (t := t) hW ((hw2.2.2 24 (by decide) (by decide) (by decide)).trans hF) hF72 hp (by omega) ((hw2.2.1 (m + 421) (by omega) (by omega) (by omega) (by omega)).trans ht) hL) (fun v9 w9 h9 => ?_)
                      obtain ⟨b, hsg, hb, hh⟩ := h9
                      obtain ⟨M3, G9⟩ := w9
                      have hg : G9 = w.2 := hsg.1
                      subst hg
                      have hw3 : zwf w m (M3, w.2) := zwf_t hw2 (zwf_s hsg)
                      have hb : M3 m 25 = (b : Int) := hb
                      rcases hh with ⟨rfl, hz, hz1, hz2, hz3, hz4⟩ | ⟨rfl, hz, hz1, hz2⟩
                      · have hz' := hz
                        show jWp 206 106 [some (jO m), some (jI (F : Int)), some (jI (k : Int)), some (jI s), some (jI (p : Int)), some (jI (zlt t F p))] [jI 1] 0 0 (M3, w.2) _
                        refine jWp.ifc (b := false) mt rfl (by decide) rfl ?_
                        show jWp 206 109 [some (jO m), some (jI (F : Int)), some (jI (k : Int)), some (jI s), some (jI (p : Int)), some (jI (zlt t F p))] [] 0 0 (M3, w.2) _
                        refine jWp.blk mt 2 ?_
                        show _ ∧ jWp 206 112 [some (jO m), some (jI (F : Int)), some (jI (k : Int)), some (jI s), some (jI (p : Int)), some (jI (zlt t F p))] [jI (zlt t F p), jO m] 0 0 (M3, w.2) _
                        refine ⟨rfl, ?_⟩
                        refine jWp.callv (as := [jO m, jI (zlt t F p)]) (rest := []) mt rfl rfl rfl ⟨rfl, jtg hW.K0⟩ ?_
                        refine jCall.mono (E_isDone (w := (M3, w.2)) (n := n2) (c := zlt t F p) hW (by rw [show ((M3, w.2) : jS).1 (m + 16) = M2 (m + 16) from hsg.2.1 (m + 16) (by omega) (by omega)]; exact hQ2 (by omega)) (zbh_cd (by omega)) ⟨hz4.2.1.2.1, hz4.2.1.2.2⟩ (fun h => (hz4.2.2.1 h).2) (fun h => (hz4.2.2.2 h).2)) (fun v9 w9 h9 => ?_)
                        obtain ⟨hdf, hh⟩ := h9
                        obtain ⟨M4, G9⟩ := w9
                        have hg : G9 = w.2 := hdf.1
                        subst hg
                        have hw4 : zwf w m (M4, w.2) := zwf_t hw3 (zwf_d hdf)
                        have hb4 : M4 m 25 = (b : Int) := (hdf.2.2 25 (by decide) (by decide)).trans hb
                        have hc3 : M3 (m + 16) = M2 (m + 16) := hsg.2.1 (m + 16) (by omega) (by omega)
                        rcases hh with ⟨rfl, q4, hd, he⟩ | ⟨rfl, hd⟩
                        · have hd : zdo (zlt t F p) (M3 (m + 422) 0) (M3 (m + 422) 1) (M3 (m + 422) 2) (M3 (m + 16)) = some q4 := hd
                          have hD := (zdoN hz4 hc3).symm.trans hd
                          show jWp 206 115 [some (jO m), some (jI (F : Int)), some (jI (k : Int)), some (jI s), some (jI (p : Int)), some (jI (zlt t F p))] [jI 1] 0 0 (M4, w.2) _
                          refine jWp.ifc (b := false) mt rfl (by decide) rfl ?_
                          show jWp 206 118 [some (jO m), some (jI (F : Int)), some (jI (k : Int)), some (jI s), some (jI (p : Int)), some (jI (zlt t F p))] [] 0 0 (M4, w.2) _
                          refine jWp.blk mt 4 ?_
                          show jWp 206 78 [some (jO m), some (jI (F : Int)), some (jI (k : Int)), some (jI 1), some (jI (p : Int)), some (jI (zlt t F p))] [] 0 0 (M4, w.2) _
                          refine jWp.le (l := [some (jO m), some (jI (F : Int)), some (jI (k : Int)), some (jI 1), some (jI (p : Int)), none]) (by exact ⟨rfl, rfl, rfl, rfl, rfl, trivial⟩) ?_
                          exact ih23 (f - 1) b p 1 M4 hw4 hb4 (Or.inl ⟨rfl, by
                have q2 := hr2 (by omega)
                rw [show f = (f - 1) + 1 by omega, zw2_g (by omega) hz hD] at q2
                obtain ⟨n4, hQ4⟩ := zdo_Q (hQ2 (by omega)) (zbh_cd (by omega)) (fun _ => (zfg_b _).2) (fun _ => znm_b _ _ _) hD
                exact zr2_t (zw2_c (f - 1) b n4 _ _ hQ4 he) q2, by omega, by omega, by
                obtain ⟨n4, hQ4⟩ := zdo_Q (hQ2 (by omega)) (zbh_cd (by omega)) (fun _ => (zfg_b _).2) (fun _ => znm_b _ _ _) hD
                exact ⟨n4, zQ_c he hQ4⟩⟩) (by omega) (by omega) (by omega)
                        · have hd : zdo (zlt t F p) (M3 (m + 422) 0) (M3 (m + 422) 1) (M3 (m + 422) 2) (M3 (m + 16)) = none := hd
                          have hD := (zdoN hz4 hc3).symm.trans hd
                          show jWp 206 115 [some (jO m), some (jI (F : Int)), some (jI (k : Int)), some (jI s), some (jI (p : Int)), some (jI (zlt t F p))] [jI 0] 0 0 (M4, w.2) _
                          refine jWp.ifc (b := true) mt rfl (by decide) rfl ?_
                          show jWp 206 122 [some (jO m), some (jI (F : Int)), some (jI (k : Int)), some (jI s), some (jI (p : Int)), some (jI (zlt t F p))] [] 0 0 (M4, w.2) _
                          refine jWp.blk mt 3 ?_
                          show jWp 206 78 [some (jO m), some (jI (F : Int)), some (jI (k : Int)), some (jI 0), some (jI (p : Int)), some (jI (zlt t F p))] [] 0 0 (M4, w.2) _
                          refine jWp.le (l := [some (jO m), some (jI (F : Int)), some (jI (k : Int)), some (jI 0), some (jI (p : Int)), none]) (by exact ⟨rfl, rfl, rfl, rfl, rfl, trivial⟩) ?_
                          exact ih23 f b p 0 M4 hw4 hb4 (Or.inr ⟨rfl, by
                have q2 := hr2 (by omega)
                rw [show f = (f - 1) + 1 by omega, zw2_f (by omega) (by omega) hD] at q2
                exact zr2_i q2⟩) (by omega) (by omega) (by omega)
                      · have hz' := hz
                        show jWp 206 106 [some (jO m), some (jI (F : Int)), some (jI (k : Int)), some (jI s), some (jI (p : Int)), some (jI (zlt t F p))] [jI 0] 0 0 (M3, w.2) _
                        refine jWp.ifc (b := true) mt rfl (by decide) rfl ?_
                        show jWp 206 122 [some (jO m), some (jI (F : Int)), some (jI (k : Int)), some (jI s), some (jI (p : Int)), some (jI (zlt t F p))] [] 0 0 (M3, w.2) _
                        refine jWp.blk mt 3 ?_
                        show jWp 206 78 [some (jO m), some (jI (F : Int)), some (jI (k : Int)), some (jI 0), some (jI (p : Int)), some (jI (zlt t F p))] [] 0 0 (M3, w.2) _
                        refine jWp.le (l := [some (jO m), some (jI (F : Int)), some (jI (k : Int)), some (jI 0), some (jI (p : Int)), none]) (by exact ⟨rfl, rfl, rfl, rfl, rfl, trivial⟩) ?_
                        exact ih23 f b p 0 M3 hw3 hb (Or.inr ⟨rfl, by
                have q2 := hr2 (by omega)
                rw [show f = (f - 1) + 1 by omega, zw2_n (by omega) (by omega)] at q2
                exact zr2_i q2⟩) (by omega) (by omega) (by omega)
              refine jWp.le (l := [some (jO m), some (jI (F : Int)), some (jI (k : Int)), some (jI s), some (jI 0), none]) (by exact ⟨rfl, rfl, rfl, rfl, rfl, trivial⟩) ?_
              exact lp22 _ 73 0 0 s (jW (kA (M1, w.2) (m + 16) T20) m 25 0).1 (zwf_t hw1 (zwf_t zwf_A zwf_p)) jW_s (Or.inl ⟨by omega, by rw [show (jW (kA (M1, w.2) (m + 16) T20) m 25 0).1 (m + 16) = T20 from (jW_f (by omega)).trans kA_fs]; exact zw2_c 73 0 n _ _ hQ (fun j hj => ((hT21 j hj).trans (congrFun (hw1.2.1 (m + 1) (by omega) (by omega) (by omega) (by omega)) j)) : zeq T20 (w.1 (m + 1))), by omega, by omega, n, by rw [show (jW (kA (M1, w.2) (m + 16) T20) m 25 0).1 (m + 16) = T20 from (jW_f (by omega)).trans kA_fs]; exact zQ_c (fun j hj => ((hT21 j hj).trans (congrFun (hw1.2.1 (m + 1) (by omega) (by omega) (by omega) (by omega)) j)) : zeq T20 (w.1 (m + 1))) hQ⟩) (by omega) (by omega) (Nat.lt_succ_self _)
            · have h19 : s = 0 := h19
              refine jWp.blk mt 2 ?_
              show _ ∧ jWp 206 47 [some (jO m), some (jI (F : Int)), some (jI (k : Int)), some (jI s), none, none] [jI 0, jO m] 0 0 (M1, w.2) _
              refine ⟨rfl, ?_⟩
              refine jWp.putI (pc' := 50) mt rfl rfl (jtg hW.K0) ?_
              show jWp 206 50 [some (jO m), some (jI (F : Int)), some (jI (k : Int)), some (jI s), none, none] [] 0 0 (jW (M1, w.2) m 24 0) _
              refine jWp.blk mt 2 ?_
              show _ ∧ jWp 206 54 [some (jO m), some (jI (F : Int)), some (jI (k : Int)), some (jI s), none, none] [jO m, jI (-1000)] 0 0 (jW (M1, w.2) m 24 0) _
              refine ⟨rfl, ?_⟩
              refine jWp.getI (pc' := 57) mt rfl rfl (jtg hW.K0) ?_
              rw [show ((jW (M1, w.2) m 24 0).1 m 25) = (p : Int) from (((jW_k (by decide)).trans rfl).trans hp)]
              show jWp 206 57 [some (jO m), some (jI (F : Int)), some (jI (k : Int)), some (jI s), none, none] [jI (p : Int), jI (-1000)] 0 0 (jW (M1, w.2) m 24 0) _
              refine jWp.blk mt 1 ?_
              show jWp 206 58 [some (jO m), some (jI (F : Int)), some (jI (k : Int)), some (jI s), none, none] [jI ((-1000) - (p : Int))] 0 0 (jW (M1, w.2) m 24 0) _
              refine jWp.ireti mt rfl ⟨rfl, rfl⟩ rfl ?_
              refine ⟨fun hn => ⟨?_, (M1, w.2), zwf_q hw1, rfl⟩, fun hn => ?_⟩
              · rcases hp1 with ⟨e, _⟩ | ⟨e, g, _⟩
                · exfalso; omega
                · rw [show ((-1000) - (p : Int)) = -999 + (zw1 t F 73 0 0) by omega]
              · exfalso
                rcases hp1 with ⟨e, _⟩ | ⟨e, g, _⟩ <;> omega
          · have h18 : (p : Int) < (F : Int) := h18
            refine jWp.blk mt 1 ?_
            show _ ∧ jWp 206 31 [some (jO m), some (jI (F : Int)), some (jI (k : Int)), some (jI s), none, none] [jO m] 0 0 (M1, w.2) _
            refine ⟨rfl, ?_⟩
            refine jWp.callv (as := [jO m]) (rest := []) mt rfl rfl rfl ⟨rfl, jtg hW.K0⟩ ?_
            refine jCall.mono (E_hasStatement (w := (M1, w.2)) (F := F) (p := p) (t := t) hW ((hw1.2.2 24 (by decide) (by decide) (by decide)).trans hF) hF72 hp (by omega) ((hw1.2.1 (m + 421) (by omega) (by omega) (by omega) (by omega)).trans ht) hL) (fun v9 w9 h9 => ?_)
            obtain ⟨b, hsg, hb, hh⟩ := h9
            obtain ⟨M2, G9⟩ := w9
            have hg : G9 = w.2 := hsg.1
            subst hg
            have hw2 : zwf w m (M2, w.2) := zwf_t hw1 (zwf_s hsg)
            have hb : M2 m 25 = (b : Int) := hb
            rcases hh with ⟨rfl, hz, hz1, hz2, hz3, hz4⟩ | ⟨rfl, hz, hz1, hz2⟩
            · have hz' := hz
              show jWp 206 34 [some (jO m), some (jI (F : Int)), some (jI (k : Int)), some (jI s), none, none] [jI 1] 0 0 (M2, w.2) _
              refine jWp.blk mt 3 ?_
              show jWp 206 14 [some (jO m), some (jI (F : Int)), some (jI ((k : Int) + 1)), some (jI 1), none, none] [] 0 0 (M2, w.2) _
              refine jWp.le (l := [some (jO m), some (jI (F : Int)), some (jI ((k : Int) + 1)), some (jI 1), none, none]) (by exact ⟨rfl, rfl, rfl, rfl, trivial⟩) ?_
              exact ih2 (k + 1) b 1 M2 hw2 hb (Or.inl ⟨rfl, by omega, by omega, fun g => by rw [← hr1 (by omega) (by omega), show 73 - k = (73 - (k + 1)) + 1 by omega, zw1_g hz (by omega)], fun _ g => by rw [← hr1 (by omega) (by omega), show 73 - k = (72 - k) + 1 by omega, zw1_e hz g]⟩) (by omega) (by omega)
            · have hz' := hz
              show jWp 206 34 [some (jO m), some (jI (F : Int)), some (jI (k : Int)), some (jI s), none, none] [jI 0] 0 0 (M2, w.2) _
              refine jWp.blk mt 3 ?_
              show jWp 206 14 [some (jO m), some (jI (F : Int)), some (jI ((k : Int) + 1)), some (jI 0), none, none] [] 0 0 (M2, w.2) _
              refine jWp.le (l := [some (jO m), some (jI (F : Int)), some (jI ((k : Int) + 1)), some (jI 0), none, none]) (by exact ⟨rfl, rfl, rfl, rfl, trivial⟩) ?_
              exact ih2 (k + 1) b 0 M2 hw2 hb (Or.inr ⟨rfl, by rw [← hr1 (by omega) (by omega), show 73 - k = (72 - k) + 1 by omega, zw1_n (by omega), hz], by omega⟩) (by omega) (by omega)
  refine jWp.le (l := [some (jO m), some (jI (F : Int)), some (jI 0), some (jI 1), none, none]) (by exact ⟨rfl, rfl, rfl, rfl, trivial⟩) ?_
  exact lp1 _ 0 0 1 (jW w m 25 0).1 zwf_p jW_s (Or.inl ⟨rfl, by omega, by omega, fun _ => rfl, fun g => absurd rfl g⟩) (by omega) (Nat.lt_succ_self _)
