/-- what an exchange, a walk, an undoing leave of the reference as it was -/
def mfr (w : jS) (m : Nat) (w1 : jS) : Prop := w1.2 = w.2 ∧ (∀ a, a ≠ m → a ≠ m + 1 → a ≠ m + 6 → (a < m + 8 ∨ m + 17 ≤ a) → w1.1 a = w.1 a) ∧ ∀ j, j ≠ 11 → j ≠ 12 → j ≠ 15 → w1.1 m j = w.1 m j
/-- the past behind one more seed q -/
def zpst (w : jS) (m u : Nat) (q : Nat → Int) (w1 : jS) : Prop :=
  (u < 8 ∧ w1.1 m 15 = ((u + 1 : Nat) : Int) ∧ (∀ x, x < u → w1.1 (m + (8 + x)) = w.1 (m + (8 + x))) ∧ ∀ c, c < 45 → w1.1 (m + (8 + u)) c = q c) ∨
   (u = 8 ∧ w1.1 m 15 = ((8 : Nat) : Int) ∧ (∀ x, x < 7 → ∀ c, c < 45 → w1.1 (m + (8 + x)) c = w.1 (m + (8 + (x + 1))) c) ∧ ∀ c, c < 45 → w1.1 (m + (8 + 7)) c = q c)
/-- an exchange of the seed that is tried, which was copied from another -/
theorem E_xtried {w : jS} {m n k : Nat} {q T : Nat → Int} (hW : MW w.2 m) (hS : zS q n) (hk : k < 4) (hT : ∀ j, j < 45 → T j = q j) : jCall 178 [jO m, jO (m + 16), jI (k : Int)] (kA w (m + 16) T) (fun v w1 => ∃ x y T6 S, w1 = kA (kA (jF2 w m x y) (m + 6) T6) (m + 16) S ∧ ((v = some (jI 1) ∧ zxn q S n k) ∨ (v = some (jI 0) ∧ (∀ j, j < 45 → S j = q j) ∧ ¬ zcan q n k))) := by
  have e : (kA w (m + 16) T).1 (m + 16) = T := kA_fs
  have hT9 : ∀ j, j < 29 → T j = q j := fun j hj => hT j (by omega)
  have hn := hS.n4
  refine jCall.mono (E_exchanges (w := kA w (m + 16) T) (q := m + 16) (tb := m + 6) (n := n) hW.K0 hW.R13 hW.K16 hW.K6 (by rw [e]; exact zS_c hT9 hS) hk) (fun v w1 h => ?_)
  obtain ⟨x, y, T6, S, h1, h2⟩ := h
  refine ⟨x, y, T6, S, ?_, ?_⟩
  · rw [h1]
    unfold jX jF2 jW jup kA
    refine Prod.ext (funext fun a => funext fun j => ?_) rfl
    show (if a = m + 16 then _ else if a = m + 6 then _ else if a = m ∧ j = 12 then _ else if a = m ∧ j = 11 then _ else if a = m + 16 then _ else _) = (if a = m + 16 then _ else if a = m + 6 then _ else if a = m ∧ j = 12 then _ else if a = m ∧ j = 11 then _ else _)
    by_cases h : a = m + 16
    · rw [if_pos h, if_pos h]
    · rw [if_neg h, if_neg h, if_neg h]
  · rw [e] at h2
    rcases h2 with ⟨hv, h3, h4, h5, h6, h7, h8⟩ | ⟨hv, h3, h4⟩
    · refine Or.inl ⟨hv, zxn_c hT9 hn hk ⟨⟨h4, by rw [h3]; rfl⟩, by rw [h3, h6, h7], h5, h8⟩⟩
    · exact Or.inr ⟨hv, fun j hj => by rw [h3]; exact hT j hj, fun hc => h4 ((zcan_c hT9 hn hk).mpr hc)⟩
