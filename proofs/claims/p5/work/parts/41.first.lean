/-- the first place, of so many from one on, at which something holds; -9 -/
noncomputable def zff (p : Nat → Prop) : Nat → Nat → Int
  | 0, _ => -9
  | f + 1, k => @ite Int (p k) (Classical.propDecidable (p k)) (k : Int) (zff p f (k + 1))
theorem zff_t {p : Nat → Prop} {f k : Nat} (h : p k) : zff p (f + 1) k = (k : Int) := if_pos h
theorem zff_f {p : Nat → Prop} {f k : Nat} (h : ¬ p k) : zff p (f + 1) k = zff p f (k + 1) := if_neg h
theorem zff_c {p r : Nat → Prop} : ∀ f k, (∀ i, k ≤ i → i < k + f → (p i ↔ r i)) → zff p f k = zff r f k
  | 0, _, _ => rfl
  | f + 1, k, h => by
    by_cases e : p k
    · rw [zff_t e, zff_t ((h k (by omega) (by omega)).mp e)]
    · rw [zff_f e, zff_f (fun g => e ((h k (by omega) (by omega)).mpr g)), zff_c f (k + 1) (fun i h1 h2 => h i (by omega) (by omega))]
/-- the same, as far as something else holds -/
noncomputable def zfs (c p : Nat → Prop) : Nat → Nat → Int
  | 0, _ => -9
  | f + 1, k => @ite Int (c k) (Classical.propDecidable (c k)) (@ite Int (p k) (Classical.propDecidable (p k)) (k : Int) (zfs c p f (k + 1))) (-9)
theorem zfs_n {c p : Nat → Prop} {f k : Nat} (h : ¬ c k) : zfs c p f k = -9 := by
  cases f with
  | zero => rfl
  | succ f => exact if_neg h
theorem zfs_t {c p : Nat → Prop} {f k : Nat} (g : c k) (h : p k) : zfs c p (f + 1) k = (k : Int) := (if_pos g).trans (if_pos h)
theorem zfs_f {c p : Nat → Prop} {f k : Nat} (g : c k) (h : ¬ p k) : zfs c p (f + 1) k = zfs c p f (k + 1) := (if_pos g).trans (if_neg h)
theorem zfs_c {c p d r : Nat → Prop} : ∀ f k, (∀ i, k ≤ i → (c i ↔ d i) ∧ (c i → (p i ↔ r i))) → zfs c p f k = zfs d r f k
  | 0, _, _ => rfl
  | f + 1, k, h => by
    have e := h k (Nat.le_refl k)
    by_cases g : c k
    · by_cases q : p k
      · rw [zfs_t g q, zfs_t (e.1.mp g) ((e.2 g).mp q)]
      · rw [zfs_f g q, zfs_f (e.1.mp g) (fun x => q ((e.2 g).mpr x)), zfs_c f (k + 1) (fun i hi => h i (by omega))]
    · rw [zfs_n g, zfs_n (fun x => g (e.1.mpr x))]
/-- a row of the reference: its numbers, how many, why it ends, what is left -/
def zTR (r : Nat → Int) (x : Nat) (t : Nat → Int) (len : Nat) (why left : Int) : Prop := zGr (r (1 + 10 * x)) (r (2 + 10 * x)) (fun y => r (3 + 10 * x + y)) t len ∧ zEn (r (1 + 10 * x)) (r (2 + 10 * x)) t len why left
theorem zTR_b {r t : Nat → Int} {x c len : Nat} {why left : Int} (hR : zRw r c) (hx : x < c) (h : zTR r x t len why left) : len ≤ 60 ∧ 2 ≤ len ∧ ∀ j, j < len → -100000000 ≤ t j ∧ t j ≤ 100000000 := by
  have g := hR.2.2 x hx
  have hb := zO_b g.1.1 g.1.2
  exact ⟨h.1.2.1, by have := h.1.1; omega, zGr_b g.1.1 g.1.2 g.2.2 h.1⟩
theorem zTR_u {r t t' : Nat → Int} {x c len len' : Nat} {why left why' left' : Int} (hR : zRw r c) (hx : x < c) (h : zTR r x t len why left) (h' : zTR r x t' len' why' left') : len = len' ∧ why = why' ∧ left = left' ∧ ∀ j, j < len → t j = t' j := by
  have g := hR.2.2 x hx
  exact zGr_u g.1.1 g.1.2 h.1 h.2 h'.1 h'.2
theorem zEn_b {r t : Nat → Int} {x c len : Nat} {why left : Int} (hR : zRw r c) (hx : x < c) (h : zTR r x t len why left) : (0 ≤ why ∧ why ≤ 2) ∧ -100000000 ≤ left ∧ left ≤ 100000000 := by
  have g := hR.2.2 x hx
  have s := zGr_s g.1.1 g.1.2 g.2.1 g.2.2 h.1
  have d := zdm s.1 s.2
  rcases h.2 with e | e | e <;> omega
set_option maxHeartbeats 4000000 in
set_option maxRecDepth 20000 in
theorem E_firstBelow {w : jS} {m : Nat} (hW : MW w.2 m) {len : Nat} (hl : w.1 m 4 = (len : Int)) (hl60 : len ≤ 60) (hb : ∀ j, j < len → -100000000 ≤ w.1 (m + 4) j ∧ w.1 (m + 4) j ≤ 100000000) : jCall 149 [jO m] w (jvi (zff (fun k => w.1 (m + 4) k < 1) len 0) w) := by
  have mt : jtb 149 = jT149 := rfl
  show jWp 149 0 [some (jO m), none] [] 0 0 w _
  refine jWp.blk mt 2 ?_
  show jWp 149 2 [some (jO m), some (jI 0)] [] 0 0 w _
  have lp1 : ∀ (N : Nat) (k : Nat) (hk : k ≤ len) (hr : zff (fun k => w.1 (m + 4) k < 1) (len - k) k = zff (fun k => w.1 (m + 4) k < 1) len 0), len - k < N → jWp 149 2 [some (jO m), some (jI (k : Int))] [] 0 0 w (jvi (zff (fun k => w.1 (m + 4) k < 1) len 0) w) := by
    intro N
    induction N with
    | zero => intro k hk hr hm; omega
    | succ N ih2 =>
      intro k hk hr hm
      have hf : k < len → _ := fun h => hb k h
      refine jWp.blk mt 2 ?_
      show _ ∧ jWp 149 4 [some (jO m), some (jI (k : Int))] [jO m, jI (k : Int)] 0 0 w _
      refine ⟨rfl, ?_⟩
      refine jWp.getI (pc' := 7) mt rfl rfl (jtg hW.K0) ?_
      rw [show (w.1 m 4) = (len : Int) from hl]
      show jWp 149 7 [some (jO m), some (jI (k : Int))] [jI (len : Int), jI (k : Int)] 0 0 w _
      refine jWp.icmp (pc' := 10) mt rfl rfl (b32_id (by omega) (by omega)) (b32_id (by omega) (by omega)) (fun h3 => ?_) (fun h3 => ?_)
      · have h3 : (len : Int) ≤ (k : Int) := h3
        refine jWp.blk mt 1 ?_
        show jWp 149 31 [some (jO m), some (jI (k : Int))] [jI (-9)] 0 0 w _
        refine jWp.ireti mt rfl ⟨rfl, rfl⟩ rfl ?_
        refine ⟨?_, rfl⟩
        rw [← hr, show len - k = 0 by omega]; rfl
      · have h3 : (k : Int) < (len : Int) := h3
        refine jWp.blk mt 1 ?_
        show _ ∧ jWp 149 11 [some (jO m), some (jI (k : Int))] [jO m] 0 0 w _
        refine ⟨rfl, ?_⟩
        refine jWp.getR (pc' := 14) (o := (m + 4)) mt rfl rfl (jtg hW.K0) hW.R3 ?_
        show jWp 149 14 [some (jO m), some (jI (k : Int))] [jO (m + 4)] 0 0 w _
        refine jWp.blk mt 1 ?_
        show jWp 149 15 [some (jO m), some (jI (k : Int))] [jI (k : Int), jO (m + 4)] 0 0 w _
        refine jWp.lald (pc' := 16) (j := k) mt rfl rfl (jtg hW.K4) (by rw [b32_id (by omega) (by omega)] <;> omega) (jlt hW.K4 (by omega)) ?_
        show jWp 149 16 [some (jO m), some (jI (k : Int))] [jJ (w.1 (m + 4) k)] 0 0 w _
        refine jWp.blk mt 1 ?_
        show jWp 149 17 [some (jO m), some (jI (k : Int))] [jJ 1, jJ (w.1 (m + 4) k)] 0 0 w _
        refine jWp.lcmp (pc' := 21) mt rfl rfl rfl (b64_id (by omega) (by omega)) (show b64 1 = 1 by decide) (fun h4 => ?_) (fun h4 => ?_)
        · have h4 : 1 ≤ (w.1 (m + 4) k) := h4
          refine jWp.blk mt 2 ?_
          show jWp 149 2 [some (jO m), some (jI ((k : Int) + 1))] [] 0 0 w _
          refine jWp.le (l := [some (jO m), some (jI ((k : Int) + 1))]) (by exact ⟨rfl, rfl, trivial⟩) ?_
          exact ih2 (k + 1) (by omega) (by rw [← hr, show len - k = (len - (k + 1)) + 1 by omega, zff_f (by omega)]) (by omega)
        · have h4 : (w.1 (m + 4) k) < 1 := h4
          refine jWp.blk mt 1 ?_
          show jWp 149 22 [some (jO m), some (jI (k : Int))] [jI (k : Int)] 0 0 w _
          refine jWp.ireti mt rfl ⟨rfl, rfl⟩ rfl ?_
          refine ⟨?_, rfl⟩
          rw [← hr, show len - k = (len - (k + 1)) + 1 by omega, zff_t (by omega)]
  refine jWp.le (l := [some (jO m), some (jI 0)]) (by exact ⟨rfl, rfl, trivial⟩) ?_
  exact lp1 _ 0 (by omega) rfl (Nat.lt_succ_self _)
set_option maxHeartbeats 4000000 in
set_option maxRecDepth 20000 in
theorem E_of {w : jS} {m : Nat} (hW : MW w.2 m) {c : Nat} (hR : zRw (w.1 (m + 2)) c) {r a : Int} (hrr : r32 r) (hra : r32 a) : jCall 150 [jO m, jI r, jI a] w (fun v w1 => ((¬ (0 ≤ r ∧ r < (c : Int))) → jno w m 1 (jI (-1)) v w1) ∧ (¬ (¬ (0 ≤ r ∧ r < (c : Int))) → (¬ (0 ≤ a ∧ a ≤ 6)) → jno w m 2 (jI (-2)) v w1) ∧ (¬ (¬ (0 ≤ r ∧ r < (c : Int))) → ¬ (¬ (0 ≤ a ∧ a ≤ 6)) → ∃ (t : Nat → Int) (len : Nat) (why left : Int), zTR (w.1 (m + 2)) r.toNat t len why left ∧ (a = 0 → v = some (jI (w.1 (m + 2) (1 + 10 * r.toNat)))) ∧ (a = 1 → v = some (jI (w.1 (m + 2) (2 + 10 * r.toNat)))) ∧ (a = 2 → v = some (jI (zO (w.1 (m + 2) (1 + 10 * r.toNat))))) ∧ (a = 3 → v = some (jI ((len : Int)))) ∧ (a = 4 → v = some (jI (why))) ∧ (a = 5 → v = some (jI (left))) ∧ (a = 6 → v = some (jI (zff (fun k => t k < 1) len 0))) ∧ mq w m w1)) := by
  have mt : jtb 150 = jT150 := rfl
  have hc4 := hR.2.1
  have hrr1 : -2147483648 ≤ r ∧ r < 2147483648 := hrr
  have hra1 : -2147483648 ≤ a ∧ a < 2147483648 := hra
  show jWp 150 0 [some (jO m), some (jI r), some (jI a)] [] 0 0 w _
  refine jWp.blk mt 2 ?_
  show _ ∧ jWp 150 2 [some (jO m), some (jI r), some (jI a)] [jI r, jO m] 0 0 w _
  refine ⟨rfl, ?_⟩
  refine jWp.callv (as := [jO m, jI r]) (rest := []) mt rfl rfl rfl ⟨rfl, jtg hW.K0⟩ ?_
  refine jCall.mono (E_isRow hW hR hrr) (fun v9 w9 h9 => ?_)
  rcases h9 with ⟨rfl, h9, h1⟩ | ⟨rfl, h9, h1⟩ <;> subst w9
  · have h1 : 0 ≤ r ∧ r < (c : Int) := h1
    show jWp 150 5 [some (jO m), some (jI r), some (jI a)] [jI 1] 0 0 w _
    obtain ⟨r1, rfl⟩ : ∃ r1 : Nat, r = (r1 : Int) := ⟨r.toNat, by omega⟩
    show jWp 150 5 [some (jO m), some (jI (r1 : Int)), some (jI a)] [jI 1] 0 0 w _
    have hRr := hR.2.2 r1 (by omega)
    have hRo := zO_b hRr.1.1 hRr.1.2
    refine jWp.ifc (b := true) mt rfl (by decide) rfl ?_
    show jWp 150 14 [some (jO m), some (jI (r1 : Int)), some (jI a)] [] 0 0 w _
    refine jWp.blk mt 1 ?_
    show jWp 150 15 [some (jO m), some (jI (r1 : Int)), some (jI a)] [jI a] 0 0 w _
    refine jWp.i2l (pc' := 16) mt rfl rfl (b32_id (by omega) (by omega)) ?_
    show jWp 150 16 [some (jO m), some (jI (r1 : Int)), some (jI a)] [jJ a] 0 0 w _
    refine jWp.blk mt 2 ?_
    show jWp 150 20 [some (jO m), some (jI (r1 : Int)), some (jI a)] [jJ 6, jJ 0, jJ a] 0 0 w _
    refine jWp.calls (as := [jJ a, jJ 0, jJ 6]) (rest := []) mt rfl rfl rfl rfl ?_
    refine jCall.mono (E_in (b64_id (by omega) (by omega)) (show b64 0 = 0 by decide) (show b64 6 = 6 by decide)) (fun v9 w9 h9 => ?_)
    rcases h9 with ⟨rfl, h9, h2⟩ | ⟨rfl, h9, h2⟩ <;> subst w9
    · have h2 : 0 ≤ a ∧ a ≤ 6 := h2
      show jWp 150 23 [some (jO m), some (jI (r1 : Int)), some (jI a)] [jI 1] 0 0 w _
      refine jWp.ifc (b := true) mt rfl (by decide) rfl ?_
      show jWp 150 33 [some (jO m), some (jI (r1 : Int)), some (jI a)] [] 0 0 w _
      refine jWp.blk mt 2 ?_
      show _ ∧ jWp 150 35 [some (jO m), some (jI (r1 : Int)), some (jI a)] [jI (r1 : Int), jO m] 0 0 w _
      refine ⟨rfl, ?_⟩
      refine jWp.callv (as := [jO m, jI (r1 : Int)]) (rest := []) mt rfl rfl rfl ⟨rfl, jtg hW.K0⟩ ?_
      refine jCall.mono (E_terms (w := w) (x := r1) hW (by omega) rfl rfl hRr.1.1 hRr.1.2 hRr.2.1 hRr.2.2) (fun v9 w9 h9 => ?_)
      obtain ⟨rfl, hF, len, why, left, k4, k5, k6, hG, hE⟩ := h9
      obtain ⟨M1, G9⟩ := w9
      have hg : G9 = w.2 := hF.1
      subst hg
      have k4 : M1 m 4 = (len : Int) := k4
      have k5 : M1 m 5 = why := k5
      have k6 : M1 m 6 = left := k6
      have hTR : zTR (w.1 (m + 2)) r1 (M1 (m + 4)) len why left := ⟨hG, hE⟩
      have hTb := zTR_b hR (by omega) hTR
      have hEb := zEn_b hR (by omega) hTR
      have hmq : mq w m (M1, w.2) := ztr_q hF
      have hM2 : M1 (m + 2) = w.1 (m + 2) := hmq.2.1 _ (by omega)
      show jWp 150 38 [some (jO m), some (jI (r1 : Int)), some (jI a)] [] 0 0 (M1, w.2) _
      refine jWp.blk mt 1 ?_
      show jWp 150 39 [some (jO m), some (jI (r1 : Int)), some (jI a)] [jI a] 0 0 (M1, w.2) _
      refine jWp.sw mt rfl (Or.inl ⟨_, _, _, _, rfl⟩) (b32_id (by omega) (by omega)) ?_
      show jWp 150 (jsw [(0, 76), (1, 82), (2, 88), (3, 97), (4, 102), (5, 107)] 113 a) [some (jO m), some (jI (r1 : Int)), some (jI a)] [] 0 0 (M1, w.2) _
      unfold jsw; by_cases h3 : 0 = a
      · rw [if_pos h3]
        refine jWp.blk mt 2 ?_
        show _ ∧ jWp 150 78 [some (jO m), some (jI (r1 : Int)), some (jI a)] [jI (r1 : Int), jO m] 0 0 (M1, w.2) _
        refine ⟨rfl, ?_⟩
        refine jWp.callv (as := [jO m, jI (r1 : Int)]) (rest := []) mt rfl rfl rfl ⟨rfl, jtg hW.K0⟩ ?_
        refine jCall.mono ((by have h := E_law (w := (M1, w.2)) (x := r1) hW (by omega); rw [show ((M1, w.2) : jS).1 (m + 2) = w.1 (m + 2) from hM2] at h; exact h)) (fun v9 w9 h9 => ?_)
        obtain ⟨rfl, h9⟩ := h9
        subst w9
        show jWp 150 81 [some (jO m), some (jI (r1 : Int)), some (jI a)] [jI (w.1 (m + 2) (1 + 10 * r1))] 0 0 (M1, w.2) _
        refine jWp.ireti mt rfl ⟨rfl, rfl⟩ rfl ?_
        try rw [show ((r1 : Nat) : Int).toNat = r1 from rfl]
        refine ⟨fun c0 => ?_, fun c0 c1 => ?_, fun c0 c1 => ?_⟩
        all_goals first
        | (exfalso; omega)
        | exact ⟨rfl, rfl⟩
        | (refine ⟨M1 (m + 4), len, why, left, hTR, fun c => ?_, fun c => ?_, fun c => ?_, fun c => ?_, fun c => ?_, fun c => ?_, fun c => ?_, hmq⟩ <;> first | (exfalso; omega) | rfl)
      · rw [if_neg h3]
        unfold jsw; by_cases h4 : 1 = a
        · rw [if_pos h4]
          refine jWp.blk mt 2 ?_
          show _ ∧ jWp 150 84 [some (jO m), some (jI (r1 : Int)), some (jI a)] [jI (r1 : Int), jO m] 0 0 (M1, w.2) _
          refine ⟨rfl, ?_⟩
          refine jWp.callv (as := [jO m, jI (r1 : Int)]) (rest := []) mt rfl rfl rfl ⟨rfl, jtg hW.K0⟩ ?_
          refine jCall.mono ((by have h := E_figure (w := (M1, w.2)) (x := r1) hW (by omega); rw [show ((M1, w.2) : jS).1 (m + 2) = w.1 (m + 2) from hM2] at h; exact h)) (fun v9 w9 h9 => ?_)
          obtain ⟨rfl, h9⟩ := h9
          subst w9
          show jWp 150 87 [some (jO m), some (jI (r1 : Int)), some (jI a)] [jI (w.1 (m + 2) (2 + 10 * r1))] 0 0 (M1, w.2) _
          refine jWp.ireti mt rfl ⟨rfl, rfl⟩ rfl ?_
          try rw [show ((r1 : Nat) : Int).toNat = r1 from rfl]
          refine ⟨fun c0 => ?_, fun c0 c1 => ?_, fun c0 c1 => ?_⟩
          all_goals first
          | (exfalso; omega)
          | exact ⟨rfl, rfl⟩
          | (refine ⟨M1 (m + 4), len, why, left, hTR, fun c => ?_, fun c => ?_, fun c => ?_, fun c => ?_, fun c => ?_, fun c => ?_, fun c => ?_, hmq⟩ <;> first | (exfalso; omega) | rfl)
        · rw [if_neg h4]
          unfold jsw; by_cases h5 : 2 = a
          · rw [if_pos h5]
            refine jWp.blk mt 2 ?_
            show _ ∧ jWp 150 90 [some (jO m), some (jI (r1 : Int)), some (jI a)] [jI (r1 : Int), jO m] 0 0 (M1, w.2) _
            refine ⟨rfl, ?_⟩
            refine jWp.callv (as := [jO m, jI (r1 : Int)]) (rest := []) mt rfl rfl rfl ⟨rfl, jtg hW.K0⟩ ?_
            refine jCall.mono ((by have h := E_law (w := (M1, w.2)) (x := r1) hW (by omega); rw [show ((M1, w.2) : jS).1 (m + 2) = w.1 (m + 2) from hM2] at h; exact h)) (fun v9 w9 h9 => ?_)
            obtain ⟨rfl, h9⟩ := h9
            subst w9
            show jWp 150 93 [some (jO m), some (jI (r1 : Int)), some (jI a)] [jI (w.1 (m + 2) (1 + 10 * r1))] 0 0 (M1, w.2) _
            refine jWp.calls (as := [jI (w.1 (m + 2) (1 + 10 * r1))]) (rest := []) mt rfl rfl rfl rfl ?_
            refine jCall.mono (E_order hRr.1.1 hRr.1.2) (fun v9 w9 h9 => ?_)
            obtain ⟨rfl, h9⟩ := h9
            subst w9
            show jWp 150 96 [some (jO m), some (jI (r1 : Int)), some (jI a)] [jI (zO (w.1 (m + 2) (1 + 10 * r1)))] 0 0 (M1, w.2) _
            refine jWp.ireti mt rfl ⟨rfl, rfl⟩ rfl ?_
            try rw [show ((r1 : Nat) : Int).toNat = r1 from rfl]
            refine ⟨fun c0 => ?_, fun c0 c1 => ?_, fun c0 c1 => ?_⟩
            all_goals first
            | (exfalso; omega)
            | exact ⟨rfl, rfl⟩
            | (refine ⟨M1 (m + 4), len, why, left, hTR, fun c => ?_, fun c => ?_, fun c => ?_, fun c => ?_, fun c => ?_, fun c => ?_, fun c => ?_, hmq⟩ <;> first | (exfalso; omega) | rfl)
          · rw [if_neg h5]
            unfold jsw; by_cases h6 : 3 = a
            · rw [if_pos h6]
              refine jWp.blk mt 1 ?_
              show _ ∧ jWp 150 98 [some (jO m), some (jI (r1 : Int)), some (jI a)] [jO m] 0 0 (M1, w.2) _
              refine ⟨rfl, ?_⟩
              refine jWp.getI (pc' := 101) mt rfl rfl (jtg hW.K0) ?_
              rw [show ((M1, w.2).1 m 4) = (len : Int) from k4]
              show jWp 150 101 [some (jO m), some (jI (r1 : Int)), some (jI a)] [jI (len : Int)] 0 0 (M1, w.2) _
              refine jWp.ireti mt rfl ⟨rfl, rfl⟩ rfl ?_
              try rw [show ((r1 : Nat) : Int).toNat = r1 from rfl]
              refine ⟨fun c0 => ?_, fun c0 c1 => ?_, fun c0 c1 => ?_⟩
              all_goals first
              | (exfalso; omega)
              | exact ⟨rfl, rfl⟩
              | (refine ⟨M1 (m + 4), len, why, left, hTR, fun c => ?_, fun c => ?_, fun c => ?_, fun c => ?_, fun c => ?_, fun c => ?_, fun c => ?_, hmq⟩ <;> first | (exfalso; omega) | rfl)
            · rw [if_neg h6]
              unfold jsw; by_cases h7 : 4 = a
              · rw [if_pos h7]
                refine jWp.blk mt 1 ?_
                show _ ∧ jWp 150 103 [some (jO m), some (jI (r1 : Int)), some (jI a)] [jO m] 0 0 (M1, w.2) _
                refine ⟨rfl, ?_⟩
                refine jWp.getI (pc' := 106) mt rfl rfl (jtg hW.K0) ?_
                rw [show ((M1, w.2).1 m 5) = why from k5]
                show jWp 150 106 [some (jO m), some (jI (r1 : Int)), some (jI a)] [jI why] 0 0 (M1, w.2) _
                refine jWp.ireti mt rfl ⟨rfl, rfl⟩ rfl ?_
                try rw [show ((r1 : Nat) : Int).toNat = r1 from rfl]
                refine ⟨fun c0 => ?_, fun c0 c1 => ?_, fun c0 c1 => ?_⟩
                all_goals first
                | (exfalso; omega)
                | exact ⟨rfl, rfl⟩
                | (refine ⟨M1 (m + 4), len, why, left, hTR, fun c => ?_, fun c => ?_, fun c => ?_, fun c => ?_, fun c => ?_, fun c => ?_, fun c => ?_, hmq⟩ <;> first | (exfalso; omega) | rfl)
              · rw [if_neg h7]
                unfold jsw; by_cases h8 : 5 = a
                · rw [if_pos h8]
                  refine jWp.blk mt 1 ?_
                  show _ ∧ jWp 150 108 [some (jO m), some (jI (r1 : Int)), some (jI a)] [jO m] 0 0 (M1, w.2) _
                  refine ⟨rfl, ?_⟩
                  refine jWp.getJ (pc' := 111) mt rfl rfl (jtg hW.K0) ?_
                  rw [show ((M1, w.2).1 m 6) = left from k6]
                  show jWp 150 111 [some (jO m), some (jI (r1 : Int)), some (jI a)] [jJ left] 0 0 (M1, w.2) _
                  refine jWp.blk mt 1 ?_
                  show jWp 150 112 [some (jO m), some (jI (r1 : Int)), some (jI a)] [jI left] 0 0 (M1, w.2) _
                  refine jWp.ireti mt rfl ⟨rfl, rfl⟩ rfl ?_
                  try rw [show ((r1 : Nat) : Int).toNat = r1 from rfl]
                  refine ⟨fun c0 => ?_, fun c0 c1 => ?_, fun c0 c1 => ?_⟩
                  all_goals first
                  | (exfalso; omega)
                  | exact ⟨rfl, rfl⟩
                  | (refine ⟨M1 (m + 4), len, why, left, hTR, fun c => ?_, fun c => ?_, fun c => ?_, fun c => ?_, fun c => ?_, fun c => ?_, fun c => ?_, hmq⟩ <;> first | (exfalso; omega) | rfl)
                · rw [if_neg h8]
                  unfold jsw
                  refine jWp.blk mt 1 ?_
                  show _ ∧ jWp 150 114 [some (jO m), some (jI (r1 : Int)), some (jI a)] [jO m] 0 0 (M1, w.2) _
                  refine ⟨rfl, ?_⟩
                  refine jWp.callv (as := [jO m]) (rest := []) mt rfl rfl rfl ⟨rfl, jtg hW.K0⟩ ?_
                  refine jCall.mono (E_firstBelow (w := (M1, w.2)) (len := len) hW k4 hTb.1 hTb.2.2) (fun v9 w9 h9 => ?_)
                  obtain ⟨rfl, h9⟩ := h9
                  subst w9
                  show jWp 150 117 [some (jO m), some (jI (r1 : Int)), some (jI a)] [jI (zff (fun k => M1 (m + 4) k < 1) len 0)] 0 0 (M1, w.2) _
                  refine jWp.ireti mt rfl ⟨rfl, rfl⟩ rfl ?_
                  try rw [show ((r1 : Nat) : Int).toNat = r1 from rfl]
                  refine ⟨fun c0 => ?_, fun c0 c1 => ?_, fun c0 c1 => ?_⟩
                  all_goals first
                  | (exfalso; omega)
                  | exact ⟨rfl, rfl⟩
                  | (refine ⟨M1 (m + 4), len, why, left, hTR, fun c => ?_, fun c => ?_, fun c => ?_, fun c => ?_, fun c => ?_, fun c => ?_, fun c => ?_, hmq⟩ <;> first | (exfalso; omega) | rfl)
    · have h2 : ¬ (0 ≤ a ∧ a ≤ 6) := h2
      show jWp 150 23 [some (jO m), some (jI (r1 : Int)), some (jI a)] [jI 0] 0 0 w _
      refine jWp.ifc (b := false) mt rfl (by decide) rfl ?_
      show jWp 150 26 [some (jO m), some (jI (r1 : Int)), some (jI a)] [] 0 0 w _
      refine jWp.blk mt 2 ?_
      show _ ∧ jWp 150 29 [some (jO m), some (jI (r1 : Int)), some (jI a)] [jI (-2), jO m] 0 0 w _
      refine ⟨rfl, ?_⟩
      refine jWp.callv (as := [jO m, jI (-2)]) (rest := []) mt rfl rfl rfl ⟨rfl, jtg hW.K0⟩ ?_
      refine jCall.mono (E_refuses (w := w) (j := 2) hW (by decide) (by decide)) (fun v9 w9 h9 => ?_)
      obtain ⟨rfl, h9⟩ := h9
      subst h9
      show jWp 150 32 [some (jO m), some (jI (r1 : Int)), some (jI a)] [jI (-2)] 0 0 (jW w (m + 3) 2 ((w.1 (m + 3) 2) + 1)) _
      refine jWp.ireti mt rfl ⟨rfl, rfl⟩ rfl ?_
      try rw [show ((r1 : Nat) : Int).toNat = r1 from rfl]
      refine ⟨fun c0 => ?_, fun c0 c1 => ?_, fun c0 c1 => ?_⟩
      all_goals first
      | (exfalso; omega)
      | exact ⟨rfl, rfl⟩
      | (refine ⟨M1 (m + 4), len, why, left, hTR, fun c => ?_, fun c => ?_, fun c => ?_, fun c => ?_, fun c => ?_, fun c => ?_, fun c => ?_, hmq⟩ <;> first | (exfalso; omega) | rfl)
  · have h1 : ¬ (0 ≤ r ∧ r < (c : Int)) := h1
    show jWp 150 5 [some (jO m), some (jI r), some (jI a)] [jI 0] 0 0 w _
    refine jWp.ifc (b := false) mt rfl (by decide) rfl ?_
    show jWp 150 8 [some (jO m), some (jI r), some (jI a)] [] 0 0 w _
    refine jWp.blk mt 2 ?_
    show _ ∧ jWp 150 10 [some (jO m), some (jI r), some (jI a)] [jI (-1), jO m] 0 0 w _
    refine ⟨rfl, ?_⟩
    refine jWp.callv (as := [jO m, jI (-1)]) (rest := []) mt rfl rfl rfl ⟨rfl, jtg hW.K0⟩ ?_
    refine jCall.mono (E_refuses (w := w) (j := 1) hW (by decide) (by decide)) (fun v9 w9 h9 => ?_)
    obtain ⟨rfl, h9⟩ := h9
    subst h9
    show jWp 150 13 [some (jO m), some (jI r), some (jI a)] [jI (-1)] 0 0 (jW w (m + 3) 1 ((w.1 (m + 3) 1) + 1)) _
    refine jWp.ireti mt rfl ⟨rfl, rfl⟩ rfl ?_
    try rw [show ((r1 : Nat) : Int).toNat = r1 from rfl]
    refine ⟨fun c0 => ?_, fun c0 c1 => ?_, fun c0 c1 => ?_⟩
    all_goals first
    | (exfalso; omega)
    | exact ⟨rfl, rfl⟩
    | (refine ⟨M1 (m + 4), len, why, left, hTR, fun c => ?_, fun c => ?_, fun c => ?_, fun c => ?_, fun c => ?_, fun c => ?_, fun c => ?_, hmq⟩ <;> first | (exfalso; omega) | rfl)
set_option maxHeartbeats 4000000 in
set_option maxRecDepth 20000 in
theorem E_term {w : jS} {m : Nat} (hW : MW w.2 m) {c : Nat} (hR : zRw (w.1 (m + 2)) c) {r n : Int} (hrr : r32 r) (hrn : r32 n) : jCall 151 [jO m, jI r, jI n] w (fun v w1 => ((¬ (0 ≤ r ∧ r < (c : Int))) → jno w m 1 (jI (1000000000 - (-1))) v w1) ∧ (¬ (¬ (0 ≤ r ∧ r < (c : Int))) → (n < 0) → jno w m 4 (jI (1000000000 - (-4))) v w1) ∧ (¬ (¬ (0 ≤ r ∧ r < (c : Int))) → ¬ (n < 0) → ∃ (t : Nat → Int) (len : Nat) (why left : Int), zTR (w.1 (m + 2)) r.toNat t len why left ∧ ((n.toNat < len ∧ v = some (jI (t n.toNat)) ∧ mq w m w1) ∨ (¬ n.toNat < len ∧ jnq w m 3 (jI (1000000000 - (-3))) v w1)))) := by
  have mt : jtb 151 = jT151 := rfl
  have hc4 := hR.2.1
  have hrr1 : -2147483648 ≤ r ∧ r < 2147483648 := hrr
  have hrn1 : -2147483648 ≤ n ∧ n < 2147483648 := hrn
  show jWp 151 0 [some (jO m), some (jI r), some (jI n)] [] 0 0 w _
  refine jWp.blk mt 2 ?_
  show _ ∧ jWp 151 2 [some (jO m), some (jI r), some (jI n)] [jI r, jO m] 0 0 w _
  refine ⟨rfl, ?_⟩
  refine jWp.callv (as := [jO m, jI r]) (rest := []) mt rfl rfl rfl ⟨rfl, jtg hW.K0⟩ ?_
  refine jCall.mono (E_isRow hW hR hrr) (fun v9 w9 h9 => ?_)
  rcases h9 with ⟨rfl, h9, h1⟩ | ⟨rfl, h9, h1⟩ <;> subst w9
  · have h1 : 0 ≤ r ∧ r < (c : Int) := h1
    show jWp 151 5 [some (jO m), some (jI r), some (jI n)] [jI 1] 0 0 w _
    obtain ⟨r1, rfl⟩ : ∃ r1 : Nat, r = (r1 : Int) := ⟨r.toNat, by omega⟩
    show jWp 151 5 [some (jO m), some (jI (r1 : Int)), some (jI n)] [jI 1] 0 0 w _
    have hRr := hR.2.2 r1 (by omega)
    have hRo := zO_b hRr.1.1 hRr.1.2
    refine jWp.ifc (b := true) mt rfl (by decide) rfl ?_
    show jWp 151 14 [some (jO m), some (jI (r1 : Int)), some (jI n)] [] 0 0 w _
    refine jWp.blk mt 1 ?_
    show jWp 151 15 [some (jO m), some (jI (r1 : Int)), some (jI n)] [jI n] 0 0 w _
    refine jWp.ifz (pc' := 18) mt rfl rfl (b32_id (by omega) (by omega)) (fun h2 => ?_) (fun h2 => ?_)
    · have h2 : 0 ≤ n := h2
      obtain ⟨n1, rfl⟩ : ∃ n1 : Nat, n = (n1 : Int) := ⟨n.toNat, by omega⟩
      show jWp 151 25 [some (jO m), some (jI (r1 : Int)), some (jI (n1 : Int))] [] 0 0 w _
      refine jWp.blk mt 2 ?_
      show _ ∧ jWp 151 27 [some (jO m), some (jI (r1 : Int)), some (jI (n1 : Int))] [jI (r1 : Int), jO m] 0 0 w _
      refine ⟨rfl, ?_⟩
      refine jWp.callv (as := [jO m, jI (r1 : Int)]) (rest := []) mt rfl rfl rfl ⟨rfl, jtg hW.K0⟩ ?_
      refine jCall.mono (E_terms (w := w) (x := r1) hW (by omega) rfl rfl hRr.1.1 hRr.1.2 hRr.2.1 hRr.2.2) (fun v9 w9 h9 => ?_)
      obtain ⟨rfl, hF, len, why, left, k4, k5, k6, hG, hE⟩ := h9
      obtain ⟨M1, G9⟩ := w9
      have hg : G9 = w.2 := hF.1
      subst hg
      have k4 : M1 m 4 = (len : Int) := k4
      have k5 : M1 m 5 = why := k5
      have k6 : M1 m 6 = left := k6
      have hTR : zTR (w.1 (m + 2)) r1 (M1 (m + 4)) len why left := ⟨hG, hE⟩
      have hTb := zTR_b hR (by omega) hTR
      have hEb := zEn_b hR (by omega) hTR
      have hmq : mq w m (M1, w.2) := ztr_q hF
      have hM2 : M1 (m + 2) = w.1 (m + 2) := hmq.2.1 _ (by omega)
      show jWp 151 30 [some (jO m), some (jI (r1 : Int)), some (jI (n1 : Int))] [] 0 0 (M1, w.2) _
      refine jWp.blk mt 2 ?_
      show _ ∧ jWp 151 32 [some (jO m), some (jI (r1 : Int)), some (jI (n1 : Int))] [jO m, jI (n1 : Int)] 0 0 (M1, w.2) _
      refine ⟨rfl, ?_⟩
      refine jWp.getI (pc' := 35) mt rfl rfl (jtg hW.K0) ?_
      rw [show ((M1, w.2).1 m 4) = (len : Int) from k4]
      show jWp 151 35 [some (jO m), some (jI (r1 : Int)), some (jI (n1 : Int))] [jI (len : Int), jI (n1 : Int)] 0 0 (M1, w.2) _
      refine jWp.icmp (pc' := 38) mt rfl rfl (b32_id (by omega) (by omega)) (b32_id (by omega) (by omega)) (fun h3 => ?_) (fun h3 => ?_)
      · have h3 : (len : Int) ≤ (n1 : Int) := h3
        refine jWp.blk mt 2 ?_
        show _ ∧ jWp 151 51 [some (jO m), some (jI (r1 : Int)), some (jI (n1 : Int))] [jI (-3), jO m] 0 0 (M1, w.2) _
        refine ⟨rfl, ?_⟩
        refine jWp.callv (as := [jO m, jI (-3)]) (rest := []) mt rfl rfl rfl ⟨rfl, jtg hW.K0⟩ ?_
        refine jCall.mono (E_far (w := (M1, w.2)) (j := 3) hW (by decide) (by decide)) (fun v9 w9 h9 => ?_)
        obtain ⟨rfl, h9⟩ := h9
        subst h9
        show jWp 151 54 [some (jO m), some (jI (r1 : Int)), some (jI (n1 : Int))] [jI (1000000000 - (-3))] 0 0 (jW (M1, w.2) (m + 3) 3 (((M1, w.2).1 (m + 3) 3) + 1)) _
        refine jWp.ireti mt rfl ⟨rfl, rfl⟩ rfl ?_
        try rw [show ((r1 : Nat) : Int).toNat = r1 from rfl]
        try rw [show ((n1 : Nat) : Int).toNat = n1 from rfl]
        refine ⟨fun c0 => ?_, fun c0 c1 => ?_, fun c0 c1 => ?_⟩
        all_goals first
        | (exfalso; omega)
        | exact ⟨rfl, rfl⟩
        | exact ⟨M1 (m + 4), len, why, left, hTR, Or.inl ⟨by omega, rfl, hmq⟩⟩
        | exact ⟨M1 (m + 4), len, why, left, hTR, Or.inr ⟨by omega, jnq_2 hmq⟩⟩
      · have h3 : (n1 : Int) < (len : Int) := h3
        refine jWp.blk mt 1 ?_
        show _ ∧ jWp 151 39 [some (jO m), some (jI (r1 : Int)), some (jI (n1 : Int))] [jO m] 0 0 (M1, w.2) _
        refine ⟨rfl, ?_⟩
        refine jWp.getR (pc' := 42) (o := (m + 4)) mt rfl rfl (jtg hW.K0) hW.R3 ?_
        show jWp 151 42 [some (jO m), some (jI (r1 : Int)), some (jI (n1 : Int))] [jO (m + 4)] 0 0 (M1, w.2) _
        refine jWp.blk mt 1 ?_
        show jWp 151 43 [some (jO m), some (jI (r1 : Int)), some (jI (n1 : Int))] [jI (n1 : Int), jO (m + 4)] 0 0 (M1, w.2) _
        refine jWp.lald (pc' := 44) (j := n1) mt rfl rfl (jtg hW.K4) (b32_id (by omega) (by omega)) (jlt hW.K4 (by omega)) ?_
        rw [show ((M1, w.2).1 (m + 4) n1) = (M1 (m + 4) n1) from rfl]
        show jWp 151 44 [some (jO m), some (jI (r1 : Int)), some (jI (n1 : Int))] [jJ (M1 (m + 4) n1)] 0 0 (M1, w.2) _
        refine jWp.blk mt 2 ?_
        show jWp 151 54 [some (jO m), some (jI (r1 : Int)), some (jI (n1 : Int))] [jI (M1 (m + 4) n1)] 0 0 (M1, w.2) _
        refine jWp.ireti mt rfl ⟨rfl, rfl⟩ rfl ?_
        try rw [show ((r1 : Nat) : Int).toNat = r1 from rfl]
        try rw [show ((n1 : Nat) : Int).toNat = n1 from rfl]
        refine ⟨fun c0 => ?_, fun c0 c1 => ?_, fun c0 c1 => ?_⟩
        all_goals first
        | (exfalso; omega)
        | exact ⟨rfl, rfl⟩
        | exact ⟨M1 (m + 4), len, why, left, hTR, Or.inl ⟨by omega, rfl, hmq⟩⟩
        | exact ⟨M1 (m + 4), len, why, left, hTR, Or.inr ⟨by omega, jnq_2 hmq⟩⟩
    · have h2 : n < 0 := h2
      refine jWp.blk mt 2 ?_
      show _ ∧ jWp 151 21 [some (jO m), some (jI (r1 : Int)), some (jI n)] [jI (-4), jO m] 0 0 w _
      refine ⟨rfl, ?_⟩
      refine jWp.callv (as := [jO m, jI (-4)]) (rest := []) mt rfl rfl rfl ⟨rfl, jtg hW.K0⟩ ?_
      refine jCall.mono (E_far (w := w) (j := 4) hW (by decide) (by decide)) (fun v9 w9 h9 => ?_)
      obtain ⟨rfl, h9⟩ := h9
      subst h9
      show jWp 151 24 [some (jO m), some (jI (r1 : Int)), some (jI n)] [jI (1000000000 - (-4))] 0 0 (jW w (m + 3) 4 ((w.1 (m + 3) 4) + 1)) _
      refine jWp.ireti mt rfl ⟨rfl, rfl⟩ rfl ?_
      try rw [show ((r1 : Nat) : Int).toNat = r1 from rfl]
      try rw [show ((n1 : Nat) : Int).toNat = n1 from rfl]
      refine ⟨fun c0 => ?_, fun c0 c1 => ?_, fun c0 c1 => ?_⟩
      all_goals first
      | (exfalso; omega)
      | exact ⟨rfl, rfl⟩
      | exact ⟨M1 (m + 4), len, why, left, hTR, Or.inl ⟨by omega, rfl, hmq⟩⟩
      | exact ⟨M1 (m + 4), len, why, left, hTR, Or.inr ⟨by omega, jnq_2 hmq⟩⟩
  · have h1 : ¬ (0 ≤ r ∧ r < (c : Int)) := h1
    show jWp 151 5 [some (jO m), some (jI r), some (jI n)] [jI 0] 0 0 w _
    refine jWp.ifc (b := false) mt rfl (by decide) rfl ?_
    show jWp 151 8 [some (jO m), some (jI r), some (jI n)] [] 0 0 w _
    refine jWp.blk mt 2 ?_
    show _ ∧ jWp 151 10 [some (jO m), some (jI r), some (jI n)] [jI (-1), jO m] 0 0 w _
    refine ⟨rfl, ?_⟩
    refine jWp.callv (as := [jO m, jI (-1)]) (rest := []) mt rfl rfl rfl ⟨rfl, jtg hW.K0⟩ ?_
    refine jCall.mono (E_far (w := w) (j := 1) hW (by decide) (by decide)) (fun v9 w9 h9 => ?_)
    obtain ⟨rfl, h9⟩ := h9
    subst h9
    show jWp 151 13 [some (jO m), some (jI r), some (jI n)] [jI (1000000000 - (-1))] 0 0 (jW w (m + 3) 1 ((w.1 (m + 3) 1) + 1)) _
    refine jWp.ireti mt rfl ⟨rfl, rfl⟩ rfl ?_
    try rw [show ((r1 : Nat) : Int).toNat = r1 from rfl]
    try rw [show ((n1 : Nat) : Int).toNat = n1 from rfl]
    refine ⟨fun c0 => ?_, fun c0 c1 => ?_, fun c0 c1 => ?_⟩
    all_goals first
    | (exfalso; omega)
    | exact ⟨rfl, rfl⟩
    | exact ⟨M1 (m + 4), len, why, left, hTR, Or.inl ⟨by omega, rfl, hmq⟩⟩
    | exact ⟨M1 (m + 4), len, why, left, hTR, Or.inr ⟨by omega, jnq_2 hmq⟩⟩
set_option maxHeartbeats 4000000 in
set_option maxRecDepth 20000 in
theorem E_areKept {w : jS} {m : Nat} (hW : MW w.2 m) {len n q : Nat} (hl : w.1 m 4 = (len : Int)) (hl60 : len ≤ 60) (hb : ∀ j, j < len → -100000000 ≤ w.1 (m + 4) j ∧ w.1 (m + 4) j ≤ 100000000) (hn : n < 60) (hq : q ≤ 4) : jCall 152 [jO m, jI (n : Int), jI (q : Int)] w (jvb (∀ k, n ≤ k → k < n + q → k < len ∧ 1 ≤ w.1 (m + 4) k ∧ w.1 (m + 4) k ≤ 9999) w) := by
  have mt : jtb 152 = jT152 := rfl
  show jWp 152 0 [some (jO m), some (jI (n : Int)), some (jI (q : Int)), none] [] 0 0 w _
  refine jWp.blk mt 2 ?_
  show jWp 152 2 [some (jO m), some (jI (n : Int)), some (jI (q : Int)), some (jI (n : Int))] [] 0 0 w _
  have lp1 : ∀ (N : Nat) (k : Nat) (hk : n ≤ k ∧ k ≤ n + q) (hA : ∀ x, n ≤ x → x < k → x < len ∧ 1 ≤ w.1 (m + 4) x ∧ w.1 (m + 4) x ≤ 9999), n + q - k < N → jWp 152 2 [some (jO m), some (jI (n : Int)), some (jI (q : Int)), some (jI (k : Int))] [] 0 0 w (jvb (∀ k, n ≤ k → k < n + q → k < len ∧ 1 ≤ w.1 (m + 4) k ∧ w.1 (m + 4) k ≤ 9999) w) := by
    intro N
    induction N with
    | zero => intro k hk hA hm; omega
    | succ N ih2 =>
      intro k hk hA hm
      have hf : k < len → _ := fun h => hb k h
      refine jWp.blk mt 4 ?_
      show jWp 152 6 [some (jO m), some (jI (n : Int)), some (jI (q : Int)), some (jI (k : Int))] [jI ((n : Int) + (q : Int)), jI (k : Int)] 0 0 w _
      refine jWp.icmp (pc' := 9) mt rfl rfl (b32_id (by omega) (by omega)) (b32_id (by omega) (by omega)) (fun h3 => ?_) (fun h3 => ?_)
      · have h3 : ((n : Int) + (q : Int)) ≤ (k : Int) := h3
        refine jWp.blk mt 1 ?_
        show jWp 152 42 [some (jO m), some (jI (n : Int)), some (jI (q : Int)), some (jI (k : Int))] [jI 1] 0 0 w _
        refine jWp.iretz mt rfl ⟨rfl, rfl⟩ rfl (Or.inr rfl) ?_
        exact Or.inl ⟨rfl, rfl, fun x h1 h2 => hA x h1 (by omega)⟩
      · have h3 : (k : Int) < ((n : Int) + (q : Int)) := h3
        refine jWp.blk mt 2 ?_
        show _ ∧ jWp 152 11 [some (jO m), some (jI (n : Int)), some (jI (q : Int)), some (jI (k : Int))] [jO m, jI (k : Int)] 0 0 w _
        refine ⟨rfl, ?_⟩
        refine jWp.getI (pc' := 14) mt rfl rfl (jtg hW.K0) ?_
        rw [show (w.1 m 4) = (len : Int) from hl]
        show jWp 152 14 [some (jO m), some (jI (n : Int)), some (jI (q : Int)), some (jI (k : Int))] [jI (len : Int), jI (k : Int)] 0 0 w _
        refine jWp.icmp (pc' := 17) mt rfl rfl (b32_id (by omega) (by omega)) (b32_id (by omega) (by omega)) (fun h4 => ?_) (fun h4 => ?_)
        · have h4 : (len : Int) ≤ (k : Int) := h4
          refine jWp.blk mt 1 ?_
          show jWp 152 34 [some (jO m), some (jI (n : Int)), some (jI (q : Int)), some (jI (k : Int))] [jI 0] 0 0 w _
          refine jWp.iretz mt rfl ⟨rfl, rfl⟩ rfl (Or.inl rfl) ?_
          exact Or.inr ⟨rfl, rfl, fun g => by have g := g k (by omega) (by omega); omega⟩
        · have h4 : (k : Int) < (len : Int) := h4
          refine jWp.blk mt 1 ?_
          show _ ∧ jWp 152 18 [some (jO m), some (jI (n : Int)), some (jI (q : Int)), some (jI (k : Int))] [jO m] 0 0 w _
          refine ⟨rfl, ?_⟩
          refine jWp.getR (pc' := 21) (o := (m + 4)) mt rfl rfl (jtg hW.K0) hW.R3 ?_
          show jWp 152 21 [some (jO m), some (jI (n : Int)), some (jI (q : Int)), some (jI (k : Int))] [jO (m + 4)] 0 0 w _
          refine jWp.blk mt 1 ?_
          show jWp 152 22 [some (jO m), some (jI (n : Int)), some (jI (q : Int)), some (jI (k : Int))] [jI (k : Int), jO (m + 4)] 0 0 w _
          refine jWp.lald (pc' := 23) (j := k) mt rfl rfl (jtg hW.K4) (b32_id (by omega) (by omega)) (jlt hW.K4 (by omega)) ?_
          show jWp 152 23 [some (jO m), some (jI (n : Int)), some (jI (q : Int)), some (jI (k : Int))] [jJ (w.1 (m + 4) k)] 0 0 w _
          refine jWp.blk mt 2 ?_
          show jWp 152 27 [some (jO m), some (jI (n : Int)), some (jI (q : Int)), some (jI (k : Int))] [jJ 9999, jJ 1, jJ (w.1 (m + 4) k)] 0 0 w _
          refine jWp.calls (as := [jJ (w.1 (m + 4) k), jJ 1, jJ 9999]) (rest := []) mt rfl rfl rfl rfl ?_
          refine jCall.mono (E_in (b64_id (by omega) (by omega)) (show b64 1 = 1 by decide) (show b64 9999 = 9999 by decide)) (fun v9 w9 h9 => ?_)
          rcases h9 with ⟨rfl, h9, h5⟩ | ⟨rfl, h9, h5⟩ <;> subst w9
          · have h5 : 1 ≤ (w.1 (m + 4) k) ∧ (w.1 (m + 4) k) ≤ 9999 := h5
            show jWp 152 30 [some (jO m), some (jI (n : Int)), some (jI (q : Int)), some (jI (k : Int))] [jI 1] 0 0 w _
            refine jWp.ifc (b := true) mt rfl (by decide) rfl ?_
            show jWp 152 35 [some (jO m), some (jI (n : Int)), some (jI (q : Int)), some (jI (k : Int))] [] 0 0 w _
            refine jWp.blk mt 2 ?_
            show jWp 152 2 [some (jO m), some (jI (n : Int)), some (jI (q : Int)), some (jI ((k : Int) + 1))] [] 0 0 w _
            refine jWp.le (l := [some (jO m), some (jI (n : Int)), some (jI (q : Int)), some (jI ((k : Int) + 1))]) (by exact ⟨rfl, rfl, rfl, rfl, trivial⟩) ?_
            exact ih2 (k + 1) (by omega) (fun x h1 h2 => by rcases Nat.lt_or_ge x k with e | e; exact hA x h1 e; rw [show x = k by omega]; exact ⟨by omega, by omega, by omega⟩) (by omega)
          · have h5 : ¬ (1 ≤ (w.1 (m + 4) k) ∧ (w.1 (m + 4) k) ≤ 9999) := h5
            show jWp 152 30 [some (jO m), some (jI (n : Int)), some (jI (q : Int)), some (jI (k : Int))] [jI 0] 0 0 w _
            refine jWp.ifc (b := false) mt rfl (by decide) rfl ?_
            show jWp 152 33 [some (jO m), some (jI (n : Int)), some (jI (q : Int)), some (jI (k : Int))] [] 0 0 w _
            refine jWp.blk mt 1 ?_
            show jWp 152 34 [some (jO m), some (jI (n : Int)), some (jI (q : Int)), some (jI (k : Int))] [jI 0] 0 0 w _
            refine jWp.iretz mt rfl ⟨rfl, rfl⟩ rfl (Or.inl rfl) ?_
            exact Or.inr ⟨rfl, rfl, fun g => by have g := g k (by omega) (by omega); omega⟩
  refine jWp.le (l := [some (jO m), some (jI (n : Int)), some (jI (q : Int)), some (jI (n : Int))]) (by exact ⟨rfl, rfl, rfl, rfl, trivial⟩) ?_
  exact lp1 _ n (by omega) (fun x h1 h2 => absurd h1 (by omega)) (Nat.lt_succ_self _)
