set_option maxHeartbeats 4000000 in
set_option maxRecDepth 20000 in
theorem E_letter {w : jS} {m : Nat} (hW : MW w.2 m) {f : Nat} (hf : w.1 m 24 = (f : Int)) (hf8 : f ≤ 72) {c : Int} (hrc : r32 c) : jCall 197 [jO m, jI c] w (fun v w1 => ((c < 0) → jno w m 4 (jI (-4)) v w1) ∧ (¬ (c < 0) → (255 < c ∨ f = 72) → jno w m 6 (jI (-6)) v w1) ∧ (¬ (c < 0) → ¬ (255 < c ∨ f = 72) → v = some (jI ((f : Int) + 1)) ∧ w1 = jW (jW w (m + 421) f c) m 24 ((f : Int) + 1))) := by
  have mt : jtb 197 = jT197 := rfl
  have hrc1 : -2147483648 ≤ c ∧ c < 2147483648 := hrc
  show jWp 197 0 [some (jO m), some (jI c)] [] 0 0 w _
  refine jWp.blk mt 1 ?_
  show jWp 197 1 [some (jO m), some (jI c)] [jI c] 0 0 w _
  refine jWp.ifz (pc' := 4) mt rfl rfl (b32_id (by omega) (by omega)) (fun h1 => ?_) (fun h1 => ?_)
  · have h1 : 0 ≤ c := h1
    refine jWp.blk mt 2 ?_
    show jWp 197 15 [some (jO m), some (jI c)] [jI 255, jI c] 0 0 w _
    refine jWp.icmp (pc' := 18) mt rfl rfl (b32_id (by omega) (by omega)) (show b32 255 = 255 by decide) (fun h2 => ?_) (fun h2 => ?_)
    · have h2 : 255 < c := h2
      refine jWp.blk mt 2 ?_
      show _ ∧ jWp 197 30 [some (jO m), some (jI c)] [jI (-6), jO m] 0 0 w _
      refine ⟨rfl, ?_⟩
      refine jWp.callv (as := [jO m, jI (-6)]) (rest := []) mt rfl rfl rfl ⟨rfl, jtg hW.K0⟩ ?_
      refine jCall.mono (E_refuses (w := w) (j := 6) hW (by decide) (by decide)) (fun v9 w9 h9 => ?_)
      obtain ⟨rfl, h9⟩ := h9
      subst h9
      show jWp 197 33 [some (jO m), some (jI c)] [jI (-6)] 0 0 (jW w (m + 3) 6 ((w.1 (m + 3) 6) + 1)) _
      refine jWp.ireti mt rfl ⟨rfl, rfl⟩ rfl ?_
      refine ⟨fun c0 => ?_, fun c0 c1 => ?_, fun c0 c1 => ?_⟩
      all_goals first
      | (exfalso; omega)
      | exact ⟨rfl, rfl⟩
    · have h2 : c ≤ 255 := h2
      refine jWp.blk mt 1 ?_
      show _ ∧ jWp 197 19 [some (jO m), some (jI c)] [jO m] 0 0 w _
      refine ⟨rfl, ?_⟩
      refine jWp.getI (pc' := 22) mt rfl rfl (jtg hW.K0) ?_
      rw [show (w.1 m 24) = (f : Int) from hf]
      show jWp 197 22 [some (jO m), some (jI c)] [jI (f : Int)] 0 0 w _
      refine jWp.blk mt 1 ?_
      show jWp 197 24 [some (jO m), some (jI c)] [jI 72, jI (f : Int)] 0 0 w _
      refine jWp.icmp (pc' := 27) mt rfl rfl (b32_id (by omega) (by omega)) (show b32 72 = 72 by decide) (fun h3 => ?_) (fun h3 => ?_)
      · have h3 : (f : Int) ≠ 72 := h3
        refine jWp.blk mt 1 ?_
        show _ ∧ jWp 197 35 [some (jO m), some (jI c)] [jO m] 0 0 w _
        refine ⟨rfl, ?_⟩
        refine jWp.getR (pc' := 38) (o := (m + 421)) mt rfl rfl (jtg hW.K0) hW.R23 ?_
        show jWp 197 38 [some (jO m), some (jI c)] [jO (m + 421)] 0 0 w _
        refine jWp.blk mt 1 ?_
        show _ ∧ jWp 197 39 [some (jO m), some (jI c)] [jO m, jO (m + 421)] 0 0 w _
        refine ⟨rfl, ?_⟩
        refine jWp.getI (pc' := 42) mt rfl rfl (jtg hW.K0) ?_
        rw [show (w.1 m 24) = (f : Int) from hf]
        show jWp 197 42 [some (jO m), some (jI c)] [jI (f : Int), jO (m + 421)] 0 0 w _
        refine jWp.blk mt 1 ?_
        show jWp 197 43 [some (jO m), some (jI c)] [jI c, jI (f : Int), jO (m + 421)] 0 0 w _
        refine jWp.iast (pc' := 44) (j := f) mt rfl rfl (jtg hW.K421) (b32_id (by omega) (by omega)) (jlt hW.K421 (by omega)) ?_
        show jWp 197 44 [some (jO m), some (jI c)] [] 0 0 (jW w (m + 421) f c) _
        refine jWp.blk mt 2 ?_
        show _ ∧ _ ∧ jWp 197 46 [some (jO m), some (jI c)] [jO m, jO m] 0 0 (jW w (m + 421) f c) _
        refine ⟨rfl, rfl, ?_⟩
        refine jWp.getI (pc' := 49) mt rfl rfl (jtg hW.K0) ?_
        rw [show ((jW w (m + 421) f c).1 m 24) = (f : Int) from (((jW_a (by omega)).trans rfl).trans hf)]
        show jWp 197 49 [some (jO m), some (jI c)] [jI (f : Int), jO m] 0 0 (jW w (m + 421) f c) _
        refine jWp.blk mt 2 ?_
        show jWp 197 51 [some (jO m), some (jI c)] [jI ((f : Int) + 1), jO m] 0 0 (jW w (m + 421) f c) _
        refine jWp.putI (pc' := 54) mt rfl rfl (jtg hW.K0) ?_
        show jWp 197 54 [some (jO m), some (jI c)] [] 0 0 (jW (jW w (m + 421) f c) m 24 ((f : Int) + 1)) _
        refine jWp.blk mt 1 ?_
        show _ ∧ jWp 197 55 [some (jO m), some (jI c)] [jO m] 0 0 (jW (jW w (m + 421) f c) m 24 ((f : Int) + 1)) _
        refine ⟨rfl, ?_⟩
        refine jWp.getI (pc' := 58) mt rfl rfl (jtg hW.K0) ?_
        rw [show ((jW (jW w (m + 421) f c) m 24 ((f : Int) + 1)).1 m 24) = ((f : Int) + 1) from jW_s]
        show jWp 197 58 [some (jO m), some (jI c)] [jI ((f : Int) + 1)] 0 0 (jW (jW w (m + 421) f c) m 24 ((f : Int) + 1)) _
        refine jWp.ireti mt rfl ⟨rfl, rfl⟩ rfl ?_
        refine ⟨fun c0 => ?_, fun c0 c1 => ?_, fun c0 c1 => ?_⟩
        all_goals first
        | (exfalso; omega)
        | exact ⟨rfl, rfl⟩
      · have h3 : (f : Int) = 72 := h3
        refine jWp.blk mt 2 ?_
        show _ ∧ jWp 197 30 [some (jO m), some (jI c)] [jI (-6), jO m] 0 0 w _
        refine ⟨rfl, ?_⟩
        refine jWp.callv (as := [jO m, jI (-6)]) (rest := []) mt rfl rfl rfl ⟨rfl, jtg hW.K0⟩ ?_
        refine jCall.mono (E_refuses (w := w) (j := 6) hW (by decide) (by decide)) (fun v9 w9 h9 => ?_)
        obtain ⟨rfl, h9⟩ := h9
        subst h9
        show jWp 197 33 [some (jO m), some (jI c)] [jI (-6)] 0 0 (jW w (m + 3) 6 ((w.1 (m + 3) 6) + 1)) _
        refine jWp.ireti mt rfl ⟨rfl, rfl⟩ rfl ?_
        refine ⟨fun c0 => ?_, fun c0 c1 => ?_, fun c0 c1 => ?_⟩
        all_goals first
        | (exfalso; omega)
        | exact ⟨rfl, rfl⟩
  · have h1 : c < 0 := h1
    refine jWp.blk mt 2 ?_
    show _ ∧ jWp 197 7 [some (jO m), some (jI c)] [jI (-4), jO m] 0 0 w _
    refine ⟨rfl, ?_⟩
    refine jWp.callv (as := [jO m, jI (-4)]) (rest := []) mt rfl rfl rfl ⟨rfl, jtg hW.K0⟩ ?_
    refine jCall.mono (E_refuses (w := w) (j := 4) hW (by decide) (by decide)) (fun v9 w9 h9 => ?_)
    obtain ⟨rfl, h9⟩ := h9
    subst h9
    show jWp 197 10 [some (jO m), some (jI c)] [jI (-4)] 0 0 (jW w (m + 3) 4 ((w.1 (m + 3) 4) + 1)) _
    refine jWp.ireti mt rfl ⟨rfl, rfl⟩ rfl ?_
    refine ⟨fun c0 => ?_, fun c0 c1 => ?_, fun c0 c1 => ?_⟩
    all_goals first
    | (exfalso; omega)
    | exact ⟨rfl, rfl⟩
set_option maxHeartbeats 4000000 in
set_option maxRecDepth 20000 in
theorem E_isList {w : jS} {l : Int} (hrl : r32 l) : jCall 207 [jI l] w (jvb (0 ≤ l ∧ l ≤ 2) w) := by
  have mt : jtb 207 = jT207 := rfl
  have hrl1 : -2147483648 ≤ l ∧ l < 2147483648 := hrl
  show jWp 207 0 [some (jI l)] [] 0 0 w _
  refine jWp.blk mt 1 ?_
  show jWp 207 1 [some (jI l)] [jI l] 0 0 w _
  refine jWp.i2l (pc' := 2) mt rfl rfl (b32_id (by omega) (by omega)) ?_
  show jWp 207 2 [some (jI l)] [jJ l] 0 0 w _
  refine jWp.blk mt 2 ?_
  show jWp 207 6 [some (jI l)] [jJ 2, jJ 0, jJ l] 0 0 w _
  refine jWp.calls (as := [jJ l, jJ 0, jJ 2]) (rest := []) mt rfl rfl rfl rfl ?_
  refine jCall.mono (E_in (b64_id (by omega) (by omega)) (show b64 0 = 0 by decide) (show b64 2 = 2 by decide)) (fun v9 w9 h9 => ?_)
  rcases h9 with ⟨rfl, h9, h1⟩ | ⟨rfl, h9, h1⟩ <;> subst w9
  · have h1 : 0 ≤ l ∧ l ≤ 2 := h1
    show jWp 207 9 [some (jI l)] [jI 1] 0 0 w _
    refine jWp.iretz mt rfl ⟨rfl, rfl⟩ rfl (Or.inr rfl) ?_
    exact Or.inl ⟨rfl, rfl, by omega⟩
  · have h1 : ¬ (0 ≤ l ∧ l ≤ 2) := h1
    show jWp 207 9 [some (jI l)] [jI 0] 0 0 w _
    refine jWp.iretz mt rfl ⟨rfl, rfl⟩ rfl (Or.inl rfl) ?_
    exact Or.inr ⟨rfl, rfl, by omega⟩
set_option maxHeartbeats 4000000 in
set_option maxRecDepth 20000 in
theorem E_put {w : jS} {m : Nat} (hW : MW w.2 m) (hz : ∀ x, x < 3 → -1 ≤ w.1 (m + 423) x ∧ w.1 (m + 423) x ≤ 40) {l i v : Int} (hrl : r32 l) (hri : r32 i) (hrv : r32 v) : jCall 214 [jO m, jI l, jI i, jI v] w (fun x w1 => ((¬ (0 ≤ l ∧ l ≤ 2)) → jno w m 1 (jI (-1)) x w1) ∧ (¬ (¬ (0 ≤ l ∧ l ≤ 2)) → ((w.1 (m + 423) l.toNat) < 0) → x = some (jI (-11)) ∧ w1 = w) ∧ (¬ (¬ (0 ≤ l ∧ l ≤ 2)) → ¬ ((w.1 (m + 423) l.toNat) < 0) → (¬ (0 ≤ i ∧ i < (w.1 (m + 423) l.toNat))) → x = some (jI (-13)) ∧ w1 = w) ∧ (¬ (¬ (0 ≤ l ∧ l ≤ 2)) → ¬ ((w.1 (m + 423) l.toNat) < 0) → ¬ (¬ (0 ≤ i ∧ i < (w.1 (m + 423) l.toNat))) → x = some (jI 1) ∧ w1 = jW w (m + (425 + l.toNat)) i.toNat v)) := by
  have mt : jtb 214 = jT214 := rfl
  have hrl1 : -2147483648 ≤ l ∧ l < 2147483648 := hrl
  have hri1 : -2147483648 ≤ i ∧ i < 2147483648 := hri
  have hrv1 : -2147483648 ≤ v ∧ v < 2147483648 := hrv
  show jWp 214 0 [some (jO m), some (jI l), some (jI i), some (jI v)] [] 0 0 w _
  refine jWp.blk mt 1 ?_
  show jWp 214 1 [some (jO m), some (jI l), some (jI i), some (jI v)] [jI l] 0 0 w _
  refine jWp.calls (as := [jI l]) (rest := []) mt rfl rfl rfl rfl ?_
  refine jCall.mono (E_isList hrl) (fun v9 w9 h9 => ?_)
  rcases h9 with ⟨rfl, h9, h1⟩ | ⟨rfl, h9, h1⟩ <;> subst w9
  · have h1 : 0 ≤ l ∧ l ≤ 2 := h1
    show jWp 214 4 [some (jO m), some (jI l), some (jI i), some (jI v)] [jI 1] 0 0 w _
    obtain ⟨l1, rfl⟩ : ∃ l1 : Nat, l = (l1 : Int) := ⟨l.toNat, by omega⟩
    show jWp 214 4 [some (jO m), some (jI (l1 : Int)), some (jI i), some (jI v)] [jI 1] 0 0 w _
    have hz2 : -1 ≤ w.1 (m + 423) l1 ∧ w.1 (m + 423) l1 ≤ 40 := hz l1 (by omega)
    refine jWp.ifc (b := true) mt rfl (by decide) rfl ?_
    show jWp 214 13 [some (jO m), some (jI (l1 : Int)), some (jI i), some (jI v)] [] 0 0 w _
    refine jWp.blk mt 1 ?_
    show _ ∧ jWp 214 14 [some (jO m), some (jI (l1 : Int)), some (jI i), some (jI v)] [jO m] 0 0 w _
    refine ⟨rfl, ?_⟩
    refine jWp.getR (pc' := 17) (o := (m + 423)) mt rfl rfl (jtg hW.K0) hW.R27 ?_
    show jWp 214 17 [some (jO m), some (jI (l1 : Int)), some (jI i), some (jI v)] [jO (m + 423)] 0 0 w _
    refine jWp.blk mt 1 ?_
    show jWp 214 18 [some (jO m), some (jI (l1 : Int)), some (jI i), some (jI v)] [jI (l1 : Int), jO (m + 423)] 0 0 w _
    refine jWp.iald (pc' := 19) (j := l1) mt rfl rfl (jird_of hW.K423) (b32_id (by omega) (by omega)) (jlt hW.K423 (by omega)) ?_
    show jWp 214 19 [some (jO m), some (jI (l1 : Int)), some (jI i), some (jI v)] [jI (w.1 (m + 423) l1)] 0 0 w _
    refine jWp.ifz (pc' := 22) mt rfl rfl (b32_id (by omega) (by omega)) (fun h2 => ?_) (fun h2 => ?_)
    · have h2 : 0 ≤ (w.1 (m + 423) l1) := h2
      refine jWp.blk mt 1 ?_
      show jWp 214 26 [some (jO m), some (jI (l1 : Int)), some (jI i), some (jI v)] [jI i] 0 0 w _
      refine jWp.i2l (pc' := 27) mt rfl rfl (b32_id (by omega) (by omega)) ?_
      show jWp 214 27 [some (jO m), some (jI (l1 : Int)), some (jI i), some (jI v)] [jJ i] 0 0 w _
      refine jWp.blk mt 2 ?_
      show _ ∧ jWp 214 29 [some (jO m), some (jI (l1 : Int)), some (jI i), some (jI v)] [jO m, jJ 0, jJ i] 0 0 w _
      refine ⟨rfl, ?_⟩
      refine jWp.getR (pc' := 32) (o := (m + 423)) mt rfl rfl (jtg hW.K0) hW.R27 ?_
      show jWp 214 32 [some (jO m), some (jI (l1 : Int)), some (jI i), some (jI v)] [jO (m + 423), jJ 0, jJ i] 0 0 w _
      refine jWp.blk mt 1 ?_
      show jWp 214 33 [some (jO m), some (jI (l1 : Int)), some (jI i), some (jI v)] [jI (l1 : Int), jO (m + 423), jJ 0, jJ i] 0 0 w _
      refine jWp.iald (pc' := 34) (j := l1) mt rfl rfl (jird_of hW.K423) (b32_id (by omega) (by omega)) (jlt hW.K423 (by omega)) ?_
      show jWp 214 34 [some (jO m), some (jI (l1 : Int)), some (jI i), some (jI v)] [jI (w.1 (m + 423) l1), jJ 0, jJ i] 0 0 w _
      refine jWp.blk mt 2 ?_
      show jWp 214 36 [some (jO m), some (jI (l1 : Int)), some (jI i), some (jI v)] [jI ((w.1 (m + 423) l1) - 1), jJ 0, jJ i] 0 0 w _
      refine jWp.i2l (pc' := 37) mt rfl rfl (b32_id (by omega) (by omega)) ?_
      show jWp 214 37 [some (jO m), some (jI (l1 : Int)), some (jI i), some (jI v)] [jJ ((w.1 (m + 423) l1) - 1), jJ 0, jJ i] 0 0 w _
      refine jWp.calls (as := [jJ i, jJ 0, jJ ((w.1 (m + 423) l1) - 1)]) (rest := []) mt rfl rfl rfl rfl ?_
      refine jCall.mono (E_in (b64_id (by omega) (by omega)) (show b64 0 = 0 by decide) (b64_id (by omega) (by omega))) (fun v9 w9 h9 => ?_)
      rcases h9 with ⟨rfl, h9, h3⟩ | ⟨rfl, h9, h3⟩ <;> subst w9
      · have h3 : 0 ≤ i ∧ i ≤ ((w.1 (m + 423) l1) - 1) := h3
        show jWp 214 40 [some (jO m), some (jI (l1 : Int)), some (jI i), some (jI v)] [jI 1] 0 0 w _
        refine jWp.ifc (b := true) mt rfl (by decide) rfl ?_
        show jWp 214 46 [some (jO m), some (jI (l1 : Int)), some (jI i), some (jI v)] [] 0 0 w _
        obtain ⟨i1, rfl⟩ : ∃ i1 : Nat, i = (i1 : Int) := ⟨i.toNat, by omega⟩
        show jWp 214 46 [some (jO m), some (jI (l1 : Int)), some (jI (i1 : Int)), some (jI v)] [] 0 0 w _
        refine jWp.blk mt 1 ?_
        show _ ∧ jWp 214 47 [some (jO m), some (jI (l1 : Int)), some (jI (i1 : Int)), some (jI v)] [jO m] 0 0 w _
        refine ⟨rfl, ?_⟩
        refine jWp.getR (pc' := 50) (o := (m + 424)) mt rfl rfl (jtg hW.K0) hW.R28 ?_
        show jWp 214 50 [some (jO m), some (jI (l1 : Int)), some (jI (i1 : Int)), some (jI v)] [jO (m + 424)] 0 0 w _
        refine jWp.blk mt 1 ?_
        show jWp 214 51 [some (jO m), some (jI (l1 : Int)), some (jI (i1 : Int)), some (jI v)] [jI (l1 : Int), jO (m + 424)] 0 0 w _
        refine jWp.aald (pc' := 52) (j := l1) (o := (m + (425 + l1))) mt rfl rfl (jrg hW.K424 (by decide) (by decide)) (b32_id (by omega) (by omega)) (jlt hW.K424 (by omega)) (hW.RI l1 (by omega)) ?_
        show jWp 214 52 [some (jO m), some (jI (l1 : Int)), some (jI (i1 : Int)), some (jI v)] [jO (m + (425 + l1))] 0 0 w _
        refine jWp.blk mt 2 ?_
        show jWp 214 54 [some (jO m), some (jI (l1 : Int)), some (jI (i1 : Int)), some (jI v)] [jI v, jI (i1 : Int), jO (m + (425 + l1))] 0 0 w _
        refine jWp.i2l (pc' := 55) mt rfl rfl (b32_id (by omega) (by omega)) ?_
        show jWp 214 55 [some (jO m), some (jI (l1 : Int)), some (jI (i1 : Int)), some (jI v)] [jJ v, jI (i1 : Int), jO (m + (425 + l1))] 0 0 w _
        refine jWp.last (pc' := 56) (j := i1) mt rfl rfl (jtg (hW.KI _ (by omega))) (b32_id (by omega) (by omega)) (jlt (hW.KI _ (by omega)) (by omega)) ?_
        show jWp 214 56 [some (jO m), some (jI (l1 : Int)), some (jI (i1 : Int)), some (jI v)] [] 0 0 (jW w (m + (425 + l1)) i1 v) _
        refine jWp.blk mt 1 ?_
        show jWp 214 57 [some (jO m), some (jI (l1 : Int)), some (jI (i1 : Int)), some (jI v)] [jI 1] 0 0 (jW w (m + (425 + l1)) i1 v) _
        refine jWp.ireti mt rfl ⟨rfl, rfl⟩ rfl ?_
        try rw [show ((l1 : Nat) : Int).toNat = l1 from rfl]
        refine ⟨fun c0 => ?_, fun c0 c1 => ?_, fun c0 c1 c2 => ?_, fun c0 c1 c2 => ?_⟩
        all_goals first
        | (exfalso; omega)
        | exact ⟨rfl, rfl⟩
      · have h3 : ¬ (0 ≤ i ∧ i ≤ ((w.1 (m + 423) l1) - 1)) := h3
        show jWp 214 40 [some (jO m), some (jI (l1 : Int)), some (jI i), some (jI v)] [jI 0] 0 0 w _
        refine jWp.ifc (b := false) mt rfl (by decide) rfl ?_
        show jWp 214 43 [some (jO m), some (jI (l1 : Int)), some (jI i), some (jI v)] [] 0 0 w _
        refine jWp.blk mt 1 ?_
        show jWp 214 45 [some (jO m), some (jI (l1 : Int)), some (jI i), some (jI v)] [jI (-13)] 0 0 w _
        refine jWp.ireti mt rfl ⟨rfl, rfl⟩ rfl ?_
        try rw [show ((l1 : Nat) : Int).toNat = l1 from rfl]
        refine ⟨fun c0 => ?_, fun c0 c1 => ?_, fun c0 c1 c2 => ?_, fun c0 c1 c2 => ?_⟩
        all_goals first
        | (exfalso; omega)
        | exact ⟨rfl, rfl⟩
    · have h2 : (w.1 (m + 423) l1) < 0 := h2
      refine jWp.blk mt 1 ?_
      show jWp 214 24 [some (jO m), some (jI (l1 : Int)), some (jI i), some (jI v)] [jI (-11)] 0 0 w _
      refine jWp.ireti mt rfl ⟨rfl, rfl⟩ rfl ?_
      try rw [show ((l1 : Nat) : Int).toNat = l1 from rfl]
      refine ⟨fun c0 => ?_, fun c0 c1 => ?_, fun c0 c1 c2 => ?_, fun c0 c1 c2 => ?_⟩
      all_goals first
      | (exfalso; omega)
      | exact ⟨rfl, rfl⟩
  · have h1 : ¬ (0 ≤ l ∧ l ≤ 2) := h1
    show jWp 214 4 [some (jO m), some (jI l), some (jI i), some (jI v)] [jI 0] 0 0 w _
    refine jWp.ifc (b := false) mt rfl (by decide) rfl ?_
    show jWp 214 7 [some (jO m), some (jI l), some (jI i), some (jI v)] [] 0 0 w _
    refine jWp.blk mt 2 ?_
    show _ ∧ jWp 214 9 [some (jO m), some (jI l), some (jI i), some (jI v)] [jI (-1), jO m] 0 0 w _
    refine ⟨rfl, ?_⟩
    refine jWp.callv (as := [jO m, jI (-1)]) (rest := []) mt rfl rfl rfl ⟨rfl, jtg hW.K0⟩ ?_
    refine jCall.mono (E_refuses (w := w) (j := 1) hW (by decide) (by decide)) (fun v9 w9 h9 => ?_)
    obtain ⟨rfl, h9⟩ := h9
    subst h9
    show jWp 214 12 [some (jO m), some (jI l), some (jI i), some (jI v)] [jI (-1)] 0 0 (jW w (m + 3) 1 ((w.1 (m + 3) 1) + 1)) _
    refine jWp.ireti mt rfl ⟨rfl, rfl⟩ rfl ?_
    try rw [show ((l1 : Nat) : Int).toNat = l1 from rfl]
    refine ⟨fun c0 => ?_, fun c0 c1 => ?_, fun c0 c1 c2 => ?_, fun c0 c1 c2 => ?_⟩
    all_goals first
    | (exfalso; omega)
    | exact ⟨rfl, rfl⟩
set_option maxHeartbeats 4000000 in
set_option maxRecDepth 20000 in
theorem E_look {w : jS} {m : Nat} (hW : MW w.2 m) (hz : ∀ x, x < 3 → -1 ≤ w.1 (m + 423) x ∧ w.1 (m + 423) x ≤ 40) {l i : Int} (hrl : r32 l) (hri : r32 i) : jCall 215 [jO m, jI l, jI i] w (fun x w1 => ((¬ (0 ≤ l ∧ l ≤ 2)) → jno w m 1 (jJ (4000000000000000000 - (-1))) x w1) ∧ (¬ (¬ (0 ≤ l ∧ l ≤ 2)) → ((w.1 (m + 423) l.toNat) < 0) → x = some (jJ 4000000000000000011) ∧ w1 = w) ∧ (¬ (¬ (0 ≤ l ∧ l ≤ 2)) → ¬ ((w.1 (m + 423) l.toNat) < 0) → (¬ (0 ≤ i ∧ i < (w.1 (m + 423) l.toNat))) → x = some (jJ 4000000000000000013) ∧ w1 = w) ∧ (¬ (¬ (0 ≤ l ∧ l ≤ 2)) → ¬ ((w.1 (m + 423) l.toNat) < 0) → ¬ (¬ (0 ≤ i ∧ i < (w.1 (m + 423) l.toNat))) → x = some (jJ (w.1 (m + (425 + l.toNat)) i.toNat)) ∧ w1 = w)) := by
  have mt : jtb 215 = jT215 := rfl
  have hrl1 : -2147483648 ≤ l ∧ l < 2147483648 := hrl
  have hri1 : -2147483648 ≤ i ∧ i < 2147483648 := hri
  show jWp 215 0 [some (jO m), some (jI l), some (jI i)] [] 0 0 w _
  refine jWp.blk mt 1 ?_
  show jWp 215 1 [some (jO m), some (jI l), some (jI i)] [jI l] 0 0 w _
  refine jWp.calls (as := [jI l]) (rest := []) mt rfl rfl rfl rfl ?_
  refine jCall.mono (E_isList hrl) (fun v9 w9 h9 => ?_)
  rcases h9 with ⟨rfl, h9, h1⟩ | ⟨rfl, h9, h1⟩ <;> subst w9
  · have h1 : 0 ≤ l ∧ l ≤ 2 := h1
    show jWp 215 4 [some (jO m), some (jI l), some (jI i)] [jI 1] 0 0 w _
    obtain ⟨l1, rfl⟩ : ∃ l1 : Nat, l = (l1 : Int) := ⟨l.toNat, by omega⟩
    show jWp 215 4 [some (jO m), some (jI (l1 : Int)), some (jI i)] [jI 1] 0 0 w _
    have hz2 : -1 ≤ w.1 (m + 423) l1 ∧ w.1 (m + 423) l1 ≤ 40 := hz l1 (by omega)
    refine jWp.ifc (b := true) mt rfl (by decide) rfl ?_
    show jWp 215 13 [some (jO m), some (jI (l1 : Int)), some (jI i)] [] 0 0 w _
    refine jWp.blk mt 1 ?_
    show _ ∧ jWp 215 14 [some (jO m), some (jI (l1 : Int)), some (jI i)] [jO m] 0 0 w _
    refine ⟨rfl, ?_⟩
    refine jWp.getR (pc' := 17) (o := (m + 423)) mt rfl rfl (jtg hW.K0) hW.R27 ?_
    show jWp 215 17 [some (jO m), some (jI (l1 : Int)), some (jI i)] [jO (m + 423)] 0 0 w _
    refine jWp.blk mt 1 ?_
    show jWp 215 18 [some (jO m), some (jI (l1 : Int)), some (jI i)] [jI (l1 : Int), jO (m + 423)] 0 0 w _
    refine jWp.iald (pc' := 19) (j := l1) mt rfl rfl (jird_of hW.K423) (b32_id (by omega) (by omega)) (jlt hW.K423 (by omega)) ?_
    show jWp 215 19 [some (jO m), some (jI (l1 : Int)), some (jI i)] [jI (w.1 (m + 423) l1)] 0 0 w _
    refine jWp.ifz (pc' := 22) mt rfl rfl (b32_id (by omega) (by omega)) (fun h2 => ?_) (fun h2 => ?_)
    · have h2 : 0 ≤ (w.1 (m + 423) l1) := h2
      refine jWp.blk mt 1 ?_
      show jWp 215 27 [some (jO m), some (jI (l1 : Int)), some (jI i)] [jI i] 0 0 w _
      refine jWp.i2l (pc' := 28) mt rfl rfl (b32_id (by omega) (by omega)) ?_
      show jWp 215 28 [some (jO m), some (jI (l1 : Int)), some (jI i)] [jJ i] 0 0 w _
      refine jWp.blk mt 2 ?_
      show _ ∧ jWp 215 30 [some (jO m), some (jI (l1 : Int)), some (jI i)] [jO m, jJ 0, jJ i] 0 0 w _
      refine ⟨rfl, ?_⟩
      refine jWp.getR (pc' := 33) (o := (m + 423)) mt rfl rfl (jtg hW.K0) hW.R27 ?_
      show jWp 215 33 [some (jO m), some (jI (l1 : Int)), some (jI i)] [jO (m + 423), jJ 0, jJ i] 0 0 w _
      refine jWp.blk mt 1 ?_
      show jWp 215 34 [some (jO m), some (jI (l1 : Int)), some (jI i)] [jI (l1 : Int), jO (m + 423), jJ 0, jJ i] 0 0 w _
      refine jWp.iald (pc' := 35) (j := l1) mt rfl rfl (jird_of hW.K423) (b32_id (by omega) (by omega)) (jlt hW.K423 (by omega)) ?_
      show jWp 215 35 [some (jO m), some (jI (l1 : Int)), some (jI i)] [jI (w.1 (m + 423) l1), jJ 0, jJ i] 0 0 w _
      refine jWp.blk mt 2 ?_
      show jWp 215 37 [some (jO m), some (jI (l1 : Int)), some (jI i)] [jI ((w.1 (m + 423) l1) - 1), jJ 0, jJ i] 0 0 w _
      refine jWp.i2l (pc' := 38) mt rfl rfl (b32_id (by omega) (by omega)) ?_
      show jWp 215 38 [some (jO m), some (jI (l1 : Int)), some (jI i)] [jJ ((w.1 (m + 423) l1) - 1), jJ 0, jJ i] 0 0 w _
      refine jWp.calls (as := [jJ i, jJ 0, jJ ((w.1 (m + 423) l1) - 1)]) (rest := []) mt rfl rfl rfl rfl ?_
      refine jCall.mono (E_in (b64_id (by omega) (by omega)) (show b64 0 = 0 by decide) (b64_id (by omega) (by omega))) (fun v9 w9 h9 => ?_)
      rcases h9 with ⟨rfl, h9, h3⟩ | ⟨rfl, h9, h3⟩ <;> subst w9
      · have h3 : 0 ≤ i ∧ i ≤ ((w.1 (m + 423) l1) - 1) := h3
        show jWp 215 41 [some (jO m), some (jI (l1 : Int)), some (jI i)] [jI 1] 0 0 w _
        refine jWp.ifc (b := false) mt rfl (by decide) rfl ?_
        show jWp 215 44 [some (jO m), some (jI (l1 : Int)), some (jI i)] [] 0 0 w _
        obtain ⟨i1, rfl⟩ : ∃ i1 : Nat, i = (i1 : Int) := ⟨i.toNat, by omega⟩
        show jWp 215 44 [some (jO m), some (jI (l1 : Int)), some (jI (i1 : Int))] [] 0 0 w _
        refine jWp.blk mt 1 ?_
        show _ ∧ jWp 215 45 [some (jO m), some (jI (l1 : Int)), some (jI (i1 : Int))] [jO m] 0 0 w _
        refine ⟨rfl, ?_⟩
        refine jWp.getR (pc' := 48) (o := (m + 424)) mt rfl rfl (jtg hW.K0) hW.R28 ?_
        show jWp 215 48 [some (jO m), some (jI (l1 : Int)), some (jI (i1 : Int))] [jO (m + 424)] 0 0 w _
        refine jWp.blk mt 1 ?_
        show jWp 215 49 [some (jO m), some (jI (l1 : Int)), some (jI (i1 : Int))] [jI (l1 : Int), jO (m + 424)] 0 0 w _
        refine jWp.aald (pc' := 50) (j := l1) (o := (m + (425 + l1))) mt rfl rfl (jrg hW.K424 (by decide) (by decide)) (b32_id (by omega) (by omega)) (jlt hW.K424 (by omega)) (hW.RI l1 (by omega)) ?_
        show jWp 215 50 [some (jO m), some (jI (l1 : Int)), some (jI (i1 : Int))] [jO (m + (425 + l1))] 0 0 w _
        refine jWp.blk mt 1 ?_
        show jWp 215 51 [some (jO m), some (jI (l1 : Int)), some (jI (i1 : Int))] [jI (i1 : Int), jO (m + (425 + l1))] 0 0 w _
        refine jWp.lald (pc' := 52) (j := i1) mt rfl rfl (jtg (hW.KI _ (by omega))) (b32_id (by omega) (by omega)) (jlt (hW.KI _ (by omega)) (by omega)) ?_
        show jWp 215 52 [some (jO m), some (jI (l1 : Int)), some (jI (i1 : Int))] [jJ (w.1 (m + (425 + l1)) i1)] 0 0 w _
        refine jWp.blk mt 1 ?_
        show jWp 215 58 [some (jO m), some (jI (l1 : Int)), some (jI (i1 : Int))] [jJ (w.1 (m + (425 + l1)) i1)] 0 0 w _
        refine jWp.lret mt rfl ⟨rfl, rfl⟩ rfl ?_
        try rw [show ((l1 : Nat) : Int).toNat = l1 from rfl]
        refine ⟨fun c0 => ?_, fun c0 c1 => ?_, fun c0 c1 c2 => ?_, fun c0 c1 c2 => ?_⟩
        all_goals first
        | (exfalso; omega)
        | exact ⟨rfl, rfl⟩
      · have h3 : ¬ (0 ≤ i ∧ i ≤ ((w.1 (m + 423) l1) - 1)) := h3
        show jWp 215 41 [some (jO m), some (jI (l1 : Int)), some (jI i)] [jI 0] 0 0 w _
        refine jWp.ifc (b := true) mt rfl (by decide) rfl ?_
        show jWp 215 55 [some (jO m), some (jI (l1 : Int)), some (jI i)] [] 0 0 w _
        refine jWp.blk mt 1 ?_
        show jWp 215 58 [some (jO m), some (jI (l1 : Int)), some (jI i)] [jJ 4000000000000000013] 0 0 w _
        refine jWp.lret mt rfl ⟨rfl, rfl⟩ rfl ?_
        try rw [show ((l1 : Nat) : Int).toNat = l1 from rfl]
        refine ⟨fun c0 => ?_, fun c0 c1 => ?_, fun c0 c1 c2 => ?_, fun c0 c1 c2 => ?_⟩
        all_goals first
        | (exfalso; omega)
        | exact ⟨rfl, rfl⟩
    · have h2 : (w.1 (m + 423) l1) < 0 := h2
      refine jWp.blk mt 1 ?_
      show jWp 215 25 [some (jO m), some (jI (l1 : Int)), some (jI i)] [jJ 4000000000000000011] 0 0 w _
      refine jWp.lret mt rfl ⟨rfl, rfl⟩ rfl ?_
      try rw [show ((l1 : Nat) : Int).toNat = l1 from rfl]
      refine ⟨fun c0 => ?_, fun c0 c1 => ?_, fun c0 c1 c2 => ?_, fun c0 c1 c2 => ?_⟩
      all_goals first
      | (exfalso; omega)
      | exact ⟨rfl, rfl⟩
  · have h1 : ¬ (0 ≤ l ∧ l ≤ 2) := h1
    show jWp 215 4 [some (jO m), some (jI l), some (jI i)] [jI 0] 0 0 w _
    refine jWp.ifc (b := false) mt rfl (by decide) rfl ?_
    show jWp 215 7 [some (jO m), some (jI l), some (jI i)] [] 0 0 w _
    refine jWp.blk mt 2 ?_
    show _ ∧ jWp 215 9 [some (jO m), some (jI l), some (jI i)] [jI (-1), jO m] 0 0 w _
    refine ⟨rfl, ?_⟩
    refine jWp.callv (as := [jO m, jI (-1)]) (rest := []) mt rfl rfl rfl ⟨rfl, jtg hW.K0⟩ ?_
    refine jCall.mono (E_farther (w := w) (j := 1) hW (by decide) (by decide)) (fun v9 w9 h9 => ?_)
    obtain ⟨rfl, h9⟩ := h9
    subst h9
    show jWp 215 12 [some (jO m), some (jI l), some (jI i)] [jJ (4000000000000000000 - (-1))] 0 0 (jW w (m + 3) 1 ((w.1 (m + 3) 1) + 1)) _
    refine jWp.lret mt rfl ⟨rfl, rfl⟩ rfl ?_
    try rw [show ((l1 : Nat) : Int).toNat = l1 from rfl]
    refine ⟨fun c0 => ?_, fun c0 c1 => ?_, fun c0 c1 c2 => ?_, fun c0 c1 c2 => ?_⟩
    all_goals first
    | (exfalso; omega)
    | exact ⟨rfl, rfl⟩
/-- the rows as the reference holds them -/
def zRw (r : Nat → Int) (c : Nat) : Prop := r 0 = (c : Int) ∧ c ≤ 4 ∧ ∀ x, x < c → (0 ≤ r (1 + 10 * x) ∧ r (1 + 10 * x) ≤ 6) ∧ (0 ≤ r (2 + 10 * x) ∧ r (2 + 10 * x) ≤ 9) ∧ ∀ y, y < 8 → 1 ≤ r (3 + 10 * x + y) ∧ r (3 + 10 * x + y) ≤ 9
set_option maxHeartbeats 4000000 in
set_option maxRecDepth 20000 in
theorem E_isRow {w : jS} {m : Nat} (hW : MW w.2 m) {c : Nat} (hR : zRw (w.1 (m + 2)) c) {r : Int} (hrr : r32 r) : jCall 140 [jO m, jI r] w (jvb (0 ≤ r ∧ r < (c : Int)) w) := by
  have mt : jtb 140 = jT140 := rfl
  have hrr1 : -2147483648 ≤ r ∧ r < 2147483648 := hrr
  have hc4 := hR.2.1
  show jWp 140 0 [some (jO m), some (jI r)] [] 0 0 w _
  refine jWp.blk mt 1 ?_
  show jWp 140 1 [some (jO m), some (jI r)] [jI r] 0 0 w _
  refine jWp.i2l (pc' := 2) mt rfl rfl (b32_id (by omega) (by omega)) ?_
  show jWp 140 2 [some (jO m), some (jI r)] [jJ r] 0 0 w _
  refine jWp.blk mt 2 ?_
  show _ ∧ jWp 140 4 [some (jO m), some (jI r)] [jO m, jJ 0, jJ r] 0 0 w _
  refine ⟨rfl, ?_⟩
  refine jWp.getR (pc' := 7) (o := (m + 2)) mt rfl rfl (jtg hW.K0) hW.R1 ?_
  show jWp 140 7 [some (jO m), some (jI r)] [jO (m + 2), jJ 0, jJ r] 0 0 w _
  refine jWp.blk mt 1 ?_
  show jWp 140 8 [some (jO m), some (jI r)] [jI 0, jO (m + 2), jJ 0, jJ r] 0 0 w _
  refine jWp.iald (pc' := 9) (j := 0) mt rfl rfl (jird_of hW.K2) (by decide) (jlt hW.K2 (by decide)) ?_
  rw [show (w.1 (m + 2) 0) = (c : Int) from hR.1]
  show jWp 140 9 [some (jO m), some (jI r)] [jI (c : Int), jJ 0, jJ r] 0 0 w _
  refine jWp.blk mt 2 ?_
  show jWp 140 11 [some (jO m), some (jI r)] [jI ((c : Int) - 1), jJ 0, jJ r] 0 0 w _
  refine jWp.i2l (pc' := 12) mt rfl rfl (b32_id (by omega) (by omega)) ?_
  show jWp 140 12 [some (jO m), some (jI r)] [jJ ((c : Int) - 1), jJ 0, jJ r] 0 0 w _
  refine jWp.calls (as := [jJ r, jJ 0, jJ ((c : Int) - 1)]) (rest := []) mt rfl rfl rfl rfl ?_
  refine jCall.mono (E_in (b64_id (by omega) (by omega)) (show b64 0 = 0 by decide) (b64_id (by omega) (by omega))) (fun v9 w9 h9 => ?_)
  rcases h9 with ⟨rfl, h9, h1⟩ | ⟨rfl, h9, h1⟩ <;> subst w9
  · have h1 : 0 ≤ r ∧ r ≤ ((c : Int) - 1) := h1
    show jWp 140 15 [some (jO m), some (jI r)] [jI 1] 0 0 w _
    refine jWp.iretz mt rfl ⟨rfl, rfl⟩ rfl (Or.inr rfl) ?_
    exact Or.inl ⟨rfl, rfl, by omega⟩
  · have h1 : ¬ (0 ≤ r ∧ r ≤ ((c : Int) - 1)) := h1
    show jWp 140 15 [some (jO m), some (jI r)] [jI 0] 0 0 w _
    refine jWp.iretz mt rfl ⟨rfl, rfl⟩ rfl (Or.inl rfl) ?_
    exact Or.inr ⟨rfl, rfl, by omega⟩
set_option maxHeartbeats 4000000 in
set_option maxRecDepth 20000 in
theorem E_law {w : jS} {m : Nat} (hW : MW w.2 m) {x : Nat} (hx : x < 4) : jCall 142 [jO m, jI (x : Int)] w (jvi (w.1 (m + 2) (1 + 10 * x)) w) := by
  have mt : jtb 142 = jT142 := rfl
  show jWp 142 0 [some (jO m), some (jI (x : Int))] [] 0 0 w _
  refine jWp.blk mt 1 ?_
  show _ ∧ jWp 142 1 [some (jO m), some (jI (x : Int))] [jO m] 0 0 w _
  refine ⟨rfl, ?_⟩
  refine jWp.getR (pc' := 4) (o := (m + 2)) mt rfl rfl (jtg hW.K0) hW.R1 ?_
  show jWp 142 4 [some (jO m), some (jI (x : Int))] [jO (m + 2)] 0 0 w _
  refine jWp.blk mt 5 ?_
  show jWp 142 10 [some (jO m), some (jI (x : Int))] [jI (1 + (10 * (x : Int))), jO (m + 2)] 0 0 w _
  refine jWp.iald (pc' := 11) (j := (1 + (10 * x))) mt rfl rfl (jird_of hW.K2) (by rw [b32_id (by omega) (by omega)] <;> omega) (jlt hW.K2 (by omega)) ?_
  show jWp 142 11 [some (jO m), some (jI (x : Int))] [jI (w.1 (m + 2) (1 + (10 * x)))] 0 0 w _
  refine jWp.ireti mt rfl ⟨rfl, rfl⟩ rfl ?_
  exact ⟨rfl, rfl⟩
set_option maxHeartbeats 4000000 in
set_option maxRecDepth 20000 in
theorem E_figure {w : jS} {m : Nat} (hW : MW w.2 m) {x : Nat} (hx : x < 4) : jCall 143 [jO m, jI (x : Int)] w (jvi (w.1 (m + 2) (2 + 10 * x)) w) := by
  have mt : jtb 143 = jT143 := rfl
  show jWp 143 0 [some (jO m), some (jI (x : Int))] [] 0 0 w _
  refine jWp.blk mt 1 ?_
  show _ ∧ jWp 143 1 [some (jO m), some (jI (x : Int))] [jO m] 0 0 w _
  refine ⟨rfl, ?_⟩
  refine jWp.getR (pc' := 4) (o := (m + 2)) mt rfl rfl (jtg hW.K0) hW.R1 ?_
  show jWp 143 4 [some (jO m), some (jI (x : Int))] [jO (m + 2)] 0 0 w _
  refine jWp.blk mt 5 ?_
  show jWp 143 10 [some (jO m), some (jI (x : Int))] [jI (2 + (10 * (x : Int))), jO (m + 2)] 0 0 w _
  refine jWp.iald (pc' := 11) (j := (2 + (10 * x))) mt rfl rfl (jird_of hW.K2) (by rw [b32_id (by omega) (by omega)] <;> omega) (jlt hW.K2 (by omega)) ?_
  show jWp 143 11 [some (jO m), some (jI (x : Int))] [jI (w.1 (m + 2) (2 + (10 * x)))] 0 0 w _
  refine jWp.ireti mt rfl ⟨rfl, rfl⟩ rfl ?_
  exact ⟨rfl, rfl⟩
