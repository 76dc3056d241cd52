/-- the letter at a place of the text; -1 behind it -/
def zlt (t : Nat → Int) (F p : Nat) : Int := if p < F then t p else -1
theorem zlt_b {t : Nat → Int} {F : Nat} (h : ∀ j, j < F → 0 ≤ t j ∧ t j ≤ 255) (p : Nat) : -1 ≤ zlt t F p ∧ zlt t F p ≤ 255 := by
  unfold zlt
  split
  · rename_i e
    have := h p e
    omega
  · omega
theorem zlt_l {t : Nat → Int} {F p : Nat} {c : Int} (h : zlt t F p = c) (hc : 0 ≤ c) : p < F := by
  unfold zlt at h
  split at h
  · assumption
  · omega
/-- behind the last letter of a statement; or -1 less the place of the first letter that is misplaced -/
def zfn (t : Nat → Int) (F q : Nat) : Int := if zlt t F q = 59 then ((q + 1 : Nat) : Int) else -1 - (q : Int)
def zbh (t : Nat → Int) (F p : Nat) : Int :=
  if zlt t F p = 110 ∨ zlt t F p = 109 then (if 48 ≤ zlt t F (p + 1) ∧ zlt t F (p + 1) ≤ 57 then zfn t F (p + 2) else -1 - ((p + 1 : Nat) : Int))
  else if zlt t F p = 115 ∨ zlt t F p = 119 then (if 48 ≤ zlt t F (p + 1) ∧ zlt t F (p + 1) ≤ 57 then (if 48 ≤ zlt t F (p + 2) ∧ zlt t F (p + 2) ≤ 57 then zfn t F (p + 3) else -1 - ((p + 2 : Nat) : Int)) else -1 - ((p + 1 : Nat) : Int))
  else if zlt t F p = 98 then (if 48 ≤ zlt t F (p + 1) ∧ zlt t F (p + 1) ≤ 57 then (if 48 ≤ zlt t F (p + 2) ∧ zlt t F (p + 2) ≤ 57 then (if zlt t F (p + 3) = 45 then (if 48 ≤ zlt t F (p + 4) ∧ zlt t F (p + 4) ≤ 57 then zfn t F (p + 5) else -1 - ((p + 4 : Nat) : Int)) else (if 48 ≤ zlt t F (p + 3) ∧ zlt t F (p + 3) ≤ 57 then zfn t F (p + 4) else -1 - ((p + 3 : Nat) : Int))) else -1 - ((p + 2 : Nat) : Int)) else -1 - ((p + 1 : Nat) : Int))
  else -1 - (p : Int)
/-- a letter as a digit; a number with its sign -/
def zfg (c : Int) : Int := if 48 ≤ c ∧ c ≤ 57 then c - 48 else -1
def znm (t : Nat → Int) (F p : Nat) : Int := if zlt t F p = 45 then -(zfg (zlt t F (p + 1))) else zfg (zlt t F p)
def zdc (c : Int) : Int := if c = 110 ∨ c = 109 then 1 else if c = 115 ∨ c = 119 then 2 else if c = 98 then 3 else 0
theorem jW_id {w : jS} {a k : Nat} {x : Int} (h : w.1 a k = x) : jW w a k x = w := by
  subst h
  unfold jW jup
  refine Prod.ext (funext fun b => funext fun j => ?_) rfl
  dsimp only
  split
  · rename_i e
    rw [e.1, e.2]
  · rfl
set_option maxHeartbeats 4000000 in
set_option maxRecDepth 20000 in
theorem E_here {w : jS} {m : Nat} (hW : MW w.2 m) {F p : Nat} {t : Nat → Int} (hF : w.1 m 24 = (F : Int)) (hF72 : F ≤ 72) (hp : w.1 m 25 = (p : Int)) (hp9 : p ≤ 200) (ht : w.1 (m + 421) = t) (hL : ∀ j, j < F → 0 ≤ t j ∧ t j ≤ 255) : jCall 198 [jO m] w (jvi (zlt t F p) w) := by
  have mt : jtb 198 = jT198 := rfl
  have hLp : p < F → _ := fun h => hL p h
  show jWp 198 0 [some (jO m)] [] 0 0 w _
  refine jWp.blk mt 1 ?_
  show _ ∧ jWp 198 1 [some (jO m)] [jO m] 0 0 w _
  refine ⟨rfl, ?_⟩
  refine jWp.getI (pc' := 4) mt rfl rfl (jtg hW.K0) ?_
  rw [show (w.1 m 25) = (p : Int) from hp]
  show jWp 198 4 [some (jO m)] [jI (p : Int)] 0 0 w _
  refine jWp.blk mt 1 ?_
  show _ ∧ jWp 198 5 [some (jO m)] [jO m, jI (p : Int)] 0 0 w _
  refine ⟨rfl, ?_⟩
  refine jWp.getI (pc' := 8) mt rfl rfl (jtg hW.K0) ?_
  rw [show (w.1 m 24) = (F : Int) from hF]
  show jWp 198 8 [some (jO m)] [jI (F : Int), jI (p : Int)] 0 0 w _
  refine jWp.icmp (pc' := 11) mt rfl rfl (b32_id (by omega) (by omega)) (b32_id (by omega) (by omega)) (fun h1 => ?_) (fun h1 => ?_)
  · have h1 : (F : Int) ≤ (p : Int) := h1
    refine jWp.blk mt 1 ?_
    show jWp 198 24 [some (jO m)] [jI (-1)] 0 0 w _
    refine jWp.ireti mt rfl ⟨rfl, rfl⟩ rfl ?_
    exact ⟨by unfold zlt; first | rw [if_pos (by omega)] | rw [if_neg (by omega)], rfl⟩
  · have h1 : (p : Int) < (F : Int) := h1
    refine jWp.blk mt 1 ?_
    show _ ∧ jWp 198 12 [some (jO m)] [jO m] 0 0 w _
    refine ⟨rfl, ?_⟩
    refine jWp.getR (pc' := 15) (o := (m + 421)) mt rfl rfl (jtg hW.K0) hW.R23 ?_
    show jWp 198 15 [some (jO m)] [jO (m + 421)] 0 0 w _
    refine jWp.blk mt 1 ?_
    show _ ∧ jWp 198 16 [some (jO m)] [jO m, jO (m + 421)] 0 0 w _
    refine ⟨rfl, ?_⟩
    refine jWp.getI (pc' := 19) mt rfl rfl (jtg hW.K0) ?_
    rw [show (w.1 m 25) = (p : Int) from hp]
    show jWp 198 19 [some (jO m)] [jI (p : Int), jO (m + 421)] 0 0 w _
    refine jWp.iald (pc' := 20) (j := p) mt rfl rfl (jird_of hW.K421) (b32_id (by omega) (by omega)) (jlt hW.K421 (by omega)) ?_
    rw [show (w.1 (m + 421) p) = (t p) from (congrFun ht _)]
    show jWp 198 20 [some (jO m)] [jI (t p)] 0 0 w _
    refine jWp.blk mt 1 ?_
    show jWp 198 24 [some (jO m)] [jI (t p)] 0 0 w _
    refine jWp.ireti mt rfl ⟨rfl, rfl⟩ rfl ?_
    exact ⟨by unfold zlt; first | rw [if_pos (by omega)] | rw [if_neg (by omega)], rfl⟩
set_option maxHeartbeats 4000000 in
set_option maxRecDepth 20000 in
theorem E_takes {w : jS} {m : Nat} (hW : MW w.2 m) {F p : Nat} {t : Nat → Int} (hF : w.1 m 24 = (F : Int)) (hF72 : F ≤ 72) (hp : w.1 m 25 = (p : Int)) (hp9 : p ≤ 200) (ht : w.1 (m + 421) = t) (hL : ∀ j, j < F → 0 ≤ t j ∧ t j ≤ 255) {c : Int} (hc : r32 c) : jCall 199 [jO m, jI c] w (fun v w1 => (v = some (jI 1) ∧ w1 = jW w m 25 ((p + 1 : Nat) : Int) ∧ (zlt t F p) = c) ∨ (v = some (jI 0) ∧ w1 = w ∧ ¬ (zlt t F p) = c)) := by
  have mt : jtb 199 = jT199 := rfl
  have hc1 : -2147483648 ≤ c ∧ c < 2147483648 := hc
  have hzb := zlt_b hL p
  show jWp 199 0 [some (jO m), some (jI c), none] [] 0 0 w _
  refine jWp.blk mt 1 ?_
  show _ ∧ jWp 199 1 [some (jO m), some (jI c), none] [jO m] 0 0 w _
  refine ⟨rfl, ?_⟩
  refine jWp.callv (as := [jO m]) (rest := []) mt rfl rfl rfl ⟨rfl, jtg hW.K0⟩ ?_
  refine jCall.mono (E_here hW hF hF72 hp hp9 ht hL) (fun v9 w9 h9 => ?_)
  obtain ⟨rfl, h9⟩ := h9
  subst w9
  show jWp 199 4 [some (jO m), some (jI c), none] [jI (zlt t F p)] 0 0 w _
  refine jWp.blk mt 1 ?_
  show jWp 199 5 [some (jO m), some (jI c), none] [jI c, jI (zlt t F p)] 0 0 w _
  refine jWp.icmp (pc' := 8) mt rfl rfl (b32_id (by omega) (by omega)) (b32_id (by omega) (by omega)) (fun h1 => ?_) (fun h1 => ?_)
  · have h1 : (zlt t F p) ≠ c := h1
    refine jWp.blk mt 4 ?_
    show _ ∧ _ ∧ jWp 199 16 [some (jO m), some (jI c), some (jI 0)] [jO m, jO m] 0 0 w _
    refine ⟨rfl, rfl, ?_⟩
    refine jWp.getI (pc' := 19) mt rfl rfl (jtg hW.K0) ?_
    rw [show (w.1 m 25) = (p : Int) from hp]
    show jWp 199 19 [some (jO m), some (jI c), some (jI 0)] [jI (p : Int), jO m] 0 0 w _
    refine jWp.blk mt 1 ?_
    show jWp 199 20 [some (jO m), some (jI c), some (jI 0)] [jI 0, jI (p : Int), jO m] 0 0 w _
    refine jWp.ifc (b := true) mt rfl (by decide) rfl ?_
    show jWp 199 27 [some (jO m), some (jI c), some (jI 0)] [jI (p : Int), jO m] 0 0 w _
    refine jWp.blk mt 2 ?_
    show jWp 199 29 [some (jO m), some (jI c), some (jI 0)] [jI ((p : Int) + 0), jO m] 0 0 w _
    refine jWp.putI (pc' := 32) mt rfl rfl (jtg hW.K0) ?_
    show jWp 199 32 [some (jO m), some (jI c), some (jI 0)] [] 0 0 (jW w m 25 ((p : Int) + 0)) _
    refine jWp.blk mt 1 ?_
    show jWp 199 33 [some (jO m), some (jI c), some (jI 0)] [jI 0] 0 0 (jW w m 25 ((p : Int) + 0)) _
    refine jWp.iretz mt rfl ⟨rfl, rfl⟩ rfl (Or.inl rfl) ?_
    first
    | exact Or.inl ⟨rfl, rfl, by omega⟩
    | exact Or.inr ⟨rfl, by rw [Int.add_zero]; exact jW_id hp, by omega⟩
  · have h1 : (zlt t F p) = c := h1
    refine jWp.blk mt 5 ?_
    show _ ∧ _ ∧ jWp 199 16 [some (jO m), some (jI c), some (jI 1)] [jO m, jO m] 0 0 w _
    refine ⟨rfl, rfl, ?_⟩
    refine jWp.getI (pc' := 19) mt rfl rfl (jtg hW.K0) ?_
    rw [show (w.1 m 25) = (p : Int) from hp]
    show jWp 199 19 [some (jO m), some (jI c), some (jI 1)] [jI (p : Int), jO m] 0 0 w _
    refine jWp.blk mt 1 ?_
    show jWp 199 20 [some (jO m), some (jI c), some (jI 1)] [jI 1, jI (p : Int), jO m] 0 0 w _
    refine jWp.ifc (b := false) mt rfl (by decide) rfl ?_
    show jWp 199 23 [some (jO m), some (jI c), some (jI 1)] [jI (p : Int), jO m] 0 0 w _
    refine jWp.blk mt 3 ?_
    show jWp 199 29 [some (jO m), some (jI c), some (jI 1)] [jI ((p : Int) + 1), jO m] 0 0 w _
    refine jWp.putI (pc' := 32) mt rfl rfl (jtg hW.K0) ?_
    show jWp 199 32 [some (jO m), some (jI c), some (jI 1)] [] 0 0 (jW w m 25 ((p : Int) + 1)) _
    refine jWp.blk mt 1 ?_
    show jWp 199 33 [some (jO m), some (jI c), some (jI 1)] [jI 1] 0 0 (jW w m 25 ((p : Int) + 1)) _
    refine jWp.iretz mt rfl ⟨rfl, rfl⟩ rfl (Or.inr rfl) ?_
    first
    | exact Or.inl ⟨rfl, rfl, by omega⟩
    | exact Or.inr ⟨rfl, by rw [Int.add_zero]; exact jW_id hp, by omega⟩
set_option maxHeartbeats 4000000 in
set_option maxRecDepth 20000 in
theorem E_hasFigure {w : jS} {m : Nat} (hW : MW w.2 m) {F p : Nat} {t : Nat → Int} (hF : w.1 m 24 = (F : Int)) (hF72 : F ≤ 72) (hp : w.1 m 25 = (p : Int)) (hp9 : p ≤ 200) (ht : w.1 (m + 421) = t) (hL : ∀ j, j < F → 0 ≤ t j ∧ t j ≤ 255) {k : Nat} (hk : k < 3) : jCall 200 [jO m, jI (k : Int)] w (fun v w1 => (v = some (jI 1) ∧ w1 = jW (jW w (m + 422) k ((zlt t F p) - 48)) m 25 ((p + 1 : Nat) : Int) ∧ (48 ≤ (zlt t F p) ∧ (zlt t F p) ≤ 57)) ∨ (v = some (jI 0) ∧ w1 = jW w (m + 422) k 0 ∧ ¬ (48 ≤ (zlt t F p) ∧ (zlt t F p) ≤ 57))) := by
  have mt : jtb 200 = jT200 := rfl
  have hzb := zlt_b hL p
  show jWp 200 0 [some (jO m), some (jI (k : Int)), none] [] 0 0 w _
  refine jWp.blk mt 1 ?_
  show _ ∧ jWp 200 1 [some (jO m), some (jI (k : Int)), none] [jO m] 0 0 w _
  refine ⟨rfl, ?_⟩
  refine jWp.callv (as := [jO m]) (rest := []) mt rfl rfl rfl ⟨rfl, jtg hW.K0⟩ ?_
  refine jCall.mono (E_here hW hF hF72 hp hp9 ht hL) (fun v9 w9 h9 => ?_)
  obtain ⟨rfl, h9⟩ := h9
  subst w9
  show jWp 200 4 [some (jO m), some (jI (k : Int)), none] [jI (zlt t F p)] 0 0 w _
  refine jWp.i2l (pc' := 5) mt rfl rfl (b32_id (by omega) (by omega)) ?_
  show jWp 200 5 [some (jO m), some (jI (k : Int)), none] [jJ (zlt t F p)] 0 0 w _
  refine jWp.blk mt 2 ?_
  show jWp 200 11 [some (jO m), some (jI (k : Int)), none] [jJ 57, jJ 48, jJ (zlt t F p)] 0 0 w _
  refine jWp.calls (as := [jJ (zlt t F p), jJ 48, jJ 57]) (rest := []) mt rfl rfl rfl rfl ?_
  refine jCall.mono (E_in (b64_id (by omega) (by omega)) (show b64 48 = 48 by decide) (show b64 57 = 57 by decide)) (fun v9 w9 h9 => ?_)
  rcases h9 with ⟨rfl, h9, h1⟩ | ⟨rfl, h9, h1⟩ <;> subst w9
  · have h1 : 48 ≤ (zlt t F p) ∧ (zlt t F p) ≤ 57 := h1
    show jWp 200 14 [some (jO m), some (jI (k : Int)), none] [jI 1] 0 0 w _
    refine jWp.blk mt 2 ?_
    show _ ∧ jWp 200 16 [some (jO m), some (jI (k : Int)), some (jI 1)] [jO m] 0 0 w _
    refine ⟨rfl, ?_⟩
    refine jWp.getR (pc' := 19) (o := (m + 422)) mt rfl rfl (jtg hW.K0) hW.R26 ?_
    show jWp 200 19 [some (jO m), some (jI (k : Int)), some (jI 1)] [jO (m + 422)] 0 0 w _
    refine jWp.blk mt 2 ?_
    show jWp 200 21 [some (jO m), some (jI (k : Int)), some (jI 1)] [jI 1, jI (k : Int), jO (m + 422)] 0 0 w _
    refine jWp.ifc (b := false) mt rfl (by decide) rfl ?_
    show jWp 200 24 [some (jO m), some (jI (k : Int)), some (jI 1)] [jI (k : Int), jO (m + 422)] 0 0 w _
    refine jWp.blk mt 1 ?_
    show _ ∧ jWp 200 25 [some (jO m), some (jI (k : Int)), some (jI 1)] [jO m, jI (k : Int), jO (m + 422)] 0 0 w _
    refine ⟨rfl, ?_⟩
    refine jWp.callv (as := [jO m]) (rest := [jI (k : Int), jO (m + 422)]) mt rfl rfl rfl ⟨rfl, jtg hW.K0⟩ ?_
    refine jCall.mono (E_here hW hF hF72 hp hp9 ht hL) (fun v9 w9 h9 => ?_)
    obtain ⟨rfl, h9⟩ := h9
    subst w9
    show jWp 200 28 [some (jO m), some (jI (k : Int)), some (jI 1)] [jI (zlt t F p), jI (k : Int), jO (m + 422)] 0 0 w _
    refine jWp.blk mt 3 ?_
    show jWp 200 35 [some (jO m), some (jI (k : Int)), some (jI 1)] [jI ((zlt t F p) - 48), jI (k : Int), jO (m + 422)] 0 0 w _
    refine jWp.iast (pc' := 36) (j := k) mt rfl rfl (jtg hW.K422) (b32_id (by omega) (by omega)) (jlt hW.K422 (by omega)) ?_
    show jWp 200 36 [some (jO m), some (jI (k : Int)), some (jI 1)] [] 0 0 (jW w (m + 422) k ((zlt t F p) - 48)) _
    refine jWp.blk mt 2 ?_
    show _ ∧ _ ∧ jWp 200 38 [some (jO m), some (jI (k : Int)), some (jI 1)] [jO m, jO m] 0 0 (jW w (m + 422) k ((zlt t F p) - 48)) _
    refine ⟨rfl, rfl, ?_⟩
    refine jWp.getI (pc' := 41) mt rfl rfl (jtg hW.K0) ?_
    rw [show ((jW w (m + 422) k ((zlt t F p) - 48)).1 m 25) = (p : Int) from (((jW_a (by omega)).trans rfl).trans hp)]
    show jWp 200 41 [some (jO m), some (jI (k : Int)), some (jI 1)] [jI (p : Int), jO m] 0 0 (jW w (m + 422) k ((zlt t F p) - 48)) _
    refine jWp.blk mt 1 ?_
    show jWp 200 42 [some (jO m), some (jI (k : Int)), some (jI 1)] [jI 1, jI (p : Int), jO m] 0 0 (jW w (m + 422) k ((zlt t F p) - 48)) _
    refine jWp.ifc (b := false) mt rfl (by decide) rfl ?_
    show jWp 200 45 [some (jO m), some (jI (k : Int)), some (jI 1)] [jI (p : Int), jO m] 0 0 (jW w (m + 422) k ((zlt t F p) - 48)) _
    refine jWp.blk mt 3 ?_
    show jWp 200 51 [some (jO m), some (jI (k : Int)), some (jI 1)] [jI ((p : Int) + 1), jO m] 0 0 (jW w (m + 422) k ((zlt t F p) - 48)) _
    refine jWp.putI (pc' := 54) mt rfl rfl (jtg hW.K0) ?_
    show jWp 200 54 [some (jO m), some (jI (k : Int)), some (jI 1)] [] 0 0 (jW (jW w (m + 422) k ((zlt t F p) - 48)) m 25 ((p : Int) + 1)) _
    refine jWp.blk mt 1 ?_
    show jWp 200 55 [some (jO m), some (jI (k : Int)), some (jI 1)] [jI 1] 0 0 (jW (jW w (m + 422) k ((zlt t F p) - 48)) m 25 ((p : Int) + 1)) _
    refine jWp.iretz mt rfl ⟨rfl, rfl⟩ rfl (Or.inr rfl) ?_
    first
    | exact Or.inl ⟨rfl, rfl, by omega⟩
    | exact Or.inr ⟨rfl, by rw [Int.add_zero]; exact jW_id ((jW_a (by omega)).trans hp), by omega⟩
  · have h1 : ¬ (48 ≤ (zlt t F p) ∧ (zlt t F p) ≤ 57) := h1
    show jWp 200 14 [some (jO m), some (jI (k : Int)), none] [jI 0] 0 0 w _
    refine jWp.blk mt 2 ?_
    show _ ∧ jWp 200 16 [some (jO m), some (jI (k : Int)), some (jI 0)] [jO m] 0 0 w _
    refine ⟨rfl, ?_⟩
    refine jWp.getR (pc' := 19) (o := (m + 422)) mt rfl rfl (jtg hW.K0) hW.R26 ?_
    show jWp 200 19 [some (jO m), some (jI (k : Int)), some (jI 0)] [jO (m + 422)] 0 0 w _
    refine jWp.blk mt 2 ?_
    show jWp 200 21 [some (jO m), some (jI (k : Int)), some (jI 0)] [jI 0, jI (k : Int), jO (m + 422)] 0 0 w _
    refine jWp.ifc (b := true) mt rfl (by decide) rfl ?_
    show jWp 200 34 [some (jO m), some (jI (k : Int)), some (jI 0)] [jI (k : Int), jO (m + 422)] 0 0 w _
    refine jWp.blk mt 1 ?_
    show jWp 200 35 [some (jO m), some (jI (k : Int)), some (jI 0)] [jI 0, jI (k : Int), jO (m + 422)] 0 0 w _
    refine jWp.iast (pc' := 36) (j := k) mt rfl rfl (jtg hW.K422) (b32_id (by omega) (by omega)) (jlt hW.K422 (by omega)) ?_
    show jWp 200 36 [some (jO m), some (jI (k : Int)), some (jI 0)] [] 0 0 (jW w (m + 422) k 0) _
    refine jWp.blk mt 2 ?_
    show _ ∧ _ ∧ jWp 200 38 [some (jO m), some (jI (k : Int)), some (jI 0)] [jO m, jO m] 0 0 (jW w (m + 422) k 0) _
    refine ⟨rfl, rfl, ?_⟩
    refine jWp.getI (pc' := 41) mt rfl rfl (jtg hW.K0) ?_
    rw [show ((jW w (m + 422) k 0).1 m 25) = (p : Int) from (((jW_a (by omega)).trans rfl).trans hp)]
    show jWp 200 41 [some (jO m), some (jI (k : Int)), some (jI 0)] [jI (p : Int), jO m] 0 0 (jW w (m + 422) k 0) _
    refine jWp.blk mt 1 ?_
    show jWp 200 42 [some (jO m), some (jI (k : Int)), some (jI 0)] [jI 0, jI (p : Int), jO m] 0 0 (jW w (m + 422) k 0) _
    refine jWp.ifc (b := true) mt rfl (by decide) rfl ?_
    show jWp 200 49 [some (jO m), some (jI (k : Int)), some (jI 0)] [jI (p : Int), jO m] 0 0 (jW w (m + 422) k 0) _
    refine jWp.blk mt 2 ?_
    show jWp 200 51 [some (jO m), some (jI (k : Int)), some (jI 0)] [jI ((p : Int) + 0), jO m] 0 0 (jW w (m + 422) k 0) _
    refine jWp.putI (pc' := 54) mt rfl rfl (jtg hW.K0) ?_
    show jWp 200 54 [some (jO m), some (jI (k : Int)), some (jI 0)] [] 0 0 (jW (jW w (m + 422) k 0) m 25 ((p : Int) + 0)) _
    refine jWp.blk mt 1 ?_
    show jWp 200 55 [some (jO m), some (jI (k : Int)), some (jI 0)] [jI 0] 0 0 (jW (jW w (m + 422) k 0) m 25 ((p : Int) + 0)) _
    refine jWp.iretz mt rfl ⟨rfl, rfl⟩ rfl (Or.inl rfl) ?_
    first
    | exact Or.inl ⟨rfl, rfl, by omega⟩
    | exact Or.inr ⟨rfl, by rw [Int.add_zero]; exact jW_id ((jW_a (by omega)).trans hp), by omega⟩
set_option maxHeartbeats 4000000 in
set_option maxRecDepth 20000 in
theorem E_figuresOf {w : jS} {c : Int} (hc : r32 c) : jCall 201 [jI c] w (jvi (zdc c) w) := by
  have mt : jtb 201 = jT201 := rfl
  have hc1 : -2147483648 ≤ c ∧ c < 2147483648 := hc
  show jWp 201 0 [some (jI c)] [] 0 0 w _
  refine jWp.blk mt 1 ?_
  show jWp 201 1 [some (jI c)] [jI c] 0 0 w _
  refine jWp.sw mt rfl (Or.inr ⟨_, _, rfl⟩) (b32_id (by omega) (by omega)) ?_
  show jWp 201 (jsw [(98, 56), (109, 52), (110, 52), (115, 54), (119, 54)] 58 c) [some (jI c)] [] 0 0 w _
  unfold jsw; by_cases h1 : 98 = c
  · rw [if_pos h1]
    refine jWp.blk mt 1 ?_
    show jWp 201 57 [some (jI c)] [jI 3] 0 0 w _
    refine jWp.ireti mt rfl ⟨rfl, rfl⟩ rfl ?_
    refine ⟨?_, rfl⟩
    unfold zdc
    first
    | (rw [if_pos (by omega)]; done)
    | (rw [if_neg (by omega), if_pos (by omega)]; done)
    | (rw [if_neg (by omega), if_neg (by omega), if_pos (by omega)]; done)
    | (rw [if_neg (by omega), if_neg (by omega), if_neg (by omega)]; done)
  · rw [if_neg h1]
    unfold jsw; by_cases h2 : 109 = c
    · rw [if_pos h2]
      refine jWp.blk mt 1 ?_
      show jWp 201 53 [some (jI c)] [jI 1] 0 0 w _
      refine jWp.ireti mt rfl ⟨rfl, rfl⟩ rfl ?_
      refine ⟨?_, rfl⟩
      unfold zdc
      first
      | (rw [if_pos (by omega)]; done)
      | (rw [if_neg (by omega), if_pos (by omega)]; done)
      | (rw [if_neg (by omega), if_neg (by omega), if_pos (by omega)]; done)
      | (rw [if_neg (by omega), if_neg (by omega), if_neg (by omega)]; done)
    · rw [if_neg h2]
      unfold jsw; by_cases h3 : 110 = c
      · rw [if_pos h3]
        refine jWp.blk mt 1 ?_
        show jWp 201 53 [some (jI c)] [jI 1] 0 0 w _
        refine jWp.ireti mt rfl ⟨rfl, rfl⟩ rfl ?_
        refine ⟨?_, rfl⟩
        unfold zdc
        first
        | (rw [if_pos (by omega)]; done)
        | (rw [if_neg (by omega), if_pos (by omega)]; done)
        | (rw [if_neg (by omega), if_neg (by omega), if_pos (by omega)]; done)
        | (rw [if_neg (by omega), if_neg (by omega), if_neg (by omega)]; done)
      · rw [if_neg h3]
        unfold jsw; by_cases h4 : 115 = c
        · rw [if_pos h4]
          refine jWp.blk mt 1 ?_
          show jWp 201 55 [some (jI c)] [jI 2] 0 0 w _
          refine jWp.ireti mt rfl ⟨rfl, rfl⟩ rfl ?_
          refine ⟨?_, rfl⟩
          unfold zdc
          first
          | (rw [if_pos (by omega)]; done)
          | (rw [if_neg (by omega), if_pos (by omega)]; done)
          | (rw [if_neg (by omega), if_neg (by omega), if_pos (by omega)]; done)
          | (rw [if_neg (by omega), if_neg (by omega), if_neg (by omega)]; done)
        · rw [if_neg h4]
          unfold jsw; by_cases h5 : 119 = c
          · rw [if_pos h5]
            refine jWp.blk mt 1 ?_
            show jWp 201 55 [some (jI c)] [jI 2] 0 0 w _
            refine jWp.ireti mt rfl ⟨rfl, rfl⟩ rfl ?_
            refine ⟨?_, rfl⟩
            unfold zdc
            first
            | (rw [if_pos (by omega)]; done)
            | (rw [if_neg (by omega), if_pos (by omega)]; done)
            | (rw [if_neg (by omega), if_neg (by omega), if_pos (by omega)]; done)
            | (rw [if_neg (by omega), if_neg (by omega), if_neg (by omega)]; done)
          · rw [if_neg h5]
            unfold jsw
            refine jWp.blk mt 1 ?_
            show jWp 201 59 [some (jI c)] [jI 0] 0 0 w _
            refine jWp.ireti mt rfl ⟨rfl, rfl⟩ rfl ?_
            refine ⟨?_, rfl⟩
            unfold zdc
            first
            | (rw [if_pos (by omega)]; done)
            | (rw [if_neg (by omega), if_pos (by omega)]; done)
            | (rw [if_neg (by omega), if_neg (by omega), if_pos (by omega)]; done)
            | (rw [if_neg (by omega), if_neg (by omega), if_neg (by omega)]; done)
/-- what a statement that is read leaves: the place behind it, its numbers -/
def zsg (w : jS) (m : Nat) (w1 : jS) : Prop := w1.2 = w.2 ∧ (∀ a, a ≠ m → a ≠ m + 422 → w1.1 a = w.1 a) ∧ ∀ j, j ≠ 25 → w1.1 m j = w.1 m j
theorem zsg_q {w w1 : jS} {m : Nat} (h : zsg w m w1) : mq w m w1 := ⟨h.1, fun a ha => h.2.1 a (by omega) (by omega), h.2.2 15 (by decide), h.2.2 24 (by decide), h.2.2 31 (by decide)⟩
def zst1 (t : Nat → Int) (F p : Nat) (N : Nat → Int) : Prop :=
  (zlt t F p = 110 ∨ zlt t F p = 109 ∨ zlt t F p = 115 ∨ zlt t F p = 119 ∨ zlt t F p = 98) ∧ (N 0 = zfg (zlt t F (p + 1)) ∧ 0 ≤ N 0 ∧ N 0 ≤ 9) ∧ (zlt t F p = 115 ∨ zlt t F p = 119 ∨ zlt t F p = 98 → N 1 = zfg (zlt t F (p + 2)) ∧ 0 ≤ N 1 ∧ N 1 ≤ 9) ∧ (zlt t F p = 98 → N 2 = znm t F (p + 3) ∧ -9 ≤ N 2 ∧ N 2 ≤ 9)
set_option maxHeartbeats 4000000 in
set_option maxRecDepth 20000 in
theorem E_hasStatement {w : jS} {m : Nat} (hW : MW w.2 m) {F p : Nat} {t : Nat → Int} (hF : w.1 m 24 = (F : Int)) (hF72 : F ≤ 72) (hp : w.1 m 25 = (p : Int)) (hp9 : p ≤ 100) (ht : w.1 (m + 421) = t) (hL : ∀ j, j < F → 0 ≤ t j ∧ t j ≤ 255) : jCall 202 [jO m] w (fun v w1 => ∃ b : Nat, zsg w m w1 ∧ w1.1 m 25 = (b : Int) ∧ ((v = some (jI 1) ∧ zbh t F p = (b : Int) ∧ p < b ∧ b ≤ F ∧ b ≤ p + 6 ∧ zst1 t F p (w1.1 (m + 422))) ∨ (v = some (jI 0) ∧ zbh t F p = -1 - (b : Int) ∧ p ≤ b ∧ b ≤ p + 5))) := by
  have mt : jtb 202 = jT202 := rfl
  show jWp 202 0 [some (jO m), none, none, none, none, none] [] 0 0 w _
  refine jWp.blk mt 1 ?_
  show _ ∧ jWp 202 1 [some (jO m), none, none, none, none, none] [jO m] 0 0 w _
  refine ⟨rfl, ?_⟩
  refine jWp.callv (as := [jO m]) (rest := []) mt rfl rfl rfl ⟨rfl, jtg hW.K0⟩ ?_
  refine jCall.mono (E_here (w := w) (F := F) (p := p) (t := t) hW hF hF72 hp (by omega) ht hL) (fun v9 w9 h9 => ?_)
  obtain ⟨rfl, h9⟩ := h9
  subst w9
  show jWp 202 4 [some (jO m), none, none, none, none, none] [jI (zlt t F p)] 0 0 w _
  refine jWp.blk mt 2 ?_
  show jWp 202 6 [some (jO m), some (jI (zlt t F p)), none, none, none, none] [jI (zlt t F p)] 0 0 w _
  refine jWp.calls (as := [jI (zlt t F p)]) (rest := []) mt rfl rfl rfl rfl ?_
  refine jCall.mono (E_figuresOf (c := zlt t F p) (by have := zlt_b hL p; exact ⟨by omega, by omega⟩)) (fun v9 w9 h9 => ?_)
  obtain ⟨rfl, h9⟩ := h9
  subst w9
  rcases (show (zlt t F p = 110 ∨ zlt t F p = 109) ∨ (zlt t F p = 115 ∨ zlt t F p = 119) ∨ zlt t F p = 98 ∨ (zlt t F p ≠ 110 ∧ zlt t F p ≠ 109 ∧ zlt t F p ≠ 115 ∧ zlt t F p ≠ 119 ∧ zlt t F p ≠ 98) by omega) with h1 | h1 | h1 | h1
  · rw [show zdc (zlt t F p) = 1 by unfold zdc; rw [if_pos (by omega)]]
    show jWp 202 9 [some (jO m), some (jI (zlt t F p)), none, none, none, none] [jI 1] 0 0 w _
    refine jWp.blk mt 2 ?_
    show jWp 202 11 [some (jO m), some (jI (zlt t F p)), some (jI 1), none, none, none] [jI 1] 0 0 w _
    refine jWp.ifc (b := true) mt rfl (by decide) rfl ?_
    show jWp 202 16 [some (jO m), some (jI (zlt t F p)), some (jI 1), none, none, none] [] 0 0 w _
    refine jWp.blk mt 2 ?_
    show _ ∧ _ ∧ jWp 202 18 [some (jO m), some (jI (zlt t F p)), some (jI 1), none, none, none] [jO m, jO m] 0 0 w _
    refine ⟨rfl, rfl, ?_⟩
    refine jWp.getI (pc' := 21) mt rfl rfl (jtg hW.K0) ?_
    rw [show (w.1 m 25) = (p : Int) from hp]
    show jWp 202 21 [some (jO m), some (jI (zlt t F p)), some (jI 1), none, none, none] [jI (p : Int), jO m] 0 0 w _
    refine jWp.blk mt 2 ?_
    show jWp 202 23 [some (jO m), some (jI (zlt t F p)), some (jI 1), none, none, none] [jI ((p : Int) + 1), jO m] 0 0 w _
    refine jWp.putI (pc' := 26) mt rfl rfl (jtg hW.K0) ?_
    show jWp 202 26 [some (jO m), some (jI (zlt t F p)), some (jI 1), none, none, none] [] 0 0 (jW w m 25 ((p : Int) + 1)) _
    refine jWp.blk mt 6 ?_
    show jWp 202 34 [some (jO m), some (jI (zlt t F p)), some (jI 1), some (jI 1), some (jI 0), none] [jI 1, jI 0] 0 0 (jW w m 25 ((p : Int) + 1)) _
    refine jWp.icmp (pc' := 37) mt rfl rfl (show b32 0 = 0 by decide) (show b32 1 = 1 by decide) (fun h2 => ?_) (fun h2 => ?_)
    · exact absurd (show 1 ≤ (0 : Int) from h2) (by decide)
    · have h2 := h2
      refine jWp.blk mt 1 ?_
      show jWp 202 38 [some (jO m), some (jI (zlt t F p)), some (jI 1), some (jI 1), some (jI 0), none] [jI 1] 0 0 (jW w m 25 ((p : Int) + 1)) _
      refine jWp.ifc (b := false) mt rfl (by decide) rfl ?_
      show jWp 202 41 [some (jO m), some (jI (zlt t F p)), some (jI 1), some (jI 1), some (jI 0), none] [] 0 0 (jW w m 25 ((p : Int) + 1)) _
      refine jWp.blk mt 2 ?_
      show jWp 202 44 [some (jO m), some (jI (zlt t F p)), some (jI 1), some (jI 1), some (jI 0), none] [jI 98, jI (zlt t F p)] 0 0 (jW w m 25 ((p : Int) + 1)) _
      refine jWp.icmp (pc' := 47) mt rfl rfl (b32_id (by have := zlt_b hL p; omega) (by have := zlt_b hL p; omega)) (show b32 98 = 98 by decide) (fun h3 => ?_) (fun h3 => ?_)
      · have h3 : (zlt t F p) ≠ 98 := h3
        refine jWp.blk mt 4 ?_
        show _ ∧ jWp 202 72 [some (jO m), some (jI (zlt t F p)), some (jI 1), some (jI 1), some (jI 0), some (jI 0)] [jI 0, jO m] 0 0 (jW w m 25 ((p : Int) + 1)) _
        refine ⟨rfl, ?_⟩
        refine jWp.callv (as := [jO m, jI 0]) (rest := []) mt rfl rfl rfl ⟨rfl, jtg hW.K0⟩ ?_
        refine jCall.mono (E_hasFigure (w := (jW w m 25 ((p : Int) + 1))) (F := F) (p := (p + 1)) (t := t) hW (((jW_k (by decide)).trans rfl).trans hF) hF72 (jW_s.trans (by omega)) (by omega) (((jW_f (by omega)).trans rfl).trans ht) hL (k := 0) (by decide)) (fun v9 w9 h9 => ?_)
        rcases h9 with ⟨rfl, h9, h4⟩ | ⟨rfl, h9, h4⟩ <;> subst h9
        · have h4' := h4
          show jWp 202 75 [some (jO m), some (jI (zlt t F p)), some (jI 1), some (jI 1), some (jI 0), some (jI 0)] [jI 1] 0 0 (jW (jW (jW w m 25 ((p : Int) + 1)) (m + 422) 0 (zlt t F (p + 1) - 48)) m 25 ((p + 2 : Nat) : Int)) _
          refine jWp.blk mt 2 ?_
          show _ ∧ jWp 202 77 [some (jO m), some (jI (zlt t F p)), some (jI 1), some (jI 1), some (jI 0), some (jI 0)] [jO m] 0 0 (jW (jW (jW w m 25 ((p : Int) + 1)) (m + 422) 0 (zlt t F (p + 1) - 48)) m 25 ((p + 2 : Nat) : Int)) _
          refine ⟨rfl, ?_⟩
          refine jWp.getR (pc' := 80) (o := (m + 422)) mt rfl rfl (jtg hW.K0) hW.R26 ?_
          show jWp 202 80 [some (jO m), some (jI (zlt t F p)), some (jI 1), some (jI 1), some (jI 0), some (jI 0)] [jO (m + 422)] 0 0 (jW (jW (jW w m 25 ((p : Int) + 1)) (m + 422) 0 (zlt t F (p + 1) - 48)) m 25 ((p + 2 : Nat) : Int)) _
          refine jWp.blk mt 2 ?_
          show jWp 202 84 [some (jO m), some (jI (zlt t F p)), some (jI 1), some (jI 1), some (jI 0), some (jI 0)] [jI 0, jI 0, jO (m + 422)] 0 0 (jW (jW (jW w m 25 ((p : Int) + 1)) (m + 422) 0 (zlt t F (p + 1) - 48)) m 25 ((p + 2 : Nat) : Int)) _
          refine jWp.ifc (b := true) mt rfl (by decide) rfl ?_
          show jWp 202 98 [some (jO m), some (jI (zlt t F p)), some (jI 1), some (jI 1), some (jI 0), some (jI 0)] [jI 0, jO (m + 422)] 0 0 (jW (jW (jW w m 25 ((p : Int) + 1)) (m + 422) 0 (zlt t F (p + 1) - 48)) m 25 ((p + 2 : Nat) : Int)) _
          refine jWp.blk mt 1 ?_
          show _ ∧ jWp 202 99 [some (jO m), some (jI (zlt t F p)), some (jI 1), some (jI 1), some (jI 0), some (jI 0)] [jO m, jI 0, jO (m + 422)] 0 0 (jW (jW (jW w m 25 ((p : Int) + 1)) (m + 422) 0 (zlt t F (p + 1) - 48)) m 25 ((p + 2 : Nat) : Int)) _
          refine ⟨rfl, ?_⟩
          refine jWp.getR (pc' := 102) (o := (m + 422)) mt rfl rfl (jtg hW.K0) hW.R26 ?_
          show jWp 202 102 [some (jO m), some (jI (zlt t F p)), some (jI 1), some (jI 1), some (jI 0), some (jI 0)] [jO (m + 422), jI 0, jO (m + 422)] 0 0 (jW (jW (jW w m 25 ((p : Int) + 1)) (m + 422) 0 (zlt t F (p + 1) - 48)) m 25 ((p + 2 : Nat) : Int)) _
          refine jWp.blk mt 1 ?_
          show jWp 202 104 [some (jO m), some (jI (zlt t F p)), some (jI 1), some (jI 1), some (jI 0), some (jI 0)] [jI 0, jO (m + 422), jI 0, jO (m + 422)] 0 0 (jW (jW (jW w m 25 ((p : Int) + 1)) (m + 422) 0 (zlt t F (p + 1) - 48)) m 25 ((p + 2 : Nat) : Int)) _
          refine jWp.iald (pc' := 105) (j := 0) mt rfl rfl (jird_of hW.K422) (by decide) (jlt hW.K422 (by decide)) ?_
          rw [show ((jW (jW (jW w m 25 ((p : Int) + 1)) (m + 422) 0 (zlt t F (p + 1) - 48)) m 25 ((p + 2 : Nat) : Int)).1 (m + 422) 0) = (zlt t F (p + 1) - 48) from ((jW_a (by omega)).trans jW_s)]
          show jWp 202 105 [some (jO m), some (jI (zlt t F p)), some (jI 1), some (jI 1), some (jI 0), some (jI 0)] [jI (zlt t F (p + 1) - 48), jI 0, jO (m + 422)] 0 0 (jW (jW (jW w m 25 ((p : Int) + 1)) (m + 422) 0 (zlt t F (p + 1) - 48)) m 25 ((p + 2 : Nat) : Int)) _
          refine jWp.iast (pc' := 106) (j := 0) mt rfl rfl (jtg hW.K422) (by decide) (jlt hW.K422 (by decide)) ?_
          show jWp 202 106 [some (jO m), some (jI (zlt t F p)), some (jI 1), some (jI 1), some (jI 0), some (jI 0)] [] 0 0 (jW (jW (jW (jW w m 25 ((p : Int) + 1)) (m + 422) 0 (zlt t F (p + 1) - 48)) m 25 ((p + 2 : Nat) : Int)) (m + 422) 0 (zlt t F (p + 1) - 48)) _
          refine jWp.blk mt 4 ?_
          show jWp 202 34 [some (jO m), some (jI (zlt t F p)), some (jI 1), some (jI 1), some (jI 1), some (jI 0)] [jI 1, jI 1] 0 0 (jW (jW (jW (jW w m 25 ((p : Int) + 1)) (m + 422) 0 (zlt t F (p + 1) - 48)) m 25 ((p + 2 : Nat) : Int)) (m + 422) 0 (zlt t F (p + 1) - 48)) _
          refine jWp.icmp (pc' := 37) mt rfl rfl (show b32 1 = 1 by decide) (show b32 1 = 1 by decide) (fun h5 => ?_) (fun h5 => ?_)
          · have h5 := h5
            refine jWp.blk mt 1 ?_
            show jWp 202 113 [some (jO m), some (jI (zlt t F p)), some (jI 1), some (jI 1), some (jI 1), some (jI 0)] [jI 1] 0 0 (jW (jW (jW (jW w m 25 ((p : Int) + 1)) (m + 422) 0 (zlt t F (p + 1) - 48)) m 25 ((p + 2 : Nat) : Int)) (m + 422) 0 (zlt t F (p + 1) - 48)) _
            refine jWp.ifc (b := false) mt rfl (by decide) rfl ?_
            show jWp 202 116 [some (jO m), some (jI (zlt t F p)), some (jI 1), some (jI 1), some (jI 1), some (jI 0)] [] 0 0 (jW (jW (jW (jW w m 25 ((p : Int) + 1)) (m + 422) 0 (zlt t F (p + 1) - 48)) m 25 ((p + 2 : Nat) : Int)) (m + 422) 0 (zlt t F (p + 1) - 48)) _
            refine jWp.blk mt 2 ?_
            show _ ∧ jWp 202 119 [some (jO m), some (jI (zlt t F p)), some (jI 1), some (jI 1), some (jI 1), some (jI 0)] [jI 59, jO m] 0 0 (jW (jW (jW (jW w m 25 ((p : Int) + 1)) (m + 422) 0 (zlt t F (p + 1) - 48)) m 25 ((p + 2 : Nat) : Int)) (m + 422) 0 (zlt t F (p + 1) - 48)) _
            refine ⟨rfl, ?_⟩
            refine jWp.callv (as := [jO m, jI 59]) (rest := []) mt rfl rfl rfl ⟨rfl, jtg hW.K0⟩ ?_
            refine jCall.mono (E_takes (w := (jW (jW (jW (jW w m 25 ((p : Int) + 1)) (m + 422) 0 (zlt t F (p + 1) - 48)) m 25 ((p + 2 : Nat) : Int)) (m + 422) 0 (zlt t F (p + 1) - 48))) (F := F) (p := (p + 2)) (t := t) hW (((jW_a (by omega)).trans ((jW_k (by decide)).trans ((jW_a (by omega)).trans ((jW_k (by decide)).trans rfl)))).trans hF) hF72 (((jW_a (by omega)).trans jW_s).trans (by omega)) (by omega) (((jW_f (by omega)).trans ((jW_f (by omega)).trans ((jW_f (by omega)).trans ((jW_f (by omega)).trans rfl)))).trans ht) hL (c := 59) (by unfold r32; decide)) (fun v9 w9 h9 => ?_)
            rcases h9 with ⟨rfl, h9, h6⟩ | ⟨rfl, h9, h6⟩ <;> subst h9
            · have h6' := h6
              show jWp 202 122 [some (jO m), some (jI (zlt t F p)), some (jI 1), some (jI 1), some (jI 1), some (jI 0)] [jI 1] 0 0 (jW (jW (jW (jW (jW w m 25 ((p : Int) + 1)) (m + 422) 0 (zlt t F (p + 1) - 48)) m 25 ((p + 2 : Nat) : Int)) (m + 422) 0 (zlt t F (p + 1) - 48)) m 25 ((p + 3 : Nat) : Int)) _
              refine jWp.ifc (b := false) mt rfl (by decide) rfl ?_
              show jWp 202 125 [some (jO m), some (jI (zlt t F p)), some (jI 1), some (jI 1), some (jI 1), some (jI 0)] [] 0 0 (jW (jW (jW (jW (jW w m 25 ((p : Int) + 1)) (m + 422) 0 (zlt t F (p + 1) - 48)) m 25 ((p + 2 : Nat) : Int)) (m + 422) 0 (zlt t F (p + 1) - 48)) m 25 ((p + 3 : Nat) : Int)) _
              refine jWp.blk mt 2 ?_
              show jWp 202 130 [some (jO m), some (jI (zlt t F p)), some (jI 1), some (jI 1), some (jI 1), some (jI 0)] [jI 1] 0 0 (jW (jW (jW (jW (jW w m 25 ((p : Int) + 1)) (m + 422) 0 (zlt t F (p + 1) - 48)) m 25 ((p + 2 : Nat) : Int)) (m + 422) 0 (zlt t F (p + 1) - 48)) m 25 ((p + 3 : Nat) : Int)) _
              refine jWp.iretz mt rfl ⟨rfl, rfl⟩ rfl (Or.inr rfl) ?_
              have hl9 := zlt_l (t := t) (F := F) (by assumption : zlt t F (p + 2) = 59) (by decide)
              refine ⟨(p + 3), ⟨rfl, fun a ga gb => ((jW_f (by omega)).trans ((jW_f (by omega)).trans ((jW_f (by omega)).trans ((jW_f (by omega)).trans ((jW_f (by omega)).trans rfl))))), fun j gj => ((jW_k (by omega)).trans ((jW_a (by omega)).trans ((jW_k (by omega)).trans ((jW_a (by omega)).trans ((jW_k (by omega)).trans rfl)))))⟩, jW_s, Or.inl ⟨rfl, ?_, by omega, by omega, by omega, by omega, ⟨((jW_a (by omega)).trans jW_s).trans ?_, by rw [((jW_a (by omega)).trans jW_s)]; omega, by rw [((jW_a (by omega)).trans jW_s)]; omega⟩, ?_, ?_⟩⟩
              · unfold zbh zfn
                (repeat' split) <;> omega
              · unfold zfg
                split <;> omega
              · intro hc9
                first
                | (exfalso; omega)
                | (rw [((jW_a (by omega)).trans ((jW_k (by decide)).trans ((jW_a (by omega)).trans ((jW_k (by decide)).trans ((jW_a (by omega)).trans rfl)))))]
                   refine ⟨?_, by omega, by omega⟩
                   unfold zfg
                   split <;> omega)
              · intro hc9
                first
                | (exfalso; omega)
                | (rw [((jW_a (by omega)).trans ((jW_k (by decide)).trans ((jW_a (by omega)).trans ((jW_k (by decide)).trans ((jW_a (by omega)).trans rfl)))))]
                   refine ⟨?_, by omega, by omega⟩
                   unfold znm zfg
                   try rw [show p + 3 + 1 = p + 4 from rfl]
                   (repeat' split) <;> omega)
            · have h6' := h6
              show jWp 202 122 [some (jO m), some (jI (zlt t F p)), some (jI 1), some (jI 1), some (jI 1), some (jI 0)] [jI 0] 0 0 (jW (jW (jW (jW w m 25 ((p : Int) + 1)) (m + 422) 0 (zlt t F (p + 1) - 48)) m 25 ((p + 2 : Nat) : Int)) (m + 422) 0 (zlt t F (p + 1) - 48)) _
              refine jWp.ifc (b := true) mt rfl (by decide) rfl ?_
              show jWp 202 129 [some (jO m), some (jI (zlt t F p)), some (jI 1), some (jI 1), some (jI 1), some (jI 0)] [] 0 0 (jW (jW (jW (jW w m 25 ((p : Int) + 1)) (m + 422) 0 (zlt t F (p + 1) - 48)) m 25 ((p + 2 : Nat) : Int)) (m + 422) 0 (zlt t F (p + 1) - 48)) _
              refine jWp.blk mt 1 ?_
              show jWp 202 130 [some (jO m), some (jI (zlt t F p)), some (jI 1), some (jI 1), some (jI 1), some (jI 0)] [jI 0] 0 0 (jW (jW (jW (jW w m 25 ((p : Int) + 1)) (m + 422) 0 (zlt t F (p + 1) - 48)) m 25 ((p + 2 : Nat) : Int)) (m + 422) 0 (zlt t F (p + 1) - 48)) _
              refine jWp.iretz mt rfl ⟨rfl, rfl⟩ rfl (Or.inl rfl) ?_
              refine ⟨(p + 2), ⟨rfl, fun a ga gb => ((jW_f (by omega)).trans ((jW_f (by omega)).trans ((jW_f (by omega)).trans ((jW_f (by omega)).trans rfl)))), fun j gj => ((jW_a (by omega)).trans ((jW_k (by omega)).trans ((jW_a (by omega)).trans ((jW_k (by omega)).trans rfl))))⟩, ((jW_a (by omega)).trans jW_s).trans (by omega), Or.inr ⟨rfl, ?_, by omega, by omega⟩⟩
              unfold zbh zfn
              (repeat' split) <;> omega
          · exact absurd (show (1 : Int) < 1 from h5) (by decide)
        · have h4' := h4
          show jWp 202 75 [some (jO m), some (jI (zlt t F p)), some (jI 1), some (jI 1), some (jI 0), some (jI 0)] [jI 0] 0 0 (jW (jW w m 25 ((p : Int) + 1)) (m + 422) 0 0) _
          refine jWp.blk mt 2 ?_
          show _ ∧ jWp 202 77 [some (jO m), some (jI (zlt t F p)), some (jI 1), some (jI 0), some (jI 0), some (jI 0)] [jO m] 0 0 (jW (jW w m 25 ((p : Int) + 1)) (m + 422) 0 0) _
          refine ⟨rfl, ?_⟩
          refine jWp.getR (pc' := 80) (o := (m + 422)) mt rfl rfl (jtg hW.K0) hW.R26 ?_
          show jWp 202 80 [some (jO m), some (jI (zlt t F p)), some (jI 1), some (jI 0), some (jI 0), some (jI 0)] [jO (m + 422)] 0 0 (jW (jW w m 25 ((p : Int) + 1)) (m + 422) 0 0) _
          refine jWp.blk mt 2 ?_
          show jWp 202 84 [some (jO m), some (jI (zlt t F p)), some (jI 1), some (jI 0), some (jI 0), some (jI 0)] [jI 0, jI 0, jO (m + 422)] 0 0 (jW (jW w m 25 ((p : Int) + 1)) (m + 422) 0 0) _
          refine jWp.ifc (b := true) mt rfl (by decide) rfl ?_
          show jWp 202 98 [some (jO m), some (jI (zlt t F p)), some (jI 1), some (jI 0), some (jI 0), some (jI 0)] [jI 0, jO (m + 422)] 0 0 (jW (jW w m 25 ((p : Int) + 1)) (m + 422) 0 0) _
          refine jWp.blk mt 1 ?_
          show _ ∧ jWp 202 99 [some (jO m), some (jI (zlt t F p)), some (jI 1), some (jI 0), some (jI 0), some (jI 0)] [jO m, jI 0, jO (m + 422)] 0 0 (jW (jW w m 25 ((p : Int) + 1)) (m + 422) 0 0) _
          refine ⟨rfl, ?_⟩
          refine jWp.getR (pc' := 102) (o := (m + 422)) mt rfl rfl (jtg hW.K0) hW.R26 ?_
          show jWp 202 102 [some (jO m), some (jI (zlt t F p)), some (jI 1), some (jI 0), some (jI 0), some (jI 0)] [jO (m + 422), jI 0, jO (m + 422)] 0 0 (jW (jW w m 25 ((p : Int) + 1)) (m + 422) 0 0) _
          refine jWp.blk mt 1 ?_
          show jWp 202 104 [some (jO m), some (jI (zlt t F p)), some (jI 1), some (jI 0), some (jI 0), some (jI 0)] [jI 0, jO (m + 422), jI 0, jO (m + 422)] 0 0 (jW (jW w m 25 ((p : Int) + 1)) (m + 422) 0 0) _
          refine jWp.iald (pc' := 105) (j := 0) mt rfl rfl (jird_of hW.K422) (by decide) (jlt hW.K422 (by decide)) ?_
          rw [show ((jW (jW w m 25 ((p : Int) + 1)) (m + 422) 0 0).1 (m + 422) 0) = 0 from jW_s]
          show jWp 202 105 [some (jO m), some (jI (zlt t F p)), some (jI 1), some (jI 0), some (jI 0), some (jI 0)] [jI 0, jI 0, jO (m + 422)] 0 0 (jW (jW w m 25 ((p : Int) + 1)) (m + 422) 0 0) _
          refine jWp.iast (pc' := 106) (j := 0) mt rfl rfl (jtg hW.K422) (by decide) (jlt hW.K422 (by decide)) ?_
          show jWp 202 106 [some (jO m), some (jI (zlt t F p)), some (jI 1), some (jI 0), some (jI 0), some (jI 0)] [] 0 0 (jW (jW (jW w m 25 ((p : Int) + 1)) (m + 422) 0 0) (m + 422) 0 0) _
          refine jWp.blk mt 4 ?_
          show jWp 202 34 [some (jO m), some (jI (zlt t F p)), some (jI 1), some (jI 0), some (jI 1), some (jI 0)] [jI 1, jI 1] 0 0 (jW (jW (jW w m 25 ((p : Int) + 1)) (m + 422) 0 0) (m + 422) 0 0) _
          refine jWp.icmp (pc' := 37) mt rfl rfl (show b32 1 = 1 by decide) (show b32 1 = 1 by decide) (fun h7 => ?_) (fun h7 => ?_)
          · have h7 := h7
            refine jWp.blk mt 1 ?_
            show jWp 202 113 [some (jO m), some (jI (zlt t F p)), some (jI 1), some (jI 0), some (jI 1), some (jI 0)] [jI 0] 0 0 (jW (jW (jW w m 25 ((p : Int) + 1)) (m + 422) 0 0) (m + 422) 0 0) _
            refine jWp.ifc (b := true) mt rfl (by decide) rfl ?_
            show jWp 202 129 [some (jO m), some (jI (zlt t F p)), some (jI 1), some (jI 0), some (jI 1), some (jI 0)] [] 0 0 (jW (jW (jW w m 25 ((p : Int) + 1)) (m + 422) 0 0) (m + 422) 0 0) _
            refine jWp.blk mt 1 ?_
            show jWp 202 130 [some (jO m), some (jI (zlt t F p)), some (jI 1), some (jI 0), some (jI 1), some (jI 0)] [jI 0] 0 0 (jW (jW (jW w m 25 ((p : Int) + 1)) (m + 422) 0 0) (m + 422) 0 0) _
            refine jWp.iretz mt rfl ⟨rfl, rfl⟩ rfl (Or.inl rfl) ?_
            refine ⟨(p + 1), ⟨rfl, fun a ga gb => ((jW_f (by omega)).trans ((jW_f (by omega)).trans ((jW_f (by omega)).trans rfl))), fun j gj => ((jW_a (by omega)).trans ((jW_a (by omega)).trans ((jW_k (by omega)).trans rfl)))⟩, ((jW_a (by omega)).trans ((jW_a (by omega)).trans jW_s)).trans (by omega), Or.inr ⟨rfl, ?_, by omega, by omega⟩⟩
            unfold zbh zfn
            (repeat' split) <;> omega
          · exact absurd (show (1 : Int) < 1 from h7) (by decide)
      · have h3 : (zlt t F p) = 98 := h3
        exfalso; omega
  · rw [show zdc (zlt t F p) = 2 by unfold zdc; rw [if_neg (by omega), if_pos (by omega)]]
    show jWp 202 9 [some (jO m), some (jI (zlt t F p)), none, none, none, none] [jI 2] 0 0 w _
    refine jWp.blk mt 2 ?_
    show jWp 202 11 [some (jO m), some (jI (zlt t F p)), some (jI 2), none, none, none] [jI 2] 0 0 w _
    refine jWp.ifc (b := true) mt rfl (by decide) rfl ?_
    show jWp 202 16 [some (jO m), some (jI (zlt t F p)), some (jI 2), none, none, none] [] 0 0 w _
    refine jWp.blk mt 2 ?_
    show _ ∧ _ ∧ jWp 202 18 [some (jO m), some (jI (zlt t F p)), some (jI 2), none, none, none] [jO m, jO m] 0 0 w _
    refine ⟨rfl, rfl, ?_⟩
    refine jWp.getI (pc' := 21) mt rfl rfl (jtg hW.K0) ?_
    rw [show (w.1 m 25) = (p : Int) from hp]
    show jWp 202 21 [some (jO m), some (jI (zlt t F p)), some (jI 2), none, none, none] [jI (p : Int), jO m] 0 0 w _
    refine jWp.blk mt 2 ?_
    show jWp 202 23 [some (jO m), some (jI (zlt t F p)), some (jI 2), none, none, none] [jI ((p : Int) + 1), jO m] 0 0 w _
    refine jWp.putI (pc' := 26) mt rfl rfl (jtg hW.K0) ?_
    show jWp 202 26 [some (jO m), some (jI (zlt t F p)), some (jI 2), none, none, none] [] 0 0 (jW w m 25 ((p : Int) + 1)) _
    refine jWp.blk mt 6 ?_
    show jWp 202 34 [some (jO m), some (jI (zlt t F p)), some (jI 2), some (jI 1), some (jI 0), none] [jI 2, jI 0] 0 0 (jW w m 25 ((p : Int) + 1)) _
    refine jWp.icmp (pc' := 37) mt rfl rfl (show b32 0 = 0 by decide) (show b32 2 = 2 by decide) (fun h8 => ?_) (fun h8 => ?_)
    · exact absurd (show 2 ≤ (0 : Int) from h8) (by decide)
    · have h8 := h8
      refine jWp.blk mt 1 ?_
      show jWp 202 38 [some (jO m), some (jI (zlt t F p)), some (jI 2), some (jI 1), some (jI 0), none] [jI 1] 0 0 (jW w m 25 ((p : Int) + 1)) _
      refine jWp.ifc (b := false) mt rfl (by decide) rfl ?_
      show jWp 202 41 [some (jO m), some (jI (zlt t F p)), some (jI 2), some (jI 1), some (jI 0), none] [] 0 0 (jW w m 25 ((p : Int) + 1)) _
      refine jWp.blk mt 2 ?_
      show jWp 202 44 [some (jO m), some (jI (zlt t F p)), some (jI 2), some (jI 1), some (jI 0), none] [jI 98, jI (zlt t F p)] 0 0 (jW w m 25 ((p : Int) + 1)) _
      refine jWp.icmp (pc' := 47) mt rfl rfl (b32_id (by have := zlt_b hL p; omega) (by have := zlt_b hL p; omega)) (show b32 98 = 98 by decide) (fun h9 => ?_) (fun h9 => ?_)
      · have h9 : (zlt t F p) ≠ 98 := h9
        refine jWp.blk mt 4 ?_
        show _ ∧ jWp 202 72 [some (jO m), some (jI (zlt t F p)), some (jI 2), some (jI 1), some (jI 0), some (jI 0)] [jI 0, jO m] 0 0 (jW w m 25 ((p : Int) + 1)) _
        refine ⟨rfl, ?_⟩
        refine jWp.callv (as := [jO m, jI 0]) (rest := []) mt rfl rfl rfl ⟨rfl, jtg hW.K0⟩ ?_
        refine jCall.mono (E_hasFigure (w := (jW w m 25 ((p : Int) + 1))) (F := F) (p := (p + 1)) (t := t) hW (((jW_k (by decide)).trans rfl).trans hF) hF72 (jW_s.trans (by omega)) (by omega) (((jW_f (by omega)).trans rfl).trans ht) hL (k := 0) (by decide)) (fun v9 w9 h9 => ?_)
        rcases h9 with ⟨rfl, h9, h10⟩ | ⟨rfl, h9, h10⟩ <;> subst h9
        · have h10' := h10
          show jWp 202 75 [some (jO m), some (jI (zlt t F p)), some (jI 2), some (jI 1), some (jI 0), some (jI 0)] [jI 1] 0 0 (jW (jW (jW w m 25 ((p : Int) + 1)) (m + 422) 0 (zlt t F (p + 1) - 48)) m 25 ((p + 2 : Nat) : Int)) _
          refine jWp.blk mt 2 ?_
          show _ ∧ jWp 202 77 [some (jO m), some (jI (zlt t F p)), some (jI 2), some (jI 1), some (jI 0), some (jI 0)] [jO m] 0 0 (jW (jW (jW w m 25 ((p : Int) + 1)) (m + 422) 0 (zlt t F (p + 1) - 48)) m 25 ((p + 2 : Nat) : Int)) _
          refine ⟨rfl, ?_⟩
          refine jWp.getR (pc' := 80) (o := (m + 422)) mt rfl rfl (jtg hW.K0) hW.R26 ?_
          show jWp 202 80 [some (jO m), some (jI (zlt t F p)), some (jI 2), some (jI 1), some (jI 0), some (jI 0)] [jO (m + 422)] 0 0 (jW (jW (jW w m 25 ((p : Int) + 1)) (m + 422) 0 (zlt t F (p + 1) - 48)) m 25 ((p + 2 : Nat) : Int)) _
          refine jWp.blk mt 2 ?_
          show jWp 202 84 [some (jO m), some (jI (zlt t F p)), some (jI 2), some (jI 1), some (jI 0), some (jI 0)] [jI 0, jI 0, jO (m + 422)] 0 0 (jW (jW (jW w m 25 ((p : Int) + 1)) (m + 422) 0 (zlt t F (p + 1) - 48)) m 25 ((p + 2 : Nat) : Int)) _
          refine jWp.ifc (b := true) mt rfl (by decide) rfl ?_
          show jWp 202 98 [some (jO m), some (jI (zlt t F p)), some (jI 2), some (jI 1), some (jI 0), some (jI 0)] [jI 0, jO (m + 422)] 0 0 (jW (jW (jW w m 25 ((p : Int) + 1)) (m + 422) 0 (zlt t F (p + 1) - 48)) m 25 ((p + 2 : Nat) : Int)) _
          refine jWp.blk mt 1 ?_
          show _ ∧ jWp 202 99 [some (jO m), some (jI (zlt t F p)), some (jI 2), some (jI 1), some (jI 0), some (jI 0)] [jO m, jI 0, jO (m + 422)] 0 0 (jW (jW (jW w m 25 ((p : Int) + 1)) (m + 422) 0 (zlt t F (p + 1) - 48)) m 25 ((p + 2 : Nat) : Int)) _
          refine ⟨rfl, ?_⟩
          refine jWp.getR (pc' := 102) (o := (m + 422)) mt rfl rfl (jtg hW.K0) hW.R26 ?_
          show jWp 202 102 [some (jO m), some (jI (zlt t F p)), some (jI 2), some (jI 1), some (jI 0), some (jI 0)] [jO (m + 422), jI 0, jO (m + 422)] 0 0 (jW (jW (jW w m 25 ((p : Int) + 1)) (m + 422) 0 (zlt t F (p + 1) - 48)) m 25 ((p + 2 : Nat) : Int)) _
          refine jWp.blk mt 1 ?_
          show jWp 202 104 [some (jO m), some (jI (zlt t F p)), some (jI 2), some (jI 1), some (jI 0), some (jI 0)] [jI 0, jO (m + 422), jI 0, jO (m + 422)] 0 0 (jW (jW (jW w m 25 ((p : Int) + 1)) (m + 422) 0 (zlt t F (p + 1) - 48)) m 25 ((p + 2 : Nat) : Int)) _
          refine jWp.iald (pc' := 105) (j := 0) mt rfl rfl (jird_of hW.K422) (by decide) (jlt hW.K422 (by decide)) ?_
          rw [show ((jW (jW (jW w m 25 ((p : Int) + 1)) (m + 422) 0 (zlt t F (p + 1) - 48)) m 25 ((p + 2 : Nat) : Int)).1 (m + 422) 0) = (zlt t F (p + 1) - 48) from ((jW_a (by omega)).trans jW_s)]
          show jWp 202 105 [some (jO m), some (jI (zlt t F p)), some (jI 2), some (jI 1), some (jI 0), some (jI 0)] [jI (zlt t F (p + 1) - 48), jI 0, jO (m + 422)] 0 0 (jW (jW (jW w m 25 ((p : Int) + 1)) (m + 422) 0 (zlt t F (p + 1) - 48)) m 25 ((p + 2 : Nat) : Int)) _
          refine jWp.iast (pc' := 106) (j := 0) mt rfl rfl (jtg hW.K422) (by decide) (jlt hW.K422 (by decide)) ?_
          show jWp 202 106 [some (jO m), some (jI (zlt t F p)), some (jI 2), some (jI 1), some (jI 0), some (jI 0)] [] 0 0 (jW (jW (jW (jW w m 25 ((p : Int) + 1)) (m + 422) 0 (zlt t F (p + 1) - 48)) m 25 ((p + 2 : Nat) : Int)) (m + 422) 0 (zlt t F (p + 1) - 48)) _
          refine jWp.blk mt 4 ?_
          show jWp 202 34 [some (jO m), some (jI (zlt t F p)), some (jI 2), some (jI 1), some (jI 1), some (jI 0)] [jI 2, jI 1] 0 0 (jW (jW (jW (jW w m 25 ((p : Int) + 1)) (m + 422) 0 (zlt t F (p + 1) - 48)) m 25 ((p + 2 : Nat) : Int)) (m + 422) 0 (zlt t F (p + 1) - 48)) _
          refine jWp.icmp (pc' := 37) mt rfl rfl (show b32 1 = 1 by decide) (show b32 2 = 2 by decide) (fun h11 => ?_) (fun h11 => ?_)
          · exact absurd (show 2 ≤ (1 : Int) from h11) (by decide)
          · have h11 := h11
            refine jWp.blk mt 1 ?_
            show jWp 202 38 [some (jO m), some (jI (zlt t F p)), some (jI 2), some (jI 1), some (jI 1), some (jI 0)] [jI 1] 0 0 (jW (jW (jW (jW w m 25 ((p : Int) + 1)) (m + 422) 0 (zlt t F (p + 1) - 48)) m 25 ((p + 2 : Nat) : Int)) (m + 422) 0 (zlt t F (p + 1) - 48)) _
            refine jWp.ifc (b := false) mt rfl (by decide) rfl ?_
            show jWp 202 41 [some (jO m), some (jI (zlt t F p)), some (jI 2), some (jI 1), some (jI 1), some (jI 0)] [] 0 0 (jW (jW (jW (jW w m 25 ((p : Int) + 1)) (m + 422) 0 (zlt t F (p + 1) - 48)) m 25 ((p + 2 : Nat) : Int)) (m + 422) 0 (zlt t F (p + 1) - 48)) _
            refine jWp.blk mt 2 ?_
            show jWp 202 44 [some (jO m), some (jI (zlt t F p)), some (jI 2), some (jI 1), some (jI 1), some (jI 0)] [jI 98, jI (zlt t F p)] 0 0 (jW (jW (jW (jW w m 25 ((p : Int) + 1)) (m + 422) 0 (zlt t F (p + 1) - 48)) m 25 ((p + 2 : Nat) : Int)) (m + 422) 0 (zlt t F (p + 1) - 48)) _
            refine jWp.icmp (pc' := 47) mt rfl rfl (b32_id (by have := zlt_b hL p; omega) (by have := zlt_b hL p; omega)) (show b32 98 = 98 by decide) (fun h12 => ?_) (fun h12 => ?_)
            · have h12 : (zlt t F p) ≠ 98 := h12
              refine jWp.blk mt 4 ?_
              show _ ∧ jWp 202 72 [some (jO m), some (jI (zlt t F p)), some (jI 2), some (jI 1), some (jI 1), some (jI 0)] [jI 1, jO m] 0 0 (jW (jW (jW (jW w m 25 ((p : Int) + 1)) (m + 422) 0 (zlt t F (p + 1) - 48)) m 25 ((p + 2 : Nat) : Int)) (m + 422) 0 (zlt t F (p + 1) - 48)) _
              refine ⟨rfl, ?_⟩
              refine jWp.callv (as := [jO m, jI 1]) (rest := []) mt rfl rfl rfl ⟨rfl, jtg hW.K0⟩ ?_
              refine jCall.mono (E_hasFigure (w := (jW (jW (jW (jW w m 25 ((p : Int) + 1)) (m + 422) 0 (zlt t F (p + 1) - 48)) m 25 ((p + 2 : Nat) : Int)) (m + 422) 0 (zlt t F (p + 1) - 48))) (F := F) (p := (p + 2)) (t := t) hW (((jW_a (by omega)).trans ((jW_k (by decide)).trans ((jW_a (by omega)).trans ((jW_k (by decide)).trans rfl)))).trans hF) hF72 (((jW_a (by omega)).trans jW_s).trans (by omega)) (by omega) (((jW_f (by omega)).trans ((jW_f (by omega)).trans ((jW_f (by omega)).trans ((jW_f (by omega)).trans rfl)))).trans ht) hL (k := 1) (by decide)) (fun v9 w9 h9 => ?_)
              rcases h9 with ⟨rfl, h9, h13⟩ | ⟨rfl, h9, h13⟩ <;> subst h9
              · have h13' := h13
                show jWp 202 75 [some (jO m), some (jI (zlt t F p)), some (jI 2), some (jI 1), some (jI 1), some (jI 0)] [jI 1] 0 0 (jW (jW (jW (jW (jW (jW w m 25 ((p : Int) + 1)) (m + 422) 0 (zlt t F (p + 1) - 48)) m 25 ((p + 2 : Nat) : Int)) (m + 422) 0 (zlt t F (p + 1) - 48)) (m + 422) 1 (zlt t F (p + 2) - 48)) m 25 ((p + 3 : Nat) : Int)) _
                refine jWp.blk mt 2 ?_
                show _ ∧ jWp 202 77 [some (jO m), some (jI (zlt t F p)), some (jI 2), some (jI 1), some (jI 1), some (jI 0)] [jO m] 0 0 (jW (jW (jW (jW (jW (jW w m 25 ((p : Int) + 1)) (m + 422) 0 (zlt t F (p + 1) - 48)) m 25 ((p + 2 : Nat) : Int)) (m + 422) 0 (zlt t F (p + 1) - 48)) (m + 422) 1 (zlt t F (p + 2) - 48)) m 25 ((p + 3 : Nat) : Int)) _
                refine ⟨rfl, ?_⟩
                refine jWp.getR (pc' := 80) (o := (m + 422)) mt rfl rfl (jtg hW.K0) hW.R26 ?_
                show jWp 202 80 [some (jO m), some (jI (zlt t F p)), some (jI 2), some (jI 1), some (jI 1), some (jI 0)] [jO (m + 422)] 0 0 (jW (jW (jW (jW (jW (jW w m 25 ((p : Int) + 1)) (m + 422) 0 (zlt t F (p + 1) - 48)) m 25 ((p + 2 : Nat) : Int)) (m + 422) 0 (zlt t F (p + 1) - 48)) (m + 422) 1 (zlt t F (p + 2) - 48)) m 25 ((p + 3 : Nat) : Int)) _
                refine jWp.blk mt 2 ?_
                show jWp 202 84 [some (jO m), some (jI (zlt t F p)), some (jI 2), some (jI 1), some (jI 1), some (jI 0)] [jI 0, jI 1, jO (m + 422)] 0 0 (jW (jW (jW (jW (jW (jW w m 25 ((p : Int) + 1)) (m + 422) 0 (zlt t F (p + 1) - 48)) m 25 ((p + 2 : Nat) : Int)) (m + 422) 0 (zlt t F (p + 1) - 48)) (m + 422) 1 (zlt t F (p + 2) - 48)) m 25 ((p + 3 : Nat) : Int)) _
                refine jWp.ifc (b := true) mt rfl (by decide) rfl ?_
                show jWp 202 98 [some (jO m), some (jI (zlt t F p)), some (jI 2), some (jI 1), some (jI 1), some (jI 0)] [jI 1, jO (m + 422)] 0 0 (jW (jW (jW (jW (jW (jW w m 25 ((p : Int) + 1)) (m + 422) 0 (zlt t F (p + 1) - 48)) m 25 ((p + 2 : Nat) : Int)) (m + 422) 0 (zlt t F (p + 1) - 48)) (m + 422) 1 (zlt t F (p + 2) - 48)) m 25 ((p + 3 : Nat) : Int)) _
                refine jWp.blk mt 1 ?_
                show _ ∧ jWp 202 99 [some (jO m), some (jI (zlt t F p)), some (jI 2), some (jI 1), some (jI 1), some (jI 0)] [jO m, jI 1, jO (m + 422)] 0 0 (jW (jW (jW (jW (jW (jW w m 25 ((p : Int) + 1)) (m + 422) 0 (zlt t F (p + 1) - 48)) m 25 ((p + 2 : Nat) : Int)) (m + 422) 0 (zlt t F (p + 1) - 48)) (m + 422) 1 (zlt t F (p + 2) - 48)) m 25 ((p + 3 : Nat) : Int)) _
                refine ⟨rfl, ?_⟩
                refine jWp.getR (pc' := 102) (o := (m + 422)) mt rfl rfl (jtg hW.K0) hW.R26 ?_
                show jWp 202 102 [some (jO m), some (jI (zlt t F p)), some (jI 2), some (jI 1), some (jI 1), some (jI 0)] [jO (m + 422), jI 1, jO (m + 422)] 0 0 (jW (jW (jW (jW (jW (jW w m 25 ((p : Int) + 1)) (m + 422) 0 (zlt t F (p + 1) - 48)) m 25 ((p + 2 : Nat) : Int)) (m + 422) 0 (zlt t F (p + 1) - 48)) (m + 422) 1 (zlt t F (p + 2) - 48)) m 25 ((p + 3 : Nat) : Int)) _
                refine jWp.blk mt 1 ?_
                show jWp 202 104 [some (jO m), some (jI (zlt t F p)), some (jI 2), some (jI 1), some (jI 1), some (jI 0)] [jI 1, jO (m + 422), jI 1, jO (m + 422)] 0 0 (jW (jW (jW (jW (jW (jW w m 25 ((p : Int) + 1)) (m + 422) 0 (zlt t F (p + 1) - 48)) m 25 ((p + 2 : Nat) : Int)) (m + 422) 0 (zlt t F (p + 1) - 48)) (m + 422) 1 (zlt t F (p + 2) - 48)) m 25 ((p + 3 : Nat) : Int)) _
                refine jWp.iald (pc' := 105) (j := 1) mt rfl rfl (jird_of hW.K422) (by decide) (jlt hW.K422 (by decide)) ?_
                rw [show ((jW (jW (jW (jW (jW (jW w m 25 ((p : Int) + 1)) (m + 422) 0 (zlt t F (p + 1) - 48)) m 25 ((p + 2 : Nat) : Int)) (m + 422) 0 (zlt t F (p + 1) - 48)) (m + 422) 1 (zlt t F (p + 2) - 48)) m 25 ((p + 3 : Nat) : Int)).1 (m + 422) 1) = (zlt t F (p + 2) - 48) from ((jW_a (by omega)).trans jW_s)]
                show jWp 202 105 [some (jO m), some (jI (zlt t F p)), some (jI 2), some (jI 1), some (jI 1), some (jI 0)] [jI (zlt t F (p + 2) - 48), jI 1, jO (m + 422)] 0 0 (jW (jW (jW (jW (jW (jW w m 25 ((p : Int) + 1)) (m + 422) 0 (zlt t F (p + 1) - 48)) m 25 ((p + 2 : Nat) : Int)) (m + 422) 0 (zlt t F (p + 1) - 48)) (m + 422) 1 (zlt t F (p + 2) - 48)) m 25 ((p + 3 : Nat) : Int)) _
                refine jWp.iast (pc' := 106) (j := 1) mt rfl rfl (jtg hW.K422) (by decide) (jlt hW.K422 (by decide)) ?_
                show jWp 202 106 [some (jO m), some (jI (zlt t F p)), some (jI 2), some (jI 1), some (jI 1), some (jI 0)] [] 0 0 (jW (jW (jW (jW (jW (jW (jW w m 25 ((p : Int) + 1)) (m + 422) 0 (zlt t F (p + 1) - 48)) m 25 ((p + 2 : Nat) : Int)) (m + 422) 0 (zlt t F (p + 1) - 48)) (m + 422) 1 (zlt t F (p + 2) - 48)) m 25 ((p + 3 : Nat) : Int)) (m + 422) 1 (zlt t F (p + 2) - 48)) _
                refine jWp.blk mt 4 ?_
                show jWp 202 34 [some (jO m), some (jI (zlt t F p)), some (jI 2), some (jI 1), some (jI 2), some (jI 0)] [jI 2, jI 2] 0 0 (jW (jW (jW (jW (jW (jW (jW w m 25 ((p : Int) + 1)) (m + 422) 0 (zlt t F (p + 1) - 48)) m 25 ((p + 2 : Nat) : Int)) (m + 422) 0 (zlt t F (p + 1) - 48)) (m + 422) 1 (zlt t F (p + 2) - 48)) m 25 ((p + 3 : Nat) : Int)) (m + 422) 1 (zlt t F (p + 2) - 48)) _
                refine jWp.icmp (pc' := 37) mt rfl rfl (show b32 2 = 2 by decide) (show b32 2 = 2 by decide) (fun h14 => ?_) (fun h14 => ?_)
                · have h14 := h14
                  refine jWp.blk mt 1 ?_
                  show jWp 202 113 [some (jO m), some (jI (zlt t F p)), some (jI 2), some (jI 1), some (jI 2), some (jI 0)] [jI 1] 0 0 (jW (jW (jW (jW (jW (jW (jW w m 25 ((p : Int) + 1)) (m + 422) 0 (zlt t F (p + 1) - 48)) m 25 ((p + 2 : Nat) : Int)) (m + 422) 0 (zlt t F (p + 1) - 48)) (m + 422) 1 (zlt t F (p + 2) - 48)) m 25 ((p + 3 : Nat) : Int)) (m + 422) 1 (zlt t F (p + 2) - 48)) _
                  refine jWp.ifc (b := false) mt rfl (by decide) rfl ?_
                  show jWp 202 116 [some (jO m), some (jI (zlt t F p)), some (jI 2), some (jI 1), some (jI 2), some (jI 0)] [] 0 0 (jW (jW (jW (jW (jW (jW (jW w m 25 ((p : Int) + 1)) (m + 422) 0 (zlt t F (p + 1) - 48)) m 25 ((p + 2 : Nat) : Int)) (m + 422) 0 (zlt t F (p + 1) - 48)) (m + 422) 1 (zlt t F (p + 2) - 48)) m 25 ((p + 3 : Nat) : Int)) (m + 422) 1 (zlt t F (p + 2) - 48)) _
                  refine jWp.blk mt 2 ?_
                  show _ ∧ jWp 202 119 [some (jO m), some (jI (zlt t F p)), some (jI 2), some (jI 1), some (jI 2), some (jI 0)] [jI 59, jO m] 0 0 (jW (jW (jW (jW (jW (jW (jW w m 25 ((p : Int) + 1)) (m + 422) 0 (zlt t F (p + 1) - 48)) m 25 ((p + 2 : Nat) : Int)) (m + 422) 0 (zlt t F (p + 1) - 48)) (m + 422) 1 (zlt t F (p + 2) - 48)) m 25 ((p + 3 : Nat) : Int)) (m + 422) 1 (zlt t F (p + 2) - 48)) _
                  refine ⟨rfl, ?_⟩
                  refine jWp.callv (as := [jO m, jI 59]) (rest := []) mt rfl rfl rfl ⟨rfl, jtg hW.K0⟩ ?_
                  refine jCall.mono (E_takes (w := (jW (jW (jW (jW (jW (jW (jW w m 25 ((p : Int) + 1)) (m + 422) 0 (zlt t F (p + 1) - 48)) m 25 ((p + 2 : Nat) : Int)) (m + 422) 0 (zlt t F (p + 1) - 48)) (m + 422) 1 (zlt t F (p + 2) - 48)) m 25 ((p + 3 : Nat) : Int)) (m + 422) 1 (zlt t F (p + 2) - 48))) (F := F) (p := (p + 3)) (t := t) hW (((jW_a (by omega)).trans ((jW_k (by decide)).trans ((jW_a (by omega)).trans ((jW_a (by omega)).trans ((jW_k (by decide)).trans ((jW_a (by omega)).trans ((jW_k (by decide)).trans rfl))))))).trans hF) hF72 (((jW_a (by omega)).trans jW_s).trans (by omega)) (by omega) (((jW_f (by omega)).trans ((jW_f (by omega)).trans ((jW_f (by omega)).trans ((jW_f (by omega)).trans ((jW_f (by omega)).trans ((jW_f (by omega)).trans ((jW_f (by omega)).trans rfl))))))).trans ht) hL (c := 59) (by unfold r32; decide)) (fun v9 w9 h9 => ?_)
                  rcases h9 with ⟨rfl, h9, h15⟩ | ⟨rfl, h9, h15⟩ <;> subst h9
                  · have h15' := h15
                    show jWp 202 122 [some (jO m), some (jI (zlt t F p)), some (jI 2), some (jI 1), some (jI 2), some (jI 0)] [jI 1] 0 0 (jW (jW (jW (jW (jW (jW (jW (jW w m 25 ((p : Int) + 1)) (m + 422) 0 (zlt t F (p + 1) - 48)) m 25 ((p + 2 : Nat) : Int)) (m + 422) 0 (zlt t F (p + 1) - 48)) (m + 422) 1 (zlt t F (p + 2) - 48)) m 25 ((p + 3 : Nat) : Int)) (m + 422) 1 (zlt t F (p + 2) - 48)) m 25 ((p + 4 : Nat) : Int)) _
                    refine jWp.ifc (b := false) mt rfl (by decide) rfl ?_
                    show jWp 202 125 [some (jO m), some (jI (zlt t F p)), some (jI 2), some (jI 1), some (jI 2), some (jI 0)] [] 0 0 (jW (jW (jW (jW (jW (jW (jW (jW w m 25 ((p : Int) + 1)) (m + 422) 0 (zlt t F (p + 1) - 48)) m 25 ((p + 2 : Nat) : Int)) (m + 422) 0 (zlt t F (p + 1) - 48)) (m + 422) 1 (zlt t F (p + 2) - 48)) m 25 ((p + 3 : Nat) : Int)) (m + 422) 1 (zlt t F (p + 2) - 48)) m 25 ((p + 4 : Nat) : Int)) _
                    refine jWp.blk mt 2 ?_
                    show jWp 202 130 [some (jO m), some (jI (zlt t F p)), some (jI 2), some (jI 1), some (jI 2), some (jI 0)] [jI 1] 0 0 (jW (jW (jW (jW (jW (jW (jW (jW w m 25 ((p : Int) + 1)) (m + 422) 0 (zlt t F (p + 1) - 48)) m 25 ((p + 2 : Nat) : Int)) (m + 422) 0 (zlt t F (p + 1) - 48)) (m + 422) 1 (zlt t F (p + 2) - 48)) m 25 ((p + 3 : Nat) : Int)) (m + 422) 1 (zlt t F (p + 2) - 48)) m 25 ((p + 4 : Nat) : Int)) _
                    refine jWp.iretz mt rfl ⟨rfl, rfl⟩ rfl (Or.inr rfl) ?_
                    have hl9 := zlt_l (t := t) (F := F) (by assumption : zlt t F (p + 3) = 59) (by decide)
                    refine ⟨(p + 4), ⟨rfl, fun a ga gb => ((jW_f (by omega)).trans ((jW_f (by omega)).trans ((jW_f (by omega)).trans ((jW_f (by omega)).trans ((jW_f (by omega)).trans ((jW_f (by omega)).trans ((jW_f (by omega)).trans ((jW_f (by omega)).trans rfl)))))))), fun j gj => ((jW_k (by omega)).trans ((jW_a (by omega)).trans ((jW_k (by omega)).trans ((jW_a (by omega)).trans ((jW_a (by omega)).trans ((jW_k (by omega)).trans ((jW_a (by omega)).trans ((jW_k (by omega)).trans rfl))))))))⟩, jW_s, Or.inl ⟨rfl, ?_, by omega, by omega, by omega, by omega, ⟨((jW_a (by omega)).trans ((jW_k (by decide)).trans ((jW_a (by omega)).trans ((jW_k (by decide)).trans jW_s)))).trans ?_, by rw [((jW_a (by omega)).trans ((jW_k (by decide)).trans ((jW_a (by omega)).trans ((jW_k (by decide)).trans jW_s))))]; omega, by rw [((jW_a (by omega)).trans ((jW_k (by decide)).trans ((jW_a (by omega)).trans ((jW_k (by decide)).trans jW_s))))]; omega⟩, ?_, ?_⟩⟩
                    · unfold zbh zfn
                      (repeat' split) <;> omega
                    · unfold zfg
                      split <;> omega
                    · intro hc9
                      first
                      | (exfalso; omega)
                      | (rw [((jW_a (by omega)).trans jW_s)]
                         refine ⟨?_, by omega, by omega⟩
                         unfold zfg
                         split <;> omega)
                    · intro hc9
                      first
                      | (exfalso; omega)
                      | (rw [((jW_a (by omega)).trans ((jW_k (by decide)).trans ((jW_a (by omega)).trans ((jW_k (by decide)).trans ((jW_k (by decide)).trans ((jW_a (by omega)).trans ((jW_k (by decide)).trans ((jW_a (by omega)).trans rfl))))))))]
                         refine ⟨?_, by omega, by omega⟩
                         unfold znm zfg
                         try rw [show p + 3 + 1 = p + 4 from rfl]
                         (repeat' split) <;> omega)
                  · have h15' := h15
                    show jWp 202 122 [some (jO m), some (jI (zlt t F p)), some (jI 2), some (jI 1), some (jI 2), some (jI 0)] [jI 0] 0 0 (jW (jW (jW (jW (jW (jW (jW w m 25 ((p : Int) + 1)) (m + 422) 0 (zlt t F (p + 1) - 48)) m 25 ((p + 2 : Nat) : Int)) (m + 422) 0 (zlt t F (p + 1) - 48)) (m + 422) 1 (zlt t F (p + 2) - 48)) m 25 ((p + 3 : Nat) : Int)) (m + 422) 1 (zlt t F (p + 2) - 48)) _
                    refine jWp.ifc (b := true) mt rfl (by decide) rfl ?_
                    show jWp 202 129 [some (jO m), some (jI (zlt t F p)), some (jI 2), some (jI 1), some (jI 2), some (jI 0)] [] 0 0 (jW (jW (jW (jW (jW (jW (jW w m 25 ((p : Int) + 1)) (m + 422) 0 (zlt t F (p + 1) - 48)) m 25 ((p + 2 : Nat) : Int)) (m + 422) 0 (zlt t F (p + 1) - 48)) (m + 422) 1 (zlt t F (p + 2) - 48)) m 25 ((p + 3 : Nat) : Int)) (m + 422) 1 (zlt t F (p + 2) - 48)) _
                    refine jWp.blk mt 1 ?_
                    show jWp 202 130 [some (jO m), some (jI (zlt t F p)), some (jI 2), some (jI 1), some (jI 2), some (jI 0)] [jI 0] 0 0 (jW (jW (jW (jW (jW (jW (jW w m 25 ((p : Int) + 1)) (m + 422) 0 (zlt t F (p + 1) - 48)) m 25 ((p + 2 : Nat) : Int)) (m + 422) 0 (zlt t F (p + 1) - 48)) (m + 422) 1 (zlt t F (p + 2) - 48)) m 25 ((p + 3 : Nat) : Int)) (m + 422) 1 (zlt t F (p + 2) - 48)) _
                    refine jWp.iretz mt rfl ⟨rfl, rfl⟩ rfl (Or.inl rfl) ?_
                    refine ⟨(p + 3), ⟨rfl, fun a ga gb => ((jW_f (by omega)).trans ((jW_f (by omega)).trans ((jW_f (by omega)).trans ((jW_f (by omega)).trans ((jW_f (by omega)).trans ((jW_f (by omega)).trans ((jW_f (by omega)).trans rfl))))))), fun j gj => ((jW_a (by omega)).trans ((jW_k (by omega)).trans ((jW_a (by omega)).trans ((jW_a (by omega)).trans ((jW_k (by omega)).trans ((jW_a (by omega)).trans ((jW_k (by omega)).trans rfl)))))))⟩, ((jW_a (by omega)).trans jW_s).trans (by omega), Or.inr ⟨rfl, ?_, by omega, by omega⟩⟩
                    unfold zbh zfn
                    (repeat' split) <;> omega
                · exact absurd (show (2 : Int) < 2 from h14) (by decide)
              · have h13' := h13
                show jWp 202 75 [some (jO m), some (jI (zlt t F p)), some (jI 2), some (jI 1), some (jI 1), some (jI 0)] [jI 0] 0 0 (jW (jW (jW (jW (jW w m 25 ((p : Int) + 1)) (m + 422) 0 (zlt t F (p + 1) - 48)) m 25 ((p + 2 : Nat) : Int)) (m + 422) 0 (zlt t F (p + 1) - 48)) (m + 422) 1 0) _
                refine jWp.blk mt 2 ?_
                show _ ∧ jWp 202 77 [some (jO m), some (jI (zlt t F p)), some (jI 2), some (jI 0), some (jI 1), some (jI 0)] [jO m] 0 0 (jW (jW (jW (jW (jW w m 25 ((p : Int) + 1)) (m + 422) 0 (zlt t F (p + 1) - 48)) m 25 ((p + 2 : Nat) : Int)) (m + 422) 0 (zlt t F (p + 1) - 48)) (m + 422) 1 0) _
                refine ⟨rfl, ?_⟩
                refine jWp.getR (pc' := 80) (o := (m + 422)) mt rfl rfl (jtg hW.K0) hW.R26 ?_
                show jWp 202 80 [some (jO m), some (jI (zlt t F p)), some (jI 2), some (jI 0), some (jI 1), some (jI 0)] [jO (m + 422)] 0 0 (jW (jW (jW (jW (jW w m 25 ((p : Int) + 1)) (m + 422) 0 (zlt t F (p + 1) - 48)) m 25 ((p + 2 : Nat) : Int)) (m + 422) 0 (zlt t F (p + 1) - 48)) (m + 422) 1 0) _
                refine jWp.blk mt 2 ?_
                show jWp 202 84 [some (jO m), some (jI (zlt t F p)), some (jI 2), some (jI 0), some (jI 1), some (jI 0)] [jI 0, jI 1, jO (m + 422)] 0 0 (jW (jW (jW (jW (jW w m 25 ((p : Int) + 1)) (m + 422) 0 (zlt t F (p + 1) - 48)) m 25 ((p + 2 : Nat) : Int)) (m + 422) 0 (zlt t F (p + 1) - 48)) (m + 422) 1 0) _
                refine jWp.ifc (b := true) mt rfl (by decide) rfl ?_
                show jWp 202 98 [some (jO m), some (jI (zlt t F p)), some (jI 2), some (jI 0), some (jI 1), some (jI 0)] [jI 1, jO (m + 422)] 0 0 (jW (jW (jW (jW (jW w m 25 ((p : Int) + 1)) (m + 422) 0 (zlt t F (p + 1) - 48)) m 25 ((p + 2 : Nat) : Int)) (m + 422) 0 (zlt t F (p + 1) - 48)) (m + 422) 1 0) _
                refine jWp.blk mt 1 ?_
                show _ ∧ jWp 202 99 [some (jO m), some (jI (zlt t F p)), some (jI 2), some (jI 0), some (jI 1), some (jI 0)] [jO m, jI 1, jO (m + 422)] 0 0 (jW (jW (jW (jW (jW w m 25 ((p : Int) + 1)) (m + 422) 0 (zlt t F (p + 1) - 48)) m 25 ((p + 2 : Nat) : Int)) (m + 422) 0 (zlt t F (p + 1) - 48)) (m + 422) 1 0) _
                refine ⟨rfl, ?_⟩
                refine jWp.getR (pc' := 102) (o := (m + 422)) mt rfl rfl (jtg hW.K0) hW.R26 ?_
                show jWp 202 102 [some (jO m), some (jI (zlt t F p)), some (jI 2), some (jI 0), some (jI 1), some (jI 0)] [jO (m + 422), jI 1, jO (m + 422)] 0 0 (jW (jW (jW (jW (jW w m 25 ((p : Int) + 1)) (m + 422) 0 (zlt t F (p + 1) - 48)) m 25 ((p + 2 : Nat) : Int)) (m + 422) 0 (zlt t F (p + 1) - 48)) (m + 422) 1 0) _
                refine jWp.blk mt 1 ?_
                show jWp 202 104 [some (jO m), some (jI (zlt t F p)), some (jI 2), some (jI 0), some (jI 1), some (jI 0)] [jI 1, jO (m + 422), jI 1, jO (m + 422)] 0 0 (jW (jW (jW (jW (jW w m 25 ((p : Int) + 1)) (m + 422) 0 (zlt t F (p + 1) - 48)) m 25 ((p + 2 : Nat) : Int)) (m + 422) 0 (zlt t F (p + 1) - 48)) (m + 422) 1 0) _
                refine jWp.iald (pc' := 105) (j := 1) mt rfl rfl (jird_of hW.K422) (by decide) (jlt hW.K422 (by decide)) ?_
                rw [show ((jW (jW (jW (jW (jW w m 25 ((p : Int) + 1)) (m + 422) 0 (zlt t F (p + 1) - 48)) m 25 ((p + 2 : Nat) : Int)) (m + 422) 0 (zlt t F (p + 1) - 48)) (m + 422) 1 0).1 (m + 422) 1) = 0 from jW_s]
                show jWp 202 105 [some (jO m), some (jI (zlt t F p)), some (jI 2), some (jI 0), some (jI 1), some (jI 0)] [jI 0, jI 1, jO (m + 422)] 0 0 (jW (jW (jW (jW (jW w m 25 ((p : Int) + 1)) (m + 422) 0 (zlt t F (p + 1) - 48)) m 25 ((p + 2 : Nat) : Int)) (m + 422) 0 (zlt t F (p + 1) - 48)) (m + 422) 1 0) _
                refine jWp.iast (pc' := 106) (j := 1) mt rfl rfl (jtg hW.K422) (by decide) (jlt hW.K422 (by decide)) ?_
                show jWp 202 106 [some (jO m), some (jI (zlt t F p)), some (jI 2), some (jI 0), some (jI 1), some (jI 0)] [] 0 0 (jW (jW (jW (jW (jW (jW w m 25 ((p : Int) + 1)) (m + 422) 0 (zlt t F (p + 1) - 48)) m 25 ((p + 2 : Nat) : Int)) (m + 422) 0 (zlt t F (p + 1) - 48)) (m + 422) 1 0) (m + 422) 1 0) _
                refine jWp.blk mt 4 ?_
                show jWp 202 34 [some (jO m), some (jI (zlt t F p)), some (jI 2), some (jI 0), some (jI 2), some (jI 0)] [jI 2, jI 2] 0 0 (jW (jW (jW (jW (jW (jW w m 25 ((p : Int) + 1)) (m + 422) 0 (zlt t F (p + 1) - 48)) m 25 ((p + 2 : Nat) : Int)) (m + 422) 0 (zlt t F (p + 1) - 48)) (m + 422) 1 0) (m + 422) 1 0) _
                refine jWp.icmp (pc' := 37) mt rfl rfl (show b32 2 = 2 by decide) (show b32 2 = 2 by decide) (fun h16 => ?_) (fun h16 => ?_)
                · have h16 := h16
                  refine jWp.blk mt 1 ?_
                  show jWp 202 113 [some (jO m), some (jI (zlt t F p)), some (jI 2), some (jI 0), some (jI 2), some (jI 0)] [jI 0] 0 0 (jW (jW (jW (jW (jW (jW w m 25 ((p : Int) + 1)) (m + 422) 0 (zlt t F (p + 1) - 48)) m 25 ((p + 2 : Nat) : Int)) (m + 422) 0 (zlt t F (p + 1) - 48)) (m + 422) 1 0) (m + 422) 1 0) _
                  refine jWp.ifc (b := true) mt rfl (by decide) rfl ?_
                  show jWp 202 129 [some (jO m), some (jI (zlt t F p)), some (jI 2), some (jI 0), some (jI 2), some (jI 0)] [] 0 0 (jW (jW (jW (jW (jW (jW w m 25 ((p : Int) + 1)) (m + 422) 0 (zlt t F (p + 1) - 48)) m 25 ((p + 2 : Nat) : Int)) (m + 422) 0 (zlt t F (p + 1) - 48)) (m + 422) 1 0) (m + 422) 1 0) _
                  refine jWp.blk mt 1 ?_
                  show jWp 202 130 [some (jO m), some (jI (zlt t F p)), some (jI 2), some (jI 0), some (jI 2), some (jI 0)] [jI 0] 0 0 (jW (jW (jW (jW (jW (jW w m 25 ((p : Int) + 1)) (m + 422) 0 (zlt t F (p + 1) - 48)) m 25 ((p + 2 : Nat) : Int)) (m + 422) 0 (zlt t F (p + 1) - 48)) (m + 422) 1 0) (m + 422) 1 0) _
                  refine jWp.iretz mt rfl ⟨rfl, rfl⟩ rfl (Or.inl rfl) ?_
                  refine ⟨(p + 2), ⟨rfl, fun a ga gb => ((jW_f (by omega)).trans ((jW_f (by omega)).trans ((jW_f (by omega)).trans ((jW_f (by omega)).trans ((jW_f (by omega)).trans ((jW_f (by omega)).trans rfl)))))), fun j gj => ((jW_a (by omega)).trans ((jW_a (by omega)).trans ((jW_a (by omega)).trans ((jW_k (by omega)).trans ((jW_a (by omega)).trans ((jW_k (by omega)).trans rfl))))))⟩, ((jW_a (by omega)).trans ((jW_a (by omega)).trans ((jW_a (by omega)).trans jW_s))).trans (by omega), Or.inr ⟨rfl, ?_, by omega, by omega⟩⟩
                  unfold zbh zfn
                  (repeat' split) <;> omega
                · exact absurd (show (2 : Int) < 2 from h16) (by decide)
            · have h12 : (zlt t F p) = 98 := h12
              exfalso; omega
        · have h10' := h10
          show jWp 202 75 [some (jO m), some (jI (zlt t F p)), some (jI 2), some (jI 1), some (jI 0), some (jI 0)] [jI 0] 0 0 (jW (jW w m 25 ((p : Int) + 1)) (m + 422) 0 0) _
          refine jWp.blk mt 2 ?_
          show _ ∧ jWp 202 77 [some (jO m), some (jI (zlt t F p)), some (jI 2), some (jI 0), some (jI 0), some (jI 0)] [jO m] 0 0 (jW (jW w m 25 ((p : Int) + 1)) (m + 422) 0 0) _
          refine ⟨rfl, ?_⟩
          refine jWp.getR (pc' := 80) (o := (m + 422)) mt rfl rfl (jtg hW.K0) hW.R26 ?_
          show jWp 202 80 [some (jO m), some (jI (zlt t F p)), some (jI 2), some (jI 0), some (jI 0), some (jI 0)] [jO (m + 422)] 0 0 (jW (jW w m 25 ((p : Int) + 1)) (m + 422) 0 0) _
          refine jWp.blk mt 2 ?_
          show jWp 202 84 [some (jO m), some (jI (zlt t F p)), some (jI 2), some (jI 0), some (jI 0), some (jI 0)] [jI 0, jI 0, jO (m + 422)] 0 0 (jW (jW w m 25 ((p : Int) + 1)) (m + 422) 0 0) _
          refine jWp.ifc (b := true) mt rfl (by decide) rfl ?_
          show jWp 202 98 [some (jO m), some (jI (zlt t F p)), some (jI 2), some (jI 0), some (jI 0), some (jI 0)] [jI 0, jO (m + 422)] 0 0 (jW (jW w m 25 ((p : Int) + 1)) (m + 422) 0 0) _
          refine jWp.blk mt 1 ?_
          show _ ∧ jWp 202 99 [some (jO m), some (jI (zlt t F p)), some (jI 2), some (jI 0), some (jI 0), some (jI 0)] [jO m, jI 0, jO (m + 422)] 0 0 (jW (jW w m 25 ((p : Int) + 1)) (m + 422) 0 0) _
          refine ⟨rfl, ?_⟩
          refine jWp.getR (pc' := 102) (o := (m + 422)) mt rfl rfl (jtg hW.K0) hW.R26 ?_
          show jWp 202 102 [some (jO m), some (jI (zlt t F p)), some (jI 2), some (jI 0), some (jI 0), some (jI 0)] [jO (m + 422), jI 0, jO (m + 422)] 0 0 (jW (jW w m 25 ((p : Int) + 1)) (m + 422) 0 0) _
          refine jWp.blk mt 1 ?_
          show jWp 202 104 [some (jO m), some (jI (zlt t F p)), some (jI 2), some (jI 0), some (jI 0), some (jI 0)] [jI 0, jO (m + 422), jI 0, jO (m + 422)] 0 0 (jW (jW w m 25 ((p : Int) + 1)) (m + 422) 0 0) _
          refine jWp.iald (pc' := 105) (j := 0) mt rfl rfl (jird_of hW.K422) (by decide) (jlt hW.K422 (by decide)) ?_
          rw [show ((jW (jW w m 25 ((p : Int) + 1)) (m + 422) 0 0).1 (m + 422) 0) = 0 from jW_s]
          show jWp 202 105 [some (jO m), some (jI (zlt t F p)), some (jI 2), some (jI 0), some (jI 0), some (jI 0)] [jI 0, jI 0, jO (m + 422)] 0 0 (jW (jW w m 25 ((p : Int) + 1)) (m + 422) 0 0) _
          refine jWp.iast (pc' := 106) (j := 0) mt rfl rfl (jtg hW.K422) (by decide) (jlt hW.K422 (by decide)) ?_
          show jWp 202 106 [some (jO m), some (jI (zlt t F p)), some (jI 2), some (jI 0), some (jI 0), some (jI 0)] [] 0 0 (jW (jW (jW w m 25 ((p : Int) + 1)) (m + 422) 0 0) (m + 422) 0 0) _
          refine jWp.blk mt 4 ?_
          show jWp 202 34 [some (jO m), some (jI (zlt t F p)), some (jI 2), some (jI 0), some (jI 1), some (jI 0)] [jI 2, jI 1] 0 0 (jW (jW (jW w m 25 ((p : Int) + 1)) (m + 422) 0 0) (m + 422) 0 0) _
          refine jWp.icmp (pc' := 37) mt rfl rfl (show b32 1 = 1 by decide) (show b32 2 = 2 by decide) (fun h17 => ?_) (fun h17 => ?_)
          · exact absurd (show 2 ≤ (1 : Int) from h17) (by decide)
          · have h17 := h17
            refine jWp.blk mt 1 ?_
            show jWp 202 38 [some (jO m), some (jI (zlt t F p)), some (jI 2), some (jI 0), some (jI 1), some (jI 0)] [jI 0] 0 0 (jW (jW (jW w m 25 ((p : Int) + 1)) (m + 422) 0 0) (m + 422) 0 0) _
            refine jWp.ifc (b := true) mt rfl (by decide) rfl ?_
            show jWp 202 112 [some (jO m), some (jI (zlt t F p)), some (jI 2), some (jI 0), some (jI 1), some (jI 0)] [] 0 0 (jW (jW (jW w m 25 ((p : Int) + 1)) (m + 422) 0 0) (m + 422) 0 0) _
            refine jWp.blk mt 1 ?_
            show jWp 202 113 [some (jO m), some (jI (zlt t F p)), some (jI 2), some (jI 0), some (jI 1), some (jI 0)] [jI 0] 0 0 (jW (jW (jW w m 25 ((p : Int) + 1)) (m + 422) 0 0) (m + 422) 0 0) _
            refine jWp.ifc (b := true) mt rfl (by decide) rfl ?_
            show jWp 202 129 [some (jO m), some (jI (zlt t F p)), some (jI 2), some (jI 0), some (jI 1), some (jI 0)] [] 0 0 (jW (jW (jW w m 25 ((p : Int) + 1)) (m + 422) 0 0) (m + 422) 0 0) _
            refine jWp.blk mt 1 ?_
            show jWp 202 130 [some (jO m), some (jI (zlt t F p)), some (jI 2), some (jI 0), some (jI 1), some (jI 0)] [jI 0] 0 0 (jW (jW (jW w m 25 ((p : Int) + 1)) (m + 422) 0 0) (m + 422) 0 0) _
            refine jWp.iretz mt rfl ⟨rfl, rfl⟩ rfl (Or.inl rfl) ?_
            refine ⟨(p + 1), ⟨rfl, fun a ga gb => ((jW_f (by omega)).trans ((jW_f (by omega)).trans ((jW_f (by omega)).trans rfl))), fun j gj => ((jW_a (by omega)).trans ((jW_a (by omega)).trans ((jW_k (by omega)).trans rfl)))⟩, ((jW_a (by omega)).trans ((jW_a (by omega)).trans jW_s)).trans (by omega), Or.inr ⟨rfl, ?_, by omega, by omega⟩⟩
            unfold zbh zfn
            (repeat' split) <;> omega
      · have h9 : (zlt t F p) = 98 := h9
        exfalso; omega
  · rw [show zdc (zlt t F p) = 3 by unfold zdc; rw [if_neg (by omega), if_neg (by omega), if_pos (by omega)]]
    show jWp 202 9 [some (jO m), some (jI (zlt t F p)), none, none, none, none] [jI 3] 0 0 w _
    refine jWp.blk mt 2 ?_
    show jWp 202 11 [some (jO m), some (jI (zlt t F p)), some (jI 3), none, none, none] [jI 3] 0 0 w _
    refine jWp.ifc (b := true) mt rfl (by decide) rfl ?_
    show jWp 202 16 [some (jO m), some (jI (zlt t F p)), some (jI 3), none, none, none] [] 0 0 w _
    refine jWp.blk mt 2 ?_
    show _ ∧ _ ∧ jWp 202 18 [some (jO m), some (jI (zlt t F p)), some (jI 3), none, none, none] [jO m, jO m] 0 0 w _
    refine ⟨rfl, rfl, ?_⟩
    refine jWp.getI (pc' := 21) mt rfl rfl (jtg hW.K0) ?_
    rw [show (w.1 m 25) = (p : Int) from hp]
    show jWp 202 21 [some (jO m), some (jI (zlt t F p)), some (jI 3), none, none, none] [jI (p : Int), jO m] 0 0 w _
    refine jWp.blk mt 2 ?_
    show jWp 202 23 [some (jO m), some (jI (zlt t F p)), some (jI 3), none, none, none] [jI ((p : Int) + 1), jO m] 0 0 w _
    refine jWp.putI (pc' := 26) mt rfl rfl (jtg hW.K0) ?_
    show jWp 202 26 [some (jO m), some (jI (zlt t F p)), some (jI 3), none, none, none] [] 0 0 (jW w m 25 ((p : Int) + 1)) _
    refine jWp.blk mt 6 ?_
    show jWp 202 34 [some (jO m), some (jI (zlt t F p)), some (jI 3), some (jI 1), some (jI 0), none] [jI 3, jI 0] 0 0 (jW w m 25 ((p : Int) + 1)) _
    refine jWp.icmp (pc' := 37) mt rfl rfl (show b32 0 = 0 by decide) (show b32 3 = 3 by decide) (fun h18 => ?_) (fun h18 => ?_)
    · exact absurd (show 3 ≤ (0 : Int) from h18) (by decide)
    · have h18 := h18
      refine jWp.blk mt 1 ?_
      show jWp 202 38 [some (jO m), some (jI (zlt t F p)), some (jI 3), some (jI 1), some (jI 0), none] [jI 1] 0 0 (jW w m 25 ((p : Int) + 1)) _
      refine jWp.ifc (b := false) mt rfl (by decide) rfl ?_
      show jWp 202 41 [some (jO m), some (jI (zlt t F p)), some (jI 3), some (jI 1), some (jI 0), none] [] 0 0 (jW w m 25 ((p : Int) + 1)) _
      refine jWp.blk mt 2 ?_
      show jWp 202 44 [some (jO m), some (jI (zlt t F p)), some (jI 3), some (jI 1), some (jI 0), none] [jI 98, jI (zlt t F p)] 0 0 (jW w m 25 ((p : Int) + 1)) _
      refine jWp.icmp (pc' := 47) mt rfl rfl (b32_id (by have := zlt_b hL p; omega) (by have := zlt_b hL p; omega)) (show b32 98 = 98 by decide) (fun h19 => ?_) (fun h19 => ?_)
      · have h19 : (zlt t F p) ≠ 98 := h19
        exfalso; omega
      · have h19 : (zlt t F p) = 98 := h19
        refine jWp.blk mt 2 ?_
        show jWp 202 50 [some (jO m), some (jI (zlt t F p)), some (jI 3), some (jI 1), some (jI 0), none] [jI 2, jI 0] 0 0 (jW w m 25 ((p : Int) + 1)) _
        refine jWp.icmp (pc' := 53) mt rfl rfl (show b32 0 = 0 by decide) (show b32 2 = 2 by decide) (fun h20 => ?_) (fun h20 => ?_)
        · have h20 := h20
          refine jWp.blk mt 4 ?_
          show _ ∧ jWp 202 72 [some (jO m), some (jI (zlt t F p)), some (jI 3), some (jI 1), some (jI 0), some (jI 0)] [jI 0, jO m] 0 0 (jW w m 25 ((p : Int) + 1)) _
          refine ⟨rfl, ?_⟩
          refine jWp.callv (as := [jO m, jI 0]) (rest := []) mt rfl rfl rfl ⟨rfl, jtg hW.K0⟩ ?_
          refine jCall.mono (E_hasFigure (w := (jW w m 25 ((p : Int) + 1))) (F := F) (p := (p + 1)) (t := t) hW (((jW_k (by decide)).trans rfl).trans hF) hF72 (jW_s.trans (by omega)) (by omega) (((jW_f (by omega)).trans rfl).trans ht) hL (k := 0) (by decide)) (fun v9 w9 h9 => ?_)
          rcases h9 with ⟨rfl, h9, h21⟩ | ⟨rfl, h9, h21⟩ <;> subst h9
          · have h21' := h21
            show jWp 202 75 [some (jO m), some (jI (zlt t F p)), some (jI 3), some (jI 1), some (jI 0), some (jI 0)] [jI 1] 0 0 (jW (jW (jW w m 25 ((p : Int) + 1)) (m + 422) 0 (zlt t F (p + 1) - 48)) m 25 ((p + 2 : Nat) : Int)) _
            refine jWp.blk mt 2 ?_
            show _ ∧ jWp 202 77 [some (jO m), some (jI (zlt t F p)), some (jI 3), some (jI 1), some (jI 0), some (jI 0)] [jO m] 0 0 (jW (jW (jW w m 25 ((p : Int) + 1)) (m + 422) 0 (zlt t F (p + 1) - 48)) m 25 ((p + 2 : Nat) : Int)) _
            refine ⟨rfl, ?_⟩
            refine jWp.getR (pc' := 80) (o := (m + 422)) mt rfl rfl (jtg hW.K0) hW.R26 ?_
            show jWp 202 80 [some (jO m), some (jI (zlt t F p)), some (jI 3), some (jI 1), some (jI 0), some (jI 0)] [jO (m + 422)] 0 0 (jW (jW (jW w m 25 ((p : Int) + 1)) (m + 422) 0 (zlt t F (p + 1) - 48)) m 25 ((p + 2 : Nat) : Int)) _
            refine jWp.blk mt 2 ?_
            show jWp 202 84 [some (jO m), some (jI (zlt t F p)), some (jI 3), some (jI 1), some (jI 0), some (jI 0)] [jI 0, jI 0, jO (m + 422)] 0 0 (jW (jW (jW w m 25 ((p : Int) + 1)) (m + 422) 0 (zlt t F (p + 1) - 48)) m 25 ((p + 2 : Nat) : Int)) _
            refine jWp.ifc (b := true) mt rfl (by decide) rfl ?_
            show jWp 202 98 [some (jO m), some (jI (zlt t F p)), some (jI 3), some (jI 1), some (jI 0), some (jI 0)] [jI 0, jO (m + 422)] 0 0 (jW (jW (jW w m 25 ((p : Int) + 1)) (m + 422) 0 (zlt t F (p + 1) - 48)) m 25 ((p + 2 : Nat) : Int)) _
            refine jWp.blk mt 1 ?_
            show _ ∧ jWp 202 99 [some (jO m), some (jI (zlt t F p)), some (jI 3), some (jI 1), some (jI 0), some (jI 0)] [jO m, jI 0, jO (m + 422)] 0 0 (jW (jW (jW w m 25 ((p : Int) + 1)) (m + 422) 0 (zlt t F (p + 1) - 48)) m 25 ((p + 2 : Nat) : Int)) _
            refine ⟨rfl, ?_⟩
            refine jWp.getR (pc' := 102) (o := (m + 422)) mt rfl rfl (jtg hW.K0) hW.R26 ?_
            show jWp 202 102 [some (jO m), some (jI (zlt t F p)), some (jI 3), some (jI 1), some (jI 0), some (jI 0)] [jO (m + 422), jI 0, jO (m + 422)] 0 0 (jW (jW (jW w m 25 ((p : Int) + 1)) (m + 422) 0 (zlt t F (p + 1) - 48)) m 25 ((p + 2 : Nat) : Int)) _
            refine jWp.blk mt 1 ?_
            show jWp 202 104 [some (jO m), some (jI (zlt t F p)), some (jI 3), some (jI 1), some (jI 0), some (jI 0)] [jI 0, jO (m + 422), jI 0, jO (m + 422)] 0 0 (jW (jW (jW w m 25 ((p : Int) + 1)) (m + 422) 0 (zlt t F (p + 1) - 48)) m 25 ((p + 2 : Nat) : Int)) _
            refine jWp.iald (pc' := 105) (j := 0) mt rfl rfl (jird_of hW.K422) (by decide) (jlt hW.K422 (by decide)) ?_
            rw [show ((jW (jW (jW w m 25 ((p : Int) + 1)) (m + 422) 0 (zlt t F (p + 1) - 48)) m 25 ((p + 2 : Nat) : Int)).1 (m + 422) 0) = (zlt t F (p + 1) - 48) from ((jW_a (by omega)).trans jW_s)]
            show jWp 202 105 [some (jO m), some (jI (zlt t F p)), some (jI 3), some (jI 1), some (jI 0), some (jI 0)] [jI (zlt t F (p + 1) - 48), jI 0, jO (m + 422)] 0 0 (jW (jW (jW w m 25 ((p : Int) + 1)) (m + 422) 0 (zlt t F (p + 1) - 48)) m 25 ((p + 2 : Nat) : Int)) _
            refine jWp.iast (pc' := 106) (j := 0) mt rfl rfl (jtg hW.K422) (by decide) (jlt hW.K422 (by decide)) ?_
            show jWp 202 106 [some (jO m), some (jI (zlt t F p)), some (jI 3), some (jI 1), some (jI 0), some (jI 0)] [] 0 0 (jW (jW (jW (jW w m 25 ((p : Int) + 1)) (m + 422) 0 (zlt t F (p + 1) - 48)) m 25 ((p + 2 : Nat) : Int)) (m + 422) 0 (zlt t F (p + 1) - 48)) _
            refine jWp.blk mt 4 ?_
            show jWp 202 34 [some (jO m), some (jI (zlt t F p)), some (jI 3), some (jI 1), some (jI 1), some (jI 0)] [jI 3, jI 1] 0 0 (jW (jW (jW (jW w m 25 ((p : Int) + 1)) (m + 422) 0 (zlt t F (p + 1) - 48)) m 25 ((p + 2 : Nat) : Int)) (m + 422) 0 (zlt t F (p + 1) - 48)) _
            refine jWp.icmp (pc' := 37) mt rfl rfl (show b32 1 = 1 by decide) (show b32 3 = 3 by decide) (fun h22 => ?_) (fun h22 => ?_)
            · exact absurd (show 3 ≤ (1 : Int) from h22) (by decide)
            · have h22 := h22
              refine jWp.blk mt 1 ?_
              show jWp 202 38 [some (jO m), some (jI (zlt t F p)), some (jI 3), some (jI 1), some (jI 1), some (jI 0)] [jI 1] 0 0 (jW (jW (jW (jW w m 25 ((p : Int) + 1)) (m + 422) 0 (zlt t F (p + 1) - 48)) m 25 ((p + 2 : Nat) : Int)) (m + 422) 0 (zlt t F (p + 1) - 48)) _
              refine jWp.ifc (b := false) mt rfl (by decide) rfl ?_
              show jWp 202 41 [some (jO m), some (jI (zlt t F p)), some (jI 3), some (jI 1), some (jI 1), some (jI 0)] [] 0 0 (jW (jW (jW (jW w m 25 ((p : Int) + 1)) (m + 422) 0 (zlt t F (p + 1) - 48)) m 25 ((p + 2 : Nat) : Int)) (m + 422) 0 (zlt t F (p + 1) - 48)) _
              refine jWp.blk mt 2 ?_
              show jWp 202 44 [some (jO m), some (jI (zlt t F p)), some (jI 3), some (jI 1), some (jI 1), some (jI 0)] [jI 98, jI (zlt t F p)] 0 0 (jW (jW (jW (jW w m 25 ((p : Int) + 1)) (m + 422) 0 (zlt t F (p + 1) - 48)) m 25 ((p + 2 : Nat) : Int)) (m + 422) 0 (zlt t F (p + 1) - 48)) _
              refine jWp.icmp (pc' := 47) mt rfl rfl (b32_id (by have := zlt_b hL p; omega) (by have := zlt_b hL p; omega)) (show b32 98 = 98 by decide) (fun h23 => ?_) (fun h23 => ?_)
              · have h23 : (zlt t F p) ≠ 98 := h23
                exfalso; omega
              · have h23 : (zlt t F p) = 98 := h23
                refine jWp.blk mt 2 ?_
                show jWp 202 50 [some (jO m), some (jI (zlt t F p)), some (jI 3), some (jI 1), some (jI 1), some (jI 0)] [jI 2, jI 1] 0 0 (jW (jW (jW (jW w m 25 ((p : Int) + 1)) (m + 422) 0 (zlt t F (p + 1) - 48)) m 25 ((p + 2 : Nat) : Int)) (m + 422) 0 (zlt t F (p + 1) - 48)) _
                refine jWp.icmp (pc' := 53) mt rfl rfl (show b32 1 = 1 by decide) (show b32 2 = 2 by decide) (fun h24 => ?_) (fun h24 => ?_)
                · have h24 := h24
                  refine jWp.blk mt 4 ?_
                  show _ ∧ jWp 202 72 [some (jO m), some (jI (zlt t F p)), some (jI 3), some (jI 1), some (jI 1), some (jI 0)] [jI 1, jO m] 0 0 (jW (jW (jW (jW w m 25 ((p : Int) + 1)) (m + 422) 0 (zlt t F (p + 1) - 48)) m 25 ((p + 2 : Nat) : Int)) (m + 422) 0 (zlt t F (p + 1) - 48)) _
                  refine ⟨rfl, ?_⟩
                  refine jWp.callv (as := [jO m, jI 1]) (rest := []) mt rfl rfl rfl ⟨rfl, jtg hW.K0⟩ ?_
                  refine jCall.mono (E_hasFigure (w := (jW (jW (jW (jW w m 25 ((p : Int) + 1)) (m + 422) 0 (zlt t F (p + 1) - 48)) m 25 ((p + 2 : Nat) : Int)) (m + 422) 0 (zlt t F (p + 1) - 48))) (F := F) (p := (p + 2)) (t := t) hW (((jW_a (by omega)).trans ((jW_k (by decide)).trans ((jW_a (by omega)).trans ((jW_k (by decide)).trans rfl)))).trans hF) hF72 (((jW_a (by omega)).trans jW_s).trans (by omega)) (by omega) (((jW_f (by omega)).trans ((jW_f (by omega)).trans ((jW_f (by omega)).trans ((jW_f (by omega)).trans rfl)))).trans ht) hL (k := 1) (by decide)) (fun v9 w9 h9 => ?_)
                  rcases h9 with ⟨rfl, h9, h25⟩ | ⟨rfl, h9, h25⟩ <;> subst h9
                  · have h25' := h25
                    show jWp 202 75 [some (jO m), some (jI (zlt t F p)), some (jI 3), some (jI 1), some (jI 1), some (jI 0)] [jI 1] 0 0 (jW (jW (jW (jW (jW (jW w m 25 ((p : Int) + 1)) (m + 422) 0 (zlt t F (p + 1) - 48)) m 25 ((p + 2 : Nat) : Int)) (m + 422) 0 (zlt t F (p + 1) - 48)) (m + 422) 1 (zlt t F (p + 2) - 48)) m 25 ((p + 3 : Nat) : Int)) _
                    refine jWp.blk mt 2 ?_
                    show _ ∧ jWp 202 77 [some (jO m), some (jI (zlt t F p)), some (jI 3), some (jI 1), some (jI 1), some (jI 0)] [jO m] 0 0 (jW (jW (jW (jW (jW (jW w m 25 ((p : Int) + 1)) (m + 422) 0 (zlt t F (p + 1) - 48)) m 25 ((p + 2 : Nat) : Int)) (m + 422) 0 (zlt t F (p + 1) - 48)) (m + 422) 1 (zlt t F (p + 2) - 48)) m 25 ((p + 3 : Nat) : Int)) _
                    refine ⟨rfl, ?_⟩
                    refine jWp.getR (pc' := 80) (o := (m + 422)) mt rfl rfl (jtg hW.K0) hW.R26 ?_
                    show jWp 202 80 [some (jO m), some (jI (zlt t F p)), some (jI 3), some (jI 1), some (jI 1), some (jI 0)] [jO (m + 422)] 0 0 (jW (jW (jW (jW (jW (jW w m 25 ((p : Int) + 1)) (m + 422) 0 (zlt t F (p + 1) - 48)) m 25 ((p + 2 : Nat) : Int)) (m + 422) 0 (zlt t F (p + 1) - 48)) (m + 422) 1 (zlt t F (p + 2) - 48)) m 25 ((p + 3 : Nat) : Int)) _
                    refine jWp.blk mt 2 ?_
                    show jWp 202 84 [some (jO m), some (jI (zlt t F p)), some (jI 3), some (jI 1), some (jI 1), some (jI 0)] [jI 0, jI 1, jO (m + 422)] 0 0 (jW (jW (jW (jW (jW (jW w m 25 ((p : Int) + 1)) (m + 422) 0 (zlt t F (p + 1) - 48)) m 25 ((p + 2 : Nat) : Int)) (m + 422) 0 (zlt t F (p + 1) - 48)) (m + 422) 1 (zlt t F (p + 2) - 48)) m 25 ((p + 3 : Nat) : Int)) _
                    refine jWp.ifc (b := true) mt rfl (by decide) rfl ?_
                    show jWp 202 98 [some (jO m), some (jI (zlt t F p)), some (jI 3), some (jI 1), some (jI 1), some (jI 0)] [jI 1, jO (m + 422)] 0 0 (jW (jW (jW (jW (jW (jW w m 25 ((p : Int) + 1)) (m + 422) 0 (zlt t F (p + 1) - 48)) m 25 ((p + 2 : Nat) : Int)) (m + 422) 0 (zlt t F (p + 1) - 48)) (m + 422) 1 (zlt t F (p + 2) - 48)) m 25 ((p + 3 : Nat) : Int)) _
                    refine jWp.blk mt 1 ?_
                    show _ ∧ jWp 202 99 [some (jO m), some (jI (zlt t F p)), some (jI 3), some (jI 1), some (jI 1), some (jI 0)] [jO m, jI 1, jO (m + 422)] 0 0 (jW (jW (jW (jW (jW (jW w m 25 ((p : Int) + 1)) (m + 422) 0 (zlt t F (p + 1) - 48)) m 25 ((p + 2 : Nat) : Int)) (m + 422) 0 (zlt t F (p + 1) - 48)) (m + 422) 1 (zlt t F (p + 2) - 48)) m 25 ((p + 3 : Nat) : Int)) _
                    refine ⟨rfl, ?_⟩
                    refine jWp.getR (pc' := 102) (o := (m + 422)) mt rfl rfl (jtg hW.K0) hW.R26 ?_
                    show jWp 202 102 [some (jO m), some (jI (zlt t F p)), some (jI 3), some (jI 1), some (jI 1), some (jI 0)] [jO (m + 422), jI 1, jO (m + 422)] 0 0 (jW (jW (jW (jW (jW (jW w m 25 ((p : Int) + 1)) (m + 422) 0 (zlt t F (p + 1) - 48)) m 25 ((p + 2 : Nat) : Int)) (m + 422) 0 (zlt t F (p + 1) - 48)) (m + 422) 1 (zlt t F (p + 2) - 48)) m 25 ((p + 3 : Nat) : Int)) _
                    refine jWp.blk mt 1 ?_
                    show jWp 202 104 [some (jO m), some (jI (zlt t F p)), some (jI 3), some (jI 1), some (jI 1), some (jI 0)] [jI 1, jO (m + 422), jI 1, jO (m + 422)] 0 0 (jW (jW (jW (jW (jW (jW w m 25 ((p : Int) + 1)) (m + 422) 0 (zlt t F (p + 1) - 48)) m 25 ((p + 2 : Nat) : Int)) (m + 422) 0 (zlt t F (p + 1) - 48)) (m + 422) 1 (zlt t F (p + 2) - 48)) m 25 ((p + 3 : Nat) : Int)) _
                    refine jWp.iald (pc' := 105) (j := 1) mt rfl rfl (jird_of hW.K422) (by decide) (jlt hW.K422 (by decide)) ?_
                    rw [show ((jW (jW (jW (jW (jW (jW w m 25 ((p : Int) + 1)) (m + 422) 0 (zlt t F (p + 1) - 48)) m 25 ((p + 2 : Nat) : Int)) (m + 422) 0 (zlt t F (p + 1) - 48)) (m + 422) 1 (zlt t F (p + 2) - 48)) m 25 ((p + 3 : Nat) : Int)).1 (m + 422) 1) = (zlt t F (p + 2) - 48) from ((jW_a (by omega)).trans jW_s)]
                    show jWp 202 105 [some (jO m), some (jI (zlt t F p)), some (jI 3), some (jI 1), some (jI 1), some (jI 0)] [jI (zlt t F (p + 2) - 48), jI 1, jO (m + 422)] 0 0 (jW (jW (jW (jW (jW (jW w m 25 ((p : Int) + 1)) (m + 422) 0 (zlt t F (p + 1) - 48)) m 25 ((p + 2 : Nat) : Int)) (m + 422) 0 (zlt t F (p + 1) - 48)) (m + 422) 1 (zlt t F (p + 2) - 48)) m 25 ((p + 3 : Nat) : Int)) _
                    refine jWp.iast (pc' := 106) (j := 1) mt rfl rfl (jtg hW.K422) (by decide) (jlt hW.K422 (by decide)) ?_
                    show jWp 202 106 [some (jO m), some (jI (zlt t F p)), some (jI 3), some (jI 1), some (jI 1), some (jI 0)] [] 0 0 (jW (jW (jW (jW (jW (jW (jW w m 25 ((p : Int) + 1)) (m + 422) 0 (zlt t F (p + 1) - 48)) m 25 ((p + 2 : Nat) : Int)) (m + 422) 0 (zlt t F (p + 1) - 48)) (m + 422) 1 (zlt t F (p + 2) - 48)) m 25 ((p + 3 : Nat) : Int)) (m + 422) 1 (zlt t F (p + 2) - 48)) _
                    refine jWp.blk mt 4 ?_
                    show jWp 202 34 [some (jO m), some (jI (zlt t F p)), some (jI 3), some (jI 1), some (jI 2), some (jI 0)] [jI 3, jI 2] 0 0 (jW (jW (jW (jW (jW (jW (jW w m 25 ((p : Int) + 1)) (m + 422) 0 (zlt t F (p + 1) - 48)) m 25 ((p + 2 : Nat) : Int)) (m + 422) 0 (zlt t F (p + 1) - 48)) (m + 422) 1 (zlt t F (p + 2) - 48)) m 25 ((p + 3 : Nat) : Int)) (m + 422) 1 (zlt t F (p + 2) - 48)) _
                    refine jWp.icmp (pc' := 37) mt rfl rfl (show b32 2 = 2 by decide) (show b32 3 = 3 by decide) (fun h26 => ?_) (fun h26 => ?_)
                    · exact absurd (show 3 ≤ (2 : Int) from h26) (by decide)
                    · have h26 := h26
                      refine jWp.blk mt 1 ?_
                      show jWp 202 38 [some (jO m), some (jI (zlt t F p)), some (jI 3), some (jI 1), some (jI 2), some (jI 0)] [jI 1] 0 0 (jW (jW (jW (jW (jW (jW (jW w m 25 ((p : Int) + 1)) (m + 422) 0 (zlt t F (p + 1) - 48)) m 25 ((p + 2 : Nat) : Int)) (m + 422) 0 (zlt t F (p + 1) - 48)) (m + 422) 1 (zlt t F (p + 2) - 48)) m 25 ((p + 3 : Nat) : Int)) (m + 422) 1 (zlt t F (p + 2) - 48)) _
                      refine jWp.ifc (b := false) mt rfl (by decide) rfl ?_
                      show jWp 202 41 [some (jO m), some (jI (zlt t F p)), some (jI 3), some (jI 1), some (jI 2), some (jI 0)] [] 0 0 (jW (jW (jW (jW (jW (jW (jW w m 25 ((p : Int) + 1)) (m + 422) 0 (zlt t F (p + 1) - 48)) m 25 ((p + 2 : Nat) : Int)) (m + 422) 0 (zlt t F (p + 1) - 48)) (m + 422) 1 (zlt t F (p + 2) - 48)) m 25 ((p + 3 : Nat) : Int)) (m + 422) 1 (zlt t F (p + 2) - 48)) _
                      refine jWp.blk mt 2 ?_
                      show jWp 202 44 [some (jO m), some (jI (zlt t F p)), some (jI 3), some (jI 1), some (jI 2), some (jI 0)] [jI 98, jI (zlt t F p)] 0 0 (jW (jW (jW (jW (jW (jW (jW w m 25 ((p : Int) + 1)) (m + 422) 0 (zlt t F (p + 1) - 48)) m 25 ((p + 2 : Nat) : Int)) (m + 422) 0 (zlt t F (p + 1) - 48)) (m + 422) 1 (zlt t F (p + 2) - 48)) m 25 ((p + 3 : Nat) : Int)) (m + 422) 1 (zlt t F (p + 2) - 48)) _
                      refine jWp.icmp (pc' := 47) mt rfl rfl (b32_id (by have := zlt_b hL p; omega) (by have := zlt_b hL p; omega)) (show b32 98 = 98 by decide) (fun h27 => ?_) (fun h27 => ?_)
                      · have h27 : (zlt t F p) ≠ 98 := h27
                        exfalso; omega
                      · have h27 : (zlt t F p) = 98 := h27
                        refine jWp.blk mt 2 ?_
                        show jWp 202 50 [some (jO m), some (jI (zlt t F p)), some (jI 3), some (jI 1), some (jI 2), some (jI 0)] [jI 2, jI 2] 0 0 (jW (jW (jW (jW (jW (jW (jW w m 25 ((p : Int) + 1)) (m + 422) 0 (zlt t F (p + 1) - 48)) m 25 ((p + 2 : Nat) : Int)) (m + 422) 0 (zlt t F (p + 1) - 48)) (m + 422) 1 (zlt t F (p + 2) - 48)) m 25 ((p + 3 : Nat) : Int)) (m + 422) 1 (zlt t F (p + 2) - 48)) _
                        refine jWp.icmp (pc' := 53) mt rfl rfl (show b32 2 = 2 by decide) (show b32 2 = 2 by decide) (fun h28 => ?_) (fun h28 => ?_)
                        · exact absurd (show (2 : Int) ≠ 2 from h28) (by decide)
                        · have h28 := h28
                          refine jWp.blk mt 2 ?_
                          show _ ∧ jWp 202 56 [some (jO m), some (jI (zlt t F p)), some (jI 3), some (jI 1), some (jI 2), some (jI 0)] [jI 45, jO m] 0 0 (jW (jW (jW (jW (jW (jW (jW w m 25 ((p : Int) + 1)) (m + 422) 0 (zlt t F (p + 1) - 48)) m 25 ((p + 2 : Nat) : Int)) (m + 422) 0 (zlt t F (p + 1) - 48)) (m + 422) 1 (zlt t F (p + 2) - 48)) m 25 ((p + 3 : Nat) : Int)) (m + 422) 1 (zlt t F (p + 2) - 48)) _
                          refine ⟨rfl, ?_⟩
                          refine jWp.callv (as := [jO m, jI 45]) (rest := []) mt rfl rfl rfl ⟨rfl, jtg hW.K0⟩ ?_
                          refine jCall.mono (E_takes (w := (jW (jW (jW (jW (jW (jW (jW w m 25 ((p : Int) + 1)) (m + 422) 0 (zlt t F (p + 1) - 48)) m 25 ((p + 2 : Nat) : Int)) (m + 422) 0 (zlt t F (p + 1) - 48)) (m + 422) 1 (zlt t F (p + 2) - 48)) m 25 ((p + 3 : Nat) : Int)) (m + 422) 1 (zlt t F (p + 2) - 48))) (F := F) (p := (p + 3)) (t := t) hW (((jW_a (by omega)).trans ((jW_k (by decide)).trans ((jW_a (by omega)).trans ((jW_a (by omega)).trans ((jW_k (by decide)).trans ((jW_a (by omega)).trans ((jW_k (by decide)).trans rfl))))))).trans hF) hF72 (((jW_a (by omega)).trans jW_s).trans (by omega)) (by omega) (((jW_f (by omega)).trans ((jW_f (by omega)).trans ((jW_f (by omega)).trans ((jW_f (by omega)).trans ((jW_f (by omega)).trans ((jW_f (by omega)).trans ((jW_f (by omega)).trans rfl))))))).trans ht) hL (c := 45) (by unfold r32; decide)) (fun v9 w9 h9 => ?_)
                          rcases h9 with ⟨rfl, h9, h29⟩ | ⟨rfl, h9, h29⟩ <;> subst h9
                          · have h29' := h29
                            show jWp 202 59 [some (jO m), some (jI (zlt t F p)), some (jI 3), some (jI 1), some (jI 2), some (jI 0)] [jI 1] 0 0 (jW (jW (jW (jW (jW (jW (jW (jW w m 25 ((p : Int) + 1)) (m + 422) 0 (zlt t F (p + 1) - 48)) m 25 ((p + 2 : Nat) : Int)) (m + 422) 0 (zlt t F (p + 1) - 48)) (m + 422) 1 (zlt t F (p + 2) - 48)) m 25 ((p + 3 : Nat) : Int)) (m + 422) 1 (zlt t F (p + 2) - 48)) m 25 ((p + 4 : Nat) : Int)) _
                            refine jWp.ifc (b := false) mt rfl (by decide) rfl ?_
                            show jWp 202 62 [some (jO m), some (jI (zlt t F p)), some (jI 3), some (jI 1), some (jI 2), some (jI 0)] [] 0 0 (jW (jW (jW (jW (jW (jW (jW (jW w m 25 ((p : Int) + 1)) (m + 422) 0 (zlt t F (p + 1) - 48)) m 25 ((p + 2 : Nat) : Int)) (m + 422) 0 (zlt t F (p + 1) - 48)) (m + 422) 1 (zlt t F (p + 2) - 48)) m 25 ((p + 3 : Nat) : Int)) (m + 422) 1 (zlt t F (p + 2) - 48)) m 25 ((p + 4 : Nat) : Int)) _
                            refine jWp.blk mt 5 ?_
                            show _ ∧ jWp 202 72 [some (jO m), some (jI (zlt t F p)), some (jI 3), some (jI 1), some (jI 2), some (jI 1)] [jI 2, jO m] 0 0 (jW (jW (jW (jW (jW (jW (jW (jW w m 25 ((p : Int) + 1)) (m + 422) 0 (zlt t F (p + 1) - 48)) m 25 ((p + 2 : Nat) : Int)) (m + 422) 0 (zlt t F (p + 1) - 48)) (m + 422) 1 (zlt t F (p + 2) - 48)) m 25 ((p + 3 : Nat) : Int)) (m + 422) 1 (zlt t F (p + 2) - 48)) m 25 ((p + 4 : Nat) : Int)) _
                            refine ⟨rfl, ?_⟩
                            refine jWp.callv (as := [jO m, jI 2]) (rest := []) mt rfl rfl rfl ⟨rfl, jtg hW.K0⟩ ?_
                            refine jCall.mono (E_hasFigure (w := (jW (jW (jW (jW (jW (jW (jW (jW w m 25 ((p : Int) + 1)) (m + 422) 0 (zlt t F (p + 1) - 48)) m 25 ((p + 2 : Nat) : Int)) (m + 422) 0 (zlt t F (p + 1) - 48)) (m + 422) 1 (zlt t F (p + 2) - 48)) m 25 ((p + 3 : Nat) : Int)) (m + 422) 1 (zlt t F (p + 2) - 48)) m 25 ((p + 4 : Nat) : Int))) (F := F) (p := (p + 4)) (t := t) hW (((jW_k (by decide)).trans ((jW_a (by omega)).trans ((jW_k (by decide)).trans ((jW_a (by omega)).trans ((jW_a (by omega)).trans ((jW_k (by decide)).trans ((jW_a (by omega)).trans ((jW_k (by decide)).trans rfl)))))))).trans hF) hF72 (jW_s.trans (by omega)) (by omega) (((jW_f (by omega)).trans ((jW_f (by omega)).trans ((jW_f (by omega)).trans ((jW_f (by omega)).trans ((jW_f (by omega)).trans ((jW_f (by omega)).trans ((jW_f (by omega)).trans ((jW_f (by omega)).trans rfl)))))))).trans ht) hL (k := 2) (by decide)) (fun v9 w9 h9 => ?_)
                            rcases h9 with ⟨rfl, h9, h30⟩ | ⟨rfl, h9, h30⟩ <;> subst h9
                            · have h30' := h30
                              show jWp 202 75 [some (jO m), some (jI (zlt t F p)), some (jI 3), some (jI 1), some (jI 2), some (jI 1)] [jI 1] 0 0 (jW (jW (jW (jW (jW (jW (jW (jW (jW (jW w m 25 ((p : Int) + 1)) (m + 422) 0 (zlt t F (p + 1) - 48)) m 25 ((p + 2 : Nat) : Int)) (m + 422) 0 (zlt t F (p + 1) - 48)) (m + 422) 1 (zlt t F (p + 2) - 48)) m 25 ((p + 3 : Nat) : Int)) (m + 422) 1 (zlt t F (p + 2) - 48)) m 25 ((p + 4 : Nat) : Int)) (m + 422) 2 (zlt t F (p + 4) - 48)) m 25 ((p + 5 : Nat) : Int)) _
                              refine jWp.blk mt 2 ?_
                              show _ ∧ jWp 202 77 [some (jO m), some (jI (zlt t F p)), some (jI 3), some (jI 1), some (jI 2), some (jI 1)] [jO m] 0 0 (jW (jW (jW (jW (jW (jW (jW (jW (jW (jW w m 25 ((p : Int) + 1)) (m + 422) 0 (zlt t F (p + 1) - 48)) m 25 ((p + 2 : Nat) : Int)) (m + 422) 0 (zlt t F (p + 1) - 48)) (m + 422) 1 (zlt t F (p + 2) - 48)) m 25 ((p + 3 : Nat) : Int)) (m + 422) 1 (zlt t F (p + 2) - 48)) m 25 ((p + 4 : Nat) : Int)) (m + 422) 2 (zlt t F (p + 4) - 48)) m 25 ((p + 5 : Nat) : Int)) _
                              refine ⟨rfl, ?_⟩
                              refine jWp.getR (pc' := 80) (o := (m + 422)) mt rfl rfl (jtg hW.K0) hW.R26 ?_
                              show jWp 202 80 [some (jO m), some (jI (zlt t F p)), some (jI 3), some (jI 1), some (jI 2), some (jI 1)] [jO (m + 422)] 0 0 (jW (jW (jW (jW (jW (jW (jW (jW (jW (jW w m 25 ((p : Int) + 1)) (m + 422) 0 (zlt t F (p + 1) - 48)) m 25 ((p + 2 : Nat) : Int)) (m + 422) 0 (zlt t F (p + 1) - 48)) (m + 422) 1 (zlt t F (p + 2) - 48)) m 25 ((p + 3 : Nat) : Int)) (m + 422) 1 (zlt t F (p + 2) - 48)) m 25 ((p + 4 : Nat) : Int)) (m + 422) 2 (zlt t F (p + 4) - 48)) m 25 ((p + 5 : Nat) : Int)) _
                              refine jWp.blk mt 2 ?_
                              show jWp 202 84 [some (jO m), some (jI (zlt t F p)), some (jI 3), some (jI 1), some (jI 2), some (jI 1)] [jI 1, jI 2, jO (m + 422)] 0 0 (jW (jW (jW (jW (jW (jW (jW (jW (jW (jW w m 25 ((p : Int) + 1)) (m + 422) 0 (zlt t F (p + 1) - 48)) m 25 ((p + 2 : Nat) : Int)) (m + 422) 0 (zlt t F (p + 1) - 48)) (m + 422) 1 (zlt t F (p + 2) - 48)) m 25 ((p + 3 : Nat) : Int)) (m + 422) 1 (zlt t F (p + 2) - 48)) m 25 ((p + 4 : Nat) : Int)) (m + 422) 2 (zlt t F (p + 4) - 48)) m 25 ((p + 5 : Nat) : Int)) _
                              refine jWp.ifc (b := false) mt rfl (by decide) rfl ?_
                              show jWp 202 87 [some (jO m), some (jI (zlt t F p)), some (jI 3), some (jI 1), some (jI 2), some (jI 1)] [jI 2, jO (m + 422)] 0 0 (jW (jW (jW (jW (jW (jW (jW (jW (jW (jW w m 25 ((p : Int) + 1)) (m + 422) 0 (zlt t F (p + 1) - 48)) m 25 ((p + 2 : Nat) : Int)) (m + 422) 0 (zlt t F (p + 1) - 48)) (m + 422) 1 (zlt t F (p + 2) - 48)) m 25 ((p + 3 : Nat) : Int)) (m + 422) 1 (zlt t F (p + 2) - 48)) m 25 ((p + 4 : Nat) : Int)) (m + 422) 2 (zlt t F (p + 4) - 48)) m 25 ((p + 5 : Nat) : Int)) _
                              refine jWp.blk mt 1 ?_
                              show _ ∧ jWp 202 88 [some (jO m), some (jI (zlt t F p)), some (jI 3), some (jI 1), some (jI 2), some (jI 1)] [jO m, jI 2, jO (m + 422)] 0 0 (jW (jW (jW (jW (jW (jW (jW (jW (jW (jW w m 25 ((p : Int) + 1)) (m + 422) 0 (zlt t F (p + 1) - 48)) m 25 ((p + 2 : Nat) : Int)) (m + 422) 0 (zlt t F (p + 1) - 48)) (m + 422) 1 (zlt t F (p + 2) - 48)) m 25 ((p + 3 : Nat) : Int)) (m + 422) 1 (zlt t F (p + 2) - 48)) m 25 ((p + 4 : Nat) : Int)) (m + 422) 2 (zlt t F (p + 4) - 48)) m 25 ((p + 5 : Nat) : Int)) _
                              refine ⟨rfl, ?_⟩
                              refine jWp.getR (pc' := 91) (o := (m + 422)) mt rfl rfl (jtg hW.K0) hW.R26 ?_
                              show jWp 202 91 [some (jO m), some (jI (zlt t F p)), some (jI 3), some (jI 1), some (jI 2), some (jI 1)] [jO (m + 422), jI 2, jO (m + 422)] 0 0 (jW (jW (jW (jW (jW (jW (jW (jW (jW (jW w m 25 ((p : Int) + 1)) (m + 422) 0 (zlt t F (p + 1) - 48)) m 25 ((p + 2 : Nat) : Int)) (m + 422) 0 (zlt t F (p + 1) - 48)) (m + 422) 1 (zlt t F (p + 2) - 48)) m 25 ((p + 3 : Nat) : Int)) (m + 422) 1 (zlt t F (p + 2) - 48)) m 25 ((p + 4 : Nat) : Int)) (m + 422) 2 (zlt t F (p + 4) - 48)) m 25 ((p + 5 : Nat) : Int)) _
                              refine jWp.blk mt 1 ?_
                              show jWp 202 93 [some (jO m), some (jI (zlt t F p)), some (jI 3), some (jI 1), some (jI 2), some (jI 1)] [jI 2, jO (m + 422), jI 2, jO (m + 422)] 0 0 (jW (jW (jW (jW (jW (jW (jW (jW (jW (jW w m 25 ((p : Int) + 1)) (m + 422) 0 (zlt t F (p + 1) - 48)) m 25 ((p + 2 : Nat) : Int)) (m + 422) 0 (zlt t F (p + 1) - 48)) (m + 422) 1 (zlt t F (p + 2) - 48)) m 25 ((p + 3 : Nat) : Int)) (m + 422) 1 (zlt t F (p + 2) - 48)) m 25 ((p + 4 : Nat) : Int)) (m + 422) 2 (zlt t F (p + 4) - 48)) m 25 ((p + 5 : Nat) : Int)) _
                              refine jWp.iald (pc' := 94) (j := 2) mt rfl rfl (jird_of hW.K422) (by decide) (jlt hW.K422 (by decide)) ?_
                              rw [show ((jW (jW (jW (jW (jW (jW (jW (jW (jW (jW w m 25 ((p : Int) + 1)) (m + 422) 0 (zlt t F (p + 1) - 48)) m 25 ((p + 2 : Nat) : Int)) (m + 422) 0 (zlt t F (p + 1) - 48)) (m + 422) 1 (zlt t F (p + 2) - 48)) m 25 ((p + 3 : Nat) : Int)) (m + 422) 1 (zlt t F (p + 2) - 48)) m 25 ((p + 4 : Nat) : Int)) (m + 422) 2 (zlt t F (p + 4) - 48)) m 25 ((p + 5 : Nat) : Int)).1 (m + 422) 2) = (zlt t F (p + 4) - 48) from ((jW_a (by omega)).trans jW_s)]
                              show jWp 202 94 [some (jO m), some (jI (zlt t F p)), some (jI 3), some (jI 1), some (jI 2), some (jI 1)] [jI (zlt t F (p + 4) - 48), jI 2, jO (m + 422)] 0 0 (jW (jW (jW (jW (jW (jW (jW (jW (jW (jW w m 25 ((p : Int) + 1)) (m + 422) 0 (zlt t F (p + 1) - 48)) m 25 ((p + 2 : Nat) : Int)) (m + 422) 0 (zlt t F (p + 1) - 48)) (m + 422) 1 (zlt t F (p + 2) - 48)) m 25 ((p + 3 : Nat) : Int)) (m + 422) 1 (zlt t F (p + 2) - 48)) m 25 ((p + 4 : Nat) : Int)) (m + 422) 2 (zlt t F (p + 4) - 48)) m 25 ((p + 5 : Nat) : Int)) _
                              refine jWp.blk mt 2 ?_
                              show jWp 202 105 [some (jO m), some (jI (zlt t F p)), some (jI 3), some (jI 1), some (jI 2), some (jI 1)] [jI (-(zlt t F (p + 4) - 48)), jI 2, jO (m + 422)] 0 0 (jW (jW (jW (jW (jW (jW (jW (jW (jW (jW w m 25 ((p : Int) + 1)) (m + 422) 0 (zlt t F (p + 1) - 48)) m 25 ((p + 2 : Nat) : Int)) (m + 422) 0 (zlt t F (p + 1) - 48)) (m + 422) 1 (zlt t F (p + 2) - 48)) m 25 ((p + 3 : Nat) : Int)) (m + 422) 1 (zlt t F (p + 2) - 48)) m 25 ((p + 4 : Nat) : Int)) (m + 422) 2 (zlt t F (p + 4) - 48)) m 25 ((p + 5 : Nat) : Int)) _
                              refine jWp.iast (pc' := 106) (j := 2) mt rfl rfl (jtg hW.K422) (by decide) (jlt hW.K422 (by decide)) ?_
                              show jWp 202 106 [some (jO m), some (jI (zlt t F p)), some (jI 3), some (jI 1), some (jI 2), some (jI 1)] [] 0 0 (jW (jW (jW (jW (jW (jW (jW (jW (jW (jW (jW w m 25 ((p : Int) + 1)) (m + 422) 0 (zlt t F (p + 1) - 48)) m 25 ((p + 2 : Nat) : Int)) (m + 422) 0 (zlt t F (p + 1) - 48)) (m + 422) 1 (zlt t F (p + 2) - 48)) m 25 ((p + 3 : Nat) : Int)) (m + 422) 1 (zlt t F (p + 2) - 48)) m 25 ((p + 4 : Nat) : Int)) (m + 422) 2 (zlt t F (p + 4) - 48)) m 25 ((p + 5 : Nat) : Int)) (m + 422) 2 (-(zlt t F (p + 4) - 48))) _
                              refine jWp.blk mt 4 ?_
                              show jWp 202 34 [some (jO m), some (jI (zlt t F p)), some (jI 3), some (jI 1), some (jI 3), some (jI 1)] [jI 3, jI 3] 0 0 (jW (jW (jW (jW (jW (jW (jW (jW (jW (jW (jW w m 25 ((p : Int) + 1)) (m + 422) 0 (zlt t F (p + 1) - 48)) m 25 ((p + 2 : Nat) : Int)) (m + 422) 0 (zlt t F (p + 1) - 48)) (m + 422) 1 (zlt t F (p + 2) - 48)) m 25 ((p + 3 : Nat) : Int)) (m + 422) 1 (zlt t F (p + 2) - 48)) m 25 ((p + 4 : Nat) : Int)) (m + 422) 2 (zlt t F (p + 4) - 48)) m 25 ((p + 5 : Nat) : Int)) (m + 422) 2 (-(zlt t F (p + 4) - 48))) _
                              refine jWp.icmp (pc' := 37) mt rfl rfl (show b32 3 = 3 by decide) (show b32 3 = 3 by decide) (fun h31 => ?_) (fun h31 => ?_)
                              · have h31 := h31
                                refine jWp.blk mt 1 ?_
                                show jWp 202 113 [some (jO m), some (jI (zlt t F p)), some (jI 3), some (jI 1), some (jI 3), some (jI 1)] [jI 1] 0 0 (jW (jW (jW (jW (jW (jW (jW (jW (jW (jW (jW w m 25 ((p : Int) + 1)) (m + 422) 0 (zlt t F (p + 1) - 48)) m 25 ((p + 2 : Nat) : Int)) (m + 422) 0 (zlt t F (p + 1) - 48)) (m + 422) 1 (zlt t F (p + 2) - 48)) m 25 ((p + 3 : Nat) : Int)) (m + 422) 1 (zlt t F (p + 2) - 48)) m 25 ((p + 4 : Nat) : Int)) (m + 422) 2 (zlt t F (p + 4) - 48)) m 25 ((p + 5 : Nat) : Int)) (m + 422) 2 (-(zlt t F (p + 4) - 48))) _
                                refine jWp.ifc (b := false) mt rfl (by decide) rfl ?_
                                show jWp 202 116 [some (jO m), some (jI (zlt t F p)), some (jI 3), some (jI 1), some (jI 3), some (jI 1)] [] 0 0 (jW (jW (jW (jW (jW (jW (jW (jW (jW (jW (jW w m 25 ((p : Int) + 1)) (m + 422) 0 (zlt t F (p + 1) - 48)) m 25 ((p + 2 : Nat) : Int)) (m + 422) 0 (zlt t F (p + 1) - 48)) (m + 422) 1 (zlt t F (p + 2) - 48)) m 25 ((p + 3 : Nat) : Int)) (m + 422) 1 (zlt t F (p + 2) - 48)) m 25 ((p + 4 : Nat) : Int)) (m + 422) 2 (zlt t F (p + 4) - 48)) m 25 ((p + 5 : Nat) : Int)) (m + 422) 2 (-(zlt t F (p + 4) - 48))) _
                                refine jWp.blk mt 2 ?_
                                show _ ∧ jWp 202 119 [some (jO m), some (jI (zlt t F p)), some (jI 3), some (jI 1), some (jI 3), some (jI 1)] [jI 59, jO m] 0 0 (jW (jW (jW (jW (jW (jW (jW (jW (jW (jW (jW w m 25 ((p : Int) + 1)) (m + 422) 0 (zlt t F (p + 1) - 48)) m 25 ((p + 2 : Nat) : Int)) (m + 422) 0 (zlt t F (p + 1) - 48)) (m + 422) 1 (zlt t F (p + 2) - 48)) m 25 ((p + 3 : Nat) : Int)) (m + 422) 1 (zlt t F (p + 2) - 48)) m 25 ((p + 4 : Nat) : Int)) (m + 422) 2 (zlt t F (p + 4) - 48)) m 25 ((p + 5 : Nat) : Int)) (m + 422) 2 (-(zlt t F (p + 4) - 48))) _
                                refine ⟨rfl, ?_⟩
                                refine jWp.callv (as := [jO m, jI 59]) (rest := []) mt rfl rfl rfl ⟨rfl, jtg hW.K0⟩ ?_
                                refine jCall.mono (E_takes (w := (jW (jW (jW (jW (jW (jW (jW (jW (jW (jW (jW w m 25 ((p : Int) + 1)) (m + 422) 0 (zlt t F (p + 1) - 48)) m 25 ((p + 2 : Nat) : Int)) (m + 422) 0 (zlt t F (p + 1) - 48)) (m + 422) 1 (zlt t F (p + 2) - 48)) m 25 ((p + 3 : Nat) : Int)) (m + 422) 1 (zlt t F (p + 2) - 48)) m 25 ((p + 4 : Nat) : Int)) (m + 422) 2 (zlt t F (p + 4) - 48)) m 25 ((p + 5 : Nat) : Int)) (m + 422) 2 (-(zlt t F (p + 4) - 48)))) (F := F) (p := (p + 5)) (t := t) hW (((jW_a (by omega)).trans ((jW_k (by decide)).trans ((jW_a (by omega)).trans ((jW_k (by decide)).trans ((jW_a (by omega)).trans ((jW_k (by decide)).trans ((jW_a (by omega)).trans ((jW_a (by omega)).trans ((jW_k (by decide)).trans ((jW_a (by omega)).trans ((jW_k (by decide)).trans rfl))))))))))).trans hF) hF72 (((jW_a (by omega)).trans jW_s).trans (by omega)) (by omega) (((jW_f (by omega)).trans ((jW_f (by omega)).trans ((jW_f (by omega)).trans ((jW_f (by omega)).trans ((jW_f (by omega)).trans ((jW_f (by omega)).trans ((jW_f (by omega)).trans ((jW_f (by omega)).trans ((jW_f (by omega)).trans ((jW_f (by omega)).trans ((jW_f (by omega)).trans rfl))))))))))).trans ht) hL (c := 59) (by unfold r32; decide)) (fun v9 w9 h9 => ?_)
                                rcases h9 with ⟨rfl, h9, h32⟩ | ⟨rfl, h9, h32⟩ <;> subst h9
                                · have h32' := h32
                                  show jWp 202 122 [some (jO m), some (jI (zlt t F p)), some (jI 3), some (jI 1), some (jI 3), some (jI 1)] [jI 1] 0 0 (jW (jW (jW (jW (jW (jW (jW (jW (jW (jW (jW (jW w m 25 ((p : Int) + 1)) (m + 422) 0 (zlt t F (p + 1) - 48)) m 25 ((p + 2 : Nat) : Int)) (m + 422) 0 (zlt t F (p + 1) - 48)) (m + 422) 1 (zlt t F (p + 2) - 48)) m 25 ((p + 3 : Nat) : Int)) (m + 422) 1 (zlt t F (p + 2) - 48)) m 25 ((p + 4 : Nat) : Int)) (m + 422) 2 (zlt t F (p + 4) - 48)) m 25 ((p + 5 : Nat) : Int)) (m + 422) 2 (-(zlt t F (p + 4) - 48))) m 25 ((p + 6 : Nat) : Int)) _
                                  refine jWp.ifc (b := false) mt rfl (by decide) rfl ?_
                                  show jWp 202 125 [some (jO m), some (jI (zlt t F p)), some (jI 3), some (jI 1), some (jI 3), some (jI 1)] [] 0 0 (jW (jW (jW (jW (jW (jW (jW (jW (jW (jW (jW (jW w m 25 ((p : Int) + 1)) (m + 422) 0 (zlt t F (p + 1) - 48)) m 25 ((p + 2 : Nat) : Int)) (m + 422) 0 (zlt t F (p + 1) - 48)) (m + 422) 1 (zlt t F (p + 2) - 48)) m 25 ((p + 3 : Nat) : Int)) (m + 422) 1 (zlt t F (p + 2) - 48)) m 25 ((p + 4 : Nat) : Int)) (m + 422) 2 (zlt t F (p + 4) - 48)) m 25 ((p + 5 : Nat) : Int)) (m + 422) 2 (-(zlt t F (p + 4) - 48))) m 25 ((p + 6 : Nat) : Int)) _
                                  refine jWp.blk mt 2 ?_
                                  show jWp 202 130 [some (jO m), some (jI (zlt t F p)), some (jI 3), some (jI 1), some (jI 3), some (jI 1)] [jI 1] 0 0 (jW (jW (jW (jW (jW (jW (jW (jW (jW (jW (jW (jW w m 25 ((p : Int) + 1)) (m + 422) 0 (zlt t F (p + 1) - 48)) m 25 ((p + 2 : Nat) : Int)) (m + 422) 0 (zlt t F (p + 1) - 48)) (m + 422) 1 (zlt t F (p + 2) - 48)) m 25 ((p + 3 : Nat) : Int)) (m + 422) 1 (zlt t F (p + 2) - 48)) m 25 ((p + 4 : Nat) : Int)) (m + 422) 2 (zlt t F (p + 4) - 48)) m 25 ((p + 5 : Nat) : Int)) (m + 422) 2 (-(zlt t F (p + 4) - 48))) m 25 ((p + 6 : Nat) : Int)) _
                                  refine jWp.iretz mt rfl ⟨rfl, rfl⟩ rfl (Or.inr rfl) ?_
                                  have hl9 := zlt_l (t := t) (F := F) (by assumption : zlt t F (p + 5) = 59) (by decide)
                                  refine ⟨(p + 6), ⟨rfl, fun a ga gb => ((jW_f (by omega)).trans ((jW_f (by omega)).trans ((jW_f (by omega)).trans ((jW_f (by omega)).trans ((jW_f (by omega)).trans ((jW_f (by omega)).trans ((jW_f (by omega)).trans ((jW_f (by omega)).trans ((jW_f (by omega)).trans ((jW_f (by omega)).trans ((jW_f (by omega)).trans ((jW_f (by omega)).trans rfl)))))))))))), fun j gj => ((jW_k (by omega)).trans ((jW_a (by omega)).trans ((jW_k (by omega)).trans ((jW_a (by omega)).trans ((jW_k (by omega)).trans ((jW_a (by omega)).trans ((jW_k (by omega)).trans ((jW_a (by omega)).trans ((jW_a (by omega)).trans ((jW_k (by omega)).trans ((jW_a (by omega)).trans ((jW_k (by omega)).trans rfl))))))))))))⟩, jW_s, Or.inl ⟨rfl, ?_, by omega, by omega, by omega, by omega, ⟨((jW_a (by omega)).trans ((jW_k (by decide)).trans ((jW_a (by omega)).trans ((jW_k (by decide)).trans ((jW_a (by omega)).trans ((jW_k (by decide)).trans ((jW_a (by omega)).trans ((jW_k (by decide)).trans jW_s)))))))).trans ?_, by rw [((jW_a (by omega)).trans ((jW_k (by decide)).trans ((jW_a (by omega)).trans ((jW_k (by decide)).trans ((jW_a (by omega)).trans ((jW_k (by decide)).trans ((jW_a (by omega)).trans ((jW_k (by decide)).trans jW_s))))))))]; omega, by rw [((jW_a (by omega)).trans ((jW_k (by decide)).trans ((jW_a (by omega)).trans ((jW_k (by decide)).trans ((jW_a (by omega)).trans ((jW_k (by decide)).trans ((jW_a (by omega)).trans ((jW_k (by decide)).trans jW_s))))))))]; omega⟩, ?_, ?_⟩⟩
                                  · unfold zbh zfn
                                    (repeat' split) <;> omega
                                  · unfold zfg
                                    split <;> omega
                                  · intro hc9
                                    first
                                    | (exfalso; omega)
                                    | (rw [((jW_a (by omega)).trans ((jW_k (by decide)).trans ((jW_a (by omega)).trans ((jW_k (by decide)).trans ((jW_a (by omega)).trans jW_s)))))]
                                       refine ⟨?_, by omega, by omega⟩
                                       unfold zfg
                                       split <;> omega)
                                  · intro hc9
                                    first
                                    | (exfalso; omega)
                                    | (rw [((jW_a (by omega)).trans jW_s)]
                                       refine ⟨?_, by omega, by omega⟩
                                       unfold znm zfg
                                       try rw [show p + 3 + 1 = p + 4 from rfl]
                                       (repeat' split) <;> omega)
                                · have h32' := h32
                                  show jWp 202 122 [some (jO m), some (jI (zlt t F p)), some (jI 3), some (jI 1), some (jI 3), some (jI 1)] [jI 0] 0 0 (jW (jW (jW (jW (jW (jW (jW (jW (jW (jW (jW w m 25 ((p : Int) + 1)) (m + 422) 0 (zlt t F (p + 1) - 48)) m 25 ((p + 2 : Nat) : Int)) (m + 422) 0 (zlt t F (p + 1) - 48)) (m + 422) 1 (zlt t F (p + 2) - 48)) m 25 ((p + 3 : Nat) : Int)) (m + 422) 1 (zlt t F (p + 2) - 48)) m 25 ((p + 4 : Nat) : Int)) (m + 422) 2 (zlt t F (p + 4) - 48)) m 25 ((p + 5 : Nat) : Int)) (m + 422) 2 (-(zlt t F (p + 4) - 48))) _
                                  refine jWp.ifc (b := true) mt rfl (by decide) rfl ?_
                                  show jWp 202 129 [some (jO m), some (jI (zlt t F p)), some (jI 3), some (jI 1), some (jI 3), some (jI 1)] [] 0 0 (jW (jW (jW (jW (jW (jW (jW (jW (jW (jW (jW w m 25 ((p : Int) + 1)) (m + 422) 0 (zlt t F (p + 1) - 48)) m 25 ((p + 2 : Nat) : Int)) (m + 422) 0 (zlt t F (p + 1) - 48)) (m + 422) 1 (zlt t F (p + 2) - 48)) m 25 ((p + 3 : Nat) : Int)) (m + 422) 1 (zlt t F (p + 2) - 48)) m 25 ((p + 4 : Nat) : Int)) (m + 422) 2 (zlt t F (p + 4) - 48)) m 25 ((p + 5 : Nat) : Int)) (m + 422) 2 (-(zlt t F (p + 4) - 48))) _
                                  refine jWp.blk mt 1 ?_
                                  show jWp 202 130 [some (jO m), some (jI (zlt t F p)), some (jI 3), some (jI 1), some (jI 3), some (jI 1)] [jI 0] 0 0 (jW (jW (jW (jW (jW (jW (jW (jW (jW (jW (jW w m 25 ((p : Int) + 1)) (m + 422) 0 (zlt t F (p + 1) - 48)) m 25 ((p + 2 : Nat) : Int)) (m + 422) 0 (zlt t F (p + 1) - 48)) (m + 422) 1 (zlt t F (p + 2) - 48)) m 25 ((p + 3 : Nat) : Int)) (m + 422) 1 (zlt t F (p + 2) - 48)) m 25 ((p + 4 : Nat) : Int)) (m + 422) 2 (zlt t F (p + 4) - 48)) m 25 ((p + 5 : Nat) : Int)) (m + 422) 2 (-(zlt t F (p + 4) - 48))) _
                                  refine jWp.iretz mt rfl ⟨rfl, rfl⟩ rfl (Or.inl rfl) ?_
                                  refine ⟨(p + 5), ⟨rfl, fun a ga gb => ((jW_f (by omega)).trans ((jW_f (by omega)).trans ((jW_f (by omega)).trans ((jW_f (by omega)).trans ((jW_f (by omega)).trans ((jW_f (by omega)).trans ((jW_f (by omega)).trans ((jW_f (by omega)).trans ((jW_f (by omega)).trans ((jW_f (by omega)).trans ((jW_f (by omega)).trans rfl))))))))))), fun j gj => ((jW_a (by omega)).trans ((jW_k (by omega)).trans ((jW_a (by omega)).trans ((jW_k (by omega)).trans ((jW_a (by omega)).trans ((jW_k (by omega)).trans ((jW_a (by omega)).trans ((jW_a (by omega)).trans ((jW_k (by omega)).trans ((jW_a (by omega)).trans ((jW_k (by omega)).trans rfl)))))))))))⟩, ((jW_a (by omega)).trans jW_s).trans (by omega), Or.inr ⟨rfl, ?_, by omega, by omega⟩⟩
                                  unfold zbh zfn
                                  (repeat' split) <;> omega
                              · exact absurd (show (3 : Int) < 3 from h31) (by decide)
                            · have h30' := h30
                              show jWp 202 75 [some (jO m), some (jI (zlt t F p)), some (jI 3), some (jI 1), some (jI 2), some (jI 1)] [jI 0] 0 0 (jW (jW (jW (jW (jW (jW (jW (jW (jW w m 25 ((p : Int) + 1)) (m + 422) 0 (zlt t F (p + 1) - 48)) m 25 ((p + 2 : Nat) : Int)) (m + 422) 0 (zlt t F (p + 1) - 48)) (m + 422) 1 (zlt t F (p + 2) - 48)) m 25 ((p + 3 : Nat) : Int)) (m + 422) 1 (zlt t F (p + 2) - 48)) m 25 ((p + 4 : Nat) : Int)) (m + 422) 2 0) _
                              refine jWp.blk mt 2 ?_
                              show _ ∧ jWp 202 77 [some (jO m), some (jI (zlt t F p)), some (jI 3), some (jI 0), some (jI 2), some (jI 1)] [jO m] 0 0 (jW (jW (jW (jW (jW (jW (jW (jW (jW w m 25 ((p : Int) + 1)) (m + 422) 0 (zlt t F (p + 1) - 48)) m 25 ((p + 2 : Nat) : Int)) (m + 422) 0 (zlt t F (p + 1) - 48)) (m + 422) 1 (zlt t F (p + 2) - 48)) m 25 ((p + 3 : Nat) : Int)) (m + 422) 1 (zlt t F (p + 2) - 48)) m 25 ((p + 4 : Nat) : Int)) (m + 422) 2 0) _
                              refine ⟨rfl, ?_⟩
                              refine jWp.getR (pc' := 80) (o := (m + 422)) mt rfl rfl (jtg hW.K0) hW.R26 ?_
                              show jWp 202 80 [some (jO m), some (jI (zlt t F p)), some (jI 3), some (jI 0), some (jI 2), some (jI 1)] [jO (m + 422)] 0 0 (jW (jW (jW (jW (jW (jW (jW (jW (jW w m 25 ((p : Int) + 1)) (m + 422) 0 (zlt t F (p + 1) - 48)) m 25 ((p + 2 : Nat) : Int)) (m + 422) 0 (zlt t F (p + 1) - 48)) (m + 422) 1 (zlt t F (p + 2) - 48)) m 25 ((p + 3 : Nat) : Int)) (m + 422) 1 (zlt t F (p + 2) - 48)) m 25 ((p + 4 : Nat) : Int)) (m + 422) 2 0) _
                              refine jWp.blk mt 2 ?_
                              show jWp 202 84 [some (jO m), some (jI (zlt t F p)), some (jI 3), some (jI 0), some (jI 2), some (jI 1)] [jI 1, jI 2, jO (m + 422)] 0 0 (jW (jW (jW (jW (jW (jW (jW (jW (jW w m 25 ((p : Int) + 1)) (m + 422) 0 (zlt t F (p + 1) - 48)) m 25 ((p + 2 : Nat) : Int)) (m + 422) 0 (zlt t F (p + 1) - 48)) (m + 422) 1 (zlt t F (p + 2) - 48)) m 25 ((p + 3 : Nat) : Int)) (m + 422) 1 (zlt t F (p + 2) - 48)) m 25 ((p + 4 : Nat) : Int)) (m + 422) 2 0) _
                              refine jWp.ifc (b := false) mt rfl (by decide) rfl ?_
                              show jWp 202 87 [some (jO m), some (jI (zlt t F p)), some (jI 3), some (jI 0), some (jI 2), some (jI 1)] [jI 2, jO (m + 422)] 0 0 (jW (jW (jW (jW (jW (jW (jW (jW (jW w m 25 ((p : Int) + 1)) (m + 422) 0 (zlt t F (p + 1) - 48)) m 25 ((p + 2 : Nat) : Int)) (m + 422) 0 (zlt t F (p + 1) - 48)) (m + 422) 1 (zlt t F (p + 2) - 48)) m 25 ((p + 3 : Nat) : Int)) (m + 422) 1 (zlt t F (p + 2) - 48)) m 25 ((p + 4 : Nat) : Int)) (m + 422) 2 0) _
                              refine jWp.blk mt 1 ?_
                              show _ ∧ jWp 202 88 [some (jO m), some (jI (zlt t F p)), some (jI 3), some (jI 0), some (jI 2), some (jI 1)] [jO m, jI 2, jO (m + 422)] 0 0 (jW (jW (jW (jW (jW (jW (jW (jW (jW w m 25 ((p : Int) + 1)) (m + 422) 0 (zlt t F (p + 1) - 48)) m 25 ((p + 2 : Nat) : Int)) (m + 422) 0 (zlt t F (p + 1) - 48)) (m + 422) 1 (zlt t F (p + 2) - 48)) m 25 ((p + 3 : Nat) : Int)) (m + 422) 1 (zlt t F (p + 2) - 48)) m 25 ((p + 4 : Nat) : Int)) (m + 422) 2 0) _
                              refine ⟨rfl, ?_⟩
                              refine jWp.getR (pc' := 91) (o := (m + 422)) mt rfl rfl (jtg hW.K0) hW.R26 ?_
                              show jWp 202 91 [some (jO m), some (jI (zlt t F p)), some (jI 3), some (jI 0), some (jI 2), some (jI 1)] [jO (m + 422), jI 2, jO (m + 422)] 0 0 (jW (jW (jW (jW (jW (jW (jW (jW (jW w m 25 ((p : Int) + 1)) (m + 422) 0 (zlt t F (p + 1) - 48)) m 25 ((p + 2 : Nat) : Int)) (m + 422) 0 (zlt t F (p + 1) - 48)) (m + 422) 1 (zlt t F (p + 2) - 48)) m 25 ((p + 3 : Nat) : Int)) (m + 422) 1 (zlt t F (p + 2) - 48)) m 25 ((p + 4 : Nat) : Int)) (m + 422) 2 0) _
                              refine jWp.blk mt 1 ?_
                              show jWp 202 93 [some (jO m), some (jI (zlt t F p)), some (jI 3), some (jI 0), some (jI 2), some (jI 1)] [jI 2, jO (m + 422), jI 2, jO (m + 422)] 0 0 (jW (jW (jW (jW (jW (jW (jW (jW (jW w m 25 ((p : Int) + 1)) (m + 422) 0 (zlt t F (p + 1) - 48)) m 25 ((p + 2 : Nat) : Int)) (m + 422) 0 (zlt t F (p + 1) - 48)) (m + 422) 1 (zlt t F (p + 2) - 48)) m 25 ((p + 3 : Nat) : Int)) (m + 422) 1 (zlt t F (p + 2) - 48)) m 25 ((p + 4 : Nat) : Int)) (m + 422) 2 0) _
                              refine jWp.iald (pc' := 94) (j := 2) mt rfl rfl (jird_of hW.K422) (by decide) (jlt hW.K422 (by decide)) ?_
                              rw [show ((jW (jW (jW (jW (jW (jW (jW (jW (jW w m 25 ((p : Int) + 1)) (m + 422) 0 (zlt t F (p + 1) - 48)) m 25 ((p + 2 : Nat) : Int)) (m + 422) 0 (zlt t F (p + 1) - 48)) (m + 422) 1 (zlt t F (p + 2) - 48)) m 25 ((p + 3 : Nat) : Int)) (m + 422) 1 (zlt t F (p + 2) - 48)) m 25 ((p + 4 : Nat) : Int)) (m + 422) 2 0).1 (m + 422) 2) = 0 from jW_s]
                              show jWp 202 94 [some (jO m), some (jI (zlt t F p)), some (jI 3), some (jI 0), some (jI 2), some (jI 1)] [jI 0, jI 2, jO (m + 422)] 0 0 (jW (jW (jW (jW (jW (jW (jW (jW (jW w m 25 ((p : Int) + 1)) (m + 422) 0 (zlt t F (p + 1) - 48)) m 25 ((p + 2 : Nat) : Int)) (m + 422) 0 (zlt t F (p + 1) - 48)) (m + 422) 1 (zlt t F (p + 2) - 48)) m 25 ((p + 3 : Nat) : Int)) (m + 422) 1 (zlt t F (p + 2) - 48)) m 25 ((p + 4 : Nat) : Int)) (m + 422) 2 0) _
                              refine jWp.blk mt 2 ?_
                              show jWp 202 105 [some (jO m), some (jI (zlt t F p)), some (jI 3), some (jI 0), some (jI 2), some (jI 1)] [jI (-0), jI 2, jO (m + 422)] 0 0 (jW (jW (jW (jW (jW (jW (jW (jW (jW w m 25 ((p : Int) + 1)) (m + 422) 0 (zlt t F (p + 1) - 48)) m 25 ((p + 2 : Nat) : Int)) (m + 422) 0 (zlt t F (p + 1) - 48)) (m + 422) 1 (zlt t F (p + 2) - 48)) m 25 ((p + 3 : Nat) : Int)) (m + 422) 1 (zlt t F (p + 2) - 48)) m 25 ((p + 4 : Nat) : Int)) (m + 422) 2 0) _
                              refine jWp.iast (pc' := 106) (j := 2) mt rfl rfl (jtg hW.K422) (by decide) (jlt hW.K422 (by decide)) ?_
                              show jWp 202 106 [some (jO m), some (jI (zlt t F p)), some (jI 3), some (jI 0), some (jI 2), some (jI 1)] [] 0 0 (jW (jW (jW (jW (jW (jW (jW (jW (jW (jW w m 25 ((p : Int) + 1)) (m + 422) 0 (zlt t F (p + 1) - 48)) m 25 ((p + 2 : Nat) : Int)) (m + 422) 0 (zlt t F (p + 1) - 48)) (m + 422) 1 (zlt t F (p + 2) - 48)) m 25 ((p + 3 : Nat) : Int)) (m + 422) 1 (zlt t F (p + 2) - 48)) m 25 ((p + 4 : Nat) : Int)) (m + 422) 2 0) (m + 422) 2 (-0)) _
                              refine jWp.blk mt 4 ?_
                              show jWp 202 34 [some (jO m), some (jI (zlt t F p)), some (jI 3), some (jI 0), some (jI 3), some (jI 1)] [jI 3, jI 3] 0 0 (jW (jW (jW (jW (jW (jW (jW (jW (jW (jW w m 25 ((p : Int) + 1)) (m + 422) 0 (zlt t F (p + 1) - 48)) m 25 ((p + 2 : Nat) : Int)) (m + 422) 0 (zlt t F (p + 1) - 48)) (m + 422) 1 (zlt t F (p + 2) - 48)) m 25 ((p + 3 : Nat) : Int)) (m + 422) 1 (zlt t F (p + 2) - 48)) m 25 ((p + 4 : Nat) : Int)) (m + 422) 2 0) (m + 422) 2 (-0)) _
                              refine jWp.icmp (pc' := 37) mt rfl rfl (show b32 3 = 3 by decide) (show b32 3 = 3 by decide) (fun h33 => ?_) (fun h33 => ?_)
                              · have h33 := h33
                                refine jWp.blk mt 1 ?_
                                show jWp 202 113 [some (jO m), some (jI (zlt t F p)), some (jI 3), some (jI 0), some (jI 3), some (jI 1)] [jI 0] 0 0 (jW (jW (jW (jW (jW (jW (jW (jW (jW (jW w m 25 ((p : Int) + 1)) (m + 422) 0 (zlt t F (p + 1) - 48)) m 25 ((p + 2 : Nat) : Int)) (m + 422) 0 (zlt t F (p + 1) - 48)) (m + 422) 1 (zlt t F (p + 2) - 48)) m 25 ((p + 3 : Nat) : Int)) (m + 422) 1 (zlt t F (p + 2) - 48)) m 25 ((p + 4 : Nat) : Int)) (m + 422) 2 0) (m + 422) 2 (-0)) _
                                refine jWp.ifc (b := true) mt rfl (by decide) rfl ?_
                                show jWp 202 129 [some (jO m), some (jI (zlt t F p)), some (jI 3), some (jI 0), some (jI 3), some (jI 1)] [] 0 0 (jW (jW (jW (jW (jW (jW (jW (jW (jW (jW w m 25 ((p : Int) + 1)) (m + 422) 0 (zlt t F (p + 1) - 48)) m 25 ((p + 2 : Nat) : Int)) (m + 422) 0 (zlt t F (p + 1) - 48)) (m + 422) 1 (zlt t F (p + 2) - 48)) m 25 ((p + 3 : Nat) : Int)) (m + 422) 1 (zlt t F (p + 2) - 48)) m 25 ((p + 4 : Nat) : Int)) (m + 422) 2 0) (m + 422) 2 (-0)) _
                                refine jWp.blk mt 1 ?_
                                show jWp 202 130 [some (jO m), some (jI (zlt t F p)), some (jI 3), some (jI 0), some (jI 3), some (jI 1)] [jI 0] 0 0 (jW (jW (jW (jW (jW (jW (jW (jW (jW (jW w m 25 ((p : Int) + 1)) (m + 422) 0 (zlt t F (p + 1) - 48)) m 25 ((p + 2 : Nat) : Int)) (m + 422) 0 (zlt t F (p + 1) - 48)) (m + 422) 1 (zlt t F (p + 2) - 48)) m 25 ((p + 3 : Nat) : Int)) (m + 422) 1 (zlt t F (p + 2) - 48)) m 25 ((p + 4 : Nat) : Int)) (m + 422) 2 0) (m + 422) 2 (-0)) _
                                refine jWp.iretz mt rfl ⟨rfl, rfl⟩ rfl (Or.inl rfl) ?_
                                refine ⟨(p + 4), ⟨rfl, fun a ga gb => ((jW_f (by omega)).trans ((jW_f (by omega)).trans ((jW_f (by omega)).trans ((jW_f (by omega)).trans ((jW_f (by omega)).trans ((jW_f (by omega)).trans ((jW_f (by omega)).trans ((jW_f (by omega)).trans ((jW_f (by omega)).trans ((jW_f (by omega)).trans rfl)))))))))), fun j gj => ((jW_a (by omega)).trans ((jW_a (by omega)).trans ((jW_k (by omega)).trans ((jW_a (by omega)).trans ((jW_k (by omega)).trans ((jW_a (by omega)).trans ((jW_a (by omega)).trans ((jW_k (by omega)).trans ((jW_a (by omega)).trans ((jW_k (by omega)).trans rfl))))))))))⟩, ((jW_a (by omega)).trans ((jW_a (by omega)).trans jW_s)).trans (by omega), Or.inr ⟨rfl, ?_, by omega, by omega⟩⟩
                                unfold zbh zfn
                                (repeat' split) <;> omega
                              · exact absurd (show (3 : Int) < 3 from h33) (by decide)
                          · have h29' := h29
                            show jWp 202 59 [some (jO m), some (jI (zlt t F p)), some (jI 3), some (jI 1), some (jI 2), some (jI 0)] [jI 0] 0 0 (jW (jW (jW (jW (jW (jW (jW w m 25 ((p : Int) + 1)) (m + 422) 0 (zlt t F (p + 1) - 48)) m 25 ((p + 2 : Nat) : Int)) (m + 422) 0 (zlt t F (p + 1) - 48)) (m + 422) 1 (zlt t F (p + 2) - 48)) m 25 ((p + 3 : Nat) : Int)) (m + 422) 1 (zlt t F (p + 2) - 48)) _
                            refine jWp.ifc (b := true) mt rfl (by decide) rfl ?_
                            show jWp 202 66 [some (jO m), some (jI (zlt t F p)), some (jI 3), some (jI 1), some (jI 2), some (jI 0)] [] 0 0 (jW (jW (jW (jW (jW (jW (jW w m 25 ((p : Int) + 1)) (m + 422) 0 (zlt t F (p + 1) - 48)) m 25 ((p + 2 : Nat) : Int)) (m + 422) 0 (zlt t F (p + 1) - 48)) (m + 422) 1 (zlt t F (p + 2) - 48)) m 25 ((p + 3 : Nat) : Int)) (m + 422) 1 (zlt t F (p + 2) - 48)) _
                            refine jWp.blk mt 4 ?_
                            show _ ∧ jWp 202 72 [some (jO m), some (jI (zlt t F p)), some (jI 3), some (jI 1), some (jI 2), some (jI 0)] [jI 2, jO m] 0 0 (jW (jW (jW (jW (jW (jW (jW w m 25 ((p : Int) + 1)) (m + 422) 0 (zlt t F (p + 1) - 48)) m 25 ((p + 2 : Nat) : Int)) (m + 422) 0 (zlt t F (p + 1) - 48)) (m + 422) 1 (zlt t F (p + 2) - 48)) m 25 ((p + 3 : Nat) : Int)) (m + 422) 1 (zlt t F (p + 2) - 48)) _
                            refine ⟨rfl, ?_⟩
                            refine jWp.callv (as := [jO m, jI 2]) (rest := []) mt rfl rfl rfl ⟨rfl, jtg hW.K0⟩ ?_
                            refine jCall.mono (E_hasFigure (w := (jW (jW (jW (jW (jW (jW (jW w m 25 ((p : Int) + 1)) (m + 422) 0 (zlt t F (p + 1) - 48)) m 25 ((p + 2 : Nat) : Int)) (m + 422) 0 (zlt t F (p + 1) - 48)) (m + 422) 1 (zlt t F (p + 2) - 48)) m 25 ((p + 3 : Nat) : Int)) (m + 422) 1 (zlt t F (p + 2) - 48))) (F := F) (p := (p + 3)) (t := t) hW (((jW_a (by omega)).trans ((jW_k (by decide)).trans ((jW_a (by omega)).trans ((jW_a (by omega)).trans ((jW_k (by decide)).trans ((jW_a (by omega)).trans ((jW_k (by decide)).trans rfl))))))).trans hF) hF72 (((jW_a (by omega)).trans jW_s).trans (by omega)) (by omega) (((jW_f (by omega)).trans ((jW_f (by omega)).trans ((jW_f (by omega)).trans ((jW_f (by omega)).trans ((jW_f (by omega)).trans ((jW_f (by omega)).trans ((jW_f (by omega)).trans rfl))))))).trans ht) hL (k := 2) (by decide)) (fun v9 w9 h9 => ?_)
                            rcases h9 with ⟨rfl, h9, h34⟩ | ⟨rfl, h9, h34⟩ <;> subst h9
                            · have h34' := h34
                              show jWp 202 75 [some (jO m), some (jI (zlt t F p)), some (jI 3), some (jI 1), some (jI 2), some (jI 0)] [jI 1] 0 0 (jW (jW (jW (jW (jW (jW (jW (jW (jW w m 25 ((p : Int) + 1)) (m + 422) 0 (zlt t F (p + 1) - 48)) m 25 ((p + 2 : Nat) : Int)) (m + 422) 0 (zlt t F (p + 1) - 48)) (m + 422) 1 (zlt t F (p + 2) - 48)) m 25 ((p + 3 : Nat) : Int)) (m + 422) 1 (zlt t F (p + 2) - 48)) (m + 422) 2 (zlt t F (p + 3) - 48)) m 25 ((p + 4 : Nat) : Int)) _
                              refine jWp.blk mt 2 ?_
                              show _ ∧ jWp 202 77 [some (jO m), some (jI (zlt t F p)), some (jI 3), some (jI 1), some (jI 2), some (jI 0)] [jO m] 0 0 (jW (jW (jW (jW (jW (jW (jW (jW (jW w m 25 ((p : Int) + 1)) (m + 422) 0 (zlt t F (p + 1) - 48)) m 25 ((p + 2 : Nat) : Int)) (m + 422) 0 (zlt t F (p + 1) - 48)) (m + 422) 1 (zlt t F (p + 2) - 48)) m 25 ((p + 3 : Nat) : Int)) (m + 422) 1 (zlt t F (p + 2) - 48)) (m + 422) 2 (zlt t F (p + 3) - 48)) m 25 ((p + 4 : Nat) : Int)) _
                              refine ⟨rfl, ?_⟩
                              refine jWp.getR (pc' := 80) (o := (m + 422)) mt rfl rfl (jtg hW.K0) hW.R26 ?_
                              show jWp 202 80 [some (jO m), some (jI (zlt t F p)), some (jI 3), some (jI 1), some (jI 2), some (jI 0)] [jO (m + 422)] 0 0 (jW (jW (jW (jW (jW (jW (jW (jW (jW w m 25 ((p : Int) + 1)) (m + 422) 0 (zlt t F (p + 1) - 48)) m 25 ((p + 2 : Nat) : Int)) (m + 422) 0 (zlt t F (p + 1) - 48)) (m + 422) 1 (zlt t F (p + 2) - 48)) m 25 ((p + 3 : Nat) : Int)) (m + 422) 1 (zlt t F (p + 2) - 48)) (m + 422) 2 (zlt t F (p + 3) - 48)) m 25 ((p + 4 : Nat) : Int)) _
                              refine jWp.blk mt 2 ?_
                              show jWp 202 84 [some (jO m), some (jI (zlt t F p)), some (jI 3), some (jI 1), some (jI 2), some (jI 0)] [jI 0, jI 2, jO (m + 422)] 0 0 (jW (jW (jW (jW (jW (jW (jW (jW (jW w m 25 ((p : Int) + 1)) (m + 422) 0 (zlt t F (p + 1) - 48)) m 25 ((p + 2 : Nat) : Int)) (m + 422) 0 (zlt t F (p + 1) - 48)) (m + 422) 1 (zlt t F (p + 2) - 48)) m 25 ((p + 3 : Nat) : Int)) (m + 422) 1 (zlt t F (p + 2) - 48)) (m + 422) 2 (zlt t F (p + 3) - 48)) m 25 ((p + 4 : Nat) : Int)) _
                              refine jWp.ifc (b := true) mt rfl (by decide) rfl ?_
                              show jWp 202 98 [some (jO m), some (jI (zlt t F p)), some (jI 3), some (jI 1), some (jI 2), some (jI 0)] [jI 2, jO (m + 422)] 0 0 (jW (jW (jW (jW (jW (jW (jW (jW (jW w m 25 ((p : Int) + 1)) (m + 422) 0 (zlt t F (p + 1) - 48)) m 25 ((p + 2 : Nat) : Int)) (m + 422) 0 (zlt t F (p + 1) - 48)) (m + 422) 1 (zlt t F (p + 2) - 48)) m 25 ((p + 3 : Nat) : Int)) (m + 422) 1 (zlt t F (p + 2) - 48)) (m + 422) 2 (zlt t F (p + 3) - 48)) m 25 ((p + 4 : Nat) : Int)) _
                              refine jWp.blk mt 1 ?_
                              show _ ∧ jWp 202 99 [some (jO m), some (jI (zlt t F p)), some (jI 3), some (jI 1), some (jI 2), some (jI 0)] [jO m, jI 2, jO (m + 422)] 0 0 (jW (jW (jW (jW (jW (jW (jW (jW (jW w m 25 ((p : Int) + 1)) (m + 422) 0 (zlt t F (p + 1) - 48)) m 25 ((p + 2 : Nat) : Int)) (m + 422) 0 (zlt t F (p + 1) - 48)) (m + 422) 1 (zlt t F (p + 2) - 48)) m 25 ((p + 3 : Nat) : Int)) (m + 422) 1 (zlt t F (p + 2) - 48)) (m + 422) 2 (zlt t F (p + 3) - 48)) m 25 ((p + 4 : Nat) : Int)) _
                              refine ⟨rfl, ?_⟩
                              refine jWp.getR (pc' := 102) (o := (m + 422)) mt rfl rfl (jtg hW.K0) hW.R26 ?_
                              show jWp 202 102 [some (jO m), some (jI (zlt t F p)), some (jI 3), some (jI 1), some (jI 2), some (jI 0)] [jO (m + 422), jI 2, jO (m + 422)] 0 0 (jW (jW (jW (jW (jW (jW (jW (jW (jW w m 25 ((p : Int) + 1)) (m + 422) 0 (zlt t F (p + 1) - 48)) m 25 ((p + 2 : Nat) : Int)) (m + 422) 0 (zlt t F (p + 1) - 48)) (m + 422) 1 (zlt t F (p + 2) - 48)) m 25 ((p + 3 : Nat) : Int)) (m + 422) 1 (zlt t F (p + 2) - 48)) (m + 422) 2 (zlt t F (p + 3) - 48)) m 25 ((p + 4 : Nat) : Int)) _
                              refine jWp.blk mt 1 ?_
                              show jWp 202 104 [some (jO m), some (jI (zlt t F p)), some (jI 3), some (jI 1), some (jI 2), some (jI 0)] [jI 2, jO (m + 422), jI 2, jO (m + 422)] 0 0 (jW (jW (jW (jW (jW (jW (jW (jW (jW w m 25 ((p : Int) + 1)) (m + 422) 0 (zlt t F (p + 1) - 48)) m 25 ((p + 2 : Nat) : Int)) (m + 422) 0 (zlt t F (p + 1) - 48)) (m + 422) 1 (zlt t F (p + 2) - 48)) m 25 ((p + 3 : Nat) : Int)) (m + 422) 1 (zlt t F (p + 2) - 48)) (m + 422) 2 (zlt t F (p + 3) - 48)) m 25 ((p + 4 : Nat) : Int)) _
                              refine jWp.iald (pc' := 105) (j := 2) mt rfl rfl (jird_of hW.K422) (by decide) (jlt hW.K422 (by decide)) ?_
                              rw [show ((jW (jW (jW (jW (jW (jW (jW (jW (jW w m 25 ((p : Int) + 1)) (m + 422) 0 (zlt t F (p + 1) - 48)) m 25 ((p + 2 : Nat) : Int)) (m + 422) 0 (zlt t F (p + 1) - 48)) (m + 422) 1 (zlt t F (p + 2) - 48)) m 25 ((p + 3 : Nat) : Int)) (m + 422) 1 (zlt t F (p + 2) - 48)) (m + 422) 2 (zlt t F (p + 3) - 48)) m 25 ((p + 4 : Nat) : Int)).1 (m + 422) 2) = (zlt t F (p + 3) - 48) from ((jW_a (by omega)).trans jW_s)]
                              show jWp 202 105 [some (jO m), some (jI (zlt t F p)), some (jI 3), some (jI 1), some (jI 2), some (jI 0)] [jI (zlt t F (p + 3) - 48), jI 2, jO (m + 422)] 0 0 (jW (jW (jW (jW (jW (jW (jW (jW (jW w m 25 ((p : Int) + 1)) (m + 422) 0 (zlt t F (p + 1) - 48)) m 25 ((p + 2 : Nat) : Int)) (m + 422) 0 (zlt t F (p + 1) - 48)) (m + 422) 1 (zlt t F (p + 2) - 48)) m 25 ((p + 3 : Nat) : Int)) (m + 422) 1 (zlt t F (p + 2) - 48)) (m + 422) 2 (zlt t F (p + 3) - 48)) m 25 ((p + 4 : Nat) : Int)) _
                              refine jWp.iast (pc' := 106) (j := 2) mt rfl rfl (jtg hW.K422) (by decide) (jlt hW.K422 (by decide)) ?_
                              show jWp 202 106 [some (jO m), some (jI (zlt t F p)), some (jI 3), some (jI 1), some (jI 2), some (jI 0)] [] 0 0 (jW (jW (jW (jW (jW (jW (jW (jW (jW (jW w m 25 ((p : Int) + 1)) (m + 422) 0 (zlt t F (p + 1) - 48)) m 25 ((p + 2 : Nat) : Int)) (m + 422) 0 (zlt t F (p + 1) - 48)) (m + 422) 1 (zlt t F (p + 2) - 48)) m 25 ((p + 3 : Nat) : Int)) (m + 422) 1 (zlt t F (p + 2) - 48)) (m + 422) 2 (zlt t F (p + 3) - 48)) m 25 ((p + 4 : Nat) : Int)) (m + 422) 2 (zlt t F (p + 3) - 48)) _
                              refine jWp.blk mt 4 ?_
                              show jWp 202 34 [some (jO m), some (jI (zlt t F p)), some (jI 3), some (jI 1), some (jI 3), some (jI 0)] [jI 3, jI 3] 0 0 (jW (jW (jW (jW (jW (jW (jW (jW (jW (jW w m 25 ((p : Int) + 1)) (m + 422) 0 (zlt t F (p + 1) - 48)) m 25 ((p + 2 : Nat) : Int)) (m + 422) 0 (zlt t F (p + 1) - 48)) (m + 422) 1 (zlt t F (p + 2) - 48)) m 25 ((p + 3 : Nat) : Int)) (m + 422) 1 (zlt t F (p + 2) - 48)) (m + 422) 2 (zlt t F (p + 3) - 48)) m 25 ((p + 4 : Nat) : Int)) (m + 422) 2 (zlt t F (p + 3) - 48)) _
                              refine jWp.icmp (pc' := 37) mt rfl rfl (show b32 3 = 3 by decide) (show b32 3 = 3 by decide) (fun h35 => ?_) (fun h35 => ?_)
                              · have h35 := h35
                                refine jWp.blk mt 1 ?_
                                show jWp 202 113 [some (jO m), some (jI (zlt t F p)), some (jI 3), some (jI 1), some (jI 3), some (jI 0)] [jI 1] 0 0 (jW (jW (jW (jW (jW (jW (jW (jW (jW (jW w m 25 ((p : Int) + 1)) (m + 422) 0 (zlt t F (p + 1) - 48)) m 25 ((p + 2 : Nat) : Int)) (m + 422) 0 (zlt t F (p + 1) - 48)) (m + 422) 1 (zlt t F (p + 2) - 48)) m 25 ((p + 3 : Nat) : Int)) (m + 422) 1 (zlt t F (p + 2) - 48)) (m + 422) 2 (zlt t F (p + 3) - 48)) m 25 ((p + 4 : Nat) : Int)) (m + 422) 2 (zlt t F (p + 3) - 48)) _
                                refine jWp.ifc (b := false) mt rfl (by decide) rfl ?_
                                show jWp 202 116 [some (jO m), some (jI (zlt t F p)), some (jI 3), some (jI 1), some (jI 3), some (jI 0)] [] 0 0 (jW (jW (jW (jW (jW (jW (jW (jW (jW (jW w m 25 ((p : Int) + 1)) (m + 422) 0 (zlt t F (p + 1) - 48)) m 25 ((p + 2 : Nat) : Int)) (m + 422) 0 (zlt t F (p + 1) - 48)) (m + 422) 1 (zlt t F (p + 2) - 48)) m 25 ((p + 3 : Nat) : Int)) (m + 422) 1 (zlt t F (p + 2) - 48)) (m + 422) 2 (zlt t F (p + 3) - 48)) m 25 ((p + 4 : Nat) : Int)) (m + 422) 2 (zlt t F (p + 3) - 48)) _
                                refine jWp.blk mt 2 ?_
                                show _ ∧ jWp 202 119 [some (jO m), some (jI (zlt t F p)), some (jI 3), some (jI 1), some (jI 3), some (jI 0)] [jI 59, jO m] 0 0 (jW (jW (jW (jW (jW (jW (jW (jW (jW (jW w m 25 ((p : Int) + 1)) (m + 422) 0 (zlt t F (p + 1) - 48)) m 25 ((p + 2 : Nat) : Int)) (m + 422) 0 (zlt t F (p + 1) - 48)) (m + 422) 1 (zlt t F (p + 2) - 48)) m 25 ((p + 3 : Nat) : Int)) (m + 422) 1 (zlt t F (p + 2) - 48)) (m + 422) 2 (zlt t F (p + 3) - 48)) m 25 ((p + 4 : Nat) : Int)) (m + 422) 2 (zlt t F (p + 3) - 48)) _
                                refine ⟨rfl, ?_⟩
                                refine jWp.callv (as := [jO m, jI 59]) (rest := []) mt rfl rfl rfl ⟨rfl, jtg hW.K0⟩ ?_
                                refine jCall.mono (E_takes (w := (jW (jW (jW (jW (jW (jW (jW (jW (jW (jW w m 25 ((p : Int) + 1)) (m + 422) 0 (zlt t F (p + 1) - 48)) m 25 ((p + 2 : Nat) : Int)) (m + 422) 0 (zlt t F (p + 1) - 48)) (m + 422) 1 (zlt t F (p + 2) - 48)) m 25 ((p + 3 : Nat) : Int)) (m + 422) 1 (zlt t F (p + 2) - 48)) (m + 422) 2 (zlt t F (p + 3) - 48)) m 25 ((p + 4 : Nat) : Int)) (m + 422) 2 (zlt t F (p + 3) - 48))) (F := F) (p := (p + 4)) (t := t) hW (((jW_a (by omega)).trans ((jW_k (by decide)).trans ((jW_a (by omega)).trans ((jW_a (by omega)).trans ((jW_k (by decide)).trans ((jW_a (by omega)).trans ((jW_a (by omega)).trans ((jW_k (by decide)).trans ((jW_a (by omega)).trans ((jW_k (by decide)).trans rfl)))))))))).trans hF) hF72 (((jW_a (by omega)).trans jW_s).trans (by omega)) (by omega) (((jW_f (by omega)).trans ((jW_f (by omega)).trans ((jW_f (by omega)).trans ((jW_f (by omega)).trans ((jW_f (by omega)).trans ((jW_f (by omega)).trans ((jW_f (by omega)).trans ((jW_f (by omega)).trans ((jW_f (by omega)).trans ((jW_f (by omega)).trans rfl)))))))))).trans ht) hL (c := 59) (by unfold r32; decide)) (fun v9 w9 h9 => ?_)
                                rcases h9 with ⟨rfl, h9, h36⟩ | ⟨rfl, h9, h36⟩ <;> subst h9
                                · have h36' := h36
                                  show jWp 202 122 [some (jO m), some (jI (zlt t F p)), some (jI 3), some (jI 1), some (jI 3), some (jI 0)] [jI 1] 0 0 (jW (jW (jW (jW (jW (jW (jW (jW (jW (jW (jW w m 25 ((p : Int) + 1)) (m + 422) 0 (zlt t F (p + 1) - 48)) m 25 ((p + 2 : Nat) : Int)) (m + 422) 0 (zlt t F (p + 1) - 48)) (m + 422) 1 (zlt t F (p + 2) - 48)) m 25 ((p + 3 : Nat) : Int)) (m + 422) 1 (zlt t F (p + 2) - 48)) (m + 422) 2 (zlt t F (p + 3) - 48)) m 25 ((p + 4 : Nat) : Int)) (m + 422) 2 (zlt t F (p + 3) - 48)) m 25 ((p + 5 : Nat) : Int)) _
                                  refine jWp.ifc (b := false) mt rfl (by decide) rfl ?_
                                  show jWp 202 125 [some (jO m), some (jI (zlt t F p)), some (jI 3), some (jI 1), some (jI 3), some (jI 0)] [] 0 0 (jW (jW (jW (jW (jW (jW (jW (jW (jW (jW (jW w m 25 ((p : Int) + 1)) (m + 422) 0 (zlt t F (p + 1) - 48)) m 25 ((p + 2 : Nat) : Int)) (m + 422) 0 (zlt t F (p + 1) - 48)) (m + 422) 1 (zlt t F (p + 2) - 48)) m 25 ((p + 3 : Nat) : Int)) (m + 422) 1 (zlt t F (p + 2) - 48)) (m + 422) 2 (zlt t F (p + 3) - 48)) m 25 ((p + 4 : Nat) : Int)) (m + 422) 2 (zlt t F (p + 3) - 48)) m 25 ((p + 5 : Nat) : Int)) _
                                  refine jWp.blk mt 2 ?_
                                  show jWp 202 130 [some (jO m), some (jI (zlt t F p)), some (jI 3), some (jI 1), some (jI 3), some (jI 0)] [jI 1] 0 0 (jW (jW (jW (jW (jW (jW (jW (jW (jW (jW (jW w m 25 ((p : Int) + 1)) (m + 422) 0 (zlt t F (p + 1) - 48)) m 25 ((p + 2 : Nat) : Int)) (m + 422) 0 (zlt t F (p + 1) - 48)) (m + 422) 1 (zlt t F (p + 2) - 48)) m 25 ((p + 3 : Nat) : Int)) (m + 422) 1 (zlt t F (p + 2) - 48)) (m + 422) 2 (zlt t F (p + 3) - 48)) m 25 ((p + 4 : Nat) : Int)) (m + 422) 2 (zlt t F (p + 3) - 48)) m 25 ((p + 5 : Nat) : Int)) _
                                  refine jWp.iretz mt rfl ⟨rfl, rfl⟩ rfl (Or.inr rfl) ?_
                                  have hl9 := zlt_l (t := t) (F := F) (by assumption : zlt t F (p + 4) = 59) (by decide)
                                  refine ⟨(p + 5), ⟨rfl, fun a ga gb => ((jW_f (by omega)).trans ((jW_f (by omega)).trans ((jW_f (by omega)).trans ((jW_f (by omega)).trans ((jW_f (by omega)).trans ((jW_f (by omega)).trans ((jW_f (by omega)).trans ((jW_f (by omega)).trans ((jW_f (by omega)).trans ((jW_f (by omega)).trans ((jW_f (by omega)).trans rfl))))))))))), fun j gj => ((jW_k (by omega)).trans ((jW_a (by omega)).trans ((jW_k (by omega)).trans ((jW_a (by omega)).trans ((jW_a (by omega)).trans ((jW_k (by omega)).trans ((jW_a (by omega)).trans ((jW_a (by omega)).trans ((jW_k (by omega)).trans ((jW_a (by omega)).trans ((jW_k (by omega)).trans rfl)))))))))))⟩, jW_s, Or.inl ⟨rfl, ?_, by omega, by omega, by omega, by omega, ⟨((jW_a (by omega)).trans ((jW_k (by decide)).trans ((jW_a (by omega)).trans ((jW_k (by decide)).trans ((jW_k (by decide)).trans ((jW_a (by omega)).trans ((jW_k (by decide)).trans jW_s))))))).trans ?_, by rw [((jW_a (by omega)).trans ((jW_k (by decide)).trans ((jW_a (by omega)).trans ((jW_k (by decide)).trans ((jW_k (by decide)).trans ((jW_a (by omega)).trans ((jW_k (by decide)).trans jW_s)))))))]; omega, by rw [((jW_a (by omega)).trans ((jW_k (by decide)).trans ((jW_a (by omega)).trans ((jW_k (by decide)).trans ((jW_k (by decide)).trans ((jW_a (by omega)).trans ((jW_k (by decide)).trans jW_s)))))))]; omega⟩, ?_, ?_⟩⟩
                                  · unfold zbh zfn
                                    (repeat' split) <;> omega
                                  · unfold zfg
                                    split <;> omega
                                  · intro hc9
                                    first
                                    | (exfalso; omega)
                                    | (rw [((jW_a (by omega)).trans ((jW_k (by decide)).trans ((jW_a (by omega)).trans ((jW_k (by decide)).trans jW_s))))]
                                       refine ⟨?_, by omega, by omega⟩
                                       unfold zfg
                                       split <;> omega)
                                  · intro hc9
                                    first
                                    | (exfalso; omega)
                                    | (rw [((jW_a (by omega)).trans jW_s)]
                                       refine ⟨?_, by omega, by omega⟩
                                       unfold znm zfg
                                       try rw [show p + 3 + 1 = p + 4 from rfl]
                                       (repeat' split) <;> omega)
                                · have h36' := h36
                                  show jWp 202 122 [some (jO m), some (jI (zlt t F p)), some (jI 3), some (jI 1), some (jI 3), some (jI 0)] [jI 0] 0 0 (jW (jW (jW (jW (jW (jW (jW (jW (jW (jW w m 25 ((p : Int) + 1)) (m + 422) 0 (zlt t F (p + 1) - 48)) m 25 ((p + 2 : Nat) : Int)) (m + 422) 0 (zlt t F (p + 1) - 48)) (m + 422) 1 (zlt t F (p + 2) - 48)) m 25 ((p + 3 : Nat) : Int)) (m + 422) 1 (zlt t F (p + 2) - 48)) (m + 422) 2 (zlt t F (p + 3) - 48)) m 25 ((p + 4 : Nat) : Int)) (m + 422) 2 (zlt t F (p + 3) - 48)) _
                                  refine jWp.ifc (b := true) mt rfl (by decide) rfl ?_
                                  show jWp 202 129 [some (jO m), some (jI (zlt t F p)), some (jI 3), some (jI 1), some (jI 3), some (jI 0)] [] 0 0 (jW (jW (jW (jW (jW (jW (jW (jW (jW (jW w m 25 ((p : Int) + 1)) (m + 422) 0 (zlt t F (p + 1) - 48)) m 25 ((p + 2 : Nat) : Int)) (m + 422) 0 (zlt t F (p + 1) - 48)) (m + 422) 1 (zlt t F (p + 2) - 48)) m 25 ((p + 3 : Nat) : Int)) (m + 422) 1 (zlt t F (p + 2) - 48)) (m + 422) 2 (zlt t F (p + 3) - 48)) m 25 ((p + 4 : Nat) : Int)) (m + 422) 2 (zlt t F (p + 3) - 48)) _
                                  refine jWp.blk mt 1 ?_
                                  show jWp 202 130 [some (jO m), some (jI (zlt t F p)), some (jI 3), some (jI 1), some (jI 3), some (jI 0)] [jI 0] 0 0 (jW (jW (jW (jW (jW (jW (jW (jW (jW (jW w m 25 ((p : Int) + 1)) (m + 422) 0 (zlt t F (p + 1) - 48)) m 25 ((p + 2 : Nat) : Int)) (m + 422) 0 (zlt t F (p + 1) - 48)) (m + 422) 1 (zlt t F (p + 2) - 48)) m 25 ((p + 3 : Nat) : Int)) (m + 422) 1 (zlt t F (p + 2) - 48)) (m + 422) 2 (zlt t F (p + 3) - 48)) m 25 ((p + 4 : Nat) : Int)) (m + 422) 2 (zlt t F (p + 3) - 48)) _
                                  refine jWp.iretz mt rfl ⟨rfl, rfl⟩ rfl (Or.inl rfl) ?_
                                  refine ⟨(p + 4), ⟨rfl, fun a ga gb => ((jW_f (by omega)).trans ((jW_f (by omega)).trans ((jW_f (by omega)).trans ((jW_f (by omega)).trans ((jW_f (by omega)).trans ((jW_f (by omega)).trans ((jW_f (by omega)).trans ((jW_f (by omega)).trans ((jW_f (by omega)).trans ((jW_f (by omega)).trans rfl)))))))))), fun j gj => ((jW_a (by omega)).trans ((jW_k (by omega)).trans ((jW_a (by omega)).trans ((jW_a (by omega)).trans ((jW_k (by omega)).trans ((jW_a (by omega)).trans ((jW_a (by omega)).trans ((jW_k (by omega)).trans ((jW_a (by omega)).trans ((jW_k (by omega)).trans rfl))))))))))⟩, ((jW_a (by omega)).trans jW_s).trans (by omega), Or.inr ⟨rfl, ?_, by omega, by omega⟩⟩
                                  unfold zbh zfn
                                  (repeat' split) <;> omega
                              · exact absurd (show (3 : Int) < 3 from h35) (by decide)
                            · have h34' := h34
                              show jWp 202 75 [some (jO m), some (jI (zlt t F p)), some (jI 3), some (jI 1), some (jI 2), some (jI 0)] [jI 0] 0 0 (jW (jW (jW (jW (jW (jW (jW (jW w m 25 ((p : Int) + 1)) (m + 422) 0 (zlt t F (p + 1) - 48)) m 25 ((p + 2 : Nat) : Int)) (m + 422) 0 (zlt t F (p + 1) - 48)) (m + 422) 1 (zlt t F (p + 2) - 48)) m 25 ((p + 3 : Nat) : Int)) (m + 422) 1 (zlt t F (p + 2) - 48)) (m + 422) 2 0) _
                              refine jWp.blk mt 2 ?_
                              show _ ∧ jWp 202 77 [some (jO m), some (jI (zlt t F p)), some (jI 3), some (jI 0), some (jI 2), some (jI 0)] [jO m] 0 0 (jW (jW (jW (jW (jW (jW (jW (jW w m 25 ((p : Int) + 1)) (m + 422) 0 (zlt t F (p + 1) - 48)) m 25 ((p + 2 : Nat) : Int)) (m + 422) 0 (zlt t F (p + 1) - 48)) (m + 422) 1 (zlt t F (p + 2) - 48)) m 25 ((p + 3 : Nat) : Int)) (m + 422) 1 (zlt t F (p + 2) - 48)) (m + 422) 2 0) _
                              refine ⟨rfl, ?_⟩
                              refine jWp.getR (pc' := 80) (o := (m + 422)) mt rfl rfl (jtg hW.K0) hW.R26 ?_
                              show jWp 202 80 [some (jO m), some (jI (zlt t F p)), some (jI 3), some (jI 0), some (jI 2), some (jI 0)] [jO (m + 422)] 0 0 (jW (jW (jW (jW (jW (jW (jW (jW w m 25 ((p : Int) + 1)) (m + 422) 0 (zlt t F (p + 1) - 48)) m 25 ((p + 2 : Nat) : Int)) (m + 422) 0 (zlt t F (p + 1) - 48)) (m + 422) 1 (zlt t F (p + 2) - 48)) m 25 ((p + 3 : Nat) : Int)) (m + 422) 1 (zlt t F (p + 2) - 48)) (m + 422) 2 0) _
                              refine jWp.blk mt 2 ?_
                              show jWp 202 84 [some (jO m), some (jI (zlt t F p)), some (jI 3), some (jI 0), some (jI 2), some (jI 0)] [jI 0, jI 2, jO (m + 422)] 0 0 (jW (jW (jW (jW (jW (jW (jW (jW w m 25 ((p : Int) + 1)) (m + 422) 0 (zlt t F (p + 1) - 48)) m 25 ((p + 2 : Nat) : Int)) (m + 422) 0 (zlt t F (p + 1) - 48)) (m + 422) 1 (zlt t F (p + 2) - 48)) m 25 ((p + 3 : Nat) : Int)) (m + 422) 1 (zlt t F (p + 2) - 48)) (m + 422) 2 0) _
                              refine jWp.ifc (b := true) mt rfl (by decide) rfl ?_
                              show jWp 202 98 [some (jO m), some (jI (zlt t F p)), some (jI 3), some (jI 0), some (jI 2), some (jI 0)] [jI 2, jO (m + 422)] 0 0 (jW (jW (jW (jW (jW (jW (jW (jW w m 25 ((p : Int) + 1)) (m + 422) 0 (zlt t F (p + 1) - 48)) m 25 ((p + 2 : Nat) : Int)) (m + 422) 0 (zlt t F (p + 1) - 48)) (m + 422) 1 (zlt t F (p + 2) - 48)) m 25 ((p + 3 : Nat) : Int)) (m + 422) 1 (zlt t F (p + 2) - 48)) (m + 422) 2 0) _
                              refine jWp.blk mt 1 ?_
                              show _ ∧ jWp 202 99 [some (jO m), some (jI (zlt t F p)), some (jI 3), some (jI 0), some (jI 2), some (jI 0)] [jO m, jI 2, jO (m + 422)] 0 0 (jW (jW (jW (jW (jW (jW (jW (jW w m 25 ((p : Int) + 1)) (m + 422) 0 (zlt t F (p + 1) - 48)) m 25 ((p + 2 : Nat) : Int)) (m + 422) 0 (zlt t F (p + 1) - 48)) (m + 422) 1 (zlt t F (p + 2) - 48)) m 25 ((p + 3 : Nat) : Int)) (m + 422) 1 (zlt t F (p + 2) - 48)) (m + 422) 2 0) _
                              refine ⟨rfl, ?_⟩
                              refine jWp.getR (pc' := 102) (o := (m + 422)) mt rfl rfl (jtg hW.K0) hW.R26 ?_
                              show jWp 202 102 [some (jO m), some (jI (zlt t F p)), some (jI 3), some (jI 0), some (jI 2), some (jI 0)] [jO (m + 422), jI 2, jO (m + 422)] 0 0 (jW (jW (jW (jW (jW (jW (jW (jW w m 25 ((p : Int) + 1)) (m + 422) 0 (zlt t F (p + 1) - 48)) m 25 ((p + 2 : Nat) : Int)) (m + 422) 0 (zlt t F (p + 1) - 48)) (m + 422) 1 (zlt t F (p + 2) - 48)) m 25 ((p + 3 : Nat) : Int)) (m + 422) 1 (zlt t F (p + 2) - 48)) (m + 422) 2 0) _
                              refine jWp.blk mt 1 ?_
                              show jWp 202 104 [some (jO m), some (jI (zlt t F p)), some (jI 3), some (jI 0), some (jI 2), some (jI 0)] [jI 2, jO (m + 422), jI 2, jO (m + 422)] 0 0 (jW (jW (jW (jW (jW (jW (jW (jW w m 25 ((p : Int) + 1)) (m + 422) 0 (zlt t F (p + 1) - 48)) m 25 ((p + 2 : Nat) : Int)) (m + 422) 0 (zlt t F (p + 1) - 48)) (m + 422) 1 (zlt t F (p + 2) - 48)) m 25 ((p + 3 : Nat) : Int)) (m + 422) 1 (zlt t F (p + 2) - 48)) (m + 422) 2 0) _
                              refine jWp.iald (pc' := 105) (j := 2) mt rfl rfl (jird_of hW.K422) (by decide) (jlt hW.K422 (by decide)) ?_
                              rw [show ((jW (jW (jW (jW (jW (jW (jW (jW w m 25 ((p : Int) + 1)) (m + 422) 0 (zlt t F (p + 1) - 48)) m 25 ((p + 2 : Nat) : Int)) (m + 422) 0 (zlt t F (p + 1) - 48)) (m + 422) 1 (zlt t F (p + 2) - 48)) m 25 ((p + 3 : Nat) : Int)) (m + 422) 1 (zlt t F (p + 2) - 48)) (m + 422) 2 0).1 (m + 422) 2) = 0 from jW_s]
                              show jWp 202 105 [some (jO m), some (jI (zlt t F p)), some (jI 3), some (jI 0), some (jI 2), some (jI 0)] [jI 0, jI 2, jO (m + 422)] 0 0 (jW (jW (jW (jW (jW (jW (jW (jW w m 25 ((p : Int) + 1)) (m + 422) 0 (zlt t F (p + 1) - 48)) m 25 ((p + 2 : Nat) : Int)) (m + 422) 0 (zlt t F (p + 1) - 48)) (m + 422) 1 (zlt t F (p + 2) - 48)) m 25 ((p + 3 : Nat) : Int)) (m + 422) 1 (zlt t F (p + 2) - 48)) (m + 422) 2 0) _
                              refine jWp.iast (pc' := 106) (j := 2) mt rfl rfl (jtg hW.K422) (by decide) (jlt hW.K422 (by decide)) ?_
                              show jWp 202 106 [some (jO m), some (jI (zlt t F p)), some (jI 3), some (jI 0), some (jI 2), some (jI 0)] [] 0 0 (jW (jW (jW (jW (jW (jW (jW (jW (jW w m 25 ((p : Int) + 1)) (m + 422) 0 (zlt t F (p + 1) - 48)) m 25 ((p + 2 : Nat) : Int)) (m + 422) 0 (zlt t F (p + 1) - 48)) (m + 422) 1 (zlt t F (p + 2) - 48)) m 25 ((p + 3 : Nat) : Int)) (m + 422) 1 (zlt t F (p + 2) - 48)) (m + 422) 2 0) (m + 422) 2 0) _
                              refine jWp.blk mt 4 ?_
                              show jWp 202 34 [some (jO m), some (jI (zlt t F p)), some (jI 3), some (jI 0), some (jI 3), some (jI 0)] [jI 3, jI 3] 0 0 (jW (jW (jW (jW (jW (jW (jW (jW (jW w m 25 ((p : Int) + 1)) (m + 422) 0 (zlt t F (p + 1) - 48)) m 25 ((p + 2 : Nat) : Int)) (m + 422) 0 (zlt t F (p + 1) - 48)) (m + 422) 1 (zlt t F (p + 2) - 48)) m 25 ((p + 3 : Nat) : Int)) (m + 422) 1 (zlt t F (p + 2) - 48)) (m + 422) 2 0) (m + 422) 2 0) _
                              refine jWp.icmp (pc' := 37) mt rfl rfl (show b32 3 = 3 by decide) (show b32 3 = 3 by decide) (fun h37 => ?_) (fun h37 => ?_)
                              · have h37 := h37
                                refine jWp.blk mt 1 ?_
                                show jWp 202 113 [some (jO m), some (jI (zlt t F p)), some (jI 3), some (jI 0), some (jI 3), some (jI 0)] [jI 0] 0 0 (jW (jW (jW (jW (jW (jW (jW (jW (jW w m 25 ((p : Int) + 1)) (m + 422) 0 (zlt t F (p + 1) - 48)) m 25 ((p + 2 : Nat) : Int)) (m + 422) 0 (zlt t F (p + 1) - 48)) (m + 422) 1 (zlt t F (p + 2) - 48)) m 25 ((p + 3 : Nat) : Int)) (m + 422) 1 (zlt t F (p + 2) - 48)) (m + 422) 2 0) (m + 422) 2 0) _
                                refine jWp.ifc (b := true) mt rfl (by decide) rfl ?_
                                show jWp 202 129 [some (jO m), some (jI (zlt t F p)), some (jI 3), some (jI 0), some (jI 3), some (jI 0)] [] 0 0 (jW (jW (jW (jW (jW (jW (jW (jW (jW w m 25 ((p : Int) + 1)) (m + 422) 0 (zlt t F (p + 1) - 48)) m 25 ((p + 2 : Nat) : Int)) (m + 422) 0 (zlt t F (p + 1) - 48)) (m + 422) 1 (zlt t F (p + 2) - 48)) m 25 ((p + 3 : Nat) : Int)) (m + 422) 1 (zlt t F (p + 2) - 48)) (m + 422) 2 0) (m + 422) 2 0) _
                                refine jWp.blk mt 1 ?_
                                show jWp 202 130 [some (jO m), some (jI (zlt t F p)), some (jI 3), some (jI 0), some (jI 3), some (jI 0)] [jI 0] 0 0 (jW (jW (jW (jW (jW (jW (jW (jW (jW w m 25 ((p : Int) + 1)) (m + 422) 0 (zlt t F (p + 1) - 48)) m 25 ((p + 2 : Nat) : Int)) (m + 422) 0 (zlt t F (p + 1) - 48)) (m + 422) 1 (zlt t F (p + 2) - 48)) m 25 ((p + 3 : Nat) : Int)) (m + 422) 1 (zlt t F (p + 2) - 48)) (m + 422) 2 0) (m + 422) 2 0) _
                                refine jWp.iretz mt rfl ⟨rfl, rfl⟩ rfl (Or.inl rfl) ?_
                                refine ⟨(p + 3), ⟨rfl, fun a ga gb => ((jW_f (by omega)).trans ((jW_f (by omega)).trans ((jW_f (by omega)).trans ((jW_f (by omega)).trans ((jW_f (by omega)).trans ((jW_f (by omega)).trans ((jW_f (by omega)).trans ((jW_f (by omega)).trans ((jW_f (by omega)).trans rfl))))))))), fun j gj => ((jW_a (by omega)).trans ((jW_a (by omega)).trans ((jW_a (by omega)).trans ((jW_k (by omega)).trans ((jW_a (by omega)).trans ((jW_a (by omega)).trans ((jW_k (by omega)).trans ((jW_a (by omega)).trans ((jW_k (by omega)).trans rfl)))))))))⟩, ((jW_a (by omega)).trans ((jW_a (by omega)).trans ((jW_a (by omega)).trans jW_s))).trans (by omega), Or.inr ⟨rfl, ?_, by omega, by omega⟩⟩
                                unfold zbh zfn
                                (repeat' split) <;> omega
                              · exact absurd (show (3 : Int) < 3 from h37) (by decide)
                  · have h25' := h25
                    show jWp 202 75 [some (jO m), some (jI (zlt t F p)), some (jI 3), some (jI 1), some (jI 1), some (jI 0)] [jI 0] 0 0 (jW (jW (jW (jW (jW w m 25 ((p : Int) + 1)) (m + 422) 0 (zlt t F (p + 1) - 48)) m 25 ((p + 2 : Nat) : Int)) (m + 422) 0 (zlt t F (p + 1) - 48)) (m + 422) 1 0) _
                    refine jWp.blk mt 2 ?_
                    show _ ∧ jWp 202 77 [some (jO m), some (jI (zlt t F p)), some (jI 3), some (jI 0), some (jI 1), some (jI 0)] [jO m] 0 0 (jW (jW (jW (jW (jW w m 25 ((p : Int) + 1)) (m + 422) 0 (zlt t F (p + 1) - 48)) m 25 ((p + 2 : Nat) : Int)) (m + 422) 0 (zlt t F (p + 1) - 48)) (m + 422) 1 0) _
                    refine ⟨rfl, ?_⟩
                    refine jWp.getR (pc' := 80) (o := (m + 422)) mt rfl rfl (jtg hW.K0) hW.R26 ?_
                    show jWp 202 80 [some (jO m), some (jI (zlt t F p)), some (jI 3), some (jI 0), some (jI 1), some (jI 0)] [jO (m + 422)] 0 0 (jW (jW (jW (jW (jW w m 25 ((p : Int) + 1)) (m + 422) 0 (zlt t F (p + 1) - 48)) m 25 ((p + 2 : Nat) : Int)) (m + 422) 0 (zlt t F (p + 1) - 48)) (m + 422) 1 0) _
                    refine jWp.blk mt 2 ?_
                    show jWp 202 84 [some (jO m), some (jI (zlt t F p)), some (jI 3), some (jI 0), some (jI 1), some (jI 0)] [jI 0, jI 1, jO (m + 422)] 0 0 (jW (jW (jW (jW (jW w m 25 ((p : Int) + 1)) (m + 422) 0 (zlt t F (p + 1) - 48)) m 25 ((p + 2 : Nat) : Int)) (m + 422) 0 (zlt t F (p + 1) - 48)) (m + 422) 1 0) _
                    refine jWp.ifc (b := true) mt rfl (by decide) rfl ?_
                    show jWp 202 98 [some (jO m), some (jI (zlt t F p)), some (jI 3), some (jI 0), some (jI 1), some (jI 0)] [jI 1, jO (m + 422)] 0 0 (jW (jW (jW (jW (jW w m 25 ((p : Int) + 1)) (m + 422) 0 (zlt t F (p + 1) - 48)) m 25 ((p + 2 : Nat) : Int)) (m + 422) 0 (zlt t F (p + 1) - 48)) (m + 422) 1 0) _
                    refine jWp.blk mt 1 ?_
                    show _ ∧ jWp 202 99 [some (jO m), some (jI (zlt t F p)), some (jI 3), some (jI 0), some (jI 1), some (jI 0)] [jO m, jI 1, jO (m + 422)] 0 0 (jW (jW (jW (jW (jW w m 25 ((p : Int) + 1)) (m + 422) 0 (zlt t F (p + 1) - 48)) m 25 ((p + 2 : Nat) : Int)) (m + 422) 0 (zlt t F (p + 1) - 48)) (m + 422) 1 0) _
                    refine ⟨rfl, ?_⟩
                    refine jWp.getR (pc' := 102) (o := (m + 422)) mt rfl rfl (jtg hW.K0) hW.R26 ?_
                    show jWp 202 102 [some (jO m), some (jI (zlt t F p)), some (jI 3), some (jI 0), some (jI 1), some (jI 0)] [jO (m + 422), jI 1, jO (m + 422)] 0 0 (jW (jW (jW (jW (jW w m 25 ((p : Int) + 1)) (m + 422) 0 (zlt t F (p + 1) - 48)) m 25 ((p + 2 : Nat) : Int)) (m + 422) 0 (zlt t F (p + 1) - 48)) (m + 422) 1 0) _
                    refine jWp.blk mt 1 ?_
                    show jWp 202 104 [some (jO m), some (jI (zlt t F p)), some (jI 3), some (jI 0), some (jI 1), some (jI 0)] [jI 1, jO (m + 422), jI 1, jO (m + 422)] 0 0 (jW (jW (jW (jW (jW w m 25 ((p : Int) + 1)) (m + 422) 0 (zlt t F (p + 1) - 48)) m 25 ((p + 2 : Nat) : Int)) (m + 422) 0 (zlt t F (p + 1) - 48)) (m + 422) 1 0) _
                    refine jWp.iald (pc' := 105) (j := 1) mt rfl rfl (jird_of hW.K422) (by decide) (jlt hW.K422 (by decide)) ?_
                    rw [show ((jW (jW (jW (jW (jW w m 25 ((p : Int) + 1)) (m + 422) 0 (zlt t F (p + 1) - 48)) m 25 ((p + 2 : Nat) : Int)) (m + 422) 0 (zlt t F (p + 1) - 48)) (m + 422) 1 0).1 (m + 422) 1) = 0 from jW_s]
                    show jWp 202 105 [some (jO m), some (jI (zlt t F p)), some (jI 3), some (jI 0), some (jI 1), some (jI 0)] [jI 0, jI 1, jO (m + 422)] 0 0 (jW (jW (jW (jW (jW w m 25 ((p : Int) + 1)) (m + 422) 0 (zlt t F (p + 1) - 48)) m 25 ((p + 2 : Nat) : Int)) (m + 422) 0 (zlt t F (p + 1) - 48)) (m + 422) 1 0) _
                    refine jWp.iast (pc' := 106) (j := 1) mt rfl rfl (jtg hW.K422) (by decide) (jlt hW.K422 (by decide)) ?_
                    show jWp 202 106 [some (jO m), some (jI (zlt t F p)), some (jI 3), some (jI 0), some (jI 1), some (jI 0)] [] 0 0 (jW (jW (jW (jW (jW (jW w m 25 ((p : Int) + 1)) (m + 422) 0 (zlt t F (p + 1) - 48)) m 25 ((p + 2 : Nat) : Int)) (m + 422) 0 (zlt t F (p + 1) - 48)) (m + 422) 1 0) (m + 422) 1 0) _
                    refine jWp.blk mt 4 ?_
                    show jWp 202 34 [some (jO m), some (jI (zlt t F p)), some (jI 3), some (jI 0), some (jI 2), some (jI 0)] [jI 3, jI 2] 0 0 (jW (jW (jW (jW (jW (jW w m 25 ((p : Int) + 1)) (m + 422) 0 (zlt t F (p + 1) - 48)) m 25 ((p + 2 : Nat) : Int)) (m + 422) 0 (zlt t F (p + 1) - 48)) (m + 422) 1 0) (m + 422) 1 0) _
                    refine jWp.icmp (pc' := 37) mt rfl rfl (show b32 2 = 2 by decide) (show b32 3 = 3 by decide) (fun h38 => ?_) (fun h38 => ?_)
                    · exact absurd (show 3 ≤ (2 : Int) from h38) (by decide)
                    · have h38 := h38
                      refine jWp.blk mt 1 ?_
                      show jWp 202 38 [some (jO m), some (jI (zlt t F p)), some (jI 3), some (jI 0), some (jI 2), some (jI 0)] [jI 0] 0 0 (jW (jW (jW (jW (jW (jW w m 25 ((p : Int) + 1)) (m + 422) 0 (zlt t F (p + 1) - 48)) m 25 ((p + 2 : Nat) : Int)) (m + 422) 0 (zlt t F (p + 1) - 48)) (m + 422) 1 0) (m + 422) 1 0) _
                      refine jWp.ifc (b := true) mt rfl (by decide) rfl ?_
                      show jWp 202 112 [some (jO m), some (jI (zlt t F p)), some (jI 3), some (jI 0), some (jI 2), some (jI 0)] [] 0 0 (jW (jW (jW (jW (jW (jW w m 25 ((p : Int) + 1)) (m + 422) 0 (zlt t F (p + 1) - 48)) m 25 ((p + 2 : Nat) : Int)) (m + 422) 0 (zlt t F (p + 1) - 48)) (m + 422) 1 0) (m + 422) 1 0) _
                      refine jWp.blk mt 1 ?_
                      show jWp 202 113 [some (jO m), some (jI (zlt t F p)), some (jI 3), some (jI 0), some (jI 2), some (jI 0)] [jI 0] 0 0 (jW (jW (jW (jW (jW (jW w m 25 ((p : Int) + 1)) (m + 422) 0 (zlt t F (p + 1) - 48)) m 25 ((p + 2 : Nat) : Int)) (m + 422) 0 (zlt t F (p + 1) - 48)) (m + 422) 1 0) (m + 422) 1 0) _
                      refine jWp.ifc (b := true) mt rfl (by decide) rfl ?_
                      show jWp 202 129 [some (jO m), some (jI (zlt t F p)), some (jI 3), some (jI 0), some (jI 2), some (jI 0)] [] 0 0 (jW (jW (jW (jW (jW (jW w m 25 ((p : Int) + 1)) (m + 422) 0 (zlt t F (p + 1) - 48)) m 25 ((p + 2 : Nat) : Int)) (m + 422) 0 (zlt t F (p + 1) - 48)) (m + 422) 1 0) (m + 422) 1 0) _
                      refine jWp.blk mt 1 ?_
                      show jWp 202 130 [some (jO m), some (jI (zlt t F p)), some (jI 3), some (jI 0), some (jI 2), some (jI 0)] [jI 0] 0 0 (jW (jW (jW (jW (jW (jW w m 25 ((p : Int) + 1)) (m + 422) 0 (zlt t F (p + 1) - 48)) m 25 ((p + 2 : Nat) : Int)) (m + 422) 0 (zlt t F (p + 1) - 48)) (m + 422) 1 0) (m + 422) 1 0) _
                      refine jWp.iretz mt rfl ⟨rfl, rfl⟩ rfl (Or.inl rfl) ?_
                      refine ⟨(p + 2), ⟨rfl, fun a ga gb => ((jW_f (by omega)).trans ((jW_f (by omega)).trans ((jW_f (by omega)).trans ((jW_f (by omega)).trans ((jW_f (by omega)).trans ((jW_f (by omega)).trans rfl)))))), fun j gj => ((jW_a (by omega)).trans ((jW_a (by omega)).trans ((jW_a (by omega)).trans ((jW_k (by omega)).trans ((jW_a (by omega)).trans ((jW_k (by omega)).trans rfl))))))⟩, ((jW_a (by omega)).trans ((jW_a (by omega)).trans ((jW_a (by omega)).trans jW_s))).trans (by omega), Or.inr ⟨rfl, ?_, by omega, by omega⟩⟩
                      unfold zbh zfn
                      (repeat' split) <;> omega
                · exact absurd (show (1 : Int) = 2 from h24) (by decide)
          · have h21' := h21
            show jWp 202 75 [some (jO m), some (jI (zlt t F p)), some (jI 3), some (jI 1), some (jI 0), some (jI 0)] [jI 0] 0 0 (jW (jW w m 25 ((p : Int) + 1)) (m + 422) 0 0) _
            refine jWp.blk mt 2 ?_
            show _ ∧ jWp 202 77 [some (jO m), some (jI (zlt t F p)), some (jI 3), some (jI 0), some (jI 0), some (jI 0)] [jO m] 0 0 (jW (jW w m 25 ((p : Int) + 1)) (m + 422) 0 0) _
            refine ⟨rfl, ?_⟩
            refine jWp.getR (pc' := 80) (o := (m + 422)) mt rfl rfl (jtg hW.K0) hW.R26 ?_
            show jWp 202 80 [some (jO m), some (jI (zlt t F p)), some (jI 3), some (jI 0), some (jI 0), some (jI 0)] [jO (m + 422)] 0 0 (jW (jW w m 25 ((p : Int) + 1)) (m + 422) 0 0) _
            refine jWp.blk mt 2 ?_
            show jWp 202 84 [some (jO m), some (jI (zlt t F p)), some (jI 3), some (jI 0), some (jI 0), some (jI 0)] [jI 0, jI 0, jO (m + 422)] 0 0 (jW (jW w m 25 ((p : Int) + 1)) (m + 422) 0 0) _
            refine jWp.ifc (b := true) mt rfl (by decide) rfl ?_
            show jWp 202 98 [some (jO m), some (jI (zlt t F p)), some (jI 3), some (jI 0), some (jI 0), some (jI 0)] [jI 0, jO (m + 422)] 0 0 (jW (jW w m 25 ((p : Int) + 1)) (m + 422) 0 0) _
            refine jWp.blk mt 1 ?_
            show _ ∧ jWp 202 99 [some (jO m), some (jI (zlt t F p)), some (jI 3), some (jI 0), some (jI 0), some (jI 0)] [jO m, jI 0, jO (m + 422)] 0 0 (jW (jW w m 25 ((p : Int) + 1)) (m + 422) 0 0) _
            refine ⟨rfl, ?_⟩
            refine jWp.getR (pc' := 102) (o := (m + 422)) mt rfl rfl (jtg hW.K0) hW.R26 ?_
            show jWp 202 102 [some (jO m), some (jI (zlt t F p)), some (jI 3), some (jI 0), some (jI 0), some (jI 0)] [jO (m + 422), jI 0, jO (m + 422)] 0 0 (jW (jW w m 25 ((p : Int) + 1)) (m + 422) 0 0) _
            refine jWp.blk mt 1 ?_
            show jWp 202 104 [some (jO m), some (jI (zlt t F p)), some (jI 3), some (jI 0), some (jI 0), some (jI 0)] [jI 0, jO (m + 422), jI 0, jO (m + 422)] 0 0 (jW (jW w m 25 ((p : Int) + 1)) (m + 422) 0 0) _
            refine jWp.iald (pc' := 105) (j := 0) mt rfl rfl (jird_of hW.K422) (by decide) (jlt hW.K422 (by decide)) ?_
            rw [show ((jW (jW w m 25 ((p : Int) + 1)) (m + 422) 0 0).1 (m + 422) 0) = 0 from jW_s]
            show jWp 202 105 [some (jO m), some (jI (zlt t F p)), some (jI 3), some (jI 0), some (jI 0), some (jI 0)] [jI 0, jI 0, jO (m + 422)] 0 0 (jW (jW w m 25 ((p : Int) + 1)) (m + 422) 0 0) _
            refine jWp.iast (pc' := 106) (j := 0) mt rfl rfl (jtg hW.K422) (by decide) (jlt hW.K422 (by decide)) ?_
            show jWp 202 106 [some (jO m), some (jI (zlt t F p)), some (jI 3), some (jI 0), some (jI 0), some (jI 0)] [] 0 0 (jW (jW (jW w m 25 ((p : Int) + 1)) (m + 422) 0 0) (m + 422) 0 0) _
            refine jWp.blk mt 4 ?_
            show jWp 202 34 [some (jO m), some (jI (zlt t F p)), some (jI 3), some (jI 0), some (jI 1), some (jI 0)] [jI 3, jI 1] 0 0 (jW (jW (jW w m 25 ((p : Int) + 1)) (m + 422) 0 0) (m + 422) 0 0) _
            refine jWp.icmp (pc' := 37) mt rfl rfl (show b32 1 = 1 by decide) (show b32 3 = 3 by decide) (fun h39 => ?_) (fun h39 => ?_)
            · exact absurd (show 3 ≤ (1 : Int) from h39) (by decide)
            · have h39 := h39
              refine jWp.blk mt 1 ?_
              show jWp 202 38 [some (jO m), some (jI (zlt t F p)), some (jI 3), some (jI 0), some (jI 1), some (jI 0)] [jI 0] 0 0 (jW (jW (jW w m 25 ((p : Int) + 1)) (m + 422) 0 0) (m + 422) 0 0) _
              refine jWp.ifc (b := true) mt rfl (by decide) rfl ?_
              show jWp 202 112 [some (jO m), some (jI (zlt t F p)), some (jI 3), some (jI 0), some (jI 1), some (jI 0)] [] 0 0 (jW (jW (jW w m 25 ((p : Int) + 1)) (m + 422) 0 0) (m + 422) 0 0) _
              refine jWp.blk mt 1 ?_
              show jWp 202 113 [some (jO m), some (jI (zlt t F p)), some (jI 3), some (jI 0), some (jI 1), some (jI 0)] [jI 0] 0 0 (jW (jW (jW w m 25 ((p : Int) + 1)) (m + 422) 0 0) (m + 422) 0 0) _
              refine jWp.ifc (b := true) mt rfl (by decide) rfl ?_
              show jWp 202 129 [some (jO m), some (jI (zlt t F p)), some (jI 3), some (jI 0), some (jI 1), some (jI 0)] [] 0 0 (jW (jW (jW w m 25 ((p : Int) + 1)) (m + 422) 0 0) (m + 422) 0 0) _
              refine jWp.blk mt 1 ?_
              show jWp 202 130 [some (jO m), some (jI (zlt t F p)), some (jI 3), some (jI 0), some (jI 1), some (jI 0)] [jI 0] 0 0 (jW (jW (jW w m 25 ((p : Int) + 1)) (m + 422) 0 0) (m + 422) 0 0) _
              refine jWp.iretz mt rfl ⟨rfl, rfl⟩ rfl (Or.inl rfl) ?_
              refine ⟨(p + 1), ⟨rfl, fun a ga gb => ((jW_f (by omega)).trans ((jW_f (by omega)).trans ((jW_f (by omega)).trans rfl))), fun j gj => ((jW_a (by omega)).trans ((jW_a (by omega)).trans ((jW_k (by omega)).trans rfl)))⟩, ((jW_a (by omega)).trans ((jW_a (by omega)).trans jW_s)).trans (by omega), Or.inr ⟨rfl, ?_, by omega, by omega⟩⟩
              unfold zbh zfn
              (repeat' split) <;> omega
        · exact absurd (show (0 : Int) = 2 from h20) (by decide)
  · rw [show zdc (zlt t F p) = 0 by unfold zdc; rw [if_neg (by omega), if_neg (by omega), if_neg (by omega)]]
    show jWp 202 9 [some (jO m), some (jI (zlt t F p)), none, none, none, none] [jI 0] 0 0 w _
    refine jWp.blk mt 2 ?_
    show jWp 202 11 [some (jO m), some (jI (zlt t F p)), some (jI 0), none, none, none] [jI 0] 0 0 w _
    refine jWp.ifc (b := false) mt rfl (by decide) rfl ?_
    show jWp 202 14 [some (jO m), some (jI (zlt t F p)), some (jI 0), none, none, none] [] 0 0 w _
    refine jWp.blk mt 1 ?_
    show jWp 202 15 [some (jO m), some (jI (zlt t F p)), some (jI 0), none, none, none] [jI 0] 0 0 w _
    refine jWp.iretz mt rfl ⟨rfl, rfl⟩ rfl (Or.inl rfl) ?_
    refine ⟨p, ⟨rfl, fun a ga gb => rfl, fun j gj => rfl⟩, hp, Or.inr ⟨rfl, ?_, by omega, by omega⟩⟩
    unfold zbh zfn
    (repeat' split) <;> omega
