/-- whether a letter's value stands in no seed ahead, and by no letter ahead in its own -/
def zni (L : List zE) (n o i j : Nat) : Prop := ¬ zsd L n o ((zL L o).1 (21 + i)) ((zL L o).1 (25 + i)) ∧ ∀ y, y < j → ¬ ((zL L o).1 (21 + y) = (zL L o).1 (21 + i) ∧ (zL L o).1 (25 + y) = (zL L o).1 (25 + i))
/-- how many unlike values -/
noncomputable def zvi (L : List zE) (n o : Nat) : Nat → Int
  | 0 => 0
  | i + 1 => zvi L n o i + @ite Int (zni L n o i i) (Classical.propDecidable _) 1 0
noncomputable def zvo (L : List zE) (n : Nat) : Nat → Int
  | 0 => 0
  | o + 1 => zvo L n o + zvi L n o n
theorem zvi_t {L : List zE} {n o i : Nat} (h : zni L n o i i) : zvi L n o (i + 1) = zvi L n o i + 1 := congrArg (fun x => zvi L n o i + x) (if_pos h)
theorem zvi_f {L : List zE} {n o i : Nat} (h : ¬ zni L n o i i) : zvi L n o (i + 1) = zvi L n o i + 0 := congrArg (fun x => zvi L n o i + x) (if_neg h)
/-- the greatest degree in all of them -/
def zgm (L : List zE) (n : Nat) : Nat → Int
  | 0 => -1
  | o + 1 => if b64 (zgm L n o) < b64 (zgo (zL L o).1 n n) then zgo (zL L o).1 n n else zgm L n o
theorem zgm_t {L : List zE} {n o : Nat} (h : b64 (zgm L n o) < b64 (zgo (zL L o).1 n n)) : zgm L n (o + 1) = zgo (zL L o).1 n n := if_pos h
theorem zgm_f {L : List zE} {n o : Nat} (h : ¬ b64 (zgm L n o) < b64 (zgo (zL L o).1 n n)) : zgm L n (o + 1) = zgm L n o := if_neg h
theorem zni_e {L : List zE} {n o i j k : Nat} (e : j = k) (h : zni L n o i j) : zni L n o i k := e ▸ h
set_option maxHeartbeats 4000000 in
set_option maxRecDepth 20000 in
theorem E_reached {w : jS} {m : Nat} (hW : MW w.2 m) {n : Nat} (hQ : zQ (w.1 (m + 1)) n) {d a : Int} (hrd : r32 d) (hra : r32 a) : jCall 192 [jO m, jI d, jI a] w (fun v w1 => ((d < 0) → jno w m 4 (jI (-4)) v w1) ∧ (¬ (d < 0) → (4 < d) → jno w m 6 (jI (-6)) v w1) ∧ (¬ (d < 0) → ¬ (4 < d) → (¬ (0 ≤ a ∧ a ≤ 3)) → jno w m 2 (jI (-2)) v w1) ∧ (¬ (d < 0) → ¬ (4 < d) → ¬ (¬ (0 ≤ a ∧ a ≤ 3)) → (mq w m w1 ∧ (a = 0 → v = some (jI ((zBF n d.toNat (w.1 (m + 1))).length : Int))) ∧ (a = 1 → v = some (jI (zvo (zBF n d.toNat (w.1 (m + 1))) n (zBF n d.toNat (w.1 (m + 1))).length))) ∧ (a = 2 → v = some (jI (zgm (zBF n d.toNat (w.1 (m + 1))) n (zBF n d.toNat (w.1 (m + 1))).length))) ∧ (a = 3 → ∃ y, v = some (jI y) ∧ ((∀ x i, x < (zBF n d.toNat (w.1 (m + 1))).length → i < n → (zL (zBF n d.toNat (w.1 (m + 1))) x).1 (25 + i) = 1) → y = 0))))) := by
  have mt : jtb 192 = jT192 := rfl
  have hrd1 : -2147483648 ≤ d ∧ d < 2147483648 := hrd
  have hra1 : -2147483648 ≤ a ∧ a < 2147483648 := hra
  show jWp 192 0 [some (jO m), some (jI d), some (jI a), none, none, none, none, none, none, none, none] [] 0 0 w _
  refine jWp.blk mt 1 ?_
  show jWp 192 1 [some (jO m), some (jI d), some (jI a), none, none, none, none, none, none, none, none] [jI d] 0 0 w _
  refine jWp.ifz (pc' := 4) mt rfl rfl (b32_id (by omega) (by omega)) (fun h1 => ?_) (fun h1 => ?_)
  · have h1 : 0 ≤ d := h1
    refine jWp.blk mt 2 ?_
    show jWp 192 13 [some (jO m), some (jI d), some (jI a), none, none, none, none, none, none, none, none] [jI 4, jI d] 0 0 w _
    refine jWp.icmp (pc' := 16) mt rfl rfl (b32_id (by omega) (by omega)) (show b32 4 = 4 by decide) (fun h2 => ?_) (fun h2 => ?_)
    · have h2 : d ≤ 4 := h2
      refine jWp.blk mt 1 ?_
      show jWp 192 24 [some (jO m), some (jI d), some (jI a), none, none, none, none, none, none, none, none] [jI a] 0 0 w _
      refine jWp.i2l (pc' := 25) mt rfl rfl (b32_id (by omega) (by omega)) ?_
      show jWp 192 25 [some (jO m), some (jI d), some (jI a), none, none, none, none, none, none, none, none] [jJ a] 0 0 w _
      refine jWp.blk mt 2 ?_
      show jWp 192 29 [some (jO m), some (jI d), some (jI a), none, none, none, none, none, none, none, none] [jJ 3, jJ 0, jJ a] 0 0 w _
      refine jWp.calls (as := [jJ a, jJ 0, jJ 3]) (rest := []) mt rfl rfl rfl rfl ?_
      refine jCall.mono (E_in (b64_id (by omega) (by omega)) (show b64 0 = 0 by decide) (show b64 3 = 3 by decide)) (fun v9 w9 h9 => ?_)
      rcases h9 with ⟨rfl, h9, h3⟩ | ⟨rfl, h9, h3⟩ <;> subst w9
      · have h3 : 0 ≤ a ∧ a ≤ 3 := h3
        show jWp 192 32 [some (jO m), some (jI d), some (jI a), none, none, none, none, none, none, none, none] [jI 1] 0 0 w _
        refine jWp.ifc (b := true) mt rfl (by decide) rfl ?_
        show jWp 192 42 [some (jO m), some (jI d), some (jI a), none, none, none, none, none, none, none, none] [] 0 0 w _
        obtain ⟨d1, rfl⟩ : ∃ d1 : Nat, d = (d1 : Int) := ⟨d.toNat, by omega⟩
        show jWp 192 42 [some (jO m), some (jI (d1 : Int)), some (jI a), none, none, none, none, none, none, none, none] [] 0 0 w _
        refine jWp.blk mt 2 ?_
        show _ ∧ jWp 192 44 [some (jO m), some (jI (d1 : Int)), some (jI a), none, none, none, none, none, none, none, none] [jI (d1 : Int), jO m] 0 0 w _
        refine ⟨rfl, ?_⟩
        refine jWp.callv (as := [jO m, jI (d1 : Int)]) (rest := []) mt rfl rfl rfl ⟨rfl, jtg hW.K0⟩ ?_
        refine jCall.mono (E_finds (w := w) (n := n) (d := d1) hW hQ (by omega)) (fun v9 w9 h9 => ?_)
        obtain ⟨rfl, hmq, hRL, hBL, hl⟩ := h9
        obtain ⟨M1, G9⟩ := w9
        have hg : G9 = w.2 := hmq.1
        subst hg
        have hRL : zRL M1 m (zBF n d1 (w.1 (m + 1))) := hRL
        have hw9 := zBF_w (n := n) (d := d1) (q := w.1 (m + 1))
        obtain ⟨L, hLe⟩ : ∃ L, zBF n d1 (w.1 (m + 1)) = L := ⟨_, rfl⟩
        rw [hLe] at hRL hBL hl hw9
        have hn0 : M1 (m + 1) 0 = (n : Int) := (congrFun (hmq.2.1 (m + 1) (by omega)) 0).trans hQ.S.n0
        have hn4 := hQ.S.n4
        have hl1 := hBL.1
        show jWp 192 47 [some (jO m), some (jI (d1 : Int)), some (jI a), none, none, none, none, none, none, none, none] [] 0 0 (M1, w.2) _
        refine jWp.blk mt 8 ?_
        show jWp 192 60 [some (jO m), some (jI (d1 : Int)), some (jI a), some (jI 0), some (jI 0), some (jJ (-1)), none, some (jI 0), none, none, none] [] 0 0 (M1, w.2) _
        have lp4 : ∀ (N : Nat) (o : Nat) (vals brk mo : Int) (ho : o ≤ L.length) (hv : vals = zvo L n o) (hmo : mo = zgm L n o) (hbb : 0 ≤ brk) (hbk : (∀ x i, x < o → i < n → (zL L x).1 (25 + i) = 1) → brk = 0), L.length - o < N → jWp 192 60 [some (jO m), some (jI (d1 : Int)), some (jI a), some (jI vals), some (jI brk), some (jJ mo), none, some (jI (o : Int)), none, none, none] [] 0 0 (M1, w.2) (fun v w1 => (((d1 : Int) < 0) → jno w m 4 (jI (-4)) v w1) ∧ (¬ ((d1 : Int) < 0) → (4 < (d1 : Int)) → jno w m 6 (jI (-6)) v w1) ∧ (¬ ((d1 : Int) < 0) → ¬ (4 < (d1 : Int)) → (¬ (0 ≤ a ∧ a ≤ 3)) → jno w m 2 (jI (-2)) v w1) ∧ (¬ ((d1 : Int) < 0) → ¬ (4 < (d1 : Int)) → ¬ (¬ (0 ≤ a ∧ a ≤ 3)) → (mq w m w1 ∧ (a = 0 → v = some (jI ((zBF n (d1 : Int).toNat (w.1 (m + 1))).length : Int))) ∧ (a = 1 → v = some (jI (zvo (zBF n (d1 : Int).toNat (w.1 (m + 1))) n (zBF n (d1 : Int).toNat (w.1 (m + 1))).length))) ∧ (a = 2 → v = some (jI (zgm (zBF n (d1 : Int).toNat (w.1 (m + 1))) n (zBF n (d1 : Int).toNat (w.1 (m + 1))).length))) ∧ (a = 3 → ∃ y, v = some (jI y) ∧ ((∀ x i, x < (zBF n (d1 : Int).toNat (w.1 (m + 1))).length → i < n → (zL (zBF n (d1 : Int).toNat (w.1 (m + 1))) x).1 (25 + i) = 1) → y = 0))))) := by
          intro N
          induction N with
          | zero => intro o vals brk mo ho hv hmo hbb hbk hm; omega
          | succ N ih5 =>
            intro o vals brk mo ho hv hmo hbb hbk hm
            refine jWp.blk mt 2 ?_
            show _ ∧ jWp 192 63 [some (jO m), some (jI (d1 : Int)), some (jI a), some (jI vals), some (jI brk), some (jJ mo), none, some (jI (o : Int)), none, none, none] [jO m, jI (o : Int)] 0 0 (M1, w.2) _
            refine ⟨rfl, ?_⟩
            refine jWp.getI (pc' := 66) mt rfl rfl (jtg hW.K0) ?_
            rw [show ((M1, w.2).1 m 21) = (L.length : Int) from hRL.1]
            show jWp 192 66 [some (jO m), some (jI (d1 : Int)), some (jI a), some (jI vals), some (jI brk), some (jJ mo), none, some (jI (o : Int)), none, none, none] [jI (L.length : Int), jI (o : Int)] 0 0 (M1, w.2) _
            refine jWp.icmp (pc' := 69) mt rfl rfl (b32_id (by omega) (by omega)) (b32_id (by omega) (by omega)) (fun h6 => ?_) (fun h6 => ?_)
            · have h6 : (L.length : Int) ≤ (o : Int) := h6
              refine jWp.blk mt 1 ?_
              show jWp 192 293 [some (jO m), some (jI (d1 : Int)), some (jI a), some (jI vals), some (jI brk), some (jJ mo), none, some (jI (o : Int)), none, none, none] [jI a] 0 0 (M1, w.2) _
              refine jWp.ifz (pc' := 296) mt rfl rfl (b32_id (by omega) (by omega)) (fun h7 => ?_) (fun h7 => ?_)
              · have h7 : a ≠ 0 := h7
                refine jWp.blk mt 2 ?_
                show jWp 192 305 [some (jO m), some (jI (d1 : Int)), some (jI a), some (jI vals), some (jI brk), some (jJ mo), none, some (jI (o : Int)), none, none, none] [jI 1, jI a] 0 0 (M1, w.2) _
                refine jWp.icmp (pc' := 308) mt rfl rfl (b32_id (by omega) (by omega)) (show b32 1 = 1 by decide) (fun h8 => ?_) (fun h8 => ?_)
                · have h8 : a ≠ 1 := h8
                  refine jWp.blk mt 2 ?_
                  show jWp 192 314 [some (jO m), some (jI (d1 : Int)), some (jI a), some (jI vals), some (jI brk), some (jJ mo), none, some (jI (o : Int)), none, none, none] [jI 2, jI a] 0 0 (M1, w.2) _
                  refine jWp.icmp (pc' := 317) mt rfl rfl (b32_id (by omega) (by omega)) (show b32 2 = 2 by decide) (fun h9 => ?_) (fun h9 => ?_)
                  · have h9 : a ≠ 2 := h9
                    refine jWp.blk mt 1 ?_
                    show jWp 192 325 [some (jO m), some (jI (d1 : Int)), some (jI a), some (jI vals), some (jI brk), some (jJ mo), none, some (jI (o : Int)), none, none, none] [jI brk] 0 0 (M1, w.2) _
                    refine jWp.ireti mt rfl ⟨rfl, rfl⟩ rfl ?_
                    try rw [show ((d1 : Nat) : Int).toNat = d1 from rfl]
                    refine ⟨fun c0 => ?_, fun c0 c1 => ?_, fun c0 c1 c2 => ?_, fun c0 c1 c2 => ⟨hmq, ?_⟩⟩
                    · exfalso; omega
                    · exfalso; omega
                    · exfalso; omega
                    · rw [hLe, show L.length = o by omega]
                      refine ⟨fun c => ?_, fun c => ?_, fun c => ?_, fun c => ?_⟩
                      · first
                        | (exfalso; omega)
                        | rfl
                        | rw [show (L.length : Int) = (o : Int) by omega]
                      · first
                        | (exfalso; omega)
                        | rw [hv]
                      · first
                        | (exfalso; omega)
                        | rw [hmo]
                      · first
                        | (exfalso; omega)
                        | exact ⟨_, rfl, hbk⟩
                  · have h9 : a = 2 := h9
                    refine jWp.blk mt 3 ?_
                    show jWp 192 325 [some (jO m), some (jI (d1 : Int)), some (jI a), some (jI vals), some (jI brk), some (jJ mo), none, some (jI (o : Int)), none, none, none] [jI mo] 0 0 (M1, w.2) _
                    refine jWp.ireti mt rfl ⟨rfl, rfl⟩ rfl ?_
                    try rw [show ((d1 : Nat) : Int).toNat = d1 from rfl]
                    refine ⟨fun c0 => ?_, fun c0 c1 => ?_, fun c0 c1 c2 => ?_, fun c0 c1 c2 => ⟨hmq, ?_⟩⟩
                    · exfalso; omega
                    · exfalso; omega
                    · exfalso; omega
                    · rw [hLe, show L.length = o by omega]
                      refine ⟨fun c => ?_, fun c => ?_, fun c => ?_, fun c => ?_⟩
                      · first
                        | (exfalso; omega)
                        | rfl
                        | rw [show (L.length : Int) = (o : Int) by omega]
                      · first
                        | (exfalso; omega)
                        | rw [hv]
                      · first
                        | (exfalso; omega)
                        | rw [hmo]
                      · first
                        | (exfalso; omega)
                        | exact ⟨_, rfl, hbk⟩
                · have h8 : a = 1 := h8
                  refine jWp.blk mt 2 ?_
                  show jWp 192 325 [some (jO m), some (jI (d1 : Int)), some (jI a), some (jI vals), some (jI brk), some (jJ mo), none, some (jI (o : Int)), none, none, none] [jI vals] 0 0 (M1, w.2) _
                  refine jWp.ireti mt rfl ⟨rfl, rfl⟩ rfl ?_
                  try rw [show ((d1 : Nat) : Int).toNat = d1 from rfl]
                  refine ⟨fun c0 => ?_, fun c0 c1 => ?_, fun c0 c1 c2 => ?_, fun c0 c1 c2 => ⟨hmq, ?_⟩⟩
                  · exfalso; omega
                  · exfalso; omega
                  · exfalso; omega
                  · rw [hLe, show L.length = o by omega]
                    refine ⟨fun c => ?_, fun c => ?_, fun c => ?_, fun c => ?_⟩
                    · first
                      | (exfalso; omega)
                      | rfl
                      | rw [show (L.length : Int) = (o : Int) by omega]
                    · first
                      | (exfalso; omega)
                      | rw [hv]
                    · first
                      | (exfalso; omega)
                      | rw [hmo]
                    · first
                      | (exfalso; omega)
                      | exact ⟨_, rfl, hbk⟩
              · have h7 : a = 0 := h7
                refine jWp.blk mt 1 ?_
                show _ ∧ jWp 192 297 [some (jO m), some (jI (d1 : Int)), some (jI a), some (jI vals), some (jI brk), some (jJ mo), none, some (jI (o : Int)), none, none, none] [jO m] 0 0 (M1, w.2) _
                refine ⟨rfl, ?_⟩
                refine jWp.getI (pc' := 300) mt rfl rfl (jtg hW.K0) ?_
                rw [show ((M1, w.2).1 m 21) = (L.length : Int) from hRL.1]
                show jWp 192 300 [some (jO m), some (jI (d1 : Int)), some (jI a), some (jI vals), some (jI brk), some (jJ mo), none, some (jI (o : Int)), none, none, none] [jI (L.length : Int)] 0 0 (M1, w.2) _
                refine jWp.blk mt 1 ?_
                show jWp 192 325 [some (jO m), some (jI (d1 : Int)), some (jI a), some (jI vals), some (jI brk), some (jJ mo), none, some (jI (o : Int)), none, none, none] [jI (L.length : Int)] 0 0 (M1, w.2) _
                refine jWp.ireti mt rfl ⟨rfl, rfl⟩ rfl ?_
                try rw [show ((d1 : Nat) : Int).toNat = d1 from rfl]
                refine ⟨fun c0 => ?_, fun c0 c1 => ?_, fun c0 c1 c2 => ?_, fun c0 c1 c2 => ⟨hmq, ?_⟩⟩
                · exfalso; omega
                · exfalso; omega
                · exfalso; omega
                · rw [hLe, show L.length = o by omega]
                  refine ⟨fun c => ?_, fun c => ?_, fun c => ?_, fun c => ?_⟩
                  · first
                    | (exfalso; omega)
                    | rfl
                    | rw [show (L.length : Int) = (o : Int) by omega]
                  · first
                    | (exfalso; omega)
                    | rw [hv]
                  · first
                    | (exfalso; omega)
                    | rw [hmo]
                  · first
                    | (exfalso; omega)
                    | exact ⟨_, rfl, hbk⟩
            · have h6 : (o : Int) < (L.length : Int) := h6
              refine jWp.blk mt 2 ?_
              show jWp 192 72 [some (jO m), some (jI (d1 : Int)), some (jI a), some (jI vals), some (jI brk), some (jJ mo), none, some (jI (o : Int)), some (jI 0), none, none] [] 0 0 (M1, w.2) _
              have lp10 : ∀ (N : Nat) (i : Nat) (vals brk : Int) (hi : i ≤ n) (hv : vals = zvo L n o + zvi L n o i) (hbb : 0 ≤ brk) (hbk : (∀ x y, x < o + 1 → y < n → (x < o ∨ y < i) → (zL L x).1 (25 + y) = 1) → brk = 0), n - i < N → jWp 192 72 [some (jO m), some (jI (d1 : Int)), some (jI a), some (jI vals), some (jI brk), some (jJ mo), none, some (jI (o : Int)), some (jI (i : Int)), none, none] [] 0 0 (M1, w.2) (fun v w1 => (((d1 : Int) < 0) → jno w m 4 (jI (-4)) v w1) ∧ (¬ ((d1 : Int) < 0) → (4 < (d1 : Int)) → jno w m 6 (jI (-6)) v w1) ∧ (¬ ((d1 : Int) < 0) → ¬ (4 < (d1 : Int)) → (¬ (0 ≤ a ∧ a ≤ 3)) → jno w m 2 (jI (-2)) v w1) ∧ (¬ ((d1 : Int) < 0) → ¬ (4 < (d1 : Int)) → ¬ (¬ (0 ≤ a ∧ a ≤ 3)) → (mq w m w1 ∧ (a = 0 → v = some (jI ((zBF n (d1 : Int).toNat (w.1 (m + 1))).length : Int))) ∧ (a = 1 → v = some (jI (zvo (zBF n (d1 : Int).toNat (w.1 (m + 1))) n (zBF n (d1 : Int).toNat (w.1 (m + 1))).length))) ∧ (a = 2 → v = some (jI (zgm (zBF n (d1 : Int).toNat (w.1 (m + 1))) n (zBF n (d1 : Int).toNat (w.1 (m + 1))).length))) ∧ (a = 3 → ∃ y, v = some (jI y) ∧ ((∀ x i, x < (zBF n (d1 : Int).toNat (w.1 (m + 1))).length → i < n → (zL (zBF n (d1 : Int).toNat (w.1 (m + 1))) x).1 (25 + i) = 1) → y = 0))))) := by
                intro N
                induction N with
                | zero => intro i vals brk hi hv hbb hbk hm; omega
                | succ N ih11 =>
                  intro i vals brk hi hv hbb hbk hm
                  have hvi : i < n → (1 ≤ (zL L o).1 (21 + i) ∧ (zL L o).1 (21 + i) ≤ 1000000000 ∧ 1 ≤ (zL L o).1 (25 + i) ∧ (zL L o).1 (25 + i) ≤ 1000000000) := fun h => (hBL.2.2.2 o (by omega)).1.S.v i (by omega)
                  refine jWp.blk mt 1 ?_
                  show jWp 192 74 [some (jO m), some (jI (d1 : Int)), some (jI a), some (jI vals), some (jI brk), some (jJ mo), none, some (jI (o : Int)), some (jI (i : Int)), none, none] [jI (i : Int)] 0 0 (M1, w.2) _
                  refine jWp.i2l (pc' := 75) mt rfl rfl (b32_id (by omega) (by omega)) ?_
                  show jWp 192 75 [some (jO m), some (jI (d1 : Int)), some (jI a), some (jI vals), some (jI brk), some (jJ mo), none, some (jI (o : Int)), some (jI (i : Int)), none, none] [jJ (i : Int)] 0 0 (M1, w.2) _
                  refine jWp.blk mt 1 ?_
                  show _ ∧ jWp 192 76 [some (jO m), some (jI (d1 : Int)), some (jI a), some (jI vals), some (jI brk), some (jJ mo), none, some (jI (o : Int)), some (jI (i : Int)), none, none] [jO m, jJ (i : Int)] 0 0 (M1, w.2) _
                  refine ⟨rfl, ?_⟩
                  refine jWp.getR (pc' := 79) (o := (m + 1)) mt rfl rfl (jtg hW.K0) hW.R0 ?_
                  show jWp 192 79 [some (jO m), some (jI (d1 : Int)), some (jI a), some (jI vals), some (jI brk), some (jJ mo), none, some (jI (o : Int)), some (jI (i : Int)), none, none] [jO (m + 1), jJ (i : Int)] 0 0 (M1, w.2) _
                  refine jWp.blk mt 1 ?_
                  show jWp 192 80 [some (jO m), some (jI (d1 : Int)), some (jI a), some (jI vals), some (jI brk), some (jJ mo), none, some (jI (o : Int)), some (jI (i : Int)), none, none] [jI 0, jO (m + 1), jJ (i : Int)] 0 0 (M1, w.2) _
                  refine jWp.lald (pc' := 81) (j := 0) mt rfl rfl (jtg hW.K1) (by decide) (jlt hW.K1 (by decide)) ?_
                  rw [show ((M1, w.2).1 (m + 1) 0) = (n : Int) from hn0]
                  show jWp 192 81 [some (jO m), some (jI (d1 : Int)), some (jI a), some (jI vals), some (jI brk), some (jJ mo), none, some (jI (o : Int)), some (jI (i : Int)), none, none] [jJ (n : Int), jJ (i : Int)] 0 0 (M1, w.2) _
                  refine jWp.lcmp (pc' := 85) mt rfl rfl rfl (b64_id (by omega) (by omega)) (b64_id (by omega) (by omega)) (fun h12 => ?_) (fun h12 => ?_)
                  · have h12 : (n : Int) ≤ (i : Int) := h12
                    refine jWp.blk mt 1 ?_
                    show _ ∧ jWp 192 258 [some (jO m), some (jI (d1 : Int)), some (jI a), some (jI vals), some (jI brk), some (jJ mo), none, some (jI (o : Int)), some (jI (i : Int)), none, none] [jO m] 0 0 (M1, w.2) _
                    refine ⟨rfl, ?_⟩
                    refine jWp.getR (pc' := 261) (o := (m + 17)) mt rfl rfl (jtg hW.K0) hW.R17 ?_
                    show jWp 192 261 [some (jO m), some (jI (d1 : Int)), some (jI a), some (jI vals), some (jI brk), some (jJ mo), none, some (jI (o : Int)), some (jI (i : Int)), none, none] [jO (m + 17)] 0 0 (M1, w.2) _
                    refine jWp.blk mt 1 ?_
                    show jWp 192 263 [some (jO m), some (jI (d1 : Int)), some (jI a), some (jI vals), some (jI brk), some (jJ mo), none, some (jI (o : Int)), some (jI (i : Int)), none, none] [jI (o : Int), jO (m + 17)] 0 0 (M1, w.2) _
                    refine jWp.aald (pc' := 264) (j := o) (o := (m + (18 + o))) mt rfl rfl (jrg hW.K17 (by decide) (by decide)) (b32_id (by omega) (by omega)) (jlt hW.K17 (by omega)) (hW.RFo o (by omega)) ?_
                    show jWp 192 264 [some (jO m), some (jI (d1 : Int)), some (jI a), some (jI vals), some (jI brk), some (jJ mo), none, some (jI (o : Int)), some (jI (i : Int)), none, none] [jO (m + (18 + o))] 0 0 (M1, w.2) _
                    refine jWp.calls (as := [jO (m + (18 + o))]) (rest := []) mt rfl rfl rfl rfl ?_
                    refine jCall.mono ((by have h := E_greatest (w := (M1, w.2)) (q := m + (18 + o)) (n := n) (hW.KF o (by omega)) (zeq_S (hRL.2 o (by omega)).1 (hBL.2.2.2 o (by omega)).1.S); rw [zgo_c (S := ((M1, w.2) : jS).1 (m + (18 + o))) (hRL.2 o (by omega)).1 hn4 n hn4] at h; exact h)) (fun v9 w9 h9 => ?_)
                    obtain ⟨rfl, h9⟩ := h9
                    subst w9
                    show jWp 192 267 [some (jO m), some (jI (d1 : Int)), some (jI a), some (jI vals), some (jI brk), some (jJ mo), none, some (jI (o : Int)), some (jI (i : Int)), none, none] [jJ (zgo (zL L o).1 n n)] 0 0 (M1, w.2) _
                    refine jWp.blk mt 3 ?_
                    show jWp 192 273 [some (jO m), some (jI (d1 : Int)), some (jI a), some (jI vals), some (jI brk), some (jJ mo), none, some (jI (o : Int)), some (jJ (zgo (zL L o).1 n n)), none, none] [jJ mo, jJ (zgo (zL L o).1 n n)] 0 0 (M1, w.2) _
                    refine jWp.lcmp (pc' := 277) mt rfl rfl rfl rfl rfl (fun h13 => ?_) (fun h13 => ?_)
                    · have h13 : (b64 (zgo (zL L o).1 n n)) ≤ (b64 mo) := h13
                      refine jWp.blk mt 4 ?_
                      show jWp 192 60 [some (jO m), some (jI (d1 : Int)), some (jI a), some (jI vals), some (jI brk), some (jJ mo), none, some (jI ((o : Int) + 1)), some (jJ (zgo (zL L o).1 n n)), none, none] [] 0 0 (M1, w.2) _
                      refine jWp.le (l := [some (jO m), some (jI (d1 : Int)), some (jI a), some (jI vals), some (jI brk), some (jJ mo), none, some (jI ((o : Int) + 1)), none, none, none]) (by exact ⟨rfl, rfl, rfl, rfl, rfl, rfl, rfl, trivial⟩) ?_
                      exact ih5 (o + 1) _ _ _ (by omega) (by rw [hv, show i = n by omega]; rfl) (by rw [zgm_f (by rw [← hmo]; omega)]; exact hmo) (by omega) (fun g => hbk (fun x y hx hy _ => g x y (by omega) hy)) (by omega)
                    · have h13 : (b64 mo) < (b64 (zgo (zL L o).1 n n)) := h13
                      refine jWp.blk mt 5 ?_
                      show jWp 192 60 [some (jO m), some (jI (d1 : Int)), some (jI a), some (jI vals), some (jI brk), some (jJ (zgo (zL L o).1 n n)), none, some (jI ((o : Int) + 1)), some (jJ (zgo (zL L o).1 n n)), none, none] [] 0 0 (M1, w.2) _
                      refine jWp.le (l := [some (jO m), some (jI (d1 : Int)), some (jI a), some (jI vals), some (jI brk), some (jJ (zgo (zL L o).1 n n)), none, some (jI ((o : Int) + 1)), none, none, none]) (by exact ⟨rfl, rfl, rfl, rfl, rfl, rfl, rfl, trivial⟩) ?_
                      exact ih5 (o + 1) _ _ _ (by omega) (by rw [hv, show i = n by omega]; rfl) (by rw [zgm_t (by rw [← hmo]; omega)]) (by omega) (fun g => hbk (fun x y hx hy _ => g x y (by omega) hy)) (by omega)
                  · have h12 : (i : Int) < (n : Int) := h12
                    refine jWp.blk mt 3 ?_
                    show _ ∧ _ ∧ jWp 192 89 [some (jO m), some (jI (d1 : Int)), some (jI a), some (jI vals), some (jI brk), some (jJ mo), none, some (jI (o : Int)), some (jI (i : Int)), none, none] [jO m, jI (o : Int), jO m] 0 0 (M1, w.2) _
                    refine ⟨rfl, rfl, ?_⟩
                    refine jWp.getR (pc' := 92) (o := (m + 17)) mt rfl rfl (jtg hW.K0) hW.R17 ?_
                    show jWp 192 92 [some (jO m), some (jI (d1 : Int)), some (jI a), some (jI vals), some (jI brk), some (jJ mo), none, some (jI (o : Int)), some (jI (i : Int)), none, none] [jO (m + 17), jI (o : Int), jO m] 0 0 (M1, w.2) _
                    refine jWp.blk mt 1 ?_
                    show jWp 192 94 [some (jO m), some (jI (d1 : Int)), some (jI a), some (jI vals), some (jI brk), some (jJ mo), none, some (jI (o : Int)), some (jI (i : Int)), none, none] [jI (o : Int), jO (m + 17), jI (o : Int), jO m] 0 0 (M1, w.2) _
                    refine jWp.aald (pc' := 95) (j := o) (o := (m + (18 + o))) mt rfl rfl (jrg hW.K17 (by decide) (by decide)) (b32_id (by omega) (by omega)) (jlt hW.K17 (by omega)) (hW.RFo o (by omega)) ?_
                    show jWp 192 95 [some (jO m), some (jI (d1 : Int)), some (jI a), some (jI vals), some (jI brk), some (jJ mo), none, some (jI (o : Int)), some (jI (i : Int)), none, none] [jO (m + (18 + o)), jI (o : Int), jO m] 0 0 (M1, w.2) _
                    refine jWp.blk mt 3 ?_
                    show jWp 192 100 [some (jO m), some (jI (d1 : Int)), some (jI a), some (jI vals), some (jI brk), some (jJ mo), none, some (jI (o : Int)), some (jI (i : Int)), none, none] [jI (21 + (i : Int)), jO (m + (18 + o)), jI (o : Int), jO m] 0 0 (M1, w.2) _
                    refine jWp.lald (pc' := 101) (j := (21 + i)) mt rfl rfl (jtg (hW.KF _ (by omega))) (by rw [b32_id (by omega) (by omega)]; omega) (jlt (hW.KF _ (by omega)) (by omega)) ?_
                    rw [show ((M1, w.2).1 (m + (18 + o)) (21 + i)) = ((zL L o).1 (21 + i)) from ((hRL.2 o (by omega)).1 (21 + i) (by omega))]
                    show jWp 192 101 [some (jO m), some (jI (d1 : Int)), some (jI a), some (jI vals), some (jI brk), some (jJ mo), none, some (jI (o : Int)), some (jI (i : Int)), none, none] [jJ ((zL L o).1 (21 + i)), jI (o : Int), jO m] 0 0 (M1, w.2) _
                    refine jWp.blk mt 1 ?_
                    show _ ∧ jWp 192 102 [some (jO m), some (jI (d1 : Int)), some (jI a), some (jI vals), some (jI brk), some (jJ mo), none, some (jI (o : Int)), some (jI (i : Int)), none, none] [jO m, jJ ((zL L o).1 (21 + i)), jI (o : Int), jO m] 0 0 (M1, w.2) _
                    refine ⟨rfl, ?_⟩
                    refine jWp.getR (pc' := 105) (o := (m + 17)) mt rfl rfl (jtg hW.K0) hW.R17 ?_
                    show jWp 192 105 [some (jO m), some (jI (d1 : Int)), some (jI a), some (jI vals), some (jI brk), some (jJ mo), none, some (jI (o : Int)), some (jI (i : Int)), none, none] [jO (m + 17), jJ ((zL L o).1 (21 + i)), jI (o : Int), jO m] 0 0 (M1, w.2) _
                    refine jWp.blk mt 1 ?_
                    show jWp 192 107 [some (jO m), some (jI (d1 : Int)), some (jI a), some (jI vals), some (jI brk), some (jJ mo), none, some (jI (o : Int)), some (jI (i : Int)), none, none] [jI (o : Int), jO (m + 17), jJ ((zL L o).1 (21 + i)), jI (o : Int), jO m] 0 0 (M1, w.2) _
                    refine jWp.aald (pc' := 108) (j := o) (o := (m + (18 + o))) mt rfl rfl (jrg hW.K17 (by decide) (by decide)) (b32_id (by omega) (by omega)) (jlt hW.K17 (by omega)) (hW.RFo o (by omega)) ?_
                    show jWp 192 108 [some (jO m), some (jI (d1 : Int)), some (jI a), some (jI vals), some (jI brk), some (jJ mo), none, some (jI (o : Int)), some (jI (i : Int)), none, none] [jO (m + (18 + o)), jJ ((zL L o).1 (21 + i)), jI (o : Int), jO m] 0 0 (M1, w.2) _
                    refine jWp.blk mt 3 ?_
                    show jWp 192 113 [some (jO m), some (jI (d1 : Int)), some (jI a), some (jI vals), some (jI brk), some (jJ mo), none, some (jI (o : Int)), some (jI (i : Int)), none, none] [jI (25 + (i : Int)), jO (m + (18 + o)), jJ ((zL L o).1 (21 + i)), jI (o : Int), jO m] 0 0 (M1, w.2) _
                    refine jWp.lald (pc' := 114) (j := (25 + i)) mt rfl rfl (jtg (hW.KF _ (by omega))) (by rw [b32_id (by omega) (by omega)]; omega) (jlt (hW.KF _ (by omega)) (by omega)) ?_
                    rw [show ((M1, w.2).1 (m + (18 + o)) (25 + i)) = ((zL L o).1 (25 + i)) from ((hRL.2 o (by omega)).1 (25 + i) (by omega))]
                    show jWp 192 114 [some (jO m), some (jI (d1 : Int)), some (jI a), some (jI vals), some (jI brk), some (jJ mo), none, some (jI (o : Int)), some (jI (i : Int)), none, none] [jJ ((zL L o).1 (25 + i)), jJ ((zL L o).1 (21 + i)), jI (o : Int), jO m] 0 0 (M1, w.2) _
                    refine jWp.callv (as := [jO m, jI (o : Int), jJ ((zL L o).1 (21 + i)), jJ ((zL L o).1 (25 + i))]) (rest := []) mt rfl rfl rfl ⟨rfl, jtg hW.K0⟩ ?_
                    refine jCall.mono (E_stands (w := (M1, w.2)) (s9 := o) (L := L) (n := n) hW hn0 hn4 hRL hBL hl (by omega) (by have := hvi (by omega); omega) (by have := hvi (by omega); omega)) (fun v9 w9 h9 => ?_)
                    rcases h9 with ⟨rfl, h9, h14⟩ | ⟨rfl, h9, h14⟩ <;> subst w9
                    · have h14 : zsd L n o ((zL L o).1 (21 + i)) ((zL L o).1 (25 + i)) := h14
                      show jWp 192 117 [some (jO m), some (jI (d1 : Int)), some (jI a), some (jI vals), some (jI brk), some (jJ mo), none, some (jI (o : Int)), some (jI (i : Int)), none, none] [jI 1] 0 0 (M1, w.2) _
                      refine jWp.ifc (b := true) mt rfl (by decide) rfl ?_
                      show jWp 192 124 [some (jO m), some (jI (d1 : Int)), some (jI a), some (jI vals), some (jI brk), some (jJ mo), none, some (jI (o : Int)), some (jI (i : Int)), none, none] [] 0 0 (M1, w.2) _
                      refine jWp.blk mt 4 ?_
                      show jWp 192 130 [some (jO m), some (jI (d1 : Int)), some (jI a), some (jI vals), some (jI brk), some (jJ mo), none, some (jI (o : Int)), some (jI (i : Int)), some (jI 0), some (jI 0)] [] 0 0 (M1, w.2) _
                      have lp15 : ∀ (N : Nat) (j : Nat) (s : Int) (hj : j ≤ i) (hs : (s = 1 ∧ zni L n o i j) ∨ (s = 0 ∧ ¬ zni L n o i j)), i - j < N → jWp 192 130 [some (jO m), some (jI (d1 : Int)), some (jI a), some (jI vals), some (jI brk), some (jJ mo), none, some (jI (o : Int)), some (jI (i : Int)), some (jI s), some (jI (j : Int))] [] 0 0 (M1, w.2) (fun v w1 => (((d1 : Int) < 0) → jno w m 4 (jI (-4)) v w1) ∧ (¬ ((d1 : Int) < 0) → (4 < (d1 : Int)) → jno w m 6 (jI (-6)) v w1) ∧ (¬ ((d1 : Int) < 0) → ¬ (4 < (d1 : Int)) → (¬ (0 ≤ a ∧ a ≤ 3)) → jno w m 2 (jI (-2)) v w1) ∧ (¬ ((d1 : Int) < 0) → ¬ (4 < (d1 : Int)) → ¬ (¬ (0 ≤ a ∧ a ≤ 3)) → (mq w m w1 ∧ (a = 0 → v = some (jI ((zBF n (d1 : Int).toNat (w.1 (m + 1))).length : Int))) ∧ (a = 1 → v = some (jI (zvo (zBF n (d1 : Int).toNat (w.1 (m + 1))) n (zBF n (d1 : Int).toNat (w.1 (m + 1))).length))) ∧ (a = 2 → v = some (jI (zgm (zBF n (d1 : Int).toNat (w.1 (m + 1))) n (zBF n (d1 : Int).toNat (w.1 (m + 1))).length))) ∧ (a = 3 → ∃ y, v = some (jI y) ∧ ((∀ x i, x < (zBF n (d1 : Int).toNat (w.1 (m + 1))).length → i < n → (zL (zBF n (d1 : Int).toNat (w.1 (m + 1))) x).1 (25 + i) = 1) → y = 0))))) := by
                        intro N
                        induction N with
                        | zero => intro j s hj hs hm; omega
                        | succ N ih16 =>
                          intro j s hj hs hm
                          have hvj : j < n → (1 ≤ (zL L o).1 (21 + j) ∧ (zL L o).1 (21 + j) ≤ 1000000000 ∧ 1 ≤ (zL L o).1 (25 + j) ∧ (zL L o).1 (25 + j) ≤ 1000000000) := fun h => (hBL.2.2.2 o (by omega)).1.S.v j (by omega)
                          have hvi2 := hvi (by omega)
                          refine jWp.blk mt 2 ?_
                          show jWp 192 134 [some (jO m), some (jI (d1 : Int)), some (jI a), some (jI vals), some (jI brk), some (jJ mo), none, some (jI (o : Int)), some (jI (i : Int)), some (jI s), some (jI (j : Int))] [jI (i : Int), jI (j : Int)] 0 0 (M1, w.2) _
                          refine jWp.icmp (pc' := 137) mt rfl rfl (b32_id (by omega) (by omega)) (b32_id (by omega) (by omega)) (fun h17 => ?_) (fun h17 => ?_)
                          · have h17 : (i : Int) ≤ (j : Int) := h17
                            refine jWp.blk mt 2 ?_
                            show jWp 192 216 [some (jO m), some (jI (d1 : Int)), some (jI a), some (jI vals), some (jI brk), some (jJ mo), none, some (jI (o : Int)), some (jI (i : Int)), some (jI s), some (jI (j : Int))] [jI s, jI vals] 0 0 (M1, w.2) _
                            refine jWp.ifz (pc' := 219) mt rfl rfl (b32_id (by rcases hs with ⟨e, _⟩ | ⟨e, _⟩ <;> omega) (by rcases hs with ⟨e, _⟩ | ⟨e, _⟩ <;> omega)) (fun h18 => ?_) (fun h18 => ?_)
                            · have h18 : s = 0 := h18
                              refine jWp.blk mt 5 ?_
                              show _ ∧ jWp 192 229 [some (jO m), some (jI (d1 : Int)), some (jI a), some (jI (vals + 0)), some (jI brk), some (jJ mo), none, some (jI (o : Int)), some (jI (i : Int)), some (jI s), some (jI (j : Int))] [jO m, jI brk] 0 0 (M1, w.2) _
                              refine ⟨rfl, ?_⟩
                              refine jWp.getR (pc' := 232) (o := (m + 17)) mt rfl rfl (jtg hW.K0) hW.R17 ?_
                              show jWp 192 232 [some (jO m), some (jI (d1 : Int)), some (jI a), some (jI (vals + 0)), some (jI brk), some (jJ mo), none, some (jI (o : Int)), some (jI (i : Int)), some (jI s), some (jI (j : Int))] [jO (m + 17), jI brk] 0 0 (M1, w.2) _
                              refine jWp.blk mt 1 ?_
                              show jWp 192 234 [some (jO m), some (jI (d1 : Int)), some (jI a), some (jI (vals + 0)), some (jI brk), some (jJ mo), none, some (jI (o : Int)), some (jI (i : Int)), some (jI s), some (jI (j : Int))] [jI (o : Int), jO (m + 17), jI brk] 0 0 (M1, w.2) _
                              refine jWp.aald (pc' := 235) (j := o) (o := (m + (18 + o))) mt rfl rfl (jrg hW.K17 (by decide) (by decide)) (b32_id (by omega) (by omega)) (jlt hW.K17 (by omega)) (hW.RFo o (by omega)) ?_
                              show jWp 192 235 [some (jO m), some (jI (d1 : Int)), some (jI a), some (jI (vals + 0)), some (jI brk), some (jJ mo), none, some (jI (o : Int)), some (jI (i : Int)), some (jI s), some (jI (j : Int))] [jO (m + (18 + o)), jI brk] 0 0 (M1, w.2) _
                              refine jWp.blk mt 1 ?_
                              show jWp 192 237 [some (jO m), some (jI (d1 : Int)), some (jI a), some (jI (vals + 0)), some (jI brk), some (jJ mo), none, some (jI (o : Int)), some (jI (i : Int)), some (jI s), some (jI (j : Int))] [jI (i : Int), jO (m + (18 + o)), jI brk] 0 0 (M1, w.2) _
                              refine jWp.calls (as := [jO (m + (18 + o)), jI (i : Int)]) (rest := [jI brk]) mt rfl rfl rfl rfl ?_
                              refine jCall.mono (E_isWhole (w := (M1, w.2)) (q := m + (18 + o)) (n := n) (i := i) (hW.KF o (by omega)) (zeq_S (hRL.2 o (by omega)).1 (hBL.2.2.2 o (by omega)).1.S) (fun c hc => by have e := (hRL.2 o (by omega)).1 (17 + c) (by omega); have g := (hBL.2.2.2 o (by omega)).1.s c hc; constructor <;> (show _ ≤ _) <;> (first | (rw [show ((M1, w.2) : jS).1 (m + (18 + o)) (17 + c) = (zL L o).1 (17 + c) from e]; omega))) (by omega)) (fun v9 w9 h9 => ?_)
                              obtain ⟨h9, yw, rfl, hyw, hy1⟩ := h9
                              subst w9
                              show jWp 192 240 [some (jO m), some (jI (d1 : Int)), some (jI a), some (jI (vals + 0)), some (jI brk), some (jJ mo), none, some (jI (o : Int)), some (jI (i : Int)), some (jI s), some (jI (j : Int))] [jI yw, jI brk] 0 0 (M1, w.2) _
                              refine jWp.ifz (pc' := 243) mt rfl rfl (b32_id (by omega) (by omega)) (fun h19 => ?_) (fun h19 => ?_)
                              · have h19 : yw = 0 := h19
                                refine jWp.blk mt 5 ?_
                                show jWp 192 72 [some (jO m), some (jI (d1 : Int)), some (jI a), some (jI (vals + 0)), some (jI (brk + 1)), some (jJ mo), none, some (jI (o : Int)), some (jI ((i : Int) + 1)), some (jI s), some (jI (j : Int))] [] 0 0 (M1, w.2) _
                                refine jWp.le (l := [some (jO m), some (jI (d1 : Int)), some (jI a), some (jI (vals + 0)), some (jI (brk + 1)), some (jJ mo), none, some (jI (o : Int)), some (jI ((i : Int) + 1)), none, none]) (by exact ⟨rfl, rfl, rfl, rfl, rfl, rfl, rfl, rfl, trivial⟩) ?_
                                exact ih11 (i + 1) _ _ (by omega) (by rcases hs with ⟨e, h⟩ | ⟨e, h⟩; exact absurd e (by omega); rw [zvi_f (fun g => h (zni_e (by omega) g)), hv]; omega) (by omega) (fun g => by have g1 := hbk (fun x y hx hy hz => g x y hx hy (by omega)); have g2 := g o i (by omega) (by omega) (by omega); have g3 := hy1 (((hRL.2 o (by omega)).1 (25 + i) (by omega)).trans g2); omega) (by omega)
                              · have h19 : yw ≠ 0 := h19
                                refine jWp.blk mt 6 ?_
                                show jWp 192 72 [some (jO m), some (jI (d1 : Int)), some (jI a), some (jI (vals + 0)), some (jI (brk + 0)), some (jJ mo), none, some (jI (o : Int)), some (jI ((i : Int) + 1)), some (jI s), some (jI (j : Int))] [] 0 0 (M1, w.2) _
                                refine jWp.le (l := [some (jO m), some (jI (d1 : Int)), some (jI a), some (jI (vals + 0)), some (jI (brk + 0)), some (jJ mo), none, some (jI (o : Int)), some (jI ((i : Int) + 1)), none, none]) (by exact ⟨rfl, rfl, rfl, rfl, rfl, rfl, rfl, rfl, trivial⟩) ?_
                                exact ih11 (i + 1) _ _ (by omega) (by rcases hs with ⟨e, h⟩ | ⟨e, h⟩; exact absurd e (by omega); rw [zvi_f (fun g => h (zni_e (by omega) g)), hv]; omega) (by omega) (fun g => by have g1 := hbk (fun x y hx hy hz => g x y hx hy (by omega)); have g2 := g o i (by omega) (by omega) (by omega); have g3 := hy1 (((hRL.2 o (by omega)).1 (25 + i) (by omega)).trans g2); omega) (by omega)
                            · have h18 : s ≠ 0 := h18
                              refine jWp.blk mt 6 ?_
                              show _ ∧ jWp 192 229 [some (jO m), some (jI (d1 : Int)), some (jI a), some (jI (vals + 1)), some (jI brk), some (jJ mo), none, some (jI (o : Int)), some (jI (i : Int)), some (jI s), some (jI (j : Int))] [jO m, jI brk] 0 0 (M1, w.2) _
                              refine ⟨rfl, ?_⟩
                              refine jWp.getR (pc' := 232) (o := (m + 17)) mt rfl rfl (jtg hW.K0) hW.R17 ?_
                              show jWp 192 232 [some (jO m), some (jI (d1 : Int)), some (jI a), some (jI (vals + 1)), some (jI brk), some (jJ mo), none, some (jI (o : Int)), some (jI (i : Int)), some (jI s), some (jI (j : Int))] [jO (m + 17), jI brk] 0 0 (M1, w.2) _
                              refine jWp.blk mt 1 ?_
                              show jWp 192 234 [some (jO m), some (jI (d1 : Int)), some (jI a), some (jI (vals + 1)), some (jI brk), some (jJ mo), none, some (jI (o : Int)), some (jI (i : Int)), some (jI s), some (jI (j : Int))] [jI (o : Int), jO (m + 17), jI brk] 0 0 (M1, w.2) _
                              refine jWp.aald (pc' := 235) (j := o) (o := (m + (18 + o))) mt rfl rfl (jrg hW.K17 (by decide) (by decide)) (b32_id (by omega) (by omega)) (jlt hW.K17 (by omega)) (hW.RFo o (by omega)) ?_
                              show jWp 192 235 [some (jO m), some (jI (d1 : Int)), some (jI a), some (jI (vals + 1)), some (jI brk), some (jJ mo), none, some (jI (o : Int)), some (jI (i : Int)), some (jI s), some (jI (j : Int))] [jO (m + (18 + o)), jI brk] 0 0 (M1, w.2) _
                              refine jWp.blk mt 1 ?_
                              show jWp 192 237 [some (jO m), some (jI (d1 : Int)), some (jI a), some (jI (vals + 1)), some (jI brk), some (jJ mo), none, some (jI (o : Int)), some (jI (i : Int)), some (jI s), some (jI (j : Int))] [jI (i : Int), jO (m + (18 + o)), jI brk] 0 0 (M1, w.2) _
                              refine jWp.calls (as := [jO (m + (18 + o)), jI (i : Int)]) (rest := [jI brk]) mt rfl rfl rfl rfl ?_
                              refine jCall.mono (E_isWhole (w := (M1, w.2)) (q := m + (18 + o)) (n := n) (i := i) (hW.KF o (by omega)) (zeq_S (hRL.2 o (by omega)).1 (hBL.2.2.2 o (by omega)).1.S) (fun c hc => by have e := (hRL.2 o (by omega)).1 (17 + c) (by omega); have g := (hBL.2.2.2 o (by omega)).1.s c hc; constructor <;> (show _ ≤ _) <;> (first | (rw [show ((M1, w.2) : jS).1 (m + (18 + o)) (17 + c) = (zL L o).1 (17 + c) from e]; omega))) (by omega)) (fun v9 w9 h9 => ?_)
                              obtain ⟨h9, yw, rfl, hyw, hy1⟩ := h9
                              subst w9
                              show jWp 192 240 [some (jO m), some (jI (d1 : Int)), some (jI a), some (jI (vals + 1)), some (jI brk), some (jJ mo), none, some (jI (o : Int)), some (jI (i : Int)), some (jI s), some (jI (j : Int))] [jI yw, jI brk] 0 0 (M1, w.2) _
                              refine jWp.ifz (pc' := 243) mt rfl rfl (b32_id (by omega) (by omega)) (fun h20 => ?_) (fun h20 => ?_)
                              · have h20 : yw = 0 := h20
                                refine jWp.blk mt 5 ?_
                                show jWp 192 72 [some (jO m), some (jI (d1 : Int)), some (jI a), some (jI (vals + 1)), some (jI (brk + 1)), some (jJ mo), none, some (jI (o : Int)), some (jI ((i : Int) + 1)), some (jI s), some (jI (j : Int))] [] 0 0 (M1, w.2) _
                                refine jWp.le (l := [some (jO m), some (jI (d1 : Int)), some (jI a), some (jI (vals + 1)), some (jI (brk + 1)), some (jJ mo), none, some (jI (o : Int)), some (jI ((i : Int) + 1)), none, none]) (by exact ⟨rfl, rfl, rfl, rfl, rfl, rfl, rfl, rfl, trivial⟩) ?_
                                exact ih11 (i + 1) _ _ (by omega) (by rcases hs with ⟨e, h⟩ | ⟨e, h⟩; rw [zvi_t (zni_e (by omega) h), hv]; omega; exact absurd e (by omega)) (by omega) (fun g => by have g1 := hbk (fun x y hx hy hz => g x y hx hy (by omega)); have g2 := g o i (by omega) (by omega) (by omega); have g3 := hy1 (((hRL.2 o (by omega)).1 (25 + i) (by omega)).trans g2); omega) (by omega)
                              · have h20 : yw ≠ 0 := h20
                                refine jWp.blk mt 6 ?_
                                show jWp 192 72 [some (jO m), some (jI (d1 : Int)), some (jI a), some (jI (vals + 1)), some (jI (brk + 0)), some (jJ mo), none, some (jI (o : Int)), some (jI ((i : Int) + 1)), some (jI s), some (jI (j : Int))] [] 0 0 (M1, w.2) _
                                refine jWp.le (l := [some (jO m), some (jI (d1 : Int)), some (jI a), some (jI (vals + 1)), some (jI (brk + 0)), some (jJ mo), none, some (jI (o : Int)), some (jI ((i : Int) + 1)), none, none]) (by exact ⟨rfl, rfl, rfl, rfl, rfl, rfl, rfl, rfl, trivial⟩) ?_
                                exact ih11 (i + 1) _ _ (by omega) (by rcases hs with ⟨e, h⟩ | ⟨e, h⟩; rw [zvi_t (zni_e (by omega) h), hv]; omega; exact absurd e (by omega)) (by omega) (fun g => by have g1 := hbk (fun x y hx hy hz => g x y hx hy (by omega)); have g2 := g o i (by omega) (by omega) (by omega); have g3 := hy1 (((hRL.2 o (by omega)).1 (25 + i) (by omega)).trans g2); omega) (by omega)
                          · have h17 : (j : Int) < (i : Int) := h17
                            refine jWp.blk mt 2 ?_
                            show _ ∧ jWp 192 140 [some (jO m), some (jI (d1 : Int)), some (jI a), some (jI vals), some (jI brk), some (jJ mo), none, some (jI (o : Int)), some (jI (i : Int)), some (jI s), some (jI (j : Int))] [jO m, jI s] 0 0 (M1, w.2) _
                            refine ⟨rfl, ?_⟩
                            refine jWp.getR (pc' := 143) (o := (m + 17)) mt rfl rfl (jtg hW.K0) hW.R17 ?_
                            show jWp 192 143 [some (jO m), some (jI (d1 : Int)), some (jI a), some (jI vals), some (jI brk), some (jJ mo), none, some (jI (o : Int)), some (jI (i : Int)), some (jI s), some (jI (j : Int))] [jO (m + 17), jI s] 0 0 (M1, w.2) _
                            refine jWp.blk mt 1 ?_
                            show jWp 192 145 [some (jO m), some (jI (d1 : Int)), some (jI a), some (jI vals), some (jI brk), some (jJ mo), none, some (jI (o : Int)), some (jI (i : Int)), some (jI s), some (jI (j : Int))] [jI (o : Int), jO (m + 17), jI s] 0 0 (M1, w.2) _
                            refine jWp.aald (pc' := 146) (j := o) (o := (m + (18 + o))) mt rfl rfl (jrg hW.K17 (by decide) (by decide)) (b32_id (by omega) (by omega)) (jlt hW.K17 (by omega)) (hW.RFo o (by omega)) ?_
                            show jWp 192 146 [some (jO m), some (jI (d1 : Int)), some (jI a), some (jI vals), some (jI brk), some (jJ mo), none, some (jI (o : Int)), some (jI (i : Int)), some (jI s), some (jI (j : Int))] [jO (m + (18 + o)), jI s] 0 0 (M1, w.2) _
                            refine jWp.blk mt 3 ?_
                            show jWp 192 151 [some (jO m), some (jI (d1 : Int)), some (jI a), some (jI vals), some (jI brk), some (jJ mo), none, some (jI (o : Int)), some (jI (i : Int)), some (jI s), some (jI (j : Int))] [jI (21 + (j : Int)), jO (m + (18 + o)), jI s] 0 0 (M1, w.2) _
                            refine jWp.lald (pc' := 152) (j := (21 + j)) mt rfl rfl (jtg (hW.KF _ (by omega))) (by rw [b32_id (by omega) (by omega)]; omega) (jlt (hW.KF _ (by omega)) (by omega)) ?_
                            rw [show ((M1, w.2).1 (m + (18 + o)) (21 + j)) = ((zL L o).1 (21 + j)) from ((hRL.2 o (by omega)).1 (21 + j) (by omega))]
                            show jWp 192 152 [some (jO m), some (jI (d1 : Int)), some (jI a), some (jI vals), some (jI brk), some (jJ mo), none, some (jI (o : Int)), some (jI (i : Int)), some (jI s), some (jI (j : Int))] [jJ ((zL L o).1 (21 + j)), jI s] 0 0 (M1, w.2) _
                            refine jWp.blk mt 1 ?_
                            show _ ∧ jWp 192 153 [some (jO m), some (jI (d1 : Int)), some (jI a), some (jI vals), some (jI brk), some (jJ mo), none, some (jI (o : Int)), some (jI (i : Int)), some (jI s), some (jI (j : Int))] [jO m, jJ ((zL L o).1 (21 + j)), jI s] 0 0 (M1, w.2) _
                            refine ⟨rfl, ?_⟩
                            refine jWp.getR (pc' := 156) (o := (m + 17)) mt rfl rfl (jtg hW.K0) hW.R17 ?_
                            show jWp 192 156 [some (jO m), some (jI (d1 : Int)), some (jI a), some (jI vals), some (jI brk), some (jJ mo), none, some (jI (o : Int)), some (jI (i : Int)), some (jI s), some (jI (j : Int))] [jO (m + 17), jJ ((zL L o).1 (21 + j)), jI s] 0 0 (M1, w.2) _
                            refine jWp.blk mt 1 ?_
                            show jWp 192 158 [some (jO m), some (jI (d1 : Int)), some (jI a), some (jI vals), some (jI brk), some (jJ mo), none, some (jI (o : Int)), some (jI (i : Int)), some (jI s), some (jI (j : Int))] [jI (o : Int), jO (m + 17), jJ ((zL L o).1 (21 + j)), jI s] 0 0 (M1, w.2) _
                            refine jWp.aald (pc' := 159) (j := o) (o := (m + (18 + o))) mt rfl rfl (jrg hW.K17 (by decide) (by decide)) (b32_id (by omega) (by omega)) (jlt hW.K17 (by omega)) (hW.RFo o (by omega)) ?_
                            show jWp 192 159 [some (jO m), some (jI (d1 : Int)), some (jI a), some (jI vals), some (jI brk), some (jJ mo), none, some (jI (o : Int)), some (jI (i : Int)), some (jI s), some (jI (j : Int))] [jO (m + (18 + o)), jJ ((zL L o).1 (21 + j)), jI s] 0 0 (M1, w.2) _
                            refine jWp.blk mt 3 ?_
                            show jWp 192 164 [some (jO m), some (jI (d1 : Int)), some (jI a), some (jI vals), some (jI brk), some (jJ mo), none, some (jI (o : Int)), some (jI (i : Int)), some (jI s), some (jI (j : Int))] [jI (21 + (i : Int)), jO (m + (18 + o)), jJ ((zL L o).1 (21 + j)), jI s] 0 0 (M1, w.2) _
                            refine jWp.lald (pc' := 165) (j := (21 + i)) mt rfl rfl (jtg (hW.KF _ (by omega))) (by rw [b32_id (by omega) (by omega)]; omega) (jlt (hW.KF _ (by omega)) (by omega)) ?_
                            rw [show ((M1, w.2).1 (m + (18 + o)) (21 + i)) = ((zL L o).1 (21 + i)) from ((hRL.2 o (by omega)).1 (21 + i) (by omega))]
                            show jWp 192 165 [some (jO m), some (jI (d1 : Int)), some (jI a), some (jI vals), some (jI brk), some (jJ mo), none, some (jI (o : Int)), some (jI (i : Int)), some (jI s), some (jI (j : Int))] [jJ ((zL L o).1 (21 + i)), jJ ((zL L o).1 (21 + j)), jI s] 0 0 (M1, w.2) _
                            refine jWp.lcmp (pc' := 169) mt rfl rfl rfl (b64_id (by omega) (by omega)) (b64_id (by omega) (by omega)) (fun h21 => ?_) (fun h21 => ?_)
                            · have h21 : ((zL L o).1 (21 + j)) ≠ ((zL L o).1 (21 + i)) := h21
                              refine jWp.blk mt 6 ?_
                              show jWp 192 130 [some (jO m), some (jI (d1 : Int)), some (jI a), some (jI vals), some (jI brk), some (jJ mo), none, some (jI (o : Int)), some (jI (i : Int)), some (jI (jand s 1)), some (jI ((j : Int) + 1))] [] 0 0 (M1, w.2) _
                              refine jWp.le (l := [some (jO m), some (jI (d1 : Int)), some (jI a), some (jI vals), some (jI brk), some (jJ mo), none, some (jI (o : Int)), some (jI (i : Int)), some (jI (jand s 1)), some (jI ((j : Int) + 1))]) (by exact ⟨rfl, rfl, rfl, rfl, rfl, rfl, rfl, rfl, rfl, rfl, trivial⟩) ?_
                              exact ih16 (j + 1) (jand s 1) (by omega) (by have hd : ¬ ((zL L o).1 (21 + j) = (zL L o).1 (21 + i) ∧ (zL L o).1 (25 + j) = (zL L o).1 (25 + i)) := (fun g => by first | exact absurd g.1 (by assumption) | exact absurd g.2 (by assumption)); rcases hs with ⟨rfl, h⟩ | ⟨rfl, h⟩; exact Or.inl ⟨by decide, h.1, fun y hy => by rcases Nat.lt_or_ge y j with e | e; exact h.2 y e; rw [show y = j by omega]; exact hd⟩; exact Or.inr ⟨by decide, fun g => h ⟨g.1, fun y hy => g.2 y (by omega)⟩⟩) (by omega)
                            · have h21 : ((zL L o).1 (21 + j)) = ((zL L o).1 (21 + i)) := h21
                              refine jWp.blk mt 1 ?_
                              show _ ∧ jWp 192 170 [some (jO m), some (jI (d1 : Int)), some (jI a), some (jI vals), some (jI brk), some (jJ mo), none, some (jI (o : Int)), some (jI (i : Int)), some (jI s), some (jI (j : Int))] [jO m, jI s] 0 0 (M1, w.2) _
                              refine ⟨rfl, ?_⟩
                              refine jWp.getR (pc' := 173) (o := (m + 17)) mt rfl rfl (jtg hW.K0) hW.R17 ?_
                              show jWp 192 173 [some (jO m), some (jI (d1 : Int)), some (jI a), some (jI vals), some (jI brk), some (jJ mo), none, some (jI (o : Int)), some (jI (i : Int)), some (jI s), some (jI (j : Int))] [jO (m + 17), jI s] 0 0 (M1, w.2) _
                              refine jWp.blk mt 1 ?_
                              show jWp 192 175 [some (jO m), some (jI (d1 : Int)), some (jI a), some (jI vals), some (jI brk), some (jJ mo), none, some (jI (o : Int)), some (jI (i : Int)), some (jI s), some (jI (j : Int))] [jI (o : Int), jO (m + 17), jI s] 0 0 (M1, w.2) _
                              refine jWp.aald (pc' := 176) (j := o) (o := (m + (18 + o))) mt rfl rfl (jrg hW.K17 (by decide) (by decide)) (b32_id (by omega) (by omega)) (jlt hW.K17 (by omega)) (hW.RFo o (by omega)) ?_
                              show jWp 192 176 [some (jO m), some (jI (d1 : Int)), some (jI a), some (jI vals), some (jI brk), some (jJ mo), none, some (jI (o : Int)), some (jI (i : Int)), some (jI s), some (jI (j : Int))] [jO (m + (18 + o)), jI s] 0 0 (M1, w.2) _
                              refine jWp.blk mt 3 ?_
                              show jWp 192 181 [some (jO m), some (jI (d1 : Int)), some (jI a), some (jI vals), some (jI brk), some (jJ mo), none, some (jI (o : Int)), some (jI (i : Int)), some (jI s), some (jI (j : Int))] [jI (25 + (j : Int)), jO (m + (18 + o)), jI s] 0 0 (M1, w.2) _
                              refine jWp.lald (pc' := 182) (j := (25 + j)) mt rfl rfl (jtg (hW.KF _ (by omega))) (by rw [b32_id (by omega) (by omega)]; omega) (jlt (hW.KF _ (by omega)) (by omega)) ?_
                              rw [show ((M1, w.2).1 (m + (18 + o)) (25 + j)) = ((zL L o).1 (25 + j)) from ((hRL.2 o (by omega)).1 (25 + j) (by omega))]
                              show jWp 192 182 [some (jO m), some (jI (d1 : Int)), some (jI a), some (jI vals), some (jI brk), some (jJ mo), none, some (jI (o : Int)), some (jI (i : Int)), some (jI s), some (jI (j : Int))] [jJ ((zL L o).1 (25 + j)), jI s] 0 0 (M1, w.2) _
                              refine jWp.blk mt 1 ?_
                              show _ ∧ jWp 192 183 [some (jO m), some (jI (d1 : Int)), some (jI a), some (jI vals), some (jI brk), some (jJ mo), none, some (jI (o : Int)), some (jI (i : Int)), some (jI s), some (jI (j : Int))] [jO m, jJ ((zL L o).1 (25 + j)), jI s] 0 0 (M1, w.2) _
                              refine ⟨rfl, ?_⟩
                              refine jWp.getR (pc' := 186) (o := (m + 17)) mt rfl rfl (jtg hW.K0) hW.R17 ?_
                              show jWp 192 186 [some (jO m), some (jI (d1 : Int)), some (jI a), some (jI vals), some (jI brk), some (jJ mo), none, some (jI (o : Int)), some (jI (i : Int)), some (jI s), some (jI (j : Int))] [jO (m + 17), jJ ((zL L o).1 (25 + j)), jI s] 0 0 (M1, w.2) _
                              refine jWp.blk mt 1 ?_
                              show jWp 192 188 [some (jO m), some (jI (d1 : Int)), some (jI a), some (jI vals), some (jI brk), some (jJ mo), none, some (jI (o : Int)), some (jI (i : Int)), some (jI s), some (jI (j : Int))] [jI (o : Int), jO (m + 17), jJ ((zL L o).1 (25 + j)), jI s] 0 0 (M1, w.2) _
                              refine jWp.aald (pc' := 189) (j := o) (o := (m + (18 + o))) mt rfl rfl (jrg hW.K17 (by decide) (by decide)) (b32_id (by omega) (by omega)) (jlt hW.K17 (by omega)) (hW.RFo o (by omega)) ?_
                              show jWp 192 189 [some (jO m), some (jI (d1 : Int)), some (jI a), some (jI vals), some (jI brk), some (jJ mo), none, some (jI (o : Int)), some (jI (i : Int)), some (jI s), some (jI (j : Int))] [jO (m + (18 + o)), jJ ((zL L o).1 (25 + j)), jI s] 0 0 (M1, w.2) _
                              refine jWp.blk mt 3 ?_
                              show jWp 192 194 [some (jO m), some (jI (d1 : Int)), some (jI a), some (jI vals), some (jI brk), some (jJ mo), none, some (jI (o : Int)), some (jI (i : Int)), some (jI s), some (jI (j : Int))] [jI (25 + (i : Int)), jO (m + (18 + o)), jJ ((zL L o).1 (25 + j)), jI s] 0 0 (M1, w.2) _
                              refine jWp.lald (pc' := 195) (j := (25 + i)) mt rfl rfl (jtg (hW.KF _ (by omega))) (by rw [b32_id (by omega) (by omega)]; omega) (jlt (hW.KF _ (by omega)) (by omega)) ?_
                              rw [show ((M1, w.2).1 (m + (18 + o)) (25 + i)) = ((zL L o).1 (25 + i)) from ((hRL.2 o (by omega)).1 (25 + i) (by omega))]
                              show jWp 192 195 [some (jO m), some (jI (d1 : Int)), some (jI a), some (jI vals), some (jI brk), some (jJ mo), none, some (jI (o : Int)), some (jI (i : Int)), some (jI s), some (jI (j : Int))] [jJ ((zL L o).1 (25 + i)), jJ ((zL L o).1 (25 + j)), jI s] 0 0 (M1, w.2) _
                              refine jWp.lcmp (pc' := 199) mt rfl rfl rfl (b64_id (by omega) (by omega)) (b64_id (by omega) (by omega)) (fun h22 => ?_) (fun h22 => ?_)
                              · have h22 : ((zL L o).1 (25 + j)) = ((zL L o).1 (25 + i)) := h22
                                refine jWp.blk mt 5 ?_
                                show jWp 192 130 [some (jO m), some (jI (d1 : Int)), some (jI a), some (jI vals), some (jI brk), some (jJ mo), none, some (jI (o : Int)), some (jI (i : Int)), some (jI (jand s 0)), some (jI ((j : Int) + 1))] [] 0 0 (M1, w.2) _
                                refine jWp.le (l := [some (jO m), some (jI (d1 : Int)), some (jI a), some (jI vals), some (jI brk), some (jJ mo), none, some (jI (o : Int)), some (jI (i : Int)), some (jI (jand s 0)), some (jI ((j : Int) + 1))]) (by exact ⟨rfl, rfl, rfl, rfl, rfl, rfl, rfl, rfl, rfl, rfl, trivial⟩) ?_
                                exact ih16 (j + 1) (jand s 0) (by omega) (Or.inr ⟨by rcases hs with ⟨rfl, h⟩ | ⟨rfl, h⟩ <;> decide, fun g => g.2 j (by omega) ⟨by assumption, by assumption⟩⟩) (by omega)
                              · have h22 : ((zL L o).1 (25 + j)) ≠ ((zL L o).1 (25 + i)) := h22
                                refine jWp.blk mt 6 ?_
                                show jWp 192 130 [some (jO m), some (jI (d1 : Int)), some (jI a), some (jI vals), some (jI brk), some (jJ mo), none, some (jI (o : Int)), some (jI (i : Int)), some (jI (jand s 1)), some (jI ((j : Int) + 1))] [] 0 0 (M1, w.2) _
                                refine jWp.le (l := [some (jO m), some (jI (d1 : Int)), some (jI a), some (jI vals), some (jI brk), some (jJ mo), none, some (jI (o : Int)), some (jI (i : Int)), some (jI (jand s 1)), some (jI ((j : Int) + 1))]) (by exact ⟨rfl, rfl, rfl, rfl, rfl, rfl, rfl, rfl, rfl, rfl, trivial⟩) ?_
                                exact ih16 (j + 1) (jand s 1) (by omega) (by have hd : ¬ ((zL L o).1 (21 + j) = (zL L o).1 (21 + i) ∧ (zL L o).1 (25 + j) = (zL L o).1 (25 + i)) := (fun g => by first | exact absurd g.1 (by assumption) | exact absurd g.2 (by assumption)); rcases hs with ⟨rfl, h⟩ | ⟨rfl, h⟩; exact Or.inl ⟨by decide, h.1, fun y hy => by rcases Nat.lt_or_ge y j with e | e; exact h.2 y e; rw [show y = j by omega]; exact hd⟩; exact Or.inr ⟨by decide, fun g => h ⟨g.1, fun y hy => g.2 y (by omega)⟩⟩) (by omega)
                      refine jWp.le (l := [some (jO m), some (jI (d1 : Int)), some (jI a), some (jI vals), some (jI brk), some (jJ mo), none, some (jI (o : Int)), some (jI (i : Int)), some (jI 0), some (jI 0)]) (by exact ⟨rfl, rfl, rfl, rfl, rfl, rfl, rfl, rfl, rfl, rfl, trivial⟩) ?_
                      exact lp15 _ 0 0 (by omega) (Or.inr ⟨rfl, fun g => absurd (by assumption) g.1⟩) (Nat.lt_succ_self _)
                    · have h14 : ¬ (zsd L n o ((zL L o).1 (21 + i)) ((zL L o).1 (25 + i))) := h14
                      show jWp 192 117 [some (jO m), some (jI (d1 : Int)), some (jI a), some (jI vals), some (jI brk), some (jJ mo), none, some (jI (o : Int)), some (jI (i : Int)), none, none] [jI 0] 0 0 (M1, w.2) _
                      refine jWp.ifc (b := false) mt rfl (by decide) rfl ?_
                      show jWp 192 120 [some (jO m), some (jI (d1 : Int)), some (jI a), some (jI vals), some (jI brk), some (jJ mo), none, some (jI (o : Int)), some (jI (i : Int)), none, none] [] 0 0 (M1, w.2) _
                      refine jWp.blk mt 5 ?_
                      show jWp 192 130 [some (jO m), some (jI (d1 : Int)), some (jI a), some (jI vals), some (jI brk), some (jJ mo), none, some (jI (o : Int)), some (jI (i : Int)), some (jI 1), some (jI 0)] [] 0 0 (M1, w.2) _
                      have lp23 : ∀ (N : Nat) (j : Nat) (s : Int) (hj : j ≤ i) (hs : (s = 1 ∧ zni L n o i j) ∨ (s = 0 ∧ ¬ zni L n o i j)), i - j < N → jWp 192 130 [some (jO m), some (jI (d1 : Int)), some (jI a), some (jI vals), some (jI brk), some (jJ mo), none, some (jI (o : Int)), some (jI (i : Int)), some (jI s), some (jI (j : Int))] [] 0 0 (M1, w.2) (fun v w1 => (((d1 : Int) < 0) → jno w m 4 (jI (-4)) v w1) ∧ (¬ ((d1 : Int) < 0) → (4 < (d1 : Int)) → jno w m 6 (jI (-6)) v w1) ∧ (¬ ((d1 : Int) < 0) → ¬ (4 < (d1 : Int)) → (¬ (0 ≤ a ∧ a ≤ 3)) → jno w m 2 (jI (-2)) v w1) ∧ (¬ ((d1 : Int) < 0) → ¬ (4 < (d1 : Int)) → ¬ (¬ (0 ≤ a ∧ a ≤ 3)) → (mq w m w1 ∧ (a = 0 → v = some (jI ((zBF n (d1 : Int).toNat (w.1 (m + 1))).length : Int))) ∧ (a = 1 → v = some (jI (zvo (zBF n (d1 : Int).toNat (w.1 (m + 1))) n (zBF n (d1 : Int).toNat (w.1 (m + 1))).length))) ∧ (a = 2 → v = some (jI (zgm (zBF n (d1 : Int).toNat (w.1 (m + 1))) n (zBF n (d1 : Int).toNat (w.1 (m + 1))).length))) ∧ (a = 3 → ∃ y, v = some (jI y) ∧ ((∀ x i, x < (zBF n (d1 : Int).toNat (w.1 (m + 1))).length → i < n → (zL (zBF n (d1 : Int).toNat (w.1 (m + 1))) x).1 (25 + i) = 1) → y = 0))))) := by
                        intro N
                        induction N with
                        | zero => intro j s hj hs hm; omega
                        | succ N ih24 =>
                          intro j s hj hs hm
                          have hvj : j < n → (1 ≤ (zL L o).1 (21 + j) ∧ (zL L o).1 (21 + j) ≤ 1000000000 ∧ 1 ≤ (zL L o).1 (25 + j) ∧ (zL L o).1 (25 + j) ≤ 1000000000) := fun h => (hBL.2.2.2 o (by omega)).1.S.v j (by omega)
                          have hvi2 := hvi (by omega)
                          refine jWp.blk mt 2 ?_
                          show jWp 192 134 [some (jO m), some (jI (d1 : Int)), some (jI a), some (jI vals), some (jI brk), some (jJ mo), none, some (jI (o : Int)), some (jI (i : Int)), some (jI s), some (jI (j : Int))] [jI (i : Int), jI (j : Int)] 0 0 (M1, w.2) _
                          refine jWp.icmp (pc' := 137) mt rfl rfl (b32_id (by omega) (by omega)) (b32_id (by omega) (by omega)) (fun h25 => ?_) (fun h25 => ?_)
                          · have h25 : (i : Int) ≤ (j : Int) := h25
                            refine jWp.blk mt 2 ?_
                            show jWp 192 216 [some (jO m), some (jI (d1 : Int)), some (jI a), some (jI vals), some (jI brk), some (jJ mo), none, some (jI (o : Int)), some (jI (i : Int)), some (jI s), some (jI (j : Int))] [jI s, jI vals] 0 0 (M1, w.2) _
                            refine jWp.ifz (pc' := 219) mt rfl rfl (b32_id (by rcases hs with ⟨e, _⟩ | ⟨e, _⟩ <;> omega) (by rcases hs with ⟨e, _⟩ | ⟨e, _⟩ <;> omega)) (fun h26 => ?_) (fun h26 => ?_)
                            · have h26 : s = 0 := h26
                              refine jWp.blk mt 5 ?_
                              show _ ∧ jWp 192 229 [some (jO m), some (jI (d1 : Int)), some (jI a), some (jI (vals + 0)), some (jI brk), some (jJ mo), none, some (jI (o : Int)), some (jI (i : Int)), some (jI s), some (jI (j : Int))] [jO m, jI brk] 0 0 (M1, w.2) _
                              refine ⟨rfl, ?_⟩
                              refine jWp.getR (pc' := 232) (o := (m + 17)) mt rfl rfl (jtg hW.K0) hW.R17 ?_
                              show jWp 192 232 [some (jO m), some (jI (d1 : Int)), some (jI a), some (jI (vals + 0)), some (jI brk), some (jJ mo), none, some (jI (o : Int)), some (jI (i : Int)), some (jI s), some (jI (j : Int))] [jO (m + 17), jI brk] 0 0 (M1, w.2) _
                              refine jWp.blk mt 1 ?_
                              show jWp 192 234 [some (jO m), some (jI (d1 : Int)), some (jI a), some (jI (vals + 0)), some (jI brk), some (jJ mo), none, some (jI (o : Int)), some (jI (i : Int)), some (jI s), some (jI (j : Int))] [jI (o : Int), jO (m + 17), jI brk] 0 0 (M1, w.2) _
                              refine jWp.aald (pc' := 235) (j := o) (o := (m + (18 + o))) mt rfl rfl (jrg hW.K17 (by decide) (by decide)) (b32_id (by omega) (by omega)) (jlt hW.K17 (by omega)) (hW.RFo o (by omega)) ?_
                              show jWp 192 235 [some (jO m), some (jI (d1 : Int)), some (jI a), some (jI (vals + 0)), some (jI brk), some (jJ mo), none, some (jI (o : Int)), some (jI (i : Int)), some (jI s), some (jI (j : Int))] [jO (m + (18 + o)), jI brk] 0 0 (M1, w.2) _
                              refine jWp.blk mt 1 ?_
                              show jWp 192 237 [some (jO m), some (jI (d1 : Int)), some (jI a), some (jI (vals + 0)), some (jI brk), some (jJ mo), none, some (jI (o : Int)), some (jI (i : Int)), some (jI s), some (jI (j : Int))] [jI (i : Int), jO (m + (18 + o)), jI brk] 0 0 (M1, w.2) _
                              refine jWp.calls (as := [jO (m + (18 + o)), jI (i : Int)]) (rest := [jI brk]) mt rfl rfl rfl rfl ?_
                              refine jCall.mono (E_isWhole (w := (M1, w.2)) (q := m + (18 + o)) (n := n) (i := i) (hW.KF o (by omega)) (zeq_S (hRL.2 o (by omega)).1 (hBL.2.2.2 o (by omega)).1.S) (fun c hc => by have e := (hRL.2 o (by omega)).1 (17 + c) (by omega); have g := (hBL.2.2.2 o (by omega)).1.s c hc; constructor <;> (show _ ≤ _) <;> (first | (rw [show ((M1, w.2) : jS).1 (m + (18 + o)) (17 + c) = (zL L o).1 (17 + c) from e]; omega))) (by omega)) (fun v9 w9 h9 => ?_)
                              obtain ⟨h9, yw, rfl, hyw, hy1⟩ := h9
                              subst w9
                              show jWp 192 240 [some (jO m), some (jI (d1 : Int)), some (jI a), some (jI (vals + 0)), some (jI brk), some (jJ mo), none, some (jI (o : Int)), some (jI (i : Int)), some (jI s), some (jI (j : Int))] [jI yw, jI brk] 0 0 (M1, w.2) _
                              refine jWp.ifz (pc' := 243) mt rfl rfl (b32_id (by omega) (by omega)) (fun h27 => ?_) (fun h27 => ?_)
                              · have h27 : yw = 0 := h27
                                refine jWp.blk mt 5 ?_
                                show jWp 192 72 [some (jO m), some (jI (d1 : Int)), some (jI a), some (jI (vals + 0)), some (jI (brk + 1)), some (jJ mo), none, some (jI (o : Int)), some (jI ((i : Int) + 1)), some (jI s), some (jI (j : Int))] [] 0 0 (M1, w.2) _
                                refine jWp.le (l := [some (jO m), some (jI (d1 : Int)), some (jI a), some (jI (vals + 0)), some (jI (brk + 1)), some (jJ mo), none, some (jI (o : Int)), some (jI ((i : Int) + 1)), none, none]) (by exact ⟨rfl, rfl, rfl, rfl, rfl, rfl, rfl, rfl, trivial⟩) ?_
                                exact ih11 (i + 1) _ _ (by omega) (by rcases hs with ⟨e, h⟩ | ⟨e, h⟩; exact absurd e (by omega); rw [zvi_f (fun g => h (zni_e (by omega) g)), hv]; omega) (by omega) (fun g => by have g1 := hbk (fun x y hx hy hz => g x y hx hy (by omega)); have g2 := g o i (by omega) (by omega) (by omega); have g3 := hy1 (((hRL.2 o (by omega)).1 (25 + i) (by omega)).trans g2); omega) (by omega)
                              · have h27 : yw ≠ 0 := h27
                                refine jWp.blk mt 6 ?_
                                show jWp 192 72 [some (jO m), some (jI (d1 : Int)), some (jI a), some (jI (vals + 0)), some (jI (brk + 0)), some (jJ mo), none, some (jI (o : Int)), some (jI ((i : Int) + 1)), some (jI s), some (jI (j : Int))] [] 0 0 (M1, w.2) _
                                refine jWp.le (l := [some (jO m), some (jI (d1 : Int)), some (jI a), some (jI (vals + 0)), some (jI (brk + 0)), some (jJ mo), none, some (jI (o : Int)), some (jI ((i : Int) + 1)), none, none]) (by exact ⟨rfl, rfl, rfl, rfl, rfl, rfl, rfl, rfl, trivial⟩) ?_
                                exact ih11 (i + 1) _ _ (by omega) (by rcases hs with ⟨e, h⟩ | ⟨e, h⟩; exact absurd e (by omega); rw [zvi_f (fun g => h (zni_e (by omega) g)), hv]; omega) (by omega) (fun g => by have g1 := hbk (fun x y hx hy hz => g x y hx hy (by omega)); have g2 := g o i (by omega) (by omega) (by omega); have g3 := hy1 (((hRL.2 o (by omega)).1 (25 + i) (by omega)).trans g2); omega) (by omega)
                            · have h26 : s ≠ 0 := h26
                              refine jWp.blk mt 6 ?_
                              show _ ∧ jWp 192 229 [some (jO m), some (jI (d1 : Int)), some (jI a), some (jI (vals + 1)), some (jI brk), some (jJ mo), none, some (jI (o : Int)), some (jI (i : Int)), some (jI s), some (jI (j : Int))] [jO m, jI brk] 0 0 (M1, w.2) _
                              refine ⟨rfl, ?_⟩
                              refine jWp.getR (pc' := 232) (o := (m + 17)) mt rfl rfl (jtg hW.K0) hW.R17 ?_
                              show jWp 192 232 [some (jO m), some (jI (d1 : Int)), some (jI a), some (jI (vals + 1)), some (jI brk), some (jJ mo), none, some (jI (o : Int)), some (jI (i : Int)), some (jI s), some (jI (j : Int))] [jO (m + 17), jI brk] 0 0 (M1, w.2) _
                              refine jWp.blk mt 1 ?_
                              show jWp 192 234 [some (jO m), some (jI (d1 : Int)), some (jI a), some (jI (vals + 1)), some (jI brk), some (jJ mo), none, some (jI (o : Int)), some (jI (i : Int)), some (jI s), some (jI (j : Int))] [jI (o : Int), jO (m + 17), jI brk] 0 0 (M1, w.2) _
                              refine jWp.aald (pc' := 235) (j := o) (o := (m + (18 + o))) mt rfl rfl (jrg hW.K17 (by decide) (by decide)) (b32_id (by omega) (by omega)) (jlt hW.K17 (by omega)) (hW.RFo o (by omega)) ?_
                              show jWp 192 235 [some (jO m), some (jI (d1 : Int)), some (jI a), some (jI (vals + 1)), some (jI brk), some (jJ mo), none, some (jI (o : Int)), some (jI (i : Int)), some (jI s), some (jI (j : Int))] [jO (m + (18 + o)), jI brk] 0 0 (M1, w.2) _
                              refine jWp.blk mt 1 ?_
                              show jWp 192 237 [some (jO m), some (jI (d1 : Int)), some (jI a), some (jI (vals + 1)), some (jI brk), some (jJ mo), none, some (jI (o : Int)), some (jI (i : Int)), some (jI s), some (jI (j : Int))] [jI (i : Int), jO (m + (18 + o)), jI brk] 0 0 (M1, w.2) _
                              refine jWp.calls (as := [jO (m + (18 + o)), jI (i : Int)]) (rest := [jI brk]) mt rfl rfl rfl rfl ?_
                              refine jCall.mono (E_isWhole (w := (M1, w.2)) (q := m + (18 + o)) (n := n) (i := i) (hW.KF o (by omega)) (zeq_S (hRL.2 o (by omega)).1 (hBL.2.2.2 o (by omega)).1.S) (fun c hc => by have e := (hRL.2 o (by omega)).1 (17 + c) (by omega); have g := (hBL.2.2.2 o (by omega)).1.s c hc; constructor <;> (show _ ≤ _) <;> (first | (rw [show ((M1, w.2) : jS).1 (m + (18 + o)) (17 + c) = (zL L o).1 (17 + c) from e]; omega))) (by omega)) (fun v9 w9 h9 => ?_)
                              obtain ⟨h9, yw, rfl, hyw, hy1⟩ := h9
                              subst w9
                              show jWp 192 240 [some (jO m), some (jI (d1 : Int)), some (jI a), some (jI (vals + 1)), some (jI brk), some (jJ mo), none, some (jI (o : Int)), some (jI (i : Int)), some (jI s), some (jI (j : Int))] [jI yw, jI brk] 0 0 (M1, w.2) _
                              refine jWp.ifz (pc' := 243) mt rfl rfl (b32_id (by omega) (by omega)) (fun h28 => ?_) (fun h28 => ?_)
                              · have h28 : yw = 0 := h28
                                refine jWp.blk mt 5 ?_
                                show jWp 192 72 [some (jO m), some (jI (d1 : Int)), some (jI a), some (jI (vals + 1)), some (jI (brk + 1)), some (jJ mo), none, some (jI (o : Int)), some (jI ((i : Int) + 1)), some (jI s), some (jI (j : Int))] [] 0 0 (M1, w.2) _
                                refine jWp.le (l := [some (jO m), some (jI (d1 : Int)), some (jI a), some (jI (vals + 1)), some (jI (brk + 1)), some (jJ mo), none, some (jI (o : Int)), some (jI ((i : Int) + 1)), none, none]) (by exact ⟨rfl, rfl, rfl, rfl, rfl, rfl, rfl, rfl, trivial⟩) ?_
                                exact ih11 (i + 1) _ _ (by omega) (by rcases hs with ⟨e, h⟩ | ⟨e, h⟩; rw [zvi_t (zni_e (by omega) h), hv]; omega; exact absurd e (by omega)) (by omega) (fun g => by have g1 := hbk (fun x y hx hy hz => g x y hx hy (by omega)); have g2 := g o i (by omega) (by omega) (by omega); have g3 := hy1 (((hRL.2 o (by omega)).1 (25 + i) (by omega)).trans g2); omega) (by omega)
                              · have h28 : yw ≠ 0 := h28
                                refine jWp.blk mt 6 ?_
                                show jWp 192 72 [some (jO m), some (jI (d1 : Int)), some (jI a), some (jI (vals + 1)), some (jI (brk + 0)), some (jJ mo), none, some (jI (o : Int)), some (jI ((i : Int) + 1)), some (jI s), some (jI (j : Int))] [] 0 0 (M1, w.2) _
                                refine jWp.le (l := [some (jO m), some (jI (d1 : Int)), some (jI a), some (jI (vals + 1)), some (jI (brk + 0)), some (jJ mo), none, some (jI (o : Int)), some (jI ((i : Int) + 1)), none, none]) (by exact ⟨rfl, rfl, rfl, rfl, rfl, rfl, rfl, rfl, trivial⟩) ?_
                                exact ih11 (i + 1) _ _ (by omega) (by rcases hs with ⟨e, h⟩ | ⟨e, h⟩; rw [zvi_t (zni_e (by omega) h), hv]; omega; exact absurd e (by omega)) (by omega) (fun g => by have g1 := hbk (fun x y hx hy hz => g x y hx hy (by omega)); have g2 := g o i (by omega) (by omega) (by omega); have g3 := hy1 (((hRL.2 o (by omega)).1 (25 + i) (by omega)).trans g2); omega) (by omega)
                          · have h25 : (j : Int) < (i : Int) := h25
                            refine jWp.blk mt 2 ?_
                            show _ ∧ jWp 192 140 [some (jO m), some (jI (d1 : Int)), some (jI a), some (jI vals), some (jI brk), some (jJ mo), none, some (jI (o : Int)), some (jI (i : Int)), some (jI s), some (jI (j : Int))] [jO m, jI s] 0 0 (M1, w.2) _
                            refine ⟨rfl, ?_⟩
                            refine jWp.getR (pc' := 143) (o := (m + 17)) mt rfl rfl (jtg hW.K0) hW.R17 ?_
                            show jWp 192 143 [some (jO m), some (jI (d1 : Int)), some (jI a), some (jI vals), some (jI brk), some (jJ mo), none, some (jI (o : Int)), some (jI (i : Int)), some (jI s), some (jI (j : Int))] [jO (m + 17), jI s] 0 0 (M1, w.2) _
                            refine jWp.blk mt 1 ?_
                            show jWp 192 145 [some (jO m), some (jI (d1 : Int)), some (jI a), some (jI vals), some (jI brk), some (jJ mo), none, some (jI (o : Int)), some (jI (i : Int)), some (jI s), some (jI (j : Int))] [jI (o : Int), jO (m + 17), jI s] 0 0 (M1, w.2) _
                            refine jWp.aald (pc' := 146) (j := o) (o := (m + (18 + o))) mt rfl rfl (jrg hW.K17 (by decide) (by decide)) (b32_id (by omega) (by omega)) (jlt hW.K17 (by omega)) (hW.RFo o (by omega)) ?_
                            show jWp 192 146 [some (jO m), some (jI (d1 : Int)), some (jI a), some (jI vals), some (jI brk), some (jJ mo), none, some (jI (o : Int)), some (jI (i : Int)), some (jI s), some (jI (j : Int))] [jO (m + (18 + o)), jI s] 0 0 (M1, w.2) _
                            refine jWp.blk mt 3 ?_
                            show jWp 192 151 [some (jO m), some (jI (d1 : Int)), some (jI a), some (jI vals), some (jI brk), some (jJ mo), none, some (jI (o : Int)), some (jI (i : Int)), some (jI s), some (jI (j : Int))] [jI (21 + (j : Int)), jO (m + (18 + o)), jI s] 0 0 (M1, w.2) _
                            refine jWp.lald (pc' := 152) (j := (21 + j)) mt rfl rfl (jtg (hW.KF _ (by omega))) (by rw [b32_id (by omega) (by omega)]; omega) (jlt (hW.KF _ (by omega)) (by omega)) ?_
                            rw [show ((M1, w.2).1 (m + (18 + o)) (21 + j)) = ((zL L o).1 (21 + j)) from ((hRL.2 o (by omega)).1 (21 + j) (by omega))]
                            show jWp 192 152 [some (jO m), some (jI (d1 : Int)), some (jI a), some (jI vals), some (jI brk), some (jJ mo), none, some (jI (o : Int)), some (jI (i : Int)), some (jI s), some (jI (j : Int))] [jJ ((zL L o).1 (21 + j)), jI s] 0 0 (M1, w.2) _
                            refine jWp.blk mt 1 ?_
                            show _ ∧ jWp 192 153 [some (jO m), some (jI (d1 : Int)), some (jI a), some (jI vals), some (jI brk), some (jJ mo), none, some (jI (o : Int)), some (jI (i : Int)), some (jI s), some (jI (j : Int))] [jO m, jJ ((zL L o).1 (21 + j)), jI s] 0 0 (M1, w.2) _
                            refine ⟨rfl, ?_⟩
                            refine jWp.getR (pc' := 156) (o := (m + 17)) mt rfl rfl (jtg hW.K0) hW.R17 ?_
                            show jWp 192 156 [some (jO m), some (jI (d1 : Int)), some (jI a), some (jI vals), some (jI brk), some (jJ mo), none, some (jI (o : Int)), some (jI (i : Int)), some (jI s), some (jI (j : Int))] [jO (m + 17), jJ ((zL L o).1 (21 + j)), jI s] 0 0 (M1, w.2) _
                            refine jWp.blk mt 1 ?_
                            show jWp 192 158 [some (jO m), some (jI (d1 : Int)), some (jI a), some (jI vals), some (jI brk), some (jJ mo), none, some (jI (o : Int)), some (jI (i : Int)), some (jI s), some (jI (j : Int))] [jI (o : Int), jO (m + 17), jJ ((zL L o).1 (21 + j)), jI s] 0 0 (M1, w.2) _
                            refine jWp.aald (pc' := 159) (j := o) (o := (m + (18 + o))) mt rfl rfl (jrg hW.K17 (by decide) (by decide)) (b32_id (by omega) (by omega)) (jlt hW.K17 (by omega)) (hW.RFo o (by omega)) ?_
                            show jWp 192 159 [some (jO m), some (jI (d1 : Int)), some (jI a), some (jI vals), some (jI brk), some (jJ mo), none, some (jI (o : Int)), some (jI (i : Int)), some (jI s), some (jI (j : Int))] [jO (m + (18 + o)), jJ ((zL L o).1 (21 + j)), jI s] 0 0 (M1, w.2) _
                            refine jWp.blk mt 3 ?_
                            show jWp 192 164 [some (jO m), some (jI (d1 : Int)), some (jI a), some (jI vals), some (jI brk), some (jJ mo), none, some (jI (o : Int)), some (jI (i : Int)), some (jI s), some (jI (j : Int))] [jI (21 + (i : Int)), jO (m + (18 + o)), jJ ((zL L o).1 (21 + j)), jI s] 0 0 (M1, w.2) _
                            refine jWp.lald (pc' := 165) (j := (21 + i)) mt rfl rfl (jtg (hW.KF _ (by omega))) (by rw [b32_id (by omega) (by omega)]; omega) (jlt (hW.KF _ (by omega)) (by omega)) ?_
                            rw [show ((M1, w.2).1 (m + (18 + o)) (21 + i)) = ((zL L o).1 (21 + i)) from ((hRL.2 o (by omega)).1 (21 + i) (by omega))]
                            show jWp 192 165 [some (jO m), some (jI (d1 : Int)), some (jI a), some (jI vals), some (jI brk), some (jJ mo), none, some (jI (o : Int)), some (jI (i : Int)), some (jI s), some (jI (j : Int))] [jJ ((zL L o).1 (21 + i)), jJ ((zL L o).1 (21 + j)), jI s] 0 0 (M1, w.2) _
                            refine jWp.lcmp (pc' := 169) mt rfl rfl rfl (b64_id (by omega) (by omega)) (b64_id (by omega) (by omega)) (fun h29 => ?_) (fun h29 => ?_)
                            · have h29 : ((zL L o).1 (21 + j)) ≠ ((zL L o).1 (21 + i)) := h29
                              refine jWp.blk mt 6 ?_
                              show jWp 192 130 [some (jO m), some (jI (d1 : Int)), some (jI a), some (jI vals), some (jI brk), some (jJ mo), none, some (jI (o : Int)), some (jI (i : Int)), some (jI (jand s 1)), some (jI ((j : Int) + 1))] [] 0 0 (M1, w.2) _
                              refine jWp.le (l := [some (jO m), some (jI (d1 : Int)), some (jI a), some (jI vals), some (jI brk), some (jJ mo), none, some (jI (o : Int)), some (jI (i : Int)), some (jI (jand s 1)), some (jI ((j : Int) + 1))]) (by exact ⟨rfl, rfl, rfl, rfl, rfl, rfl, rfl, rfl, rfl, rfl, trivial⟩) ?_
                              exact ih24 (j + 1) (jand s 1) (by omega) (by have hd : ¬ ((zL L o).1 (21 + j) = (zL L o).1 (21 + i) ∧ (zL L o).1 (25 + j) = (zL L o).1 (25 + i)) := (fun g => by first | exact absurd g.1 (by assumption) | exact absurd g.2 (by assumption)); rcases hs with ⟨rfl, h⟩ | ⟨rfl, h⟩; exact Or.inl ⟨by decide, h.1, fun y hy => by rcases Nat.lt_or_ge y j with e | e; exact h.2 y e; rw [show y = j by omega]; exact hd⟩; exact Or.inr ⟨by decide, fun g => h ⟨g.1, fun y hy => g.2 y (by omega)⟩⟩) (by omega)
                            · have h29 : ((zL L o).1 (21 + j)) = ((zL L o).1 (21 + i)) := h29
                              refine jWp.blk mt 1 ?_
                              show _ ∧ jWp 192 170 [some (jO m), some (jI (d1 : Int)), some (jI a), some (jI vals), some (jI brk), some (jJ mo), none, some (jI (o : Int)), some (jI (i : Int)), some (jI s), some (jI (j : Int))] [jO m, jI s] 0 0 (M1, w.2) _
                              refine ⟨rfl, ?_⟩
                              refine jWp.getR (pc' := 173) (o := (m + 17)) mt rfl rfl (jtg hW.K0) hW.R17 ?_
                              show jWp 192 173 [some (jO m), some (jI (d1 : Int)), some (jI a), some (jI vals), some (jI brk), some (jJ mo), none, some (jI (o : Int)), some (jI (i : Int)), some (jI s), some (jI (j : Int))] [jO (m + 17), jI s] 0 0 (M1, w.2) _
                              refine jWp.blk mt 1 ?_
                              show jWp 192 175 [some (jO m), some (jI (d1 : Int)), some (jI a), some (jI vals), some (jI brk), some (jJ mo), none, some (jI (o : Int)), some (jI (i : Int)), some (jI s), some (jI (j : Int))] [jI (o : Int), jO (m + 17), jI s] 0 0 (M1, w.2) _
                              refine jWp.aald (pc' := 176) (j := o) (o := (m + (18 + o))) mt rfl rfl (jrg hW.K17 (by decide) (by decide)) (b32_id (by omega) (by omega)) (jlt hW.K17 (by omega)) (hW.RFo o (by omega)) ?_
                              show jWp 192 176 [some (jO m), some (jI (d1 : Int)), some (jI a), some (jI vals), some (jI brk), some (jJ mo), none, some (jI (o : Int)), some (jI (i : Int)), some (jI s), some (jI (j : Int))] [jO (m + (18 + o)), jI s] 0 0 (M1, w.2) _
                              refine jWp.blk mt 3 ?_
                              show jWp 192 181 [some (jO m), some (jI (d1 : Int)), some (jI a), some (jI vals), some (jI brk), some (jJ mo), none, some (jI (o : Int)), some (jI (i : Int)), some (jI s), some (jI (j : Int))] [jI (25 + (j : Int)), jO (m + (18 + o)), jI s] 0 0 (M1, w.2) _
                              refine jWp.lald (pc' := 182) (j := (25 + j)) mt rfl rfl (jtg (hW.KF _ (by omega))) (by rw [b32_id (by omega) (by omega)]; omega) (jlt (hW.KF _ (by omega)) (by omega)) ?_
                              rw [show ((M1, w.2).1 (m + (18 + o)) (25 + j)) = ((zL L o).1 (25 + j)) from ((hRL.2 o (by omega)).1 (25 + j) (by omega))]
                              show jWp 192 182 [some (jO m), some (jI (d1 : Int)), some (jI a), some (jI vals), some (jI brk), some (jJ mo), none, some (jI (o : Int)), some (jI (i : Int)), some (jI s), some (jI (j : Int))] [jJ ((zL L o).1 (25 + j)), jI s] 0 0 (M1, w.2) _
                              refine jWp.blk mt 1 ?_
                              show _ ∧ jWp 192 183 [some (jO m), some (jI (d1 : Int)), some (jI a), some (jI vals), some (jI brk), some (jJ mo), none, some (jI (o : Int)), some (jI (i : Int)), some (jI s), some (jI (j : Int))] [jO m, jJ ((zL L o).1 (25 + j)), jI s] 0 0 (M1, w.2) _
                              refine ⟨rfl, ?_⟩
                              refine jWp.getR (pc' := 186) (o := (m + 17)) mt rfl rfl (jtg hW.K0) hW.R17 ?_
                              show jWp 192 186 [some (jO m), some (jI (d1 : Int)), some (jI a), some (jI vals), some (jI brk), some (jJ mo), none, some (jI (o : Int)), some (jI (i : Int)), some (jI s), some (jI (j : Int))] [jO (m + 17), jJ ((zL L o).1 (25 + j)), jI s] 0 0 (M1, w.2) _
                              refine jWp.blk mt 1 ?_
                              show jWp 192 188 [some (jO m), some (jI (d1 : Int)), some (jI a), some (jI vals), some (jI brk), some (jJ mo), none, some (jI (o : Int)), some (jI (i : Int)), some (jI s), some (jI (j : Int))] [jI (o : Int), jO (m + 17), jJ ((zL L o).1 (25 + j)), jI s] 0 0 (M1, w.2) _
                              refine jWp.aald (pc' := 189) (j := o) (o := (m + (18 + o))) mt rfl rfl (jrg hW.K17 (by decide) (by decide)) (b32_id (by omega) (by omega)) (jlt hW.K17 (by omega)) (hW.RFo o (by omega)) ?_
                              show jWp 192 189 [some (jO m), some (jI (d1 : Int)), some (jI a), some (jI vals), some (jI brk), some (jJ mo), none, some (jI (o : Int)), some (jI (i : Int)), some (jI s), some (jI (j : Int))] [jO (m + (18 + o)), jJ ((zL L o).1 (25 + j)), jI s] 0 0 (M1, w.2) _
                              refine jWp.blk mt 3 ?_
                              show jWp 192 194 [some (jO m), some (jI (d1 : Int)), some (jI a), some (jI vals), some (jI brk), some (jJ mo), none, some (jI (o : Int)), some (jI (i : Int)), some (jI s), some (jI (j : Int))] [jI (25 + (i : Int)), jO (m + (18 + o)), jJ ((zL L o).1 (25 + j)), jI s] 0 0 (M1, w.2) _
                              refine jWp.lald (pc' := 195) (j := (25 + i)) mt rfl rfl (jtg (hW.KF _ (by omega))) (by rw [b32_id (by omega) (by omega)]; omega) (jlt (hW.KF _ (by omega)) (by omega)) ?_
                              rw [show ((M1, w.2).1 (m + (18 + o)) (25 + i)) = ((zL L o).1 (25 + i)) from ((hRL.2 o (by omega)).1 (25 + i) (by omega))]
                              show jWp 192 195 [some (jO m), some (jI (d1 : Int)), some (jI a), some (jI vals), some (jI brk), some (jJ mo), none, some (jI (o : Int)), some (jI (i : Int)), some (jI s), some (jI (j : Int))] [jJ ((zL L o).1 (25 + i)), jJ ((zL L o).1 (25 + j)), jI s] 0 0 (M1, w.2) _
                              refine jWp.lcmp (pc' := 199) mt rfl rfl rfl (b64_id (by omega) (by omega)) (b64_id (by omega) (by omega)) (fun h30 => ?_) (fun h30 => ?_)
                              · have h30 : ((zL L o).1 (25 + j)) = ((zL L o).1 (25 + i)) := h30
                                refine jWp.blk mt 5 ?_
                                show jWp 192 130 [some (jO m), some (jI (d1 : Int)), some (jI a), some (jI vals), some (jI brk), some (jJ mo), none, some (jI (o : Int)), some (jI (i : Int)), some (jI (jand s 0)), some (jI ((j : Int) + 1))] [] 0 0 (M1, w.2) _
                                refine jWp.le (l := [some (jO m), some (jI (d1 : Int)), some (jI a), some (jI vals), some (jI brk), some (jJ mo), none, some (jI (o : Int)), some (jI (i : Int)), some (jI (jand s 0)), some (jI ((j : Int) + 1))]) (by exact ⟨rfl, rfl, rfl, rfl, rfl, rfl, rfl, rfl, rfl, rfl, trivial⟩) ?_
                                exact ih24 (j + 1) (jand s 0) (by omega) (Or.inr ⟨by rcases hs with ⟨rfl, h⟩ | ⟨rfl, h⟩ <;> decide, fun g => g.2 j (by omega) ⟨by assumption, by assumption⟩⟩) (by omega)
                              · have h30 : ((zL L o).1 (25 + j)) ≠ ((zL L o).1 (25 + i)) := h30
                                refine jWp.blk mt 6 ?_
                                show jWp 192 130 [some (jO m), some (jI (d1 : Int)), some (jI a), some (jI vals), some (jI brk), some (jJ mo), none, some (jI (o : Int)), some (jI (i : Int)), some (jI (jand s 1)), some (jI ((j : Int) + 1))] [] 0 0 (M1, w.2) _
                                refine jWp.le (l := [some (jO m), some (jI (d1 : Int)), some (jI a), some (jI vals), some (jI brk), some (jJ mo), none, some (jI (o : Int)), some (jI (i : Int)), some (jI (jand s 1)), some (jI ((j : Int) + 1))]) (by exact ⟨rfl, rfl, rfl, rfl, rfl, rfl, rfl, rfl, rfl, rfl, trivial⟩) ?_
                                exact ih24 (j + 1) (jand s 1) (by omega) (by have hd : ¬ ((zL L o).1 (21 + j) = (zL L o).1 (21 + i) ∧ (zL L o).1 (25 + j) = (zL L o).1 (25 + i)) := (fun g => by first | exact absurd g.1 (by assumption) | exact absurd g.2 (by assumption)); rcases hs with ⟨rfl, h⟩ | ⟨rfl, h⟩; exact Or.inl ⟨by decide, h.1, fun y hy => by rcases Nat.lt_or_ge y j with e | e; exact h.2 y e; rw [show y = j by omega]; exact hd⟩; exact Or.inr ⟨by decide, fun g => h ⟨g.1, fun y hy => g.2 y (by omega)⟩⟩) (by omega)
                      refine jWp.le (l := [some (jO m), some (jI (d1 : Int)), some (jI a), some (jI vals), some (jI brk), some (jJ mo), none, some (jI (o : Int)), some (jI (i : Int)), some (jI 1), some (jI 0)]) (by exact ⟨rfl, rfl, rfl, rfl, rfl, rfl, rfl, rfl, rfl, rfl, trivial⟩) ?_
                      exact lp23 _ 0 1 (by omega) (Or.inl ⟨rfl, by assumption, fun y hy => absurd hy (by omega)⟩) (Nat.lt_succ_self _)
              refine jWp.le (l := [some (jO m), some (jI (d1 : Int)), some (jI a), some (jI vals), some (jI brk), some (jJ mo), none, some (jI (o : Int)), some (jI 0), none, none]) (by exact ⟨rfl, rfl, rfl, rfl, rfl, rfl, rfl, rfl, trivial⟩) ?_
              exact lp10 _ 0 _ _ (by omega) (by rw [hv]; show _ = _ + (0 : Int); omega) hbb (fun g => hbk (fun x y hx hy => g x y (by omega) hy (Or.inl hx))) (Nat.lt_succ_self _)
        refine jWp.le (l := [some (jO m), some (jI (d1 : Int)), some (jI a), some (jI 0), some (jI 0), some (jJ (-1)), none, some (jI 0), none, none, none]) (by exact ⟨rfl, rfl, rfl, rfl, rfl, rfl, rfl, trivial⟩) ?_
        exact lp4 _ 0 0 0 (-1) (by omega) rfl rfl (by omega) (fun _ => rfl) (Nat.lt_succ_self _)
      · have h3 : ¬ (0 ≤ a ∧ a ≤ 3) := h3
        show jWp 192 32 [some (jO m), some (jI d), some (jI a), none, none, none, none, none, none, none, none] [jI 0] 0 0 w _
        refine jWp.ifc (b := false) mt rfl (by decide) rfl ?_
        show jWp 192 35 [some (jO m), some (jI d), some (jI a), none, none, none, none, none, none, none, none] [] 0 0 w _
        refine jWp.blk mt 2 ?_
        show _ ∧ jWp 192 38 [some (jO m), some (jI d), some (jI a), none, none, none, none, none, none, none, none] [jI (-2), jO m] 0 0 w _
        refine ⟨rfl, ?_⟩
        refine jWp.callv (as := [jO m, jI (-2)]) (rest := []) mt rfl rfl rfl ⟨rfl, jtg hW.K0⟩ ?_
        refine jCall.mono (E_refuses (w := w) (j := 2) hW (by decide) (by decide)) (fun v9 w9 h9 => ?_)
        obtain ⟨rfl, h9⟩ := h9
        subst h9
        show jWp 192 41 [some (jO m), some (jI d), some (jI a), none, none, none, none, none, none, none, none] [jI (-2)] 0 0 (jW w (m + 3) 2 ((w.1 (m + 3) 2) + 1)) _
        refine jWp.ireti mt rfl ⟨rfl, rfl⟩ rfl ?_
        refine ⟨fun c0 => ?_, fun c0 c1 => ?_, fun c0 c1 c2 => ?_, fun c0 c1 c2 => ?_⟩
        all_goals first
        | (exfalso; omega)
        | exact ⟨rfl, rfl⟩
    · have h2 : 4 < d := h2
      refine jWp.blk mt 2 ?_
      show _ ∧ jWp 192 19 [some (jO m), some (jI d), some (jI a), none, none, none, none, none, none, none, none] [jI (-6), jO m] 0 0 w _
      refine ⟨rfl, ?_⟩
      refine jWp.callv (as := [jO m, jI (-6)]) (rest := []) mt rfl rfl rfl ⟨rfl, jtg hW.K0⟩ ?_
      refine jCall.mono (E_refuses (w := w) (j := 6) hW (by decide) (by decide)) (fun v9 w9 h9 => ?_)
      obtain ⟨rfl, h9⟩ := h9
      subst h9
      show jWp 192 22 [some (jO m), some (jI d), some (jI a), none, none, none, none, none, none, none, none] [jI (-6)] 0 0 (jW w (m + 3) 6 ((w.1 (m + 3) 6) + 1)) _
      refine jWp.ireti mt rfl ⟨rfl, rfl⟩ rfl ?_
      refine ⟨fun c0 => ?_, fun c0 c1 => ?_, fun c0 c1 c2 => ?_, fun c0 c1 c2 => ?_⟩
      all_goals first
      | (exfalso; omega)
      | exact ⟨rfl, rfl⟩
  · have h1 : d < 0 := h1
    refine jWp.blk mt 2 ?_
    show _ ∧ jWp 192 7 [some (jO m), some (jI d), some (jI a), none, none, none, none, none, none, none, none] [jI (-4), jO m] 0 0 w _
    refine ⟨rfl, ?_⟩
    refine jWp.callv (as := [jO m, jI (-4)]) (rest := []) mt rfl rfl rfl ⟨rfl, jtg hW.K0⟩ ?_
    refine jCall.mono (E_refuses (w := w) (j := 4) hW (by decide) (by decide)) (fun v9 w9 h9 => ?_)
    obtain ⟨rfl, h9⟩ := h9
    subst h9
    show jWp 192 10 [some (jO m), some (jI d), some (jI a), none, none, none, none, none, none, none, none] [jI (-4)] 0 0 (jW w (m + 3) 4 ((w.1 (m + 3) 4) + 1)) _
    refine jWp.ireti mt rfl ⟨rfl, rfl⟩ rfl ?_
    refine ⟨fun c0 => ?_, fun c0 c1 => ?_, fun c0 c1 c2 => ?_, fun c0 c1 c2 => ?_⟩
    all_goals first
    | (exfalso; omega)
    | exact ⟨rfl, rfl⟩
