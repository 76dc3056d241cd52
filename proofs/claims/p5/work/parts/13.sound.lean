theorem jlay_sl : ∀ as : List jV, (lg_sl (as.map jg)).length = (jlay as).length
  | [] => rfl
  | v :: r => by
    have ih := jlay_sl r
    have hc := jcat_g v
    unfold lg_sl at ih ⊢
    rw [List.map_cons, List.flatMap_cons, List.length_append, ih]
    by_cases h : jcat v = 2
    · rw [if_pos (hc.trans h)]
      simp [jlay, (jlong_cat v).mpr h]
      omega
    · rw [if_neg (fun q => h (hc.symm.trans q))]
      have : jlong (some v) = false := by
        rw [Bool.eq_false_iff]
        exact fun q => h ((jlong_cat v).mp q)
      simp [jlay, this]
      omega
theorem jget_rep (n : Nat) : ∀ (i : Nat), jget (List.replicate n none) i = none := by
  induction n with
  | zero => intro i; simp [jget]
  | succ n ih =>
    intro i
    cases i with
    | zero => simp [List.replicate_succ, jget]
    | succ i => rw [List.replicate_succ]; exact ih i
theorem jlay_get (R : jF) (hR : ∀ i, jget R i = none) : ∀ (as : List jV) (b i : Nat) (v : jV), jget (jlay as ++ R) i = some v → (b + i, jg v) ∈ lv_args b (as.map jg)
  | [], b, i, v, h => by
    rw [show jlay [] ++ R = R from rfl, hR] at h
    cases h
  | u :: r, b, 0, v, h => by
    have : some u = some v := h
    cases this
    exact List.mem_cons_self
  | u :: r, b, i + 1, v, h => by
    rw [List.map_cons]
    unfold lv_args
    refine List.mem_cons_of_mem _ ?_
    by_cases hl : jlong (some u) = true
    · rw [if_pos ((jcat_g u).trans ((jlong_cat u).mp hl))]
      have h2 : jget (none :: (jlay r ++ R)) i = some v := by simpa [jlay, hl, jget] using h
      cases i with
      | zero => simp [jget] at h2
      | succ i =>
        have h3 := jlay_get R hR r (b + 2) i v h2
        rw [show b + (i + 1 + 1) = b + 2 + i by omega]
        exact h3
    · have hl2 : jlong (some u) = false := by rw [Bool.eq_false_iff]; exact hl
      rw [if_neg (fun q => hl ((jlong_cat u).mpr ((jcat_g u).symm.trans q)))]
      have h2 : jget (jlay r ++ R) i = some v := by simpa [jlay, hl2, jget] using h
      have h3 := jlay_get R hR r (b + 1) i v h2
      rw [show b + (i + 1) = b + 1 + i by omega]
      exact h3
theorem jls_entry {n : Nat} {as : List jV} {ls : Array Slot} (h : lv_has ls n (lv_args 0 (as.map jg))) : jls ls n (jent n as) := by
  refine ⟨h.1, h.2.1, fun i v hv => ?_⟩
  have h2 := jlay_get _ (jget_rep _) as 0 i v hv
  rw [Nat.zero_add] at h2
  exact h.2.2 _ h2
def jwsk (k : Nat) : List Jvm.Cond := Cond.code (jY k) (jcode k) (jmaxL k) (jret k) :: jWS
theorem jwsk_good {k : Nat} (hk : k < 221) : GoodIn jWS (jwsk k) := fun w hw => by
  rcases List.mem_cons.mp hw with rfl | h
  · exact jWS_good _ (jMW_at hk).1
  · exact jWS_good _ h
theorem jini_dec : (List.range 221).all (fun k => (!(Nat.beq (jkd k) 2) || Nat.beq (jrc k) 0) && jCW.any (fun q => Nat.beq q.1 (jown k)) && (!(Nat.beq (jkd k) 0) || (Nat.blt 0 (jtag (jown k)) && Nat.ble (jtag (jown k)) 10 && decide (jFR (jtag (jown k) - 1) = jCn (jown k))))) = true := by decide +kernel
theorem jini_at {k : Nat} (hk : k < 221) : (jkd k = 2 → jret k = none) ∧ Cond.initialized (jCn (jown k)) ∈ jWS ∧ (jkd k = 0 → 0 < jtag (jown k) ∧ jtag (jown k) ≤ 10 ∧ jFR (jtag (jown k) - 1) = jCn (jown k)) := by
  have h1 := List.all_eq_true.mp jini_dec k (List.mem_range.mpr hk)
  simp only [Bool.and_eq_true, Bool.or_eq_true, Bool.not_eq_true', Nat.beq_eq, Nat.blt_eq, Nat.ble_eq, decide_eq_true_eq] at h1
  obtain ⟨⟨a, b⟩, c⟩ := h1
  refine ⟨fun e => ?_, ?_, fun e => ?_⟩
  · rcases a with a | a
    · rw [e] at a; cases a
    · unfold jret; rw [a]; rfl
  · obtain ⟨q, hq, h2⟩ := List.any_eq_true.mp b
    have h3 := List.all_eq_true.mp jCW_ok q hq
    rw [Nat.beq_eq.mp h2] at h3
    exact jwd_in h3
  · rcases c with c | c
    · rw [e] at c; cases c
    · exact ⟨c.1.1, c.1.2, c.2⟩
def jPc (D : va_G) (cA : Nat → ClassId) (z0 ao : Nat) (as : List jV) (w : jS) : Array Value → State → Prop := va_Pc (as.map jg) (jB D cA z0 ao w)
theorem jPc_blind {D : va_G} {cA : Nat → ClassId} {z0 ao : Nat} {as : List jV} {w : jS} : FrameBlind (jPc D cA z0 ao as w) := by
  intro a U g mk h
  obtain ⟨h1, h2, h3, h4⟩ := h
  exact ⟨h1, h2, jK.same (s := U) (U := U.calling g mk a) rfl rfl h3, h4⟩
/-- what is to be shown of so many steps -/
def jSnd (l : Launch) (D : va_G) (cA : Nat → ClassId) (z0 ao : Nat) (n : Nat) : Prop :=
  ∀ (k pc : Nat) (lc : jF) (st : List jV) (cells slots : Nat) (w : jS) (v : Option jV) (w' : jS), k < 221 → jrun n k pc lc st cells slots w = some (v, w') →
    ∀ {p : Program} {ev : Env} {R : Room} {s : State} {m : MethodId} {args : Array Value} {below : List Frame} {meth : Method} {c : Code} {H : Heap} {locs : List Loc} {ls : Array Slot},
      jCtx k p R s m args meth c D cA z0 ao → jGood D cA z0 ao w H → va_S (fun q => z0 ≤ q) s.heap H locs → H.size = s.heap.size + cells → cells ≤ jmc k ∧ slots ≤ jms k → jls ls (jmaxL k) lc →
        W p l ev R s m args below meth c H locs cells slots (MQ below (jQ D cA z0 ao v w' (jmc k)) args s (jmc k) (jms k) (fun q => z0 ≤ q)) (F0 m pc ls (st.map jg))
theorem jmet {l : Launch} {D : va_G} {cA : Nat → ClassId} {z0 ao n k : Nat} {as : List jV} {w w' : jS} {v : Option jV} (h : jSnd l D cA z0 ao n) (hk : k < 221) (hr : jrun n k 0 (jent (jmaxL k) as) [] 0 0 w = some (v, w')) (hl : (jlay as).length ≤ jmaxL k) :
    Met l (jY k) (jwsk k) (jrm k) (jPc D cA z0 ao as w) (jQ D cA z0 ao v w' (jmc k)) (jmc k) (jms k) (fun q => z0 ≤ q) := by
  obtain ⟨n1, n2, n3, n4, n5, n6⟩ := jnok_at hk
  refine Met.ofW (cc := jcode k) (maxL := jmaxL k) (ret := jret k) n1 rfl ?_
  intro p e s m args below meth c s₁ B hml hv
  obtain ⟨rfl, hG, hK, hz⟩ := hv
  have hts := atoms_spec (ws := jwsk k) B.pre
  have hown : s.vm.findClass (jCn (jown k)) = some m.cls := n2 ▸ findClass_of_methodNamed B.named
  have hl2 := lv_entry (as.map jg) (n := jmaxL k) (by rw [jlay_sl]; exact hl)
  rw [lg_entry_eq]
  generalize (lg_sl (as.map jg) ++ List.replicate (jmaxL k - (lg_sl (as.map jg)).length) Slot.unset).toArray = ls at hl2 ⊢
  exact h k 0 _ [] 0 0 w v w' hk hr ⟨B.exec, B.bytes, hml, B.returns, B.notSynchronized, hown, fun e => (name_of_methodNamed B.named B.method).1.trans (n6 e), fun w hw => hts w (List.mem_cons_of_mem _ hw), rfl, hK, hz⟩ hG va_S.rf rfl ⟨Nat.zero_le _, Nat.zero_le _⟩ (jls_entry hl2)
theorem jtake_ok : ∀ (n : Nat) (acc st as rest : List jV), jtake n acc st = some (as, rest) → ∃ ts : List jV, ts.length = n ∧ as = ts ++ acc ∧ st = ts.reverse ++ rest
  | 0, acc, st, as, rest, h => by
    have : some (acc, st) = some (as, rest) := h
    cases this
    exact ⟨[], rfl, rfl, rfl⟩
  | n + 1, acc, [], as, rest, h => by cases h
  | n + 1, acc, v :: st, as, rest, h => by
    obtain ⟨ts, h1, h2, h3⟩ := jtake_ok n (v :: acc) st as rest h
    refine ⟨ts ++ [v], by simp [h1], by simp [h2], by simp [h3]⟩
theorem jrm_room {k k' : Nat} (h1 : jfr k' + 1 ≤ jfr k) (h2 : 8 + (jmaxL k' + 11) + jlo k' ≤ jlo k) : (jrm k').frames + 1 ≤ (jrm k).frames ∧ 8 + (jmaxL k' + 11) + (jrm k').locals ≤ (jrm k).locals := ⟨h1, h2⟩
section JCA
variable {p : Program} {l : Launch} {ev : Env} {R : Room} {s : State} {m : MethodId} {args : Array Value} {below : List Frame} {meth : Method} {c : Code} {H : Heap} {locs : List Loc} {cells slots : Nat} {Q : State → Prop}
variable {k k' : Nat} {D : va_G} {cA : Nat → ClassId} {z0 ao : Nat} {ls : Array Slot} {lc : jF} {st : List jV} {w : jS} {pc len r1 r2 r3 : Nat} {z : Int} {x y i : Int} {q v : Option Nat}
theorem jPre (hC : jCtx k p R s m args meth c D cA z0 ao) (hG : jGood D cA z0 ao w H) (hS : va_S (fun q => z0 ≤ q) s.heap H locs) (as : List jV) : ∀ U : State, U.heap = H → s.WarmedH U.vm → jPc D cA z0 ao as w (as.map jg).toArray U := by
  obtain ⟨-, -, -, -, -, -, -, -, -, hK, hz⟩ := hC
  intro U hU hW
  exact ⟨rfl, by rw [hU]; exact hG, jK.moved hW hU hS.2.1 hK, by rw [hU]; exact Nat.le_trans hz hS.1⟩
theorem jcell (hC : jCtx k p R s m args meth c D cA z0 ao) (hG : jGood D cA z0 ao w H) {a t : Nat} (ht0 : 0 < t) (ht : t ≤ 10) (ha : (w.2.1 a).1 = t) : ∃ cell : Cell, H[a]? = some cell ∧ cell.vm.isStatics = false ∧ s.vm.findClass (jFR (t - 1)) = some cell.cls := by
  obtain ⟨-, -, -, -, -, -, -, -, -, hK, -⟩ := hC
  have hat := jGood_at hG (a := a) (by omega) (by omega)
  rw [jel_o (ci := t - 1) (by omega) (by omega)] at hat
  exact va_recv hK.1 hG.2.2.1 (jcl_at (by omega)) hat
theorem j_virt {i : Nat} {as rest : List jV} {v1 : Option jV} {w1 : jS} (hC : jCtx k p R s m args meth c D cA z0 ao) (hG : jGood D cA z0 ao w H) (hS : va_S (fun q => z0 ≤ q) s.heap H locs) (hz : H.size = s.heap.size + cells) (hls : ls.size = jmaxL k) (hd : decode (jcode k) pc = .ok (.invokevirtual i, 3)) (hlk : jhas3 jML (jown k) i k' = true ∨ jhas3 jMN (jown k) i k' = true) (hw : jwcall k k' 0 r2 = true)
    (htk : jtake (r2 + 1) [] st = some (as, rest)) (hb1 : cells + jmc k' ≤ jmc k) (hb2 : slots + jms k' ≤ jms k) (h8 : jcats rest ≤ 8) (hrec : jrecv k' as w) (hM : Met l (jY k') (jwsk k') (jrm k') (jPc D cA z0 ao as w) (jQ D cA z0 ao v1 w1 (jmc k')) (jmc k') (jms k') (fun q => z0 ≤ q))
    (kk : ∀ (H1 : Heap) (locs1 : List Loc), jGood D cA z0 ao w1 H1 → va_S (fun q => z0 ≤ q) s.heap H1 locs1 → H1.size = s.heap.size + (cells + jmc k') → W p l ev R s m args below meth c H1 locs1 (cells + jmc k') (slots + jms k') Q (F0 m (pc + 3) ls ((v1.toList ++ rest).map jg))) : W p l ev R s m args below meth c H locs cells slots Q (F0 m pc ls (st.map jg)) := by
  have hC0 := hC
  obtain ⟨hx, hb, hml, -, -, hown, -, hts, rfl, hK, -⟩ := hC
  simp only [jwcall, Bool.and_eq_true, Nat.blt_eq, Nat.beq_eq, Nat.ble_eq] at hw
  obtain ⟨⟨⟨⟨hk', hkd⟩, hna⟩, hf1⟩, hf2⟩ := hw
  obtain ⟨n1, n2, n3, n4, n5, n6⟩ := jnok_at hk'
  obtain ⟨m1, m2, m3, m4⟩ := jMW_at hk'
  obtain ⟨i1, i2, i3⟩ := jini_at hk'
  obtain ⟨t0, t1, t2⟩ := i3 hkd
  obtain ⟨ts, e1, e2, e3⟩ := jtake_ok _ _ _ _ _ htk
  rw [List.append_nil] at e2
  subst e2
  match as, hrec, e1, e3, hM with
  | .inr (.inr qo) :: bs, hrec, e1, e3, hM =>
    obtain ⟨a, rfl⟩ : ∃ a, qo = some a := ⟨_, jrf_some hrec.1⟩
    have hcell := jcell hC0 hG t0 t1 hrec.2
    rw [t2] at hcell
    have hstk : st.map jg = (bs.map jg).reverse ++ .ref a :: rest.map jg := by
      rw [e3]
      simp [jg, va_rf]
    have hlen : (bs.map jg).length = r2 := by simpa using e1
    have hd3 : (jY k').cls = jCn (jown k') ∧ (jY k').cls ≠ "java/lang/invoke/MethodHandle" ∧ (jY k').cls ≠ "java/lang/invoke/VarHandle" ∧ (parseMethodDescriptor (jY k').desc).map (fun d => d.parameters.length) = some r2 := ⟨n2, n3, n4, by rw [n5, hna]⟩
    refine j_call (rest := rest) (a := (Value.ref a :: bs.map jg).toArray) (v1 := v1) (w1 := w1) (mc := jmc k') (ms := jms k') (D := D) (cA := cA) (z0 := z0) (ao := ao) ?_ hS hz kk
    rcases hlk with h | h
    · have hT : GoodIn jWS (wsV (jCn (jown k)) i (jCn (jown k')) (jY k') (jwsk k')) := fun x hx => by
        unfold wsV at hx
        rcases List.mem_append.mp hx with h5 | h5
        · simp only [List.mem_cons, List.not_mem_nil, or_false] at h5
          rcases h5 with rfl | rfl | rfl | rfl
          · exact jWS_good _ (jlk_ML h)
          · exact jWS_good _ (m3 (by omega))
          · exact jWS_good _ (m4 hkd)
          · exact jWS_good _ i2
        · exact jwsk_good hk' _ h5
      exact va_runV (C := jCn (jown k')) (b := a) (As := bs.map jg) ⟨hx, hb, hml, hown, hts⟩ hM (cwV r2 hts hT rfl rfl rfl hd3 (jrm_room hf1 hf2)) ⟨jPc_blind, hcell, fun U hU hW => jPre hC0 hG hS _ U hU hW⟩ rfl hlen hls hstk (by rw [jsum]; show 2 * 0 + _ ≤ 8; omega) hd ⟨hb1, hb2⟩
    · exact va_runVN (C := jCn (jown k')) (b := a) (As := bs.map jg) (host := RX9) ⟨hx, hb, hml, hown, hts⟩ hM ⟨va_cnB r2 hts (jwsk_good hk') rfl rfl rfl (hK.2.2.2.1 _ (jlk_MN h)) (by rw [n2]; exact hts _ i2) ⟨n3, n4, by rw [n5, hna]⟩ (jrm_room hf1 hf2), hts _ (m3 (by omega)), hts _ (m4 hkd)⟩ ⟨jPc_blind, hcell, fun U hU hW => jPre hC0 hG hS _ U hU hW⟩ rfl hlen hls hstk (by rw [jsum]; show 2 * 0 + _ ≤ 8; omega) hd ⟨hb1, hb2⟩
theorem j_stat {i : Nat} {as rest : List jV} {v1 : Option jV} {w1 : jS} (hC : jCtx k p R s m args meth c D cA z0 ao) (hG : jGood D cA z0 ao w H) (hS : va_S (fun q => z0 ≤ q) s.heap H locs) (hz : H.size = s.heap.size + cells) (hls : ls.size = jmaxL k) (hd : decode (jcode k) pc = .ok (.invokestatic i, 3)) (hlk : jhas3 jML (jown k) i k' = true ∨ jhas3 jMN (jown k) i k' = true) (hw : jwcall k k' 1 r2 = true)
    (htk : jtake r2 [] st = some (as, rest)) (hb1 : cells + jmc k' ≤ jmc k) (hb2 : slots + jms k' ≤ jms k) (h8 : jcats rest ≤ 8) (hM : Met l (jY k') (jwsk k') (jrm k') (jPc D cA z0 ao as w) (jQ D cA z0 ao v1 w1 (jmc k')) (jmc k') (jms k') (fun q => z0 ≤ q))
    (kk : ∀ (H1 : Heap) (locs1 : List Loc), jGood D cA z0 ao w1 H1 → va_S (fun q => z0 ≤ q) s.heap H1 locs1 → H1.size = s.heap.size + (cells + jmc k') → W p l ev R s m args below meth c H1 locs1 (cells + jmc k') (slots + jms k') Q (F0 m (pc + 3) ls ((v1.toList ++ rest).map jg))) : W p l ev R s m args below meth c H locs cells slots Q (F0 m pc ls (st.map jg)) := by
  have hC0 := hC
  obtain ⟨hx, hb, hml, -, -, hown, -, hts, rfl, hK, -⟩ := hC
  simp only [jwcall, Bool.and_eq_true, Nat.blt_eq, Nat.beq_eq, Nat.ble_eq] at hw
  obtain ⟨⟨⟨⟨hk', hkd⟩, hna⟩, hf1⟩, hf2⟩ := hw
  obtain ⟨n1, n2, n3, n4, n5, n6⟩ := jnok_at hk'
  obtain ⟨m1, m2, m3, m4⟩ := jMW_at hk'
  obtain ⟨i1, i2, i3⟩ := jini_at hk'
  obtain ⟨ts, e1, e2, e3⟩ := jtake_ok _ _ _ _ _ htk
  rw [List.append_nil] at e2
  subst e2
  have hstk : st.map jg = (as.map jg).reverse ++ rest.map jg := by
    rw [e3]
    simp
  have hlen : (as.map jg).length = r2 := by simpa using e1
  refine j_call (rest := rest) (a := (as.map jg).toArray) (v1 := v1) (w1 := w1) (mc := jmc k') (ms := jms k') (D := D) (cA := cA) (z0 := z0) (ao := ao) ?_ hS hz kk
  rcases hlk with h | h
  · have hT : GoodIn jWS (va_wsS (jCn (jown k)) i (jY k') (jwsk k')) := fun x hx => by
      unfold va_wsS at hx
      rcases List.mem_append.mp hx with h5 | h5
      · simp only [List.mem_cons, List.not_mem_nil, or_false] at h5
        rcases h5 with rfl | rfl | rfl
        · exact jWS_good _ (jlk_ML h)
        · exact jWS_good _ (m2 hkd)
        · rw [n2]; exact jWS_good _ i2
      · exact jwsk_good hk' _ h5
    exact va_runS (As := as.map jg) ⟨hx, hb, hml, hown, hts⟩ hM (va_cwS r2 hts hT rfl rfl rfl ⟨n3, n4, by rw [n5, hna]⟩ (jrm_room hf1 hf2)) ⟨jPc_blind, fun U hU hW => jPre hC0 hG hS _ U hU hW⟩ rfl hlen hls hstk (by rw [jsum]; show 2 * 0 + _ ≤ 8; omega) hd ⟨hb1, hb2⟩
  · exact va_runSN (As := as.map jg) (host := RX9) ⟨hx, hb, hml, hown, hts⟩ hM ⟨va_cnB r2 hts (jwsk_good hk') rfl rfl rfl (hK.2.2.2.1 _ (jlk_MN h)) (by rw [n2]; exact hts _ i2) ⟨n3, n4, by rw [n5, hna]⟩ (jrm_room hf1 hf2), hts _ (m2 hkd), trivial⟩ ⟨jPc_blind, fun U hU hW => jPre hC0 hG hS _ U hU hW⟩ rfl hlen hls hstk (by rw [jsum]; show 2 * 0 + _ ≤ 8; omega) hd ⟨hb1, hb2⟩
theorem j_spec {i : Nat} {as rest : List jV} {v1 : Option jV} {w1 : jS} (hC : jCtx k p R s m args meth c D cA z0 ao) (hG : jGood D cA z0 ao w H) (hS : va_S (fun q => z0 ≤ q) s.heap H locs) (hz : H.size = s.heap.size + cells) (hls : ls.size = jmaxL k) (hd : decode (jcode k) pc = .ok (.invokespecial i, 3)) (hlk : jhas3 jML (jown k) i k' = true ∨ jhas3 jMN (jown k) i k' = true) (hw : jwcall k k' 2 r2 = true)
    (htk : jtake (r2 + 1) [] st = some (as, rest)) (hb1 : cells + jmc k' ≤ jmc k) (hb2 : slots + jms k' ≤ jms k) (h8 : jcats rest ≤ 8) (hrec : jrecv k' as w) (hM : Met l (jY k') (jwsk k') (jrm k') (jPc D cA z0 ao as w) (jQ D cA z0 ao v1 w1 (jmc k')) (jmc k') (jms k') (fun q => z0 ≤ q))
    (kk : ∀ (H1 : Heap) (locs1 : List Loc), jGood D cA z0 ao w1 H1 → va_S (fun q => z0 ≤ q) s.heap H1 locs1 → H1.size = s.heap.size + (cells + jmc k') → W p l ev R s m args below meth c H1 locs1 (cells + jmc k') (slots + jms k') Q (F0 m (pc + 3) ls ((v1.toList ++ rest).map jg))) : W p l ev R s m args below meth c H locs cells slots Q (F0 m pc ls (st.map jg)) := by
  have hC0 := hC
  obtain ⟨hx, hb, hml, -, -, hown, -, hts, rfl, hK, -⟩ := hC
  simp only [jwcall, Bool.and_eq_true, Nat.blt_eq, Nat.beq_eq, Nat.ble_eq] at hw
  obtain ⟨⟨⟨⟨hk', hkd⟩, hna⟩, hf1⟩, hf2⟩ := hw
  obtain ⟨n1, n2, n3, n4, n5, n6⟩ := jnok_at hk'
  obtain ⟨m1, m2, m3, m4⟩ := jMW_at hk'
  obtain ⟨i1, i2, i3⟩ := jini_at hk'
  obtain ⟨ts, e1, e2, e3⟩ := jtake_ok _ _ _ _ _ htk
  rw [List.append_nil] at e2
  subst e2
  have hret := i1 hkd
  have hws : jwsk k' = Cond.code (jY k') (jcode k') (jmaxL k') none :: jWS := by unfold jwsk; rw [hret]
  match as, hrec, e1, e3, hM with
  | .inr (.inr qo) :: bs, hrec, e1, e3, hM =>
    obtain ⟨a, rfl⟩ : ∃ a, qo = some a := ⟨_, jrf_some hrec.1⟩
    have hstk : st.map jg = (bs.map jg).reverse ++ .ref a :: rest.map jg := by
      rw [e3]
      simp [jg, va_rf]
    have hlen : (bs.map jg).length = r2 := by simpa using e1
    refine j_call (rest := rest) (a := (Value.ref a :: bs.map jg).toArray) (v1 := v1) (w1 := w1) (mc := jmc k') (ms := jms k') (D := D) (cA := cA) (z0 := z0) (ao := ao) ?_ hS hz kk
    rcases hlk with h | h
    · exact va_runI (b := a) (As := bs.map jg) ⟨hx, hb, hml, hown, hts⟩ hM (cwI r2 hts (jwsk_good hk') hws rfl rfl (by rw [n2]; exact hts _ i2) (hts _ (jlk_ML h)) (hts _ (m3 (by omega))) (n6 hkd) ⟨n3, n4, by rw [n5, hna]⟩ (jrm_room hf1 hf2)) ⟨jPc_blind, fun U hU hW => jPre hC0 hG hS _ U hU hW⟩ rfl hlen hls hstk (by rw [jsum]; show 2 * 0 + _ ≤ 8; omega) hd ⟨hb1, hb2⟩
    · exact va_runIN (b := a) (As := bs.map jg) (host := RX9) ⟨hx, hb, hml, hown, hts⟩ hM ⟨va_cnB r2 hts (jwsk_good hk') hws rfl rfl (hK.2.2.2.1 _ (jlk_MN h)) (by rw [n2]; exact hts _ i2) ⟨n3, n4, by rw [n5, hna]⟩ (jrm_room hf1 hf2), n6 hkd, hts _ (m3 (by omega))⟩ ⟨jPc_blind, fun U hU hW => jPre hC0 hG hS _ U hU hW⟩ rfl hlen hls hstk (by rw [jsum]; show 2 * 0 + _ ≤ 8; omega) hd ⟨hb1, hb2⟩
end JCA
