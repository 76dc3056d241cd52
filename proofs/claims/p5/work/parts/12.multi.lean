theorem jvr_outer (c : ClassId) (N h0 : Nat) : ∀ i : Nat, Jvm.Free.Multi.outerC c N h0 i = arrV c N (fun j => va_rf (if j < i then some (h0 + 1 + j) else none))
  | 0 => by
    show ({ cls := c, slots := Array.replicate N .null, vm := .none } : Cell) = _
    rw [arrV_new]
    refine congrArg (arrV c N) (funext fun j => ?_)
    simp [va_rf]
  | i + 1 => by
    show (Jvm.Free.Multi.outerC c N h0 i).setSlot i (.ref (h0 + 1 + i)) = _
    rw [jvr_outer c N h0 i, arrV_store]
    refine congrArg (arrV c N) (funext fun j => ?_)
    by_cases e : j = i
    · subst e
      simp [updV, va_rf]
    · by_cases h : j < i
      · simp [updV, e, h, Nat.lt_succ_of_lt h]
      · simp [updV, e, h, show ¬ j < i + 1 by omega]
theorem jGood_new2 {D : va_G} {cA : Nat → ClassId} {z0 ao n k : Nat} {w : jS} {H H1 : Heap} (hG : jGood D cA z0 ao w H) (hs : H1.size = H.size + 1 + n) (ho : ∀ q : Nat, q < H.size → H1[q]? = H[q]?)
    (h1 : H1[H.size]? = some (vp_cell (cA 5) (n, .inr (.inr (.inr (.inr (fun i => if i < n then some (H.size + 1 + i) else none)))))))
    (h2 : ∀ j, j < n → H1[H.size + 1 + j]? = some (vp_cell (cA 1) (k, .inr (.inl (fun _ => 0))))) : jGood D cA z0 ao (jnew2 w n k) H1 := by
  obtain ⟨g1, g2, g3, g4, g5, g6, g7, g8⟩ := hG
  rw [g1] at h1 h2 ho hs
  refine ⟨hs, by show z0 ≤ w.2.2.2.1 + 1 + n; omega, ?_, fun a ha => ?_, ?_, fun j => ?_, g7, g8⟩
  · intro i q hq
    obtain ⟨rfl, hi⟩ := jws_get hq
    have hi : i < w.2.2.2.1 + 1 + n - z0 := hi
    rcases Nat.lt_trichotomy (z0 + i) w.2.2.2.1 with hl | hl | hl
    · have hne : z0 + i ≠ w.2.2.2.1 := by omega
      have hn1 : ¬ (w.2.2.2.1 < z0 + i ∧ z0 + i ≤ w.2.2.2.1 + n) := by omega
      have hn2 : ¬ (w.2.2.2.1 ≤ z0 + i ∧ z0 + i ≤ w.2.2.2.1 + n) := by omega
      have e1 : jel cA (jnew2 w n k) (z0 + i) = jel cA w (z0 + i) := jel_congr (by simp only [jnew2]; rw [if_neg hne, if_neg hn1]) (fun j => by simp only [jnew2]; rw [if_neg hn2]) (fun j => by simp only [jnew2]; rw [if_neg hne, if_neg hn1])
      rw [e1]
      have h3 := jws_at (cA := cA) (w := w) (a := z0 + i) (z0 := z0) (by omega) (by omega)
      exact (g3 _ _ h3).kept (ho _ hl)
    · have hkd : (jnew2 w n k).2.1 (z0 + i) = (105, n) := by simp only [jnew2]; rw [if_pos hl]
      rw [jel_q (by rw [hkd]; show 102 ≤ 105; omega), hkd]
      show H1[z0 + i]? = _
      rw [hl, h1]
      congr 7
      funext j
      simp only [jnew2]
      rw [if_pos trivial]
    · have hkd : (jnew2 w n k).2.1 (z0 + i) = (101, k) := by simp only [jnew2]; rw [if_neg (by omega), if_pos (by omega)]
      rw [jel_l (by rw [hkd]), hkd]
      show H1[z0 + i]? = _
      rw [show z0 + i = w.2.2.2.1 + 1 + (z0 + i - w.2.2.2.1 - 1) by omega, h2 _ (by omega)]
      congr 5
      funext j
      simp only [jnew2]
      rw [if_pos (by omega)]
      rfl
  · by_cases e : w.2.2.2.1 ≤ a ∧ a ≤ w.2.2.2.1 + n
    · exact Or.inr ⟨by omega, by show a < w.2.2.2.1 + 1 + n; omega⟩
    · have : (w.2.1 a).1 ≠ 0 := by
        simp only [jnew2] at ha
        rw [if_neg (by omega), if_neg (by omega)] at ha
        exact ha
      rcases g4 a this with h | h
      · exact Or.inl h
      · exact Or.inr ⟨h.1, by show a < w.2.2.2.1 + 1 + n; omega⟩
  · simp only [jnew2]
    rw [if_neg (by omega), if_neg (by omega)]
    exact g5
  · simp only [jnew2]
    rw [if_neg (by omega)]
    exact g6 j
theorem jmul_in : Cond.classLink RX10 29 ("[" ++ (FieldType.array .long).toString) ∈ jWS := by
  have h : (decide (Cond.classLink RX10 29 ("[" ++ (FieldType.array .long).toString) ∈ lw_tbl) && goodWord (Cond.classLink RX10 29 ("[" ++ (FieldType.array .long).toString))) = true := by decide +kernel
  simp only [Bool.and_eq_true, decide_eq_true_eq] at h
  exact List.mem_filter.mpr h
section JMU
variable {p : Program} {l : Launch} {ev : Env} {R : Room} {s : State} {m : MethodId} {args : Array Value} {below : List Frame} {meth : Method} {c : Code} {H : Heap} {locs : List Loc} {cells slots : Nat} {Q : State → Prop}
variable {k : Nat} {D : va_G} {cA : Nat → ClassId} {z0 ao : Nat} {ls : Array Slot} {lc : jF} {st : List jV} {w : jS} {pc len r1 r2 r3 : Nat} {z : Int} {x y i : Int} {q v : Option Nat}
theorem j_mna {i d : Nat} (hC : jCtx k p R s m args meth c D cA z0 ao) (hG : jGood D cA z0 ao w H) (hS : va_S (fun q => z0 ≤ q) s.heap H locs) (hz : H.size = s.heap.size + cells) (hwf : jwf k (pc, .multianewarray i d, len, r1, r2, r3, z) = true) (hx0 : 0 ≤ b32 x ∧ b32 x ≤ 1000 ∧ 0 ≤ b32 y ∧ b32 y ≤ 1000) (hc : cells + (1 + (b32 x).toNat) ≤ jmc k) (hs : slots + ((b32 x).toNat + (b32 x).toNat * (b32 y).toNat) ≤ jms k)
    (kk : ∀ (H1 : Heap), jGood D cA z0 ao (jnew2 w (b32 x).toNat (b32 y).toNat) H1 → va_S (fun q => z0 ≤ q) s.heap H1 locs → H1.size = s.heap.size + (cells + 1 + (b32 x).toNat) → W p l ev R s m args below meth c H1 locs (cells + 1 + (b32 x).toNat) (slots + (b32 x).toNat + (b32 x).toNat * (b32 y).toNat) Q (F0 m (pc + len) ls (.ref w.2.2.2.1 :: st.map jg))) : W p l ev R s m args below meth c H locs cells slots Q (F0 m pc ls (.int (Int32.ofInt y) :: .int (Int32.ofInt x) :: st.map jg)) := by
  have hA := jA hC
  obtain ⟨hx, hb, -, -, -, hown, -, hts, rfl, hK, -⟩ := hC
  simp only [jwf, jlen, Bool.and_eq_true, decide_eq_true_eq, Nat.beq_eq, Nat.blt_eq] at hwf
  obtain ⟨⟨hd, rfl⟩, ⟨hw, rfl⟩, rfl⟩ := hwf
  rw [hw] at hown
  have hover : (Cond.arrayOver (.array .long)).before args s = true := by
    have := hK.2.2.2.2.2
    simp only [Cond.before, Cond.holds, Cond.value] at this ⊢
    exact this
  intro T hT Xs
  have e1 : (Int32.ofInt x).toNatClampNeg = (b32 x).toNat := j32_cl x
  have e2 : (Int32.ofInt y).toNatClampNeg = (b32 y).toNat := j32_cl y
  obtain ⟨vm₁, c5, comp, -, fA, fC, hO, -, X', step⟩ := Xs.multianewarray2F hx (own := RX10) (ty := .long) hown (hts _ jmul_in) hover (hts _ jarr_in.2) (g := F0 m pc ls (.int (Int32.ofInt y) :: .int (Int32.ofInt x) :: st.map jg)) rfl (by rw [hb]; exact hd) rfl (j32_neg0 hx0.1) (j32_neg0 hx0.2.2.1) (by rw [e1]; omega) (by rw [e2]; show (b32 y).toNat * 8 ≤ _; omega) (by rw [e2]; omega) rfl rfl (by rw [e1]; exact hc) (by rw [e1, e2]; exact hs)
  rw [e1, e2] at X' step
  have hc5 : c5 = cA 5 := by
    have b : s.vm.findClass ("[" ++ (FieldType.array .long).toString) = some (cA 5) := (hK.1.2 5 _ rfl).2
    exact Option.some.inj (fA.symm.trans b)
  have hc1 : comp = cA 1 := by
    have b : s.vm.findClass ("[" ++ FieldType.long.toString) = some (cA 1) := (hK.1.2 1 _ rfl).2
    exact Option.some.inj (fC.symm.trans b)
  subst hc5
  subst hc1
  generalize hF : Jvm.Free.Multi.fill (T.setVm vm₁) (cA 5) (cA 1) (b32 x).toNat (b32 y).toNat (defaultValue .long) (b32 x).toNat = F at X' step
  have hTh : (T.setVm vm₁).heap = H := hT
  obtain ⟨f1, f2, -, -⟩ := Jvm.Free.Multi.fill_facts (T.setVm vm₁) (cA 5) (cA 1) (b32 x).toNat (b32 y).toNat (defaultValue .long) (b32 x).toNat
  rw [hF, hTh] at f1 f2
  have hold : ∀ q : Nat, q < H.size → F.heap[q]? = H[q]? := fun q hq => by
    have := Jvm.Free.Multi.fill_old (T.setVm vm₁) (cA 5) (cA 1) (b32 x).toNat (b32 y).toNat (defaultValue .long) (a := q) (by rw [hTh]; exact hq) (b32 x).toNat
    rw [hF, hTh] at this
    exact this
  have hrow : ∀ j : Nat, j < (b32 x).toNat → F.heap[H.size + 1 + j]? = some (vp_cell (cA 1) ((b32 y).toNat, .inr (.inl (fun _ => 0)))) := fun j hj => by
    have := Jvm.Free.Multi.fill_inner (T.setVm vm₁) (cA 5) (cA 1) (b32 x).toNat (b32 y).toNat (defaultValue .long) (b32 x).toNat j hj
    rw [hF, hTh] at this
    rw [this, vp_cell_l, ← arrV_new]
    rfl
  rw [jvr_outer] at f2
  have hGn := jGood_new2 hG f1 hold f2 hrow
  rw [hT, hG.1] at step
  obtain ⟨t, a1, b1⟩ := kk F.heap hGn ⟨by have := hS.1; omega, fun q h1 h2 => (hold q (Nat.lt_of_lt_of_le h1 hS.1)).trans (hS.2.1 q h1 h2), hS.2.2⟩ (by omega) F rfl X'
  exact ⟨t, step t a1, b1⟩
end JMU
