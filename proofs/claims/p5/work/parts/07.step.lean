def jCtx (k : Nat) (p : Program) (R : Room) (s : State) (m : MethodId) (args : Array Value) (meth : Method) (c : Code) (D : va_G) (cA : Nat → ClassId) (z0 ao : Nat) : Prop :=
  p.tables.exec = Jvm.exec ∧ c.code = jcode k ∧ c.maxLocals = jmaxL k ∧ meth.sig.returnType = jret k ∧ meth.locks = false ∧ s.vm.findClass (jCn (jown k)) = some m.cls ∧ (jkd k = 2 → meth.name = "<init>") ∧ (∀ w ∈ jWS, w.before args s = true) ∧ R = jrm k ∧ jK D cA z0 ao s ∧ z0 ≤ s.heap.size
theorem jGood_in {D : va_G} {cA : Nat → ClassId} {z0 ao : Nat} {w : jS} {H : Heap} (h : jGood D cA z0 ao w H) {a : Nat} (h1 : (w.2.1 a).1 ≠ 0) (h2 : (w.2.1 a).1 ≠ 99) : z0 ≤ a ∧ a < w.2.2.2.1 := by
  obtain ⟨-, -, -, hv, ho, -⟩ := h
  rcases hv a h1 with rfl | q
  · rw [ho] at h2
    exact absurd rfl h2
  · exact q
theorem jGood_at {D : va_G} {cA : Nat → ClassId} {z0 ao : Nat} {w : jS} {H : Heap} (h : jGood D cA z0 ao w H) {a : Nat} (h1 : (w.2.1 a).1 ≠ 0) (h2 : (w.2.1 a).1 ≠ 99) : (jws cA z0 w)[a - z0]? = some (a, jel cA w a) :=
  jws_at (jGood_in h h1 h2).1 (jGood_in h h1 h2).2
/-- the world after a write of numbers -/
theorem jGood_up {D : va_G} {cA : Nat → ClassId} {z0 ao : Nat} {w : jS} {H H1 : Heap} (h : jGood D cA z0 ao w H) {a k : Nat} {x : Int} {e' : va_E} (h1 : (w.2.1 a).1 ≠ 0) (h2 : (w.2.1 a).1 ≠ 99) (he : jel cA (jup w.1 a k x, w.2) a = e') (hs : H1.size = H.size) (hP : va_P D vwCl ((jws cA z0 w).set (a - z0) (a, e')) H1) : jGood D cA z0 ao (jup w.1 a k x, w.2) H1 := by
  have hi := jGood_in h h1 h2
  rw [jws_set (w' := (jup w.1 a k x, w.2)) hi.1 hi.2 rfl (fun b hb => jel_congr rfl (fun j => by simp [jup, hb]) (fun j => rfl)) he] at hP
  obtain ⟨g1, g2, g3, g4, g5, g6, g7, g8⟩ := h
  refine ⟨hs.trans g1, g2, hP, g4, g5, fun j => ?_, g7, g8⟩
  show jup w.1 a k x ao j = _
  have : ao ≠ a := by omega
  simp [jup, this, g6]
theorem jGood_upr {D : va_G} {cA : Nat → ClassId} {z0 ao : Nat} {w : jS} {H H1 : Heap} (h : jGood D cA z0 ao w H) {a k : Nat} {x : Option Nat} {e' : va_E} (h1 : (w.2.1 a).1 ≠ 0) (h2 : (w.2.1 a).1 ≠ 99) (he : jel cA (w.1, w.2.1, jupr w.2.2.1 a k x, w.2.2.2) a = e') (hs : H1.size = H.size) (hP : va_P D vwCl ((jws cA z0 w).set (a - z0) (a, e')) H1) : jGood D cA z0 ao (w.1, w.2.1, jupr w.2.2.1 a k x, w.2.2.2) H1 := by
  have hi := jGood_in h h1 h2
  rw [jws_set (w' := (w.1, w.2.1, jupr w.2.2.1 a k x, w.2.2.2)) hi.1 hi.2 rfl (fun b hb => jel_congr rfl (fun j => rfl) (fun j => by simp [jupr, hb])) he] at hP
  obtain ⟨g1, g2, g3, g4, g5, g6, g7, g8⟩ := h
  exact ⟨hs.trans g1, g2, hP, g4, g5, g6, g7, g8⟩
theorem jrf_some {q : Option Nat} (h : q.isSome = true) : q = some (jdr q) := by
  cases q with
  | none => cases h
  | some a => rfl
theorem jsum (r : List jV) : ((r.map jg).map fun v => v.category).sum = jcats r := by
  unfold jcats
  rw [List.map_map]
  congr 1
  apply List.map_congr_left
  intro v _
  exact jcat_g v
theorem jfs_len (ci : Nat) (w : jS) (a : Nat) : (jfs ci w a).length = jFN ci := by simp [jfs]
theorem jfs_set {ci k : Nat} {w : jS} {a : Nat} {x : Int} (hk : k < jFN ci) (hx : jtyc (jFy ci k) ≠ 2) : jfs ci (jup w.1 a k x, w.2) a = (jfs ci w a).set k (jg (match jtyc (jFy ci k) with | 1 => .inr (.inl x) | _ => .inl x)) := by
  apply List.ext_getElem?
  intro i
  rw [List.getElem?_set]
  by_cases hi : k = i
  · subst hi
    rw [if_pos rfl, if_pos (by rw [jfs_len]; exact hk), jfs_at hk]
    unfold jfv
    rcases ht : jtyc (jFy ci k) with _ | _ | _ | _ <;> simp_all [jup]
  · rw [if_neg hi]
    by_cases hl : i < jFN ci
    · rw [jfs_at hl, jfs_at hl]
      have hi2 : ¬ i = k := fun q => hi q.symm
      unfold jfv
      rcases ht : jtyc (jFy ci i) with _ | _ | _ | _ <;> simp [jup, hi2]
    · rw [List.getElem?_eq_none (by rw [jfs_len]; omega), List.getElem?_eq_none (by rw [jfs_len]; omega)]
theorem jfs_setr {ci k : Nat} {w : jS} {a : Nat} {v : Option Nat} (hk : k < jFN ci) (hx : jtyc (jFy ci k) = 2) : jfs ci (w.1, w.2.1, jupr w.2.2.1 a k v, w.2.2.2) a = (jfs ci w a).set k (va_rf v) := by
  apply List.ext_getElem?
  intro i
  rw [List.getElem?_set]
  by_cases hi : k = i
  · subst hi
    rw [if_pos rfl, if_pos (by rw [jfs_len]; exact hk), jfs_at hk]
    unfold jfv
    rw [hx]
    simp [jupr, jg]
  · rw [if_neg hi]
    by_cases hl : i < jFN ci
    · rw [jfs_at hl, jfs_at hl]
      have hi2 : ¬ i = k := fun q => hi q.symm
      unfold jfv
      rcases ht : jtyc (jFy ci i) with _ | _ | _ | _ <;> simp [jupr, hi2]
    · rw [List.getElem?_eq_none (by rw [jfs_len]; omega), List.getElem?_eq_none (by rw [jfs_len]; omega)]
theorem jtyc_0 {t : FieldType} (h : jtyc t = 0) : t = .int := by cases t <;> simp [jtyc] at h <;> rfl
theorem jtyc_1 {t : FieldType} (h : jtyc t = 1) : t = .long := by cases t <;> simp [jtyc] at h <;> rfl
theorem jtyc_3 {t : FieldType} (h : jtyc t = 3) : t = .boolean := by cases t <;> simp [jtyc] at h <;> rfl
section JST
variable {p : Program} {l : Launch} {ev : Env} {R : Room} {s : State} {m : MethodId} {args : Array Value} {below : List Frame} {meth : Method} {c : Code} {H : Heap} {locs : List Loc} {cells slots : Nat} {Q : State → Prop}
variable {k : Nat} {D : va_G} {cA : Nat → ClassId} {z0 ao : Nat} {ls : Array Slot} {lc : jF} {st : List jV} {w : jS} {pc len r1 r2 r3 : Nat} {z : Int} {x y : Int} {q : Option Nat}
theorem jA (hC : jCtx k p R s m args meth c D cA z0 ao) : ∀ q, s.heap.size ≤ q → (fun q : Nat => z0 ≤ q) q := fun q h => Nat.le_trans hC.2.2.2.2.2.2.2.2.2.2 h
theorem j_getf {i : Nat} (hC : jCtx k p R s m args meth c D cA z0 ao) (hG : jGood D cA z0 ao w H) (hwf : jwf k (pc, .getfield i, len, r1, r2, r3, z) = true) (hq : q.isSome = true) (hk : (w.2.1 (jdr q)).1 = r1 + 1)
    (kk : W p l ev R s m args below meth c H locs cells slots Q (F0 m (pc + len) ls (jg (jfv r3 r2 w (jdr q)) :: st.map jg))) : W p l ev R s m args below meth c H locs cells slots Q (F0 m pc ls (va_rf q :: st.map jg)) := by
  obtain ⟨hx, hb, -, -, -, hown, -, hts, -, hK, -⟩ := hC
  simp only [jwf, jlen, Bool.and_eq_true, decide_eq_true_eq, Nat.beq_eq, Nat.blt_eq, Bool.or_eq_true] at hwf
  obtain ⟨⟨hd, rfl⟩, ⟨hlk, hci⟩, hty⟩ := hwf
  rw [jrf_some hq]
  have hat := jGood_at hG (a := jdr q) (by omega) (by omega)
  rw [jel_o hk hci] at hat
  have hr2 : r2 < jFN r1 := by
    rcases hlk with h | h
    · exact (jlk_FL h).2
    · exact (jlk_FX h).2
  have hv := jfs_at (w := w) (a := jdr q) hr2
  rw [hty] at hv
  rcases hlk with h | h
  · exact va_get hx hb hts (jlay_in hci) hown hK.1 hG.2.2.1 _ hat (jcl_at hci) r2 hr2 (hts _ (jlk_FL h).1) (fun _ h9 => h9) hv hd kk
  · exact va_getN hx hb hts (jlay_in hci) hown hK.1 hG.2.2.1 _ hat (jcl_at hci) r2 hr2 (va_Nw.use rfl (hK.2.2.2.1 _ (jlk_FX h).1)) (fun _ h9 => h9) hv hd kk
theorem W.sz {g : JFrame} (h : H.size ≤ s.heap.size + cells → W p l ev R s m args below meth c H locs cells slots Q g) : W p l ev R s m args below meth c H locs cells slots Q g := by
  intro T hT X
  refine h ?_ T hT X
  have := X.same.2.2.1
  rw [← hT]
  exact this
theorem jP_lo {D : va_G} {cA : Nat → ClassId} {z0 : Nat} {w : jS} {H1 : Heap} {a : Nat} {e' : va_E} (hP : va_P D vwCl ((jws cA z0 w).set (a - z0) (a, e')) H1) (h1 : z0 ≤ a) (h2 : a < w.2.2.2.1) : w.2.2.2.1 ≤ H1.size := by
  have hat : ((jws cA z0 w).set (a - z0) (a, e'))[w.2.2.2.1 - 1 - z0]? = some (if a = w.2.2.2.1 - 1 then (a, e') else (w.2.2.2.1 - 1, jel cA w (w.2.2.2.1 - 1))) := by
    rw [List.getElem?_set]
    by_cases e : a = w.2.2.2.1 - 1
    · rw [if_pos (by omega), if_pos (by simp [jws]; omega), if_pos e]
    · rw [if_neg (by omega), jws_at (by omega) (by omega), if_neg e]
  have := (hP _ _ hat).lt
  split at this <;> (dsimp only at this; omega)
/-- a write into a field, whatever it is -/
theorem j_putf {i : Nat} {v : Value} {w' : jS} (hC : jCtx k p R s m args meth c D cA z0 ao) (hG : jGood D cA z0 ao w H) (hS : va_S (fun q => z0 ≤ q) s.heap H locs) (hz : H.size = s.heap.size + cells) (hwf : jwf k (pc, .putfield i, len, r1, r2, r3, z) = true) (hq : q.isSome = true) (hk : (w.2.1 (jdr q)).1 = r1 + 1)
    (hn : narrow (jFy r1 r2) v = v) (hf : fits (jFy r1 r2) v = true) (hw : ∀ H1 : Heap, r2 < jFN r1 → H1.size = H.size → va_P D vwCl ((jws cA z0 w).set (jdr q - z0) (jdr q, .inr (r1, (jfs r1 w (jdr q)).set r2 v))) H1 → jGood D cA z0 ao w' H1)
    (kk : ∀ (H1 : Heap) (locs1 : List Loc), jGood D cA z0 ao w' H1 → va_S (fun q => z0 ≤ q) s.heap H1 locs1 → H1.size = H.size → W p l ev R s m args below meth c H1 locs1 cells slots Q (F0 m (pc + len) ls (st.map jg))) : W p l ev R s m args below meth c H locs cells slots Q (F0 m pc ls (v :: va_rf q :: st.map jg)) := by
  obtain ⟨hx, hb, -, -, -, hown, hini, hts, -, hK, -⟩ := hC
  simp only [jwf, jlen, Bool.and_eq_true, decide_eq_true_eq, Nat.beq_eq, Nat.blt_eq, Bool.or_eq_true, Bool.not_eq_true'] at hwf
  obtain ⟨⟨hd, rfl⟩, ⟨⟨hlk, hci⟩, hty⟩, hfin⟩ := hwf
  rw [jrf_some hq]
  have hat := jGood_at hG (a := jdr q) (by omega) (by omega)
  rw [jel_o hk hci] at hat
  obtain ⟨hl, hr2⟩ := jlk_FL hlk
  have hln : r2 < (jfs r1 w (jdr q)).length := by rw [jfs_len]; exact hr2
  have hin := jGood_in hG (a := jdr q) (by omega) (by omega)
  have fin : ∀ (H1 : Heap) (locs1 : List Loc), va_P D vwCl ((jws cA z0 w).set (jdr q - z0) (jdr q, .inr (r1, (jfs r1 w (jdr q)).set r2 v))) H1 → va_S (fun q => z0 ≤ q) s.heap H1 locs1 → W p l ev R s m args below meth c H1 locs1 cells slots Q (F0 m (pc + 3) ls (st.map jg)) := by
    intro H1 locs1 hP hS1
    refine W.sz (fun hle => ?_)
    have hlo := jP_lo hP hin.1 hin.2
    have hsz : H1.size = H.size := by have := hG.1; omega
    exact kk H1 locs1 (hw H1 hr2 hsz hP) hS1 hsz
  cases hfi : (jFT r1 r2).2.2.2 with
  | false => exact va_put (A := fun q => z0 ≤ q) hx hb hts (jlay_in hci) (jFy r1) (jty_ok hci) (jnm_ok hci) hown hK.1 hG.2.2.1 jws_D hS _ hat (jcl_at hci) r2 hr2 (hts _ hl) (fun _ h9 => h9) hfi (jty_ok hci r2 hr2) hn hf hln hd (fun H1 locs1 hP hD hS1 => fin H1 locs1 hP hS1)
  | true =>
    rw [hfi] at hfin
    obtain ⟨h2, h3⟩ : jkd k = 2 ∧ (jFT r1 r2).1 = jCn (jown k) := by
      rcases hfin with h | h
      · cases h
      · exact h
    exact va_putF (A := fun q => z0 ≤ q) hx hb hts (jlay_in hci) (jFy r1) (jty_ok hci) (jnm_ok hci) hown hK.1 hG.2.2.1 jws_D hS _ hat (jcl_at hci) r2 hr2 (hts _ hl) (fun _ h9 => h9) hfi (hini h2) h3 (jty_ok hci r2 hr2) hn hf hln hd (fun H1 locs1 hP hD hS1 => fin H1 locs1 hP hS1)
end JST
