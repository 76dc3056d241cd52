section JSU
variable {p : Program} {l : Launch} {ev : Env} {R : Room} {s : State} {m : MethodId} {args : Array Value} {below : List Frame} {meth : Method} {c : Code} {H : Heap} {locs : List Loc} {cells slots : Nat} {Q : State → Prop}
variable {k : Nat} {D : va_G} {cA : Nat → ClassId} {z0 ao : Nat} {ls : Array Slot} {lc : jF} {st : List jV} {w : jS} {pc len r1 r2 r3 : Nat} {z : Int} {x i : Int} {q v : Option Nat}
theorem j_iald (hC : jCtx k p R s m args meth c D cA z0 ao) (hG : jGood D cA z0 ao w H) (hS : va_S (fun q => z0 ≤ q) s.heap H locs) (hd : decode (jcode k) pc = .ok (.iaload, 1)) (hq : q.isSome = true) (hk : jird (w.2.1 (jdr q))) (h1 : 0 ≤ b32 i) (h2 : b32 i < ((w.2.1 (jdr q)).2 : Int))
    (kk : W p l ev R s m args below meth c H locs cells slots Q (F0 m (pc + 1) ls (.int (Int32.ofInt (w.1 (jdr q) (b32 i).toNat)) :: st.map jg))) : W p l ev R s m args below meth c H locs cells slots Q (F0 m pc ls (.int (Int32.ofInt i) :: va_rf q :: st.map jg)) := by
  obtain ⟨hx, hb, -, -, -, hown, -, hts, -, hK, -⟩ := hC
  rw [jrf_some hq]
  by_cases h99 : (w.2.1 (jdr q)).1 = 99
  · have ha : jdr q = ao := by
      rcases hG.2.2.2.1 (jdr q) (by omega) with e | ⟨e1, e2⟩
      · exact e
      · exfalso
        have hat := jws_at (cA := cA) (w := w) e1 e2
        unfold jel at hat
        rw [if_neg (by omega), if_neg (by omega), if_neg (by omega), h99] at hat
        obtain ⟨r, hr, -⟩ := hG.2.2.1 _ _ hat
        cases hr
    rw [ha] at h2 kk ⊢
    rw [hG.2.2.2.2.1] at h2
    rw [hG.2.2.2.2.2.1] at kk
    exact va_ti hx hb hK.2.2.1 hS (j32_in h1 h2) (by rw [j32_cl]) hd kk
  · have hk : (w.2.1 (jdr q)).1 = 100 := hk.resolve_right h99
    have hat := jGood_at hG (a := jdr q) (by omega) (by omega)
    rw [jel_i hk] at hat
    refine va_iald hx hb hK.1 hG.2.2.1 _ 0 hat rfl (j32_in h1 h2) hd ?_
    rw [j32_cl]
    exact kk
theorem j_lald (hC : jCtx k p R s m args meth c D cA z0 ao) (hG : jGood D cA z0 ao w H) (hd : decode (jcode k) pc = .ok (.laload, 1)) (hq : q.isSome = true) (hk : (w.2.1 (jdr q)).1 = 101) (h1 : 0 ≤ b32 i) (h2 : b32 i < ((w.2.1 (jdr q)).2 : Int))
    (kk : W p l ev R s m args below meth c H locs cells slots Q (F0 m (pc + 1) ls (.long (Int64.ofInt (w.1 (jdr q) (b32 i).toNat)) :: st.map jg))) : W p l ev R s m args below meth c H locs cells slots Q (F0 m pc ls (.int (Int32.ofInt i) :: va_rf q :: st.map jg)) := by
  obtain ⟨hx, hb, -, -, -, hown, -, hts, -, hK, -⟩ := hC
  rw [jrf_some hq]
  have hat := jGood_at hG (a := jdr q) (by omega) (by omega)
  rw [jel_l hk] at hat
  refine va_lald hx hb hK.1 hG.2.2.1 _ 1 hat rfl (j32_in h1 h2) hd ?_
  rw [j32_cl]
  exact kk
theorem j_aald (hC : jCtx k p R s m args meth c D cA z0 ao) (hG : jGood D cA z0 ao w H) (hd : decode (jcode k) pc = .ok (.aaload, 1)) (hq : q.isSome = true) (hk : 102 ≤ (w.2.1 (jdr q)).1 ∧ (w.2.1 (jdr q)).1 ≤ 105) (h1 : 0 ≤ b32 i) (h2 : b32 i < ((w.2.1 (jdr q)).2 : Int))
    (kk : W p l ev R s m args below meth c H locs cells slots Q (F0 m (pc + 1) ls (va_rf (w.2.2.1 (jdr q) (b32 i).toNat) :: st.map jg))) : W p l ev R s m args below meth c H locs cells slots Q (F0 m pc ls (.int (Int32.ofInt i) :: va_rf q :: st.map jg)) := by
  obtain ⟨hx, hb, -, -, -, hown, -, hts, -, hK, -⟩ := hC
  rw [jrf_some hq]
  have hat := jGood_at hG (a := jdr q) (by omega) (by omega)
  rw [jel_q hk.1] at hat
  have hin := j32_in h1 h2
  have hlt : (Int32.ofInt i).toNatClampNeg < (w.2.1 (jdr q)).2 := Nat.not_le.mp fun z => hin (Or.inr z)
  have hT : ∃ ty : FieldType, (jtys cA)[(w.2.1 (jdr q)).1 - 100]? = some (cA ((w.2.1 (jdr q)).1 - 100), ty) ∧ ty.isReference = true := by
    rcases (show (w.2.1 (jdr q)).1 = 102 ∨ (w.2.1 (jdr q)).1 = 103 ∨ (w.2.1 (jdr q)).1 = 104 ∨ (w.2.1 (jdr q)).1 = 105 by omega) with e | e | e | e <;> rw [e] <;> exact ⟨_, rfl, rfl⟩
  obtain ⟨ty, ht, hr⟩ := hT
  rw [← j32_cl] at kk
  exact W.aald (v := va_rf (w.2.2.1 (jdr q) (Int32.ofInt i).toNatClampNeg)) (ty := ty) hx hb (hG.2.2.1 _ _ hat) ((hK.1.2 _ _ ht).1 (w.2.1 (jdr q)).2 (fun j => va_rf (w.2.2.1 (jdr q) j))) hr (fun z => by cases z) (by show ¬ (Int32.ofInt i < 0 ∨ (arrV _ _ _).slots.size ≤ _); rw [arrV_size]; exact hin) (by show (arrV _ _ _).slots[_]? = _; rw [arrV_read _ _ hlt]) rfl rfl hd kk
theorem j_iast (hC : jCtx k p R s m args meth c D cA z0 ao) (hG : jGood D cA z0 ao w H) (hS : va_S (fun q => z0 ≤ q) s.heap H locs) (hz : H.size = s.heap.size + cells) (hd : decode (jcode k) pc = .ok (.iastore, 1)) (hq : q.isSome = true) (hk : (w.2.1 (jdr q)).1 = 100) (h1 : 0 ≤ b32 i) (h2 : b32 i < ((w.2.1 (jdr q)).2 : Int))
    (kk : ∀ (H1 : Heap) (locs1 : List Loc), jGood D cA z0 ao (jup w.1 (jdr q) (b32 i).toNat x, w.2) H1 → va_S (fun q => z0 ≤ q) s.heap H1 locs1 → H1.size = H.size → W p l ev R s m args below meth c H1 locs1 cells slots Q (F0 m (pc + 1) ls (st.map jg))) : W p l ev R s m args below meth c H locs cells slots Q (F0 m pc ls (.int (Int32.ofInt x) :: .int (Int32.ofInt i) :: va_rf q :: st.map jg)) := by
  obtain ⟨hx, hb, -, -, -, hown, -, hts, -, hK, -⟩ := hC
  rw [jrf_some hq]
  have hat := jGood_at hG (a := jdr q) (by omega) (by omega)
  rw [jel_i hk] at hat
  have hin := jGood_in hG (a := jdr q) (by omega) (by omega)
  refine va_iast (A := fun q => z0 ≤ q) hx hb hK.1 hG.2.2.1 jws_D hS _ 0 hat rfl (j32_in h1 h2) hd (fun H1 locs1 hP hD hS1 => ?_)
  refine W.sz (fun hle => ?_)
  have hlo := jP_lo hP hin.1 hin.2
  have hsz : H1.size = H.size := by have := hG.1; omega
  refine kk H1 locs1 (jGood_up hG (by omega) (by omega) ?_ hsz hP) hS1 hsz
  rw [jel_i (by exact hk), j32_cl]
  congr 4
  funext j
  by_cases e : j = (b32 i).toNat
  · subst e
    simp [jup, upd]
  · simp [jup, upd, e]
theorem j_last (hC : jCtx k p R s m args meth c D cA z0 ao) (hG : jGood D cA z0 ao w H) (hS : va_S (fun q => z0 ≤ q) s.heap H locs) (hz : H.size = s.heap.size + cells) (hd : decode (jcode k) pc = .ok (.lastore, 1)) (hq : q.isSome = true) (hk : (w.2.1 (jdr q)).1 = 101) (h1 : 0 ≤ b32 i) (h2 : b32 i < ((w.2.1 (jdr q)).2 : Int))
    (kk : ∀ (H1 : Heap) (locs1 : List Loc), jGood D cA z0 ao (jup w.1 (jdr q) (b32 i).toNat x, w.2) H1 → va_S (fun q => z0 ≤ q) s.heap H1 locs1 → H1.size = H.size → W p l ev R s m args below meth c H1 locs1 cells slots Q (F0 m (pc + 1) ls (st.map jg))) : W p l ev R s m args below meth c H locs cells slots Q (F0 m pc ls (.long (Int64.ofInt x) :: .int (Int32.ofInt i) :: va_rf q :: st.map jg)) := by
  obtain ⟨hx, hb, -, -, -, hown, -, hts, -, hK, -⟩ := hC
  rw [jrf_some hq]
  have hat := jGood_at hG (a := jdr q) (by omega) (by omega)
  rw [jel_l hk] at hat
  have hin := jGood_in hG (a := jdr q) (by omega) (by omega)
  refine va_last (A := fun q => z0 ≤ q) hx hb hK.1 hG.2.2.1 jws_D hS _ 1 hat rfl (j32_in h1 h2) hd (fun H1 locs1 hP hD hS1 => ?_)
  refine W.sz (fun hle => ?_)
  have hlo := jP_lo hP hin.1 hin.2
  have hsz : H1.size = H.size := by have := hG.1; omega
  refine kk H1 locs1 (jGood_up hG (by omega) (by omega) ?_ hsz hP) hS1 hsz
  rw [jel_l (by exact hk), j32_cl]
  congr 5
  funext j
  by_cases e : j = (b32 i).toNat
  · subst e
    simp [jup, vp_updL]
  · simp [jup, vp_updL, e]
theorem j_aast (hC : jCtx k p R s m args meth c D cA z0 ao) (hG : jGood D cA z0 ao w H) (hS : va_S (fun q => z0 ≤ q) s.heap H locs) (hz : H.size = s.heap.size + cells) (hd : decode (jcode k) pc = .ok (.aastore, 1)) (hq : q.isSome = true) (hv : v.isSome = true) (hk : 102 ≤ (w.2.1 (jdr q)).1 ∧ (w.2.1 (jdr q)).1 ≤ 104 ∧ (w.2.1 (jdr v)).1 = jrk (w.2.1 (jdr q)).1) (h1 : 0 ≤ b32 i) (h2 : b32 i < ((w.2.1 (jdr q)).2 : Int))
    (kk : ∀ (H1 : Heap) (locs1 : List Loc), jGood D cA z0 ao (w.1, w.2.1, jupr w.2.2.1 (jdr q) (b32 i).toNat v, w.2.2.2) H1 → va_S (fun q => z0 ≤ q) s.heap H1 locs1 → H1.size = H.size → W p l ev R s m args below meth c H1 locs1 cells slots Q (F0 m (pc + 1) ls (st.map jg))) : W p l ev R s m args below meth c H locs cells slots Q (F0 m pc ls (va_rf v :: .int (Int32.ofInt i) :: va_rf q :: st.map jg)) := by
  obtain ⟨hx, hb, -, -, -, hown, -, hts, -, hK, -⟩ := hC
  have hqe := jrf_some hq
  have hve := jrf_some hv
  have hat := jGood_at hG (a := jdr q) (by omega) (by omega)
  have hin := jGood_in hG (a := jdr q) (by omega) (by omega)
  have hT : ∃ (ci : Nat), ci < 10 ∧ (w.2.1 (jdr v)).1 = ci + 1 ∧ (jtys cA)[(w.2.1 (jdr q)).1 - 100]? = some (cA ((w.2.1 (jdr q)).1 - 100), .object (jFR ci)) := by
    rcases (show (w.2.1 (jdr q)).1 = 102 ∨ (w.2.1 (jdr q)).1 = 103 ∨ (w.2.1 (jdr q)).1 = 104 by omega) with e | e | e
    · exact ⟨3, by omega, by rw [hk.2.2, e]; rfl, by rw [e]; rfl⟩
    · exact ⟨5, by omega, by rw [hk.2.2, e]; rfl, by rw [e]; rfl⟩
    · exact ⟨6, by omega, by rw [hk.2.2, e]; rfl, by rw [e]; rfl⟩
  obtain ⟨ci, hc, hkv, ht⟩ := hT
  have hatv := jGood_at hG (a := jdr v) (by omega) (by omega)
  rw [jel_o hkv hc] at hatv
  rw [jel_q hk.1] at hat
  rw [hve, hqe]
  refine va_astq (A := fun q => z0 ≤ q) (r := (jFR ci, jFT ci, jFN ci)) hx hb hK.1 hG.2.2.1 jws_D hS _ _ _ ci hat ht hatv (jcl_at hc) (j32_in h1 h2) hd (fun H1 locs1 hP hD hS1 => ?_)
  refine W.sz (fun hle => ?_)
  have hlo := jP_lo hP hin.1 hin.2
  have hsz : H1.size = H.size := by have := hG.1; omega
  refine kk H1 locs1 (jGood_upr hG (by omega) (by omega) ?_ hsz hP) hS1 hsz
  rw [jel_q (by exact hk.1), j32_cl]
  congr 8
  funext j
  by_cases e : j = (b32 i).toNat
  · subst e
    simp [jupr, va_up]
    exact hve
  · simp [jupr, va_up, e]
theorem jWS_bui : Cond.instanceMethod objectInit ∈ jWS ∧ Cond.code objectInit ⟨#[0xb1]⟩ 1 none ∈ jWS ∧ Cond.static Lib.Math.abs.name ∈ jWS ∧ Cond.code Lib.Math.abs.name Lib.Math.abs.code 1 (some .int) ∈ jWS ∧ Cond.static Lib.MathLoose.abs_long.x ∈ jWS ∧ Cond.code Lib.MathLoose.abs_long.x Lib.MathLoose.abs_long.code 2 (some .long) ∈ jWS ∧
    Cond.static Lib.Math.max.name ∈ jWS ∧ Cond.code Lib.Math.max.name Lib.Math.max.code 2 (some .int) ∈ jWS ∧ Cond.initialized "java/lang/Math" ∈ jWS ∧ Cond.native arraycopyName ∈ jWS ∧ Cond.static arraycopyName ∈ jWS ∧ Cond.initialized "java/lang/System" ∈ jWS := by
  have h : ([Cond.instanceMethod objectInit, Cond.code objectInit ⟨#[0xb1]⟩ 1 none, Cond.static Lib.Math.abs.name, Cond.code Lib.Math.abs.name Lib.Math.abs.code 1 (some .int), Cond.static Lib.MathLoose.abs_long.x, Cond.code Lib.MathLoose.abs_long.x Lib.MathLoose.abs_long.code 2 (some .long), Cond.static Lib.Math.max.name, Cond.code Lib.Math.max.name Lib.Math.max.code 2 (some .int), Cond.initialized "java/lang/Math", Cond.native arraycopyName, Cond.static arraycopyName, Cond.initialized "java/lang/System"] : List Jvm.Cond).all (fun w => decide (w ∈ lw_tbl) && goodWord w) = true := by decide +kernel
  have key : ∀ w ∈ ([Cond.instanceMethod objectInit, Cond.code objectInit ⟨#[0xb1]⟩ 1 none, Cond.static Lib.Math.abs.name, Cond.code Lib.Math.abs.name Lib.Math.abs.code 1 (some .int), Cond.static Lib.MathLoose.abs_long.x, Cond.code Lib.MathLoose.abs_long.x Lib.MathLoose.abs_long.code 2 (some .long), Cond.static Lib.Math.max.name, Cond.code Lib.Math.max.name Lib.Math.max.code 2 (some .int), Cond.initialized "java/lang/Math", Cond.native arraycopyName, Cond.static arraycopyName, Cond.initialized "java/lang/System"] : List Jvm.Cond), w ∈ jWS := fun w hw => by
    have h1 := List.all_eq_true.mp h w hw
    simp only [Bool.and_eq_true, decide_eq_true_eq] at h1
    exact List.mem_filter.mpr h1
  exact ⟨key _ (List.mem_of_getElem? (i := 0) rfl), key _ (List.mem_of_getElem? (i := 1) rfl), key _ (List.mem_of_getElem? (i := 2) rfl), key _ (List.mem_of_getElem? (i := 3) rfl), key _ (List.mem_of_getElem? (i := 4) rfl), key _ (List.mem_of_getElem? (i := 5) rfl), key _ (List.mem_of_getElem? (i := 6) rfl), key _ (List.mem_of_getElem? (i := 7) rfl), key _ (List.mem_of_getElem? (i := 8) rfl), key _ (List.mem_of_getElem? (i := 9) rfl), key _ (List.mem_of_getElem? (i := 10) rfl), key _ (List.mem_of_getElem? (i := 11) rfl)⟩
end JSU
