theorem jins_dec : (List.range 10).all (fun ci => decide (Cond.instantiable (jFR ci) (jFN ci) ∈ lw_tbl) && goodWord (Cond.instantiable (jFR ci) (jFN ci)) && decide (Cond.initialized (jFR ci) ∈ lw_tbl) && goodWord (Cond.initialized (jFR ci))) = true := by decide +kernel
theorem jins_in {ci : Nat} (h : ci < 10) : Cond.instantiable (jFR ci) (jFN ci) ∈ jWS ∧ Cond.initialized (jFR ci) ∈ jWS := by
  have h1 := List.all_eq_true.mp jins_dec ci (List.mem_range.mpr h)
  simp only [Bool.and_eq_true, decide_eq_true_eq] at h1
  exact ⟨List.mem_filter.mpr ⟨h1.1.1.1, h1.1.1.2⟩, List.mem_filter.mpr ⟨h1.1.2, h1.2⟩⟩
theorem jarr_in : Cond.arrayClass .int ∈ jWS ∧ Cond.arrayClass .long ∈ jWS := by
  have h : ([Cond.arrayClass .int, Cond.arrayClass .long] : List Jvm.Cond).all (fun w => decide (w ∈ lw_tbl) && goodWord w) = true := by decide +kernel
  have key : ∀ w ∈ ([Cond.arrayClass .int, Cond.arrayClass .long] : List Jvm.Cond), w ∈ jWS := fun w hw => by
    have h1 := List.all_eq_true.mp h w hw
    simp only [Bool.and_eq_true, decide_eq_true_eq] at h1
    exact List.mem_filter.mpr h1
  exact ⟨key _ (List.mem_of_getElem? (i := 0) rfl), key _ (List.mem_of_getElem? (i := 1) rfl)⟩
theorem jws_len {cA : Nat → ClassId} {z0 : Nat} {w : jS} : (jws cA z0 w).length = w.2.2.2.1 - z0 := by simp [jws]
/-- a new cell stands at the heap's end -/
theorem jnew_q {D : va_G} {cA : Nat → ClassId} {z0 ao q : Nat} {w : jS} {H H1 : Heap} {e : va_E} (hG : jGood D cA z0 ao w H) (hP : va_P D vwCl (jws cA z0 w ++ [(q, e)]) H1) (hD : va_D (fun q => z0 ≤ q) (jws cA z0 w ++ [(q, e)])) (hle : H1.size ≤ H.size + 1) : q = H.size ∧ H1.size = H.size + 1 := by
  have hq : (jws cA z0 w ++ [(q, e)])[w.2.2.2.1 - z0]? = some (q, e) := by
    rw [← jws_len (cA := cA), List.getElem?_append_right (Nat.le_refl _)]
    simp
  have h1 : q < H1.size := (hP _ _ hq).lt
  have h2 : z0 ≤ q := hD.2 _ _ hq
  have h3 : H.size ≤ q := by
    rcases Nat.lt_or_ge q H.size with h | h
    · exfalso
      have hat : (jws cA z0 w ++ [(q, e)])[q - z0]? = some (q, jel cA w q) := by
        rw [List.getElem?_append_left (by rw [jws_len]; have := hG.1; omega)]
        exact jws_at h2 (by have := hG.1; omega)
      have := hD.1 _ _ _ _ hq hat rfl
      have := hG.1
      omega
    · exact h
  omega
theorem jGood_new {D : va_G} {cA : Nat → ClassId} {z0 ao t n : Nat} {w : jS} {H H1 : Heap} {e : va_E} (hG : jGood D cA z0 ao w H) (hs : H1.size = H.size + 1) (ht : t ≠ 99) (he : jel cA (jnewo w t n) w.2.2.2.1 = e) (hP : va_P D vwCl (jws cA z0 w ++ [(w.2.2.2.1, e)]) H1) : jGood D cA z0 ao (jnewo w t n) H1 := by
  obtain ⟨g1, g2, g3, g4, g5, g6, g7, g8⟩ := hG
  have hne : ao ≠ w.2.2.2.1 := by omega
  refine ⟨by show H1.size = w.2.2.2.1 + 1; omega, by show z0 ≤ w.2.2.2.1 + 1; omega, ?_, fun a ha => ?_, ?_, fun j => ?_, g7, g8⟩
  · intro i q hq
    obtain ⟨rfl, hi⟩ := jws_get hq
    have hi : i < w.2.2.2.1 + 1 - z0 := hi
    by_cases hl : i < w.2.2.2.1 - z0
    · have hne : z0 + i ≠ w.2.2.2.1 := by omega
      have e1 : jel cA (jnewo w t n) (z0 + i) = jel cA w (z0 + i) := jel_congr (by simp [jnewo, hne]) (fun j => by simp [jnewo, hne]) (fun j => by simp [jnewo, hne])
      rw [e1]
      refine hP i _ ?_
      rw [List.getElem?_append_left (by rw [jws_len]; exact hl)]
      have := jws_at (cA := cA) (w := w) (a := z0 + i) (z0 := z0) (by omega) (by omega)
      rw [show z0 + i - z0 = i by omega] at this
      exact this
    · have hi2 : z0 + i = w.2.2.2.1 := by omega
      rw [hi2, he]
      refine hP i _ ?_
      rw [List.getElem?_append_right (by rw [jws_len]; omega), jws_len, show i - (w.2.2.2.1 - z0) = 0 by omega]
      rfl
  · by_cases e : a = w.2.2.2.1
    · exact Or.inr ⟨by omega, by show a < w.2.2.2.1 + 1; omega⟩
    · have : (w.2.1 a).1 ≠ 0 := by simpa [jnewo, e] using ha
      rcases g4 a this with h | h
      · exact Or.inl h
      · exact Or.inr ⟨h.1, by show a < w.2.2.2.1 + 1; omega⟩
  · show (if ao = w.2.2.2.1 then (t, n) else w.2.1 ao) = _
    rw [if_neg hne]
    exact g5
  · show (if ao = w.2.2.2.1 then 0 else w.1 ao j) = _
    rw [if_neg hne]
    exact g6 j
theorem jelN_kd {w : jS} {t n : Nat} : (jnewo w t n).2.1 w.2.2.2.1 = (t, n) := by simp [jnewo]
section JAL
variable {p : Program} {l : Launch} {ev : Env} {R : Room} {s : State} {m : MethodId} {args : Array Value} {below : List Frame} {meth : Method} {c : Code} {H : Heap} {locs : List Loc} {cells slots : Nat} {Q : State → Prop}
variable {k : Nat} {D : va_G} {cA : Nat → ClassId} {z0 ao : Nat} {ls : Array Slot} {lc : jF} {st : List jV} {w : jS} {pc len r1 r2 r3 : Nat} {z : Int} {x y i : Int} {q v : Option Nat}
theorem j_new {i : Nat} (hC : jCtx k p R s m args meth c D cA z0 ao) (hG : jGood D cA z0 ao w H) (hS : va_S (fun q => z0 ≤ q) s.heap H locs) (hz : H.size = s.heap.size + cells) (hwf : jwf k (pc, .new i, len, r1, r2, r3, z) = true) (hc : cells + 1 ≤ jmc k) (hs : slots + r2 ≤ jms k)
    (kk : ∀ (H1 : Heap), jGood D cA z0 ao (jnewo w (r1 + 1) 0) H1 → va_S (fun q => z0 ≤ q) s.heap H1 locs → H1.size = s.heap.size + (cells + 1) → W p l ev R s m args below meth c H1 locs (cells + 1) (slots + r2) Q (F0 m (pc + len) ls (.ref w.2.2.2.1 :: st.map jg))) : W p l ev R s m args below meth c H locs cells slots Q (F0 m pc ls (st.map jg)) := by
  have hA := jA hC
  obtain ⟨hx, hb, -, -, -, hown, -, hts, rfl, hK, -⟩ := hC
  simp only [jwf, jlen, Bool.and_eq_true, decide_eq_true_eq, Nat.beq_eq, Nat.blt_eq] at hwf
  obtain ⟨⟨hd, rfl⟩, ⟨h1, hci⟩, rfl⟩ := hwf
  obtain ⟨w1, w2⟩ := jins_in hci
  have hfs : ∀ j, j < jFN r1 → defaultValue (jFy r1 j) = vp_V (jfs r1 (jnewo w (r1 + 1) 0) w.2.2.2.1) j := by
    intro j hj
    show _ = (jfs r1 (jnewo w (r1 + 1) 0) w.2.2.2.1).getD j .null
    rw [List.getD_eq_getElem?_getD, jfs_at hj]
    have hr := List.all_eq_true.mp (List.all_eq_true.mp jisrf_dec r1 (List.mem_range.mpr hci)) j (List.mem_range.mpr hj)
    cases ht : jFy r1 j <;> rw [ht] at hr <;> first | (cases hr; done) | simp [jtyc, jfv, jnewo, jg, va_rf, defaultValue]
  refine va_new (A := fun q => z0 ≤ q) hx hb hts (jlay_in hci) (jFy r1) (jty_ok hci) hown (hts _ (jlk_CK h1)) (hts _ w1) (hts _ w2) hK.1 hG.2.2.1 jws_D hS hA (jcl_at hci) hfs hc hs hd (fun q H1 hP hD hS1 => ?_)
  refine W.sz (fun hle => ?_)
  obtain ⟨rfl, hsz⟩ := jnew_q hG hP hD (by omega)
  rw [hG.1] at hP ⊢
  exact kk H1 (jGood_new hG hsz (by omega) (jel_o (by rw [jelN_kd]) hci) hP) hS1 (by omega)
theorem jKc {s : State} (h : va_K D vwCl (jtys cA) s) {t : Nat} {c1 : ClassId} {ty : FieldType} (ht : (jtys cA)[t]? = some (cA t, ty)) (h1 : va_K D vwCl (jtys cA ++ [(c1, ty)]) s) : c1 = cA t := by
  have a := (h.2 _ _ ht).2
  have b := (h1.2 (jtys cA).length (c1, ty) (by rw [List.getElem?_append_right (Nat.le_refl _)]; simp)).2
  cases ty with
  | object C =>
    obtain ⟨_, _, -, -, -, f1⟩ := a
    obtain ⟨_, _, -, -, -, f2⟩ := b
    exact Option.some.inj (f2.symm.trans f1)
  | _ => exact Option.some.inj (Eq.trans (Eq.symm (show s.vm.findClass _ = some c1 from b)) (show s.vm.findClass _ = some (cA t) from a))
theorem j_newa {t : ArrayType} (hC : jCtx k p R s m args meth c D cA z0 ao) (hG : jGood D cA z0 ao w H) (hS : va_S (fun q => z0 ≤ q) s.heap H locs) (hz : H.size = s.heap.size + cells) (hwf : jwf k (pc, .newarray t, len, r1, r2, r3, z) = true) (hx0 : 0 ≤ b32 x ∧ b32 x ≤ 1000) (hc : cells + 1 ≤ jmc k) (hs : slots + (b32 x).toNat ≤ jms k)
    (kk : ∀ (H1 : Heap), jGood D cA z0 ao (jnewo w r1 (b32 x).toNat) H1 → va_S (fun q => z0 ≤ q) s.heap H1 locs → H1.size = s.heap.size + (cells + 1) → W p l ev R s m args below meth c H1 locs (cells + 1) (slots + (b32 x).toNat) Q (F0 m (pc + len) ls (.ref w.2.2.2.1 :: st.map jg))) : W p l ev R s m args below meth c H locs cells slots Q (F0 m pc ls (.int (Int32.ofInt x) :: st.map jg)) := by
  have hA := jA hC
  obtain ⟨hx, hb, -, -, -, hown, -, hts, rfl, hK, -⟩ := hC
  cases t <;> simp only [jwf, jlen, Bool.and_eq_true, decide_eq_true_eq, Nat.beq_eq, Nat.blt_eq] at hwf <;> (try (cases hwf.2; done))
  · obtain ⟨⟨hd, rfl⟩, rfl⟩ := hwf
    refine va_newa (A := fun q => z0 ≤ q) (atype := .int) (ty := .int) (a0 := ((b32 x).toNat, .inl (fun _ => 0))) hx hb (hts _ jarr_in.1) rfl hK.1 hG.2.2.1 jws_D hS hA (fun _ => rfl) (j32_neg0 hx0.1) (j32_cl x) (by show (b32 x).toNat * 4 ≤ _; omega) hc hs hd (fun q c1 H1 hK1 hP hD hS1 => ?_)
    refine W.sz (fun hle => ?_)
    obtain ⟨rfl, hsz⟩ := jnew_q hG hP hD (by omega)
    rw [hG.1] at hP ⊢
    have hc1 := jKc (t := 0) hK.1 rfl hK1
    subst hc1
    refine kk H1 (jGood_new hG hsz (by omega) ?_ hP) hS1 (by omega)
    rw [jel_i (by rw [jelN_kd]), jelN_kd]
    simp [jnewo]
  · obtain ⟨⟨hd, rfl⟩, rfl⟩ := hwf
    refine va_newa (A := fun q => z0 ≤ q) (atype := .long) (ty := .long) (a0 := ((b32 x).toNat, .inr (.inl (fun _ => 0)))) hx hb (hts _ jarr_in.2) rfl hK.1 hG.2.2.1 jws_D hS hA (fun _ => rfl) (j32_neg0 hx0.1) (j32_cl x) (by show (b32 x).toNat * 8 ≤ _; omega) hc hs hd (fun q c1 H1 hK1 hP hD hS1 => ?_)
    refine W.sz (fun hle => ?_)
    obtain ⟨rfl, hsz⟩ := jnew_q hG hP hD (by omega)
    rw [hG.1] at hP ⊢
    have hc1 := jKc (t := 1) hK.1 rfl hK1
    subst hc1
    refine kk H1 (jGood_new hG hsz (by omega) ?_ hP) hS1 (by omega)
    rw [jel_l (by rw [jelN_kd]), jelN_kd]
    simp [jnewo]
theorem j_newq {i : Nat} (hC : jCtx k p R s m args meth c D cA z0 ao) (hG : jGood D cA z0 ao w H) (hS : va_S (fun q => z0 ≤ q) s.heap H locs) (hz : H.size = s.heap.size + cells) (hwf : jwf k (pc, .anewarray i, len, r1, r2, r3, z) = true) (hx0 : 0 ≤ b32 x ∧ b32 x ≤ 1000) (hc : cells + 1 ≤ jmc k) (hs : slots + (b32 x).toNat ≤ jms k)
    (kk : ∀ (H1 : Heap), jGood D cA z0 ao (jnewo w r1 (b32 x).toNat) H1 → va_S (fun q => z0 ≤ q) s.heap H1 locs → H1.size = s.heap.size + (cells + 1) → W p l ev R s m args below meth c H1 locs (cells + 1) (slots + (b32 x).toNat) Q (F0 m (pc + len) ls (.ref w.2.2.2.1 :: st.map jg))) : W p l ev R s m args below meth c H locs cells slots Q (F0 m pc ls (.int (Int32.ofInt x) :: st.map jg)) := by
  have hA := jA hC
  obtain ⟨hx, hb, -, -, -, hown, -, hts, rfl, hK, -⟩ := hC
  simp only [jwf, jlen, Bool.and_eq_true, decide_eq_true_eq, Nat.beq_eq, Nat.blt_eq, Bool.or_eq_true] at hwf
  obtain ⟨⟨hd, rfl⟩, hw⟩ := hwf
  have key : ∀ (t : Nat) (C : String), (jtys cA)[t]? = some (cA t, .object C) → r1 = t + 100 → 2 ≤ t → (Cond.classLink (jCn (jown k)) i C).before args s = true → va_AO C s → W p l ev (jrm k) s m args below meth c H locs cells slots Q (F0 m pc ls (.int (Int32.ofInt x) :: st.map jg)) := by
    intro t C ht hr h2 hcl hao
    refine va_newq (A := fun q => z0 ≤ q) (N' := (b32 x).toNat) hx hb hown hcl hao hK.1 hG.2.2.1 jws_D hS hA (j32_neg0 hx0.1) (j32_cl x) (by omega) hc hs hd (fun q c1 H1 hK1 hP hD hS1 => ?_)
    refine W.sz (fun hle => ?_)
    obtain ⟨rfl, hsz⟩ := jnew_q hG hP hD (by omega)
    rw [hG.1] at hP ⊢
    have hc1 := jKc hK.1 ht hK1
    subst hc1
    refine kk H1 (jGood_new hG hsz (by omega) ?_ hP) hS1 (by omega)
    rw [jel_q (by rw [jelN_kd]; show 102 ≤ r1; omega), jelN_kd]
    simp [jnewo, show r1 - 100 = t by omega]
  rcases hw with (⟨h1, h2⟩ | ⟨h1, h2⟩) | ⟨h1, h2⟩
  · exact key 2 _ rfl h1 (by omega) (hts _ (jlk_CK h2)) hK.2.2.2.2.1.1
  · exact key 3 _ rfl h1 (by omega) (hts _ (jlk_CK h2)) hK.2.2.2.2.1.2.1
  · exact key 4 _ rfl h1 (by omega) (hts _ (jlk_CK h2)) hK.2.2.2.2.1.2.2
end JAL
