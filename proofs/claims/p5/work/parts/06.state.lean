def jisNest : Jvm.Cond → Bool
  | .fieldLinkNest _ _ _ _ _ _ => true
  | .methodLinkNest _ _ _ _ => true
  | _ => false
def jord (j : Nat) : Int := [2, 2, 3, 4, 5, 6, 8].getD j 0
def jfs (ci : Nat) (w : jS) (a : Nat) : List Value := (List.range (jFN ci)).map (fun k => jg (jfv (jtyc (jFy ci k)) k w a))
def jel (cA : Nat → ClassId) (w : jS) (a : Nat) : va_E :=
  if (w.2.1 a).1 = 100 then .inl (cA 0, (w.2.1 a).2, .inl (fun j => Int32.ofInt (w.1 a j)))
  else if (w.2.1 a).1 = 101 then .inl (cA 1, (w.2.1 a).2, .inr (.inl (fun j => Int64.ofInt (w.1 a j))))
  else if 102 ≤ (w.2.1 a).1 then .inl (cA ((w.2.1 a).1 - 100), (w.2.1 a).2, .inr (.inr (.inr (.inr (fun j => w.2.2.1 a j)))))
  else .inr ((w.2.1 a).1 - 1, jfs ((w.2.1 a).1 - 1) w a)
def jws (cA : Nat → ClassId) (z0 : Nat) (w : jS) : va_W := (List.range' z0 (w.2.2.2.1 - z0)).map (fun a => (a, jel cA w a))
def jtys (cA : Nat → ClassId) : List (ClassId × FieldType) := [(cA 0, .int), (cA 1, .long), (cA 2, .object "ExchangeRows$Row"), (cA 3, .object "ExchangeRows$Seed"), (cA 4, .object "ExchangeRows$Tale"), (cA 5, .array .long)]
def jK (D : va_G) (cA : Nat → ClassId) (z0 ao : Nat) (s : State) : Prop :=
  va_K D vwCl (jtys cA) s ∧ va_Z RX2 "ORDERS" "[I" (.ref ao) (fun q => z0 ≤ q) s s.heap ∧ va_T .int ao 7 (fun j => .int (Int32.ofInt (jord j))) (fun q => z0 ≤ q) s s.heap ∧
  (∀ w ∈ lw_tbl.filter jisNest, va_Nw w s) ∧ (va_AO "ExchangeRows$Row" s ∧ va_AO "ExchangeRows$Seed" s ∧ va_AO "ExchangeRows$Tale" s) ∧ (Cond.arrayOver (.array .long)).before #[] s = true
def jGood (D : va_G) (cA : Nat → ClassId) (z0 ao : Nat) (w : jS) (H : Heap) : Prop :=
  H.size = w.2.2.2.1 ∧ z0 ≤ w.2.2.2.1 ∧ va_P D vwCl (jws cA z0 w) H ∧ (∀ a, (w.2.1 a).1 ≠ 0 → a = ao ∨ (z0 ≤ a ∧ a < w.2.2.2.1)) ∧ w.2.1 ao = (99, 7) ∧ (∀ j, w.1 ao j = jord j) ∧ w.2.2.2.2 = ao ∧ ao < z0
def jrm (k : Nat) : Room := { frames := jfr k, cells := jmc k, slots := jms k, locals := jlo k }
def jls (ls : Array Slot) (n : Nat) (l : jF) : Prop := ls.size = n ∧ lv_wf ls ∧ ∀ i v, jget l i = some v → ls[i]? = some (.val (jg v))
def jpr (l : jF) : List (Nat × Value) := (List.range l.length).filterMap (fun i => (jget l i).map (fun v => (i, jg v)))
theorem jpr_in {l : jF} {i : Nat} {v : jV} (h : jget l i = some v) : (i, jg v) ∈ jpr l :=
  List.mem_filterMap.mpr ⟨i, List.mem_range.mpr (jget_lt h), by rw [h]; rfl⟩
theorem jls_has {ls : Array Slot} {n : Nat} {l : jF} (h : jls ls n l) : lv_has ls n (jpr l) := by
  refine ⟨h.1, h.2.1, fun q hq => ?_⟩
  obtain ⟨i, -, hi⟩ := List.mem_filterMap.mp hq
  cases hv : jget l i with
  | none => rw [hv] at hi; cases hi
  | some v =>
    rw [hv] at hi
    cases hi
    exact h.2.2 i v hv
theorem jls_st1 {ls' : Array Slot} {n i : Nat} {l : jF} {v : jV} (hc : jcat v = 1) (h : lv_has ls' n ((i, jg v) :: (jpr l).filter (fun q => !(q.1 == i) && !(q.1 + 1 == i && q.2.category == 2)))) : jls ls' n (jset v i l) := by
  refine ⟨h.1, h.2.1, fun j u hu => ?_⟩
  rcases jget_jset v i l j u hu with ⟨rfl, rfl⟩ | ⟨h1, h2, h3, -⟩
  · exact h.2.2 (j, jg u) List.mem_cons_self
  · refine h.2.2 (j, jg u) (List.mem_cons_of_mem _ (List.mem_filter.mpr ⟨jpr_in h2, ?_⟩))
    have hcat : (jg u).category = jcat u := jcat_g u
    by_cases e : j + 1 = i
    · have h4 := h3 e
      have h5 : jcat u ≠ 2 := fun q => by rw [(jlong_cat u).mpr q] at h4; cases h4
      simp [h1, hcat, h5]
    · simp [h1, e]
theorem jls_st2 {ls' : Array Slot} {n i : Nat} {l : jF} {v : jV} (hc : jcat v = 2) (h : lv_has ls' n ((i, jg v) :: (jpr l).filter (fun q => !(q.1 == i) && (!(q.1 == i + 1) && !(q.1 + 1 == i && q.2.category == 2))))) : jls ls' n (jset v i l) := by
  refine ⟨h.1, h.2.1, fun j u hu => ?_⟩
  rcases jget_jset v i l j u hu with ⟨rfl, rfl⟩ | ⟨h1, h2, h3, h4⟩
  · exact h.2.2 (j, jg u) List.mem_cons_self
  · refine h.2.2 (j, jg u) (List.mem_cons_of_mem _ (List.mem_filter.mpr ⟨jpr_in h2, ?_⟩))
    have hcat : (jg u).category = jcat u := jcat_g u
    have h6 : j ≠ i + 1 := fun q => by have := h4 q; rw [(jlong_cat v).mpr hc] at this; cases this
    by_cases e : j + 1 = i
    · have h4 := h3 e
      have h5 : jcat u ≠ 2 := fun q => by rw [(jlong_cat u).mpr q] at h4; cases h4
      simp [h1, hcat, h5, h6]
    · simp [h1, e, h6]
theorem jws_at {cA : Nat → ClassId} {z0 : Nat} {w : jS} {a : Nat} (h1 : z0 ≤ a) (h2 : a < w.2.2.2.1) : (jws cA z0 w)[a - z0]? = some (a, jel cA w a) := by
  unfold jws
  rw [List.getElem?_map, List.getElem?_range' (by omega)]
  simp [show z0 + (a - z0) = a by omega]
theorem jws_get {cA : Nat → ClassId} {z0 : Nat} {w : jS} {i : Nat} {q : Nat × va_E} (h : (jws cA z0 w)[i]? = some q) : q = (z0 + i, jel cA w (z0 + i)) ∧ i < w.2.2.2.1 - z0 := by
  have hl : i < w.2.2.2.1 - z0 := by
    have := (List.getElem?_eq_some_iff.mp h).1
    simpa [jws] using this
  have h2 := jws_at (cA := cA) (z0 := z0) (w := w) (a := z0 + i) (by omega) (by omega)
  rw [show z0 + i - z0 = i by omega, h] at h2
  exact ⟨Option.some.inj h2, hl⟩
theorem jws_D {cA : Nat → ClassId} {z0 : Nat} {w : jS} : va_D (fun q => z0 ≤ q) (jws cA z0 w) := by
  refine ⟨fun i j p q hi hj e => ?_, fun k q h => ?_⟩
  · rw [(jws_get hi).1, (jws_get hj).1] at e
    dsimp only at e
    omega
  · rw [(jws_get h).1]
    dsimp only
    omega
theorem jws_set {cA : Nat → ClassId} {z0 : Nat} {w w' : jS} {a : Nat} {e' : va_E} (h1 : z0 ≤ a) (h2 : a < w.2.2.2.1) (hn : w'.2.2.2.1 = w.2.2.2.1) (ho : ∀ b, b ≠ a → jel cA w' b = jel cA w b) (he : jel cA w' a = e') : (jws cA z0 w).set (a - z0) (a, e') = jws cA z0 w' := by
  apply List.ext_getElem?
  intro i
  rw [List.getElem?_set]
  by_cases hi : a - z0 = i
  · subst hi
    have hl : a - z0 < (jws cA z0 w).length := by simp [jws]; omega
    rw [if_pos rfl, if_pos hl, jws_at (w := w') h1 (by omega), he]
  · rw [if_neg hi]
    by_cases hl : i < w.2.2.2.1 - z0
    · have e1 := jws_at (cA := cA) (z0 := z0) (w := w) (a := z0 + i) (by omega) (by omega)
      have e2 := jws_at (cA := cA) (z0 := z0) (w := w') (a := z0 + i) (by omega) (by omega)
      rw [show z0 + i - z0 = i by omega] at e1 e2
      rw [e1, e2, ho (z0 + i) (by omega)]
    · rw [List.getElem?_eq_none (by simp [jws]; omega), List.getElem?_eq_none (by simp [jws]; omega)]
theorem jel_i {cA : Nat → ClassId} {w : jS} {a : Nat} (h : (w.2.1 a).1 = 100) : jel cA w a = .inl (cA 0, (w.2.1 a).2, .inl (fun j => Int32.ofInt (w.1 a j))) := by simp [jel, h]
theorem jel_l {cA : Nat → ClassId} {w : jS} {a : Nat} (h : (w.2.1 a).1 = 101) : jel cA w a = .inl (cA 1, (w.2.1 a).2, .inr (.inl (fun j => Int64.ofInt (w.1 a j)))) := by simp [jel, h]
theorem jel_q {cA : Nat → ClassId} {w : jS} {a : Nat} (h : 102 ≤ (w.2.1 a).1) : jel cA w a = .inl (cA ((w.2.1 a).1 - 100), (w.2.1 a).2, .inr (.inr (.inr (.inr (fun j => w.2.2.1 a j))))) := by
  unfold jel
  rw [if_neg (by omega), if_neg (by omega), if_pos h]
theorem jel_o {cA : Nat → ClassId} {w : jS} {a ci : Nat} (h : (w.2.1 a).1 = ci + 1) (hc : ci < 10) : jel cA w a = .inr (ci, jfs ci w a) := by
  unfold jel
  rw [if_neg (by omega), if_neg (by omega), if_neg (by omega), h]
  rfl
theorem jel_congr {cA : Nat → ClassId} {w w' : jS} {a : Nat} (h1 : w'.2.1 a = w.2.1 a) (h2 : ∀ j, w'.1 a j = w.1 a j) (h3 : ∀ j, w'.2.2.1 a j = w.2.2.1 a j) : jel cA w' a = jel cA w a := by
  have e1 : w'.1 a = w.1 a := funext h2
  have e2 : w'.2.2.1 a = w.2.2.1 a := funext h3
  unfold jel jfs jfv
  rw [h1, e1, e2]
theorem jfs_at {ci k : Nat} {w : jS} {a : Nat} (h : k < jFN ci) : (jfs ci w a)[k]? = some (jg (jfv (jtyc (jFy ci k)) k w a)) := by
  unfold jfs
  rw [List.getElem?_map, List.getElem?_range h]
  rfl
theorem jcl_at {ci : Nat} (h : ci < 10) : vwCl[ci]? = some (jFR ci, jFT ci, jFN ci) := by
  match ci, h with
  | 0, _ => rfl
  | 1, _ => rfl
  | 2, _ => rfl
  | 3, _ => rfl
  | 4, _ => rfl
  | 5, _ => rfl
  | 6, _ => rfl
  | 7, _ => rfl
  | 8, _ => rfl
  | 9, _ => rfl
  | n + 10, h => omega
theorem jty_ok {ci : Nat} (h : ci < 10) : ∀ k, k < jFN ci → parseFieldDescriptor (jFT ci k).2.2.1 = some (jFy ci k) := by
  match ci, h with
  | 0, _ => exact tyX0_ok
  | 1, _ => exact tyX1_ok
  | 2, _ => exact tyX3_ok
  | 3, _ => exact tyX4_ok
  | 4, _ => exact tyX5_ok
  | 5, _ => exact tyX6_ok
  | 6, _ => exact tyX7_ok
  | 7, _ => exact tyX8_ok
  | 8, _ => exact tyX9_ok
  | 9, _ => exact tyX10_ok
  | n + 10, h => omega
theorem jnm_ok {ci : Nat} (h : ci < 10) : ∀ a, a < jFN ci → ∀ b, b < jFN ci → a ≠ b → (jFT ci a).2.1 ≠ (jFT ci b).2.1 := by
  match ci, h with
  | 0, _ => exact nmX0
  | 1, _ => exact nmX1
  | 2, _ => exact nmX3
  | 3, _ => exact nmX4
  | 4, _ => exact nmX5
  | 5, _ => exact nmX6
  | 6, _ => exact nmX7
  | 7, _ => exact nmX8
  | 8, _ => exact nmX9
  | 9, _ => exact nmX10
  | n + 10, h => omega
set_option maxRecDepth 100000 in
theorem jlay_dec : (List.range 10).all (fun ci => (u_ws (jFR ci) (jFT ci) (jFN ci)).all (fun w => decide (w ∈ lw_tbl) && goodWord w)) = true := by decide +kernel
theorem jlay_in {ci : Nat} (h : ci < 10) : ∀ w ∈ u_ws (jFR ci) (jFT ci) (jFN ci), w ∈ jWS := by
  intro w hw
  have h1 := List.all_eq_true.mp (List.all_eq_true.mp jlay_dec ci (List.mem_range.mpr h)) w hw
  simp only [Bool.and_eq_true, decide_eq_true_eq] at h1
  exact List.mem_filter.mpr h1
theorem jWS_good : GoodIn jWS jWS := fun w hw => ⟨hw, good_of_word (List.mem_filter.mp hw).2⟩
theorem jhas3_ok {L : List (Nat × Nat × Nat × Nat)} {a b c : Nat} (h : jhas3 L a b c = true) : ∃ i, (a, b, c, i) ∈ L := by
  obtain ⟨q, hq, h2⟩ := List.any_eq_true.mp h
  simp only [Bool.and_eq_true, Nat.beq_eq] at h2
  obtain ⟨⟨h3, h4⟩, h5⟩ := h2
  refine ⟨q.2.2.2, ?_⟩
  rw [← h3, ← h4, ← h5]
  exact hq
theorem jhas4_ok {L : List (Nat × Nat × Nat × Nat × Nat)} {a b c d : Nat} (h : jhas4 L a b c d = true) : ∃ i, (a, b, c, d, i) ∈ L := by
  obtain ⟨q, hq, h2⟩ := List.any_eq_true.mp h
  simp only [Bool.and_eq_true, Nat.beq_eq] at h2
  obtain ⟨⟨⟨h3, h4⟩, h5⟩, h6⟩ := h2
  refine ⟨q.2.2.2.2, ?_⟩
  rw [← h3, ← h4, ← h5, ← h6]
  exact hq
theorem jhasZ_ok {L : List (Nat × Nat × Int × Nat)} {a b : Nat} {z : Int} (h : jhasZ L a b z = true) : ∃ i, (a, b, z, i) ∈ L := by
  obtain ⟨q, hq, h2⟩ := List.any_eq_true.mp h
  simp only [Bool.and_eq_true, Nat.beq_eq, decide_eq_true_eq] at h2
  obtain ⟨⟨h3, h4⟩, h5⟩ := h2
  refine ⟨q.2.2.2, ?_⟩
  rw [← h3, ← h4, ← h5]
  exact hq
theorem jlk_ML {a b c : Nat} (h : jhas3 jML a b c = true) : Cond.methodLink (jCn a) b (jY c) ∈ jWS := by
  obtain ⟨i, hi⟩ := jhas3_ok h
  exact jwd_in (List.all_eq_true.mp jML_ok _ hi)
theorem jlk_MN {a b c : Nat} (h : jhas3 jMN a b c = true) : Cond.methodLinkNest (jCn a) b (jY c) RX9 ∈ lw_tbl.filter jisNest := by
  obtain ⟨i, hi⟩ := jhas3_ok h
  exact List.mem_filter.mpr ⟨List.mem_of_getElem? (of_decide_eq_true (List.all_eq_true.mp jMN_ok _ hi)), rfl⟩
theorem jlk_FL {a b c d : Nat} (h : jhas4 jFL a b c d = true) : Cond.fieldLink (jCn a) b (jFT c d).1 (jFT c d).2.1 (jFT c d).2.2.1 ∈ jWS ∧ d < jFN c := by
  obtain ⟨i, hi⟩ := jhas4_ok h
  have h1 := List.all_eq_true.mp jFL_ok _ hi
  simp only [Bool.and_eq_true, decide_eq_true_eq] at h1
  exact ⟨jwd_in h1.1, h1.2⟩
theorem jlk_FX {a b c d : Nat} (h : jhas4 jFX a b c d = true) : Cond.fieldLinkNest (jCn a) b (jFT c d).1 (jFT c d).2.1 (jFT c d).2.2.1 RX9 ∈ lw_tbl.filter jisNest ∧ d < jFN c := by
  obtain ⟨i, hi⟩ := jhas4_ok h
  have h1 := List.all_eq_true.mp jFX_ok _ hi
  simp only [Bool.and_eq_true, decide_eq_true_eq] at h1
  exact ⟨List.mem_filter.mpr ⟨List.mem_of_getElem? h1.1, rfl⟩, h1.2⟩
theorem jlk_BL {a b c : Nat} (h : jhas3 jBL a b c = true) : Cond.methodLink (jCn a) b (jBY c) ∈ jWS := by
  obtain ⟨i, hi⟩ := jhas3_ok h
  exact jwd_in (List.all_eq_true.mp jBL_ok _ hi)
theorem jlk_KI {a b : Nat} {z : Int} (h : jhasZ jKI a b z = true) : Cond.constant (jCn a) b (Int32.ofInt z) ∈ jWS := by
  obtain ⟨i, hi⟩ := jhasZ_ok h
  exact jwd_in (List.all_eq_true.mp jKI_ok _ hi)
theorem jlk_KJ {a b : Nat} {z : Int} (h : jhasZ jKJ a b z = true) : Cond.constantLong (jCn a) b (Int64.ofInt z) ∈ jWS := by
  obtain ⟨i, hi⟩ := jhasZ_ok h
  exact jwd_in (List.all_eq_true.mp jKJ_ok _ hi)
theorem jlk_CK {a b c : Nat} (h : jhas3 jCK a b c = true) : Cond.classLink (jCn a) b (jFR c) ∈ jWS := by
  obtain ⟨i, hi⟩ := jhas3_ok h
  exact jwd_in (List.all_eq_true.mp jCK_ok _ hi)
theorem jMW_at {k : Nat} (h : k < 221) : Cond.code (jY k) (jcode k) (jmaxL k) (jret k) ∈ jWS ∧ (jkd k = 1 → Cond.static (jY k) ∈ jWS) ∧ (jkd k ≠ 1 → Cond.instanceMethod (jY k) ∈ jWS) ∧ (jkd k = 0 → Cond.selects (jCn (jown k)) (jY k) (jY k) ∈ jWS) := by
  have h1 : k ∈ jMW.map (·.1) := by rw [jMW_len]; exact List.mem_range.mpr h
  obtain ⟨q, hq, rfl⟩ := List.mem_map.mp h1
  obtain ⟨a, b, c⟩ := jMW_ok q hq
  refine ⟨List.mem_filter.mpr ⟨List.mem_of_getElem? a, rfl⟩, fun e => ?_, fun e => ?_, fun e => List.mem_filter.mpr ⟨List.mem_of_getElem? (c e), rfl⟩⟩
  · rw [e] at b
    exact List.mem_filter.mpr ⟨List.mem_of_getElem? b, rfl⟩
  · rw [show Nat.beq (jkd q.1) 1 = false from by rw [Bool.eq_false_iff]; exact fun z => e (Nat.beq_eq.mp z)] at b
    exact List.mem_filter.mpr ⟨List.mem_of_getElem? b, rfl⟩
theorem jwf_at {k : Nat} {e : jE} (hk : k < 221) (h : e ∈ jtb k) : jwf k e = true := by
  have key : ∀ a b, (List.range' a b).all (fun k => (jtb k).all (jwf k)) = true → a ≤ k → k < a + b → jwf k e = true := fun a b h1 h2 h3 =>
    List.all_eq_true.mp (List.all_eq_true.mp h1 k (List.mem_range'_1.mpr ⟨h2, h3⟩)) e h
  rcases Nat.lt_or_ge k 20 with q | q
  · exact key 0 20 jwfS0 (by omega) (by omega)
  rcases Nat.lt_or_ge k 40 with q | q
  · exact key 20 20 jwfS1 (by omega) (by omega)
  rcases Nat.lt_or_ge k 60 with q | q
  · exact key 40 20 jwfS2 (by omega) (by omega)
  rcases Nat.lt_or_ge k 80 with q | q
  · exact key 60 20 jwfS3 (by omega) (by omega)
  rcases Nat.lt_or_ge k 100 with q | q
  · exact key 80 20 jwfS4 (by omega) (by omega)
  rcases Nat.lt_or_ge k 120 with q | q
  · exact key 100 20 jwfS5 (by omega) (by omega)
  rcases Nat.lt_or_ge k 140 with q | q
  · exact key 120 20 jwfS6 (by omega) (by omega)
  rcases Nat.lt_or_ge k 160 with q | q
  · exact key 140 20 jwfS7 (by omega) (by omega)
  rcases Nat.lt_or_ge k 180 with q | q
  · exact key 160 20 jwfS8 (by omega) (by omega)
  rcases Nat.lt_or_ge k 200 with q | q
  · exact key 180 20 jwfS9 (by omega) (by omega)
  rcases Nat.lt_or_ge k 220 with q | q
  · exact key 200 20 jwfS10 (by omega) (by omega)
  · exact key 220 1 jwfS11 (by omega) (by omega)
theorem jfind_ok : ∀ {T : List jE} {p : Nat} {e : jE}, jfind T p = some e → e ∈ T ∧ e.1 = p
  | [], _, _, h => by cases h
  | x :: r, p, e, h => by
    unfold jfind at h
    cases hb : Nat.beq x.1 p with
    | true =>
      rw [hb] at h
      cases h
      exact ⟨List.mem_cons_self, Nat.beq_eq.mp hb⟩
    | false =>
      rw [hb] at h
      obtain ⟨h1, h2⟩ := jfind_ok h
      exact ⟨List.mem_cons_of_mem _ h1, h2⟩
theorem jnok_at {k : Nat} (h : k < 221) : plainName (jY k).cls = true ∧ (jY k).cls = jCn (jown k) ∧ (jY k).cls ≠ "java/lang/invoke/MethodHandle" ∧ (jY k).cls ≠ "java/lang/invoke/VarHandle" ∧ (parseMethodDescriptor (jY k).desc).map (fun d => d.parameters.length) = some (jna k) ∧ (jkd k = 2 → (jY k).name = "<init>") := by
  have h1 := List.all_eq_true.mp jnok_all k (List.mem_range.mpr h)
  simp only [jnok, Bool.and_eq_true, decide_eq_true_eq, Bool.or_eq_true, Bool.not_eq_true'] at h1
  obtain ⟨⟨⟨⟨⟨a, b⟩, c⟩, d⟩, e⟩, f⟩ := h1
  refine ⟨a, b, c, d, e, fun q => ?_⟩
  rcases f with f | f
  · rw [q] at f
    cases f
  · exact f
