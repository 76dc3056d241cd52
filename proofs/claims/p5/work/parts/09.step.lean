section JSV
variable {p : Program} {l : Launch} {ev : Env} {R : Room} {s : State} {m : MethodId} {args : Array Value} {below : List Frame} {meth : Method} {c : Code} {H : Heap} {locs : List Loc} {cells slots : Nat} {Q : State → Prop}
variable {k : Nat} {D : va_G} {cA : Nat → ClassId} {z0 ao : Nat} {ls : Array Slot} {lc : jF} {st : List jV} {w : jS} {pc len r1 r2 r3 : Nat} {z : Int} {x i : Int} {q v : Option Nat}
theorem j_copy {i0 : Nat} {n d sp : Int} {a a0 : Option Nat} (hC : jCtx k p R s m args meth c D cA z0 ao) (hG : jGood D cA z0 ao w H) (hS : va_S (fun q => z0 ≤ q) s.heap H locs) (hz : H.size = s.heap.size + cells) (hls : ls.size = jmaxL k) (hlk : jhas3 jBL (jown k) i0 1004 = true) (hfr : 1 ≤ jfr k) (hlo : 26 ≤ jlo k) (hd : decode (jcode k) pc = .ok (.invokestatic i0, 3)) (hc8 : jcats st ≤ 8)
    (ha : a.isSome = true) (ha0 : a0.isSome = true) (hk : (w.2.1 (jdr a)).1 = 100) (hk0 : (w.2.1 (jdr a0)).1 = 100) (h1 : 0 ≤ b32 n) (h2 : 0 ≤ b32 d) (h3 : 0 ≤ b32 sp) (h4 : b32 sp + b32 n ≤ ((w.2.1 (jdr a0)).2 : Int)) (h5 : b32 d + b32 n ≤ ((w.2.1 (jdr a)).2 : Int))
    (kk : ∀ (H1 : Heap) (locs1 : List Loc), jGood D cA z0 ao (jcpy w.1 (jdr a0) (b32 sp).toNat (jdr a) (b32 d).toNat (b32 n).toNat, w.2) H1 → va_S (fun q => z0 ≤ q) s.heap H1 locs1 → H1.size = H.size → W p l ev R s m args below meth c H1 locs1 cells slots Q (F0 m (pc + 3) ls (st.map jg))) : W p l ev R s m args below meth c H locs cells slots Q (F0 m pc ls (.int (Int32.ofInt n) :: .int (Int32.ofInt d) :: va_rf a :: .int (Int32.ofInt sp) :: va_rf a0 :: st.map jg)) := by
  obtain ⟨hx, hb, hml, -, -, hown, -, hts, rfl, hK, -⟩ := hC
  rw [jrf_some ha, jrf_some ha0]
  have hat := jGood_at hG (a := jdr a) (by omega) (by omega)
  rw [jel_i hk] at hat
  have hat0 := jGood_at hG (a := jdr a0) (by omega) (by omega)
  rw [jel_i hk0] at hat0
  have hin := jGood_in hG (a := jdr a) (by omega) (by omega)
  obtain ⟨-, -, -, -, -, -, -, -, -, w1, w2, w3⟩ := jWS_bui
  refine va_copyi (A := fun q => z0 ≤ q) (ty := .int) hx hb (hml.trans hls.symm) hown (hts _ (jlk_BL hlk)) (hts _ w1) (hts _ w2) (hts _ w3) hK.1 hG.2.2.1 jws_D hS _ _ 0 0 hat0 hat rfl rfl rfl (j32_neg0 h3) (j32_neg0 h2) (j32_neg0 h1) (by rw [j32_cl, j32_cl]; omega) (by rw [j32_cl, j32_cl]; omega) (fun _ _ => rfl) hfr (by rw [jsum, show nativeFrameWords "java/lang/System" "arraycopy" 5 = 7 by decide]; show jcats st + (7 + 11) ≤ jlo k; omega) hd (fun H1 locs1 hP hD hS1 => ?_)
  refine W.sz (fun hle => ?_)
  have hlo := jP_lo hP hin.1 hin.2
  have hsz : H1.size = H.size := by have := hG.1; omega
  have hGn : jGood D cA z0 ao (jcpy w.1 (jdr a0) (b32 sp).toNat (jdr a) (b32 d).toNat (b32 n).toNat, w.2) H1 := by
    rw [jws_set (w' := (jcpy w.1 (jdr a0) (b32 sp).toNat (jdr a) (b32 d).toNat (b32 n).toNat, w.2)) hin.1 hin.2 rfl (fun b hb => jel_congr rfl (fun j => by simp [jcpy, hb]) (fun j => rfl)) ?_] at hP
    · obtain ⟨g1, g2, g3, g4, g5, g6, g7, g8⟩ := hG
      refine ⟨hsz.trans g1, g2, hP, g4, g5, fun j => ?_, g7, g8⟩
      show jcpy w.1 (jdr a0) (b32 sp).toNat (jdr a) (b32 d).toNat (b32 n).toNat ao j = _
      have : ao ≠ jdr a := by omega
      simp [jcpy, this, g6]
    · rw [jel_i (by exact hk), j32_cl, j32_cl, j32_cl]
      congr 4
      funext j
      by_cases e : (b32 d).toNat ≤ j ∧ j < (b32 d).toNat + (b32 n).toNat
      · simp only [jcpy, va_cpy]
        rw [if_pos ⟨trivial, e⟩, if_pos e]
      · simp only [jcpy, va_cpy]
        rw [if_neg (fun q => e q.2), if_neg e]
  exact kk H1 locs1 hGn hS1 hsz
theorem j_abs (x : Int) : (if 0 ≤ Int32.ofInt x then Int32.ofInt x else 0 - Int32.ofInt x) = Int32.ofInt (if 0 ≤ b32 x then b32 x else 0 - b32 x) := by
  have e : (0 ≤ Int32.ofInt x) ↔ 0 ≤ b32 x := by rw [j32_0, j32_le, b32_0]
  by_cases h : 0 ≤ b32 x
  · rw [if_pos (e.mpr h), if_pos h, j32_of]
  · rw [if_neg (fun q => h (e.mp q)), if_neg h, Int32.ofInt_sub, j32_of]
    rfl
theorem j_max (x y : Int) : (if Int32.ofInt x < Int32.ofInt y then Int32.ofInt y else Int32.ofInt x) = Int32.ofInt (if b32 x < b32 y then b32 y else b32 x) := by
  have e := j32_lt x y
  by_cases h : b32 x < b32 y
  · rw [if_pos (e.mpr h), if_pos h, j32_of]
  · rw [if_neg (fun q => h (e.mp q)), if_neg h, j32_of]

def jisrf : FieldType → Bool
  | .object _ => true
  | .array _ => true
  | _ => false
theorem jisrf_dec : (List.range 10).all (fun ci => (List.range (jFN ci)).all (fun k => !(Nat.beq (jtyc (jFy ci k)) 2) || jisrf (jFy ci k))) = true := by decide +kernel
theorem jty_ref {ci k a : Nat} (hc : ci < 10) (hk : k < jFN ci) (h : jtyc (jFy ci k) = 2) : narrow (jFy ci k) (.ref a) = .ref a ∧ fits (jFy ci k) (.ref a) = true := by
  have h1 := List.all_eq_true.mp (List.all_eq_true.mp jisrf_dec ci (List.mem_range.mpr hc)) k (List.mem_range.mpr hk)
  rw [h] at h1
  have h2 : jisrf (jFy ci k) = true := h1
  cases ht : jFy ci k <;> rw [ht] at h2 <;> first | (cases h2; done) | exact ⟨rfl, rfl⟩
theorem jWS_ord : Cond.fieldLink (jCn 2) 7 RX2 "ORDERS" "[I" ∈ jWS := by
  have h : (decide (Cond.fieldLink (jCn 2) 7 RX2 "ORDERS" "[I" ∈ lw_tbl) && goodWord (Cond.fieldLink (jCn 2) 7 RX2 "ORDERS" "[I")) = true := by decide +kernel
  simp only [Bool.and_eq_true, decide_eq_true_eq] at h
  exact List.mem_filter.mpr h
theorem jbui_r1 {b pc : Nat} {l : jF} {st : List jV} {w : jS} {x} (h : jbui b pc l st w = some x) : b = 1000 ∨ b = 1001 ∨ b = 1002 ∨ b = 1003 ∨ b = 1004 := by
  unfold jbui at h
  split at h <;> simp_all
theorem jbui_lo {b pc : Nat} {l : jF} {st : List jV} {w : jS} {x} (h : jbui b pc l st w = some x) : 1000 ≤ b := by
  rcases jbui_r1 h with e | e | e | e | e <;> omega
theorem j_alen (hC : jCtx k p R s m args meth c D cA z0 ao) (hG : jGood D cA z0 ao w H) (hS : va_S (fun q => z0 ≤ q) s.heap H locs) (hd : decode (jcode k) pc = .ok (.arraylength, 1)) (hq : q.isSome = true) (hk : jird (w.2.1 (jdr q)))
    (kk : W p l ev R s m args below meth c H locs cells slots Q (F0 m (pc + 1) ls (.int (Int32.ofInt ((w.2.1 (jdr q)).2 : Int)) :: st.map jg))) : W p l ev R s m args below meth c H locs cells slots Q (F0 m pc ls (va_rf q :: st.map jg)) := by
  obtain ⟨hx, hb, -, -, -, hown, -, hts, -, hK, -⟩ := hC
  rw [jrf_some hq]
  by_cases h99 : (w.2.1 (jdr q)).1 = 99
  · have ha : jdr q = ao := by
      rcases hG.2.2.2.1 (jdr q) (by omega) with e | ⟨e1, e2⟩
      · exact e
      · exfalso
        have hat := jws_at (cA := cA) (w := w) e1 e2
        unfold jel at hat
        rw [if_neg (by omega), if_neg (by omega), if_neg (by omega), h99] at hat
        obtain ⟨r, hr, -⟩ := hG.2.2.1 _ _ hat
        cases hr
    rw [ha] at kk ⊢
    rw [hG.2.2.2.2.1] at kk
    exact va_tlen hx hb hK.2.2.1 hS rfl hd kk
  · have hk : (w.2.1 (jdr q)).1 = 100 := hk.resolve_right h99
    have hat := jGood_at hG (a := jdr q) (by omega) (by omega)
    rw [jel_i hk] at hat
    exact va_alen hx hb hK.1 hG.2.2.1 _ 0 hat (ty := .int) rfl (j32_nat _) hd kk
theorem j_absL {i0 : Nat} {cc : ByteArray} (hexec : p.tables.exec = Jvm.exec) (hb : c.code = cc) (hml : c.maxLocals = ls.size) {own : String} (hown : s.vm.findClass own = some m.cls) (hlink : (Cond.methodLink own i0 Lib.MathLoose.abs_long.x).before args s = true) (hstat : (Cond.static Lib.MathLoose.abs_long.x).before args s = true) (hini : (Cond.initialized "java/lang/Math").before args s = true) (hcode : (Cond.code Lib.MathLoose.abs_long.x Lib.MathLoose.abs_long.code 2 (some .long)).before args s = true)
    (hframes : 1 ≤ R.frames) (hlocals : ((st.map jg).map fun v => v.category).sum + 13 ≤ R.locals) (hc : cells ≤ R.cells) (hs : slots ≤ R.slots) (hdg : decode cc pc = .ok (.invokestatic i0, 3))
    (kk : W p l ev R s m args below meth c H locs cells slots Q (F0 m (pc + 3) ls (.long (Int64.ofInt (if 0 ≤ b64 x then b64 x else 0 - b64 x)) :: st.map jg))) : W p l ev R s m args below meth c H locs cells slots Q (F0 m pc ls (.long (Int64.ofInt x) :: st.map jg)) := by
  refine va_mabs_long hexec hb hml hown hlink hstat hini hcode hframes hlocals hc hs hdg ?_
  have e : (if 0 < Int64.ofInt x then Int64.ofInt x else -Int64.ofInt x) = Int64.ofInt (if 0 ≤ b64 x then b64 x else 0 - b64 x) := by
    have e : (0 < Int64.ofInt x) ↔ 0 < b64 x := by rw [j64_0, j64_lt, b64_0]
    by_cases h : 0 < b64 x
    · rw [if_pos (e.mpr h), if_pos (by omega), j64_of]
    · rw [if_neg (fun q => h (e.mp q))]
      by_cases h0 : b64 x = 0
      · rw [if_pos (by omega), (j64_nz x).mpr h0, h0]
        rfl
      · rw [if_neg (by omega), Int64.ofInt_sub, j64_of]
        exact (Int64.zero_sub _).symm
  rw [e]
  exact kk

/-- one step, and what it leads to -/
theorem jstep_ok {e : jE} {g : Prop} {pc' : Nat} {l' : jF} {st' : List jV} {w' : jS} (hC : jCtx k p R s m args meth c D cA z0 ao) (hG : jGood D cA z0 ao w H) (hS : va_S (fun q => z0 ≤ q) s.heap H locs) (hz : H.size = s.heap.size + cells) (hcs : cells ≤ jmc k ∧ slots ≤ jms k) (hls : jls ls (jmaxL k) lc) (hwf : jwf k e = true) (h : jstep e lc st w = some (g, pc', l', st', w')) (hg : g)
    (kk : ∀ (H1 : Heap) (locs1 : List Loc) (ls1 : Array Slot), jGood D cA z0 ao w' H1 → va_S (fun q => z0 ≤ q) s.heap H1 locs1 → H1.size = H.size → jls ls1 (jmaxL k) l' → W p l ev R s m args below meth c H1 locs1 cells slots Q (F0 m pc' ls1 (st'.map jg))) :
    W p l ev R s m args below meth c H locs cells slots Q (F0 m e.1 ls (st.map jg)) := by
  have hC0 := hC
  obtain ⟨hx, hb, hml, -, -, hown, -, hts, hR, hK, -⟩ := hC
  obtain ⟨pc, ins, len, r1, r2, r3, z⟩ := e
  show W p l ev R s m args below meth c H locs cells slots Q (F0 m pc ls (st.map jg))
  have hwf0 := hwf
  cases ins <;> (try (simp only [jstep] at h; cases h; done))
  case iload i =>
    simp only [jwf, jlen, Bool.and_eq_true, decide_eq_true_eq, Nat.beq_eq, Nat.blt_eq] at hwf
    obtain ⟨⟨hd, rfl⟩, -⟩ := hwf
    simp only [jstep] at h
    rcases hv : jget lc i with _ | x | x | r <;> rw [hv] at h <;> simp only [jldv] at h <;> (try (cases h; done))
    obtain ⟨rfl, rfl, rfl, rfl, rfl⟩ : _ ∧ _ ∧ _ ∧ _ ∧ _ := by simpa only [Option.some.injEq, Prod.mk.injEq] using h
    exact lv_iload hx hb hd (hls.2.2 _ _ hv) (kk H locs ls hG hS rfl hls)
  case iload_n i =>
    simp only [jwf, jlen, Bool.and_eq_true, decide_eq_true_eq, Nat.beq_eq, Nat.blt_eq] at hwf
    obtain ⟨⟨hd, rfl⟩, -⟩ := hwf
    simp only [jstep] at h
    rcases hv : jget lc i.val with _ | x | x | r <;> rw [hv] at h <;> simp only [jldv] at h <;> (try (cases h; done))
    obtain ⟨rfl, rfl, rfl, rfl, rfl⟩ : _ ∧ _ ∧ _ ∧ _ ∧ _ := by simpa only [Option.some.injEq, Prod.mk.injEq] using h
    exact lv_iload_n hx hb hd rfl (hls.2.2 _ _ hv) (kk H locs ls hG hS rfl hls)
  case lload i =>
    simp only [jwf, jlen, Bool.and_eq_true, decide_eq_true_eq, Nat.beq_eq, Nat.blt_eq] at hwf
    obtain ⟨⟨hd, rfl⟩, -⟩ := hwf
    simp only [jstep] at h
    rcases hv : jget lc i with _ | x | x | r <;> rw [hv] at h <;> simp only [jldv] at h <;> (try (cases h; done))
    obtain ⟨rfl, rfl, rfl, rfl, rfl⟩ : _ ∧ _ ∧ _ ∧ _ ∧ _ := by simpa only [Option.some.injEq, Prod.mk.injEq] using h
    exact lv_lload hx hb hd (hls.2.2 _ _ hv) (kk H locs ls hG hS rfl hls)
  case lload_n i =>
    simp only [jwf, jlen, Bool.and_eq_true, decide_eq_true_eq, Nat.beq_eq, Nat.blt_eq] at hwf
    obtain ⟨⟨hd, rfl⟩, -⟩ := hwf
    simp only [jstep] at h
    rcases hv : jget lc i.val with _ | x | x | r <;> rw [hv] at h <;> simp only [jldv] at h <;> (try (cases h; done))
    obtain ⟨rfl, rfl, rfl, rfl, rfl⟩ : _ ∧ _ ∧ _ ∧ _ ∧ _ := by simpa only [Option.some.injEq, Prod.mk.injEq] using h
    exact lv_lload_n hx hb hd rfl (hls.2.2 _ _ hv) (kk H locs ls hG hS rfl hls)
  case aload i =>
    simp only [jwf, jlen, Bool.and_eq_true, decide_eq_true_eq, Nat.beq_eq, Nat.blt_eq] at hwf
    obtain ⟨⟨hd, rfl⟩, -⟩ := hwf
    simp only [jstep] at h
    rcases hv : jget lc i with _ | x | x | r <;> rw [hv] at h <;> simp only [jldv] at h <;> (try (cases h; done))
    obtain ⟨rfl, rfl, rfl, rfl, rfl⟩ : _ ∧ _ ∧ _ ∧ _ ∧ _ := by simpa only [Option.some.injEq, Prod.mk.injEq] using h
    have hv2 := hls.2.2 _ _ hv
    obtain ⟨a, rfl⟩ : ∃ a, r = some a := ⟨_, jrf_some hg⟩
    exact lv_aload hx hb hd (hls.2.2 _ _ hv) (kk H locs ls hG hS rfl hls)
  case aload_n i =>
    simp only [jwf, jlen, Bool.and_eq_true, decide_eq_true_eq, Nat.beq_eq, Nat.blt_eq] at hwf
    obtain ⟨⟨hd, rfl⟩, -⟩ := hwf
    simp only [jstep] at h
    rcases hv : jget lc i.val with _ | x | x | r <;> rw [hv] at h <;> simp only [jldv] at h <;> (try (cases h; done))
    obtain ⟨rfl, rfl, rfl, rfl, rfl⟩ : _ ∧ _ ∧ _ ∧ _ ∧ _ := by simpa only [Option.some.injEq, Prod.mk.injEq] using h
    have hv2 := hls.2.2 _ _ hv
    obtain ⟨a, rfl⟩ : ∃ a, r = some a := ⟨_, jrf_some hg⟩
    exact lv_aload_n hx hb hd rfl (hls.2.2 _ _ hv) (kk H locs ls hG hS rfl hls)
  case istore i =>
    simp only [jwf, jlen, Bool.and_eq_true, decide_eq_true_eq, Nat.beq_eq, Nat.blt_eq] at hwf
    obtain ⟨⟨hd, rfl⟩, hi⟩ := hwf
    simp only [jstep] at h
    rcases st with _ | ⟨x | x | r, st⟩ <;> simp only [jstv] at h <;> (try (cases h; done))
    obtain ⟨rfl, rfl, rfl, rfl, rfl⟩ : _ ∧ _ ∧ _ ∧ _ ∧ _ := by simpa only [Option.some.injEq, Prod.mk.injEq] using h
    exact lv_istore hx hb hd (jls_has hls) hi rfl (fun ls1 h1 => kk H locs ls1 hG hS rfl (jls_st1 rfl h1))
  case istore_n i =>
    simp only [jwf, jlen, Bool.and_eq_true, decide_eq_true_eq, Nat.beq_eq, Nat.blt_eq] at hwf
    obtain ⟨⟨hd, rfl⟩, hi⟩ := hwf
    simp only [jstep] at h
    rcases st with _ | ⟨x | x | r, st⟩ <;> simp only [jstv] at h <;> (try (cases h; done))
    obtain ⟨rfl, rfl, rfl, rfl, rfl⟩ : _ ∧ _ ∧ _ ∧ _ ∧ _ := by simpa only [Option.some.injEq, Prod.mk.injEq] using h
    exact lv_istore_n hx hb hd rfl (jls_has hls) hi rfl (fun ls1 h1 => kk H locs ls1 hG hS rfl (jls_st1 rfl h1))
  case lstore i =>
    simp only [jwf, jlen, Bool.and_eq_true, decide_eq_true_eq, Nat.beq_eq, Nat.blt_eq] at hwf
    obtain ⟨⟨hd, rfl⟩, hi⟩ := hwf
    simp only [jstep] at h
    rcases st with _ | ⟨x | x | r, st⟩ <;> simp only [jstv] at h <;> (try (cases h; done))
    obtain ⟨rfl, rfl, rfl, rfl, rfl⟩ : _ ∧ _ ∧ _ ∧ _ ∧ _ := by simpa only [Option.some.injEq, Prod.mk.injEq] using h
    exact lv_lstore hx hb hd (jls_has hls) hi rfl (fun ls1 h1 => kk H locs ls1 hG hS rfl (jls_st2 rfl h1))
  case lstore_n i =>
    simp only [jwf, jlen, Bool.and_eq_true, decide_eq_true_eq, Nat.beq_eq, Nat.blt_eq] at hwf
    obtain ⟨⟨hd, rfl⟩, hi⟩ := hwf
    simp only [jstep] at h
    rcases st with _ | ⟨x | x | r, st⟩ <;> simp only [jstv] at h <;> (try (cases h; done))
    obtain ⟨rfl, rfl, rfl, rfl, rfl⟩ : _ ∧ _ ∧ _ ∧ _ ∧ _ := by simpa only [Option.some.injEq, Prod.mk.injEq] using h
    exact lv_lstore_n hx hb hd rfl (jls_has hls) hi rfl (fun ls1 h1 => kk H locs ls1 hG hS rfl (jls_st2 rfl h1))
  case astore i =>
    simp only [jwf, jlen, Bool.and_eq_true, decide_eq_true_eq, Nat.beq_eq, Nat.blt_eq] at hwf
    obtain ⟨⟨hd, rfl⟩, hi⟩ := hwf
    simp only [jstep] at h
    rcases st with _ | ⟨x | x | r, st⟩ <;> simp only [jstv] at h <;> (try (cases h; done))
    obtain ⟨rfl, rfl, rfl, rfl, rfl⟩ : _ ∧ _ ∧ _ ∧ _ ∧ _ := by simpa only [Option.some.injEq, Prod.mk.injEq] using h
    obtain ⟨a, rfl⟩ : ∃ a, r = some a := ⟨_, jrf_some hg⟩
    exact lv_astore hx hb hd (jls_has hls) hi rfl (fun ls1 h1 => kk H locs ls1 hG hS rfl (jls_st1 rfl h1))
  case astore_n i =>
    simp only [jwf, jlen, Bool.and_eq_true, decide_eq_true_eq, Nat.beq_eq, Nat.blt_eq] at hwf
    obtain ⟨⟨hd, rfl⟩, hi⟩ := hwf
    simp only [jstep] at h
    rcases st with _ | ⟨x | x | r, st⟩ <;> simp only [jstv] at h <;> (try (cases h; done))
    obtain ⟨rfl, rfl, rfl, rfl, rfl⟩ : _ ∧ _ ∧ _ ∧ _ ∧ _ := by simpa only [Option.some.injEq, Prod.mk.injEq] using h
    obtain ⟨a, rfl⟩ : ∃ a, r = some a := ⟨_, jrf_some hg⟩
    exact lv_astore_n hx hb hd rfl (jls_has hls) hi rfl (fun ls1 h1 => kk H locs ls1 hG hS rfl (jls_st1 rfl h1))
  case iconst n =>
    simp only [jwf, jlen, Bool.and_eq_true, decide_eq_true_eq, Nat.beq_eq, Nat.blt_eq] at hwf
    obtain ⟨⟨hd, rfl⟩, hi⟩ := hwf
    simp only [jstep] at h
    obtain ⟨rfl, rfl, rfl, rfl, rfl⟩ : _ ∧ _ ∧ _ ∧ _ ∧ _ := by simpa only [Option.some.injEq, Prod.mk.injEq] using h
    exact lv_iconst hx hb hd (by rw [← hi]) (kk H locs ls hG hS rfl hls)
  case bipush n =>
    simp only [jwf, jlen, Bool.and_eq_true, decide_eq_true_eq, Nat.beq_eq, Nat.blt_eq] at hwf
    obtain ⟨⟨hd, rfl⟩, hi⟩ := hwf
    simp only [jstep] at h
    obtain ⟨rfl, rfl, rfl, rfl, rfl⟩ : _ ∧ _ ∧ _ ∧ _ ∧ _ := by simpa only [Option.some.injEq, Prod.mk.injEq] using h
    exact lv_bipush hx hb hd hi (kk H locs ls hG hS rfl hls)
  case sipush n =>
    simp only [jwf, jlen, Bool.and_eq_true, decide_eq_true_eq, Nat.beq_eq, Nat.blt_eq] at hwf
    obtain ⟨⟨hd, rfl⟩, hi⟩ := hwf
    simp only [jstep] at h
    obtain ⟨rfl, rfl, rfl, rfl, rfl⟩ : _ ∧ _ ∧ _ ∧ _ ∧ _ := by simpa only [Option.some.injEq, Prod.mk.injEq] using h
    exact lv_sipush hx hb hd hi (kk H locs ls hG hS rfl hls)
  case lconst n =>
    simp only [jwf, jlen, Bool.and_eq_true, decide_eq_true_eq, Nat.beq_eq, Nat.blt_eq] at hwf
    obtain ⟨⟨hd, rfl⟩, hi⟩ := hwf
    simp only [jstep] at h
    obtain ⟨rfl, rfl, rfl, rfl, rfl⟩ : _ ∧ _ ∧ _ ∧ _ ∧ _ := by simpa only [Option.some.injEq, Prod.mk.injEq] using h
    exact lv_lconst hx hb hd hi (kk H locs ls hG hS rfl hls)
  case ldc n =>
    simp only [jwf, jlen, Bool.and_eq_true, decide_eq_true_eq, Nat.beq_eq, Nat.blt_eq] at hwf
    obtain ⟨⟨hd, rfl⟩, hi⟩ := hwf
    simp only [jstep] at h
    obtain ⟨rfl, rfl, rfl, rfl, rfl⟩ : _ ∧ _ ∧ _ ∧ _ ∧ _ := by simpa only [Option.some.injEq, Prod.mk.injEq] using h
    exact lv_ldc hx hb hown (hts _ (jlk_KI hi)) hd (kk H locs ls hG hS rfl hls)
  case ldc_w n =>
    simp only [jwf, jlen, Bool.and_eq_true, decide_eq_true_eq, Nat.beq_eq, Nat.blt_eq] at hwf
    obtain ⟨⟨hd, rfl⟩, hi⟩ := hwf
    simp only [jstep] at h
    obtain ⟨rfl, rfl, rfl, rfl, rfl⟩ : _ ∧ _ ∧ _ ∧ _ ∧ _ := by simpa only [Option.some.injEq, Prod.mk.injEq] using h
    exact lv_ldcw hx hb hown (hts _ (jlk_KI hi)) hd (kk H locs ls hG hS rfl hls)
  case ldc2_w n =>
    simp only [jwf, jlen, Bool.and_eq_true, decide_eq_true_eq, Nat.beq_eq, Nat.blt_eq] at hwf
    obtain ⟨⟨hd, rfl⟩, hi⟩ := hwf
    simp only [jstep] at h
    obtain ⟨rfl, rfl, rfl, rfl, rfl⟩ : _ ∧ _ ∧ _ ∧ _ ∧ _ := by simpa only [Option.some.injEq, Prod.mk.injEq] using h
    exact lv_ldc2 hx hb hown (hts _ (jlk_KJ hi)) hd (kk H locs ls hG hS rfl hls)
  case iadd =>
    simp only [jwf, jlen, Bool.and_eq_true, decide_eq_true_eq, Nat.beq_eq, Nat.blt_eq] at hwf
    obtain ⟨⟨hd, rfl⟩, -⟩ := hwf
    simp only [jstep] at h
    rcases st with _ | ⟨y | y | r, _ | ⟨x | x | r2, st⟩⟩ <;> simp only [jbin] at h <;> (try (cases h; done))
    obtain ⟨rfl, rfl, rfl, rfl, rfl⟩ : _ ∧ _ ∧ _ ∧ _ ∧ _ := by simpa only [Option.some.injEq, Prod.mk.injEq] using h
    refine lv_iadd hx hb hd ?_
    rw [← Int32.ofInt_add]
    exact kk H locs ls hG hS rfl hls
  case isub =>
    simp only [jwf, jlen, Bool.and_eq_true, decide_eq_true_eq, Nat.beq_eq, Nat.blt_eq] at hwf
    obtain ⟨⟨hd, rfl⟩, -⟩ := hwf
    simp only [jstep] at h
    rcases st with _ | ⟨y | y | r, _ | ⟨x | x | r2, st⟩⟩ <;> simp only [jbin] at h <;> (try (cases h; done))
    obtain ⟨rfl, rfl, rfl, rfl, rfl⟩ : _ ∧ _ ∧ _ ∧ _ ∧ _ := by simpa only [Option.some.injEq, Prod.mk.injEq] using h
    refine lv_isub hx hb hd ?_
    rw [← Int32.ofInt_sub]
    exact kk H locs ls hG hS rfl hls
  case imul =>
    simp only [jwf, jlen, Bool.and_eq_true, decide_eq_true_eq, Nat.beq_eq, Nat.blt_eq] at hwf
    obtain ⟨⟨hd, rfl⟩, -⟩ := hwf
    simp only [jstep] at h
    rcases st with _ | ⟨y | y | r, _ | ⟨x | x | r2, st⟩⟩ <;> simp only [jbin] at h <;> (try (cases h; done))
    obtain ⟨rfl, rfl, rfl, rfl, rfl⟩ : _ ∧ _ ∧ _ ∧ _ ∧ _ := by simpa only [Option.some.injEq, Prod.mk.injEq] using h
    refine lv_imul hx hb hd ?_
    rw [← Int32.ofInt_mul]
    exact kk H locs ls hG hS rfl hls
  case iand =>
    simp only [jwf, jlen, Bool.and_eq_true, decide_eq_true_eq, Nat.beq_eq, Nat.blt_eq] at hwf
    obtain ⟨⟨hd, rfl⟩, -⟩ := hwf
    simp only [jstep] at h
    rcases st with _ | ⟨y | y | r, _ | ⟨x | x | r2, st⟩⟩ <;> simp only [jbin] at h <;> (try (cases h; done))
    obtain ⟨rfl, rfl, rfl, rfl, rfl⟩ : _ ∧ _ ∧ _ ∧ _ ∧ _ := by simpa only [Option.some.injEq, Prod.mk.injEq] using h
    refine lv_iand hx hb hd ?_
    rw [j32_and]
    exact kk H locs ls hG hS rfl hls
  case ior =>
    simp only [jwf, jlen, Bool.and_eq_true, decide_eq_true_eq, Nat.beq_eq, Nat.blt_eq] at hwf
    obtain ⟨⟨hd, rfl⟩, -⟩ := hwf
    simp only [jstep] at h
    rcases st with _ | ⟨y | y | r, _ | ⟨x | x | r2, st⟩⟩ <;> simp only [jbin] at h <;> (try (cases h; done))
    obtain ⟨rfl, rfl, rfl, rfl, rfl⟩ : _ ∧ _ ∧ _ ∧ _ ∧ _ := by simpa only [Option.some.injEq, Prod.mk.injEq] using h
    refine lv_ior hx hb hd ?_
    rw [j32_or]
    exact kk H locs ls hG hS rfl hls
  case ishl =>
    simp only [jwf, jlen, Bool.and_eq_true, decide_eq_true_eq, Nat.beq_eq, Nat.blt_eq] at hwf
    obtain ⟨⟨hd, rfl⟩, -⟩ := hwf
    simp only [jstep] at h
    rcases st with _ | ⟨y | y | r, _ | ⟨x | x | r2, st⟩⟩ <;> simp only [jbin] at h <;> (try (cases h; done))
    obtain ⟨rfl, rfl, rfl, rfl, rfl⟩ : _ ∧ _ ∧ _ ∧ _ ∧ _ := by simpa only [Option.some.injEq, Prod.mk.injEq] using h
    refine lv_ishl hx hb hd ?_
    rw [j32_shl]
    exact kk H locs ls hG hS rfl hls
  case ladd =>
    simp only [jwf, jlen, Bool.and_eq_true, decide_eq_true_eq, Nat.beq_eq, Nat.blt_eq] at hwf
    obtain ⟨⟨hd, rfl⟩, -⟩ := hwf
    simp only [jstep] at h
    rcases st with _ | ⟨y | y | r, _ | ⟨x | x | r2, st⟩⟩ <;> simp only [jbinL] at h <;> (try (cases h; done))
    obtain ⟨rfl, rfl, rfl, rfl, rfl⟩ : _ ∧ _ ∧ _ ∧ _ ∧ _ := by simpa only [Option.some.injEq, Prod.mk.injEq] using h
    refine lv_ladd hx hb hd ?_
    rw [← Int64.ofInt_add]
    exact kk H locs ls hG hS rfl hls
  case lsub =>
    simp only [jwf, jlen, Bool.and_eq_true, decide_eq_true_eq, Nat.beq_eq, Nat.blt_eq] at hwf
    obtain ⟨⟨hd, rfl⟩, -⟩ := hwf
    simp only [jstep] at h
    rcases st with _ | ⟨y | y | r, _ | ⟨x | x | r2, st⟩⟩ <;> simp only [jbinL] at h <;> (try (cases h; done))
    obtain ⟨rfl, rfl, rfl, rfl, rfl⟩ : _ ∧ _ ∧ _ ∧ _ ∧ _ := by simpa only [Option.some.injEq, Prod.mk.injEq] using h
    refine lv_lsub hx hb hd ?_
    rw [← Int64.ofInt_sub]
    exact kk H locs ls hG hS rfl hls
  case lmul =>
    simp only [jwf, jlen, Bool.and_eq_true, decide_eq_true_eq, Nat.beq_eq, Nat.blt_eq] at hwf
    obtain ⟨⟨hd, rfl⟩, -⟩ := hwf
    simp only [jstep] at h
    rcases st with _ | ⟨y | y | r, _ | ⟨x | x | r2, st⟩⟩ <;> simp only [jbinL] at h <;> (try (cases h; done))
    obtain ⟨rfl, rfl, rfl, rfl, rfl⟩ : _ ∧ _ ∧ _ ∧ _ ∧ _ := by simpa only [Option.some.injEq, Prod.mk.injEq] using h
    refine lv_lmul hx hb hd ?_
    rw [← Int64.ofInt_mul]
    exact kk H locs ls hG hS rfl hls
  case idiv =>
    simp only [jwf, jlen, Bool.and_eq_true, decide_eq_true_eq, Nat.beq_eq, Nat.blt_eq] at hwf
    obtain ⟨⟨hd, rfl⟩, -⟩ := hwf
    simp only [jstep] at h
    rcases st with _ | ⟨y | y | r, _ | ⟨x | x | r2, st⟩⟩ <;> (try (simp only at h; cases h; done))
    simp only at h
    obtain ⟨rfl, rfl, rfl, rfl, rfl⟩ : _ ∧ _ ∧ _ ∧ _ ∧ _ := by simpa only [Option.some.injEq, Prod.mk.injEq] using h
    refine lv_idiv hx hb hd (fun e => hg ((j32_nz y).mp e)) ?_
    rw [j32_div]
    exact kk H locs ls hG hS rfl hls
  case irem =>
    simp only [jwf, jlen, Bool.and_eq_true, decide_eq_true_eq, Nat.beq_eq, Nat.blt_eq] at hwf
    obtain ⟨⟨hd, rfl⟩, -⟩ := hwf
    simp only [jstep] at h
    rcases st with _ | ⟨y | y | r, _ | ⟨x | x | r2, st⟩⟩ <;> (try (simp only at h; cases h; done))
    simp only at h
    obtain ⟨rfl, rfl, rfl, rfl, rfl⟩ : _ ∧ _ ∧ _ ∧ _ ∧ _ := by simpa only [Option.some.injEq, Prod.mk.injEq] using h
    refine lv_irem hx hb hd (fun e => hg ((j32_nz y).mp e)) ?_
    rw [j32_rem]
    exact kk H locs ls hG hS rfl hls
  case ldiv =>
    simp only [jwf, jlen, Bool.and_eq_true, decide_eq_true_eq, Nat.beq_eq, Nat.blt_eq] at hwf
    obtain ⟨⟨hd, rfl⟩, -⟩ := hwf
    simp only [jstep] at h
    rcases st with _ | ⟨y | y | r, _ | ⟨x | x | r2, st⟩⟩ <;> (try (simp only at h; cases h; done))
    simp only at h
    obtain ⟨rfl, rfl, rfl, rfl, rfl⟩ : _ ∧ _ ∧ _ ∧ _ ∧ _ := by simpa only [Option.some.injEq, Prod.mk.injEq] using h
    refine lv_ldiv hx hb hd (fun e => hg ((j64_nz y).mp e)) ?_
    rw [j64_div]
    exact kk H locs ls hG hS rfl hls
  case lrem =>
    simp only [jwf, jlen, Bool.and_eq_true, decide_eq_true_eq, Nat.beq_eq, Nat.blt_eq] at hwf
    obtain ⟨⟨hd, rfl⟩, -⟩ := hwf
    simp only [jstep] at h
    rcases st with _ | ⟨y | y | r, _ | ⟨x | x | r2, st⟩⟩ <;> (try (simp only at h; cases h; done))
    simp only at h
    obtain ⟨rfl, rfl, rfl, rfl, rfl⟩ : _ ∧ _ ∧ _ ∧ _ ∧ _ := by simpa only [Option.some.injEq, Prod.mk.injEq] using h
    refine lv_lrem hx hb hd (fun e => hg ((j64_nz y).mp e)) ?_
    rw [j64_rem]
    exact kk H locs ls hG hS rfl hls
  case ineg =>
    simp only [jwf, jlen, Bool.and_eq_true, decide_eq_true_eq, Nat.beq_eq, Nat.blt_eq] at hwf
    obtain ⟨⟨hd, rfl⟩, -⟩ := hwf
    simp only [jstep] at h
    rcases st with _ | ⟨x | x | r, st⟩ <;> (try (simp only at h; cases h; done))
    simp only at h
    obtain ⟨rfl, rfl, rfl, rfl, rfl⟩ : _ ∧ _ ∧ _ ∧ _ ∧ _ := by simpa only [Option.some.injEq, Prod.mk.injEq] using h
    refine lv_ineg hx hb hd ?_
    rw [← Int32.ofInt_neg]
    exact kk H locs ls hG hS rfl hls
  case lneg =>
    simp only [jwf, jlen, Bool.and_eq_true, decide_eq_true_eq, Nat.beq_eq, Nat.blt_eq] at hwf
    obtain ⟨⟨hd, rfl⟩, -⟩ := hwf
    simp only [jstep] at h
    rcases st with _ | ⟨x | x | r, st⟩ <;> (try (simp only at h; cases h; done))
    simp only at h
    obtain ⟨rfl, rfl, rfl, rfl, rfl⟩ : _ ∧ _ ∧ _ ∧ _ ∧ _ := by simpa only [Option.some.injEq, Prod.mk.injEq] using h
    refine lv_lneg hx hb hd ?_
    rw [← Int64.ofInt_neg]
    exact kk H locs ls hG hS rfl hls
  case i2l =>
    simp only [jwf, jlen, Bool.and_eq_true, decide_eq_true_eq, Nat.beq_eq, Nat.blt_eq] at hwf
    obtain ⟨⟨hd, rfl⟩, -⟩ := hwf
    simp only [jstep] at h
    rcases st with _ | ⟨x | x | r, st⟩ <;> (try (simp only at h; cases h; done))
    simp only at h
    obtain ⟨rfl, rfl, rfl, rfl, rfl⟩ : _ ∧ _ ∧ _ ∧ _ ∧ _ := by simpa only [Option.some.injEq, Prod.mk.injEq] using h
    exact lv_i2l hx hb hd (j_i2l x) (kk H locs ls hG hS rfl hls)
  case l2i =>
    simp only [jwf, jlen, Bool.and_eq_true, decide_eq_true_eq, Nat.beq_eq, Nat.blt_eq] at hwf
    obtain ⟨⟨hd, rfl⟩, -⟩ := hwf
    simp only [jstep] at h
    rcases st with _ | ⟨x | x | r, st⟩ <;> (try (simp only at h; cases h; done))
    simp only at h
    obtain ⟨rfl, rfl, rfl, rfl, rfl⟩ : _ ∧ _ ∧ _ ∧ _ ∧ _ := by simpa only [Option.some.injEq, Prod.mk.injEq] using h
    exact lv_l2i hx hb hd (j_l2i x) (kk H locs ls hG hS rfl hls)
  case lcmp =>
    simp only [jwf, jlen, Bool.and_eq_true, decide_eq_true_eq, Nat.beq_eq, Nat.blt_eq] at hwf
    obtain ⟨⟨hd, rfl⟩, -⟩ := hwf
    simp only [jstep] at h
    rcases st with _ | ⟨y | y | r, _ | ⟨x | x | r2, st⟩⟩ <;> (try (simp only at h; cases h; done))
    simp only at h
    obtain ⟨rfl, rfl, rfl, rfl, rfl⟩ : _ ∧ _ ∧ _ ∧ _ ∧ _ := by simpa only [Option.some.injEq, Prod.mk.injEq] using h
    refine W.lcmp hx hb hd ?_
    rw [j_lcmp]
    exact kk H locs ls hG hS rfl hls
  case iinc i n =>
    simp only [jwf, jlen, Bool.and_eq_true, decide_eq_true_eq, Nat.beq_eq, Nat.blt_eq] at hwf
    obtain ⟨⟨hd, rfl⟩, hi⟩ := hwf
    simp only [jstep] at h
    rcases hv : jget lc i with _ | x | x | r <;> rw [hv] at h <;> (try (simp only at h; cases h; done))
    simp only at h
    obtain ⟨rfl, rfl, rfl, rfl, rfl⟩ : _ ∧ _ ∧ _ ∧ _ ∧ _ := by simpa only [Option.some.injEq, Prod.mk.injEq] using h
    obtain ⟨k9, hk9⟩ := List.getElem?_of_mem (jpr_in hv)
    exact lv_iinc (v := Int32.ofInt (x + n)) hx hb hd (jls_has hls) hk9 (Int32.ofInt_add ..).symm hi rfl (fun ls1 h1 => kk H locs ls1 hG hS rfl (jls_st1 (v := .inl (x + n)) rfl h1))
  case dup =>
    simp only [jwf, jlen, Bool.and_eq_true, decide_eq_true_eq, Nat.beq_eq, Nat.blt_eq] at hwf
    obtain ⟨⟨hd, rfl⟩, -⟩ := hwf
    simp only [jstep] at h
    rcases st with _ | ⟨x | x | r, st⟩ <;> (try (simp only at h; cases h; done)) <;> simp only at h
    · obtain ⟨rfl, rfl, rfl, rfl, rfl⟩ : _ ∧ _ ∧ _ ∧ _ ∧ _ := by simpa only [Option.some.injEq, Prod.mk.injEq] using h
      exact lv_dup hx hb hd rfl (kk H locs ls hG hS rfl hls)
    · obtain ⟨rfl, rfl, rfl, rfl, rfl⟩ : _ ∧ _ ∧ _ ∧ _ ∧ _ := by simpa only [Option.some.injEq, Prod.mk.injEq] using h
      exact lv_dup hx hb hd (jcat_g (.inr (.inr r))) (kk H locs ls hG hS rfl hls)
  case dup2 =>
    simp only [jwf, jlen, Bool.and_eq_true, decide_eq_true_eq, Nat.beq_eq, Nat.blt_eq] at hwf
    obtain ⟨⟨hd, rfl⟩, -⟩ := hwf
    simp only [jstep] at h
    rcases st with _ | ⟨x | x | r, _ | ⟨y | y | r2, st⟩⟩ <;> (try (simp only at h; cases h; done))
    simp only at h
    obtain ⟨rfl, rfl, rfl, rfl, rfl⟩ : _ ∧ _ ∧ _ ∧ _ ∧ _ := by simpa only [Option.some.injEq, Prod.mk.injEq] using h
    exact lv_dup2_11 hx hb hd rfl (jcat_g (.inr (.inr r2))) (kk H locs ls hG hS rfl hls)
  case pop =>
    simp only [jwf, jlen, Bool.and_eq_true, decide_eq_true_eq, Nat.beq_eq, Nat.blt_eq] at hwf
    obtain ⟨⟨hd, rfl⟩, -⟩ := hwf
    simp only [jstep] at h
    rcases st with _ | ⟨x | x | r, st⟩ <;> (try (simp only at h; cases h; done))
    simp only at h
    obtain ⟨rfl, rfl, rfl, rfl, rfl⟩ : _ ∧ _ ∧ _ ∧ _ ∧ _ := by simpa only [Option.some.injEq, Prod.mk.injEq] using h
    exact lv_pop hx hb hd rfl (kk H locs ls hG hS rfl hls)
  case goto off =>
    simp only [jwf, jlen, Bool.and_eq_true, decide_eq_true_eq, Nat.beq_eq, Nat.blt_eq] at hwf
    obtain ⟨⟨hd, rfl⟩, hi⟩ := hwf
    simp only [jstep] at h
    obtain ⟨rfl, rfl, rfl, rfl, rfl⟩ : _ ∧ _ ∧ _ ∧ _ ∧ _ := by simpa only [Option.some.injEq, Prod.mk.injEq] using h
    exact lv_goto hx hb hd hi (kk H locs ls hG hS rfl hls)
  case getfield i =>
    simp only [jstep] at h
    rcases st with _ | ⟨x | x | r, st⟩ <;> (try (simp only at h; cases h; done))
    simp only at h
    obtain ⟨rfl, rfl, rfl, rfl, rfl⟩ : _ ∧ _ ∧ _ ∧ _ ∧ _ := by simpa only [Option.some.injEq, Prod.mk.injEq] using h
    exact j_getf hC0 hG hwf0 hg.1 hg.2 (kk H locs ls hG hS rfl hls)
  case putfield i =>
    have hwf1 := hwf
    simp only [jwf, jlen, Bool.and_eq_true, decide_eq_true_eq, Nat.beq_eq, Nat.blt_eq] at hwf1
    obtain ⟨-, ⟨⟨hlk9, hci⟩, hty⟩, -⟩ := hwf1
    simp only [jstep] at h
    rcases st with _ | ⟨x, _ | ⟨y | y | r, st⟩⟩ <;> (try (simp only at h; cases h; done))
    simp only at h
    rcases r3 with _ | _ | _ | _ | r3 <;> rcases x with x | x | x <;> simp only [jput] at h <;> (try (cases h; done))
    · obtain ⟨rfl, rfl, rfl, rfl, rfl⟩ : _ ∧ _ ∧ _ ∧ _ ∧ _ := by simpa only [Option.some.injEq, Prod.mk.injEq] using h
      refine j_putf (v := .int (Int32.ofInt x)) (w' := (jup w.1 (jdr r) r2 x, w.2)) hC0 hG hS hz hwf0 hg.2 hg.1 (by rw [jtyc_0 hty]; rfl) (by rw [jtyc_0 hty]; rfl) (fun H1 hr2 hsz hP => jGood_up hG (by omega) (by omega) ?_ hsz hP) (fun H1 locs1 a b e => kk H1 locs1 ls a b e hls)
      rw [jel_o (by exact hg.1) hci, jfs_set hr2 (by rw [hty]; decide), hty]
      rfl
    · obtain ⟨rfl, rfl, rfl, rfl, rfl⟩ : _ ∧ _ ∧ _ ∧ _ ∧ _ := by simpa only [Option.some.injEq, Prod.mk.injEq] using h
      refine j_putf (v := .long (Int64.ofInt x)) (w' := (jup w.1 (jdr r) r2 x, w.2)) hC0 hG hS hz hwf0 hg.2 hg.1 (by rw [jtyc_1 hty]; rfl) (by rw [jtyc_1 hty]; rfl) (fun H1 hr2 hsz hP => jGood_up hG (by omega) (by omega) ?_ hsz hP) (fun H1 locs1 a b e => kk H1 locs1 ls a b e hls)
      rw [jel_o (by exact hg.1) hci, jfs_set hr2 (by rw [hty]; decide), hty]
      rfl
    · obtain ⟨rfl, rfl, rfl, rfl, rfl⟩ : _ ∧ _ ∧ _ ∧ _ ∧ _ := by simpa only [Option.some.injEq, Prod.mk.injEq] using h
      obtain ⟨a, rfl⟩ : ∃ a, x = some a := ⟨_, jrf_some hg.2.2⟩
      have hnf : narrow (jFy r1 r2) (.ref a) = .ref a ∧ fits (jFy r1 r2) (.ref a) = true := jty_ref hci (jlk_FL hlk9).2 hty
      refine j_putf (v := .ref a) (w' := (w.1, w.2.1, jupr w.2.2.1 (jdr r) r2 (some a), w.2.2.2)) hC0 hG hS hz hwf0 hg.2.1 hg.1 hnf.1 hnf.2 (fun H1 hr2 hsz hP => jGood_upr hG (by omega) (by omega) ?_ hsz hP) (fun H1 locs1 a b e => kk H1 locs1 ls a b e hls)
      rw [jel_o (by exact hg.1) hci, jfs_setr hr2 hty]
      rfl
    · obtain ⟨rfl, rfl, rfl, rfl, rfl⟩ : _ ∧ _ ∧ _ ∧ _ ∧ _ := by simpa only [Option.some.injEq, Prod.mk.injEq] using h
      have h01 : Int32.ofInt x = 0 ∨ Int32.ofInt x = 1 := by rcases hg.2.2 with e | e; exact Or.inl ((j32_nz x).mpr e); exact Or.inr (by rw [show (1 : Int32) = Int32.ofInt 1 from rfl, j32_eq, e]; decide)
      refine j_putf (v := .int (Int32.ofInt x)) (w' := (jup w.1 (jdr r) r2 x, w.2)) hC0 hG hS hz hwf0 hg.2.1 hg.1 (by rw [jtyc_3 hty]; rcases h01 with e | e <;> rw [e] <;> decide) (by rw [jtyc_3 hty]; rcases h01 with e | e <;> rw [e] <;> decide) (fun H1 hr2 hsz hP => jGood_up hG (by omega) (by omega) ?_ hsz hP) (fun H1 locs1 a b e => kk H1 locs1 ls a b e hls)
      rw [jel_o (by exact hg.1) hci, jfs_set hr2 (by rw [hty]; decide), hty]
      rfl
  case getstatic i =>
    simp only [jwf, jlen, Bool.and_eq_true, decide_eq_true_eq, Nat.beq_eq, Nat.blt_eq] at hwf
    obtain ⟨⟨hd, rfl⟩, h1, rfl⟩ := hwf
    simp only [jstep] at h
    obtain ⟨rfl, rfl, rfl, rfl, rfl⟩ : _ ∧ _ ∧ _ ∧ _ ∧ _ := by simpa only [Option.some.injEq, Prod.mk.injEq] using h
    rw [h1] at hown
    refine va_gets hx hb hK.2.1 hS hown (hts _ jWS_ord) (fun _ h9 => h9) hd ?_
    have := kk H locs ls hG hS rfl hls
    rw [hG.2.2.2.2.2.2.1] at this
    exact this
  case arraylength =>
    simp only [jwf, jlen, Bool.and_eq_true, decide_eq_true_eq, Nat.beq_eq, Nat.blt_eq] at hwf
    obtain ⟨⟨hd, rfl⟩, -⟩ := hwf
    simp only [jstep] at h
    rcases st with _ | ⟨x | x | r, st⟩ <;> (try (simp only at h; cases h; done))
    simp only at h
    obtain ⟨rfl, rfl, rfl, rfl, rfl⟩ : _ ∧ _ ∧ _ ∧ _ ∧ _ := by simpa only [Option.some.injEq, Prod.mk.injEq] using h
    refine j_alen hC0 hG hS hd hg.1 hg.2 ?_
    exact kk H locs ls hG hS rfl hls
  case iaload =>
    simp only [jwf, jlen, Bool.and_eq_true, decide_eq_true_eq, Nat.beq_eq, Nat.blt_eq] at hwf
    obtain ⟨⟨hd, rfl⟩, -⟩ := hwf
    simp only [jstep] at h
    rcases st with _ | ⟨i | i | i, _ | ⟨x | x | r, st⟩⟩ <;> (try (simp only at h; cases h; done))
    simp only at h
    obtain ⟨rfl, rfl, rfl, rfl, rfl⟩ : _ ∧ _ ∧ _ ∧ _ ∧ _ := by simpa only [Option.some.injEq, Prod.mk.injEq] using h
    exact j_iald hC0 hG hS hd hg.1 hg.2.1 hg.2.2.1 hg.2.2.2 (kk H locs ls hG hS rfl hls)
  case laload =>
    simp only [jwf, jlen, Bool.and_eq_true, decide_eq_true_eq, Nat.beq_eq, Nat.blt_eq] at hwf
    obtain ⟨⟨hd, rfl⟩, -⟩ := hwf
    simp only [jstep] at h
    rcases st with _ | ⟨i | i | i, _ | ⟨x | x | r, st⟩⟩ <;> (try (simp only at h; cases h; done))
    simp only at h
    obtain ⟨rfl, rfl, rfl, rfl, rfl⟩ : _ ∧ _ ∧ _ ∧ _ ∧ _ := by simpa only [Option.some.injEq, Prod.mk.injEq] using h
    exact j_lald hC0 hG hd hg.1 hg.2.1 hg.2.2.1 hg.2.2.2 (kk H locs ls hG hS rfl hls)
  case aaload =>
    simp only [jwf, jlen, Bool.and_eq_true, decide_eq_true_eq, Nat.beq_eq, Nat.blt_eq] at hwf
    obtain ⟨⟨hd, rfl⟩, -⟩ := hwf
    simp only [jstep] at h
    rcases st with _ | ⟨i | i | i, _ | ⟨x | x | r, st⟩⟩ <;> (try (simp only at h; cases h; done))
    simp only at h
    obtain ⟨rfl, rfl, rfl, rfl, rfl⟩ : _ ∧ _ ∧ _ ∧ _ ∧ _ := by simpa only [Option.some.injEq, Prod.mk.injEq] using h
    exact j_aald hC0 hG hd hg.1 hg.2.1 hg.2.2.1 hg.2.2.2 (kk H locs ls hG hS rfl hls)
  case iastore =>
    simp only [jwf, jlen, Bool.and_eq_true, decide_eq_true_eq, Nat.beq_eq, Nat.blt_eq] at hwf
    obtain ⟨⟨hd, rfl⟩, -⟩ := hwf
    simp only [jstep] at h
    rcases st with _ | ⟨x | x | x, _ | ⟨i | i | i, _ | ⟨y | y | r, st⟩⟩⟩ <;> (try (simp only at h; cases h; done))
    simp only at h
    obtain ⟨rfl, rfl, rfl, rfl, rfl⟩ : _ ∧ _ ∧ _ ∧ _ ∧ _ := by simpa only [Option.some.injEq, Prod.mk.injEq] using h
    exact j_iast hC0 hG hS hz hd hg.1 hg.2.1 hg.2.2.1 hg.2.2.2 (fun H1 locs1 a b e => kk H1 locs1 ls a b e hls)
  case lastore =>
    simp only [jwf, jlen, Bool.and_eq_true, decide_eq_true_eq, Nat.beq_eq, Nat.blt_eq] at hwf
    obtain ⟨⟨hd, rfl⟩, -⟩ := hwf
    simp only [jstep] at h
    rcases st with _ | ⟨x | x | x, _ | ⟨i | i | i, _ | ⟨y | y | r, st⟩⟩⟩ <;> (try (simp only at h; cases h; done))
    simp only at h
    obtain ⟨rfl, rfl, rfl, rfl, rfl⟩ : _ ∧ _ ∧ _ ∧ _ ∧ _ := by simpa only [Option.some.injEq, Prod.mk.injEq] using h
    exact j_last hC0 hG hS hz hd hg.1 hg.2.1 hg.2.2.1 hg.2.2.2 (fun H1 locs1 a b e => kk H1 locs1 ls a b e hls)
  case aastore =>
    simp only [jwf, jlen, Bool.and_eq_true, decide_eq_true_eq, Nat.beq_eq, Nat.blt_eq] at hwf
    obtain ⟨⟨hd, rfl⟩, -⟩ := hwf
    simp only [jstep] at h
    rcases st with _ | ⟨x | x | x, _ | ⟨i | i | i, _ | ⟨y | y | r, st⟩⟩⟩ <;> (try (simp only at h; cases h; done))
    simp only at h
    obtain ⟨rfl, rfl, rfl, rfl, rfl⟩ : _ ∧ _ ∧ _ ∧ _ ∧ _ := by simpa only [Option.some.injEq, Prod.mk.injEq] using h
    exact j_aast hC0 hG hS hz hd hg.1 hg.2.1 hg.2.2.1 hg.2.2.2.1 hg.2.2.2.2 (fun H1 locs1 a b e => kk H1 locs1 ls a b e hls)
  case invokestatic i =>
    simp only [jstep] at h
    have hr1 : 1000 ≤ r1 := jbui_lo h
    simp only [jwf, jlen, Bool.and_eq_true, decide_eq_true_eq, Nat.beq_eq, Nat.blt_eq, Bool.or_eq_true] at hwf
    obtain ⟨⟨hd, rfl⟩, hw⟩ := hwf
    have hw := hw.resolve_left (fun q => by have := q.1.1; omega)
    obtain ⟨hr2, hw⟩ := hw
    simp only [jwbui, Bool.and_eq_true, Bool.or_eq_true, Bool.not_eq_true', Nat.ble_eq] at hw
    obtain ⟨⟨⟨hlk, hfr⟩, hlo⟩, hlo2⟩ := hw
    have hlk2 := hts _ (jlk_BL hlk)
    obtain ⟨-, -, w1, w2, w3, w4, w5, w6, w7, -⟩ := jWS_bui
    subst hR
    rcases jbui_r1 h with rfl | rfl | rfl | rfl | rfl
    · omega
    · rcases st with _ | ⟨x | x | r, st⟩ <;> simp only [jbui] at h <;> (try (cases h; done))
      obtain ⟨rfl, rfl, rfl, rfl, rfl⟩ : _ ∧ _ ∧ _ ∧ _ ∧ _ := by simpa only [Option.some.injEq, Prod.mk.injEq] using h
      refine va_mabs hx hb (hml.trans hls.1.symm) hown hlk2 (hts _ w1) (hts _ w7) (hts _ w2) hfr (by rw [jsum]; show _ ≤ jlo k; omega) hcs.1 hcs.2 hd ?_
      rw [j_abs]
      exact kk H locs ls hG hS rfl hls
    · rcases st with _ | ⟨x | x | r, st⟩ <;> simp only [jbui] at h <;> (try (cases h; done))
      obtain ⟨rfl, rfl, rfl, rfl, rfl⟩ : _ ∧ _ ∧ _ ∧ _ ∧ _ := by simpa only [Option.some.injEq, Prod.mk.injEq] using h
      exact j_absL hx hb (hml.trans hls.1.symm) hown hlk2 (hts _ w3) (hts _ w7) (hts _ w4) hfr (by rw [jsum]; show _ ≤ jlo k; omega) hcs.1 hcs.2 hd (kk H locs ls hG hS rfl hls)
    · rcases st with _ | ⟨y | y | r, _ | ⟨x | x | r2, st⟩⟩ <;> simp only [jbui] at h <;> (try (cases h; done))
      obtain ⟨rfl, rfl, rfl, rfl, rfl⟩ : _ ∧ _ ∧ _ ∧ _ ∧ _ := by simpa only [Option.some.injEq, Prod.mk.injEq] using h
      refine va_mmax hx hb (hml.trans hls.1.symm) hown hlk2 (hts _ w5) (hts _ w7) (hts _ w6) hfr (by rw [jsum]; show _ ≤ jlo k; omega) hcs.1 hcs.2 hd ?_
      rw [j_max]
      exact kk H locs ls hG hS rfl hls
    · rcases st with _ | ⟨n | n | n, _ | ⟨d | d | d, _ | ⟨a | a | a, _ | ⟨sp | sp | sp, _ | ⟨a0 | a0 | a0, st⟩⟩⟩⟩⟩ <;> simp only [jbui] at h <;> (try (cases h; done))
      obtain ⟨rfl, rfl, rfl, rfl, rfl⟩ : _ ∧ _ ∧ _ ∧ _ ∧ _ := by simpa only [Option.some.injEq, Prod.mk.injEq] using h
      exact j_copy hC0 hG hS hz hls.1 hlk hfr (by rcases hlo2 with q | q; (cases q); exact q) hd hg.1 hg.2.1.1 hg.2.1.2.1 hg.2.1.2.2.1 hg.2.1.2.2.2 hg.2.2.1.1 hg.2.2.1.2.1 hg.2.2.1.2.2 hg.2.2.2.1 hg.2.2.2.2 (fun H1 locs1 a b e => kk H1 locs1 ls a b e hls)
  case invokespecial i =>
    simp only [jstep] at h
    have hr1 : 1000 ≤ r1 := jbui_lo h
    simp only [jwf, jlen, Bool.and_eq_true, decide_eq_true_eq, Nat.beq_eq, Nat.blt_eq, Bool.or_eq_true] at hwf
    obtain ⟨⟨hd, rfl⟩, hw⟩ := hwf
    have hw := hw.resolve_left (fun q => by have := q.1.1; omega)
    obtain ⟨rfl, hw⟩ := hw
    simp only [jwbui, Bool.and_eq_true, Bool.or_eq_true, Bool.not_eq_true', Nat.ble_eq] at hw
    obtain ⟨⟨⟨hlk, hfr⟩, hlo⟩, -⟩ := hw
    have hlk2 := hts _ (jlk_BL hlk)
    obtain ⟨w1, w2, -⟩ := jWS_bui
    subst hR
    rcases st with _ | ⟨x | x | r, st⟩ <;> simp only [jbui] at h <;> (try (cases h; done))
    obtain ⟨rfl, rfl, rfl, rfl, rfl⟩ : _ ∧ _ ∧ _ ∧ _ ∧ _ := by simpa only [Option.some.injEq, Prod.mk.injEq] using h
    obtain ⟨a, rfl⟩ : ∃ a, r = some a := ⟨_, jrf_some hg.1⟩
    exact W.objInit hx hb hown hlk2 (hts _ w1) (hts _ w2) rfl (hls.1.trans hml.symm) rfl hd hfr (by rw [jsum]; show 2 * 0 + _ + 12 ≤ jlo k; have := hg.2; omega) (kk H locs ls hG hS rfl hls)
end JSV
