/-! THE CLAIM OUT OF ONE WALK OF THE LAW'S BODY. Your part is whole_start (and what it stands on); all else here is the same for every law, but numbers. -/
def R_law : String := "ExchangeRowsLaw"
def lw_P (b : Addr) (xs : List Int32) (args : Array Value) (s : State) : Prop := args = #[.ref b] ∧ s.IntsAt b xs ∧ xs.length ≤ 2048 ∧ (Jvm.Cond.and given_1 narrow_1).before args s = true
def lw_Q (_ : Array Value) (s : State) (o : Outcome) (t : State) : Prop := o = .returned (some (.int 1)) ∧ Framed s o t [] 600000 7302250
def lw_Z (below : List Frame) (a : Array Value) (s : State) : State → Prop := fun t => ∃ o, t.status = .running ∧ Ended t below o ∧ lw_Q a s o t
/-- the law's own end, with 1 on the stack, nothing written that was there before, its room as the claim has it -/
theorem lw_ret {p : Program} {l : Launch} {e : Env} {s : State} {m : MethodId} {below : List Frame} {meth : Method} {c : Code} {b : Nat} (hx : p.tables.exec = Jvm.exec) (hb : c.code = code) (hr : meth.sig.returnType = ret) (hlocks : meth.locks = false) {pc : Nat} {H : Heap} {ls : Array Slot} (hdg : decode code pc = .ok (.ireturn, 1)) : W p l e room_1 s m #[Value.ref b] below meth c H [] 600000 7302250 (lw_Z below #[Value.ref b] s) (F0 m pc ls [.int 1]) := by
  intro T hT X
  obtain ⟨fs, hret, hrun, hended, hW, hframe⟩ := X.leave (v := some (.int 1)) (hlocks := hlocks) (fun h => by rw [hr] at h; cases h)
  have hmeth' : T.vm.method? m = some meth := X.method'
  refine ⟨T.setFrames fs, ?_, .returned (some (.int 1)), hrun, hended, rfl, ⟨_, rfl⟩, hW, hframe⟩
  jvm_step X.here [X.here.top, hx, hb, hdg, hmeth', hr, ret, narrow_b1]
  (try refine ⟨rfl, ?_⟩); (try refine ⟨rfl, ?_⟩)
  first | (intro acts; rw [hret _ acts rfl rfl rfl]) | rw [hret _ _ rfl rfl rfl]
  exact Steps.refl _
/-- what holds at the law's entry: the machine, the code, the tables' words (any of lw_tbl by 'hts w (by decide +kernel)'), the script of L ints xs at the cell b, what the Statement gives of the start (any of its parts by flat_of_before) -/
def lw_At (p : Program) (s : State) (m : MethodId) (meth : Method) (c : Code) (b L : Nat) (xs : Nat → Int32) : Prop :=
  p.tables.exec = Jvm.exec ∧ c.code = code ∧ meth.sig.returnType = ret ∧ c.maxLocals = 4 ∧ s.vm.findClass R_law = some m.cls ∧ (∀ w ∈ lw_tbl, w.before #[Value.ref b] s = true) ∧ va_X b L xs s s.heap ∧ b < s.heap.size ∧ meth.locks = false ∧ (Jvm.Cond.and given_1 narrow_1).before #[Value.ref b] s = true
/-! the law's frame over the small machine's worlds -/
def lzC (p : Program) (s : State) (m : MethodId) (meth : Method) (c : Code) (b L : Nat) (xs : Nat → Int32) (D : va_G) (cA : Nat → ClassId) (ao : Nat) : Prop := lw_At p s m meth c b L xs ∧ jK D cA s.heap.size ao s
def lzG (s : State) (D : va_G) (cA : Nat → ClassId) (ao : Nat) (w : jS) (H : Heap) (locs : List Loc) (cells : Nat) : Prop := jGood D cA s.heap.size ao w H ∧ va_S (fun q => s.heap.size ≤ q) s.heap H locs ∧ H.size = s.heap.size + cells
/-- the script's numbers -/
def lzv (xs : Nat → Int32) (i : Nat) : Int := (xs i).toInt
theorem lzr (xs : Nat → Int32) (i : Nat) : r32 (lzv xs i) := ⟨Int32.le_toInt _, Int32.toInt_lt _⟩
theorem lz_g (xs : Nat → Int32) (i : Nat) : jg (jI (lzv xs i)) = .int (xs i) := congrArg Value.int (Int32.ofInt_toInt _)
def lzl (i mm x b : Nat) : List (Nat × Value) := [(3, .int (Int32.ofNat i)), (2, .ref mm), (1, .ref x), (0, .ref b)]
def lzas (xs : Nat → Int32) (i n : Nat) : List jV := (List.range' i n).map (fun k => jI (lzv xs k))
def lzarg (pc j : Nat) : Bool := decide (decode code pc = .ok (.aload_n 0, 1)) && decide (decode code (pc + 1) = .ok (.iload_n 3, 1)) && decide (decode code (pc + 2) = .ok (.iconst (j : Int), 1)) && decide (decode code (pc + 3) = .ok (.iadd, 1)) && decide (decode code (pc + 4) = .ok (.iaload, 1))
def lzargs : Nat → Nat → Nat → Bool
  | _, 0, _ => true
  | pc, n + 1, j => lzarg pc j && lzargs (pc + 5) n (j + 1)
def lzpush (pc : Nat) (r : Fin 4) (n : Nat) : Bool := decide (decode code pc = .ok (.aload_n r, 1)) && lzargs (pc + 1) n 1
def lzm (k n : Nat) : Bool := Nat.blt k 221 && Nat.beq (jkd k) 0 && Nat.beq (jna k) n && Nat.ble (jfr k + 1) 10 && Nat.ble (8 + (jmaxL k + 11) + jlo k) 398 && Nat.beq (jmc k) 0 && Nat.beq (jms k) 0 && Nat.ble (n + 1) (jmaxL k)
/-- a case of the law: pushes, calls, and how it ends: 0 ints compared, 1 longs compared, 2, 3 dropped -/
def lzcs (pc n iC iE kd : Nat) (off : Int) (tgt : Nat) (gt : Bool) : Bool :=
  lzpush pc 1 n && decide (decode code (pc + 1 + 5 * n) = .ok (.invokevirtual iC, 3)) &&
  (if kd < 2 then
    lzpush (pc + 1 + 5 * n + 3) 2 n && decide (decode code (pc + 1 + 5 * n + 3 + 1 + 5 * n) = .ok (.invokevirtual iE, 3)) &&
    (if kd = 0 then decide (decode code (pc + 1 + 5 * n + 3 + 1 + 5 * n + 3) = .ok (.if_icmp .eq off, 3)) && decide (((pc + 1 + 5 * n + 3 + 1 + 5 * n + 3 : Nat) : Int) + off = (tgt : Int))
     else decide (decode code (pc + 1 + 5 * n + 3 + 1 + 5 * n + 3) = .ok (.lcmp, 1)) && decide (decode code (pc + 1 + 5 * n + 3 + 1 + 5 * n + 3 + 1) = .ok (.ifCond .eq off, 3)) && decide (((pc + 1 + 5 * n + 3 + 1 + 5 * n + 3 + 1 : Nat) : Int) + off = (tgt : Int)))
   else
    decide (decode code (pc + 1 + 5 * n + 3) = .ok (if kd = 2 then .pop else .pop2, 1)) && lzpush (pc + 1 + 5 * n + 3 + 1) 2 n && decide (decode code (pc + 1 + 5 * n + 3 + 1 + 1 + 5 * n) = .ok (.invokevirtual iE, 3)) &&
    decide (decode code (pc + 1 + 5 * n + 3 + 1 + 1 + 5 * n + 3) = .ok (if kd = 2 then .pop else .pop2, 1)) &&
    (if gt then decide (decode code (pc + 1 + 5 * n + 3 + 1 + 1 + 5 * n + 3 + 1) = .ok (.goto off, 3)) && decide (((pc + 1 + 5 * n + 3 + 1 + 1 + 5 * n + 3 + 1 : Nat) : Int) + off = (tgt : Int)) else decide (pc + 1 + 5 * n + 3 + 1 + 1 + 5 * n + 3 + 1 = tgt)))
section LAWR
variable {p : Program} {l : Launch} {ev : Env} {s : State} {m : MethodId} {below : List Frame} {meth : Method} {c : Code} {b L : Nat} {xs : Nat → Int32} {H : Heap} {locs : List Loc} {cells slots : Nat} {Q : State → Prop}
variable {D : va_G} {cA : Nat → ClassId} {ao : Nat} {ls : Array Slot} {w : jS} {pc : Nat}
theorem lz_hts (C : lzC p s m meth c b L xs D cA ao) : ∀ w ∈ jWS, w.before #[Value.ref b] s = true := fun w hw => C.1.2.2.2.2.2.1 w (List.mem_filter.mp hw).1
theorem l_new {ix ci : Nat} {st : List jV} (C : lzC p s m meth c b L xs D cA ao) (G0 : lzG s D cA ao w H locs cells) (hci : ci < 10) (hlk : Cond.classLink R_law ix (jFR ci) ∈ jWS) (hd : decode code pc = .ok (.new ix, 3)) (hc : cells + 1 ≤ 600000) (hs : slots + jFN ci ≤ 7302250)
    (kk : ∀ H1, lzG s D cA ao (jnewo w (ci + 1) 0) H1 locs (cells + 1) → W p l ev room_1 s m #[Value.ref b] below meth c H1 locs (cells + 1) (slots + jFN ci) Q (F0 m (pc + 3) ls (.ref w.2.2.2.1 :: st.map jg))) : W p l ev room_1 s m #[Value.ref b] below meth c H locs cells slots Q (F0 m pc ls (st.map jg)) := by
  have hts := lz_hts C
  obtain ⟨⟨hx, hb, hr, hml, hown, -, hX, hbl, hlocks, -⟩, hK⟩ := C
  obtain ⟨hG, hS, hz⟩ := G0
  obtain ⟨w1, w2⟩ := jins_in hci
  have hfs : ∀ j, j < jFN ci → defaultValue (jFy ci j) = vp_V (jfs ci (jnewo w (ci + 1) 0) w.2.2.2.1) j := by
    intro j hj
    show _ = (jfs ci (jnewo w (ci + 1) 0) w.2.2.2.1).getD j .null
    rw [List.getD_eq_getElem?_getD, jfs_at hj]
    have hr := List.all_eq_true.mp (List.all_eq_true.mp jisrf_dec ci (List.mem_range.mpr hci)) j (List.mem_range.mpr hj)
    cases ht : jFy ci j <;> rw [ht] at hr <;> first | (cases hr; done) | simp [jtyc, jfv, jnewo, jg, va_rf, defaultValue]
  refine va_new (A := fun q => s.heap.size ≤ q) hx hb hts (jlay_in hci) (jFy ci) (jty_ok hci) hown (hts _ hlk) (hts _ w1) (hts _ w2) hK.1 hG.2.2.1 jws_D hS (fun _ h => h) (jcl_at hci) hfs hc hs hd (fun q H1 hP hD hS1 => ?_)
  refine W.sz (fun hle => ?_)
  obtain ⟨rfl, hsz⟩ := jnew_q hG hP hD (by omega)
  rw [hG.1] at hP ⊢
  exact kk H1 ⟨jGood_new hG hsz (by omega) (jel_o (by rw [jelN_kd]) hci) hP, hS1, by omega⟩
theorem l_pre (C : lzC p s m meth c b L xs D cA ao) (G0 : lzG s D cA ao w H locs cells) (as : List jV) : ∀ U : State, U.heap = H → s.WarmedH U.vm → jPc D cA s.heap.size ao as w (as.map jg).toArray U := by
  intro U hU hW
  exact ⟨rfl, by rw [hU]; exact G0.1, jK.moved hW hU G0.2.1.2.1 C.2, by rw [hU]; exact G0.2.1.1⟩
theorem l_cell (C : lzC p s m meth c b L xs D cA ao) (G0 : lzG s D cA ao w H locs cells) {a t : Nat} (ht0 : 0 < t) (ht : t ≤ 10) (ha : (w.2.1 a).1 = t) : ∃ cell : Cell, H[a]? = some cell ∧ cell.vm.isStatics = false ∧ s.vm.findClass (jFR (t - 1)) = some cell.cls := by
  have hat := jGood_at G0.1 (a := a) (by omega) (by omega)
  rw [jel_o (ci := t - 1) (by omega) (by omega)] at hat
  exact va_recv C.2.1 G0.1.2.2.1 (jcl_at (by omega)) hat
theorem l_init {k' i a : Nat} {rest : List jV} {Q' : Option jV → jS → Prop} (C : lzC p s m meth c b L xs D cA ao) (G0 : lzG s D cA ao w H locs cells) (hls : ls.size = 4) (hk' : k' < 221) (hkd : jkd k' = 2) (hna : jna k' = 0) (hlk : Cond.methodLink R_law i (jY k') ∈ jWS) (hroom : jfr k' + 1 ≤ 10 ∧ 8 + (jmaxL k' + 11) + jlo k' ≤ 398) (hl : 1 ≤ jmaxL k') (h8 : jcats rest ≤ 8) (hd : decode code pc = .ok (.invokespecial i, 3)) (hcall : jCall k' [jO a] w Q') (hb1 : cells + jmc k' ≤ 600000) (hb2 : slots + jms k' ≤ 7302250)
    (kk : ∀ v w1 H1 locs1, Q' v w1 → lzG s D cA ao w1 H1 locs1 (cells + jmc k') → W p l ev room_1 s m #[Value.ref b] below meth c H1 locs1 (cells + jmc k') (slots + jms k') Q (F0 m (pc + 3) ls ((v.toList ++ rest).map jg))) : W p l ev room_1 s m #[Value.ref b] below meth c H locs cells slots Q (F0 m pc ls (.ref a :: rest.map jg)) := by
  have hts := lz_hts C
  have hpre := l_pre C G0 [jO a]
  obtain ⟨⟨hx, hb, hr, hml, hown, -, hX, hbl, hlocks, -⟩, hK⟩ := C
  obtain ⟨hG, hS, hz⟩ := G0
  obtain ⟨n, v1, w1, hrun, hq⟩ := hcall
  obtain ⟨n1, n2, n3, n4, n5, n6⟩ := jnok_at hk'
  obtain ⟨m1, m2, m3, m4⟩ := jMW_at hk'
  obtain ⟨i1, i2, i3⟩ := jini_at hk'
  have hret := i1 hkd
  have hws : jwsk k' = Cond.code (jY k') (jcode k') (jmaxL k') none :: jWS := by unfold jwsk; rw [hret]
  have hM := jmet (jsound l D cA s.heap.size ao n) hk' hrun hl
  refine j_call (rest := rest) (a := (Value.ref a :: ([] : List Value)).toArray) (v1 := v1) (w1 := w1) (mc := jmc k') (ms := jms k') (D := D) (cA := cA) (z0 := s.heap.size) (ao := ao) ?_ hS hz (fun H1 locs1 g1 g2 g3 => kk v1 w1 H1 locs1 hq ⟨g1, g2, g3⟩)
  exact va_runI (b := a) (As := []) ⟨hx, hb, hml, hown, hts⟩ hM (cwI 0 hts (jwsk_good hk') hws rfl rfl (by rw [n2]; exact hts _ i2) (hts _ hlk) (hts _ (m3 (by omega))) (n6 hkd) ⟨n3, n4, by rw [n5, hna]⟩ hroom) ⟨jPc_blind, fun U hU hW => hpre U hU hW⟩ rfl rfl hls rfl (by rw [jsum]; show 2 * 0 + _ ≤ 8; omega) hd ⟨hb1, hb2⟩
theorem l_virt {k' i n a : Nat} {bs rest : List jV} {Q' : Option jV → jS → Prop} (C : lzC p s m meth c b L xs D cA ao) (G0 : lzG s D cA ao w H locs cells) (hls : ls.size = 4) (hm : lzm k' n = true) (hlk : Cond.methodLink R_law i (jY k') ∈ jWS) (hn : bs.length = n) (hlay : (jlay (jO a :: bs)).length = n + 1) (hrec : (w.2.1 a).1 = jtag (jown k')) (h8 : jcats rest ≤ 8) (hd : decode code pc = .ok (.invokevirtual i, 3)) (hcall : jCall k' (jO a :: bs) w Q') (hcs : cells ≤ 600000 ∧ slots ≤ 7302250)
    (kk : ∀ v w1 H1 locs1, Q' v w1 → lzG s D cA ao w1 H1 locs1 cells → W p l ev room_1 s m #[Value.ref b] below meth c H1 locs1 cells slots Q (F0 m (pc + 3) ls ((v.toList ++ rest).map jg))) : W p l ev room_1 s m #[Value.ref b] below meth c H locs cells slots Q (F0 m pc ls ((bs.map jg).reverse ++ .ref a :: rest.map jg)) := by
  have hts := lz_hts C
  have hpre := l_pre C G0 (jO a :: bs)
  have hcellf := fun (t : Nat) => l_cell (t := t) (a := a) C G0
  obtain ⟨⟨hx, hb, hr, hml, hown, -, hX, hbl, hlocks, -⟩, hK⟩ := C
  obtain ⟨hG, hS, hz⟩ := G0
  obtain ⟨N, v1, w1, hrun, hq⟩ := hcall
  simp only [lzm, Bool.and_eq_true, Nat.blt_eq, Nat.beq_eq, Nat.ble_eq] at hm
  obtain ⟨⟨⟨⟨⟨⟨⟨hk', hkd⟩, hna⟩, hf1⟩, hf2⟩, hmc⟩, hms⟩, hl⟩ := hm
  obtain ⟨n1, n2, n3, n4, n5, n6⟩ := jnok_at hk'
  obtain ⟨m1, m2, m3, m4⟩ := jMW_at hk'
  obtain ⟨i1, i2, i3⟩ := jini_at hk'
  obtain ⟨t0, t1, t2⟩ := i3 hkd
  have hM := jmet (jsound l D cA s.heap.size ao N) hk' hrun (by rw [hlay]; exact hl)
  have hcell := hcellf _ t0 t1 hrec
  rw [t2] at hcell
  have hd3 : (jY k').cls = jCn (jown k') ∧ (jY k').cls ≠ "java/lang/invoke/MethodHandle" ∧ (jY k').cls ≠ "java/lang/invoke/VarHandle" ∧ (parseMethodDescriptor (jY k').desc).map (fun d => d.parameters.length) = some n := ⟨n2, n3, n4, by rw [n5, hna]⟩
  have hT : GoodIn jWS (wsV R_law i (jCn (jown k')) (jY k') (jwsk k')) := fun x hx => by
    unfold wsV at hx
    rcases List.mem_append.mp hx with h5 | h5
    · simp only [List.mem_cons, List.not_mem_nil, or_false] at h5
      rcases h5 with rfl | rfl | rfl | rfl
      · exact jWS_good _ hlk
      · exact jWS_good _ (m3 (by omega))
      · exact jWS_good _ (m4 hkd)
      · exact jWS_good _ i2
    · exact jwsk_good hk' _ h5
  refine j_call (rest := rest) (a := (Value.ref a :: bs.map jg).toArray) (v1 := v1) (w1 := w1) (mc := jmc k') (ms := jms k') (D := D) (cA := cA) (z0 := s.heap.size) (ao := ao) ?_ hS hz (fun H1 locs1 g1 g2 g3 => ?_)
  · exact va_runV (C := jCn (jown k')) (b := a) (As := bs.map jg) ⟨hx, hb, hml, hown, hts⟩ hM (cwV n hts hT rfl rfl rfl hd3 ⟨hf1, hf2⟩) ⟨jPc_blind, hcell, fun U hU hW => hpre U hU hW⟩ rfl (by rw [List.length_map]; exact hn) hls rfl (by rw [jsum]; show 2 * 0 + _ ≤ 8; omega) hd ⟨by rw [hmc]; exact hcs.1, by rw [hms]; exact hcs.2⟩
  · rw [hmc] at g3 ⊢
    rw [hms]
    exact kk v1 w1 H1 locs1 hq ⟨g1, g2, g3⟩
theorem lz_at {i mm x : Nat} (hlv : lv_has ls 4 (lzl i mm x b)) : ls[3]? = some (.val (.int (Int32.ofNat i))) ∧ ls[2]? = some (.val (.ref mm)) ∧ ls[1]? = some (.val (.ref x)) ∧ ls[0]? = some (.val (.ref b)) := ⟨lv_at hlv 0 rfl, lv_at hlv 1 rfl, lv_at hlv 2 rfl, lv_at hlv 3 rfl⟩
theorem l_ld {i : Nat} {st : List Value} (C : lzC p s m meth c b L xs D cA ao) (G0 : lzG s D cA ao w H locs cells) (hi : i < L) (hL : L ≤ 2048) (hd : decode code pc = .ok (.iaload, 1)) (kk : W p l ev room_1 s m #[Value.ref b] below meth c H locs cells slots Q (F0 m (pc + 1) ls (.int (xs i) :: st))) : W p l ev room_1 s m #[Value.ref b] below meth c H locs cells slots Q (F0 m pc ls (.int (Int32.ofNat i) :: .ref b :: st)) := by
  obtain ⟨⟨hx, hb, hr, hml, hown, -, hX, hbl, hlocks, -⟩, hK⟩ := C
  have e : (Int32.ofNat i).toNatClampNeg = i := Int32.toNatClampNeg_ofNat_of_lt (by omega)
  refine va_sld (A := fun q => s.heap.size ≤ q) hx hb hX hbl (by omega) G0.2.1 ?_ hd (by rw [e]; exact kk)
  rw [j32_nat]
  exact j32_in (by rw [b32_id (by omega) (by omega)]; omega) (by rw [b32_id (by omega) (by omega)]; omega)
theorem l_arg {i j mm x : Nat} {st : List Value} (C : lzC p s m meth c b L xs D cA ao) (G0 : lzG s D cA ao w H locs cells) (hlv : lv_has ls 4 (lzl i mm x b)) (hi : i + j < L) (hL : L ≤ 2048) (hd : lzarg pc j = true) (kk : W p l ev room_1 s m #[Value.ref b] below meth c H locs cells slots Q (F0 m (pc + 5) ls (.int (xs (i + j)) :: st))) : W p l ev room_1 s m #[Value.ref b] below meth c H locs cells slots Q (F0 m pc ls st) := by
  obtain ⟨v3, v2, v1, v0⟩ := lz_at hlv
  simp only [lzarg, Bool.and_eq_true, decide_eq_true_eq] at hd
  obtain ⟨⟨⟨⟨d0, d1⟩, d2⟩, d3⟩, d4⟩ := hd
  have hx := C.1.1
  have hb := C.1.2.1
  refine lv_aload_n hx hb d0 rfl v0 ?_
  refine lv_iload_n hx hb d1 rfl v3 ?_
  refine lv_iconst (v := Int32.ofNat j) hx hb d2 rfl ?_
  refine lv_iadd hx hb d3 ?_
  rw [show Int32.ofNat i + Int32.ofNat j = Int32.ofNat (i + j) from (Int32.ofNat_add i j).symm]
  exact l_ld C G0 hi hL d4 kk
theorem l_args {i mm x : Nat} (C : lzC p s m meth c b L xs D cA ao) (G0 : lzG s D cA ao w H locs cells) (hlv : lv_has ls 4 (lzl i mm x b)) (hL : L ≤ 2048) (n : Nat) : ∀ (j pc : Nat) (st : List Value), lzargs pc n j = true → i + j + n ≤ L → W p l ev room_1 s m #[Value.ref b] below meth c H locs cells slots Q (F0 m (pc + 5 * n) ls (((lzas xs (i + j) n).map jg).reverse ++ st)) → W p l ev room_1 s m #[Value.ref b] below meth c H locs cells slots Q (F0 m pc ls st) := by
  induction n with
  | zero =>
    intro j pc st _ _ kk
    have e : ((lzas xs (i + j) 0).map jg).reverse ++ st = st := rfl
    rw [e, Nat.mul_zero, Nat.add_zero] at kk
    exact kk
  | succ n ih =>
    intro j pc st hd hi kk
    unfold lzargs at hd
    rw [Bool.and_eq_true] at hd
    refine l_arg C G0 hlv (by omega) hL hd.1 (ih (j + 1) (pc + 5) _ hd.2 (by omega) ?_)
    rw [show pc + 5 + 5 * n = pc + 5 * (n + 1) by omega]
    have e : ((lzas xs (i + j) (n + 1)).map jg).reverse ++ st = ((lzas xs (i + (j + 1)) n).map jg).reverse ++ .int (xs (i + j)) :: st := by
      unfold lzas
      rw [List.range'_succ, List.map_cons, List.map_cons, List.reverse_cons, List.append_assoc, lz_g]
      rfl
    rw [← e]
    exact kk
theorem lz_len (i n : Nat) : (lzas xs i n).length = n := by unfold lzas; rw [List.length_map, List.length_range']
theorem lz_lay (a : Nat) : ∀ (n i : Nat), (jlay (jO a :: lzas xs i n)).length = n + 1
  | 0, _ => rfl
  | n + 1, i => by
    have h := lz_lay a n (i + 1)
    show (some (jO a) :: jlay (lzas xs i (n + 1))).length = _
    have h2 : (some (jO a) :: jlay (lzas xs (i + 1) n)).length = n + 1 := h
    unfold lzas at h2 ⊢
    rw [List.range'_succ, List.map_cons]
    show (some (jO a) :: some (jI (lzv xs i)) :: jlay _).length = _
    simp only [List.length_cons] at h2 ⊢
    omega
theorem l_side {k n ix i mm x a : Nat} {r : Fin 4} {rest : List jV} {Q' : Option jV → jS → Prop} (C : lzC p s m meth c b L xs D cA ao) (G0 : lzG s D cA ao w H locs cells) (hlv : lv_has ls 4 (lzl i mm x b)) (hi : i + 1 + n ≤ L) (hL : L ≤ 2048) (hp : lzpush pc r n = true) (hd : decode code (pc + 1 + 5 * n) = .ok (.invokevirtual ix, 3)) (hlk : Cond.methodLink R_law ix (jY k) ∈ jWS) (hm : lzm k n = true) (hra : ls[(r : Nat)]? = some (.val (.ref a))) (hka : (w.2.1 a).1 = jtag (jown k)) (h8 : jcats rest ≤ 8) (hcs : cells ≤ 600000 ∧ slots ≤ 7302250) (hcall : jCall k (jO a :: lzas xs (i + 1) n) w Q')
    (kk : ∀ v w1 H1 locs1, Q' v w1 → lzG s D cA ao w1 H1 locs1 cells → W p l ev room_1 s m #[Value.ref b] below meth c H1 locs1 cells slots Q (F0 m (pc + 1 + 5 * n + 3) ls ((v.toList ++ rest).map jg))) : W p l ev room_1 s m #[Value.ref b] below meth c H locs cells slots Q (F0 m pc ls (rest.map jg)) := by
  unfold lzpush at hp
  simp only [Bool.and_eq_true, decide_eq_true_eq] at hp
  refine lv_aload_n C.1.1 C.1.2.1 hp.1 rfl hra ?_
  refine l_args C G0 hlv hL n 1 (pc + 1) _ hp.2 (by omega) ?_
  exact l_virt C G0 hlv.1 hm hlk (lz_len _ _) (lz_lay _ _ _) hka h8 hd hcall hcs kk
theorem jcats_o (v : Option jV) : jcats (v.toList ++ []) ≤ 8 := by
  cases v with
  | none => decide
  | some v =>
    show (([v] : List jV).map jcat).sum ≤ 8
    rcases v with q | q | q <;> simp [jcat]
variable {n iC iE kC kE i mm x tgt : Nat} {off : Int} {gt : Bool} {cc : Prop}
theorem l_cmpI (C : lzC p s m meth c b L xs D cA ao) (G0 : lzG s D cA ao w H locs cells) (hlv : lv_has ls 4 (lzl i mm x b)) (hi : i + 1 + n ≤ L) (hL : L ≤ 2048) (hk : lzcs pc n iC iE 0 off tgt gt = true) (hlC : Cond.methodLink R_law iC (jY kC) ∈ jWS) (hlE : Cond.methodLink R_law iE (jY kE) ∈ jWS) (hmC : lzm kC n = true) (hmE : lzm kE n = true) (htC : jtag (jown kC) = 9) (htE : jtag (jown kE) = 10) (hx0 : w.2.1 x = (9, 0)) (hm0 : w.2.1 mm = (10, 0)) (hcs : cells ≤ 600000 ∧ slots ≤ 7302250)
    (hT : jCall kC (jO x :: lzas xs (i + 1) n) w (fun v w1 => w1.2 = w.2 ∧ jCall kE (jO mm :: lzas xs (i + 1) n) w1 (fun v' w2 => zAI cc x mm v v' w2))) (hcc : cc)
    (kk : ∀ H1 locs1 w2, lzG s D cA ao w2 H1 locs1 cells → zRel False x mm w2 → W p l ev room_1 s m #[Value.ref b] below meth c H1 locs1 cells slots Q (F0 m tgt ls [])) : W p l ev room_1 s m #[Value.ref b] below meth c H locs cells slots Q (F0 m pc ls []) := by
  obtain ⟨v3, v2, v1, v0⟩ := lz_at hlv
  simp only [lzcs, Bool.and_eq_true, decide_eq_true_eq, if_pos (show (0 : Nat) < 2 by decide), if_true] at hk
  obtain ⟨⟨k1, k2⟩, ⟨k3, k4⟩, k5, k6⟩ := hk
  refine l_side (rest := []) (r := 1) C G0 hlv hi hL k1 k2 hlC hmC v1 (by rw [hx0, htC]) (by decide) hcs hT (fun v w1 H1 locs1 hq G1 => ?_)
  refine l_side (rest := v.toList ++ []) (r := 2) C G1 hlv hi hL k3 k4 hlE hmE v2 (by rw [hq.1, hm0, htE]) (jcats_o v) hcs hq.2 (fun v' w2 H2 locs2 hz G2 => ?_)
  obtain ⟨⟨a, a', rfl, rfl, he⟩, hR⟩ := hz
  have he := he hcc
  subst he
  exact lv_icmp_eq C.1.1 C.1.2.1 k5 k6 (fun _ => kk H2 locs2 w2 G2 hR) (fun z => absurd rfl z)
theorem l_cmpJ (C : lzC p s m meth c b L xs D cA ao) (G0 : lzG s D cA ao w H locs cells) (hlv : lv_has ls 4 (lzl i mm x b)) (hi : i + 1 + n ≤ L) (hL : L ≤ 2048) (hk : lzcs pc n iC iE 1 off tgt gt = true) (hlC : Cond.methodLink R_law iC (jY kC) ∈ jWS) (hlE : Cond.methodLink R_law iE (jY kE) ∈ jWS) (hmC : lzm kC n = true) (hmE : lzm kE n = true) (htC : jtag (jown kC) = 9) (htE : jtag (jown kE) = 10) (hx0 : w.2.1 x = (9, 0)) (hm0 : w.2.1 mm = (10, 0)) (hcs : cells ≤ 600000 ∧ slots ≤ 7302250)
    (hT : jCall kC (jO x :: lzas xs (i + 1) n) w (fun v w1 => w1.2 = w.2 ∧ jCall kE (jO mm :: lzas xs (i + 1) n) w1 (fun v' w2 => zAJ cc x mm v v' w2))) (hcc : cc)
    (kk : ∀ H1 locs1 w2, lzG s D cA ao w2 H1 locs1 cells → zRel False x mm w2 → W p l ev room_1 s m #[Value.ref b] below meth c H1 locs1 cells slots Q (F0 m tgt ls [])) : W p l ev room_1 s m #[Value.ref b] below meth c H locs cells slots Q (F0 m pc ls []) := by
  obtain ⟨v3, v2, v1, v0⟩ := lz_at hlv
  simp only [lzcs, Bool.and_eq_true, decide_eq_true_eq, if_pos (show (1 : Nat) < 2 by decide), if_neg (show ¬ (1 : Nat) = 0 by decide)] at hk
  obtain ⟨⟨k1, k2⟩, ⟨k3, k4⟩, ⟨k5, k6⟩, k7⟩ := hk
  refine l_side (rest := []) (r := 1) C G0 hlv hi hL k1 k2 hlC hmC v1 (by rw [hx0, htC]) (by decide) hcs hT (fun v w1 H1 locs1 hq G1 => ?_)
  refine l_side (rest := v.toList ++ []) (r := 2) C G1 hlv hi hL k3 k4 hlE hmE v2 (by rw [hq.1, hm0, htE]) (jcats_o v) hcs hq.2 (fun v' w2 H2 locs2 hz G2 => ?_)
  obtain ⟨⟨a, a', rfl, rfl, he⟩, hR⟩ := hz
  have he := he hcc
  subst he
  refine W.lcmp C.1.1 C.1.2.1 k5 ?_
  refine lv_if_eq C.1.1 C.1.2.1 k6 k7 (fun _ => kk H2 locs2 w2 G2 hR) (fun z => absurd ?_ z)
  rw [j_lcmp]
  unfold jlc
  rw [if_neg (by omega), if_pos rfl]
  rfl
theorem l_popI (C : lzC p s m meth c b L xs D cA ao) (G0 : lzG s D cA ao w H locs cells) (hlv : lv_has ls 4 (lzl i mm x b)) (hi : i + 1 + n ≤ L) (hL : L ≤ 2048) (hk : lzcs pc n iC iE 2 off tgt gt = true) (hlC : Cond.methodLink R_law iC (jY kC) ∈ jWS) (hlE : Cond.methodLink R_law iE (jY kE) ∈ jWS) (hmC : lzm kC n = true) (hmE : lzm kE n = true) (htC : jtag (jown kC) = 9) (htE : jtag (jown kE) = 10) (hx0 : w.2.1 x = (9, 0)) (hm0 : w.2.1 mm = (10, 0)) (hcs : cells ≤ 600000 ∧ slots ≤ 7302250)
    (hT : jCall kC (jO x :: lzas xs (i + 1) n) w (fun v w1 => w1.2 = w.2 ∧ jCall kE (jO mm :: lzas xs (i + 1) n) w1 (fun v' w2 => zAI cc x mm v v' w2)))
    (kk : ∀ H1 locs1 w2, lzG s D cA ao w2 H1 locs1 cells → zRel False x mm w2 → W p l ev room_1 s m #[Value.ref b] below meth c H1 locs1 cells slots Q (F0 m tgt ls [])) : W p l ev room_1 s m #[Value.ref b] below meth c H locs cells slots Q (F0 m pc ls []) := by
  obtain ⟨v3, v2, v1, v0⟩ := lz_at hlv
  simp only [lzcs, Bool.and_eq_true, decide_eq_true_eq, if_neg (show ¬ (2 : Nat) < 2 by decide), if_true] at hk
  obtain ⟨⟨k1, k2⟩, ⟨⟨⟨k3, k4⟩, k5⟩, k6⟩, k7⟩ := hk
  refine l_side (rest := []) (r := 1) C G0 hlv hi hL k1 k2 hlC hmC v1 (by rw [hx0, htC]) (by decide) hcs hT (fun v w1 H1 locs1 hq G1 => ?_)
  obtain ⟨q1, hcE⟩ := hq
  obtain ⟨a, ha⟩ : ∃ a, v = some (jI a) := by
    obtain ⟨_, _, _, _, ⟨a, _, ha, _⟩, _⟩ := hcE
    exact ⟨a, ha⟩
  subst ha
  refine lv_pop C.1.1 C.1.2.1 k3 rfl ?_
  refine l_side (rest := []) (r := 2) C G1 hlv hi hL k4 k5 hlE hmE v2 (by rw [q1, hm0, htE]) (by decide) hcs hcE (fun v' w2 H2 locs2 hz G2 => ?_)
  obtain ⟨⟨a1, a2, -, rfl, -⟩, hR⟩ := hz
  refine lv_pop C.1.1 C.1.2.1 k6 rfl ?_
  cases gt with
  | true =>
    simp only [if_true, Bool.and_eq_true, decide_eq_true_eq] at k7
    exact lv_goto C.1.1 C.1.2.1 k7.1 k7.2 (kk H2 locs2 w2 G2 hR)
  | false =>
    have k7 : pc + 1 + 5 * n + 3 + 1 + 1 + 5 * n + 3 + 1 = tgt := of_decide_eq_true k7
    rw [k7]
    exact kk H2 locs2 w2 G2 hR
theorem l_popJ (C : lzC p s m meth c b L xs D cA ao) (G0 : lzG s D cA ao w H locs cells) (hlv : lv_has ls 4 (lzl i mm x b)) (hi : i + 1 + n ≤ L) (hL : L ≤ 2048) (hk : lzcs pc n iC iE 3 off tgt gt = true) (hlC : Cond.methodLink R_law iC (jY kC) ∈ jWS) (hlE : Cond.methodLink R_law iE (jY kE) ∈ jWS) (hmC : lzm kC n = true) (hmE : lzm kE n = true) (htC : jtag (jown kC) = 9) (htE : jtag (jown kE) = 10) (hx0 : w.2.1 x = (9, 0)) (hm0 : w.2.1 mm = (10, 0)) (hcs : cells ≤ 600000 ∧ slots ≤ 7302250)
    (hT : jCall kC (jO x :: lzas xs (i + 1) n) w (fun v w1 => w1.2 = w.2 ∧ jCall kE (jO mm :: lzas xs (i + 1) n) w1 (fun v' w2 => zAJ cc x mm v v' w2)))
    (kk : ∀ H1 locs1 w2, lzG s D cA ao w2 H1 locs1 cells → zRel False x mm w2 → W p l ev room_1 s m #[Value.ref b] below meth c H1 locs1 cells slots Q (F0 m tgt ls [])) : W p l ev room_1 s m #[Value.ref b] below meth c H locs cells slots Q (F0 m pc ls []) := by
  obtain ⟨v3, v2, v1, v0⟩ := lz_at hlv
  simp only [lzcs, Bool.and_eq_true, decide_eq_true_eq, if_neg (show ¬ (3 : Nat) < 2 by decide), if_neg (show ¬ (3 : Nat) = 2 by decide)] at hk
  obtain ⟨⟨k1, k2⟩, ⟨⟨⟨k3, k4⟩, k5⟩, k6⟩, k7⟩ := hk
  refine l_side (rest := []) (r := 1) C G0 hlv hi hL k1 k2 hlC hmC v1 (by rw [hx0, htC]) (by decide) hcs hT (fun v w1 H1 locs1 hq G1 => ?_)
  obtain ⟨q1, hcE⟩ := hq
  obtain ⟨a, ha⟩ : ∃ a, v = some (jJ a) := by
    obtain ⟨_, _, _, _, ⟨a, _, ha, _⟩, _⟩ := hcE
    exact ⟨a, ha⟩
  subst ha
  refine lv_pop2_2 C.1.1 C.1.2.1 k3 rfl ?_
  refine l_side (rest := []) (r := 2) C G1 hlv hi hL k4 k5 hlE hmE v2 (by rw [q1, hm0, htE]) (by decide) hcs hcE (fun v' w2 H2 locs2 hz G2 => ?_)
  obtain ⟨⟨a1, a2, -, rfl, -⟩, hR⟩ := hz
  refine lv_pop2_2 C.1.1 C.1.2.1 k6 rfl ?_
  cases gt with
  | true =>
    simp only [if_true, Bool.and_eq_true, decide_eq_true_eq] at k7
    exact lv_goto C.1.1 C.1.2.1 k7.1 k7.2 (kk H2 locs2 w2 G2 hR)
  | false =>
    have k7 : pc + 1 + 5 * n + 3 + 1 + 1 + 5 * n + 3 + 1 = tgt := of_decide_eq_true k7
    rw [k7]
    exact kk H2 locs2 w2 G2 hR
end LAWR
