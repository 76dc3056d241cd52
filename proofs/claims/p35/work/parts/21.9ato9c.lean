section
/-! THE CLAIM OUT OF ONE WALK OF THE LAW'S BODY. Your part is whole_start (and what it stands on); all else here is the same for every law, but numbers. -/
def R_law : String := "ExchangeRowsLaw"
def lw_P (b : Addr) (xs : List Int32) (args : Array Value) (s : State) : Prop := args = #[.ref b] ∧ s.IntsAt b xs ∧ xs.length ≤ 2048 ∧ (Jvm.Cond.and given_1 narrow_1).before args s = true
def lw_Q (_ : Array Value) (s : State) (o : Outcome) (t : State) : Prop := o = .returned (some (.int 1)) ∧ Framed s o t [] 600000 7302250
def lw_Z (below : List Frame) (a : Array Value) (s : State) : State → Prop := fun t => ∃ o, t.status = .running ∧ Ended t below o ∧ lw_Q a s o t
/-- the law's own end, with 1 on the stack, nothing written that was there before, its room as the claim has it -/
theorem lw_ret {p : Program} {l : Launch} {e : Env} {s : State} {m : MethodId} {below : List Frame} {meth : Method} {c : Code} {b : Nat} (hx : p.tables.exec = Jvm.exec) (hb : c.code = code) (hr : meth.sig.returnType = ret) (hlocks : meth.locks = false) {pc : Nat} {H : Heap} {ls : Array Slot} (hdg : decode code pc = .ok (.ireturn, 1)) : W p l e room_1 s m #[Value.ref b] below meth c H [] 600000 7302250 (lw_Z below #[Value.ref b] s) (F0 m pc ls [.int 1]) := by
  intro T hT X
  obtain ⟨fs, hret, hrun, hended, hW, hframe⟩ := X.leave (v := some (.int 1)) (hlocks := hlocks) (fun h => by rw [hr] at h; cases h)
  have hmeth' : T.vm.method? m = some meth := X.method'
  refine ⟨T.setFrames fs, ?_, .returned (some (.int 1)), hrun, hended, rfl, ⟨_, rfl⟩, hW, hframe⟩
  jvm_step X.here [X.here.top, hx, hb, hdg, hmeth', hr, ret, narrow_b1]
  (try refine ⟨rfl, ?_⟩); (try refine ⟨rfl, ?_⟩)
  first | (intro acts; rw [hret _ acts rfl rfl rfl]) | rw [hret _ _ rfl rfl rfl]
  exact Steps.refl _
/-- what holds at the law's entry: the machine, the code, the tables' words (any of lw_tbl by 'hts w (by decide +kernel)'), the script of L ints xs at the cell b, what the Statement gives of the start (any of its parts by flat_of_before) -/
def lw_At (p : Program) (s : State) (m : MethodId) (meth : Method) (c : Code) (b L : Nat) (xs : Nat → Int32) : Prop :=
  p.tables.exec = Jvm.exec ∧ c.code = code ∧ meth.sig.returnType = ret ∧ c.maxLocals = 4 ∧ s.vm.findClass R_law = some m.cls ∧ (∀ w ∈ lw_tbl, w.before #[Value.ref b] s = true) ∧ va_X b L xs s s.heap ∧ b < s.heap.size ∧ meth.locks = false ∧ (Jvm.Cond.and given_1 narrow_1).before #[Value.ref b] s = true
/-! the law's frame over the small machine's worlds -/
def lzC (p : Program) (s : State) (m : MethodId) (meth : Method) (c : Code) (b L : Nat) (xs : Nat → Int32) (D : va_G) (cA : Nat → ClassId) (ao : Nat) : Prop := lw_At p s m meth c b L xs ∧ jK D cA s.heap.size ao s
def lzG (s : State) (D : va_G) (cA : Nat → ClassId) (ao : Nat) (w : jS) (H : Heap) (locs : List Loc) (cells : Nat) : Prop := jGood D cA s.heap.size ao w H ∧ va_S (fun q => s.heap.size ≤ q) s.heap H locs ∧ H.size = s.heap.size + cells
/-- the script's numbers -/
def lzv (xs : Nat → Int32) (i : Nat) : Int := (xs i).toInt
theorem lzr (xs : Nat → Int32) (i : Nat) : r32 (lzv xs i) := ⟨Int32.le_toInt _, Int32.toInt_lt _⟩
theorem lz_g (xs : Nat → Int32) (i : Nat) : jg (jI (lzv xs i)) = .int (xs i) := congrArg Value.int (Int32.ofInt_toInt _)
def lzl (i mm x b : Nat) : List (Nat × Value) := [(3, .int (Int32.ofNat i)), (2, .ref mm), (1, .ref x), (0, .ref b)]
def lzas (xs : Nat → Int32) (i n : Nat) : List jV := (List.range' i n).map (fun k => jI (lzv xs k))
def lzarg (pc j : Nat) : Bool := decide (decode code pc = .ok (.aload_n 0, 1)) && decide (decode code (pc + 1) = .ok (.iload_n 3, 1)) && decide (decode code (pc + 2) = .ok (.iconst (j : Int), 1)) && decide (decode code (pc + 3) = .ok (.iadd, 1)) && decide (decode code (pc + 4) = .ok (.iaload, 1))
def lzargs : Nat → Nat → Nat → Bool
  | _, 0, _ => true
  | pc, n + 1, j => lzarg pc j && lzargs (pc + 5) n (j + 1)
def lzpush (pc : Nat) (r : Fin 4) (n : Nat) : Bool := decide (decode code pc = .ok (.aload_n r, 1)) && lzargs (pc + 1) n 1
def lzm (k n : Nat) : Bool := Nat.blt k 221 && Nat.beq (jkd k) 0 && Nat.beq (jna k) n && Nat.ble (jfr k + 1) 10 && Nat.ble (8 + (jmaxL k + 11) + jlo k) 398 && Nat.beq (jmc k) 0 && Nat.beq (jms k) 0 && Nat.ble (n + 1) (jmaxL k)
/-- a case of the law: pushes, calls, and how it ends: 0 ints compared, 1 longs compared, 2, 3 dropped -/
def lzcs (pc n iC iE kd : Nat) (off : Int) (tgt : Nat) (gt : Bool) : Bool :=
  lzpush pc 1 n && decide (decode code (pc + 1 + 5 * n) = .ok (.invokevirtual iC, 3)) &&
  (if kd < 2 then
    lzpush (pc + 1 + 5 * n + 3) 2 n && decide (decode code (pc + 1 + 5 * n + 3 + 1 + 5 * n) = .ok (.invokevirtual iE, 3)) &&
    (if kd = 0 then decide (decode code (pc + 1 + 5 * n + 3 + 1 + 5 * n + 3) = .ok (.if_icmp .eq off, 3)) && decide (((pc + 1 + 5 * n + 3 + 1 + 5 * n + 3 : Nat) : Int) + off = (tgt : Int))
     else decide (decode code (pc + 1 + 5 * n + 3 + 1 + 5 * n + 3) = .ok (.lcmp, 1)) && decide (decode code (pc + 1 + 5 * n + 3 + 1 + 5 * n + 3 + 1) = .ok (.ifCond .eq off, 3)) && decide (((pc + 1 + 5 * n + 3 + 1 + 5 * n + 3 + 1 : Nat) : Int) + off = (tgt : Int)))
   else
    decide (decode code (pc + 1 + 5 * n + 3) = .ok (if kd = 2 then .pop else .pop2, 1)) && lzpush (pc + 1 + 5 * n + 3 + 1) 2 n && decide (decode code (pc + 1 + 5 * n + 3 + 1 + 1 + 5 * n) = .ok (.invokevirtual iE, 3)) &&
    decide (decode code (pc + 1 + 5 * n + 3 + 1 + 1 + 5 * n + 3) = .ok (if kd = 2 then .pop else .pop2, 1)) &&
    (if gt then decide (decode code (pc + 1 + 5 * n + 3 + 1 + 1 + 5 * n + 3 + 1) = .ok (.goto off, 3)) && decide (((pc + 1 + 5 * n + 3 + 1 + 1 + 5 * n + 3 + 1 : Nat) : Int) + off = (tgt : Int)) else decide (pc + 1 + 5 * n + 3 + 1 + 1 + 5 * n + 3 + 1 = tgt)))
section LAWR
variable {p : Program} {l : Launch} {ev : Env} {s : State} {m : MethodId} {below : List Frame} {meth : Method} {c : Code} {b L : Nat} {xs : Nat → Int32} {H : Heap} {locs : List Loc} {cells slots : Nat} {Q : State → Prop}
variable {D : va_G} {cA : Nat → ClassId} {ao : Nat} {ls : Array Slot} {w : jS} {pc : Nat}
theorem lz_hts (C : lzC p s m meth c b L xs D cA ao) : ∀ w ∈ jWS, w.before #[Value.ref b] s = true := fun w hw => C.1.2.2.2.2.2.1 w (List.mem_filter.mp hw).1
theorem l_new {ix ci : Nat} {st : List jV} (C : lzC p s m meth c b L xs D cA ao) (G0 : lzG s D cA ao w H locs cells) (hci : ci < 10) (hlk : Cond.classLink R_law ix (jFR ci) ∈ jWS) (hd : decode code pc = .ok (.new ix, 3)) (hc : cells + 1 ≤ 600000) (hs : slots + jFN ci ≤ 7302250)
    (kk : ∀ H1, lzG s D cA ao (jnewo w (ci + 1) 0) H1 locs (cells + 1) → W p l ev room_1 s m #[Value.ref b] below meth c H1 locs (cells + 1) (slots + jFN ci) Q (F0 m (pc + 3) ls (.ref w.2.2.2.1 :: st.map jg))) : W p l ev room_1 s m #[Value.ref b] below meth c H locs cells slots Q (F0 m pc ls (st.map jg)) := by
  have hts := lz_hts C
  obtain ⟨⟨hx, hb, hr, hml, hown, -, hX, hbl, hlocks, -⟩, hK⟩ := C
  obtain ⟨hG, hS, hz⟩ := G0
  obtain ⟨w1, w2⟩ := jins_in hci
  have hfs : ∀ j, j < jFN ci → defaultValue (jFy ci j) = vp_V (jfs ci (jnewo w (ci + 1) 0) w.2.2.2.1) j := by
    intro j hj
    show _ = (jfs ci (jnewo w (ci + 1) 0) w.2.2.2.1).getD j .null
    rw [List.getD_eq_getElem?_getD, jfs_at hj]
    have hr := List.all_eq_true.mp (List.all_eq_true.mp jisrf_dec ci (List.mem_range.mpr hci)) j (List.mem_range.mpr hj)
    cases ht : jFy ci j <;> rw [ht] at hr <;> first | (cases hr; done) | simp [jtyc, jfv, jnewo, jg, va_rf, defaultValue]
  refine va_new (A := fun q => s.heap.size ≤ q) hx hb hts (jlay_in hci) (jFy ci) (jty_ok hci) hown (hts _ hlk) (hts _ w1) (hts _ w2) hK.1 hG.2.2.1 jws_D hS (fun _ h => h) (jcl_at hci) hfs hc hs hd (fun q H1 hP hD hS1 => ?_)
  refine W.sz (fun hle => ?_)
  obtain ⟨rfl, hsz⟩ := jnew_q hG hP hD (by omega)
  rw [hG.1] at hP ⊢
  exact kk H1 ⟨jGood_new hG hsz (by omega) (jel_o (by rw [jelN_kd]) hci) hP, hS1, by omega⟩
theorem l_pre (C : lzC p s m meth c b L xs D cA ao) (G0 : lzG s D cA ao w H locs cells) (as : List jV) : ∀ U : State, U.heap = H → s.WarmedH U.vm → jPc D cA s.heap.size ao as w (as.map jg).toArray U := by
  intro U hU hW
  exact ⟨rfl, by rw [hU]; exact G0.1, jK.moved hW hU G0.2.1.2.1 C.2, by rw [hU]; exact G0.2.1.1⟩
theorem l_cell (C : lzC p s m meth c b L xs D cA ao) (G0 : lzG s D cA ao w H locs cells) {a t : Nat} (ht0 : 0 < t) (ht : t ≤ 10) (ha : (w.2.1 a).1 = t) : ∃ cell : Cell, H[a]? = some cell ∧ cell.vm.isStatics = false ∧ s.vm.findClass (jFR (t - 1)) = some cell.cls := by
  have hat := jGood_at G0.1 (a := a) (by omega) (by omega)
  rw [jel_o (ci := t - 1) (by omega) (by omega)] at hat
  exact va_recv C.2.1 G0.1.2.2.1 (jcl_at (by omega)) hat
theorem l_init {k' i a : Nat} {rest : List jV} {Q' : Option jV → jS → Prop} (C : lzC p s m meth c b L xs D cA ao) (G0 : lzG s D cA ao w H locs cells) (hls : ls.size = 4) (hk' : k' < 221) (hkd : jkd k' = 2) (hna : jna k' = 0) (hlk : Cond.methodLink R_law i (jY k') ∈ jWS) (hroom : jfr k' + 1 ≤ 10 ∧ 8 + (jmaxL k' + 11) + jlo k' ≤ 398) (hl : 1 ≤ jmaxL k') (h8 : jcats rest ≤ 8) (hd : decode code pc = .ok (.invokespecial i, 3)) (hcall : jCall k' [jO a] w Q') (hb1 : cells + jmc k' ≤ 600000) (hb2 : slots + jms k' ≤ 7302250)
    (kk : ∀ v w1 H1 locs1, Q' v w1 → lzG s D cA ao w1 H1 locs1 (cells + jmc k') → W p l ev room_1 s m #[Value.ref b] below meth c H1 locs1 (cells + jmc k') (slots + jms k') Q (F0 m (pc + 3) ls ((v.toList ++ rest).map jg))) : W p l ev room_1 s m #[Value.ref b] below meth c H locs cells slots Q (F0 m pc ls (.ref a :: rest.map jg)) := by
  have hts := lz_hts C
  have hpre := l_pre C G0 [jO a]
  obtain ⟨⟨hx, hb, hr, hml, hown, -, hX, hbl, hlocks, -⟩, hK⟩ := C
  obtain ⟨hG, hS, hz⟩ := G0
  obtain ⟨n, v1, w1, hrun, hq⟩ := hcall
  obtain ⟨n1, n2, n3, n4, n5, n6⟩ := jnok_at hk'
  obtain ⟨m1, m2, m3, m4⟩ := jMW_at hk'
  obtain ⟨i1, i2, i3⟩ := jini_at hk'
  have hret := i1 hkd
  have hws : jwsk k' = Cond.code (jY k') (jcode k') (jmaxL k') none :: jWS := by unfold jwsk; rw [hret]
  have hM := jmet (jsound l D cA s.heap.size ao n) hk' hrun hl
  refine j_call (rest := rest) (a := (Value.ref a :: ([] : List Value)).toArray) (v1 := v1) (w1 := w1) (mc := jmc k') (ms := jms k') (D := D) (cA := cA) (z0 := s.heap.size) (ao := ao) ?_ hS hz (fun H1 locs1 g1 g2 g3 => kk v1 w1 H1 locs1 hq ⟨g1, g2, g3⟩)
  exact va_runI (b := a) (As := []) ⟨hx, hb, hml, hown, hts⟩ hM (cwI 0 hts (jwsk_good hk') hws rfl rfl (by rw [n2]; exact hts _ i2) (hts _ hlk) (hts _ (m3 (by omega))) (n6 hkd) ⟨n3, n4, by rw [n5, hna]⟩ hroom) ⟨jPc_blind, fun U hU hW => hpre U hU hW⟩ rfl rfl hls rfl (by rw [jsum]; show 2 * 0 + _ ≤ 8; omega) hd ⟨hb1, hb2⟩
theorem l_virt {k' i n a : Nat} {bs rest : List jV} {Q' : Option jV → jS → Prop} (C : lzC p s m meth c b L xs D cA ao) (G0 : lzG s D cA ao w H locs cells) (hls : ls.size = 4) (hm : lzm k' n = true) (hlk : Cond.methodLink R_law i (jY k') ∈ jWS) (hn : bs.length = n) (hlay : (jlay (jO a :: bs)).length = n + 1) (hrec : (w.2.1 a).1 = jtag (jown k')) (h8 : jcats rest ≤ 8) (hd : decode code pc = .ok (.invokevirtual i, 3)) (hcall : jCall k' (jO a :: bs) w Q') (hcs : cells ≤ 600000 ∧ slots ≤ 7302250)
    (kk : ∀ v w1 H1 locs1, Q' v w1 → lzG s D cA ao w1 H1 locs1 cells → W p l ev room_1 s m #[Value.ref b] below meth c H1 locs1 cells slots Q (F0 m (pc + 3) ls ((v.toList ++ rest).map jg))) : W p l ev room_1 s m #[Value.ref b] below meth c H locs cells slots Q (F0 m pc ls ((bs.map jg).reverse ++ .ref a :: rest.map jg)) := by
  have hts := lz_hts C
  have hpre := l_pre C G0 (jO a :: bs)
  have hcellf := fun (t : Nat) => l_cell (t := t) (a := a) C G0
  obtain ⟨⟨hx, hb, hr, hml, hown, -, hX, hbl, hlocks, -⟩, hK⟩ := C
  obtain ⟨hG, hS, hz⟩ := G0
  obtain ⟨N, v1, w1, hrun, hq⟩ := hcall
  simp only [lzm, Bool.and_eq_true, Nat.blt_eq, Nat.beq_eq, Nat.ble_eq] at hm
  obtain ⟨⟨⟨⟨⟨⟨⟨hk', hkd⟩, hna⟩, hf1⟩, hf2⟩, hmc⟩, hms⟩, hl⟩ := hm
  obtain ⟨n1, n2, n3, n4, n5, n6⟩ := jnok_at hk'
  obtain ⟨m1, m2, m3, m4⟩ := jMW_at hk'
  obtain ⟨i1, i2, i3⟩ := jini_at hk'
  obtain ⟨t0, t1, t2⟩ := i3 hkd
  have hM := jmet (jsound l D cA s.heap.size ao N) hk' hrun (by rw [hlay]; exact hl)
  have hcell := hcellf _ t0 t1 hrec
  rw [t2] at hcell
  have hd3 : (jY k').cls = jCn (jown k') ∧ (jY k').cls ≠ "java/lang/invoke/MethodHandle" ∧ (jY k').cls ≠ "java/lang/invoke/VarHandle" ∧ (parseMethodDescriptor (jY k').desc).map (fun d => d.parameters.length) = some n := ⟨n2, n3, n4, by rw [n5, hna]⟩
  have hT : GoodIn jWS (wsV R_law i (jCn (jown k')) (jY k') (jwsk k')) := fun x hx => by
    unfold wsV at hx
    rcases List.mem_append.mp hx with h5 | h5
    · simp only [List.mem_cons, List.not_mem_nil, or_false] at h5
      rcases h5 with rfl | rfl | rfl | rfl
      · exact jWS_good _ hlk
      · exact jWS_good _ (m3 (by omega))
      · exact jWS_good _ (m4 hkd)
      · exact jWS_good _ i2
    · exact jwsk_good hk' _ h5
  refine j_call (rest := rest) (a := (Value.ref a :: bs.map jg).toArray) (v1 := v1) (w1 := w1) (mc := jmc k') (ms := jms k') (D := D) (cA := cA) (z0 := s.heap.size) (ao := ao) ?_ hS hz (fun H1 locs1 g1 g2 g3 => ?_)
  · exact va_runV (C := jCn (jown k')) (b := a) (As := bs.map jg) ⟨hx, hb, hml, hown, hts⟩ hM (cwV n hts hT rfl rfl rfl hd3 ⟨hf1, hf2⟩) ⟨jPc_blind, hcell, fun U hU hW => hpre U hU hW⟩ rfl (by rw [List.length_map]; exact hn) hls rfl (by rw [jsum]; show 2 * 0 + _ ≤ 8; omega) hd ⟨by rw [hmc]; exact hcs.1, by rw [hms]; exact hcs.2⟩
  · rw [hmc] at g3 ⊢
    rw [hms]
    exact kk v1 w1 H1 locs1 hq ⟨g1, g2, g3⟩
theorem lz_at {i mm x : Nat} (hlv : lv_has ls 4 (lzl i mm x b)) : ls[3]? = some (.val (.int (Int32.ofNat i))) ∧ ls[2]? = some (.val (.ref mm)) ∧ ls[1]? = some (.val (.ref x)) ∧ ls[0]? = some (.val (.ref b)) := ⟨lv_at hlv 0 rfl, lv_at hlv 1 rfl, lv_at hlv 2 rfl, lv_at hlv 3 rfl⟩
theorem l_ld {i : Nat} {st : List Value} (C : lzC p s m meth c b L xs D cA ao) (G0 : lzG s D cA ao w H locs cells) (hi : i < L) (hL : L ≤ 2048) (hd : decode code pc = .ok (.iaload, 1)) (kk : W p l ev room_1 s m #[Value.ref b] below meth c H locs cells slots Q (F0 m (pc + 1) ls (.int (xs i) :: st))) : W p l ev room_1 s m #[Value.ref b] below meth c H locs cells slots Q (F0 m pc ls (.int (Int32.ofNat i) :: .ref b :: st)) := by
  obtain ⟨⟨hx, hb, hr, hml, hown, -, hX, hbl, hlocks, -⟩, hK⟩ := C
  have e : (Int32.ofNat i).toNatClampNeg = i := Int32.toNatClampNeg_ofNat_of_lt (by omega)
  refine va_sld (A := fun q => s.heap.size ≤ q) hx hb hX hbl (by omega) G0.2.1 ?_ hd (by rw [e]; exact kk)
  rw [j32_nat]
  exact j32_in (by rw [b32_id (by omega) (by omega)]; omega) (by rw [b32_id (by omega) (by omega)]; omega)
theorem l_arg {i j mm x : Nat} {st : List Value} (C : lzC p s m meth c b L xs D cA ao) (G0 : lzG s D cA ao w H locs cells) (hlv : lv_has ls 4 (lzl i mm x b)) (hi : i + j < L) (hL : L ≤ 2048) (hd : lzarg pc j = true) (kk : W p l ev room_1 s m #[Value.ref b] below meth c H locs cells slots Q (F0 m (pc + 5) ls (.int (xs (i + j)) :: st))) : W p l ev room_1 s m #[Value.ref b] below meth c H locs cells slots Q (F0 m pc ls st) := by
  obtain ⟨v3, v2, v1, v0⟩ := lz_at hlv
  simp only [lzarg, Bool.and_eq_true, decide_eq_true_eq] at hd
  obtain ⟨⟨⟨⟨d0, d1⟩, d2⟩, d3⟩, d4⟩ := hd
  have hx := C.1.1
  have hb := C.1.2.1
  refine lv_aload_n hx hb d0 rfl v0 ?_
  refine lv_iload_n hx hb d1 rfl v3 ?_
  refine lv_iconst (v := Int32.ofNat j) hx hb d2 rfl ?_
  refine lv_iadd hx hb d3 ?_
  rw [show Int32.ofNat i + Int32.ofNat j = Int32.ofNat (i + j) from (Int32.ofNat_add i j).symm]
  exact l_ld C G0 hi hL d4 kk
theorem l_args {i mm x : Nat} (C : lzC p s m meth c b L xs D cA ao) (G0 : lzG s D cA ao w H locs cells) (hlv : lv_has ls 4 (lzl i mm x b)) (hL : L ≤ 2048) (n : Nat) : ∀ (j pc : Nat) (st : List Value), lzargs pc n j = true → i + j + n ≤ L → W p l ev room_1 s m #[Value.ref b] below meth c H locs cells slots Q (F0 m (pc + 5 * n) ls (((lzas xs (i + j) n).map jg).reverse ++ st)) → W p l ev room_1 s m #[Value.ref b] below meth c H locs cells slots Q (F0 m pc ls st) := by
  induction n with
  | zero =>
    intro j pc st _ _ kk
    have e : ((lzas xs (i + j) 0).map jg).reverse ++ st = st := rfl
    rw [e, Nat.mul_zero, Nat.add_zero] at kk
    exact kk
  | succ n ih =>
    intro j pc st hd hi kk
    unfold lzargs at hd
    rw [Bool.and_eq_true] at hd
    refine l_arg C G0 hlv (by omega) hL hd.1 (ih (j + 1) (pc + 5) _ hd.2 (by omega) ?_)
    rw [show pc + 5 + 5 * n = pc + 5 * (n + 1) by omega]
    have e : ((lzas xs (i + j) (n + 1)).map jg).reverse ++ st = ((lzas xs (i + (j + 1)) n).map jg).reverse ++ .int (xs (i + j)) :: st := by
      unfold lzas
      rw [List.range'_succ, List.map_cons, List.map_cons, List.reverse_cons, List.append_assoc, lz_g]
      rfl
    rw [← e]
    exact kk
theorem lz_len (i n : Nat) : (lzas xs i n).length = n := by unfold lzas; rw [List.length_map, List.length_range']
theorem lz_lay (a : Nat) : ∀ (n i : Nat), (jlay (jO a :: lzas xs i n)).length = n + 1
  | 0, _ => rfl
  | n + 1, i => by
    have h := lz_lay a n (i + 1)
    show (some (jO a) :: jlay (lzas xs i (n + 1))).length = _
    have h2 : (some (jO a) :: jlay (lzas xs (i + 1) n)).length = n + 1 := h
    unfold lzas at h2 ⊢
    rw [List.range'_succ, List.map_cons]
    show (some (jO a) :: some (jI (lzv xs i)) :: jlay _).length = _
    simp only [List.length_cons] at h2 ⊢
    omega
theorem l_side {k n ix i mm x a : Nat} {r : Fin 4} {rest : List jV} {Q' : Option jV → jS → Prop} (C : lzC p s m meth c b L xs D cA ao) (G0 : lzG s D cA ao w H locs cells) (hlv : lv_has ls 4 (lzl i mm x b)) (hi : i + 1 + n ≤ L) (hL : L ≤ 2048) (hp : lzpush pc r n = true) (hd : decode code (pc + 1 + 5 * n) = .ok (.invokevirtual ix, 3)) (hlk : Cond.methodLink R_law ix (jY k) ∈ jWS) (hm : lzm k n = true) (hra : ls[(r : Nat)]? = some (.val (.ref a))) (hka : (w.2.1 a).1 = jtag (jown k)) (h8 : jcats rest ≤ 8) (hcs : cells ≤ 600000 ∧ slots ≤ 7302250) (hcall : jCall k (jO a :: lzas xs (i + 1) n) w Q')
    (kk : ∀ v w1 H1 locs1, Q' v w1 → lzG s D cA ao w1 H1 locs1 cells → W p l ev room_1 s m #[Value.ref b] below meth c H1 locs1 cells slots Q (F0 m (pc + 1 + 5 * n + 3) ls ((v.toList ++ rest).map jg))) : W p l ev room_1 s m #[Value.ref b] below meth c H locs cells slots Q (F0 m pc ls (rest.map jg)) := by
  unfold lzpush at hp
  simp only [Bool.and_eq_true, decide_eq_true_eq] at hp
  refine lv_aload_n C.1.1 C.1.2.1 hp.1 rfl hra ?_
  refine l_args C G0 hlv hL n 1 (pc + 1) _ hp.2 (by omega) ?_
  exact l_virt C G0 hlv.1 hm hlk (lz_len _ _) (lz_lay _ _ _) hka h8 hd hcall hcs kk
theorem jcats_o (v : Option jV) : jcats (v.toList ++ []) ≤ 8 := by
  cases v with
  | none => decide
  | some v =>
    show (([v] : List jV).map jcat).sum ≤ 8
    rcases v with q | q | q <;> simp [jcat]
variable {n iC iE kC kE i mm x tgt : Nat} {off : Int} {gt : Bool} {cc : Prop}
theorem l_cmpI (C : lzC p s m meth c b L xs D cA ao) (G0 : lzG s D cA ao w H locs cells) (hlv : lv_has ls 4 (lzl i mm x b)) (hi : i + 1 + n ≤ L) (hL : L ≤ 2048) (hk : lzcs pc n iC iE 0 off tgt gt = true) (hlC : Cond.methodLink R_law iC (jY kC) ∈ jWS) (hlE : Cond.methodLink R_law iE (jY kE) ∈ jWS) (hmC : lzm kC n = true) (hmE : lzm kE n = true) (htC : jtag (jown kC) = 9) (htE : jtag (jown kE) = 10) (hx0 : w.2.1 x = (9, 0)) (hm0 : w.2.1 mm = (10, 0)) (hcs : cells ≤ 600000 ∧ slots ≤ 7302250)
    (hT : jCall kC (jO x :: lzas xs (i + 1) n) w (fun v w1 => w1.2 = w.2 ∧ jCall kE (jO mm :: lzas xs (i + 1) n) w1 (fun v' w2 => zAI cc x mm v v' w2))) (hcc : cc)
    (kk : ∀ H1 locs1 w2, lzG s D cA ao w2 H1 locs1 cells → zRel False x mm w2 → W p l ev room_1 s m #[Value.ref b] below meth c H1 locs1 cells slots Q (F0 m tgt ls [])) : W p l ev room_1 s m #[Value.ref b] below meth c H locs cells slots Q (F0 m pc ls []) := by
  obtain ⟨v3, v2, v1, v0⟩ := lz_at hlv
  simp only [lzcs, Bool.and_eq_true, decide_eq_true_eq, if_pos (show (0 : Nat) < 2 by decide), if_true] at hk
  obtain ⟨⟨k1, k2⟩, ⟨k3, k4⟩, k5, k6⟩ := hk
  refine l_side (rest := []) (r := 1) C G0 hlv hi hL k1 k2 hlC hmC v1 (by rw [hx0, htC]) (by decide) hcs hT (fun v w1 H1 locs1 hq G1 => ?_)
  refine l_side (rest := v.toList ++ []) (r := 2) C G1 hlv hi hL k3 k4 hlE hmE v2 (by rw [hq.1, hm0, htE]) (jcats_o v) hcs hq.2 (fun v' w2 H2 locs2 hz G2 => ?_)
  obtain ⟨⟨a, a', rfl, rfl, he⟩, hR⟩ := hz
  have he := he hcc
  subst he
  exact lv_icmp_eq C.1.1 C.1.2.1 k5 k6 (fun _ => kk H2 locs2 w2 G2 hR) (fun z => absurd rfl z)
theorem l_cmpJ (C : lzC p s m meth c b L xs D cA ao) (G0 : lzG s D cA ao w H locs cells) (hlv : lv_has ls 4 (lzl i mm x b)) (hi : i + 1 + n ≤ L) (hL : L ≤ 2048) (hk : lzcs pc n iC iE 1 off tgt gt = true) (hlC : Cond.methodLink R_law iC (jY kC) ∈ jWS) (hlE : Cond.methodLink R_law iE (jY kE) ∈ jWS) (hmC : lzm kC n = true) (hmE : lzm kE n = true) (htC : jtag (jown kC) = 9) (htE : jtag (jown kE) = 10) (hx0 : w.2.1 x = (9, 0)) (hm0 : w.2.1 mm = (10, 0)) (hcs : cells ≤ 600000 ∧ slots ≤ 7302250)
    (hT : jCall kC (jO x :: lzas xs (i + 1) n) w (fun v w1 => w1.2 = w.2 ∧ jCall kE (jO mm :: lzas xs (i + 1) n) w1 (fun v' w2 => zAJ cc x mm v v' w2))) (hcc : cc)
    (kk : ∀ H1 locs1 w2, lzG s D cA ao w2 H1 locs1 cells → zRel False x mm w2 → W p l ev room_1 s m #[Value.ref b] below meth c H1 locs1 cells slots Q (F0 m tgt ls [])) : W p l ev room_1 s m #[Value.ref b] below meth c H locs cells slots Q (F0 m pc ls []) := by
  obtain ⟨v3, v2, v1, v0⟩ := lz_at hlv
  simp only [lzcs, Bool.and_eq_true, decide_eq_true_eq, if_pos (show (1 : Nat) < 2 by decide), if_neg (show ¬ (1 : Nat) = 0 by decide)] at hk
  obtain ⟨⟨k1, k2⟩, ⟨k3, k4⟩, ⟨k5, k6⟩, k7⟩ := hk
  refine l_side (rest := []) (r := 1) C G0 hlv hi hL k1 k2 hlC hmC v1 (by rw [hx0, htC]) (by decide) hcs hT (fun v w1 H1 locs1 hq G1 => ?_)
  refine l_side (rest := v.toList ++ []) (r := 2) C G1 hlv hi hL k3 k4 hlE hmE v2 (by rw [hq.1, hm0, htE]) (jcats_o v) hcs hq.2 (fun v' w2 H2 locs2 hz G2 => ?_)
  obtain ⟨⟨a, a', rfl, rfl, he⟩, hR⟩ := hz
  have he := he hcc
  subst he
  refine W.lcmp C.1.1 C.1.2.1 k5 ?_
  refine lv_if_eq C.1.1 C.1.2.1 k6 k7 (fun _ => kk H2 locs2 w2 G2 hR) (fun z => absurd ?_ z)
  rw [j_lcmp]
  unfold jlc
  rw [if_neg (by omega), if_pos rfl]
  rfl
theorem l_popI (C : lzC p s m meth c b L xs D cA ao) (G0 : lzG s D cA ao w H locs cells) (hlv : lv_has ls 4 (lzl i mm x b)) (hi : i + 1 + n ≤ L) (hL : L ≤ 2048) (hk : lzcs pc n iC iE 2 off tgt gt = true) (hlC : Cond.methodLink R_law iC (jY kC) ∈ jWS) (hlE : Cond.methodLink R_law iE (jY kE) ∈ jWS) (hmC : lzm kC n = true) (hmE : lzm kE n = true) (htC : jtag (jown kC) = 9) (htE : jtag (jown kE) = 10) (hx0 : w.2.1 x = (9, 0)) (hm0 : w.2.1 mm = (10, 0)) (hcs : cells ≤ 600000 ∧ slots ≤ 7302250)
    (hT : jCall kC (jO x :: lzas xs (i + 1) n) w (fun v w1 => w1.2 = w.2 ∧ jCall kE (jO mm :: lzas xs (i + 1) n) w1 (fun v' w2 => zAI cc x mm v v' w2)))
    (kk : ∀ H1 locs1 w2, lzG s D cA ao w2 H1 locs1 cells → zRel False x mm w2 → W p l ev room_1 s m #[Value.ref b] below meth c H1 locs1 cells slots Q (F0 m tgt ls [])) : W p l ev room_1 s m #[Value.ref b] below meth c H locs cells slots Q (F0 m pc ls []) := by
  obtain ⟨v3, v2, v1, v0⟩ := lz_at hlv
  simp only [lzcs, Bool.and_eq_true, decide_eq_true_eq, if_neg (show ¬ (2 : Nat) < 2 by decide), if_true] at hk
  obtain ⟨⟨k1, k2⟩, ⟨⟨⟨k3, k4⟩, k5⟩, k6⟩, k7⟩ := hk
  refine l_side (rest := []) (r := 1) C G0 hlv hi hL k1 k2 hlC hmC v1 (by rw [hx0, htC]) (by decide) hcs hT (fun v w1 H1 locs1 hq G1 => ?_)
  obtain ⟨q1, hcE⟩ := hq
  obtain ⟨a, ha⟩ : ∃ a, v = some (jI a) := by
    obtain ⟨_, _, _, _, ⟨a, _, ha, _⟩, _⟩ := hcE
    exact ⟨a, ha⟩
  subst ha
  refine lv_pop C.1.1 C.1.2.1 k3 rfl ?_
  refine l_side (rest := []) (r := 2) C G1 hlv hi hL k4 k5 hlE hmE v2 (by rw [q1, hm0, htE]) (by decide) hcs hcE (fun v' w2 H2 locs2 hz G2 => ?_)
  obtain ⟨⟨a1, a2, -, rfl, -⟩, hR⟩ := hz
  refine lv_pop C.1.1 C.1.2.1 k6 rfl ?_
  cases gt with
  | true =>
    simp only [if_true, Bool.and_eq_true, decide_eq_true_eq] at k7
    exact lv_goto C.1.1 C.1.2.1 k7.1 k7.2 (kk H2 locs2 w2 G2 hR)
  | false =>
    have k7 : pc + 1 + 5 * n + 3 + 1 + 1 + 5 * n + 3 + 1 = tgt := of_decide_eq_true k7
    rw [k7]
    exact kk H2 locs2 w2 G2 hR
theorem l_popJ (C : lzC p s m meth c b L xs D cA ao) (G0 : lzG s D cA ao w H locs cells) (hlv : lv_has ls 4 (lzl i mm x b)) (hi : i + 1 + n ≤ L) (hL : L ≤ 2048) (hk : lzcs pc n iC iE 3 off tgt gt = true) (hlC : Cond.methodLink R_law iC (jY kC) ∈ jWS) (hlE : Cond.methodLink R_law iE (jY kE) ∈ jWS) (hmC : lzm kC n = true) (hmE : lzm kE n = true) (htC : jtag (jown kC) = 9) (htE : jtag (jown kE) = 10) (hx0 : w.2.1 x = (9, 0)) (hm0 : w.2.1 mm = (10, 0)) (hcs : cells ≤ 600000 ∧ slots ≤ 7302250)
    (hT : jCall kC (jO x :: lzas xs (i + 1) n) w (fun v w1 => w1.2 = w.2 ∧ jCall kE (jO mm :: lzas xs (i + 1) n) w1 (fun v' w2 => zAJ cc x mm v v' w2)))
    (kk : ∀ H1 locs1 w2, lzG s D cA ao w2 H1 locs1 cells → zRel False x mm w2 → W p l ev room_1 s m #[Value.ref b] below meth c H1 locs1 cells slots Q (F0 m tgt ls [])) : W p l ev room_1 s m #[Value.ref b] below meth c H locs cells slots Q (F0 m pc ls []) := by
  obtain ⟨v3, v2, v1, v0⟩ := lz_at hlv
  simp only [lzcs, Bool.and_eq_true, decide_eq_true_eq, if_neg (show ¬ (3 : Nat) < 2 by decide), if_neg (show ¬ (3 : Nat) = 2 by decide)] at hk
  obtain ⟨⟨k1, k2⟩, ⟨⟨⟨k3, k4⟩, k5⟩, k6⟩, k7⟩ := hk
  refine l_side (rest := []) (r := 1) C G0 hlv hi hL k1 k2 hlC hmC v1 (by rw [hx0, htC]) (by decide) hcs hT (fun v w1 H1 locs1 hq G1 => ?_)
  obtain ⟨q1, hcE⟩ := hq
  obtain ⟨a, ha⟩ : ∃ a, v = some (jJ a) := by
    obtain ⟨_, _, _, _, ⟨a, _, ha, _⟩, _⟩ := hcE
    exact ⟨a, ha⟩
  subst ha
  refine lv_pop2_2 C.1.1 C.1.2.1 k3 rfl ?_
  refine l_side (rest := []) (r := 2) C G1 hlv hi hL k4 k5 hlE hmE v2 (by rw [q1, hm0, htE]) (by decide) hcs hcE (fun v' w2 H2 locs2 hz G2 => ?_)
  obtain ⟨⟨a1, a2, -, rfl, -⟩, hR⟩ := hz
  refine lv_pop2_2 C.1.1 C.1.2.1 k6 rfl ?_
  cases gt with
  | true =>
    simp only [if_true, Bool.and_eq_true, decide_eq_true_eq] at k7
    exact lv_goto C.1.1 C.1.2.1 k7.1 k7.2 (kk H2 locs2 w2 G2 hR)
  | false =>
    have k7 : pc + 1 + 5 * n + 3 + 1 + 1 + 5 * n + 3 + 1 = tgt := of_decide_eq_true k7
    rw [k7]
    exact kk H2 locs2 w2 G2 hR
end LAWR
end
section
/-! the law's own links and cases, checked -/
def lzL : List (Nat × Nat × Nat) := [(9, 91, 74), (13, 92, 292), (18, 93, 336), (23, 94, 349), (27, 95, 365), (31, 96, 376), (36, 97, 407), (41, 98, 415), (45, 99, 424), (49, 100, 432), (53, 101, 440), (57, 102, 449), (61, 103, 470), (65, 104, 482), (69, 105, 486), (73, 106, 498), (77, 107, 506), (81, 108, 567), (86, 109, 627), (90, 110, 635), (94, 111, 646), (98, 112, 654), (102, 113, 667), (106, 114, 710), (110, 115, 727), (114, 117, 739), (118, 118, 770), (122, 119, 774), (126, 120, 784), (130, 121, 793), (134, 122, 802), (139, 123, 807), (143, 124, 816), (147, 125, 824), (151, 126, 833), (155, 127, 837), (12, 134, 847), (17, 147, 964), (22, 148, 976), (26, 150, 991), (30, 151, 1015), (35, 154, 1024), (40, 155, 1045), (44, 156, 1049), (48, 157, 1053), (52, 158, 1057), (56, 166, 1061), (60, 168, 1065), (64, 169, 1083), (68, 170, 1087), (72, 171, 1091), (76, 172, 1095), (80, 180, 1099), (146, 181, 1137), (93, 184, 1141), (97, 185, 1151), (101, 187, 1155), (105, 192, 1162), (109, 194, 1181), (113, 196, 1189), (89, 197, 1200), (85, 206, 1204), (117, 210, 1240), (121, 211, 1257), (125, 212, 1261), (129, 213, 1265), (133, 214, 1269), (138, 215, 1273), (142, 216, 1279), (150, 217, 1283), (154, 218, 1287), (158, 219, 1291)]
set_option maxRecDepth 100000 in
theorem lzL_ok : lzL.all (fun q => jwd q.2.2 (.methodLink R_law q.1 (jY q.2.1))) = true := by decide +kernel
theorem lzL_in {a b : Nat} (h : lzL.any (fun q => Nat.beq q.1 a && Nat.beq q.2.1 b) = true) : Cond.methodLink R_law a (jY b) ∈ jWS := by
  obtain ⟨q, hq, h2⟩ := List.any_eq_true.mp h
  simp only [Bool.and_eq_true, Nat.beq_eq] at h2
  have h3 := List.all_eq_true.mp lzL_ok q hq
  rw [h2.1, h2.2] at h3
  exact jwd_in h3
set_option maxRecDepth 100000 in
theorem lzK_7 : Cond.classLink R_law 7 (jFR 8) ∈ jWS := jwd_in (i := 72) (by decide +kernel)
set_option maxRecDepth 100000 in
theorem lzK_10 : Cond.classLink R_law 10 (jFR 9) ∈ jWS := jwd_in (i := 845) (by decide +kernel)
theorem lzc_0 : lzcs 188 2 13 17 2 1035 1253 true = true := by decide +kernel
theorem lzc_1 : lzcs 221 3 18 22 2 992 1253 true = true := by decide +kernel
theorem lzc_2 : lzcs 264 2 23 26 2 959 1253 true = true := by decide +kernel
theorem lzc_3 : lzcs 297 2 27 30 2 926 1253 true = true := by decide +kernel
theorem lzc_4 : lzcs 330 3 31 35 3 883 1253 true = true := by decide +kernel
theorem lzc_5 : lzcs 373 1 36 40 2 860 1253 true = true := by decide +kernel
theorem lzc_6 : lzcs 396 1 41 44 2 837 1253 true = true := by decide +kernel
theorem lzc_7 : lzcs 419 2 45 48 2 804 1253 true = true := by decide +kernel
theorem lzc_8 : lzcs 452 2 49 52 2 771 1253 true = true := by decide +kernel
theorem lzc_9 : lzcs 485 1 53 56 2 748 1253 true = true := by decide +kernel
theorem lzc_10 : lzcs 508 3 57 60 2 705 1253 true = true := by decide +kernel
theorem lzc_11 : lzcs 551 2 61 64 2 672 1253 true = true := by decide +kernel
theorem lzc_12 : lzcs 584 2 65 68 2 639 1253 true = true := by decide +kernel
theorem lzc_13 : lzcs 617 2 69 72 2 606 1253 true = true := by decide +kernel
theorem lzc_14 : lzcs 650 2 73 76 2 573 1253 true = true := by decide +kernel
theorem lzc_15 : lzcs 683 1 77 80 2 550 1253 true = true := by decide +kernel
theorem lzc_16 : lzcs 706 0 81 85 2 537 1253 true = true := by decide +kernel
theorem lzc_17 : lzcs 719 1 86 89 2 514 1253 true = true := by decide +kernel
theorem lzc_18 : lzcs 742 1 90 93 2 491 1253 true = true := by decide +kernel
theorem lzc_19 : lzcs 765 1 94 97 2 468 1253 true = true := by decide +kernel
theorem lzc_20 : lzcs 788 2 98 101 2 435 1253 true = true := by decide +kernel
theorem lzc_21 : lzcs 821 2 102 105 2 402 1253 true = true := by decide +kernel
theorem lzc_22 : lzcs 854 3 106 109 2 359 1253 true = true := by decide +kernel
theorem lzc_23 : lzcs 897 3 110 113 2 316 1253 true = true := by decide +kernel
theorem lzc_24 : lzcs 940 2 114 117 2 283 1253 true = true := by decide +kernel
theorem lzc_25 : lzcs 973 2 118 121 2 250 1253 true = true := by decide +kernel
theorem lzc_26 : lzcs 1006 2 122 125 2 217 1253 true = true := by decide +kernel
theorem lzc_27 : lzcs 1039 2 126 129 2 184 1253 true = true := by decide +kernel
theorem lzc_28 : lzcs 1072 3 130 133 2 141 1253 true = true := by decide +kernel
theorem lzc_29 : lzcs 1115 2 134 138 3 108 1253 true = true := by decide +kernel
theorem lzc_30 : lzcs 1148 3 139 142 2 65 1253 true = true := by decide +kernel
theorem lzc_31 : lzcs 1191 0 143 146 2 52 1253 true = true := by decide +kernel
theorem lzc_32 : lzcs 1204 0 147 150 2 39 1253 true = true := by decide +kernel
theorem lzc_33 : lzcs 1217 0 151 154 0 28 1253 true = true := by decide +kernel
theorem lzc_34 : lzcs 1230 1 155 158 2 3 1253 true = true := by decide +kernel
/-- what a call of a method asks of the law -/
theorem lzm_ok : ([(92, 2), (147, 2), (93, 3), (148, 3), (94, 2), (150, 2), (95, 2), (151, 2), (96, 3), (154, 3), (97, 1), (155, 1), (98, 1), (156, 1), (99, 2), (157, 2), (100, 2), (158, 2), (101, 1), (166, 1), (102, 3), (168, 3), (103, 2), (169, 2), (104, 2), (170, 2), (105, 2), (171, 2), (106, 2), (172, 2), (107, 1), (180, 1), (108, 0), (206, 0), (109, 1), (197, 1), (110, 1), (184, 1), (111, 1), (185, 1), (112, 2), (187, 2), (113, 2), (192, 2), (114, 3), (194, 3), (115, 3), (196, 3), (117, 2), (210, 2), (118, 2), (211, 2), (119, 2), (212, 2), (120, 2), (213, 2), (121, 3), (214, 3), (122, 2), (215, 2), (123, 3), (216, 3), (124, 0), (181, 0), (125, 0), (217, 0), (126, 0), (218, 0), (127, 1), (219, 1)] : List (Nat × Nat)).all (fun q => lzm q.1 q.2) = true := by decide +kernel
theorem lzm_in {k n : Nat} (h : ([(92, 2), (147, 2), (93, 3), (148, 3), (94, 2), (150, 2), (95, 2), (151, 2), (96, 3), (154, 3), (97, 1), (155, 1), (98, 1), (156, 1), (99, 2), (157, 2), (100, 2), (158, 2), (101, 1), (166, 1), (102, 3), (168, 3), (103, 2), (169, 2), (104, 2), (170, 2), (105, 2), (171, 2), (106, 2), (172, 2), (107, 1), (180, 1), (108, 0), (206, 0), (109, 1), (197, 1), (110, 1), (184, 1), (111, 1), (185, 1), (112, 2), (187, 2), (113, 2), (192, 2), (114, 3), (194, 3), (115, 3), (196, 3), (117, 2), (210, 2), (118, 2), (211, 2), (119, 2), (212, 2), (120, 2), (213, 2), (121, 3), (214, 3), (122, 2), (215, 2), (123, 3), (216, 3), (124, 0), (181, 0), (125, 0), (217, 0), (126, 0), (218, 0), (127, 1), (219, 1)] : List (Nat × Nat)).any (fun q => Nat.beq q.1 k && Nat.beq q.2 n) = true) : lzm k n = true := by
  obtain ⟨q, hq, h2⟩ := List.any_eq_true.mp h
  simp only [Bool.and_eq_true, Nat.beq_eq] at h2
  have h3 := List.all_eq_true.mp lzm_ok q hq
  rw [h2.1, h2.2] at h3
  exact h3
theorem lzd_0 : decode code 0 = .ok (.new 7, 3) := by decide +kernel
theorem lzd_3 : decode code 3 = .ok (.dup, 1) := by decide +kernel
theorem lzd_4 : decode code 4 = .ok (.invokespecial 9, 3) := by decide +kernel
theorem lzd_7 : decode code 7 = .ok (.astore_n 1, 1) := by decide +kernel
theorem lzd_8 : decode code 8 = .ok (.new 10, 3) := by decide +kernel
theorem lzd_11 : decode code 11 = .ok (.dup, 1) := by decide +kernel
theorem lzd_12 : decode code 12 = .ok (.invokespecial 12, 3) := by decide +kernel
theorem lzd_15 : decode code 15 = .ok (.astore_n 2, 1) := by decide +kernel
theorem lzd_16 : decode code 16 = .ok (.iconst 0, 1) := by decide +kernel
theorem lzd_17 : decode code 17 = .ok (.istore_n 3, 1) := by decide +kernel
theorem lzd_18 : decode code 18 = .ok (.iload_n 3, 1) := by decide +kernel
theorem lzd_19 : decode code 19 = .ok (.aload_n 0, 1) := by decide +kernel
theorem lzd_20 : decode code 20 = .ok (.arraylength, 1) := by decide +kernel
theorem lzd_21 : decode code 21 = .ok (.iconst 4, 1) := by decide +kernel
theorem lzd_22 : decode code 22 = .ok (.isub, 1) := by decide +kernel
theorem lzd_23 : decode code 23 = .ok (.if_icmp .gt 1236, 3) := by decide +kernel
theorem lzd_26 : decode code 26 = .ok (.aload_n 0, 1) := by decide +kernel
theorem lzd_27 : decode code 27 = .ok (.iload_n 3, 1) := by decide +kernel
theorem lzd_28 : decode code 28 = .ok (.iaload, 1) := by decide +kernel
theorem lzd_29 : decode code 29 = .ok (.bipush 63, 2) := by decide +kernel
theorem lzd_31 : decode code 31 = .ok (.iand, 1) := by decide +kernel
theorem lzd_1253 : decode code 1253 = .ok (.iinc 3 4, 3) := by decide +kernel
theorem lzd_1256 : decode code 1256 = .ok (.goto (-1238), 3) := by decide +kernel
theorem lzd_1259 : decode code 1259 = .ok (.iconst 1, 1) := by decide +kernel
theorem lzd_1260 : decode code 1260 = .ok (.ireturn, 1) := by decide +kernel
def lzoffs : Array Int := #[156, 189, 232, 265, 298, 341, 364, 387, 420, 453, 476, 519, 552, 585, 618, 651, 674, 687, 710, 733, 756, 789, 822, 865, 908, 941, 974, 1007, 1040, 1083, 1116, 1159, 1172, 1185, 1198]
theorem lzd_32 : decode code 32 = .ok (.tableswitch 1221 0 34 #[156, 189, 232, 265, 298, 341, 364, 387, 420, 453, 476, 519, 552, 585, 618, 651, 674, 687, 710, 733, 756, 789, 822, 865, 908, 941, 974, 1007, 1040, 1083, 1116, 1159, 1172, 1185, 1198], 156) := by decide +kernel
end
section
/-! the seeds near the first one: a table of zeros, values 1 or 2, small degrees -/
def zGq (q : Nat → Int) : Prop := (∀ e, e < 16 → q (1 + e) = 0) ∧ (∀ i, i < 4 → (q (21 + i) = 1 ∨ q (21 + i) = 2) ∧ q (25 + i) = 1) ∧ ∀ j, 29 ≤ j → j < 45 → -1 ≤ q j ∧ q j ≤ 1
theorem zml_0 {up dn tm : Nat → Int} {p : Int × Int} : ∀ (r i : Nat), (∀ j, i ≤ j → j < i + r → tm j = 0) → zml up dn tm r i p = some p
  | 0, _, _ => rfl
  | r + 1, i, h => by
    show (zmt (up i) (dn i) (tm i).toNat p).bind (zml up dn tm r (i + 1)) = some p
    rw [h i (Nat.le_refl _) (by omega)]
    show (some p).bind (zml up dn tm r (i + 1)) = some p
    exact zml_0 r (i + 1) (fun j h1 h2 => h j (by omega) (by omega))
theorem zdu_0 {q : Nat → Int} {k c : Nat} : ∀ n, (∀ i, i < n → q (1 + (4 * i + k)) = 0) → zdu q k c n = 0
  | 0, _ => rfl
  | n + 1, h => by
    rw [zdu_f (by rw [h n (by omega)]; decide), zdu_0 n (fun i hi => h i (by omega))]
    rfl
theorem zdw_0 {q : Nat → Int} {k c : Nat} : ∀ n, (∀ i, i < n → q (1 + (4 * i + k)) = 0) → zdw q k c n = 0
  | 0, _ => rfl
  | n + 1, h => by
    show zdw q k c n + (if q (1 + (4 * n + k)) < 0 then _ else _) = 0
    rw [if_neg (by rw [h n (by omega)]; decide), zdw_0 n (fun i hi => h i (by omega))]
    rfl
theorem zxv_0 {q : Nat → Int} {n k : Nat} (h : zGq q) (hn : n ≤ 4) (hk : k < 4) : zxv q n k = some (if q (21 + k) = 1 then 2 else 1, 1) := by
  have m1 : ∀ sg : Int, zmk q n k sg = some (1, 1) := fun sg => zml_0 n 0 (fun j h1 h2 => by
    rw [h.1 (4 * j + k) (by omega), Int.mul_zero])
  unfold zxv
  rw [m1 1, m1 (-1)]
  dsimp only
  rw [(h.2.1 k hk).2]
  rcases (h.2.1 k hk).1 with e | e <;> rw [e] <;> decide
theorem zG1 : zG zGq := by
  refine ⟨fun S q e h => ⟨fun j hj => by rw [e _ (by omega)]; exact h.1 j hj, fun i hi => by rw [e _ (by omega), e _ (by omega)]; exact h.2.1 i hi, fun j h1 h2 => by rw [e _ h2]; exact h.2.2 j h1 h2⟩, fun q n k hQ hk hc h => ?_, fun q n _ h j h1 h2 => by have := h.2.2 j h1 h2; omega, fun q n hQ h => ⟨0, 0, by have := hQ.1.2.1; omega, by have := hQ.1.2.1; omega, (h.2.2 _ (by omega) (by omega)).1⟩, fun q n hQ h i hi => (h.2.1 i (by have := hQ.1.2.2.1; omega)).2⟩
  have hn := hQ.1.2.2.1
  have hk4 : k < 4 := by omega
  have hv := zxv_0 h hn hk4
  refine ⟨fun e he => ?_, fun i hi => ?_, fun j h1 h2 => ?_⟩
  · rw [zxF_b he]
    unfold zxe zxb
    dsimp only
    rw [h.1 (4 * (e / 4) + e % 4) (by omega), h.1 (4 * (e / 4) + k) (by omega), h.1 (4 * k + e % 4) (by omega)]
    split <;> decide
  · by_cases e : i = k
    · subst e
      rw [zxF_u, zxF_v hk4, hv]
      refine ⟨?_, rfl⟩
      show (if q (21 + i) = 1 then 2 else 1) = (1 : Int) ∨ (if q (21 + i) = 1 then 2 else 1) = (2 : Int)
      split
      · exact Or.inr rfl
      · exact Or.inl rfl
    · rw [zxF_o (by omega) (by omega) (by omega) (by omega), zxF_o (by omega) (by omega) (by omega) (by omega)]
      exact h.2.1 i hi
  · by_cases e : 29 + 4 * k ≤ j ∧ j < 29 + 4 * k + 4
    · obtain ⟨c, rfl⟩ : ∃ c, j = 29 + 4 * k + c := ⟨j - (29 + 4 * k), by omega⟩
      rw [zxF_d hk4 (by omega)]
      unfold zdn
      rw [zdu_0 n (fun i hi => h.1 (4 * i + k) (by omega)), zdw_0 n (fun i hi => h.1 (4 * i + k) (by omega)), if_neg (by omega)]
      have := h.2.2 (29 + 4 * k + c) (by omega) (by omega)
      omega
    · rw [zxF_o (by omega) (by omega) (by omega) e]
      exact h.2.2 j h1 h2
theorem zG1_0 {S : Nat → Int} (e : zeq S (zNw 2)) : zGq S := by
  refine ⟨fun j hj => ?_, fun i hi => ?_, fun j h1 h2 => ?_⟩
  · rw [e _ (by omega)]
    unfold zNw
    rw [if_neg (by omega), if_pos (by omega)]
  · rw [e _ (by omega), e _ (by omega)]
    unfold zNw
    rw [if_neg (by omega), if_neg (by omega), if_pos (by omega), if_neg (by omega), if_neg (by omega), if_pos (by omega)]
    exact ⟨Or.inl rfl, rfl⟩
  · rw [e _ h2]
    unfold zNw
    rw [if_neg (by omega), if_neg (by omega), if_neg (by omega)]
    split <;> omega
end
section
/-! the law's cases: each call on both sides, and the comparison -/
section CASES
variable {p : Program} {l : Launch} {ev : Env} {s : State} {m : MethodId} {below : List Frame} {meth : Method} {c : Code} {b L : Nat} {xs : Nat → Int32} {D : va_G} {cA : Nat → ClassId} {ao x mm i : Nat} {ls : Array Slot}
theorem lcase_0 {w : jS} {H : Heap} {locs : List Loc} {cells slots : Nat} (C : lzC p s m meth c b L xs D cA ao) (G0 : lzG s D cA ao w H locs cells) (hlv : lv_has ls 4 (lzl i mm x b)) (hi : i + 4 ≤ L) (hL : L ≤ 2048) (hR : zRel False x mm w) (hcs : cells ≤ 600000 ∧ slots ≤ 7302250)
    (kk : ∀ H1 locs1 w2, lzG s D cA ao w2 H1 locs1 cells → zRel False x mm w2 → W p l ev room_1 s m #[Value.ref b] below meth c H1 locs1 cells slots (lw_Z below #[Value.ref b] s) (F0 m 1253 ls [])) : W p l ev room_1 s m #[Value.ref b] below meth c H locs cells slots (lw_Z below #[Value.ref b] s) (F0 m 188 ls []) :=
  l_popI (kC := 92) (kE := 147) C G0 hlv (show i + 1 + 2 ≤ L by omega) hL lzc_0 (lzL_in rfl) (lzL_in rfl) (lzm_in rfl) (lzm_in rfl) rfl rfl hR.cw.X0 hR.mw.K0 hcs (T_row hR (lzr xs _) (lzr xs _)) kk
theorem lcase_1 {w : jS} {H : Heap} {locs : List Loc} {cells slots : Nat} (C : lzC p s m meth c b L xs D cA ao) (G0 : lzG s D cA ao w H locs cells) (hlv : lv_has ls 4 (lzl i mm x b)) (hi : i + 4 ≤ L) (hL : L ≤ 2048) (hR : zRel False x mm w) (hcs : cells ≤ 600000 ∧ slots ≤ 7302250)
    (kk : ∀ H1 locs1 w2, lzG s D cA ao w2 H1 locs1 cells → zRel False x mm w2 → W p l ev room_1 s m #[Value.ref b] below meth c H1 locs1 cells slots (lw_Z below #[Value.ref b] s) (F0 m 1253 ls [])) : W p l ev room_1 s m #[Value.ref b] below meth c H locs cells slots (lw_Z below #[Value.ref b] s) (F0 m 221 ls []) :=
  l_popI (kC := 93) (kE := 148) C G0 hlv (show i + 1 + 3 ≤ L by omega) hL lzc_1 (lzL_in rfl) (lzL_in rfl) (lzm_in rfl) (lzm_in rfl) rfl rfl hR.cw.X0 hR.mw.K0 hcs (T_start hR (lzr xs _) (lzr xs _) (lzr xs _)) kk
theorem lcase_2 {w : jS} {H : Heap} {locs : List Loc} {cells slots : Nat} (C : lzC p s m meth c b L xs D cA ao) (G0 : lzG s D cA ao w H locs cells) (hlv : lv_has ls 4 (lzl i mm x b)) (hi : i + 4 ≤ L) (hL : L ≤ 2048) (hR : zRel False x mm w) (hcs : cells ≤ 600000 ∧ slots ≤ 7302250)
    (kk : ∀ H1 locs1 w2, lzG s D cA ao w2 H1 locs1 cells → zRel False x mm w2 → W p l ev room_1 s m #[Value.ref b] below meth c H1 locs1 cells slots (lw_Z below #[Value.ref b] s) (F0 m 1253 ls [])) : W p l ev room_1 s m #[Value.ref b] below meth c H locs cells slots (lw_Z below #[Value.ref b] s) (F0 m 264 ls []) :=
  l_popI (kC := 94) (kE := 150) C G0 hlv (show i + 1 + 2 ≤ L by omega) hL lzc_2 (lzL_in rfl) (lzL_in rfl) (lzm_in rfl) (lzm_in rfl) rfl rfl hR.cw.X0 hR.mw.K0 hcs (T_of hR (lzr xs _) (lzr xs _)) kk
theorem lcase_3 {w : jS} {H : Heap} {locs : List Loc} {cells slots : Nat} (C : lzC p s m meth c b L xs D cA ao) (G0 : lzG s D cA ao w H locs cells) (hlv : lv_has ls 4 (lzl i mm x b)) (hi : i + 4 ≤ L) (hL : L ≤ 2048) (hR : zRel False x mm w) (hcs : cells ≤ 600000 ∧ slots ≤ 7302250)
    (kk : ∀ H1 locs1 w2, lzG s D cA ao w2 H1 locs1 cells → zRel False x mm w2 → W p l ev room_1 s m #[Value.ref b] below meth c H1 locs1 cells slots (lw_Z below #[Value.ref b] s) (F0 m 1253 ls [])) : W p l ev room_1 s m #[Value.ref b] below meth c H locs cells slots (lw_Z below #[Value.ref b] s) (F0 m 297 ls []) :=
  l_popI (kC := 95) (kE := 151) C G0 hlv (show i + 1 + 2 ≤ L by omega) hL lzc_3 (lzL_in rfl) (lzL_in rfl) (lzm_in rfl) (lzm_in rfl) rfl rfl hR.cw.X0 hR.mw.K0 hcs (T_term hR (lzr xs _) (lzr xs _)) kk
theorem lcase_4 {w : jS} {H : Heap} {locs : List Loc} {cells slots : Nat} (C : lzC p s m meth c b L xs D cA ao) (G0 : lzG s D cA ao w H locs cells) (hlv : lv_has ls 4 (lzl i mm x b)) (hi : i + 4 ≤ L) (hL : L ≤ 2048) (hR : zRel False x mm w) (hcs : cells ≤ 600000 ∧ slots ≤ 7302250)
    (kk : ∀ H1 locs1 w2, lzG s D cA ao w2 H1 locs1 cells → zRel False x mm w2 → W p l ev room_1 s m #[Value.ref b] below meth c H1 locs1 cells slots (lw_Z below #[Value.ref b] s) (F0 m 1253 ls [])) : W p l ev room_1 s m #[Value.ref b] below meth c H locs cells slots (lw_Z below #[Value.ref b] s) (F0 m 330 ls []) :=
  l_popJ (kC := 96) (kE := 154) C G0 hlv (show i + 1 + 3 ≤ L by omega) hL lzc_4 (lzL_in rfl) (lzL_in rfl) (lzm_in rfl) (lzm_in rfl) rfl rfl hR.cw.X0 hR.mw.K0 hcs (T_kept hR (lzr xs _) (lzr xs _) (lzr xs _)) kk
theorem lcase_5 {w : jS} {H : Heap} {locs : List Loc} {cells slots : Nat} (C : lzC p s m meth c b L xs D cA ao) (G0 : lzG s D cA ao w H locs cells) (hlv : lv_has ls 4 (lzl i mm x b)) (hi : i + 4 ≤ L) (hL : L ≤ 2048) (hR : zRel False x mm w) (hcs : cells ≤ 600000 ∧ slots ≤ 7302250)
    (kk : ∀ H1 locs1 w2, lzG s D cA ao w2 H1 locs1 cells → zRel False x mm w2 → W p l ev room_1 s m #[Value.ref b] below meth c H1 locs1 cells slots (lw_Z below #[Value.ref b] s) (F0 m 1253 ls [])) : W p l ev room_1 s m #[Value.ref b] below meth c H locs cells slots (lw_Z below #[Value.ref b] s) (F0 m 373 ls []) :=
  l_popI (kC := 97) (kE := 155) C G0 hlv (show i + 1 + 1 ≤ L by omega) hL lzc_5 (lzL_in rfl) (lzL_in rfl) (lzm_in rfl) (lzm_in rfl) rfl rfl hR.cw.X0 hR.mw.K0 hcs (T_stays hR (lzr xs _)) kk
theorem lcase_6 {w : jS} {H : Heap} {locs : List Loc} {cells slots : Nat} (C : lzC p s m meth c b L xs D cA ao) (G0 : lzG s D cA ao w H locs cells) (hlv : lv_has ls 4 (lzl i mm x b)) (hi : i + 4 ≤ L) (hL : L ≤ 2048) (hR : zRel False x mm w) (hcs : cells ≤ 600000 ∧ slots ≤ 7302250)
    (kk : ∀ H1 locs1 w2, lzG s D cA ao w2 H1 locs1 cells → zRel False x mm w2 → W p l ev room_1 s m #[Value.ref b] below meth c H1 locs1 cells slots (lw_Z below #[Value.ref b] s) (F0 m 1253 ls [])) : W p l ev room_1 s m #[Value.ref b] below meth c H locs cells slots (lw_Z below #[Value.ref b] s) (F0 m 396 ls []) :=
  l_popI (kC := 98) (kE := 156) C G0 hlv (show i + 1 + 1 ≤ L by omega) hL lzc_6 (lzL_in rfl) (lzL_in rfl) (lzm_in rfl) (lzm_in rfl) rfl rfl hR.cw.X0 hR.mw.K0 hcs (T_common hR (lzr xs _)) kk
theorem lcase_7 {w : jS} {H : Heap} {locs : List Loc} {cells slots : Nat} (C : lzC p s m meth c b L xs D cA ao) (G0 : lzG s D cA ao w H locs cells) (hlv : lv_has ls 4 (lzl i mm x b)) (hi : i + 4 ≤ L) (hL : L ≤ 2048) (hR : zRel False x mm w) (hcs : cells ≤ 600000 ∧ slots ≤ 7302250)
    (kk : ∀ H1 locs1 w2, lzG s D cA ao w2 H1 locs1 cells → zRel False x mm w2 → W p l ev room_1 s m #[Value.ref b] below meth c H1 locs1 cells slots (lw_Z below #[Value.ref b] s) (F0 m 1253 ls [])) : W p l ev room_1 s m #[Value.ref b] below meth c H locs cells slots (lw_Z below #[Value.ref b] s) (F0 m 419 ls []) :=
  l_popI (kC := 99) (kE := 157) C G0 hlv (show i + 1 + 2 ≤ L by omega) hL lzc_7 (lzL_in rfl) (lzL_in rfl) (lzm_in rfl) (lzm_in rfl) rfl rfl hR.cw.X0 hR.mw.K0 hcs (T_divided hR (lzr xs _) (lzr xs _)) kk
theorem lcase_8 {w : jS} {H : Heap} {locs : List Loc} {cells slots : Nat} (C : lzC p s m meth c b L xs D cA ao) (G0 : lzG s D cA ao w H locs cells) (hlv : lv_has ls 4 (lzl i mm x b)) (hi : i + 4 ≤ L) (hL : L ≤ 2048) (hR : zRel False x mm w) (hcs : cells ≤ 600000 ∧ slots ≤ 7302250)
    (kk : ∀ H1 locs1 w2, lzG s D cA ao w2 H1 locs1 cells → zRel False x mm w2 → W p l ev room_1 s m #[Value.ref b] below meth c H1 locs1 cells slots (lw_Z below #[Value.ref b] s) (F0 m 1253 ls [])) : W p l ev room_1 s m #[Value.ref b] below meth c H locs cells slots (lw_Z below #[Value.ref b] s) (F0 m 452 ls []) :=
  l_popI (kC := 100) (kE := 158) C G0 hlv (show i + 1 + 2 ≤ L by omega) hL lzc_8 (lzL_in rfl) (lzL_in rfl) (lzm_in rfl) (lzm_in rfl) rfl rfl hR.cw.X0 hR.mw.K0 hcs (T_unlike hR (lzr xs _) (lzr xs _)) kk
theorem lcase_9 {w : jS} {H : Heap} {locs : List Loc} {cells slots : Nat} (C : lzC p s m meth c b L xs D cA ao) (G0 : lzG s D cA ao w H locs cells) (hlv : lv_has ls 4 (lzl i mm x b)) (hi : i + 4 ≤ L) (hL : L ≤ 2048) (hR : zRel False x mm w) (hcs : cells ≤ 600000 ∧ slots ≤ 7302250)
    (kk : ∀ H1 locs1 w2, lzG s D cA ao w2 H1 locs1 cells → zRel False x mm w2 → W p l ev room_1 s m #[Value.ref b] below meth c H1 locs1 cells slots (lw_Z below #[Value.ref b] s) (F0 m 1253 ls [])) : W p l ev room_1 s m #[Value.ref b] below meth c H locs cells slots (lw_Z below #[Value.ref b] s) (F0 m 485 ls []) :=
  l_popI (kC := 101) (kE := 166) C G0 hlv (show i + 1 + 1 ≤ L by omega) hL lzc_9 (lzL_in rfl) (lzL_in rfl) (lzm_in rfl) (lzm_in rfl) rfl rfl hR.cw.X0 hR.mw.K0 hcs (T_seed hR (lzr xs _)) kk
theorem lcase_10 {w : jS} {H : Heap} {locs : List Loc} {cells slots : Nat} (C : lzC p s m meth c b L xs D cA ao) (G0 : lzG s D cA ao w H locs cells) (hlv : lv_has ls 4 (lzl i mm x b)) (hi : i + 4 ≤ L) (hL : L ≤ 2048) (hR : zRel False x mm w) (hcs : cells ≤ 600000 ∧ slots ≤ 7302250)
    (kk : ∀ H1 locs1 w2, lzG s D cA ao w2 H1 locs1 cells → zRel False x mm w2 → W p l ev room_1 s m #[Value.ref b] below meth c H1 locs1 cells slots (lw_Z below #[Value.ref b] s) (F0 m 1253 ls [])) : W p l ev room_1 s m #[Value.ref b] below meth c H locs cells slots (lw_Z below #[Value.ref b] s) (F0 m 508 ls []) :=
  l_popI (kC := 102) (kE := 168) C G0 hlv (show i + 1 + 3 ≤ L by omega) hL lzc_10 (lzL_in rfl) (lzL_in rfl) (lzm_in rfl) (lzm_in rfl) rfl rfl hR.cw.X0 hR.mw.K0 hcs (T_table hR (lzr xs _) (lzr xs _) (lzr xs _)) kk
theorem lcase_11 {w : jS} {H : Heap} {locs : List Loc} {cells slots : Nat} (C : lzC p s m meth c b L xs D cA ao) (G0 : lzG s D cA ao w H locs cells) (hlv : lv_has ls 4 (lzl i mm x b)) (hi : i + 4 ≤ L) (hL : L ≤ 2048) (hR : zRel False x mm w) (hcs : cells ≤ 600000 ∧ slots ≤ 7302250)
    (kk : ∀ H1 locs1 w2, lzG s D cA ao w2 H1 locs1 cells → zRel False x mm w2 → W p l ev room_1 s m #[Value.ref b] below meth c H1 locs1 cells slots (lw_Z below #[Value.ref b] s) (F0 m 1253 ls [])) : W p l ev room_1 s m #[Value.ref b] below meth c H locs cells slots (lw_Z below #[Value.ref b] s) (F0 m 551 ls []) :=
  l_popI (kC := 103) (kE := 169) C G0 hlv (show i + 1 + 2 ≤ L by omega) hL lzc_11 (lzL_in rfl) (lzL_in rfl) (lzm_in rfl) (lzm_in rfl) rfl rfl hR.cw.X0 hR.mw.K0 hcs (T_begins hR (lzr xs _) (lzr xs _)) kk
theorem lcase_12 {w : jS} {H : Heap} {locs : List Loc} {cells slots : Nat} (C : lzC p s m meth c b L xs D cA ao) (G0 : lzG s D cA ao w H locs cells) (hlv : lv_has ls 4 (lzl i mm x b)) (hi : i + 4 ≤ L) (hL : L ≤ 2048) (hR : zRel False x mm w) (hcs : cells ≤ 600000 ∧ slots ≤ 7302250)
    (kk : ∀ H1 locs1 w2, lzG s D cA ao w2 H1 locs1 cells → zRel False x mm w2 → W p l ev room_1 s m #[Value.ref b] below meth c H1 locs1 cells slots (lw_Z below #[Value.ref b] s) (F0 m 1253 ls [])) : W p l ev room_1 s m #[Value.ref b] below meth c H locs cells slots (lw_Z below #[Value.ref b] s) (F0 m 584 ls []) :=
  l_popI (kC := 104) (kE := 170) C G0 hlv (show i + 1 + 2 ≤ L by omega) hL lzc_12 (lzL_in rfl) (lzL_in rfl) (lzm_in rfl) (lzm_in rfl) rfl rfl hR.cw.X0 hR.mw.K0 hcs (T_entry hR (lzr xs _) (lzr xs _)) kk
theorem lcase_13 {w : jS} {H : Heap} {locs : List Loc} {cells slots : Nat} (C : lzC p s m meth c b L xs D cA ao) (G0 : lzG s D cA ao w H locs cells) (hlv : lv_has ls 4 (lzl i mm x b)) (hi : i + 4 ≤ L) (hL : L ≤ 2048) (hR : zRel False x mm w) (hcs : cells ≤ 600000 ∧ slots ≤ 7302250)
    (kk : ∀ H1 locs1 w2, lzG s D cA ao w2 H1 locs1 cells → zRel False x mm w2 → W p l ev room_1 s m #[Value.ref b] below meth c H1 locs1 cells slots (lw_Z below #[Value.ref b] s) (F0 m 1253 ls [])) : W p l ev room_1 s m #[Value.ref b] below meth c H locs cells slots (lw_Z below #[Value.ref b] s) (F0 m 617 ls []) :=
  l_popI (kC := 105) (kE := 171) C G0 hlv (show i + 1 + 2 ≤ L by omega) hL lzc_13 (lzL_in rfl) (lzL_in rfl) (lzm_in rfl) (lzm_in rfl) rfl rfl hR.cw.X0 hR.mw.K0 hcs (T_value hR (lzr xs _) (lzr xs _)) kk
theorem lcase_14 {w : jS} {H : Heap} {locs : List Loc} {cells slots : Nat} (C : lzC p s m meth c b L xs D cA ao) (G0 : lzG s D cA ao w H locs cells) (hlv : lv_has ls 4 (lzl i mm x b)) (hi : i + 4 ≤ L) (hL : L ≤ 2048) (hR : zRel False x mm w) (hcs : cells ≤ 600000 ∧ slots ≤ 7302250)
    (kk : ∀ H1 locs1 w2, lzG s D cA ao w2 H1 locs1 cells → zRel False x mm w2 → W p l ev room_1 s m #[Value.ref b] below meth c H1 locs1 cells slots (lw_Z below #[Value.ref b] s) (F0 m 1253 ls [])) : W p l ev room_1 s m #[Value.ref b] below meth c H locs cells slots (lw_Z below #[Value.ref b] s) (F0 m 650 ls []) :=
  l_popI (kC := 106) (kE := 172) C G0 hlv (show i + 1 + 2 ≤ L by omega) hL lzc_14 (lzL_in rfl) (lzL_in rfl) (lzm_in rfl) (lzm_in rfl) rfl rfl hR.cw.X0 hR.mw.K0 hcs (T_power hR (lzr xs _) (lzr xs _)) kk
theorem lcase_15 {w : jS} {H : Heap} {locs : List Loc} {cells slots : Nat} (C : lzC p s m meth c b L xs D cA ao) (G0 : lzG s D cA ao w H locs cells) (hlv : lv_has ls 4 (lzl i mm x b)) (hi : i + 4 ≤ L) (hL : L ≤ 2048) (hR : zRel False x mm w) (hcs : cells ≤ 600000 ∧ slots ≤ 7302250)
    (kk : ∀ H1 locs1 w2, lzG s D cA ao w2 H1 locs1 cells → zRel False x mm w2 → W p l ev room_1 s m #[Value.ref b] below meth c H1 locs1 cells slots (lw_Z below #[Value.ref b] s) (F0 m 1253 ls [])) : W p l ev room_1 s m #[Value.ref b] below meth c H locs cells slots (lw_Z below #[Value.ref b] s) (F0 m 683 ls []) :=
  l_popI (kC := 107) (kE := 180) C G0 hlv (show i + 1 + 1 ≤ L by omega) hL lzc_15 (lzL_in rfl) (lzL_in rfl) (lzm_in rfl) (lzm_in rfl) rfl rfl hR.cw.X0 hR.mw.K0 hcs (T_exchange hR (lzr xs _)) kk
theorem lcase_16 {w : jS} {H : Heap} {locs : List Loc} {cells slots : Nat} (C : lzC p s m meth c b L xs D cA ao) (G0 : lzG s D cA ao w H locs cells) (hlv : lv_has ls 4 (lzl i mm x b)) (hi : i + 4 ≤ L) (hL : L ≤ 2048) (hR : zRel False x mm w) (hcs : cells ≤ 600000 ∧ slots ≤ 7302250)
    (kk : ∀ H1 locs1 w2, lzG s D cA ao w2 H1 locs1 cells → zRel False x mm w2 → W p l ev room_1 s m #[Value.ref b] below meth c H1 locs1 cells slots (lw_Z below #[Value.ref b] s) (F0 m 1253 ls [])) : W p l ev room_1 s m #[Value.ref b] below meth c H locs cells slots (lw_Z below #[Value.ref b] s) (F0 m 706 ls []) :=
  l_popI (kC := 108) (kE := 206) C G0 hlv (show i + 1 + 0 ≤ L by omega) hL lzc_16 (lzL_in rfl) (lzL_in rfl) (lzm_in rfl) (lzm_in rfl) rfl rfl hR.cw.X0 hR.mw.K0 hcs (T_walk hR) kk
theorem lcase_17 {w : jS} {H : Heap} {locs : List Loc} {cells slots : Nat} (C : lzC p s m meth c b L xs D cA ao) (G0 : lzG s D cA ao w H locs cells) (hlv : lv_has ls 4 (lzl i mm x b)) (hi : i + 4 ≤ L) (hL : L ≤ 2048) (hR : zRel False x mm w) (hcs : cells ≤ 600000 ∧ slots ≤ 7302250)
    (kk : ∀ H1 locs1 w2, lzG s D cA ao w2 H1 locs1 cells → zRel False x mm w2 → W p l ev room_1 s m #[Value.ref b] below meth c H1 locs1 cells slots (lw_Z below #[Value.ref b] s) (F0 m 1253 ls [])) : W p l ev room_1 s m #[Value.ref b] below meth c H locs cells slots (lw_Z below #[Value.ref b] s) (F0 m 719 ls []) :=
  l_popI (kC := 109) (kE := 197) C G0 hlv (show i + 1 + 1 ≤ L by omega) hL lzc_17 (lzL_in rfl) (lzL_in rfl) (lzm_in rfl) (lzm_in rfl) rfl rfl hR.cw.X0 hR.mw.K0 hcs (T_letter hR (lzr xs _)) kk
theorem lcase_18 {w : jS} {H : Heap} {locs : List Loc} {cells slots : Nat} (C : lzC p s m meth c b L xs D cA ao) (G0 : lzG s D cA ao w H locs cells) (hlv : lv_has ls 4 (lzl i mm x b)) (hi : i + 4 ≤ L) (hL : L ≤ 2048) (hR : zRel False x mm w) (hcs : cells ≤ 600000 ∧ slots ≤ 7302250)
    (kk : ∀ H1 locs1 w2, lzG s D cA ao w2 H1 locs1 cells → zRel False x mm w2 → W p l ev room_1 s m #[Value.ref b] below meth c H1 locs1 cells slots (lw_Z below #[Value.ref b] s) (F0 m 1253 ls [])) : W p l ev room_1 s m #[Value.ref b] below meth c H locs cells slots (lw_Z below #[Value.ref b] s) (F0 m 742 ls []) :=
  l_popI (kC := 110) (kE := 184) C G0 hlv (show i + 1 + 1 ≤ L by omega) hL lzc_18 (lzL_in rfl) (lzL_in rfl) (lzm_in rfl) (lzm_in rfl) rfl rfl hR.cw.X0 hR.mw.K0 hcs (T_whole hR zG_no (fun z : False => z.elim) (lzr xs _)) kk
theorem lcase_19 {w : jS} {H : Heap} {locs : List Loc} {cells slots : Nat} (C : lzC p s m meth c b L xs D cA ao) (G0 : lzG s D cA ao w H locs cells) (hlv : lv_has ls 4 (lzl i mm x b)) (hi : i + 4 ≤ L) (hL : L ≤ 2048) (hR : zRel False x mm w) (hcs : cells ≤ 600000 ∧ slots ≤ 7302250)
    (kk : ∀ H1 locs1 w2, lzG s D cA ao w2 H1 locs1 cells → zRel False x mm w2 → W p l ev room_1 s m #[Value.ref b] below meth c H1 locs1 cells slots (lw_Z below #[Value.ref b] s) (F0 m 1253 ls [])) : W p l ev room_1 s m #[Value.ref b] below meth c H locs cells slots (lw_Z below #[Value.ref b] s) (F0 m 765 ls []) :=
  l_popI (kC := 111) (kE := 185) C G0 hlv (show i + 1 + 1 ≤ L by omega) hL lzc_19 (lzL_in rfl) (lzL_in rfl) (lzm_in rfl) (lzm_in rfl) rfl rfl hR.cw.X0 hR.mw.K0 hcs (T_sinks hR (lzr xs _)) kk
theorem lcase_20 {w : jS} {H : Heap} {locs : List Loc} {cells slots : Nat} (C : lzC p s m meth c b L xs D cA ao) (G0 : lzG s D cA ao w H locs cells) (hlv : lv_has ls 4 (lzl i mm x b)) (hi : i + 4 ≤ L) (hL : L ≤ 2048) (hR : zRel False x mm w) (hcs : cells ≤ 600000 ∧ slots ≤ 7302250)
    (kk : ∀ H1 locs1 w2, lzG s D cA ao w2 H1 locs1 cells → zRel False x mm w2 → W p l ev room_1 s m #[Value.ref b] below meth c H1 locs1 cells slots (lw_Z below #[Value.ref b] s) (F0 m 1253 ls [])) : W p l ev room_1 s m #[Value.ref b] below meth c H locs cells slots (lw_Z below #[Value.ref b] s) (F0 m 788 ls []) :=
  l_popI (kC := 112) (kE := 187) C G0 hlv (show i + 1 + 2 ≤ L by omega) hL lzc_20 (lzL_in rfl) (lzL_in rfl) (lzm_in rfl) (lzm_in rfl) rfl rfl hR.cw.X0 hR.mw.K0 hcs (T_ring hR (lzr xs _) (lzr xs _)) kk
theorem lcase_21 {w : jS} {H : Heap} {locs : List Loc} {cells slots : Nat} (C : lzC p s m meth c b L xs D cA ao) (G0 : lzG s D cA ao w H locs cells) (hlv : lv_has ls 4 (lzl i mm x b)) (hi : i + 4 ≤ L) (hL : L ≤ 2048) (hR : zRel False x mm w) (hcs : cells ≤ 600000 ∧ slots ≤ 7302250)
    (kk : ∀ H1 locs1 w2, lzG s D cA ao w2 H1 locs1 cells → zRel False x mm w2 → W p l ev room_1 s m #[Value.ref b] below meth c H1 locs1 cells slots (lw_Z below #[Value.ref b] s) (F0 m 1253 ls [])) : W p l ev room_1 s m #[Value.ref b] below meth c H locs cells slots (lw_Z below #[Value.ref b] s) (F0 m 821 ls []) :=
  l_popI (kC := 113) (kE := 192) C G0 hlv (show i + 1 + 2 ≤ L by omega) hL lzc_21 (lzL_in rfl) (lzL_in rfl) (lzm_in rfl) (lzm_in rfl) rfl rfl hR.cw.X0 hR.mw.K0 hcs (T_reached hR zG_no (fun z : False => z.elim) (lzr xs _) (lzr xs _)) kk
theorem lcase_22 {w : jS} {H : Heap} {locs : List Loc} {cells slots : Nat} (C : lzC p s m meth c b L xs D cA ao) (G0 : lzG s D cA ao w H locs cells) (hlv : lv_has ls 4 (lzl i mm x b)) (hi : i + 4 ≤ L) (hL : L ≤ 2048) (hR : zRel False x mm w) (hcs : cells ≤ 600000 ∧ slots ≤ 7302250)
    (kk : ∀ H1 locs1 w2, lzG s D cA ao w2 H1 locs1 cells → zRel False x mm w2 → W p l ev room_1 s m #[Value.ref b] below meth c H1 locs1 cells slots (lw_Z below #[Value.ref b] s) (F0 m 1253 ls [])) : W p l ev room_1 s m #[Value.ref b] below meth c H locs cells slots (lw_Z below #[Value.ref b] s) (F0 m 854 ls []) :=
  l_popI (kC := 114) (kE := 194) C G0 hlv (show i + 1 + 3 ≤ L by omega) hL lzc_22 (lzL_in rfl) (lzL_in rfl) (lzm_in rfl) (lzm_in rfl) rfl rfl hR.cw.X0 hR.mw.K0 hcs (T_fewest hR zG_no (fun z : False => z.elim) (lzr xs _) (lzr xs _) (lzr xs _)) kk
theorem lcase_23 {w : jS} {H : Heap} {locs : List Loc} {cells slots : Nat} (C : lzC p s m meth c b L xs D cA ao) (G0 : lzG s D cA ao w H locs cells) (hlv : lv_has ls 4 (lzl i mm x b)) (hi : i + 4 ≤ L) (hL : L ≤ 2048) (hR : zRel False x mm w) (hcs : cells ≤ 600000 ∧ slots ≤ 7302250)
    (kk : ∀ H1 locs1 w2, lzG s D cA ao w2 H1 locs1 cells → zRel False x mm w2 → W p l ev room_1 s m #[Value.ref b] below meth c H1 locs1 cells slots (lw_Z below #[Value.ref b] s) (F0 m 1253 ls [])) : W p l ev room_1 s m #[Value.ref b] below meth c H locs cells slots (lw_Z below #[Value.ref b] s) (F0 m 897 ls []) :=
  l_popI (kC := 115) (kE := 196) C G0 hlv (show i + 1 + 3 ≤ L by omega) hL lzc_23 (lzL_in rfl) (lzL_in rfl) (lzm_in rfl) (lzm_in rfl) rfl rfl hR.cw.X0 hR.mw.K0 hcs (T_lots hR zG_no (fun z : False => z.elim) (z := lzv xs (i + 1 + 1)) (lzr xs _) (lzr xs _)) kk
theorem lcase_24 {w : jS} {H : Heap} {locs : List Loc} {cells slots : Nat} (C : lzC p s m meth c b L xs D cA ao) (G0 : lzG s D cA ao w H locs cells) (hlv : lv_has ls 4 (lzl i mm x b)) (hi : i + 4 ≤ L) (hL : L ≤ 2048) (hR : zRel False x mm w) (hcs : cells ≤ 600000 ∧ slots ≤ 7302250)
    (kk : ∀ H1 locs1 w2, lzG s D cA ao w2 H1 locs1 cells → zRel False x mm w2 → W p l ev room_1 s m #[Value.ref b] below meth c H1 locs1 cells slots (lw_Z below #[Value.ref b] s) (F0 m 1253 ls [])) : W p l ev room_1 s m #[Value.ref b] below meth c H locs cells slots (lw_Z below #[Value.ref b] s) (F0 m 940 ls []) :=
  l_popI (kC := 117) (kE := 210) C G0 hlv (show i + 1 + 2 ≤ L by omega) hL lzc_24 (lzL_in rfl) (lzL_in rfl) (lzm_in rfl) (lzm_in rfl) rfl rfl hR.cw.X0 hR.mw.K0 hcs (T_laws hR (lzr xs _) (lzr xs _)) kk
theorem lcase_25 {w : jS} {H : Heap} {locs : List Loc} {cells slots : Nat} (C : lzC p s m meth c b L xs D cA ao) (G0 : lzG s D cA ao w H locs cells) (hlv : lv_has ls 4 (lzl i mm x b)) (hi : i + 4 ≤ L) (hL : L ≤ 2048) (hR : zRel False x mm w) (hcs : cells ≤ 600000 ∧ slots ≤ 7302250)
    (kk : ∀ H1 locs1 w2, lzG s D cA ao w2 H1 locs1 cells → zRel False x mm w2 → W p l ev room_1 s m #[Value.ref b] below meth c H1 locs1 cells slots (lw_Z below #[Value.ref b] s) (F0 m 1253 ls [])) : W p l ev room_1 s m #[Value.ref b] below meth c H locs cells slots (lw_Z below #[Value.ref b] s) (F0 m 973 ls []) :=
  l_popI (kC := 118) (kE := 211) C G0 hlv (show i + 1 + 2 ≤ L by omega) hL lzc_25 (lzL_in rfl) (lzL_in rfl) (lzm_in rfl) (lzm_in rfl) rfl rfl hR.cw.X0 hR.mw.K0 hcs (T_figures hR (lzr xs _) (lzr xs _)) kk
theorem lcase_26 {w : jS} {H : Heap} {locs : List Loc} {cells slots : Nat} (C : lzC p s m meth c b L xs D cA ao) (G0 : lzG s D cA ao w H locs cells) (hlv : lv_has ls 4 (lzl i mm x b)) (hi : i + 4 ≤ L) (hL : L ≤ 2048) (hR : zRel False x mm w) (hcs : cells ≤ 600000 ∧ slots ≤ 7302250)
    (kk : ∀ H1 locs1 w2, lzG s D cA ao w2 H1 locs1 cells → zRel False x mm w2 → W p l ev room_1 s m #[Value.ref b] below meth c H1 locs1 cells slots (lw_Z below #[Value.ref b] s) (F0 m 1253 ls [])) : W p l ev room_1 s m #[Value.ref b] below meth c H locs cells slots (lw_Z below #[Value.ref b] s) (F0 m 1006 ls []) :=
  l_popI (kC := 119) (kE := 212) C G0 hlv (show i + 1 + 2 ≤ L by omega) hL lzc_26 (lzL_in rfl) (lzL_in rfl) (lzm_in rfl) (lzm_in rfl) rfl rfl hR.cw.X0 hR.mw.K0 hcs (T_judge hR (lzr xs _) (lzr xs _)) kk
theorem lcase_27 {w : jS} {H : Heap} {locs : List Loc} {cells slots : Nat} (C : lzC p s m meth c b L xs D cA ao) (G0 : lzG s D cA ao w H locs cells) (hlv : lv_has ls 4 (lzl i mm x b)) (hi : i + 4 ≤ L) (hL : L ≤ 2048) (hR : zRel False x mm w) (hcs : cells ≤ 600000 ∧ slots ≤ 7302250)
    (kk : ∀ H1 locs1 w2, lzG s D cA ao w2 H1 locs1 cells → zRel False x mm w2 → W p l ev room_1 s m #[Value.ref b] below meth c H1 locs1 cells slots (lw_Z below #[Value.ref b] s) (F0 m 1253 ls [])) : W p l ev room_1 s m #[Value.ref b] below meth c H locs cells slots (lw_Z below #[Value.ref b] s) (F0 m 1039 ls []) :=
  l_popI (kC := 120) (kE := 213) C G0 hlv (show i + 1 + 2 ≤ L by omega) hL lzc_27 (lzL_in rfl) (lzL_in rfl) (lzm_in rfl) (lzm_in rfl) rfl rfl hR.cw.X0 hR.mw.K0 hcs (T_list hR (lzr xs _) (lzr xs _)) kk
theorem lcase_28 {w : jS} {H : Heap} {locs : List Loc} {cells slots : Nat} (C : lzC p s m meth c b L xs D cA ao) (G0 : lzG s D cA ao w H locs cells) (hlv : lv_has ls 4 (lzl i mm x b)) (hi : i + 4 ≤ L) (hL : L ≤ 2048) (hR : zRel False x mm w) (hcs : cells ≤ 600000 ∧ slots ≤ 7302250)
    (kk : ∀ H1 locs1 w2, lzG s D cA ao w2 H1 locs1 cells → zRel False x mm w2 → W p l ev room_1 s m #[Value.ref b] below meth c H1 locs1 cells slots (lw_Z below #[Value.ref b] s) (F0 m 1253 ls [])) : W p l ev room_1 s m #[Value.ref b] below meth c H locs cells slots (lw_Z below #[Value.ref b] s) (F0 m 1072 ls []) :=
  l_popI (kC := 121) (kE := 214) C G0 hlv (show i + 1 + 3 ≤ L by omega) hL lzc_28 (lzL_in rfl) (lzL_in rfl) (lzm_in rfl) (lzm_in rfl) rfl rfl hR.cw.X0 hR.mw.K0 hcs (T_put hR (lzr xs _) (lzr xs _) (lzr xs _)) kk
theorem lcase_29 {w : jS} {H : Heap} {locs : List Loc} {cells slots : Nat} (C : lzC p s m meth c b L xs D cA ao) (G0 : lzG s D cA ao w H locs cells) (hlv : lv_has ls 4 (lzl i mm x b)) (hi : i + 4 ≤ L) (hL : L ≤ 2048) (hR : zRel False x mm w) (hcs : cells ≤ 600000 ∧ slots ≤ 7302250)
    (kk : ∀ H1 locs1 w2, lzG s D cA ao w2 H1 locs1 cells → zRel False x mm w2 → W p l ev room_1 s m #[Value.ref b] below meth c H1 locs1 cells slots (lw_Z below #[Value.ref b] s) (F0 m 1253 ls [])) : W p l ev room_1 s m #[Value.ref b] below meth c H locs cells slots (lw_Z below #[Value.ref b] s) (F0 m 1115 ls []) :=
  l_popJ (kC := 122) (kE := 215) C G0 hlv (show i + 1 + 2 ≤ L by omega) hL lzc_29 (lzL_in rfl) (lzL_in rfl) (lzm_in rfl) (lzm_in rfl) rfl rfl hR.cw.X0 hR.mw.K0 hcs (T_look hR (lzr xs _) (lzr xs _)) kk
theorem lcase_30 {w : jS} {H : Heap} {locs : List Loc} {cells slots : Nat} (C : lzC p s m meth c b L xs D cA ao) (G0 : lzG s D cA ao w H locs cells) (hlv : lv_has ls 4 (lzl i mm x b)) (hi : i + 4 ≤ L) (hL : L ≤ 2048) (hR : zRel False x mm w) (hcs : cells ≤ 600000 ∧ slots ≤ 7302250)
    (kk : ∀ H1 locs1 w2, lzG s D cA ao w2 H1 locs1 cells → zRel False x mm w2 → W p l ev room_1 s m #[Value.ref b] below meth c H1 locs1 cells slots (lw_Z below #[Value.ref b] s) (F0 m 1253 ls [])) : W p l ev room_1 s m #[Value.ref b] below meth c H locs cells slots (lw_Z below #[Value.ref b] s) (F0 m 1148 ls []) :=
  l_popI (kC := 123) (kE := 216) C G0 hlv (show i + 1 + 3 ≤ L by omega) hL lzc_30 (lzL_in rfl) (lzL_in rfl) (lzm_in rfl) (lzm_in rfl) rfl rfl hR.cw.X0 hR.mw.K0 hcs (T_lays hR (lzr xs _) (lzr xs _) (lzr xs _)) kk
theorem lcase_31 {w : jS} {H : Heap} {locs : List Loc} {cells slots : Nat} (C : lzC p s m meth c b L xs D cA ao) (G0 : lzG s D cA ao w H locs cells) (hlv : lv_has ls 4 (lzl i mm x b)) (hi : i + 4 ≤ L) (hL : L ≤ 2048) (hR : zRel False x mm w) (hcs : cells ≤ 600000 ∧ slots ≤ 7302250)
    (kk : ∀ H1 locs1 w2, lzG s D cA ao w2 H1 locs1 cells → zRel False x mm w2 → W p l ev room_1 s m #[Value.ref b] below meth c H1 locs1 cells slots (lw_Z below #[Value.ref b] s) (F0 m 1253 ls [])) : W p l ev room_1 s m #[Value.ref b] below meth c H locs cells slots (lw_Z below #[Value.ref b] s) (F0 m 1191 ls []) :=
  l_popI (kC := 124) (kE := 181) C G0 hlv (show i + 1 + 0 ≤ L by omega) hL lzc_31 (lzL_in rfl) (lzL_in rfl) (lzm_in rfl) (lzm_in rfl) rfl rfl hR.cw.X0 hR.mw.K0 hcs (T_undo hR) kk
theorem lcase_32 {w : jS} {H : Heap} {locs : List Loc} {cells slots : Nat} (C : lzC p s m meth c b L xs D cA ao) (G0 : lzG s D cA ao w H locs cells) (hlv : lv_has ls 4 (lzl i mm x b)) (hi : i + 4 ≤ L) (hL : L ≤ 2048) (hR : zRel False x mm w) (hcs : cells ≤ 600000 ∧ slots ≤ 7302250)
    (kk : ∀ H1 locs1 w2, lzG s D cA ao w2 H1 locs1 cells → zRel False x mm w2 → W p l ev room_1 s m #[Value.ref b] below meth c H1 locs1 cells slots (lw_Z below #[Value.ref b] s) (F0 m 1253 ls [])) : W p l ev room_1 s m #[Value.ref b] below meth c H locs cells slots (lw_Z below #[Value.ref b] s) (F0 m 1204 ls []) :=
  l_popI (kC := 125) (kE := 217) C G0 hlv (show i + 1 + 0 ≤ L by omega) hL lzc_32 (lzL_in rfl) (lzL_in rfl) (lzm_in rfl) (lzm_in rfl) rfl rfl hR.cw.X0 hR.mw.K0 hcs (T_image hR) kk
theorem lcase_33 {w : jS} {H : Heap} {locs : List Loc} {cells slots : Nat} (C : lzC p s m meth c b L xs D cA ao) (G0 : lzG s D cA ao w H locs cells) (hlv : lv_has ls 4 (lzl i mm x b)) (hi : i + 4 ≤ L) (hL : L ≤ 2048) (hR : zRel False x mm w) (hcs : cells ≤ 600000 ∧ slots ≤ 7302250)
    (kk : ∀ H1 locs1 w2, lzG s D cA ao w2 H1 locs1 cells → zRel False x mm w2 → W p l ev room_1 s m #[Value.ref b] below meth c H1 locs1 cells slots (lw_Z below #[Value.ref b] s) (F0 m 1253 ls [])) : W p l ev room_1 s m #[Value.ref b] below meth c H locs cells slots (lw_Z below #[Value.ref b] s) (F0 m 1217 ls []) :=
  l_cmpI (kC := 126) (kE := 218) C G0 hlv (show i + 1 + 0 ≤ L by omega) hL lzc_33 (lzL_in rfl) (lzL_in rfl) (lzm_in rfl) (lzm_in rfl) rfl rfl hR.cw.X0 hR.mw.K0 hcs (T_on hR) (show _ from trivial) kk
theorem lcase_34 {w : jS} {H : Heap} {locs : List Loc} {cells slots : Nat} (C : lzC p s m meth c b L xs D cA ao) (G0 : lzG s D cA ao w H locs cells) (hlv : lv_has ls 4 (lzl i mm x b)) (hi : i + 4 ≤ L) (hL : L ≤ 2048) (hR : zRel False x mm w) (hcs : cells ≤ 600000 ∧ slots ≤ 7302250)
    (kk : ∀ H1 locs1 w2, lzG s D cA ao w2 H1 locs1 cells → zRel False x mm w2 → W p l ev room_1 s m #[Value.ref b] below meth c H1 locs1 cells slots (lw_Z below #[Value.ref b] s) (F0 m 1253 ls [])) : W p l ev room_1 s m #[Value.ref b] below meth c H locs cells slots (lw_Z below #[Value.ref b] s) (F0 m 1230 ls []) :=
  l_popI (kC := 127) (kE := 219) C G0 hlv (show i + 1 + 1 ≤ L by omega) hL lzc_34 (lzL_in rfl) (lzL_in rfl) (lzm_in rfl) (lzm_in rfl) rfl rfl hR.cw.X0 hR.mw.K0 hcs (T_count hR zG_no (fun z : False => z.elim) (lzr xs _)) kk
end CASES
end
