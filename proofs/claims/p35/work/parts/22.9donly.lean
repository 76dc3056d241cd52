section
/-! the law's loop, and its start -/
section LOOP
variable {p : Program} {l : Launch} {ev : Env} {s : State} {m : MethodId} {below : List Frame} {meth : Method} {c : Code} {b L : Nat} {xs : Nat → Int32} {D : va_G} {cA : Nat → ClassId} {ao x mm : Nat}
theorem l_tab {H : Heap} {locs : List Loc} {cells slots pc k : Nat} {ls : Array Slot} {Q : State → Prop} {x off : Int} (C : lzC p s m meth c b L xs D cA ao) (e : b32 x = (k : Int)) (hk : k ≤ 34) (ho : (lzoffs)[k]? = some off) (ht : ((32 : Nat) : Int) + off = (pc : Int)) (kk : W p l ev room_1 s m #[Value.ref b] below meth c H locs cells slots Q (F0 m pc ls [])) : W p l ev room_1 s m #[Value.ref b] below meth c H locs cells slots Q (F0 m 32 ls [.int (Int32.ofInt x)]) := by
  refine lv_tableIn C.1.1 C.1.2.1 lzd_32 (by rw [j32, e]; omega) (by rw [j32, e]; omega) (off := off) ?_ ht kk
  rw [j32, e, show ((k : Int) - 0).toNat = k by omega]
  exact ho
theorem l_exit {H : Heap} {locs : List Loc} {cells slots : Nat} {ls : Array Slot} {w : jS} (C : lzC p s m meth c b L xs D cA ao) (G0 : lzG s D cA ao w H locs cells) (hcs : cells ≤ 600000 ∧ slots ≤ 7302250) : W p l ev room_1 s m #[Value.ref b] below meth c H locs cells slots (lw_Z below #[Value.ref b] s) (F0 m 1259 ls []) := by
  refine va_forget G0.2.1.2.2 ?_
  refine W.widen hcs.1 hcs.2 ?_
  refine lv_iconst (v := 1) C.1.1 C.1.2.1 lzd_1259 (by decide) ?_
  exact lw_ret C.1.1 C.1.2.1 C.1.2.2.1 C.1.2.2.2.2.2.2.2.2.1 lzd_1260
/-- the loop's head: on, or at the end -/
theorem l_head {H : Heap} {locs : List Loc} {cells slots i : Nat} {ls : Array Slot} {w : jS} (C : lzC p s m meth c b L xs D cA ao) (G0 : lzG s D cA ao w H locs cells) (hlv : lv_has ls 4 (lzl i mm x b)) (hi : i ≤ 4096) (hL : L ≤ 2048) (hcs : cells ≤ 600000 ∧ slots ≤ 7302250)
    (kk : i + 4 ≤ L → W p l ev room_1 s m #[Value.ref b] below meth c H locs cells slots (lw_Z below #[Value.ref b] s) (F0 m 32 ls [.int (Int32.ofInt (jand (lzv xs i) 63))])) : W p l ev room_1 s m #[Value.ref b] below meth c H locs cells slots (lw_Z below #[Value.ref b] s) (F0 m 18 ls []) := by
  obtain ⟨v3, v2, v1, v0⟩ := lz_at hlv
  have hx := C.1.1
  have hb := C.1.2.1
  have hX := C.1.2.2.2.2.2.2.1
  have hbl := C.1.2.2.2.2.2.2.2.1
  refine lv_iload_n hx hb lzd_18 rfl v3 ?_
  refine lv_aload_n hx hb lzd_19 rfl v0 ?_
  refine va_slen (A := fun q => s.heap.size ≤ q) hx hb hX hbl (by omega) G0.2.1 lzd_20 ?_
  refine lv_iconst (v := 4) hx hb lzd_21 (by decide) ?_
  refine lv_isub hx hb lzd_22 ?_
  rw [show Int32.ofNat L - 4 = Int32.ofInt ((L : Int) - 4) by rw [Int32.ofInt_sub]; rfl, j32_nat]
  refine lv_icmp_gt (tgt := 1259) hx hb lzd_23 (by decide) (fun h => l_exit C G0 hcs) (fun h => ?_)
  rw [j32_lt, b32_id (by omega) (by omega), b32_id (by omega) (by omega)] at h
  have hi4 : i + 4 ≤ L := by omega
  refine lv_aload_n hx hb lzd_26 rfl v0 ?_
  refine lv_iload_n hx hb lzd_27 rfl v3 ?_
  refine l_ld C G0 (by omega) hL lzd_28 ?_
  refine lv_bipush (v := 63) hx hb lzd_29 (by decide) ?_
  refine lv_iand hx hb lzd_31 ?_
  have e : xs i &&& 63 = Int32.ofInt (jand (lzv xs i) 63) := by
    rw [← j32_and]
    unfold lzv
    rw [Int32.ofInt_toInt]
    rfl
  rw [e]
  exact kk hi4
/-- behind a case -/
theorem l_next {H : Heap} {locs : List Loc} {cells slots i : Nat} {ls : Array Slot} {Q : State → Prop} (C : lzC p s m meth c b L xs D cA ao) (hlv : lv_has ls 4 (lzl i mm x b))
    (kk : ∀ ls, lv_has ls 4 (lzl (i + 4) mm x b) → W p l ev room_1 s m #[Value.ref b] below meth c H locs cells slots Q (F0 m 18 ls [])) : W p l ev room_1 s m #[Value.ref b] below meth c H locs cells slots Q (F0 m 1253 ls []) := by
  refine lv_iinc (v := Int32.ofNat (i + 4)) (k := 0) (lv' := lzl (i + 4) mm x b) C.1.1 C.1.2.1 lzd_1253 hlv rfl ?_ (by decide) rfl (fun ls1 hlv1 => ?_)
  · exact (Int32.ofNat_add i 4).symm
  · exact lv_goto (tgt := 18) C.1.1 C.1.2.1 lzd_1256 (by decide) (kk ls1 hlv1)
/-- all cases -/
theorem l_body {H : Heap} {locs : List Loc} {cells slots i : Nat} {ls : Array Slot} {w : jS} (C : lzC p s m meth c b L xs D cA ao) (G0 : lzG s D cA ao w H locs cells) (hlv : lv_has ls 4 (lzl i mm x b)) (hi4 : i + 4 ≤ L) (hL : L ≤ 2048) (hR : zRel False x mm w) (hcs : cells ≤ 600000 ∧ slots ≤ 7302250)
    (kk : ∀ H1 locs1 w2, lzG s D cA ao w2 H1 locs1 cells → zRel False x mm w2 → W p l ev room_1 s m #[Value.ref b] below meth c H1 locs1 cells slots (lw_Z below #[Value.ref b] s) (F0 m 1253 ls [])) : W p l ev room_1 s m #[Value.ref b] below meth c H locs cells slots (lw_Z below #[Value.ref b] s) (F0 m 32 ls [.int (Int32.ofInt (jand (lzv xs i) 63))]) := by
  by_cases hin : 0 ≤ b32 (jand (lzv xs i) 63) ∧ b32 (jand (lzv xs i) 63) ≤ 34
  · rcases (show b32 (jand (lzv xs i) 63) = 0 ∨ b32 (jand (lzv xs i) 63) = 1 ∨ b32 (jand (lzv xs i) 63) = 2 ∨ b32 (jand (lzv xs i) 63) = 3 ∨ b32 (jand (lzv xs i) 63) = 4 ∨ b32 (jand (lzv xs i) 63) = 5 ∨ b32 (jand (lzv xs i) 63) = 6 ∨ b32 (jand (lzv xs i) 63) = 7 ∨ b32 (jand (lzv xs i) 63) = 8 ∨ b32 (jand (lzv xs i) 63) = 9 ∨ b32 (jand (lzv xs i) 63) = 10 ∨ b32 (jand (lzv xs i) 63) = 11 ∨ b32 (jand (lzv xs i) 63) = 12 ∨ b32 (jand (lzv xs i) 63) = 13 ∨ b32 (jand (lzv xs i) 63) = 14 ∨ b32 (jand (lzv xs i) 63) = 15 ∨ b32 (jand (lzv xs i) 63) = 16 ∨ b32 (jand (lzv xs i) 63) = 17 ∨ b32 (jand (lzv xs i) 63) = 18 ∨ b32 (jand (lzv xs i) 63) = 19 ∨ b32 (jand (lzv xs i) 63) = 20 ∨ b32 (jand (lzv xs i) 63) = 21 ∨ b32 (jand (lzv xs i) 63) = 22 ∨ b32 (jand (lzv xs i) 63) = 23 ∨ b32 (jand (lzv xs i) 63) = 24 ∨ b32 (jand (lzv xs i) 63) = 25 ∨ b32 (jand (lzv xs i) 63) = 26 ∨ b32 (jand (lzv xs i) 63) = 27 ∨ b32 (jand (lzv xs i) 63) = 28 ∨ b32 (jand (lzv xs i) 63) = 29 ∨ b32 (jand (lzv xs i) 63) = 30 ∨ b32 (jand (lzv xs i) 63) = 31 ∨ b32 (jand (lzv xs i) 63) = 32 ∨ b32 (jand (lzv xs i) 63) = 33 ∨ b32 (jand (lzv xs i) 63) = 34 by omega) with e | e | e | e | e | e | e | e | e | e | e | e | e | e | e | e | e | e | e | e | e | e | e | e | e | e | e | e | e | e | e | e | e | e | e
    · exact l_tab C (x := jand (lzv xs i) 63) (k := 0) (off := 156) e (by decide) rfl rfl (lcase_0 C G0 hlv hi4 hL hR hcs kk)
    · exact l_tab C (x := jand (lzv xs i) 63) (k := 1) (off := 189) e (by decide) rfl rfl (lcase_1 C G0 hlv hi4 hL hR hcs kk)
    · exact l_tab C (x := jand (lzv xs i) 63) (k := 2) (off := 232) e (by decide) rfl rfl (lcase_2 C G0 hlv hi4 hL hR hcs kk)
    · exact l_tab C (x := jand (lzv xs i) 63) (k := 3) (off := 265) e (by decide) rfl rfl (lcase_3 C G0 hlv hi4 hL hR hcs kk)
    · exact l_tab C (x := jand (lzv xs i) 63) (k := 4) (off := 298) e (by decide) rfl rfl (lcase_4 C G0 hlv hi4 hL hR hcs kk)
    · exact l_tab C (x := jand (lzv xs i) 63) (k := 5) (off := 341) e (by decide) rfl rfl (lcase_5 C G0 hlv hi4 hL hR hcs kk)
    · exact l_tab C (x := jand (lzv xs i) 63) (k := 6) (off := 364) e (by decide) rfl rfl (lcase_6 C G0 hlv hi4 hL hR hcs kk)
    · exact l_tab C (x := jand (lzv xs i) 63) (k := 7) (off := 387) e (by decide) rfl rfl (lcase_7 C G0 hlv hi4 hL hR hcs kk)
    · exact l_tab C (x := jand (lzv xs i) 63) (k := 8) (off := 420) e (by decide) rfl rfl (lcase_8 C G0 hlv hi4 hL hR hcs kk)
    · exact l_tab C (x := jand (lzv xs i) 63) (k := 9) (off := 453) e (by decide) rfl rfl (lcase_9 C G0 hlv hi4 hL hR hcs kk)
    · exact l_tab C (x := jand (lzv xs i) 63) (k := 10) (off := 476) e (by decide) rfl rfl (lcase_10 C G0 hlv hi4 hL hR hcs kk)
    · exact l_tab C (x := jand (lzv xs i) 63) (k := 11) (off := 519) e (by decide) rfl rfl (lcase_11 C G0 hlv hi4 hL hR hcs kk)
    · exact l_tab C (x := jand (lzv xs i) 63) (k := 12) (off := 552) e (by decide) rfl rfl (lcase_12 C G0 hlv hi4 hL hR hcs kk)
    · exact l_tab C (x := jand (lzv xs i) 63) (k := 13) (off := 585) e (by decide) rfl rfl (lcase_13 C G0 hlv hi4 hL hR hcs kk)
    · exact l_tab C (x := jand (lzv xs i) 63) (k := 14) (off := 618) e (by decide) rfl rfl (lcase_14 C G0 hlv hi4 hL hR hcs kk)
    · exact l_tab C (x := jand (lzv xs i) 63) (k := 15) (off := 651) e (by decide) rfl rfl (lcase_15 C G0 hlv hi4 hL hR hcs kk)
    · exact l_tab C (x := jand (lzv xs i) 63) (k := 16) (off := 674) e (by decide) rfl rfl (lcase_16 C G0 hlv hi4 hL hR hcs kk)
    · exact l_tab C (x := jand (lzv xs i) 63) (k := 17) (off := 687) e (by decide) rfl rfl (lcase_17 C G0 hlv hi4 hL hR hcs kk)
    · exact l_tab C (x := jand (lzv xs i) 63) (k := 18) (off := 710) e (by decide) rfl rfl (lcase_18 C G0 hlv hi4 hL hR hcs kk)
    · exact l_tab C (x := jand (lzv xs i) 63) (k := 19) (off := 733) e (by decide) rfl rfl (lcase_19 C G0 hlv hi4 hL hR hcs kk)
    · exact l_tab C (x := jand (lzv xs i) 63) (k := 20) (off := 756) e (by decide) rfl rfl (lcase_20 C G0 hlv hi4 hL hR hcs kk)
    · exact l_tab C (x := jand (lzv xs i) 63) (k := 21) (off := 789) e (by decide) rfl rfl (lcase_21 C G0 hlv hi4 hL hR hcs kk)
    · exact l_tab C (x := jand (lzv xs i) 63) (k := 22) (off := 822) e (by decide) rfl rfl (lcase_22 C G0 hlv hi4 hL hR hcs kk)
    · exact l_tab C (x := jand (lzv xs i) 63) (k := 23) (off := 865) e (by decide) rfl rfl (lcase_23 C G0 hlv hi4 hL hR hcs kk)
    · exact l_tab C (x := jand (lzv xs i) 63) (k := 24) (off := 908) e (by decide) rfl rfl (lcase_24 C G0 hlv hi4 hL hR hcs kk)
    · exact l_tab C (x := jand (lzv xs i) 63) (k := 25) (off := 941) e (by decide) rfl rfl (lcase_25 C G0 hlv hi4 hL hR hcs kk)
    · exact l_tab C (x := jand (lzv xs i) 63) (k := 26) (off := 974) e (by decide) rfl rfl (lcase_26 C G0 hlv hi4 hL hR hcs kk)
    · exact l_tab C (x := jand (lzv xs i) 63) (k := 27) (off := 1007) e (by decide) rfl rfl (lcase_27 C G0 hlv hi4 hL hR hcs kk)
    · exact l_tab C (x := jand (lzv xs i) 63) (k := 28) (off := 1040) e (by decide) rfl rfl (lcase_28 C G0 hlv hi4 hL hR hcs kk)
    · exact l_tab C (x := jand (lzv xs i) 63) (k := 29) (off := 1083) e (by decide) rfl rfl (lcase_29 C G0 hlv hi4 hL hR hcs kk)
    · exact l_tab C (x := jand (lzv xs i) 63) (k := 30) (off := 1116) e (by decide) rfl rfl (lcase_30 C G0 hlv hi4 hL hR hcs kk)
    · exact l_tab C (x := jand (lzv xs i) 63) (k := 31) (off := 1159) e (by decide) rfl rfl (lcase_31 C G0 hlv hi4 hL hR hcs kk)
    · exact l_tab C (x := jand (lzv xs i) 63) (k := 32) (off := 1172) e (by decide) rfl rfl (lcase_32 C G0 hlv hi4 hL hR hcs kk)
    · exact l_tab C (x := jand (lzv xs i) 63) (k := 33) (off := 1185) e (by decide) rfl rfl (lcase_33 C G0 hlv hi4 hL hR hcs kk)
    · exact l_tab C (x := jand (lzv xs i) 63) (k := 34) (off := 1198) e (by decide) rfl rfl (lcase_34 C G0 hlv hi4 hL hR hcs kk)
  · exact lv_tableOut (tgt := 1253) C.1.1 C.1.2.1 lzd_32 (by rw [j32]; omega) (by decide) (kk H locs w G0 (zRel_F hR))
theorem l_loop (hL : L ≤ 2048) (C : lzC p s m meth c b L xs D cA ao) : ∀ (N i : Nat) (H : Heap) (locs : List Loc) (cells slots : Nat) (ls : Array Slot) (w : jS), L < i + N → i ≤ 2052 → lzG s D cA ao w H locs cells → lv_has ls 4 (lzl i mm x b) → zRel False x mm w → cells ≤ 600000 ∧ slots ≤ 7302250 → W p l ev room_1 s m #[Value.ref b] below meth c H locs cells slots (lw_Z below #[Value.ref b] s) (F0 m 18 ls [])
  | 0, i, H, locs, cells, slots, ls, w, hN, hi, G0, hlv, hR, hcs => l_head C G0 hlv (by omega) hL hcs (fun h => absurd h (by omega))
  | N + 1, i, H, locs, cells, slots, ls, w, hN, hi, G0, hlv, hR, hcs => by
    refine l_head C G0 hlv (by omega) hL hcs (fun hi4 => ?_)
    refine l_body C G0 hlv hi4 hL hR hcs (fun H1 locs1 w2 G1 hR1 => ?_)
    exact l_next C hlv (fun ls1 hlv1 => l_loop hL C N (i + 4) H1 locs1 cells slots ls1 w2 (by omega) (by omega) G1 hlv1 hR1 hcs)

end LOOP
/-- what the machine holds at the law's beginning -/
theorem l_world {s : State} {b : Nat} (hts : ∀ w ∈ lw_tbl, w.before #[Value.ref b] s = true) (hgv : (Jvm.Cond.and given_1 narrow_1).before #[Value.ref b] s = true) : ∃ (D : va_G) (cA : Nat → ClassId) (ao : Nat), jK D cA s.heap.size ao s := by
  have hA : ∀ a : Nat, a < s.heap.size → ¬ (fun q : Nat => s.heap.size ≤ q) a := fun a h z => absurd h (Nat.not_lt.mpr z)
  have hj : ∀ w ∈ jWS, w.before #[Value.ref b] s = true := fun w hw => hts w (List.mem_filter.mp hw).1
  have hfl := flat_of_before _ hgv
  -- the classes
  have hcl : ∀ k : Nat, ∃ q : ClassId × (Nat → Nat), k < 10 → u_Kn s (jFR k) (jFT k) (jFN k) q.1 q.2 := fun k => by
    by_cases hk : k < 10
    · obtain ⟨cC, iS, h⟩ := u_known (C := jFR k) (T := jFT k) (N := jFN k) (n := jFN k) hj (jlay_in hk) (hj _ (jins_in hk).1)
      exact ⟨(cC, iS), fun _ => h⟩
    · obtain ⟨cC, iS, h⟩ := u_known (C := jFR 0) (T := jFT 0) (N := jFN 0) (n := jFN 0) hj (jlay_in (by decide)) (hj _ (jins_in (show 0 < 10 by decide)).1)
      exact ⟨(cC, iS), fun z => absurd z hk⟩
  obtain ⟨D0, hD0⟩ := Classical.axiomOfChoice hcl
  -- the arrays
  obtain ⟨c0, k0, q0, a0, a1, a2⟩ := Cond.arrayClass_spec (hj _ jarr_in.1)
  obtain ⟨c1, k1, q1, b0, b1, b2⟩ := Cond.arrayClass_spec (hj _ jarr_in.2)
  have o2 : va_AO "ExchangeRows$Row" s := va_AO.of (hts (Cond.arrayOver (.object "ExchangeRows$Row")) (by decide +kernel))
  have o3 : va_AO "ExchangeRows$Seed" s := va_AO.of (hts (Cond.arrayOver (.object "ExchangeRows$Seed")) (by decide +kernel))
  have o4 : va_AO "ExchangeRows$Tale" s := va_AO.of (hts (Cond.arrayOver (.object "ExchangeRows$Tale")) (by decide +kernel))
  have o5 : (Cond.arrayOver (.array .long)).before #[] s = true := hts (Cond.arrayOver (.array .long)) (by decide +kernel)
  obtain ⟨p2, c2, k2, r0, -, r1, r2, r3⟩ := Cond.arrayOver_spec o2
  obtain ⟨p3, c3, k3, s0, -, s1, s2, s3⟩ := Cond.arrayOver_spec o3
  obtain ⟨p4, c4, k4, t0, -, t1, t2, t3⟩ := Cond.arrayOver_spec o4
  obtain ⟨p5, c5, k5, -, u1, u2, u3⟩ := Cond.arrayOver_specA o5
  -- the static row
  have hlen : (Term.length (.static RX2 "ORDERS" "[I")).eval #[Value.ref b] s none [] s = some (.int (Int32.ofNat 7)) := va_eqt (hfl _ (by decide +kernel))
  have hel : ∀ j : Nat, j < 7 → (Term.elem (.static RX2 "ORDERS" "[I") (.int (Int32.ofNat j))).eval #[Value.ref b] s none [] s = some ((fun j => Value.int (Int32.ofInt (jord j))) j) := fun j hj => by
    have e7 : j = 0 ∨ j = 1 ∨ j = 2 ∨ j = 3 ∨ j = 4 ∨ j = 5 ∨ j = 6 := by omega
    rcases e7 with rfl | rfl | rfl | rfl | rfl | rfl | rfl
    · exact va_eqt (hfl (Cond.eq (.elem (.static RX2 "ORDERS" "[I") (.int 0)) (.int 2)) (by decide +kernel))
    · exact va_eqt (hfl (Cond.eq (.elem (.static RX2 "ORDERS" "[I") (.int 1)) (.int 2)) (by decide +kernel))
    · exact va_eqt (hfl (Cond.eq (.elem (.static RX2 "ORDERS" "[I") (.int 2)) (.int 3)) (by decide +kernel))
    · exact va_eqt (hfl (Cond.eq (.elem (.static RX2 "ORDERS" "[I") (.int 3)) (.int 4)) (by decide +kernel))
    · exact va_eqt (hfl (Cond.eq (.elem (.static RX2 "ORDERS" "[I") (.int 4)) (.int 5)) (by decide +kernel))
    · exact va_eqt (hfl (Cond.eq (.elem (.static RX2 "ORDERS" "[I") (.int 5)) (.int 6)) (by decide +kernel))
    · exact va_eqt (hfl (Cond.eq (.elem (.static RX2 "ORDERS" "[I") (.int 6)) (.int 8)) (by decide +kernel))
  obtain ⟨ao, hao, hTT⟩ := va_Tof (A := fun q => s.heap.size ≤ q) (by decide) (hfl (Cond.arrayOf (.static RX2 "ORDERS" "[I") .int) (by decide +kernel)) hlen hel hA
  have hZ : va_Z RX2 "ORDERS" "[I" (.ref ao) (fun q => s.heap.size ≤ q) s s.heap := va_Zref (hts (Cond.laysStatic RX2 "ORDERS" "[I") (by decide +kernel)) (hts (Cond.initialized RX2) (by decide +kernel)) hao hA
  refine ⟨(fun k => (D0 k).1, fun k => (D0 k).2), fun k => if k = 0 then c0 else if k = 1 then c1 else if k = 2 then c2 else if k = 3 then c3 else if k = 4 then c4 else c5, ao, ⟨fun k q hq => ?_, fun k q hq => ?_⟩, hZ, hTT, fun w hw => ?_, ⟨o2, o3, o4⟩, o5⟩
  · have hk : k < 10 := (List.getElem?_eq_some_iff.mp hq).1
    have e := (jcl_at hk).symm.trans hq
    cases e
    exact hD0 k hk
  · match k, hq with
    | 0, hq => cases hq; exact ⟨fun n z => ⟨(fun k h => by cases h), k0, a1, q0, a2⟩, a0⟩
    | 1, hq => cases hq; exact ⟨fun n z => ⟨(fun k h => by cases h), k1, b1, q1, b2⟩, b0⟩
    | 2, hq => cases hq; exact ⟨fun n z => ⟨(fun k h => by cases h), k2, r1, p2, r2⟩, k2, p2, r1, r2, r0, r3⟩
    | 3, hq => cases hq; exact ⟨fun n z => ⟨(fun k h => by cases h), k3, s1, p3, s2⟩, k3, p3, s1, s2, s0, s3⟩
    | 4, hq => cases hq; exact ⟨fun n z => ⟨(fun k h => by cases h), k4, t1, p4, t2⟩, k4, p4, t1, t2, t0, t3⟩
    | 5, hq => cases hq; exact ⟨fun n z => ⟨(fun k h => by cases h), k5, u1, p5, u2⟩, u3⟩
    | k + 6, hq => simp [jtys] at hq
  · have hn := (List.mem_filter.mp hw).2
    have h9 := hts w (List.mem_filter.mp hw).1
    cases w <;> first | (cases hn; done) | exact va_Nw.of rfl h9
set_option maxHeartbeats 4000000 in
theorem whole_start {p : Program} {e : Env} {s : State} {m : MethodId} {below : List Frame} {meth : Method} {c : Code} (l : Launch) (hflags : l.flags = flags0) {b L : Nat} {xs : Nat → Int32} (hL : L ≤ 2048) (C0 : lw_At p s m meth c b L xs) : W p l e room_1 s m #[Value.ref b] below meth c s.heap [] 0 0 (lw_Z below #[Value.ref b] s) (entryFrame m ([Value.ref b] : List Value).toArray 4) := by
  have hlw := C0
  obtain ⟨hx, hb, hr, hml, hown, hts, hX, hbl, hlocks, hgv⟩ := id C0
  obtain ⟨D, cA, ao, hK⟩ := l_world hts hgv
  have C : lzC p s m meth c b L xs D cA ao := ⟨C0, hK⟩
  have hao : ao < s.heap.size := Nat.not_le.mp hK.2.2.1.out
  obtain ⟨w0, hw0⟩ : ∃ w0 : jS, w0 = (fun a j => if a = ao then jord j else 0, fun a => if a = ao then (99, 7) else (0, 0), fun _ _ => none, s.heap.size, ao) := ⟨_, rfl⟩
  have n0 : w0.2.2.2.1 = s.heap.size := by rw [hw0]
  have a0 : w0.2.2.2.2 = ao := by rw [hw0]
  have kz : w0.2.1 ao = (99, 7) := by rw [hw0]; exact if_pos rfl
  have mz : ∀ j, w0.1 ao j = jord j := fun j => by rw [hw0]; exact if_pos rfl
  have G0 : lzG s D cA ao w0 s.heap [] 0 := by
    refine ⟨⟨n0.symm, by rw [n0]; exact Nat.le_refl _, fun k q hq => ?_, fun a ha => ?_, kz, mz, a0, hao⟩, va_S.rf, rfl⟩
    · have := (jws_get hq).2
      omega
    · by_cases e : a = ao
      · exact Or.inl e
      · rw [hw0] at ha
        exact absurd (congrArg Prod.fst (if_neg e : (if a = ao then ((99 : Nat), (7 : Nat)) else (0, 0)) = (0, 0))) ha
  have hl := lv_entry ([.ref b]) (n := 4) (Nat.le_of_ble_eq_true rfl)
  rw [lg_entry_eq]
  generalize (lg_sl ([.ref b]) ++ List.replicate (4 - (lg_sl ([.ref b])).length) Slot.unset).toArray = ls at hl ⊢
  have hl : lv_has ls 4 [(0, .ref b)] := hl
  have hfr := I_fresh (w0 := w0) ⟨by rw [a0]; exact kz, by rw [a0]; exact mz⟩ (by rw [a0, n0]; exact hao)
  refine l_new (st := []) C G0 (ci := 8) (by decide) lzK_7 lzd_0 (by decide) (by decide) (fun H1 G1 => ?_)
  refine lv_dup hx hb lzd_3 rfl ?_
  refine l_init (k' := 91) (a := w0.2.2.2.1) (rest := [jO w0.2.2.2.1]) C G1 hl.1 (by decide) rfl rfl (lzL_in rfl) ⟨by decide, by decide⟩ (by decide) (Nat.le_of_ble_eq_true rfl) lzd_4 hfr (by decide) (by decide) (fun v w1 H2 locs2 hq G2 => ?_)
  obtain ⟨rfl, hnx, hfr2⟩ := hq
  refine lv_astore_n (lv' := [(1, .ref w0.2.2.2.1), (0, .ref b)]) hx hb lzd_7 rfl hl (by decide) rfl (fun ls hl => ?_)
  refine l_new (st := []) C G2 (ci := 9) (by decide) lzK_10 lzd_8 (by decide) (by decide) (fun H3 G3 => ?_)
  rw [hnx]
  refine lv_dup hx hb lzd_11 rfl ?_
  refine l_init (k' := 134) (a := w0.2.2.2.1 + 393) (rest := [jO (w0.2.2.2.1 + 393)]) C G3 hl.1 (by decide) rfl rfl (lzL_in rfl) ⟨by decide, by decide⟩ (by decide) (Nat.le_of_ble_eq_true rfl) lzd_12 hfr2 (by decide) (by decide) (fun v w2 H4 locs4 hq G4 => ?_)
  obtain ⟨rfl, hR, hq0⟩ := hq
  refine lv_astore_n (lv' := [(2, .ref (w0.2.2.2.1 + 393)), (1, .ref w0.2.2.2.1), (0, .ref b)]) hx hb lzd_15 rfl hl (by decide) rfl (fun ls hl => ?_)
  refine lv_iconst (v := 0) hx hb lzd_16 (by decide) ?_
  refine lv_istore_n (lv' := lzl 0 (w0.2.2.2.1 + 393) w0.2.2.2.1 b) hx hb lzd_17 rfl hl (by decide) rfl (fun ls hl => ?_)
  exact l_loop (by omega) C (L + 1) 0 H4 locs4 _ _ ls w2 (by omega) (by decide) G4 hl (zRel_F hR) ⟨by decide, by decide⟩

-- ===== YOUR PART ENDS =====
set_option maxHeartbeats 4000000 in
theorem lw_walk (l : Launch) (hflags : l.flags = flags0) (b : Addr) (xs : List Int32) : MetFree l x (headSpec (Jvm.Cond.code x code maxLocals ret :: tables_1) room_1) (lw_P b xs) (fun _ _ _ _ _ => True) lw_Q := by
  refine MetFree.of_bodyS (code := code) (maxLocals := maxLocals) (ret := ret) (by decide) ?_ ?_
  · intro args s m h hn
    obtain ⟨meth, c, h1, h2, h3, h4, h5, h6, -, -⟩ := Cond.code_spec hn (atoms_spec (ws := Jvm.Cond.code x code maxLocals ret :: tables_1) h _ List.mem_cons_self)
    exact ⟨meth, c, h1, h2, h3, h4, h5, h6⟩
  · intro p e s m args below meth c s₁ B hml0 hP _
    obtain ⟨rfl, hx, hbd, hgv⟩ := hP
    obtain ⟨scr, harrAt, hlist, hof, hsmall⟩ := hx
    obtain ⟨hcb, hkn, -, -⟩ := State.arrayAt?_spec harrAt
    have hown : s.vm.findClass R_law = some m.cls := findClass_of_methodNamed B.named
    have hts0 : ∀ c ∈ (Jvm.Cond.code x code maxLocals ret :: tables_1), c.before #[Value.ref b] s = true := atoms_spec (ws := Jvm.Cond.code x code maxLocals ret :: tables_1) B.pre
    have hts : ∀ w ∈ lw_tbl, w.before #[Value.ref b] s = true := k2_hts_sels lw_privs (fun w hw => hts0 w (List.mem_cons_of_mem _ hw)) lw_privs_ok
    have hml : c.maxLocals = 4 := B.maxLocals_eq (hts0 _ List.mem_cons_self)
    have X₀ : Stand p l e room_1 s m #[Value.ref b] below meth c s₁ [] 0 0 := Stand.of_body B
    have hh0 : s₁.heap = s.heap := by rw [B.state]; rfl
    have hsz : scr.slots.size = xs.length := by rw [← Array.length_toList, hlist, List.length_map]
    have hval : ∀ j : Nat, j < xs.length → scr.slots[j]? = some (.int (xs.getD j 0)) := fun j hj => by
      rw [← Array.getElem?_toList, hlist]
      simp [hj]
    have hbl : b < s.heap.size := (Array.getElem?_eq_some_iff.mp hcb).1
    have hX : va_X b xs.length (fun j => xs.getD j 0) s s.heap := ⟨scr, hcb, hof, hkn, hsz, hval⟩
    have K : W p l e room_1 s m #[Value.ref b] below meth c s₁.heap [] 0 0 (lw_Z below #[Value.ref b] s) (entryFrame m ([Value.ref b] : List Value).toArray 4) := by
      rw [hh0]
      exact whole_start l hflags hbd ⟨B.exec, B.bytes, B.returns, hml, hown, hts, hX, hbl, B.notSynchronized, hgv⟩
    obtain ⟨t, a1, o, b1, b2, b3⟩ := K s₁ rfl X₀
    exact ⟨t, o, a1, b1, b2, b3⟩
theorem lw_pre_spec {args : Array Value} {s : State} (h : (Jvm.Cond.and given_1 narrow_1).before args s = true) (hr : rest_1_c.before args s = true) : ∃ (b : Addr) (xs : List Int32), lw_P b xs args s := by
  have hs := flat_of_before _ h
  have hq := flat_of_before _ hr
  have hc : (Cond.count 1).before args s = true := hs _ (by decide +kernel)
  have harr : (Cond.arrayOf (.arg 0) .int).before args s = true := hs _ (by decide +kernel)
  have hle : (Cond.le (.length (.arg 0)) (.int 2048)).before args s = true := hs _ (by decide +kernel)
  have hlen : (Cond.isInt (.length (.arg 0))).before args s = true := hq _ (by decide +kernel)
  have hall : (Cond.all (.arg 0) (.isInt (.elem (.arg 0) (.index 0)))).before args s = true := hq _ (by decide +kernel)
  obtain ⟨b, xs, hb, hx⟩ := State.ints_of_pre rfl harr hlen hall
  have hsm : xs.length < 2 ^ 31 := hx.choose_spec.2.2.2
  have hev : (Term.length (.arg 0)).eval args s none [] s = some (.int xs.length.toInt32) := hx.length_eval hb
  have hv := Cond.le_ints hev (show (Term.int 2048).eval args s none [] s = some (.int 2048) from rfl)
  have hd : xs.length.toInt32 ≤ 2048 := by
    simpa [Cond.before, Cond.holds, hv] using hle
  have hN : xs.length ≤ 2048 := (Int32.ofNat_le_ofNat hsm (by decide)).mp (show Int32.ofNat xs.length ≤ Int32.ofNat 2048 from hd)
  exact ⟨b, xs, Cond.one_arg hc (show args[0]? = some (.ref b) from hb), hx, hN, h⟩
theorem lw_comes (l : Launch) (hflags : l.flags = flags0) : Comes l x (Jvm.Cond.code x code maxLocals ret :: tables_1) room_1 (fun tb e args s => Calls_1 tb e args s ∧ rest_1 tb e args s ∧ Pre_1 tb e args s)
    (fun _ _ args s o t => lw_Q args s o t) := by
  intro p e ha hc hk s m args below hf hfit hheap happ hpre
  obtain ⟨b, xs, hP⟩ := lw_pre_spec hpre.2.2 hpre.2.1
  obtain ⟨k, o, h1, h2, h3, hQ⟩ := lw_walk l hflags b xs p e ha hc hk s m args below hf ((Spec.applies_iff_loose hf).mp happ).1 hP trivial
  exact ⟨k, o, h1, h2, h3, hQ⟩
theorem lw_frame {s t : State} {o : Outcome} {args : Array Value} (h : Framed s o t [] 600000 7302250) :
    Framed s o t (fieldLocs frame_1_writes args s ++ arrayLocs frame_1_arrays args s ++ staticLocs frame_1_statics s) 600000 7302250 := h
theorem lw_limb (L : Cond) (hL : ∀ (args : Array Value) (s t : State), L.after args s (.returned (some (.int 1))) t = true) :
    ArmFor flags0 classFile x code maxLocals ret World_1 tables_1 room_1 Calls_1 rest_1 Pre_1
      (fun tb e a s o t => postC L tb e a s o t ∧ Framed s o t (fieldLocs frame_1_writes a s ++ arrayLocs frame_1_arrays a s ++ staticLocs frame_1_statics s) 600000 7302250) := by
  intro l hflags _ _ p e ha hc hk s m args below hf hfit hheap happ hpre
  obtain ⟨k, o, h1, h2, h3, rfl, hF⟩ := lw_comes l hflags p e ha hc hk s m args below hf hfit hheap happ hpre
  exact ⟨k, _, h1, h2, h3, hL args s _, lw_frame hF⟩
theorem i_vc : Claimed_1_1 ∧ Claimed_1_2 := ⟨lw_limb limb_1_1 (fun args s t => by simp [limb_1_1, Cond.after, Cond.holds, Cond.value]), lw_limb limb_1_2 (fun args s t => Cond.after_iff.mpr (by
  first | (rw [show limb_1_2 = Cond.eq .result (.int 1) from rfl, Cond.eq_ints (x := 1) (y := 1) rfl rfl]; simp; done) | (simp [limb_1_2, Cond.value, Term.eval]; done)))⟩
end
