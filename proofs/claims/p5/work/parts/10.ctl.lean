/-- what the machine's frame needs of the state, carried over -/
theorem jAOA {s U : State} (al : s.vm.Alike U.vm) (h : (Cond.arrayOver (.array .long)).before #[] s = true) : (Cond.arrayOver (.array .long)).before #[] U = true := by
  have h1 : (Cond.arrayOver (.array .long)).before #[] (s.setVm U.vm) = true := by rw [Cond.arrayOver_setVmC al]; exact h
  simp only [Cond.before, Cond.holds, Cond.value, State.vm_setVm] at h1 ⊢
  exact h1
theorem jK.moved {D : va_G} {cA : Nat → ClassId} {z0 ao : Nat} {s U : State} {H : Heap} (hW : s.WarmedH U.vm) (hU : U.heap = H) (hS : ∀ q : Nat, q < s.heap.size → ¬ z0 ≤ q → H[q]? = s.heap[q]?) (h : jK D cA z0 ao s) : jK D cA z0 ao U := by
  obtain ⟨h1, h2, h3, h4, ⟨h5, h6, h7⟩, h8⟩ := h
  have al := hW.alike
  subst hU
  refine ⟨va_K.moved al h1, (va_Z.moved al h2).kept hS, (va_T.moved al h3).kept hS, fun w hw => ?_, ⟨va_AO.moved al h5, va_AO.moved al h6, va_AO.moved al h7⟩, ?_⟩
  · have h9 := h4 w hw
    have hn := (List.mem_filter.mp hw).2
    cases w <;> first | (cases hn; done) | exact va_Nw.warmF hW h9 | exact va_Nw.warmM hW h9
  · exact jAOA al h8
theorem jK.same {D : va_G} {cA : Nat → ClassId} {z0 ao : Nat} {s U : State} (hv : s.vm = U.vm) (hh : U.heap = s.heap) (h : jK D cA z0 ao s) : jK D cA z0 ao U := by
  obtain ⟨h1, h2, h3, h4, ⟨h5, h6, h7⟩, h8⟩ := h
  have al : s.vm.Alike U.vm := by rw [hv]; exact Vm.Alike.refl _
  refine ⟨va_K.moved al h1, by rw [hh]; exact va_Z.moved al h2, by rw [hh]; exact va_T.moved al h3, fun w hw => ?_, ⟨va_AO.moved al h5, va_AO.moved al h6, va_AO.moved al h7⟩, jAOA al h8⟩
  have h9 := h4 w hw
  have hn := (List.mem_filter.mp hw).2
  cases w <;> first | (cases hn; done) | exact va_Nw.same rfl hv h9
def jQ (D : va_G) (cA : Nat → ClassId) (z0 ao : Nat) (v : Option jV) (w : jS) (mc : Nat) : Array Value → State → Outcome → State → Prop := fun _ st o t =>
  o = .returned (v.map jg) ∧ jGood D cA z0 ao w t.heap ∧ jK D cA z0 ao t ∧ va_F (fun q => z0 ≤ q) st t ∧ t.heap.size = st.heap.size + mc
def jB (D : va_G) (cA : Nat → ClassId) (z0 ao : Nat) (w : jS) (U : State) : Prop := jGood D cA z0 ao w U.heap ∧ jK D cA z0 ao U ∧ z0 ≤ U.heap.size
section JCT
variable {p : Program} {l : Launch} {ev : Env} {R : Room} {s : State} {m : MethodId} {args : Array Value} {below : List Frame} {meth : Method} {c : Code} {H : Heap} {locs : List Loc} {cells slots : Nat} {Q : State → Prop}
variable {k : Nat} {D : va_G} {cA : Nat → ClassId} {z0 ao : Nat} {ls : Array Slot} {lc : jF} {st : List jV} {w : jS} {pc len r1 r2 r3 : Nat} {z : Int} {x y i : Int} {q v : Option Nat}
theorem jcb_f {cd : Jvm.ClassFile.Cond} {a b : Int} : jcb cd a b = false ↔ ¬ jcb cd a b = true := by simp
theorem j_if {cd : Jvm.ClassFile.Cond} {off : Int} {cc : ByteArray} (hx : p.tables.exec = Jvm.exec) (hb : c.code = cc) (hd : decode cc pc = .ok (.ifCond cd off, 3)) (ht : (pc : Int) + off = (r1 : Int))
    (kk : W p l ev R s m args below meth c H locs cells slots Q (F0 m (bif jcb cd (b32 x) 0 then r1 else pc + 3) ls (st.map jg))) : W p l ev R s m args below meth c H locs cells slots Q (F0 m pc ls (.int (Int32.ofInt x) :: st.map jg)) := by
  have go : ∀ b : Bool, jcb cd (b32 x) 0 = b → W p l ev R s m args below meth c H locs cells slots Q (F0 m (bif b then r1 else pc + 3) ls (st.map jg)) := fun b e => by rw [← e]; exact kk
  have lt0 : Int32.ofInt x < 0 ↔ b32 x < 0 := by rw [j32_0, j32_lt, b32_0]
  have le0 : Int32.ofInt x ≤ 0 ↔ b32 x ≤ 0 := by rw [j32_0, j32_le, b32_0]
  have gt0 : 0 < Int32.ofInt x ↔ 0 < b32 x := by rw [j32_0, j32_lt, b32_0]
  have ge0 : 0 ≤ Int32.ofInt x ↔ 0 ≤ b32 x := by rw [j32_0, j32_le, b32_0]
  have eq0 := j32_nz x
  cases cd with
  | eq => exact lv_if_eq hx hb hd ht (fun h => go true (decide_eq_true (eq0.mp h))) (fun h => go false (decide_eq_false (fun q => h (eq0.mpr q))))
  | ne => exact lv_if_ne hx hb hd ht (fun h => go true (decide_eq_true (fun q => h (eq0.mpr q)))) (fun h => go false (decide_eq_false (fun q => q (eq0.mp h))))
  | lt => exact lv_if_lt hx hb hd ht (fun h => go true (decide_eq_true (lt0.mp h))) (fun h => go false (decide_eq_false (fun q => h (lt0.mpr q))))
  | ge => exact lv_if_ge hx hb hd ht (fun h => go true (decide_eq_true (ge0.mp h))) (fun h => go false (decide_eq_false (fun q => h (ge0.mpr q))))
  | gt => exact lv_if_gt hx hb hd ht (fun h => go true (decide_eq_true (gt0.mp h))) (fun h => go false (decide_eq_false (fun q => h (gt0.mpr q))))
  | le => exact lv_if_le hx hb hd ht (fun h => go true (decide_eq_true (le0.mp h))) (fun h => go false (decide_eq_false (fun q => h (le0.mpr q))))
theorem j_icmp {cd : Jvm.ClassFile.Cond} {off : Int} {cc : ByteArray} (hx : p.tables.exec = Jvm.exec) (hb : c.code = cc) (hd : decode cc pc = .ok (.if_icmp cd off, 3)) (ht : (pc : Int) + off = (r1 : Int))
    (kk : W p l ev R s m args below meth c H locs cells slots Q (F0 m (bif jcb cd (b32 x) (b32 y) then r1 else pc + 3) ls (st.map jg))) : W p l ev R s m args below meth c H locs cells slots Q (F0 m pc ls (.int (Int32.ofInt y) :: .int (Int32.ofInt x) :: st.map jg)) := by
  have go : ∀ b : Bool, jcb cd (b32 x) (b32 y) = b → W p l ev R s m args below meth c H locs cells slots Q (F0 m (bif b then r1 else pc + 3) ls (st.map jg)) := fun b e => by rw [← e]; exact kk
  have lt0 := j32_lt x y
  have le0 := j32_le x y
  have gt0 := j32_lt y x
  have ge0 := j32_le y x
  have eq0 := j32_eq x y
  cases cd with
  | eq => exact lv_icmp_eq hx hb hd ht (fun h => go true (decide_eq_true (eq0.mp h))) (fun h => go false (decide_eq_false (fun q => h (eq0.mpr q))))
  | ne => exact lv_icmp_ne hx hb hd ht (fun h => go true (decide_eq_true (fun q => h (eq0.mpr q)))) (fun h => go false (decide_eq_false (fun q => q (eq0.mp h))))
  | lt => exact lv_icmp_lt hx hb hd ht (fun h => go true (decide_eq_true (lt0.mp h))) (fun h => go false (decide_eq_false (fun q => h (lt0.mpr q))))
  | ge => exact lv_icmp_ge hx hb hd ht (fun h => go true (decide_eq_true (ge0.mp h))) (fun h => go false (decide_eq_false (fun q => h (ge0.mpr q))))
  | gt => exact lv_icmp_gt hx hb hd ht (fun h => go true (decide_eq_true (gt0.mp h))) (fun h => go false (decide_eq_false (fun q => h (gt0.mpr q))))
  | le => exact lv_icmp_le hx hb hd ht (fun h => go true (decide_eq_true (le0.mp h))) (fun h => go false (decide_eq_false (fun q => h (le0.mpr q))))
theorem jsw_table (lo : Int) (pc : Nat) (d : Nat) : ∀ (offs : List Int) (n : Nat) (ps : List (Int × Nat)) (x : Int), ps.map (fun q => (q.1, (q.2 : Int))) = (offs.zipIdx n).map (fun o => (lo + o.2, (pc : Int) + o.1)) →
    (x < lo + n ∨ lo + n + offs.length ≤ x → jsw ps d x = d) ∧ (∀ off, lo + n ≤ x → offs[(x - lo - n).toNat]? = some off → (pc : Int) + off = (jsw ps d x : Int))
  | [], n, ps, x, h => by
    have : ps = [] := by simpa using h
    subst this
    exact ⟨fun _ => rfl, fun off _ h => by simp at h⟩
  | o :: offs, n, [], x, h => by simp at h
  | o :: offs, n, q :: ps, x, h => by
    simp only [List.zipIdx_cons, List.map_cons, List.cons.injEq, Prod.mk.injEq] at h
    obtain ⟨⟨h1, h2⟩, h3⟩ := h
    obtain ⟨i1, i2⟩ := jsw_table lo pc d offs (n + 1) ps x h3
    constructor
    · intro hx
      have hl : (o :: offs).length = offs.length + 1 := rfl
      rw [hl] at hx
      unfold jsw
      rw [if_neg (by omega)]
      exact i1 (by omega)
    · intro off hx ho
      unfold jsw
      by_cases e : q.1 = x
      · rw [if_pos e]
        rw [show (x - lo - n).toNat = 0 by omega] at ho
        simp at ho
        omega
      · rw [if_neg e]
        refine i2 off (by omega) ?_
        rw [show (x - lo - (n : Int)).toNat = (x - lo - ((n + 1 : Nat) : Int)).toNat + 1 by omega] at ho
        simpa using ho
theorem jsw_look (pc d : Nat) (dd : Int) (hd : (pc : Int) + dd = (d : Int)) : ∀ (os : List (Int × Int)) (ps : List (Int × Nat)) (x : Int), ps.map (fun q => (q.1, (q.2 : Int))) = os.map (fun o => (o.1, (pc : Int) + o.2)) → (pc : Int) + Op.lookupswitch.offset os dd x = (jsw ps d x : Int)
  | [], ps, x, h => by
    have : ps = [] := by simpa using h
    subst this
    exact hd
  | o :: os, [], x, h => by simp at h
  | o :: os, q :: ps, x, h => by
    simp only [List.map_cons, List.cons.injEq, Prod.mk.injEq] at h
    obtain ⟨⟨h1, h2⟩, h3⟩ := h
    have ih := jsw_look pc d dd hd os ps x h3
    obtain ⟨a, o⟩ := o
    rw [Op.lookupswitch.offset_cons]
    unfold jsw
    by_cases e : q.1 = x
    · rw [if_pos e, if_pos (by omega)]
      exact h2.symm
    · rw [if_neg e, if_neg (by omega)]
      exact ih
theorem j_tsw {d lo hi : Int} {offs : Array Int} (hC : jCtx k p R s m args meth c D cA z0 ao) (hwf : jwf k (pc, .tableswitch d lo hi offs, len, r1, r2, r3, z) = true)
    (kk : W p l ev R s m args below meth c H locs cells slots Q (F0 m (jsw (jswt r1).1 (jswt r1).2 (b32 x)) ls (st.map jg))) : W p l ev R s m args below meth c H locs cells slots Q (F0 m pc ls (.int (Int32.ofInt x) :: st.map jg)) := by
  obtain ⟨hx, hb, -⟩ := hC
  simp only [jwf, Bool.and_eq_true, decide_eq_true_eq] at hwf
  obtain ⟨⟨hd, -⟩, ⟨h1, h2⟩, h3⟩ := hwf
  obtain ⟨i1, i2⟩ := jsw_table lo pc (jswt r1).2 offs.toList 0 (jswt r1).1 (b32 x) h3
  have hsz : (offs.toList.length : Int) = offs.size := by simp
  by_cases hin : (Int32.ofInt x).toInt < lo ∨ hi < (Int32.ofInt x).toInt
  · have hin2 := hin
    rw [j32] at hin2
    have h9 : b32 x < lo + ((0 : Nat) : Int) ∨ lo + ((0 : Nat) : Int) + (offs.toList.length : Int) ≤ b32 x := by rw [hsz]; omega
    rw [i1 h9] at kk
    exact lv_tableOut hx hb hd hin h1 kk
  · have hin2 := hin
    rw [j32] at hin2
    have hlt : (b32 x - lo).toNat < offs.size := by omega
    have ho : offs[(b32 x - lo).toNat]? = some offs[(b32 x - lo).toNat] := Array.getElem?_eq_getElem hlt
    refine lv_tableIn hx hb hd (by rw [j32]; omega) (by rw [j32]; omega) (by rw [j32]; exact ho) (i2 _ (by omega) ?_) kk
    rw [show (b32 x - lo - ((0 : Nat) : Int)).toNat = (b32 x - lo).toNat by omega, Array.getElem?_toList]
    exact ho
theorem j_lsw {d : Int} {ps : Array (Int × Int)} (hC : jCtx k p R s m args meth c D cA z0 ao) (hwf : jwf k (pc, .lookupswitch d ps, len, r1, r2, r3, z) = true)
    (kk : W p l ev R s m args below meth c H locs cells slots Q (F0 m (jsw (jswt r1).1 (jswt r1).2 (b32 x)) ls (st.map jg))) : W p l ev R s m args below meth c H locs cells slots Q (F0 m pc ls (.int (Int32.ofInt x) :: st.map jg)) := by
  obtain ⟨hx, hb, -⟩ := hC
  simp only [jwf, Bool.and_eq_true, decide_eq_true_eq] at hwf
  obtain ⟨⟨hd, -⟩, ⟨h1, h2⟩, h3⟩ := hwf
  refine lv_lookup hx hb hd h3 rfl ?_ kk
  rw [j32]
  exact jsw_look pc (jswt r1).2 d h1 ps.toList (jswt r1).1 (b32 x) h2
/-- behind a call -/
theorem j_call {cells slots mc ms : Nat} {rest : List jV} {st0 : List Value} {a : Array Value} {v1 : Option jV} {w1 : jS} (hr : va_Run p l ev R s m args below meth c H locs cells slots mc ms (F0 m pc ls st0) (rest.map jg) (jQ D cA z0 ao v1 w1 mc a) (fun q => z0 ≤ q)) (hS : va_S (fun q => z0 ≤ q) s.heap H locs) (hz : H.size = s.heap.size + cells)
    (kk : ∀ (H1 : Heap) (locs1 : List Loc), jGood D cA z0 ao w1 H1 → va_S (fun q => z0 ≤ q) s.heap H1 locs1 → H1.size = s.heap.size + (cells + mc) → W p l ev R s m args below meth c H1 locs1 (cells + mc) (slots + ms) Q (F0 m (pc + 3) ls ((v1.toList ++ rest).map jg))) : W p l ev R s m args below meth c H locs cells slots Q (F0 m pc ls st0) := by
  intro T hT X
  obtain ⟨v, st₀, t, T', L, h0, X', hL, e1, e2, ⟨hv, hg, -, ⟨hz1, hk⟩, hsz⟩, st⟩ := hr T hT X
  have hv : v = v1.map jg := by
    have := hv
    injection this
  subst hv
  rw [h0] at hz1 hk hsz
  obtain ⟨t2, a1, b1⟩ := kk T'.heap (locs ++ L) (by rw [e1]; exact hg) ⟨Nat.le_trans hS.1 (by rw [e1]; exact hz1), fun q h1 h2 => by rw [e1, hk q (Nat.lt_of_lt_of_le h1 hS.1) h2]; exact hS.2.1 q h1 h2, fun q hq => by
      rcases List.mem_append.mp hq with h | h
      · exact hS.2.2 q h
      · exact hL q h⟩ (by rw [e1, hsz]; omega) T' rfl X'
  refine ⟨t2, st t2 ?_, b1⟩
  have e : (v1.map jg).toList ++ rest.map jg = (v1.toList ++ rest).map jg := by cases v1 <;> simp
  show Steps _ _ _ (T'.setTop { F0 m pc ls st0 with pc := pc + 3, stack := (v1.map jg).toList ++ rest.map jg }) t2
  rw [e]
  exact a1
end JCT
