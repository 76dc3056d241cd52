abbrev jWS : List Jvm.Cond := lw_tbl.filter goodWord
def jwd (i : Nat) (w : Jvm.Cond) : Bool := decide (lw_tbl[i]? = some w) && goodWord w
theorem jwd_in {i : Nat} {w : Jvm.Cond} (h : jwd i w = true) : w ∈ jWS := by
  simp only [jwd, Bool.and_eq_true, decide_eq_true_eq] at h
  exact List.mem_filter.mpr ⟨List.mem_of_getElem? h.1, h.2⟩
set_option maxRecDepth 100000 in
theorem jML_ok : jML.all (fun q => jwd q.2.2.2 (.methodLink (jCn q.1) q.2.1 (jY q.2.2.1))) = true := by decide +kernel
set_option maxRecDepth 100000 in
theorem jMN_ok : jMN.all (fun q => decide (lw_tbl[q.2.2.2]? = some (.methodLinkNest (jCn q.1) q.2.1 (jY q.2.2.1) RX9))) = true := by decide +kernel
set_option maxRecDepth 100000 in
theorem jFL_ok : jFL.all (fun q => jwd q.2.2.2.2 (.fieldLink (jCn q.1) q.2.1 (jFT q.2.2.1 q.2.2.2.1).1 (jFT q.2.2.1 q.2.2.2.1).2.1 (jFT q.2.2.1 q.2.2.2.1).2.2.1) && decide (q.2.2.2.1 < jFN q.2.2.1)) = true := by decide +kernel
set_option maxRecDepth 100000 in
theorem jFX_ok : jFX.all (fun q => decide (lw_tbl[q.2.2.2.2]? = some (.fieldLinkNest (jCn q.1) q.2.1 (jFT q.2.2.1 q.2.2.2.1).1 (jFT q.2.2.1 q.2.2.2.1).2.1 (jFT q.2.2.1 q.2.2.2.1).2.2.1 RX9)) && decide (q.2.2.2.1 < jFN q.2.2.1)) = true := by decide +kernel
set_option maxRecDepth 100000 in
theorem jBL_ok : jBL.all (fun q => jwd q.2.2.2 (.methodLink (jCn q.1) q.2.1 (jBY q.2.2.1))) = true := by decide +kernel
set_option maxRecDepth 100000 in
theorem jKI_ok : jKI.all (fun q => jwd q.2.2.2 (.constant (jCn q.1) q.2.1 (Int32.ofInt q.2.2.1))) = true := by decide +kernel
set_option maxRecDepth 100000 in
theorem jKJ_ok : jKJ.all (fun q => jwd q.2.2.2 (.constantLong (jCn q.1) q.2.1 (Int64.ofInt q.2.2.1))) = true := by decide +kernel
set_option maxRecDepth 100000 in
theorem jCK_ok : jCK.all (fun q => jwd q.2.2.2 (.classLink (jCn q.1) q.2.1 (jFR q.2.2.1))) = true := by decide +kernel
def jPW (q : Nat × Nat × Nat × Nat) : Prop := lw_tbl[q.2.1]? = some (.code (jY q.1) (jcode q.1) (jmaxL q.1) (jret q.1)) ∧ lw_tbl[q.2.2.1]? = some (bif Nat.beq (jkd q.1) 1 then .static (jY q.1) else .instanceMethod (jY q.1)) ∧ (jkd q.1 = 0 → lw_tbl[q.2.2.2]? = some (.selects (jCn (jown q.1)) (jY q.1) (jY q.1)))
