/-! ===== the tables' words that the rows of the tables speak of ===== -/
def isNestF (e : Nat × Nat × Nat × Nat × Nat × Nat) : Cond := .fieldLinkNest (oN e.1) e.2.1 (vwCl.getD e.2.2.1 (RX0, TX0, 0)).1 ((vwCl.getD e.2.2.1 (RX0, TX0, 0)).2.1 e.2.2.2.1).2.1 ((vwCl.getD e.2.2.1 (RX0, TX0, 0)).2.1 e.2.2.2.1).2.2.1 RX7
def isPlainF (e : Nat × Nat × Nat × Nat × Nat × Nat) : Cond := .fieldLink (oN e.1) e.2.1 (vwCl.getD e.2.2.1 (RX0, TX0, 0)).1 ((vwCl.getD e.2.2.1 (RX0, TX0, 0)).2.1 e.2.2.2.1).2.1 ((vwCl.getD e.2.2.1 (RX0, TX0, 0)).2.1 e.2.2.2.1).2.2.1
def isNestM (e : Nat × Nat × Nat × Nat × Nat) : Cond := .methodLinkNest (oN e.1) e.2.1 (mY e.2.2.1) RX7
def isPlainM (e : Nat × Nat × Nat × Nat × Nat) : Cond := .methodLink (oN e.1) e.2.1 (mY e.2.2.1)
def fty (c k : Nat) : Nat := (ftL.getD c []).getD k 9
def WB : List Cond := lw_tbl.filter goodWord
theorem WB_in {w : Cond} {i : Nat} (h : lw_tbl[i]? = some w) (hg : goodWord w = true) : w ∈ WB := List.mem_filter.mpr ⟨List.mem_of_getElem? h, hg⟩
set_option maxRecDepth 1000000 in
theorem wc_all : wTab.map (fun q => lw_tbl[q.1]?) = (mTab.take nMeth).map (fun r => some (Cond.code r.1 r.2.1 r.2.2.1 r.2.2.2.1)) := rfl
def mwOk (i : Nat) : Bool := match wTab[i]? with
  | some q => decide (lw_tbl[q.2.1]? = some (if mK i = 1 then .static (mY i) else .instanceMethod (mY i))) && (decide (mK i = 0 → lw_tbl[q.2.2.1]? = some (.selects (mY i).cls (mY i) (mY i))) && decide (lw_tbl[q.2.2.2]? = some (.initialized (mY i).cls)))
  | none => false
theorem mw_all : (List.range nMeth).all mwOk = true := by decide +kernel
def mdOk (i : Nat) : Bool := decide ((parseMethodDescriptor (mY i).desc).map (fun d => d.parameters.length) = some (if mK i = 1 then mN i else mN i - 1)) && (decide (1 ≤ mN i ∨ mK i = 1) && (decide ((mY i).cls ≠ "java/lang/invoke/MethodHandle" ∧ (mY i).cls ≠ "java/lang/invoke/VarHandle") && (plainName (mY i).cls && (decide ((mY i).cls = oN (mO i)) && (decide (mK i = 2 ↔ (mY i).name = "<init>") && decide (mK i = 2 → mR i = none))))))
theorem md_all : (List.range nMeth).all mdOk = true := by decide +kernel
theorem fld_all : fldL.all (fun e => decide (lw_tbl[e.2.2.2.2.2]? = some (if e.2.2.2.2.1 = 1 then isNestF e else isPlainF e)) && decide (e.2.2.1 < 9 ∧ e.2.2.2.1 < (vwCl.getD e.2.2.1 (RX0, TX0, 0)).2.2 ∧ (fty e.2.2.1 e.2.2.2.1 = 0 ∨ fty e.2.2.1 e.2.2.2.1 = 1 ∨ fty e.2.2.1 e.2.2.2.1 = 2))) = true := by decide +kernel
theorem mth_all : mthL.all (fun e => decide (lw_tbl[e.2.2.2.2]? = some (if e.2.2.2.1 = 1 then isNestM e else isPlainM e)) && decide (e.2.2.1 < nMeth)) = true := by decide +kernel
theorem cst_all : cstL.all (fun e => decide (lw_tbl[e.2.2.2]? = some (.constant (oN e.1) e.2.1 (Int32.ofInt e.2.2.1)))) = true := by decide +kernel
theorem clg_all : clgL.all (fun e => decide (lw_tbl[e.2.2.2]? = some (.constantLong (oN e.1) e.2.1 (Int64.ofInt e.2.2.1)))) = true := by decide +kernel
