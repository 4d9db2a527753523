/-! ===== a frame of method mi at a place of the plain machine: statics, constants, rows of objects, new cells ===== -/
theorem sl_succ {n : Nat} (h : n < nCell) : sl (n + 1) = sl n + (shL.getD n (99, 0)).2 := by
  have hl : n < shL.length := h
  unfold sl
  rw [List.take_add_one, List.map_append, List.sum_append, List.getD_eq_getElem?_getD, List.getElem?_eq_getElem hl]
  simp
theorem sl_mono {a b : Nat} (h : a ≤ b) (hb : b ≤ nCell) : sl a ≤ sl b := by
  induction h with
  | refl => exact Nat.le_refl _
  | step h ih =>
    rename_i b
    have := sl_succ (n := b) (by omega)
    have := ih (by omega)
    show sl a ≤ sl (b + 1)
    omega
theorem HI_grow {base : Nat} {ad : Int → Nat} (had : AdOK base ad) {cA : Nat → ClassId} {D : va_G} {H H1 : Heap} {h h' : PH} {g g' : PG} (hH : HI base ad cA D H h g) (hz : H1.size = base + g'.1) (hn : g'.1 ≤ nCell) (hle : g.1 ≤ g'.1) (old : ∀ q : Nat, q < H.size → H1[q]? = H[q]?)
    (hw : ∀ b, b < g.1 → cellE ad cA h' g'.2 b = cellE ad cA h g.2 b) (hnew : ∀ b : Nat, g.1 ≤ b → b < g'.1 → va_at D vwCl (ad b, cellE ad cA h' g'.2 b) H1) : HI base ad cA D H1 h' g' := by
  refine ⟨hz, hn, fun k q hk => ?_⟩
  have hl : k < g'.1 := by
    have := (List.getElem?_eq_some_iff.mp hk).1
    simpa [WS] using this
  rw [WS_get hl] at hk
  cases hk
  by_cases hb : k < g.1
  · rw [hw k hb]
    refine (hH.2.2 k _ (WS_get hb)).kept (old _ ?_)
    have := nCell_le
    show ad k < H.size
    rw [hH.1, had k (by omega) (by omega)]
    omega
  · exact hnew k (by omega) hl
theorem S_grow {A : Nat → Prop} {H0 H H1 : Heap} {locs : List Loc} (hS : va_S A H0 H locs) (hz : H.size ≤ H1.size) (old : ∀ q : Nat, q < H.size → H1[q]? = H[q]?) : va_S A H0 H1 locs :=
  ⟨Nat.le_trans hS.1 hz, fun q h1 h2 => (old q (Nat.lt_of_lt_of_le h1 hS.1)).trans (hS.2.1 q h1 h2), hS.2.2⟩
theorem wipe_o {h : Int → Int → Int} {a : Int} {f : Int → Int} {b : Nat} (hb : (b : Int) ≠ a) (j : Int) : wipe h a f b j = h b j := by
  unfold wipe
  rw [if_neg hb]
theorem wipe_s {h : Int → Int → Int} {a : Int} {f : Int → Int} (j : Int) : wipe h a f a j = f j := by
  unfold wipe
  rw [if_pos rfl]
theorem cstT_spec {o i : Nat} {v : Int} (h : cstT o i = some v) : Cond.constant (oN o) i (Int32.ofInt v) ∈ WB := by
  unfold cstT at h
  cases hf : cstL.find? (fun e => e.1 == o && e.2.1 == i) with
  | none => rw [hf] at h; cases h
  | some e =>
    rw [hf] at h
    cases h
    have h1 := List.mem_of_find?_eq_some hf
    have h2 := List.find?_some hf
    simp only [Bool.and_eq_true, beq_iff_eq] at h2
    have h3 := List.all_eq_true.mp cst_all e h1
    simp only [decide_eq_true_eq] at h3
    rw [h2.1, h2.2] at h3
    exact WB_in h3 rfl
theorem clgT_spec {o i : Nat} {v : Int} (h : clgT o i = some v) : Cond.constantLong (oN o) i (Int64.ofInt v) ∈ WB := by
  unfold clgT at h
  cases hf : clgL.find? (fun e => e.1 == o && e.2.1 == i) with
  | none => rw [hf] at h; cases h
  | some e =>
    rw [hf] at h
    cases h
    have h1 := List.mem_of_find?_eq_some hf
    have h2 := List.find?_some hf
    simp only [Bool.and_eq_true, beq_iff_eq] at h2
    have h3 := List.all_eq_true.mp clg_all e h1
    simp only [decide_eq_true_eq] at h3
    rw [h2.1, h2.2] at h3
    exact WB_in h3 rfl
theorem strT_spec {o i q : Nat} (h : strT o i = some q) : ∃ e, strL[q]? = some e ∧ e.1 = o ∧ e.2.1 = i := by
  unfold strT at h
  obtain ⟨hlt, hp, -⟩ := List.findIdx?_eq_some_iff_getElem.mp h
  simp only [Bool.and_eq_true, beq_iff_eq] at hp
  exact ⟨_, List.getElem?_eq_getElem hlt, hp.1, hp.2⟩
theorem cls_all : clsL.all (fun e => decide (lw_tbl[e.2.2.2]? = some (.classLink (oN e.1) e.2.1 (if e.2.2.1 = 16 then "[[I" else (vwCl.getD e.2.2.1 (RX0, TX0, 0)).1)))) = true := by decide +kernel
theorem clsT_spec {o i ci : Nat} (h : clsT o i = some ci) : Cond.classLink (oN o) i (if ci = 16 then "[[I" else (vwCl.getD ci (RX0, TX0, 0)).1) ∈ WB := by
  unfold clsT at h
  cases hf : clsL.find? (fun e => e.1 == o && e.2.1 == i) with
  | none => rw [hf] at h; cases h
  | some e =>
    rw [hf] at h
    cases h
    have h1 := List.mem_of_find?_eq_some hf
    have h2 := List.find?_some hf
    simp only [Bool.and_eq_true, beq_iff_eq] at h2
    have h3 := List.all_eq_true.mp cls_all e h1
    simp only [decide_eq_true_eq] at h3
    rw [h2.1, h2.2] at h3
    exact WB_in h3 rfl
theorem ins_all : (List.range 9).all (fun c => decide (lw_tbl[instP.getD c 0]? = some (.instantiable (vwCl.getD c (RX0, TX0, 0)).1 (vwCl.getD c (RX0, TX0, 0)).2.2)) && decide (lw_tbl[initP.getD c 0]? = some (.initialized (vwCl.getD c (RX0, TX0, 0)).1))) = true := by decide +kernel
theorem ins_get {ci : Nat} (hc : ci < 9) {r : vw_C} (hr : vwCl.getD ci (RX0, TX0, 0) = r) : Cond.instantiable r.1 r.2.2 ∈ WB ∧ Cond.initialized r.1 ∈ WB := by
  have h := List.all_eq_true.mp ins_all ci (List.mem_range.mpr hc)
  simp only [Bool.and_eq_true, decide_eq_true_eq, hr] at h
  exact ⟨WB_in h.1 rfl, WB_in h.2 rfl⟩
theorem d0_all : (List.range 9).all (fun c => (List.range (vwCl.getD c (RX0, TX0, 0)).2.2).all (fun k => decide (defaultValue (tyOf c k) = if fty c k = 0 then .int 0 else .null))) = true := by decide +kernel
theorem vr_out (c : ClassId) (N h0 : Nat) : ∀ i : Nat, Jvm.Free.Multi.outerC c N h0 i = arrV c N (fun j => va_rf (if j < i then some (h0 + 1 + j) else none))
  | 0 => by
    show ({ cls := c, slots := Array.replicate N .null, vm := .none } : Cell) = _
    rw [arrV_new]
    refine congrArg (arrV c N) (funext fun j => ?_)
    simp [va_rf]
  | i + 1 => by
    show (Jvm.Free.Multi.outerC c N h0 i).setSlot i (.ref (h0 + 1 + i)) = _
    rw [vr_out c N h0 i, arrV_store]
    refine congrArg (arrV c N) (funext fun j => ?_)
    by_cases e : j = i
    · subst e
      simp [updV, va_rf]
    · by_cases h : j < i
      · simp [updV, e, h, Nat.lt_succ_of_lt h]
      · simp [updV, e, h, show ¬ j < i + 1 by omega]
section FRD
variable {base : Nat} {ad : Int → Nat} {z : Int → Int} {cA : Nat → ClassId} {D : va_G} {n0 mi : Nat} {p : Program} {l : Launch} {e : Env} {R : Room} {s : State} {m : MethodId} {args : Array Value} {below : List Frame} {meth : Method} {c : Code} {Q : State → Prop}
variable {pc : Nat} {ls : PL} {st : List PV} {h : PH} {g : PG}
theorem s_ldc {i : Nat} {v : Int} (F : FO base ad z cA D p s m args meth c mi) (hd : decode (mC mi) pc = .ok (.ldc i, 2)) (hc : cstT (mO mi) i = some v) (k : WG base ad cA D n0 mi p l e R s m args below meth c Q (pc + 2, ls, .inl v :: st, h, g)) : WG base ad cA D n0 mi p l e R s m args below meth c Q (pc, ls, st, h, g) := fun H locs l9 hH hS hL =>
  lv_ldc F.1 F.2.1 F.2.2.2.1 (F.2.2.2.2.1 _ (cstT_spec hc)) hd (k H locs l9 hH hS hL)
theorem s_ldcw {i : Nat} {v : Int} (F : FO base ad z cA D p s m args meth c mi) (hd : decode (mC mi) pc = .ok (.ldc_w i, 3)) (hc : cstT (mO mi) i = some v) (k : WG base ad cA D n0 mi p l e R s m args below meth c Q (pc + 3, ls, .inl v :: st, h, g)) : WG base ad cA D n0 mi p l e R s m args below meth c Q (pc, ls, st, h, g) := fun H locs l9 hH hS hL =>
  lv_ldcw F.1 F.2.1 F.2.2.2.1 (F.2.2.2.2.1 _ (cstT_spec hc)) hd (k H locs l9 hH hS hL)
theorem s_ldc2 {i : Nat} {v : Int} (F : FO base ad z cA D p s m args meth c mi) (hd : decode (mC mi) pc = .ok (.ldc2_w i, 3)) (hc : clgT (mO mi) i = some v) (k : WG base ad cA D n0 mi p l e R s m args below meth c Q (pc + 3, ls, .inr (.inl v) :: st, h, g)) : WG base ad cA D n0 mi p l e R s m args below meth c Q (pc, ls, st, h, g) := fun H locs l9 hH hS hL =>
  lv_ldc2 F.1 F.2.1 F.2.2.2.1 (F.2.2.2.2.1 _ (clgT_spec hc)) hd (k H locs l9 hH hS hL)
theorem s_ldcS {i q : Nat} (F : FO base ad z cA D p s m args meth c mi) (hd : decode (mC mi) pc = .ok (.ldc i, 2)) (hc : strT (mO mi) i = some q) (k : WG base ad cA D n0 mi p l e R s m args below meth c Q (pc + 2, ls, .inr (.inr (1010 + (q : Int))) :: st, h, g)) : WG base ad cA D n0 mi p l e R s m args below meth c Q (pc, ls, st, h, g) := fun H locs l9 hH hS hL => by
  obtain ⟨e9, h1, h2, h3⟩ := strT_spec hc
  have hR := F.2.2.2.2.2.1.2.2 q e9 h1
  rw [h2, h3] at hR
  exact va_ldcS F.1 F.2.1 F.2.2.2.1 hR hd (k H locs l9 hH hS hL)
theorem s_kindAbove (F : FO base ad z cA D p s m args meth c mi) (hm : mO mi = 1) (hd : decode (mC mi) pc = .ok (.getstatic 60, 3)) (k : WG base ad cA D n0 mi p l e R s m args below meth c Q (pc + 3, ls, .inr (.inr 1000) :: st, h, g)) : WG base ad cA D n0 mi p l e R s m args below meth c Q (pc, ls, st, h, g) := fun H locs l9 hH hS hL => by
  have ho := F.2.2.2.1
  rw [hm] at ho
  exact va_getsN F.1 F.2.1 F.2.2.2.2.2.1.2.1.1 hS ho (va_Nw.use (A := args) rfl F.2.2.2.2.2.1.1.2.2.2.1) (fun _ hx => hx) hd (k H locs l9 hH hS hL)
theorem s_numbersBehind (F : FO base ad z cA D p s m args meth c mi) (hm : mO mi = 6) (hd : decode (mC mi) pc = .ok (.getstatic 49, 3)) (k : WG base ad cA D n0 mi p l e R s m args below meth c Q (pc + 3, ls, .inr (.inr 1001) :: st, h, g)) : WG base ad cA D n0 mi p l e R s m args below meth c Q (pc, ls, st, h, g) := fun H locs l9 hH hS hL => by
  have ho := F.2.2.2.1
  rw [hm] at ho
  exact va_getsN F.1 F.2.1 F.2.2.2.2.2.1.2.1.2.1 hS ho (va_Nw.use (A := args) rfl F.2.2.2.2.2.1.1.2.2.2.2.1) (fun _ hx => hx) hd (k H locs l9 hH hS hL)
theorem s_compact (F : FO base ad z cA D p s m args meth c mi) (hm : mO mi = 12) (hd : decode (mC mi) pc = .ok (.getstatic 38, 3)) (k : WG base ad cA D n0 mi p l e R s m args below meth c Q (pc + 3, ls, .inl 1 :: st, h, g)) : WG base ad cA D n0 mi p l e R s m args below meth c Q (pc, ls, st, h, g) := fun H locs l9 hH hS hL => by
  have ho := F.2.2.2.1
  rw [hm] at ho
  exact va_gets F.1 F.2.1 F.2.2.2.2.2.1.2.1.2.2.1 hS ho (F.2.2.2.2.1 _ (WB_in (i := pw_csLink) (w := .fieldLink RJ0 38 "java/lang/String" "COMPACT_STRINGS" "Z") (by decide +kernel) rfl)) (fun _ hx => hx) hd (k H locs l9 hH hS hL)
theorem s_strVal {q : Nat} (F : FO base ad z cA D p s m args meth c mi) (hm : mO mi = 12) (hq : q < 4) (hd : decode (mC mi) pc = .ok (.getfield 9, 3)) (k : WG base ad cA D n0 mi p l e R s m args below meth c Q (pc + 3, ls, .inr (.inr (1020 + (q : Int))) :: st, h, g)) : WG base ad cA D n0 mi p l e R s m args below meth c Q (pc, ls, .inr (.inr (1010 + (q : Int))) :: st, h, g) := fun H locs l9 hH hS hL => by
  have ho := F.2.2.2.1
  rw [hm] at ho
  exact vk_getf F.1 F.2.1 (F.2.2.2.2.2.1.2.1.2.2.2.2.2.2 q hq).2.2 hS ho (F.2.2.2.2.1 _ (WB_in (i := pw_vaLink) (w := .fieldLink RJ0 9 "java/lang/String" "value" "[B") (by decide +kernel) rfl)) (fun _ hx => hx) hd (k H locs l9 hH hS hL)
theorem s_strCod {q : Nat} (F : FO base ad z cA D p s m args meth c mi) (hm : mO mi = 12) (hq : q < 4) (hd : decode (mC mi) pc = .ok (.getfield 15, 3)) (k : WG base ad cA D n0 mi p l e R s m args below meth c Q (pc + 3, ls, .inl 0 :: st, h, g)) : WG base ad cA D n0 mi p l e R s m args below meth c Q (pc, ls, .inr (.inr (1010 + (q : Int))) :: st, h, g) := fun H locs l9 hH hS hL => by
  have ho := F.2.2.2.1
  rw [hm] at ho
  exact vk_getf F.1 F.2.1 (F.2.2.2.2.2.1.2.1.2.2.2.2.2.2 q hq).2.1 hS ho (F.2.2.2.2.1 _ (WB_in (i := pw_coLink) (w := .fieldLink RJ0 15 "java/lang/String" "coder" "B") (by decide +kernel) rfl)) (fun _ hx => hx) hd (k H locs l9 hH hS hL)
theorem s_aastore {a i v : Int} {k9 : Nat} (F : FO base ad z cA D p s m args meth c mi) (hd : decode (mC mi) pc = .ok (.aastore, 1)) (h13 : k9 = 13 ∨ k9 = 14 ∨ k9 = 15) (ho : isO a k9 g.1 = true) (hv : isO v (eltK k9) g.1 = true) (h0 : 0 ≤ w32 i) (h1 : w32 i < alen a) (k : WG base ad cA D n0 mi p l e R s m args below meth c Q (pc + 1, ls, st, h, (g.1, u2 g.2 a (w32 i) v))) : WG base ad cA D n0 mi p l e R s m args below meth c Q (pc, ls, .inr (.inr v) :: .inl i :: .inr (.inr a) :: st, h, g) := fun H locs l9 hH hS hL => by
  have had : AdOK base ad := F.2.2.2.2.2.2.2.2.2.1
  have hK := s_FO.K F
  have ea : ad ((a.toNat : Nat) : Int) = ad a := by rw [(isO_spec ho).2.2.1]
  have hec : eltK k9 < 9 := by rcases h13 with rfl | rfl | rfl <;> decide
  obtain ⟨r, hr, hrd, -⟩ := cl_get hec
  have hty : (tysOf cA)[k9 - 10]? = some (cA (k9 - 10), .object r.1) := by
    rcases h13 with rfl | rfl | rfl
    · have e9 : vwCl[eltK 13]? = some (RX1, TX1, 9) := rfl
      cases e9.symm.trans hr
      rfl
    · have e9 : vwCl[eltK 14]? = some (RX4, TX4, 6) := rfl
      cases e9.symm.trans hr
      rfl
    · have e9 : vwCl[eltK 15]? = some (RX5, TX5, 3) := rfl
      cases e9.symm.trans hr
      rfl
  have b1 : 13 ≤ k9 := by omega
  have b2 : k9 ≤ 16 := by omega
  have ha9 := hH.2.2 a.toNat _ (WS_at ho (cellE_R ho b1 b2))
  have hv9 := hH.2.2 v.toNat _ (WS_at hv (cellE_O hv hec))
  have hlt : (Int32.ofInt i).toNatClampNeg < alen a := by rw [e_clamp]; omega
  obtain ⟨r', hr', cellV, g1, g2, g3, -⟩ := hv9
  have hcls := (hK.1 _ r hr).2
  obtain ⟨kA, comp, k1, k2, k3, -⟩ := (hK.2 (k9 - 10) _ hty).2
  have hcomp : comp = D.1 (eltK k9) := Option.some.inj (k3.symm.trans hcls.1)
  subst hcomp
  obtain ⟨kC, hkC, -⟩ := hcls.2
  refine W.aast F.1 F.2.1 ha9 (fun q h => by cases h) (fun h => by cases h) k1 k2 rfl hkC ⟨e_nneg h0, by show _ < (arrV _ _ _).slots.size; rw [arrV_size]; exact hlt⟩ g1 (fun q h => by rw [g3] at h; cases h) (by rw [g2]; exact hkC) (by rw [g2]; exact va_assign hcls) rfl rfl hd fun H1 e9 z9 oq => ?_
  refine k H1 _ l9 (HI_set had hH (a := a.toNat) (g' := (g.1, u2 g.2 a (w32 i) v)) (isO_spec ho).2.1 rfl (fun b _ hb => cellE_congr (fun _ => rfl) (fun j => u2_o (ne_of_toNat (isO_spec ho).1 hb) j)) ?_ z9 (by rw [ea]; exact oq)) (hS.put z9 oq (ad_A had ho hH.2.1)) hL
  rw [cellE_R ho b1 b2, ea]
  show H1[ad a]? = some (vp_cell _ _)
  rw [e9]
  rw [vp_cell_q, vp_cell_q, arrV_store]
  congr 2
  funext q
  by_cases hq : q = (Int32.ofInt i).toNatClampNeg
  · refine (show updV _ _ _ q = _ from if_pos hq).trans (Eq.trans ?_ (congrArg (fun x => va_rf (rnv ad x)) (u2_s.trans (if_pos ((e_idx h0).mp hq))).symm))
    exact (rnv_ref (isO_spec hv).1).symm
  · exact (show updV _ _ _ q = _ from if_neg hq).trans (congrArg (fun x => va_rf (rnv ad x)) (u2_s.trans (if_neg (fun h9 => hq ((e_idx h0).mpr h9)))).symm)
theorem s_new {i ci : Nat} (F : FO base ad z cA D p s m args meth c mi) (hd : decode (mC mi) pc = .ok (.new i, 3)) (hc : clsT (mO mi) i = some ci) (hci : ci < 9) (hn : g.1 < nCell) (hs : shL.getD g.1 (99, 0) = (ci, (vwCl.getD ci (RX0, TX0, 0)).2.2)) (hn0 : n0 ≤ g.1) (r1 : g.1 + 1 - n0 ≤ R.cells) (r2 : sl (g.1 + 1) - sl n0 ≤ R.slots)
    (k : WG base ad cA D n0 mi p l e R s m args below meth c Q (pc + 3, ls, .inr (.inr (g.1 : Int)) :: st, wipe h g.1 (fun j => if fty ci j.toNat = 2 then -1 else 0), (g.1 + 1, wipe g.2 g.1 (fun _ => -1)))) : WG base ad cA D n0 mi p l e R s m args below meth c Q (pc, ls, st, h, g) := fun H locs l9 hH hS hL => by
  have had : AdOK base ad := F.2.2.2.2.2.2.2.2.2.1
  have hK := s_FO.K F
  have hnc := nCell_le
  obtain ⟨r, hr, hrd, hin, hfl, -⟩ := cl_get hci
  rw [hrd] at hs
  obtain ⟨i1, i2⟩ := ins_get hci hrd
  have hcl := F.2.2.2.2.1 _ (clsT_spec hc)
  rw [if_neg (by omega), hrd] at hcl
  have hsl := sl_succ hn
  rw [hs] at hsl
  have hm := sl_mono hn0 (by omega)
  have hKn := hK.1 ci _ hr
  have ead : ad (g.1 : Int) = H.size := by rw [hH.1, had _ (by omega) (by omega)]; simp
  have e1 : g.1 - n0 + 1 = g.1 + 1 - n0 := by omega
  have e2 : sl g.1 - sl n0 + r.2.2 = sl (g.1 + 1) - sl n0 := by omega
  refine W.newcK F.1 F.2.1 F.2.2.2.1 hcl (F.2.2.2.2.1 _ i1) (F.2.2.2.2.1 _ i2) rfl hd (by show g.1 - n0 + 1 ≤ _; omega) (by show sl g.1 - sl n0 + r.2.2 ≤ _; omega) hKn.2.1 rfl fun H1 kC hkC w1 w2 w3 => ?_
  have k2 := k H1 locs l9 (HI_grow (h := h) (g := g) (h' := wipe h g.1 (fun j => if fty ci j.toNat = 2 then -1 else 0)) (g' := (g.1 + 1, wipe g.2 g.1 (fun _ => -1))) had hH (by show H1.size = base + (g.1 + 1); have q9 : H.size = base + g.1 := hH.1; omega) (by show g.1 + 1 ≤ nCell; omega) (by show g.1 ≤ g.1 + 1; omega) w3 (fun b hb => cellE_congr (fun j => wipe_o (a := (g.1 : Int)) (b := b) (by omega) j) (fun j => wipe_o (h := g.2) (a := (g.1 : Int)) (f := fun _ => -1) (b := b) (by omega) j)) (fun b h1 h2 => ?_)) (S_grow hS (by omega) w3) hL
  · have k3 : W p l e R s m args below meth c H1 locs (g.1 + 1 - n0) (sl (g.1 + 1) - sl n0) Q (F0 m (pc + 3) l9 (.ref (ad (g.1 : Int)) :: st.map (mv ad))) := k2
    rw [ead, ← e1, ← e2] at k3
    exact k3
  · have hb : b = g.1 := by
      have : b < g.1 + 1 := h2
      omega
    subst hb
    have hob := u_born (tyOf ci) F.2.2.2.2.1 hin hKn hkC w1 (fun k hk => (hfl k hk).2.1)
    unfold cellE
    simp only [hs]
    rw [if_pos hci]
    refine ⟨r, hr, ?_⟩
    show t_OB (ad (g.1 : Int)) (D.1 ci) r.2.2 (D.2 ci) H1 (vp_V _)
    rw [ead]
    refine hob.to (fun j hj => ?_)
    have hd0 := List.all_eq_true.mp (List.all_eq_true.mp d0_all ci (List.mem_range.mpr hci)) j (List.mem_range.mpr (by rw [hrd]; exact hj))
    simp only [decide_eq_true_eq] at hd0
    rw [hd0]
    show _ = vp_V _ j
    unfold vp_V
    rw [List.getD_eq_getElem?_getD, slotV_get hj]
    show _ = slotV ad _ _ ci j _
    unfold slotV
    by_cases q0 : fty ci j = 0
    · rw [if_pos q0, if_pos q0, wipe_s, if_neg (by simp [q0])]
      rfl
    · rw [if_neg q0, if_neg q0]
      by_cases q1 : fty ci j = 1
      · rw [if_pos q1, wipe_s]
        rfl
      · have q2 : fty ci j = 2 := by have := (hfl j hj).2.2.2.2.2; omega
        rw [if_neg q1, wipe_s, if_pos (by simp [q2])]
        rfl
theorem s_newarrI {x : Int} (F : FO base ad z cA D p s m args meth c mi) (hd : decode (mC mi) pc = .ok (.newarray .int, 2)) (hx0 : 0 ≤ x) (hx1 : x ≤ 1000) (hn : g.1 < nCell) (hs : shL.getD g.1 (99, 0) = (10, x.toNat)) (hn0 : n0 ≤ g.1) (r1 : g.1 + 1 - n0 ≤ R.cells) (r2 : sl (g.1 + 1) - sl n0 ≤ R.slots)
    (k : WG base ad cA D n0 mi p l e R s m args below meth c Q (pc + 2, ls, .inr (.inr (g.1 : Int)) :: st, wipe h g.1 (fun _ => 0), (g.1 + 1, wipe g.2 g.1 (fun _ => -1)))) : WG base ad cA D n0 mi p l e R s m args below meth c Q (pc, ls, .inl x :: st, h, g) := fun H locs l9 hH hS hL => by
  have had : AdOK base ad := F.2.2.2.2.2.2.2.2.2.1
  have hK := s_FO.K F
  have hnc := nCell_le
  have hsl := sl_succ hn
  rw [hs] at hsl
  have hm := sl_mono hn0 (by omega)
  have ead : ad (g.1 : Int) = H.size := by rw [hH.1, had _ (by omega) (by omega)]; simp
  have e1 : g.1 - n0 + 1 = g.1 + 1 - n0 := by omega
  have e2 : sl g.1 - sl n0 + x.toNat = sl (g.1 + 1) - sl n0 := by have : (10, x.toNat).2 = x.toNat := rfl; omega
  have ew : w32 x = x := e_small (by omega) (by omega)
  refine va_newaK (atype := .int) F.1 F.2.1 (F.2.2.2.2.1 (.arrayClass .int) (WB_in (i := pw_arI) (by decide +kernel) rfl)) rfl hd rfl (e_nneg (by rw [ew]; exact hx0)) (N := x.toNat) (by rw [e_clamp, ew]) (by show x.toNat * 4 ≤ _; omega) (by show g.1 - n0 + 1 ≤ _; omega) (by show sl g.1 - sl n0 + x.toNat ≤ _; omega) rfl fun H1 cA9 w1 w2 w3 w4 w5 => ?_
  have k2 := k H1 locs l9 (HI_grow (h := h) (g := g) (h' := wipe h g.1 (fun _ => 0)) (g' := (g.1 + 1, wipe g.2 g.1 (fun _ => -1))) had hH (by show H1.size = base + (g.1 + 1); have q9 : H.size = base + g.1 := hH.1; omega) (by show g.1 + 1 ≤ nCell; omega) (by show g.1 ≤ g.1 + 1; omega) w3 (fun b hb => cellE_congr (fun j => wipe_o (a := (g.1 : Int)) (b := b) (by omega) j) (fun j => wipe_o (h := g.2) (a := (g.1 : Int)) (f := fun _ => -1) (b := b) (by omega) j)) (fun b h1 h2 => ?_)) (S_grow hS (by omega) w3) hL
  · have k3 : W p l e R s m args below meth c H1 locs (g.1 + 1 - n0) (sl (g.1 + 1) - sl n0) Q (F0 m (pc + 2) l9 (.ref (ad (g.1 : Int)) :: st.map (mv ad))) := k2
    rw [ead, ← e1, ← e2] at k3
    exact k3
  · have hb : b = g.1 := by
      have : b < g.1 + 1 := h2
      omega
    subst hb
    have hca : cA9 = cA 0 := Option.some.inj (w5.symm.trans (hK.2 0 _ rfl).2)
    subst hca
    unfold cellE
    simp only [hs]
    show H1[ad (g.1 : Int)]? = some (vp_cell _ _)
    rw [ead, w1, vp_cell_i]
    refine congrArg some (congrArg (arrV _ _) (funext fun j => ?_))
    rw [wipe_s]
    rfl
theorem s_newarrJ {x : Int} (F : FO base ad z cA D p s m args meth c mi) (hd : decode (mC mi) pc = .ok (.newarray .long, 2)) (hx0 : 0 ≤ x) (hx1 : x ≤ 1000) (hn : g.1 < nCell) (hs : shL.getD g.1 (99, 0) = (11, x.toNat)) (hn0 : n0 ≤ g.1) (r1 : g.1 + 1 - n0 ≤ R.cells) (r2 : sl (g.1 + 1) - sl n0 ≤ R.slots)
    (k : WG base ad cA D n0 mi p l e R s m args below meth c Q (pc + 2, ls, .inr (.inr (g.1 : Int)) :: st, wipe h g.1 (fun _ => 0), (g.1 + 1, wipe g.2 g.1 (fun _ => -1)))) : WG base ad cA D n0 mi p l e R s m args below meth c Q (pc, ls, .inl x :: st, h, g) := fun H locs l9 hH hS hL => by
  have had : AdOK base ad := F.2.2.2.2.2.2.2.2.2.1
  have hK := s_FO.K F
  have hnc := nCell_le
  have hsl := sl_succ hn
  rw [hs] at hsl
  have hm := sl_mono hn0 (by omega)
  have ead : ad (g.1 : Int) = H.size := by rw [hH.1, had _ (by omega) (by omega)]; simp
  have e1 : g.1 - n0 + 1 = g.1 + 1 - n0 := by omega
  have e2 : sl g.1 - sl n0 + x.toNat = sl (g.1 + 1) - sl n0 := by have : (11, x.toNat).2 = x.toNat := rfl; omega
  have ew : w32 x = x := e_small (by omega) (by omega)
  refine va_newaK (atype := .long) F.1 F.2.1 (F.2.2.2.2.1 (.arrayClass .long) (WB_in (i := pw_arJ) (by decide +kernel) rfl)) rfl hd rfl (e_nneg (by rw [ew]; exact hx0)) (N := x.toNat) (by rw [e_clamp, ew]) (by show x.toNat * 8 ≤ _; omega) (by show g.1 - n0 + 1 ≤ _; omega) (by show sl g.1 - sl n0 + x.toNat ≤ _; omega) rfl fun H1 cA9 w1 w2 w3 w4 w5 => ?_
  have k2 := k H1 locs l9 (HI_grow (h := h) (g := g) (h' := wipe h g.1 (fun _ => 0)) (g' := (g.1 + 1, wipe g.2 g.1 (fun _ => -1))) had hH (by show H1.size = base + (g.1 + 1); have q9 : H.size = base + g.1 := hH.1; omega) (by show g.1 + 1 ≤ nCell; omega) (by show g.1 ≤ g.1 + 1; omega) w3 (fun b hb => cellE_congr (fun j => wipe_o (a := (g.1 : Int)) (b := b) (by omega) j) (fun j => wipe_o (h := g.2) (a := (g.1 : Int)) (f := fun _ => -1) (b := b) (by omega) j)) (fun b h1 h2 => ?_)) (S_grow hS (by omega) w3) hL
  · have k3 : W p l e R s m args below meth c H1 locs (g.1 + 1 - n0) (sl (g.1 + 1) - sl n0) Q (F0 m (pc + 2) l9 (.ref (ad (g.1 : Int)) :: st.map (mv ad))) := k2
    rw [ead, ← e1, ← e2] at k3
    exact k3
  · have hb : b = g.1 := by
      have : b < g.1 + 1 := h2
      omega
    subst hb
    have hca : cA9 = cA 1 := Option.some.inj (w5.symm.trans (hK.2 1 _ rfl).2)
    subst hca
    unfold cellE
    simp only [hs]
    show H1[ad (g.1 : Int)]? = some (vp_cell _ _)
    rw [ead, w1, vp_cell_l]
    refine congrArg some (congrArg (arrV _ _) (funext fun j => ?_))
    rw [wipe_s]
    rfl
theorem s_newarrC {x : Int} (F : FO base ad z cA D p s m args meth c mi) (hd : decode (mC mi) pc = .ok (.newarray .char, 2)) (hx0 : 0 ≤ x) (hx1 : x ≤ 1000) (hn : g.1 < nCell) (hs : shL.getD g.1 (99, 0) = (12, x.toNat)) (hn0 : n0 ≤ g.1) (r1 : g.1 + 1 - n0 ≤ R.cells) (r2 : sl (g.1 + 1) - sl n0 ≤ R.slots)
    (k : WG base ad cA D n0 mi p l e R s m args below meth c Q (pc + 2, ls, .inr (.inr (g.1 : Int)) :: st, wipe h g.1 (fun _ => 0), (g.1 + 1, wipe g.2 g.1 (fun _ => -1)))) : WG base ad cA D n0 mi p l e R s m args below meth c Q (pc, ls, .inl x :: st, h, g) := fun H locs l9 hH hS hL => by
  have had : AdOK base ad := F.2.2.2.2.2.2.2.2.2.1
  have hK := s_FO.K F
  have hnc := nCell_le
  have hsl := sl_succ hn
  rw [hs] at hsl
  have hm := sl_mono hn0 (by omega)
  have ead : ad (g.1 : Int) = H.size := by rw [hH.1, had _ (by omega) (by omega)]; simp
  have e1 : g.1 - n0 + 1 = g.1 + 1 - n0 := by omega
  have e2 : sl g.1 - sl n0 + x.toNat = sl (g.1 + 1) - sl n0 := by have : (12, x.toNat).2 = x.toNat := rfl; omega
  have ew : w32 x = x := e_small (by omega) (by omega)
  refine va_newaK (atype := .char) F.1 F.2.1 (F.2.2.2.2.1 (.arrayClass .char) (WB_in (i := pw_arC) (by decide +kernel) rfl)) rfl hd rfl (e_nneg (by rw [ew]; exact hx0)) (N := x.toNat) (by rw [e_clamp, ew]) (by show x.toNat * 2 ≤ _; omega) (by show g.1 - n0 + 1 ≤ _; omega) (by show sl g.1 - sl n0 + x.toNat ≤ _; omega) rfl fun H1 cA9 w1 w2 w3 w4 w5 => ?_
  have k2 := k H1 locs l9 (HI_grow (h := h) (g := g) (h' := wipe h g.1 (fun _ => 0)) (g' := (g.1 + 1, wipe g.2 g.1 (fun _ => -1))) had hH (by show H1.size = base + (g.1 + 1); have q9 : H.size = base + g.1 := hH.1; omega) (by show g.1 + 1 ≤ nCell; omega) (by show g.1 ≤ g.1 + 1; omega) w3 (fun b hb => cellE_congr (fun j => wipe_o (a := (g.1 : Int)) (b := b) (by omega) j) (fun j => wipe_o (h := g.2) (a := (g.1 : Int)) (f := fun _ => -1) (b := b) (by omega) j)) (fun b h1 h2 => ?_)) (S_grow hS (by omega) w3) hL
  · have k3 : W p l e R s m args below meth c H1 locs (g.1 + 1 - n0) (sl (g.1 + 1) - sl n0) Q (F0 m (pc + 2) l9 (.ref (ad (g.1 : Int)) :: st.map (mv ad))) := k2
    rw [ead, ← e1, ← e2] at k3
    exact k3
  · have hb : b = g.1 := by
      have : b < g.1 + 1 := h2
      omega
    subst hb
    have hca : cA9 = cA 2 := Option.some.inj (w5.symm.trans (hK.2 2 _ rfl).2)
    subst hca
    unfold cellE
    simp only [hs]
    show H1[ad (g.1 : Int)]? = some (vp_cell _ _)
    rw [ead, w1, vp_cell_i]
    refine congrArg some (congrArg (arrV _ _) (funext fun j => ?_))
    rw [wipe_s]
    rfl
theorem s_anew {i ci k9 : Nat} {x : Int} (F : FO base ad z cA D p s m args meth c mi) (hd : decode (mC mi) pc = .ok (.anewarray i, 3)) (hc : clsT (mO mi) i = some ci) (hk9 : (ci = 1 ∧ k9 = 13) ∨ (ci = 4 ∧ k9 = 14) ∨ (ci = 5 ∧ k9 = 15)) (hx0 : 0 ≤ x) (hx1 : x ≤ 1000) (hn : g.1 < nCell) (hs : shL.getD g.1 (99, 0) = (k9, x.toNat)) (hn0 : n0 ≤ g.1) (r1 : g.1 + 1 - n0 ≤ R.cells) (r2 : sl (g.1 + 1) - sl n0 ≤ R.slots)
    (k : WG base ad cA D n0 mi p l e R s m args below meth c Q (pc + 3, ls, .inr (.inr (g.1 : Int)) :: st, wipe h g.1 (fun _ => 0), (g.1 + 1, wipe g.2 g.1 (fun _ => -1)))) : WG base ad cA D n0 mi p l e R s m args below meth c Q (pc, ls, .inl x :: st, h, g) := fun H locs l9 hH hS hL => by
  have had : AdOK base ad := F.2.2.2.2.2.2.2.2.2.1
  have hK := s_FO.K F
  have hnc := nCell_le
  have hsl := sl_succ hn
  rw [hs] at hsl
  have hm := sl_mono hn0 (by omega)
  have ead : ad (g.1 : Int) = H.size := by rw [hH.1, had _ (by omega) (by omega)]; simp
  have e1 : g.1 - n0 + 1 = g.1 + 1 - n0 := by omega
  have e2 : sl g.1 - sl n0 + x.toNat = sl (g.1 + 1) - sl n0 := by have : (k9, x.toNat).2 = x.toNat := rfl; omega
  have ew : w32 x = x := e_small (by omega) (by omega)
  have ec : (Int32.ofInt x).toNatClampNeg = x.toNat := by rw [e_clamp, ew]
  have hcl := F.2.2.2.2.1 _ (clsT_spec hc)
  have hfind : ∃ C : String, (Cond.classLink (oN (mO mi)) i C).before args s = true ∧ va_AO C s ∧ (tysOf cA)[k9 - 10]? = some (cA (k9 - 10), .object C) := by
    rcases hk9 with ⟨rfl, rfl⟩ | ⟨rfl, rfl⟩ | ⟨rfl, rfl⟩
    · exact ⟨RX1, hcl, F.2.2.2.2.2.1.1.2.2.2.2.2.1, rfl⟩
    · exact ⟨RX4, hcl, F.2.2.2.2.2.1.1.2.2.2.2.2.2.1, rfl⟩
    · exact ⟨RX5, hcl, F.2.2.2.2.2.1.1.2.2.2.2.2.2.2.1, rfl⟩
  obtain ⟨C, hcl2, hao, hty⟩ := hfind
  refine W.anew F.1 F.2.1 F.2.2.2.1 hcl2 hao.use rfl hd rfl (e_nneg (by rw [ew]; exact hx0)) (by rw [ec]; omega) (by show g.1 - n0 + 1 ≤ _; omega) (by show sl g.1 - sl n0 + (Int32.ofInt x).toNatClampNeg ≤ _; rw [ec]; omega) fun cA9 kA comp w1 w2 w3 w4 => ?_
  rw [ec]
  have w5 : ∀ q : Nat, q < H.size → (H.push ({ cls := cA9, slots := Array.replicate x.toNat .null, vm := .none } : Cell))[q]? = H[q]? := fun q hq => by rw [Array.getElem?_push, if_neg (Nat.ne_of_lt hq)]
  have k2 := k _ locs l9 (HI_grow (h := h) (g := g) (h' := wipe h g.1 (fun _ => 0)) (g' := (g.1 + 1, wipe g.2 g.1 (fun _ => -1))) had hH (H1 := H.push ({ cls := cA9, slots := Array.replicate x.toNat .null, vm := .none } : Cell)) (by show (H.push _).size = base + (g.1 + 1); have q9 : H.size = base + g.1 := hH.1; rw [Array.size_push]; omega) (by show g.1 + 1 ≤ nCell; omega) (by show g.1 ≤ g.1 + 1; omega) w5 (fun b hb => cellE_congr (fun j => wipe_o (a := (g.1 : Int)) (b := b) (by omega) j) (fun j => wipe_o (h := g.2) (a := (g.1 : Int)) (f := fun _ => -1) (b := b) (by omega) j)) (fun b h1 h2 => ?_)) (S_grow hS (by rw [Array.size_push]; omega) w5) hL
  · have k3 : W p l e R s m args below meth c (H.push ({ cls := cA9, slots := Array.replicate x.toNat .null, vm := .none } : Cell)) locs (g.1 + 1 - n0) (sl (g.1 + 1) - sl n0) Q (F0 m (pc + 3) l9 (.ref (ad (g.1 : Int)) :: st.map (mv ad))) := k2
    rw [ead, ← e1, ← e2] at k3
    exact k3
  · have hb : b = g.1 := by
      have : b < g.1 + 1 := h2
      omega
    subst hb
    obtain ⟨kA', comp', a1, a2, a3, a4⟩ := (hK.2 (k9 - 10) _ hty).2
    have hca : cA9 = cA (k9 - 10) := Option.some.inj (w1.symm.trans a4)
    subst hca
    unfold cellE
    simp only [hs]
    rw [if_neg (by omega), if_neg (by omega), if_neg (by omega), if_neg (by omega)]
    show (H.push _)[ad (g.1 : Int)]? = some (vp_cell _ _)
    rw [ead, Array.getElem?_push_size, vp_cell_q, arrV_new]
    refine congrArg some (congrArg (arrV _ _) (funext fun j => ?_))
    rw [wipe_s]
    rfl

end FRD
