/-! ===== a frame of method mi at a place of the plain machine: int[][], calls, ends ===== -/
theorem sl_rows {n x k : Nat} (h1 : n + x < nCell) (hs : shL.getD n (99, 0) = (16, x)) (hr : ∀ j, j < x → shL.getD (n + 1 + j) (99, 0) = (10, k)) : ∀ j, j ≤ x → sl (n + 1 + j) = sl n + x + j * k := by
  intro j
  induction j with
  | zero =>
    intro _
    have := sl_succ (n := n) (by omega)
    rw [hs] at this
    simpa using this
  | succ j ih =>
    intro hj
    have h2 := sl_succ (n := n + 1 + j) (by omega)
    rw [hr j (by omega)] at h2
    have h3 := ih (by omega)
    have h4 : (j + 1) * k = j * k + k := Nat.succ_mul j k
    show sl (n + 1 + j + 1) = _
    omega
/-- a contract's start and end -/
def PcM (base : Nat) (ad : Int → Nat) (z : Int → Int) (cA : Nat → ClassId) (D : va_G) (av : List PV) (h : PH) (g : PG) : Array Value → State → Prop := va_Pc (av.map (mv ad)) (fun U => HI base ad cA D U.heap h g ∧ KB base ad z cA D U U.heap ∧ base ≤ U.heap.size)
def QcM (base : Nat) (ad : Int → Nat) (cA : Nat → ClassId) (D : va_G) (v : Option PV) (h : PH) (g : PG) : Array Value → State → Outcome → State → Prop := fun _ st o t => o = .returned (v.map (mv ad)) ∧ HI base ad cA D t.heap h g ∧ va_F (ZA base) st t
def wsM (m : Nat) : List Cond := .code (mY m) (mC m) (mL m) (mR m) :: WB
def rmM (m mc ms : Nat) : Room := { frames := mF m, cells := mc, slots := ms, locals := mW m }
theorem wc_get {m : Nat} (hm : m < nMeth) : Cond.code (mY m) (mC m) (mL m) (mR m) ∈ WB := by
  have h1 := congrArg (fun l => l[m]?) wc_all
  simp only [List.getElem?_map, List.getElem?_take] at h1
  rw [if_pos hm] at h1
  have hl : m < mTab.length := Nat.lt_of_lt_of_le hm (by decide +kernel)
  rw [List.getElem?_eq_getElem hl] at h1
  cases hw : wTab[m]? with
  | none => rw [hw] at h1; cases h1
  | some q =>
    rw [hw] at h1
    have h2 : lw_tbl[q.1]? = some (Cond.code mTab[m].1 mTab[m].2.1 mTab[m].2.2.1 mTab[m].2.2.2.1) := Option.some.inj h1
    have e : mRow m = mTab[m] := by
      unfold mRow
      rw [List.getD_eq_getElem?_getD, List.getElem?_eq_getElem hl]
      rfl
    unfold mY mC mL mR
    rw [e]
    exact WB_in h2 rfl
theorem mw_get {m : Nat} (hm : m < nMeth) : (if mK m = 1 then Cond.static (mY m) else .instanceMethod (mY m)) ∈ WB ∧ (mK m = 0 → Cond.selects (mY m).cls (mY m) (mY m) ∈ WB) ∧ Cond.initialized (mY m).cls ∈ WB := by
  have h1 := List.all_eq_true.mp mw_all m (List.mem_range.mpr hm)
  unfold mwOk at h1
  cases hw : wTab[m]? with
  | none => rw [hw] at h1; cases h1
  | some q =>
    rw [hw] at h1
    simp only [Bool.and_eq_true, decide_eq_true_eq] at h1
    obtain ⟨a1, a2, a3⟩ := h1
    refine ⟨WB_in a1 ?_, fun h0 => WB_in (a2 h0) rfl, WB_in a3 rfl⟩
    by_cases h9 : mK m = 1
    · rw [if_pos h9]; rfl
    · rw [if_neg h9]; rfl
theorem md_get {m : Nat} (hm : m < nMeth) : (parseMethodDescriptor (mY m).desc).map (fun d => d.parameters.length) = some (if mK m = 1 then mN m else mN m - 1) ∧ (1 ≤ mN m ∨ mK m = 1) ∧ ((mY m).cls ≠ "java/lang/invoke/MethodHandle" ∧ (mY m).cls ≠ "java/lang/invoke/VarHandle") ∧ plainName (mY m).cls = true ∧ (mY m).cls = oN (mO m) ∧ (mK m = 2 ↔ (mY m).name = "<init>") ∧ (mK m = 2 → mR m = none) := by
  have h1 := List.all_eq_true.mp md_all m (List.mem_range.mpr hm)
  unfold mdOk at h1
  simpa only [Bool.and_eq_true, decide_eq_true_eq] using h1
theorem nestV_all : mthL.all (fun e => decide (mK e.2.2.1 = 0 → ¬ e.2.2.2.1 = 1)) = true := by decide +kernel
theorem mthT_spec {o i m b : Nat} (h : mthT o i = some (m, b)) : m < nMeth ∧ (b = 1 → mK m ≠ 0 ∧ ∃ e ∈ mthL, e.2.2.2.1 = 1 ∧ isNestM e = .methodLinkNest (oN o) i (mY m) RX7) ∧ (¬ b = 1 → Cond.methodLink (oN o) i (mY m) ∈ WB) := by
  unfold mthT at h
  cases hf : mthL.find? (fun e => e.1 == o && e.2.1 == i) with
  | none => rw [hf] at h; cases h
  | some e =>
    rw [hf] at h
    cases h
    have h1 := List.mem_of_find?_eq_some hf
    have h2 := List.find?_some hf
    simp only [Bool.and_eq_true, beq_iff_eq] at h2
    have h3 := List.all_eq_true.mp mth_all e h1
    simp only [Bool.and_eq_true, decide_eq_true_eq] at h3
    have h4 := List.all_eq_true.mp nestV_all e h1
    simp only [decide_eq_true_eq] at h4
    refine ⟨h3.2, fun hb => ⟨fun q => h4 q hb, e, h1, hb, ?_⟩, fun hb => ?_⟩
    · unfold isNestM
      rw [h2.1, h2.2]
    · have h5 := h3.1
      rw [if_neg hb] at h5
      unfold isPlainM at h5
      rw [h2.1, h2.2] at h5
      exact WB_in h5 rfl
theorem wsM_in {m : Nat} (hm : m < nMeth) : ∀ w ∈ wsM m, w ∈ WB := fun w hw => (List.mem_cons.mp hw).elim (fun e => by rw [e]; exact wc_get hm) (fun h => h)
section FRF
variable {base : Nat} {ad : Int → Nat} {z : Int → Int} {cA : Nat → ClassId} {D : va_G} {n0 mi : Nat} {p : Program} {l : Launch} {e : Env} {R : Room} {s : State} {m : MethodId} {args : Array Value} {below : List Frame} {meth : Method} {c : Code} {Q : State → Prop}
variable {pc : Nat} {ls : PL} {st : List PV} {h : PH} {g : PG}
theorem s_multi {i : Nat} {x k : Int} (F : FO base ad z cA D p s m args meth c mi) (hd : decode (mC mi) pc = .ok (.multianewarray i 2, 4)) (hc : clsT (mO mi) i = some 16) (hx0 : 0 ≤ x) (hx1 : x ≤ 100) (hk0 : 0 ≤ k) (hk1 : k ≤ 100) (hn : g.1 + x.toNat < nCell) (hs : shL.getD g.1 (99, 0) = (16, x.toNat)) (hrows : ∀ j, j < x.toNat → shL.getD (g.1 + 1 + j) (99, 0) = (10, k.toNat)) (hn0 : n0 ≤ g.1) (r1 : g.1 + 1 + x.toNat - n0 ≤ R.cells) (r2 : sl (g.1 + 1 + x.toNat) - sl n0 ≤ R.slots)
    {h' : PH} {r' : Int → Int → Int} (eh : h' = fun b j => if (g.1 : Int) ≤ b ∧ b ≤ g.1 + x then 0 else h b j) (er : r' = fun b j => if b = (g.1 : Int) then (if 0 ≤ j ∧ j < x then g.1 + 1 + j else -1) else if (g.1 : Int) < b ∧ b ≤ g.1 + x then -1 else g.2 b j)
    (kk : WG base ad cA D n0 mi p l e R s m args below meth c Q (pc + 4, ls, .inr (.inr (g.1 : Int)) :: st, h', (g.1 + 1 + x.toNat, r'))) : WG base ad cA D n0 mi p l e R s m args below meth c Q (pc, ls, .inl k :: .inl x :: st, h, g) := fun H locs l9 hH hS hL => by
  have had : AdOK base ad := F.2.2.2.2.2.2.2.2.2.1
  have hK := s_FO.K F
  have hnc := nCell_le
  have hsl := sl_rows hn hs hrows x.toNat (Nat.le_refl _)
  have hm := sl_mono hn0 (by omega)
  have ead : ad (g.1 : Int) = H.size := by rw [hH.1, had _ (by omega) (by omega)]; simp
  have ewx : w32 x = x := e_small (by omega) (by omega)
  have ewk : w32 k = k := e_small (by omega) (by omega)
  have ecx : (Int32.ofInt x).toNatClampNeg = x.toNat := by rw [e_clamp, ewx]
  have eck : (Int32.ofInt k).toNatClampNeg = k.toNat := by rw [e_clamp, ewk]
  have hcl := F.2.2.2.2.1 _ (clsT_spec hc)
  rw [if_pos rfl] at hcl
  have hover : (Cond.arrayOver (.array .int)).before args s = true := F.2.2.2.2.2.1.1.2.2.2.2.2.2.2.2
  have harr : (Cond.arrayClass .int).before args s = true := F.2.2.2.2.1 (.arrayClass .int) (WB_in (i := pw_arI) (by decide +kernel) rfl)
  intro T hT X
  obtain ⟨vm₁, cA9, comp, -, fA, fC, hO, -, X', step⟩ := X.multianewarray2F F.1 F.2.2.2.1 hcl hover harr (g := F0 m pc l9 (.int (Int32.ofInt k) :: .int (Int32.ofInt x) :: st.map (mv ad))) rfl (by rw [F.2.1]; exact hd) rfl (e_nneg (by rw [ewx]; exact hx0)) (e_nneg (by rw [ewk]; exact hk0)) (by rw [ecx]; omega) (by rw [eck]; show k.toNat * 4 ≤ _; omega) (by rw [eck]; omega) rfl rfl (by rw [ecx]; show g.1 - n0 + (1 + x.toNat) ≤ _; omega) (by rw [ecx, eck]; show sl g.1 - sl n0 + (x.toNat + x.toNat * k.toNat) ≤ _; omega)
  rw [ecx, eck] at X' step
  generalize hF : Jvm.Free.Multi.fill (T.setVm vm₁) cA9 comp x.toNat k.toNat (defaultValue .int) x.toNat = T2 at X' step
  have hTh : (T.setVm vm₁).heap = H := hT
  obtain ⟨f1, f2, -, -⟩ := Jvm.Free.Multi.fill_facts (T.setVm vm₁) cA9 comp x.toNat k.toNat (defaultValue .int) x.toNat
  rw [hF, hTh] at f1 f2
  have hold : ∀ q : Nat, q < H.size → T2.heap[q]? = H[q]? := fun q hq => by
    have := Jvm.Free.Multi.fill_old (T.setVm vm₁) cA9 comp x.toNat k.toNat (defaultValue .int) (a := q) (by rw [hTh]; exact hq) x.toNat
    rw [hF, hTh] at this
    exact this
  have hrow : ∀ j : Nat, j < x.toNat → T2.heap[H.size + 1 + j]? = some (Jvm.Free.Multi.innerC comp k.toNat (defaultValue .int)) := fun j hj => by
    have := Jvm.Free.Multi.fill_inner (T.setVm vm₁) cA9 comp x.toNat k.toNat (defaultValue .int) x.toNat j hj
    rw [hF, hTh] at this
    exact this
  have hcI : comp = cA 0 := Option.some.inj (fC.symm.trans (hK.2 0 _ rfl).2)
  have hcA : cA9 = cA 6 := Option.some.inj (fA.symm.trans (hK.2 6 _ rfl).2)
  subst hcI
  subst hcA
  have hz : H.size = base + g.1 := hH.1
  have kh := kk T2.heap locs l9 (HI_grow (h := h) (g := g) (h' := h') (g' := (g.1 + 1 + x.toNat, r')) had hH (by show T2.heap.size = base + (g.1 + 1 + x.toNat); omega) (by show g.1 + 1 + x.toNat ≤ nCell; omega) (by show g.1 ≤ g.1 + 1 + x.toNat; omega) hold (fun b hb => cellE_congr (fun j => by rw [eh]; exact if_neg (by omega)) (fun j => by show r' b j = g.2 b j; rw [er]; show (if (b : Int) = _ then _ else _) = _; rw [if_neg (by omega), if_neg (by omega)])) (fun b h1 h2 => ?_)) (S_grow hS (by omega) hold) hL
  · obtain ⟨t, a1, b1⟩ := kh T2 rfl (by
      show Stand p l e R s m args below meth c T2 locs (g.1 + 1 + x.toNat - n0) (sl (g.1 + 1 + x.toNat) - sl n0)
      have e1 : g.1 - n0 + 1 + x.toNat = g.1 + 1 + x.toNat - n0 := by omega
      have e2 : sl g.1 - sl n0 + x.toNat + x.toNat * k.toNat = sl (g.1 + 1 + x.toNat) - sl n0 := by omega
      rw [← e1, ← e2]
      exact X')
    refine ⟨t, step t ?_, b1⟩
    have a2 : Steps p.tables e below (T2.setTop (F0 m (pc + 4) l9 (.ref (ad (g.1 : Int)) :: st.map (mv ad)))) t := a1
    rw [ead] at a2
    rw [← hT] at a2
    exact a2
  · have h2' : b < g.1 + 1 + x.toNat := h2
    by_cases hb : b = g.1
    · subst hb
      unfold cellE
      simp only [hs]
      show T2.heap[ad (g.1 : Int)]? = some (vp_cell _ _)
      rw [ead, f2, vp_cell_q, vr_out]
      refine congrArg some (congrArg (arrV _ _) (funext fun j => ?_))
      show va_rf _ = va_rf (rnv ad (r' (g.1 : Int) j))
      rw [er]
      show va_rf _ = va_rf (rnv ad (if (g.1 : Int) = g.1 then _ else _))
      rw [if_pos rfl]
      by_cases hj : j < x.toNat
      · rw [if_pos hj, if_pos (by omega), rnv, if_neg (by omega), had _ (by omega) (by omega), hz]
        congr 2
        omega
      · rw [if_neg hj, if_neg (by omega)]
        rfl
    · have hb2 : b = g.1 + 1 + (b - (g.1 + 1)) := by omega
      have hs2 := hrows (b - (g.1 + 1)) (by omega)
      rw [← hb2] at hs2
      unfold cellE
      simp only [hs2]
      show T2.heap[ad (b : Int)]? = some (vp_cell _ _)
      have eb : ad (b : Int) = H.size + 1 + (b - (g.1 + 1)) := by rw [had _ (by omega) (by omega), hz]; omega
      rw [eb, hrow _ (by omega), vp_cell_i]
      show some ({ cls := cA 0, slots := Array.replicate k.toNat _, vm := .none } : Cell) = _
      rw [arrV_new]
      refine congrArg some (congrArg (arrV _ _) (funext fun j => ?_))
      show Value.int 0 = .int (Int32.ofInt (h' b j))
      rw [eh]
      show _ = Value.int (Int32.ofInt (if _ then _ else _))
      rw [if_pos (by omega)]
      rfl
/-- behind a call -/
theorem s_back {v : Option PV} {h' : PH} {g' : PG} {rest : List PV} {H : Heap} {locs : List Loc} {l9 : Array Slot} {g9 : JFrame} {a : Array Value} (hg9 : { g9 with pc := g9.pc + 3, stack := (v.map (mv ad)).toList ++ rest.map (mv ad) } = F0 m (pc + 3) l9 ((v.toList ++ rest).map (mv ad))) (hle : n0 ≤ g.1) (hg : g.1 ≤ g'.1) (hs9 : sl n0 ≤ sl g.1) (hs8 : sl g.1 ≤ sl g'.1)
    (hr : va_Run p l e R s m args below meth c H locs (g.1 - n0) (sl g.1 - sl n0) (g'.1 - g.1) (sl g'.1 - sl g.1) g9 (rest.map (mv ad)) (QcM base ad cA D v h' g' a) (ZA base)) (hS : va_S (ZA base) s.heap H locs) (hL : LR ad (mL mi) l9 ls) (kk : WG base ad cA D n0 mi p l e R s m args below meth c Q (pc + 3, ls, v.toList ++ rest, h', g')) : W p l e R s m args below meth c H locs (g.1 - n0) (sl g.1 - sl n0) Q g9 := by
  intro T hT X
  obtain ⟨v9, st₀, t, T', L, q0, X', hLf, e1, e2, ⟨hq1, hq2, hq3⟩, stp⟩ := hr T hT X
  cases hq1
  obtain ⟨hz, hk⟩ := hq3
  rw [q0] at hz hk
  have k2 := kk T'.heap (locs ++ L) l9 (by rw [e1]; exact hq2) ⟨Nat.le_trans hS.1 (by rw [e1]; exact hz), fun q h1 h2 => by rw [e1, hk q (Nat.lt_of_lt_of_le h1 hS.1) h2]; exact hS.2.1 q h1 h2, fun q hq => by
    rcases List.mem_append.mp hq with h | h
    · exact hS.2.2 q h
    · exact hLf q h⟩ hL
  have e3 : g.1 - n0 + (g'.1 - g.1) = g'.1 - n0 := by omega
  have e4 : sl g.1 - sl n0 + (sl g'.1 - sl g.1) = sl g'.1 - sl n0 := by omega
  rw [e3, e4] at X'
  obtain ⟨t2, a1, b1⟩ := k2 T' rfl X'
  refine ⟨t2, stp t2 ?_, b1⟩
  have a2 : Steps p.tables e below (T'.setTop (F0 m (pc + 3) l9 ((v.toList ++ rest).map (mv ad)))) t2 := a1
  rw [← hg9] at a2
  exact a2
theorem PcM_blind (av : List PV) (h : PH) (g : PG) : FrameBlind (PcM base ad z cA D av h g) := fun _ _ _ _ q => ⟨q.1, q.2.1, KB.same rfl q.2.2.1, q.2.2.2⟩
theorem PcM_at {H : Heap} {locs : List Loc} (F : FO base ad z cA D p s m args meth c mi) (hH : HI base ad cA D H h g) (hS : va_S (ZA base) s.heap H locs) (av : List PV) : ∀ U : State, U.heap = H → s.WarmedH U.vm → PcM base ad z cA D av h g (av.map (mv ad)).toArray U := fun U hU hW => ⟨rfl, by rw [hU]; exact hH, KB.warm hW F.2.2.2.2.2.1 (fun a ha hn => by rw [hU]; exact hS.2.1 a ha hn), by rw [hU]; exact Nat.le_trans F.2.2.2.2.2.2.2.2.2.2 hS.1⟩
/-- a call of a static method -/
theorem s_callS {i m' b : Nat} {av rest : List PV} {v : Option PV} {h' : PH} {g' : PG} (F : FO base ad z cA D p s m args meth c mi) (hd : decode (mC mi) pc = .ok (.invokestatic i, 3)) (hm : mthT (mO mi) i = some (m', b)) (hK1 : mK m' = 1) (hav : av.length = mN m') (hst : st = av.reverse ++ rest) (hrest : pcats rest ≤ 8) (hF : mF m' + 1 ≤ R.frames) (hW : 8 + (mL m' + 11) + mW m' ≤ R.locals) (hle : n0 ≤ g.1) (hg : g.1 ≤ g'.1) (hgn : g'.1 ≤ nCell) (r1 : g'.1 - n0 ≤ R.cells) (r2 : sl g'.1 - sl n0 ≤ R.slots)
    (hM : Met l (mY m') (wsM m') (rmM m' (g'.1 - g.1) (sl g'.1 - sl g.1)) (PcM base ad z cA D av h g) (QcM base ad cA D v h' g') (g'.1 - g.1) (sl g'.1 - sl g.1) (ZA base)) (kk : WG base ad cA D n0 mi p l e R s m args below meth c Q (pc + 3, ls, v.toList ++ rest, h', g')) : WG base ad cA D n0 mi p l e R s m args below meth c Q (pc, ls, st, h, g) := fun H locs l9 hH hS hL => by
  have s1 := sl_mono hle hH.2.1
  have s2 := sl_mono hg hgn
  have q1 : g.1 - n0 + (g'.1 - g.1) ≤ R.cells := by omega
  have q2 : sl g.1 - sl n0 + (sl g'.1 - sl g.1) ≤ R.slots := by omega
  have q3 : av.length = mN m' - 1 ∨ mK m' = 1 := by omega
  obtain ⟨hm1, hm2, hm3⟩ := mthT_spec hm
  obtain ⟨w1, -, w3⟩ := mw_get hm1
  rw [if_pos hK1] at w1
  obtain ⟨d1, -, d3, -⟩ := md_get hm1
  rw [if_pos hK1] at d1
  have hstk : (F0 m pc l9 (st.map (mv ad))).stack = (av.map (mv ad)).reverse ++ rest.map (mv ad) := by
    show st.map (mv ad) = _
    rw [hst, List.map_append, List.map_reverse]
  refine s_back (g := g) (pc := pc) (a := (av.map (mv ad)).toArray) (g9 := F0 m pc l9 (st.map (mv ad))) (by cases v <;> rfl) hle hg s1 s2 ?_ hS hL kk
  by_cases hb : b = 1
  · obtain ⟨-, e9, he, he1, he2⟩ := hm2 hb
    have hn9 := F.2.2.2.2.2.1.1.2.2.1 e9 he he1
    rw [he2] at hn9
    exact va_runSN ⟨F.1, F.2.1, F.2.2.1, F.2.2.2.1, F.2.2.2.2.1⟩ hM ⟨va_cnB (mN m') F.2.2.2.2.1 (good_WB (wsM_in hm1)) rfl rfl rfl hn9 (F.2.2.2.2.1 _ w3) ⟨d3.1, d3.2, d1⟩ ⟨hF, hW⟩, F.2.2.2.2.1 _ w1, trivial⟩ ⟨PcM_blind av h g, PcM_at F hH hS av⟩ rfl (by rw [List.length_map]; exact hav) hL.1 hstk (lv_room (by rw [mv_cats]; exact hrest)) hd ⟨q1, q2⟩
  · exact va_runS ⟨F.1, F.2.1, F.2.2.1, F.2.2.2.1, F.2.2.2.2.1⟩ hM (va_cwS (mN m') F.2.2.2.2.1 (good_WB (fun w hw => by
      rcases List.mem_append.mp hw with hw | hw
      · simp only [List.mem_cons, List.not_mem_nil, or_false] at hw
        rcases hw with rfl | rfl | rfl
        · exact hm3 hb
        · exact w1
        · exact w3
      · exact wsM_in hm1 w hw)) rfl rfl rfl ⟨d3.1, d3.2, d1⟩ ⟨hF, hW⟩) ⟨PcM_blind av h g, PcM_at F hH hS av⟩ rfl (by rw [List.length_map]; exact hav) hL.1 hstk (lv_room (by rw [mv_cats]; exact hrest)) hd ⟨q1, q2⟩
/-- a call of a constructor -/
theorem s_callI {i m' b : Nat} {a : Int} {av rest : List PV} {v : Option PV} {h' : PH} {g' : PG} (F : FO base ad z cA D p s m args meth c mi) (hd : decode (mC mi) pc = .ok (.invokespecial i, 3)) (hm : mthT (mO mi) i = some (m', b)) (hK1 : mK m' = 2) (hav : av.length + 1 = mN m') (hst : st = av.reverse ++ .inr (.inr a) :: rest) (hrest : pcats rest ≤ 8) (hF : mF m' + 1 ≤ R.frames) (hW : 8 + (mL m' + 11) + mW m' ≤ R.locals) (hle : n0 ≤ g.1) (hg : g.1 ≤ g'.1) (hgn : g'.1 ≤ nCell) (r1 : g'.1 - n0 ≤ R.cells) (r2 : sl g'.1 - sl n0 ≤ R.slots)
    (hM : Met l (mY m') (wsM m') (rmM m' (g'.1 - g.1) (sl g'.1 - sl g.1)) (PcM base ad z cA D (.inr (.inr a) :: av) h g) (QcM base ad cA D v h' g') (g'.1 - g.1) (sl g'.1 - sl g.1) (ZA base)) (kk : WG base ad cA D n0 mi p l e R s m args below meth c Q (pc + 3, ls, v.toList ++ rest, h', g')) : WG base ad cA D n0 mi p l e R s m args below meth c Q (pc, ls, st, h, g) := fun H locs l9 hH hS hL => by
  have s1 := sl_mono hle hH.2.1
  have s2 := sl_mono hg hgn
  have q1 : g.1 - n0 + (g'.1 - g.1) ≤ R.cells := by omega
  have q2 : sl g.1 - sl n0 + (sl g'.1 - sl g.1) ≤ R.slots := by omega
  have q3 : av.length = mN m' - 1 ∨ mK m' = 1 := by omega
  obtain ⟨hm1, hm2, hm3⟩ := mthT_spec hm
  obtain ⟨w1, -, w3⟩ := mw_get hm1
  rw [if_neg (by omega)] at w1
  obtain ⟨d1, -, d3, -, -, d6, d7⟩ := md_get hm1
  rw [if_neg (by omega)] at d1
  have hini := d6.mp hK1
  have hret := d7 hK1
  have hww : wsM m' = Cond.code (mY m') (mC m') (mL m') none :: WB := by rw [← hret]; rfl
  have hstk : (F0 m pc l9 (st.map (mv ad))).stack = (av.map (mv ad)).reverse ++ .ref (ad a) :: rest.map (mv ad) := by
    show st.map (mv ad) = _
    rw [hst, List.map_append, List.map_reverse]
    rfl
  refine s_back (g := g) (pc := pc) (a := (((.inr (.inr a)) :: av).map (mv ad)).toArray) (g9 := F0 m pc l9 (st.map (mv ad))) (by cases v <;> rfl) hle hg s1 s2 ?_ hS hL kk
  by_cases hb : b = 1
  · obtain ⟨-, e9, he, he1, he2⟩ := hm2 hb
    have hn9 := F.2.2.2.2.2.1.1.2.2.1 e9 he he1
    rw [he2] at hn9
    exact va_runIN (As := av.map (mv ad)) (b := ad a) ⟨F.1, F.2.1, F.2.2.1, F.2.2.2.1, F.2.2.2.2.1⟩ hM ⟨va_cnB (mN m' - 1) F.2.2.2.2.1 (good_WB (wsM_in hm1)) hww rfl rfl hn9 (F.2.2.2.2.1 _ w3) ⟨d3.1, d3.2, d1⟩ ⟨hF, hW⟩, hini, F.2.2.2.2.1 _ w1⟩ ⟨PcM_blind _ h g, PcM_at F hH hS _⟩ rfl (by rw [List.length_map]; exact q3.resolve_right (fun q => by rw [hK1] at q; cases q)) hL.1 hstk (lv_room (by rw [mv_cats]; exact hrest)) hd ⟨q1, q2⟩
  · exact va_runI (As := av.map (mv ad)) (b := ad a) ⟨F.1, F.2.1, F.2.2.1, F.2.2.2.1, F.2.2.2.2.1⟩ hM (cwI (mN m' - 1) F.2.2.2.2.1 (good_WB (wsM_in hm1)) hww rfl rfl (F.2.2.2.2.1 _ w3) (F.2.2.2.2.1 _ (hm3 hb)) (F.2.2.2.2.1 _ w1) hini ⟨d3.1, d3.2, d1⟩ ⟨hF, hW⟩) ⟨PcM_blind _ h g, PcM_at F hH hS _⟩ rfl (by rw [List.length_map]; exact q3.resolve_right (fun q => by rw [hK1] at q; cases q)) hL.1 hstk (lv_room (by rw [mv_cats]; exact hrest)) hd ⟨q1, q2⟩
/-- a call of an object's method -/
theorem s_callV {i m' b : Nat} {a : Int} {av rest : List PV} {v : Option PV} {h' : PH} {g' : PG} (F : FO base ad z cA D p s m args meth c mi) (hd : decode (mC mi) pc = .ok (.invokevirtual i, 3)) (hm : mthT (mO mi) i = some (m', b)) (hK1 : mK m' = 0) (hrc : isRecv a m' g.1 = true) (hav : av.length + 1 = mN m') (hst : st = av.reverse ++ .inr (.inr a) :: rest) (hrest : pcats rest ≤ 8) (hF : mF m' + 1 ≤ R.frames) (hW : 8 + (mL m' + 11) + mW m' ≤ R.locals) (hle : n0 ≤ g.1) (hg : g.1 ≤ g'.1) (hgn : g'.1 ≤ nCell) (r1 : g'.1 - n0 ≤ R.cells) (r2 : sl g'.1 - sl n0 ≤ R.slots)
    (hM : Met l (mY m') (wsM m') (rmM m' (g'.1 - g.1) (sl g'.1 - sl g.1)) (PcM base ad z cA D (.inr (.inr a) :: av) h g) (QcM base ad cA D v h' g') (g'.1 - g.1) (sl g'.1 - sl g.1) (ZA base)) (kk : WG base ad cA D n0 mi p l e R s m args below meth c Q (pc + 3, ls, v.toList ++ rest, h', g')) : WG base ad cA D n0 mi p l e R s m args below meth c Q (pc, ls, st, h, g) := fun H locs l9 hH hS hL => by
  have s1 := sl_mono hle hH.2.1
  have s2 := sl_mono hg hgn
  have q1 : g.1 - n0 + (g'.1 - g.1) ≤ R.cells := by omega
  have q2 : sl g.1 - sl n0 + (sl g'.1 - sl g.1) ≤ R.slots := by omega
  have q3 : av.length = mN m' - 1 ∨ mK m' = 1 := by omega
  obtain ⟨hm1, hm2, hm3⟩ := mthT_spec hm
  obtain ⟨w1, w2, w3⟩ := mw_get hm1
  rw [if_neg (by omega)] at w1
  have w2 := w2 hK1
  obtain ⟨d1, -, d3, -, d5, -⟩ := md_get hm1
  rw [if_neg (by omega)] at d1
  have hb : ¬ b = 1 := fun hb => (hm2 hb).1 hK1
  have hstk : (F0 m pc l9 (st.map (mv ad))).stack = (av.map (mv ad)).reverse ++ .ref (ad a) :: rest.map (mv ad) := by
    show st.map (mv ad) = _
    rw [hst, List.map_append, List.map_reverse]
    rfl
  have hrecv : ∃ cell : Cell, H[ad a]? = some cell ∧ cell.vm.isStatics = false ∧ s.vm.findClass (mY m').cls = some cell.cls := by
    unfold isRecv at hrc
    simp only [Bool.or_eq_true, Bool.and_eq_true, decide_eq_true_eq] at hrc
    rw [d5]
    rcases hrc with ⟨h9, ho⟩ | ⟨h12, ha1, ha2⟩
    · obtain ⟨r, hr, hrd, -⟩ := cl_get h9
      have q := va_recv (s_FO.K F) hH.2.2 hr (WS_at ho (cellE_O ho h9))
      rw [own_cl h9, hrd]
      exact q
    · have q := (F.2.2.2.2.2.1.2.1.2.2.2.2.2.2 (a - 1010).toNat (by omega)).1.kept hS.2.1
      obtain ⟨cell, q1, q2, q3, -⟩ := q
      rw [show (1010 : Int) + ((a - 1010).toNat : Int) = a by omega] at q1
      exact ⟨cell, q1, q2, by rw [h12]; exact q3⟩
  refine s_back (g := g) (pc := pc) (a := (((.inr (.inr a)) :: av).map (mv ad)).toArray) (g9 := F0 m pc l9 (st.map (mv ad))) (by cases v <;> rfl) hle hg s1 s2 ?_ hS hL kk
  exact va_runV (C := (mY m').cls) (As := av.map (mv ad)) (b := ad a) ⟨F.1, F.2.1, F.2.2.1, F.2.2.2.1, F.2.2.2.2.1⟩ hM (cwV (mN m' - 1) F.2.2.2.2.1 (good_WB (fun w hw => by
      rcases List.mem_append.mp hw with hw | hw
      · simp only [List.mem_cons, List.not_mem_nil, or_false] at hw
        rcases hw with rfl | rfl | rfl | rfl
        · exact hm3 hb
        · exact w1
        · exact w2
        · exact w3
      · exact wsM_in hm1 w hw)) rfl rfl rfl ⟨rfl, d3.1, d3.2, d1⟩ ⟨hF, hW⟩) ⟨PcM_blind _ h g, hrecv, PcM_at F hH hS _⟩ rfl (by rw [List.length_map]; exact q3.resolve_right (fun q => by rw [hK1] at q; cases q)) hL.1 hstk (lv_room (by rw [mv_cats]; exact hrest)) hd ⟨q1, q2⟩

end FRF
