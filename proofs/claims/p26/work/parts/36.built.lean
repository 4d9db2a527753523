/-! ===== a frame of method mi at a place of the plain machine: what is built in ===== -/
theorem blt_all : bltL.all (fun e => decide (lw_tbl[e.2.2.2]? = some (.methodLink (oN e.1) e.2.1 (if e.2.2.1 = 1 then objectInit else if e.2.2.1 = 2 then arraycopyName else if e.2.2.1 = 3 then yJ0_checkIndex_df160 else Lib.Math.max.name)))) = true := by decide +kernel
theorem bltT_spec {o i b : Nat} (h : bltT o i = some b) : Cond.methodLink (oN o) i (if b = 1 then objectInit else if b = 2 then arraycopyName else if b = 3 then yJ0_checkIndex_df160 else Lib.Math.max.name) ∈ WB := by
  unfold bltT at h
  cases hf : bltL.find? (fun e => e.1 == o && e.2.1 == i) with
  | none => rw [hf] at h; cases h
  | some e =>
    rw [hf] at h
    cases h
    have h1 := List.mem_of_find?_eq_some hf
    have h2 := List.find?_some hf
    simp only [Bool.and_eq_true, beq_iff_eq] at h2
    have h3 := List.all_eq_true.mp blt_all e h1
    simp only [decide_eq_true_eq] at h3
    rw [h2.1, h2.2] at h3
    exact WB_in h3 rfl
theorem good_WB {ws : List Cond} (h : ∀ w ∈ ws, w ∈ WB) : GoodIn WB ws := fun w hw => ⟨h w hw, good_of_word (List.mem_filter.mp (h w hw)).2⟩
/-- the checks of an index, inside the JDK -/
def ws_pc : List Cond := [.code yJ3_checkIndex_8e157 cJ3_checkIndex_8e157 3 (some .int)]
def ws_ci : List Cond := [.code yJ0_checkIndex_df160 cJ0_checkIndex_df160 2 none, .fieldLink RJ0 1053 "jdk/internal/util/Preconditions" "SIOOBE_FORMATTER" "Ljava/util/function/BiFunction;", .methodLink RJ0 1059 yJ3_checkIndex_8e157, .static yJ3_checkIndex_8e157, .initialized RJ3, .code yJ3_checkIndex_8e157 cJ3_checkIndex_8e157 3 (some .int)]
def Same (oc : Option Value) : Array Value → State → Outcome → State → Prop := fun _ st o t => o = .returned oc ∧ t.heap = st.heap
theorem c_pc (l : Launch) (i n : Int32) (v : Value) (hv : v.category = 1) (h0 : ¬ i < 0) (h1 : i < n) : Met l yJ3_checkIndex_8e157 ws_pc ({ frames := 0, cells := 0, slots := 0, locals := 0 }) (va_Pc [.int i, .int n, v] (fun _ => True)) (Same (some (.int i))) 0 0 (fun _ => False) := by
  refine Met.ofW (cc := cJ3_checkIndex_8e157) (maxL := 3) (ret := some .int) (by decide) rfl ?_
  intro p e s m args below meth c s₁ B hml hv9
  obtain ⟨rfl, -⟩ := hv9
  have hx := B.exec
  have hb := B.bytes
  have hr := B.returns
  have hlocks := B.notSynchronized
  have hl := lv_entry ([.int i, .int n, v]) (n := 3) (by cases v <;> simp_all [lg_sl, Value.category])
  rw [lg_entry_eq]
  generalize (lg_sl ([.int i, .int n, v]) ++ List.replicate (3 - (lg_sl ([.int i, .int n, v])).length) Slot.unset).toArray = ls at hl ⊢
  have g0 : ls[0]? = some (.val (.int i)) := lv_at hl 0 rfl
  have g1 : ls[1]? = some (.val (.int n)) := lv_at hl 1 rfl
  refine lv_iload_n hx hb (k := 0) (by decide +kernel) rfl g0 ?_
  refine lv_if_lt hx hb (tgt := 9) (off := 8) (by decide +kernel) (by decide) (fun q => absurd q h0) (fun _ => ?_)
  refine lv_iload_n hx hb (k := 0) (by decide +kernel) rfl g0 ?_
  refine lv_iload_n hx hb (k := 1) (by decide +kernel) rfl g1 ?_
  refine lv_icmp_lt hx hb (tgt := 16) (off := 10) (by decide +kernel) (by decide) (fun _ => ?_) (fun q => absurd h1 q)
  refine lv_iload_n hx hb (k := 0) (by decide +kernel) rfl g0 ?_
  exact W.iret hx hb hr (fun t ht _ => ⟨rfl, ht⟩) (fun _ h => by cases h) (by decide +kernel)
theorem c_ci (l : Launch) (A : Nat → Prop) (i n : Int32) (h0 : ¬ i < 0) (h1 : i < n) : Met l yJ0_checkIndex_df160 ws_ci ({ frames := 1, cells := 0, slots := 0, locals := 22 }) (va_Pc [.int i, .int n] (fun U => va_Zq "jdk/internal/util/Preconditions" "SIOOBE_FORMATTER" "Ljava/util/function/BiFunction;" A U U.heap)) (Same none) 0 0 (fun _ => False) := by
  refine Met.ofW (cc := cJ0_checkIndex_df160) (maxL := 2) (ret := none) (by decide) rfl ?_
  intro p e s m args below meth c s₁ B hml hv9
  obtain ⟨rfl, hZ⟩ := hv9
  have hx := B.exec
  have hb := B.bytes
  have hr := B.returns
  have hts := atoms_spec (ws := ws_ci) B.pre
  have hown : s.vm.findClass RJ0 = some m.cls := findClass_of_methodNamed B.named
  have hlocks := B.notSynchronized
  have hl := lv_entry ([.int i, .int n]) (n := 2) (Nat.le_of_ble_eq_true rfl)
  rw [lg_entry_eq]
  generalize (lg_sl ([.int i, .int n]) ++ List.replicate (2 - (lg_sl ([.int i, .int n])).length) Slot.unset).toArray = ls at hl ⊢
  have g0 : ls[0]? = some (.val (.int i)) := lv_at hl 0 rfl
  have g1 : ls[1]? = some (.val (.int n)) := lv_at hl 1 rfl
  have key : ∀ v : Value, v.category = 1 → va_Z "jdk/internal/util/Preconditions" "SIOOBE_FORMATTER" "Ljava/util/function/BiFunction;" v A s s.heap → W p l e (headSpec ws_ci ({ frames := 1, cells := 0, slots := 0, locals := 22 })).room s m ([.int i, .int n] : List Value).toArray below meth c s.heap [] 0 0 (MQ below (Same none) ([.int i, .int n] : List Value).toArray s 0 0 (fun _ => False)) (F0 m 0 ls []) := by
    intro v hc hZ9
    refine lv_iload_n hx hb (k := 0) (by decide +kernel) rfl g0 ?_
    refine lv_iload_n hx hb (k := 1) (by decide +kernel) rfl g1 ?_
    refine va_gets hx hb (index := 1053) hZ9 va_S.rf hown (hts (.fieldLink RJ0 1053 "jdk/internal/util/Preconditions" "SIOOBE_FORMATTER" "Ljava/util/function/BiFunction;") (by simp [ws_ci])) (fun _ h => h) (by decide +kernel) ?_
    have hG : GoodIn ws_ci (va_wsS RJ0 1059 yJ3_checkIndex_8e157 ws_pc) := goodIn_of _ (by decide +kernel)
    intro T hT X
    obtain ⟨v9, st₀, t, T', L, q0, X', hL, e1, e2, hq, stp⟩ := va_runS (index := 1059) (As := [.int i, .int n, v]) (rest := []) ⟨hx, hb, hml, hown, hts⟩ (c_pc l i n v hc h0 h1) (va_cwS 3 hts hG rfl rfl rfl (by decide +kernel) ⟨Nat.le_of_ble_eq_true rfl, Nat.le_of_ble_eq_true rfl⟩) ⟨fun _ _ _ _ h => h, fun U hU hW => ⟨rfl, trivial⟩⟩ rfl rfl hl.1 rfl (lv_room (Nat.le_of_ble_eq_true rfl)) (g := F0 m (0 + 1 + 1 + 3) ls [v, .int n, .int i]) (show decode cJ0_checkIndex_df160 5 = _ from by decide +kernel) ⟨Nat.le_of_ble_eq_true rfl, Nat.le_of_ble_eq_true rfl⟩ T hT X
    obtain ⟨hq1, hq2⟩ := hq
    cases hq1
    have hL0 : L = [] := by
      cases L with
      | nil => rfl
      | cons a b => exact (hL a List.mem_cons_self).elim
    subst hL0
    have k : W p l e (headSpec ws_ci ({ frames := 1, cells := 0, slots := 0, locals := 22 })).room s m ([.int i, .int n] : List Value).toArray below meth c s.heap [] 0 0 (MQ below (Same none) ([.int i, .int n] : List Value).toArray s 0 0 (fun _ => False)) (F0 m 8 ls [.int i]) := by
      refine lv_pop hx hb (by decide +kernel) rfl ?_
      exact W.vret hx hb hr (fun t ht _ => ⟨rfl, ht⟩) (fun _ h => by cases h) (by decide +kernel)
    obtain ⟨t2, a1, b1⟩ := k T' (by rw [e1, hq2, q0]) X'
    exact ⟨t2, stp t2 a1, b1⟩
  rcases hZ with h | ⟨t, h⟩
  · exact key .null rfl h
  · exact key (.ref t) rfl h
section FRE
variable {base : Nat} {ad : Int → Nat} {z : Int → Int} {cA : Nat → ClassId} {D : va_G} {n0 mi : Nat} {p : Program} {l : Launch} {e : Env} {R : Room} {s : State} {m : MethodId} {args : Array Value} {below : List Frame} {meth : Method} {c : Code} {Q : State → Prop}
variable {pc : Nat} {ls : PL} {st : List PV} {h : PH} {g : PG}
theorem s_objInit {a : Int} {i : Nat} (F : FO base ad z cA D p s m args meth c mi) (hd : decode (mC mi) pc = .ok (.invokespecial i, 3)) (hb9 : bltT (mO mi) i = some 1) (hF : 3 ≤ R.frames) (hW : 100 ≤ R.locals) (hst : pcats st ≤ 8) (k : WG base ad cA D n0 mi p l e R s m args below meth c Q (pc + 3, ls, st, h, g)) : WG base ad cA D n0 mi p l e R s m args below meth c Q (pc, ls, .inr (.inr a) :: st, h, g) := fun H locs l9 hH hS hL => by
  have h9 := F.2.2.2.2.1 _ (bltT_spec hb9)
  rw [if_pos rfl] at h9
  exact W.objInit F.1 F.2.1 F.2.2.2.1 h9 (F.2.2.2.2.1 _ (WB_in (i := pw_oiInst) (w := .instanceMethod objectInit) (by decide +kernel) rfl)) (F.2.2.2.2.1 _ (WB_in (i := pw_oiCode) (w := .code objectInit ⟨#[0xb1]⟩ 1 none) rfl rfl)) rfl (by rw [F.2.2.1]; exact hL.1) rfl hd (by omega) (by rw [mv_cats]; show 2 * 0 + _ + 12 ≤ _; omega) (k H locs l9 hH hS hL)
theorem s_max {x y : Int} {i : Nat} (F : FO base ad z cA D p s m args meth c mi) (hd : decode (mC mi) pc = .ok (.invokestatic i, 3)) (hb9 : bltT (mO mi) i = some 4) (hF : 3 ≤ R.frames) (hW : 100 ≤ R.locals) (hst : pcats st ≤ 8) (hc : g.1 - n0 ≤ R.cells) (hs9 : sl g.1 - sl n0 ≤ R.slots) (k : WG base ad cA D n0 mi p l e R s m args below meth c Q (pc + 3, ls, .inl (if w32 x < w32 y then y else x) :: st, h, g)) : WG base ad cA D n0 mi p l e R s m args below meth c Q (pc, ls, .inl y :: .inl x :: st, h, g) := fun H locs l9 hH hS hL => by
  have h9 := F.2.2.2.2.1 _ (bltT_spec hb9)
  rw [if_neg (by decide), if_neg (by decide), if_neg (by decide)] at h9
  have k2 := k H locs l9 hH hS hL
  refine va_mmax F.1 F.2.1 (by rw [F.2.2.1]; exact hL.1.symm) F.2.2.2.1 h9 (F.2.2.2.2.1 _ (WB_in (i := pw_mxStatic) (w := .static Lib.Math.max.name) (by decide +kernel) rfl)) (F.2.2.2.2.1 _ (WB_in (i := pw_mxInit) (w := .initialized "java/lang/Math") (by decide +kernel) rfl)) (F.2.2.2.2.1 _ (WB_in (i := pw_mxCode) (w := .code Lib.Math.max.name Lib.Math.max.code 2 (some .int)) (by decide +kernel) rfl)) (by omega) (by rw [mv_cats]; omega) hc hs9 hd ?_
  by_cases q : w32 x < w32 y
  · rw [if_pos ((e_lt x y).mpr q)]
    rw [if_pos q] at k2
    exact k2
  · rw [if_neg (fun q2 => q ((e_lt x y).mp q2))]
    rw [if_neg q] at k2
    exact k2
set_option maxRecDepth 1000000 in
theorem s_chk {x y : Int} {i : Nat} (F : FO base ad z cA D p s m args meth c mi) (hd : decode (mC mi) pc = .ok (.invokestatic i, 3)) (hb9 : bltT (mO mi) i = some 3) (hF : 3 ≤ R.frames) (hW : 100 ≤ R.locals) (hst : pcats st ≤ 8) (hc : g.1 - n0 ≤ R.cells) (hs9 : sl g.1 - sl n0 ≤ R.slots) (h0 : 0 ≤ w32 x) (h1 : w32 x < w32 y) (k : WG base ad cA D n0 mi p l e R s m args below meth c Q (pc + 3, ls, st, h, g)) : WG base ad cA D n0 mi p l e R s m args below meth c Q (pc, ls, .inl y :: .inl x :: st, h, g) := fun H locs l9 hH hS hL => by
  have h9 := F.2.2.2.2.1 _ (bltT_spec hb9)
  rw [if_neg (by decide), if_neg (by decide), if_pos rfl] at h9
  have w1 : Cond.static yJ0_checkIndex_df160 ∈ WB := WB_in (i := pw_ciStatic) (by decide +kernel) rfl
  have w2 : Cond.initialized RJ0 ∈ WB := WB_in (i := pw_stInit) (by decide +kernel) rfl
  have w3 : ∀ w ∈ ws_ci, w ∈ WB := by
    intro w hw
    simp only [ws_ci, List.mem_cons, List.not_mem_nil, or_false] at hw
    rcases hw with rfl | rfl | rfl | rfl | rfl | rfl
    · exact WB_in (i := pw_ciCode) rfl rfl
    · exact WB_in (i := pw_siLink) (by decide +kernel) rfl
    · exact WB_in (i := pw_pcLink) (by decide +kernel) rfl
    · exact WB_in (i := pw_pcStatic) (by decide +kernel) rfl
    · exact WB_in (i := pw_pcInit) (by decide +kernel) rfl
    · exact WB_in (i := pw_pcCode) rfl rfl
  have hG : GoodIn WB (va_wsS (oN (mO mi)) i yJ0_checkIndex_df160 ws_ci) := good_WB (fun w hw => by
    rcases List.mem_append.mp hw with hw | hw
    · simp only [List.mem_cons, List.not_mem_nil, or_false] at hw
      rcases hw with rfl | rfl | rfl
      · exact bltT_spec hb9
      · exact w1
      · exact w2
    · exact w3 w hw)
  intro T hT X
  obtain ⟨v9, st₀, t, T', L, q0, X', hL9, e1, e2, hq, stp⟩ := va_runS (index := i) (As := [.int (Int32.ofInt x), .int (Int32.ofInt y)]) (rest := st.map (mv ad)) ⟨F.1, F.2.1, F.2.2.1, F.2.2.2.1, F.2.2.2.2.1⟩ (c_ci l (ZA base) (Int32.ofInt x) (Int32.ofInt y) (e_nneg h0) ((e_lt x y).mpr h1)) (va_cwS 2 F.2.2.2.2.1 hG rfl rfl rfl (by decide +kernel) ⟨by show 1 + 1 ≤ _; omega, by show 8 + (2 + 11) + 22 ≤ _; omega⟩)
    ⟨fun a U g9 mk q => ⟨q.1, va_Zq.moved (u := U) (U := U.calling g9 mk a) (Vm.Alike.refl U.vm) q.2⟩, fun U hU hW => ⟨rfl, (F.2.2.2.2.2.1.2.1.2.2.2.1.moved hW.alike).kept (fun a ha hn => by rw [hU]; exact hS.2.1 a ha hn)⟩⟩ rfl rfl hL.1 rfl (lv_room (by rw [mv_cats]; exact hst)) (g := F0 m pc l9 (.int (Int32.ofInt y) :: .int (Int32.ofInt x) :: st.map (mv ad))) hd ⟨by show g.1 - n0 + 0 ≤ _; omega, by show sl g.1 - sl n0 + 0 ≤ _; omega⟩ T hT X
  obtain ⟨hq1, hq2⟩ := hq
  cases hq1
  have hL0 : L = [] := by
    cases L with
    | nil => rfl
    | cons a b => exact (hL9 a List.mem_cons_self).elim
  subst hL0
  rw [List.append_nil] at X'
  obtain ⟨t2, a1, b1⟩ := k H locs l9 hH hS hL T' (by rw [e1, hq2, q0]) X'
  exact ⟨t2, stp t2 a1, b1⟩
theorem s_copy {a b i j n : Int} {q : Nat} (F : FO base ad z cA D p s m args meth c mi) (hd : decode (mC mi) pc = .ok (.invokestatic q, 3)) (hb9 : bltT (mO mi) q = some 2) (hF : 3 ≤ R.frames) (hW : 100 ≤ R.locals) (hst : pcats st ≤ 8) (ha : isO a 10 g.1 = true) (hb : isO b 10 g.1 = true) (hi : 0 ≤ w32 i) (hj : 0 ≤ w32 j) (hn : 0 ≤ w32 n) (h1 : w32 i + w32 n ≤ alen a) (h2 : w32 j + w32 n ≤ alen b)
    (k : WG base ad cA D n0 mi p l e R s m args below meth c Q (pc + 3, ls, st, cpyH h a (w32 i) b (w32 j) (w32 n), g)) : WG base ad cA D n0 mi p l e R s m args below meth c Q (pc, ls, .inl n :: .inl j :: .inr (.inr b) :: .inl i :: .inr (.inr a) :: st, h, g) := fun H locs l9 hH hS hL => by
  have h9 := F.2.2.2.2.1 _ (bltT_spec hb9)
  rw [if_neg (by decide), if_pos rfl] at h9
  have had : AdOK base ad := F.2.2.2.2.2.2.2.2.2.1
  have hK := s_FO.K F
  have c0 := hH.2.2 a.toNat _ (WS_at ha (cellE_I ha))
  have c1 := hH.2.2 b.toNat _ (WS_at hb (cellE_I hb))
  intro T hT X
  have hc0 : H[ad a]? = some (vp_cell (cA 0) (alen a, .inl (fun j => Int32.ofInt (h a j)))) := c0
  have hc1 : H[ad b]? = some (vp_cell (cA 0) (alen b, .inl (fun j => Int32.ofInt (h b j)))) := c1
  obtain ⟨-, k0, hk0, cm0, hkk0⟩ := (hK.2 0 _ rfl).1 (alen a) (fun j => .int (Int32.ofInt (h a j)))
  obtain ⟨-, k1, hk1, cm1, hkk1⟩ := (hK.2 0 _ rfl).1 (alen b) (fun j => .int (Int32.ofInt (h b j)))
  have ei : (Int32.ofInt i).toNatClampNeg = (w32 i).toNat := e_clamp i
  have ej : (Int32.ofInt j).toNatClampNeg = (w32 j).toNat := e_clamp j
  have en : (Int32.ofInt n).toNatClampNeg = (w32 n).toNat := e_clamp n
  obtain ⟨vm', X', step⟩ := X.arraycopy F.1 F.2.2.2.1 h9 (F.2.2.2.2.1 _ (WB_in (i := pw_acNative) (w := .native arraycopyName) (by decide +kernel) rfl)) (F.2.2.2.2.1 _ (WB_in (i := pw_acStatic) (w := .static arraycopyName) (by decide +kernel) rfl)) (F.2.2.2.2.1 _ (WB_in (i := pw_acInit) (w := .initialized "java/lang/System") (by decide +kernel) rfl)) (src := ad a) (dst := ad b) (cs := vp_cell (cA 0) (alen a, .inl (fun j => Int32.ofInt (h a j)))) (cd := vp_cell (cA 0) (alen b, .inl (fun j => Int32.ofInt (h b j)))) (srcPos := Int32.ofInt i) (destPos := Int32.ofInt j) (n := Int32.ofInt n) (by rw [hT]; exact hc0) (by rw [hT]; exact hc1)
    (fun _ h => by cases h) (fun _ h => by cases h) (fun h => by cases h) (fun h => by cases h) hk0 hk1 hkk0 hkk1 (by simp [refKind]) (e_nneg hi) (e_nneg hj) (e_nneg hn)
    (by show ¬ w32 i + w32 n > ((arrV (cA 0) (alen a) _).slots.size : Int); rw [arrV_size]; omega)
    (by show ¬ w32 j + w32 n > ((arrV (cA 0) (alen b) _).slots.size : Int); rw [arrV_size]; omega)
    (fun vm₁ _ x hx => by
      rw [en] at hx
      have e9 : (vp_cell (cA 0) (alen a, .inl (fun j => Int32.ofInt (h a j)))).slots.getD ((Int32.ofInt i).toNatClampNeg + x) .null = .int (Int32.ofInt (h a (((Int32.ofInt i).toNatClampNeg + x : Nat) : Int))) := by
        show (arrV (cA 0) (alen a) (fun j => .int (Int32.ofInt (h a j)))).slots.getD _ _ = _
        rw [Array.getD_eq_getD_getElem?, arrV_read _ _ (by rw [ei]; omega)]
        rfl
      refine ⟨?_, ?_⟩
      · rw [e9]
        rfl
      · rw [e9]
        exact trivial)
    (g := F0 m pc l9 (.int (Int32.ofInt n) :: .int (Int32.ofInt j) :: .ref (ad b) :: .int (Int32.ofInt i) :: .ref (ad a) :: st.map (mv ad))) rfl (by rw [F.2.2.1]; exact hL.1) (rest := st.map (mv ad)) rfl (by rw [F.2.1]; exact hd) (by omega) (by rw [mv_cats, show nativeFrameWords "java/lang/System" "arraycopy" 5 = 7 from by decide]; show 2 * 0 + _ + (7 + 11) ≤ _; omega)
  have e1 : copied (vp_cell (cA 0) (alen a, .inl (fun j => Int32.ofInt (h a j)))) (vp_cell (cA 0) (alen b, .inl (fun j => Int32.ofInt (h b j)))) (Int32.ofInt i) (Int32.ofInt j) (Int32.ofInt n) = vp_cell (cA 0) (alen b, .inl (va_cpy (fun j : Nat => Int32.ofInt (h a j)) (fun j : Nat => Int32.ofInt (h b j)) (Int32.ofInt i).toNatClampNeg (Int32.ofInt j).toNatClampNeg (Int32.ofInt n).toNatClampNeg)) := va_copied (fun z : Int32 => Value.int z) (cA 0) (cA 0) (fun j : Nat => Int32.ofInt (h a j)) (fun j : Nat => Int32.ofInt (h b j)) (by rw [ei, en]; omega)
  have e2 : va_cpy (fun j : Nat => Int32.ofInt (h a j)) (fun j : Nat => Int32.ofInt (h b j)) (Int32.ofInt i).toNatClampNeg (Int32.ofInt j).toNatClampNeg (Int32.ofInt n).toNatClampNeg = (fun x : Nat => Int32.ofInt (cpyH h a (w32 i) b (w32 j) (w32 n) b x)) := by
    funext x
    unfold va_cpy cpyH
    rw [ei, ej, en, if_pos rfl]
    by_cases q9 : (w32 j).toNat ≤ x ∧ x < (w32 j).toNat + (w32 n).toNat
    · rw [if_pos q9, if_pos (by omega)]
      refine congrArg (fun y => Int32.ofInt (h a y)) ?_
      omega
    · rw [if_neg q9, if_neg (by omega)]
  rw [e2] at e1
  rw [e1] at X' step
  have hl : ad b < H.size := (Array.getElem?_eq_some_iff.mp hc1).1
  have hheap : ((T.setVm vm').setCell (ad b) (vp_cell (cA 0) (alen b, .inl (fun x : Nat => Int32.ofInt (cpyH h a (w32 i) b (w32 j) (w32 n) b x))))).heap = H.setIfInBounds (ad b) (vp_cell (cA 0) (alen b, .inl (fun x : Nat => Int32.ofInt (cpyH h a (w32 i) b (w32 j) (w32 n) b x)))) := by rw [← hT]; rfl
  have oq : ∀ q : Nat, q ≠ ad b → (H.setIfInBounds (ad b) (vp_cell (cA 0) (alen b, .inl (fun x : Nat => Int32.ofInt (cpyH h a (w32 i) b (w32 j) (w32 n) b x)))))[q]? = H[q]? := fun q hq => by simp [Array.getElem?_setIfInBounds, Ne.symm hq]
  have ea : ad ((b.toNat : Nat) : Int) = ad b := by rw [(isO_spec hb).2.2.1]
  have hA := ad_A had hb hH.2.1
  obtain ⟨t, a1, b1⟩ := k _ _ l9 (HI_set had hH (h' := cpyH h a (w32 i) b (w32 j) (w32 n)) (g' := g) (a := b.toNat) (H1 := H.setIfInBounds (ad b) (vp_cell (cA 0) (alen b, .inl (fun x : Nat => Int32.ofInt (cpyH h a (w32 i) b (w32 j) (w32 n) b x))))) (isO_spec hb).2.1 rfl (fun x _ hx => cellE_congr (fun y => by unfold cpyH; rw [if_neg (ne_of_toNat (isO_spec hb).1 hx)]) (fun _ => rfl)) (by
      rw [cellE_I hb, ea]
      show (H.setIfInBounds (ad b) _)[ad b]? = some _
      simp [Array.getElem?_setIfInBounds, hl]) (by simp) (by rw [ea]; exact oq)) ⟨by simp; exact hS.1, fun q g1 g2 => by
      rw [oq q (fun e => g2 (by rw [e]; exact hA))]
      exact hS.2.1 q g1 g2, fun q hq => by
      rcases List.mem_append.mp hq with h | h
      · exact hS.2.2 q h
      · obtain ⟨z, -, hz⟩ := List.mem_map.mp h
        rw [← hz]
        exact hA⟩ hL _ hheap X'
  exact ⟨t, step t a1, b1⟩

end FRE
