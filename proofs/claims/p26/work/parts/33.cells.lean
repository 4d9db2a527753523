/-! ===== a frame of method mi at a place of the plain machine: the cells ===== -/
theorem isO_spec {a : Int} {k n : Nat} (h : isO a k n = true) : 0 ≤ a ∧ a.toNat < n ∧ ((a.toNat : Nat) : Int) = a ∧ (sid a).1 = k := by
  unfold isO at h
  simp only [Bool.and_eq_true, decide_eq_true_eq] at h
  obtain ⟨h0, h1, h2⟩ := h
  exact ⟨h0, by omega, by omega, h2⟩
theorem sid_eq {a : Int} {k : Nat} (h : (sid a).1 = k) (hk : k ≠ 99) : a < 1000 ∧ sid a = shL.getD a.toNat (99, 0) := by
  unfold sid at h ⊢
  by_cases q : 0 ≤ a ∧ a < 1000
  · rw [if_pos q]; exact ⟨q.2, rfl⟩
  · rw [if_neg q] at h; exact absurd h.symm hk
theorem isO_sh {a : Int} {k n : Nat} (h : isO a k n = true) (hk : k ≠ 99) : (shL.getD a.toNat (99, 0)).1 = k ∧ (shL.getD a.toNat (99, 0)).2 = alen a := by
  obtain ⟨-, -, -, h3⟩ := isO_spec h
  obtain ⟨-, e⟩ := sid_eq h3 hk
  unfold alen
  rw [e] at h3
  exact ⟨h3, by rw [e]⟩
theorem cellE_congr {ad : Int → Nat} {cA : Nat → ClassId} {h h' : PH} {r r' : Int → Int → Int} {b : Nat} (e1 : ∀ j, h' b j = h b j) (e2 : ∀ j, r' b j = r b j) : cellE ad cA h' r' b = cellE ad cA h r b := by
  unfold cellE slotV
  simp only [e1, e2]
theorem cellE_I {ad : Int → Nat} {cA : Nat → ClassId} {h : PH} {r : Int → Int → Int} {a : Int} {n : Nat} (ho : isO a 10 n = true) : cellE ad cA h r a.toNat = .inl (cA 0, alen a, .inl (fun j => Int32.ofInt (h a j))) := by
  obtain ⟨e1, e2⟩ := isO_sh ho (by decide)
  unfold cellE
  simp only [e1, e2, (isO_spec ho).2.2.1]
  rfl
theorem cellE_J {ad : Int → Nat} {cA : Nat → ClassId} {h : PH} {r : Int → Int → Int} {a : Int} {n : Nat} (ho : isO a 11 n = true) : cellE ad cA h r a.toNat = .inl (cA 1, alen a, .inr (.inl (fun j => Int64.ofInt (h a j)))) := by
  obtain ⟨e1, e2⟩ := isO_sh ho (by decide)
  unfold cellE
  simp only [e1, e2, (isO_spec ho).2.2.1]
  rfl
theorem cellE_C {ad : Int → Nat} {cA : Nat → ClassId} {h : PH} {r : Int → Int → Int} {a : Int} {n : Nat} (ho : isO a 12 n = true) : cellE ad cA h r a.toNat = .inl (cA 2, alen a, .inl (fun j => Int32.ofInt (h a j))) := by
  obtain ⟨e1, e2⟩ := isO_sh ho (by decide)
  unfold cellE
  simp only [e1, e2, (isO_spec ho).2.2.1]
  rfl
theorem cellE_R {ad : Int → Nat} {cA : Nat → ClassId} {h : PH} {r : Int → Int → Int} {a : Int} {k n : Nat} (ho : isO a k n = true) (h1 : 13 ≤ k) (h2 : k ≤ 16) : cellE ad cA h r a.toNat = .inl (cA (k - 10), alen a, .inr (.inr (.inr (.inr (fun j => rnv ad (r a j)))))) := by
  obtain ⟨e1, e2⟩ := isO_sh ho (by omega)
  unfold cellE
  simp only [e1, e2, (isO_spec ho).2.2.1]
  rw [if_neg (by omega), if_neg (by omega), if_neg (by omega), if_neg (by omega)]
theorem cellE_O {ad : Int → Nat} {cA : Nat → ClassId} {h : PH} {r : Int → Int → Int} {a : Int} {k n : Nat} (ho : isO a k n = true) (h1 : k < 9) : cellE ad cA h r a.toNat = .inr (k, (List.range (alen a)).map (fun j => slotV ad h r k j a)) := by
  obtain ⟨e1, e2⟩ := isO_sh ho (by omega)
  unfold cellE
  simp only [e1, e2, (isO_spec ho).2.2.1]
  rw [if_pos h1]
theorem WS_at {ad : Int → Nat} {cA : Nat → ClassId} {h : PH} {g : PG} {a : Int} {k : Nat} (ho : isO a k g.1 = true) {e : va_E} (he : cellE ad cA h g.2 a.toNat = e) : (WS ad cA h g)[a.toNat]? = some (ad a, e) := by
  have h1 := WS_get (ad := ad) (cA := cA) (h := h) (g := g) (isO_spec ho).2.1
  rw [he, (isO_spec ho).2.2.1] at h1
  exact h1
theorem WS_set {ad : Int → Nat} {cA : Nat → ClassId} {h h' : PH} {g g' : PG} {a : Nat} (ha : a < g.1) (hn : g'.1 = g.1) (hw : ∀ b, b < g.1 → b ≠ a → cellE ad cA h' g'.2 b = cellE ad cA h g.2 b) : (WS ad cA h g).set a (ad a, cellE ad cA h' g'.2 a) = WS ad cA h' g' := by
  apply List.ext_getElem?
  intro j
  by_cases hj : j < g.1
  · rw [WS_get (by omega)]
    by_cases e : a = j
    · subst e
      rw [List.getElem?_set_self (by simp [WS]; exact ha)]
    · rw [List.getElem?_set_ne e, WS_get hj, hw j hj (fun q => e q.symm)]
  · rw [List.getElem?_eq_none (by simp [WS]; omega), List.getElem?_eq_none (by simp [WS]; omega)]
theorem HI_set {base : Nat} {ad : Int → Nat} (had : AdOK base ad) {cA : Nat → ClassId} {D : va_G} {H H1 : Heap} {h h' : PH} {g g' : PG} (hH : HI base ad cA D H h g) {a : Nat} (ha : a < g.1) (hn : g'.1 = g.1) (hw : ∀ b, b < g.1 → b ≠ a → cellE ad cA h' g'.2 b = cellE ad cA h g.2 b)
    (hat : va_at D vwCl (ad a, cellE ad cA h' g'.2 a) H1) (z : H1.size = H.size) (oq : ∀ q : Nat, q ≠ ad a → H1[q]? = H[q]?) : HI base ad cA D H1 h' g' := by
  refine ⟨by rw [z, hH.1, hn], by rw [hn]; exact hH.2.1, ?_⟩
  have h1 := hH.2.2.set (WS_D had hH.2.1) (WS_get ha) hat oq
  rwa [WS_set ha hn hw] at h1
theorem ad_A {base : Nat} {ad : Int → Nat} (had : AdOK base ad) {a : Int} {k n : Nat} (ho : isO a k n = true) (hn : n ≤ nCell) : ZA base (ad a) := by
  obtain ⟨h0, h1, h2, -⟩ := isO_spec ho
  have := nCell_le
  unfold ZA
  rw [had a h0 (by omega)]
  omega
theorem u2_o {h : Int → Int → Int} {a k v : Int} {b : Nat} (hb : (b : Int) ≠ a) (j : Int) : u2 h a k v b j = h b j := by
  unfold u2
  rw [if_neg hb]
theorem u2_s {h : Int → Int → Int} {a k v j : Int} : u2 h a k v a j = if j = k then v else h a j := by
  unfold u2
  rw [if_pos rfl]
theorem ne_of_toNat {a : Int} {b : Nat} (h0 : 0 ≤ a) (h : b ≠ a.toNat) : (b : Int) ≠ a := by omega
theorem e_idx {x : Int} {q : Nat} (h0 : 0 ≤ w32 x) : q = (Int32.ofInt x).toNatClampNeg ↔ (q : Int) = w32 x := by
  rw [e_clamp]
  omega
section FRB
variable {base : Nat} {ad : Int → Nat} {z : Int → Int} {cA : Nat → ClassId} {D : va_G} {n0 mi : Nat} {p : Program} {l : Launch} {e : Env} {R : Room} {s : State} {m : MethodId} {args : Array Value} {below : List Frame} {meth : Method} {c : Code} {Q : State → Prop}
variable {pc : Nat} {ls : PL} {st : List PV} {h : PH} {g : PG}
theorem s_FO.K (F : FO base ad z cA D p s m args meth c mi) : va_K D vwCl (tysOf cA) s := F.2.2.2.2.2.1.1.1
theorem s_iaload {a i : Int} (F : FO base ad z cA D p s m args meth c mi) (hd : decode (mC mi) pc = .ok (.iaload, 1)) (ho : isO a 10 g.1 = true) (h0 : 0 ≤ w32 i) (h1 : w32 i < alen a) (k : WG base ad cA D n0 mi p l e R s m args below meth c Q (pc + 1, ls, .inl (h a (w32 i)) :: st, h, g)) : WG base ad cA D n0 mi p l e R s m args below meth c Q (pc, ls, .inl i :: .inr (.inr a) :: st, h, g) := fun H locs l9 hH hS hL => by
  have k2 := k H locs l9 hH hS hL
  refine va_iald F.1 F.2.1 (s_FO.K F) hH.2.2 a.toNat 0 (WS_at ho (cellE_I ho)) rfl (e_in h0 h1) hd ?_
  rw [e_clamp, Int.toNat_of_nonneg h0]
  exact k2
theorem s_caload {a i : Int} (F : FO base ad z cA D p s m args meth c mi) (hd : decode (mC mi) pc = .ok (.caload, 1)) (ho : isO a 12 g.1 = true) (h0 : 0 ≤ w32 i) (h1 : w32 i < alen a) (k : WG base ad cA D n0 mi p l e R s m args below meth c Q (pc + 1, ls, .inl (h a (w32 i)) :: st, h, g)) : WG base ad cA D n0 mi p l e R s m args below meth c Q (pc, ls, .inl i :: .inr (.inr a) :: st, h, g) := fun H locs l9 hH hS hL => by
  have k2 := k H locs l9 hH hS hL
  refine va_cald F.1 F.2.1 (s_FO.K F) hH.2.2 a.toNat 2 (WS_at ho (cellE_C ho)) rfl (e_in h0 h1) hd ?_
  rw [e_clamp, Int.toNat_of_nonneg h0]
  exact k2
theorem s_laload {a i : Int} (F : FO base ad z cA D p s m args meth c mi) (hd : decode (mC mi) pc = .ok (.laload, 1)) (ho : isO a 11 g.1 = true) (h0 : 0 ≤ w32 i) (h1 : w32 i < alen a) (k : WG base ad cA D n0 mi p l e R s m args below meth c Q (pc + 1, ls, .inr (.inl (h a (w32 i))) :: st, h, g)) : WG base ad cA D n0 mi p l e R s m args below meth c Q (pc, ls, .inl i :: .inr (.inr a) :: st, h, g) := fun H locs l9 hH hS hL => by
  have k2 := k H locs l9 hH hS hL
  refine va_lald F.1 F.2.1 (s_FO.K F) hH.2.2 a.toNat 1 (WS_at ho (cellE_J ho)) rfl (e_in h0 h1) hd ?_
  rw [e_clamp, Int.toNat_of_nonneg h0]
  exact k2
theorem s_ialoadR {a i : Int} (F : FO base ad z cA D p s m args meth c mi) (hd : decode (mC mi) pc = .ok (.iaload, 1)) (ho : roK a = 10) (h0 : 0 ≤ w32 i) (h1 : w32 i < roN z a) (k : WG base ad cA D n0 mi p l e R s m args below meth c Q (pc + 1, ls, .inl (roV z a (w32 i)) :: st, h, g)) : WG base ad cA D n0 mi p l e R s m args below meth c Q (pc, ls, .inl i :: .inr (.inr a) :: st, h, g) := fun H locs l9 hH hS hL => by
  have k2 := k H locs l9 hH hS hL
  refine va_ti F.1 F.2.1 (F.2.2.2.2.2.1.2.1.2.2.2.2.1 a ho) hS (e_in h0 (by omega)) rfl hd ?_
  rw [e_clamp, Int.toNat_of_nonneg h0]
  exact k2
theorem s_baloadR {a i : Int} (F : FO base ad z cA D p s m args meth c mi) (hd : decode (mC mi) pc = .ok (.baload, 1)) (ho : roK a = 17) (h0 : 0 ≤ w32 i) (h1 : w32 i < roN z a) (k : WG base ad cA D n0 mi p l e R s m args below meth c Q (pc + 1, ls, .inl (roV z a (w32 i)) :: st, h, g)) : WG base ad cA D n0 mi p l e R s m args below meth c Q (pc, ls, .inl i :: .inr (.inr a) :: st, h, g) := fun H locs l9 hH hS hL => by
  have k2 := k H locs l9 hH hS hL
  refine va_tb F.1 F.2.1 (F.2.2.2.2.2.1.2.1.2.2.2.2.2.1 a ho) hS (e_in h0 (by omega)) rfl hd ?_
  rw [e_clamp, Int.toNat_of_nonneg h0]
  exact k2
theorem rnv_ref {ad : Int → Nat} {x : Int} (h : 0 ≤ x) : va_rf (rnv ad x) = .ref (ad x) := by
  unfold rnv
  rw [if_neg (by omega)]
  rfl
theorem s_aaload {a i : Int} (F : FO base ad z cA D p s m args meth c mi) (hd : decode (mC mi) pc = .ok (.aaload, 1)) (ho : isQ a g.1 = true) (h0 : 0 ≤ w32 i) (h1 : w32 i < alen a) (hr : 0 ≤ g.2 a (w32 i)) (k : WG base ad cA D n0 mi p l e R s m args below meth c Q (pc + 1, ls, .inr (.inr (g.2 a (w32 i))) :: st, h, g)) : WG base ad cA D n0 mi p l e R s m args below meth c Q (pc, ls, .inl i :: .inr (.inr a) :: st, h, g) := fun H locs l9 hH hS hL => by
  have k2 := k H locs l9 hH hS hL
  unfold isQ at ho
  simp only [Bool.or_eq_true] at ho
  have e0 : ∀ f : Nat → Option Nat, f = (fun j : Nat => rnv ad (g.2 a j)) → va_rf (f (Int32.ofInt i).toNatClampNeg) = .ref (ad (g.2 a (w32 i))) := by
    intro f hf
    rw [hf, e_clamp]
    show va_rf (rnv ad (g.2 a ((w32 i).toNat : Int))) = _
    rw [Int.toNat_of_nonneg h0, rnv_ref hr]
  have key : ∀ (k9 : Nat), 13 ≤ k9 → k9 ≤ 16 → isO a k9 g.1 = true → ∀ ty : FieldType, ty.isReference = true → (tysOf cA)[k9 - 10]? = some (cA (k9 - 10), ty) → W p l e R s m args below meth c H locs (g.1 - n0) (sl g.1 - sl n0) Q (F0 m pc l9 (.int (Int32.ofInt i) :: .ref (ad a) :: st.map (mv ad))) := by
    intro k9 g1 g2 hk ty hty ht
    have hlt : (Int32.ofInt i).toNatClampNeg < alen a := by rw [e_clamp]; omega
    refine W.aald (v := .ref (ad (g.2 a (w32 i)))) (ty := ty) F.1 F.2.1 (hH.2.2 a.toNat _ (WS_at hk (cellE_R hk g1 g2))) (((s_FO.K F).2 (k9 - 10) _ ht).1 (alen a) (fun j => va_rf (rnv ad (g.2 a j)))) hty (fun q => by cases q) (by show ¬ (Int32.ofInt i < 0 ∨ (arrV _ _ _).slots.size ≤ _); rw [arrV_size]; exact e_in h0 h1) (by show (arrV _ _ _).slots[_]? = _; rw [arrV_read _ _ hlt]; exact congrArg some (e0 _ rfl)) rfl rfl hd k2
  rcases ho with ho | ho | ho | ho
  · exact key 13 (by decide) (by decide) ho _ rfl rfl
  · exact key 14 (by decide) (by decide) ho _ rfl rfl
  · exact key 15 (by decide) (by decide) ho _ rfl rfl
  · exact key 16 (by decide) (by decide) ho _ rfl rfl
theorem s_alenR {a : Int} (F : FO base ad z cA D p s m args meth c mi) (hd : decode (mC mi) pc = .ok (.arraylength, 1)) (ho : roK a = 10 ∨ roK a = 17) (h0 : 0 ≤ roN z a) (k : WG base ad cA D n0 mi p l e R s m args below meth c Q (pc + 1, ls, .inl (roN z a) :: st, h, g)) : WG base ad cA D n0 mi p l e R s m args below meth c Q (pc, ls, .inr (.inr a) :: st, h, g) := fun H locs l9 hH hS hL => by
  have k2 := k H locs l9 hH hS hL
  have e : Int32.ofNat (roN z a).toNat = Int32.ofInt (roN z a) := by rw [← Int32.ofInt_eq_ofNat, Int.toNat_of_nonneg h0]
  rcases ho with ho | ho
  · exact va_tlen F.1 F.2.1 (F.2.2.2.2.2.1.2.1.2.2.2.2.1 a ho) hS e hd k2
  · exact va_tlen F.1 F.2.1 (F.2.2.2.2.2.1.2.1.2.2.2.2.2.1 a ho) hS e hd k2
theorem s_alen {a : Int} {k9 : Nat} (F : FO base ad z cA D p s m args meth c mi) (hd : decode (mC mi) pc = .ok (.arraylength, 1)) (ho : isO a k9 g.1 = true) (h0 : 10 ≤ k9) (h1 : k9 ≤ 16) (k : WG base ad cA D n0 mi p l e R s m args below meth c Q (pc + 1, ls, .inl (alen a : Int) :: st, h, g)) : WG base ad cA D n0 mi p l e R s m args below meth c Q (pc, ls, .inr (.inr a) :: st, h, g) := fun H locs l9 hH hS hL => by
  have k2 := k H locs l9 hH hS hL
  have e : Int32.ofNat (alen a) = Int32.ofInt (alen a) := Int32.ofInt_eq_ofNat.symm
  rcases (show k9 = 10 ∨ k9 = 11 ∨ k9 = 12 ∨ k9 = 13 ∨ k9 = 14 ∨ k9 = 15 ∨ k9 = 16 by omega) with rfl | rfl | rfl | rfl | rfl | rfl | rfl
  · exact va_alen F.1 F.2.1 (s_FO.K F) hH.2.2 a.toNat 0 (WS_at ho (cellE_I ho)) rfl e hd k2
  · exact va_alen F.1 F.2.1 (s_FO.K F) hH.2.2 a.toNat 1 (WS_at ho (cellE_J ho)) rfl e hd k2
  · exact va_alen F.1 F.2.1 (s_FO.K F) hH.2.2 a.toNat 2 (WS_at ho (cellE_C ho)) rfl e hd k2
  · exact va_alen F.1 F.2.1 (s_FO.K F) hH.2.2 a.toNat 3 (WS_at ho (cellE_R ho (by decide) (by decide))) rfl e hd k2
  · exact va_alen F.1 F.2.1 (s_FO.K F) hH.2.2 a.toNat 4 (WS_at ho (cellE_R ho (by decide) (by decide))) rfl e hd k2
  · exact va_alen F.1 F.2.1 (s_FO.K F) hH.2.2 a.toNat 5 (WS_at ho (cellE_R ho (by decide) (by decide))) rfl e hd k2
  · exact va_alen F.1 F.2.1 (s_FO.K F) hH.2.2 a.toNat 6 (WS_at ho (cellE_R ho (by decide) (by decide))) rfl e hd k2
theorem s_iastore {a i v : Int} (F : FO base ad z cA D p s m args meth c mi) (hd : decode (mC mi) pc = .ok (.iastore, 1)) (ho : isO a 10 g.1 = true) (h0 : 0 ≤ w32 i) (h1 : w32 i < alen a)  (k : WG base ad cA D n0 mi p l e R s m args below meth c Q (pc + 1, ls, st, u2 h a (w32 i) v, g)) : WG base ad cA D n0 mi p l e R s m args below meth c Q (pc, ls, .inl v :: .inl i :: .inr (.inr a) :: st, h, g) := fun H locs l9 hH hS hL => by
  refine W.iast F.1 F.2.1 (hH.2.2 a.toNat _ (WS_at ho (cellE_I ho))) (((s_FO.K F).2 0 _ rfl).1 (alen a) (fun j => .int (Int32.ofInt (h a j)))) (fun q => by cases q) (by show ¬ (Int32.ofInt i < 0 ∨ (arrV _ _ _).slots.size ≤ _); rw [arrV_size]; exact e_in h0 h1) rfl rfl hd fun H1 e9 z9 oq => ?_
  have had : AdOK base ad := F.2.2.2.2.2.2.2.2.2.1
  have ea : ad ((a.toNat : Nat) : Int) = ad a := by rw [(isO_spec ho).2.2.1]
  refine k H1 _ l9 (HI_set had hH (a := a.toNat) (isO_spec ho).2.1 rfl (fun b _ hb => cellE_congr (fun j => u2_o (ne_of_toNat (isO_spec ho).1 hb) j) (fun _ => rfl)) ?_ z9 (by rw [ea]; exact oq)) (hS.put z9 oq (ad_A had ho hH.2.1)) hL
  rw [cellE_I ho, ea]
  show H1[ad a]? = some (vp_cell _ _)
  rw [e9]
  rw [vp_cell_i, vp_cell_i, arrV_store]
  congr 2
  funext q
  by_cases hq : q = (Int32.ofInt i).toNatClampNeg
  · refine (show updV _ _ _ q = _ from if_pos hq).trans (Eq.trans ?_ (congrArg (fun x => Value.int (Int32.ofInt x)) (u2_s.trans (if_pos ((e_idx h0).mp hq))).symm))
    rfl
  · exact (show updV _ _ _ q = _ from if_neg hq).trans (congrArg (fun x => Value.int (Int32.ofInt x)) (u2_s.trans (if_neg (fun h9 => hq ((e_idx h0).mpr h9)))).symm)
theorem s_lastore {a i v : Int} (F : FO base ad z cA D p s m args meth c mi) (hd : decode (mC mi) pc = .ok (.lastore, 1)) (ho : isO a 11 g.1 = true) (h0 : 0 ≤ w32 i) (h1 : w32 i < alen a)  (k : WG base ad cA D n0 mi p l e R s m args below meth c Q (pc + 1, ls, st, u2 h a (w32 i) v, g)) : WG base ad cA D n0 mi p l e R s m args below meth c Q (pc, ls, .inr (.inl v) :: .inl i :: .inr (.inr a) :: st, h, g) := fun H locs l9 hH hS hL => by
  refine W.last F.1 F.2.1 (hH.2.2 a.toNat _ (WS_at ho (cellE_J ho))) (((s_FO.K F).2 1 _ rfl).1 (alen a) (fun j => .long (Int64.ofInt (h a j)))) (fun q => by cases q) (by show ¬ (Int32.ofInt i < 0 ∨ (arrV _ _ _).slots.size ≤ _); rw [arrV_size]; exact e_in h0 h1) rfl rfl hd fun H1 e9 z9 oq => ?_
  have had : AdOK base ad := F.2.2.2.2.2.2.2.2.2.1
  have ea : ad ((a.toNat : Nat) : Int) = ad a := by rw [(isO_spec ho).2.2.1]
  refine k H1 _ l9 (HI_set had hH (a := a.toNat) (isO_spec ho).2.1 rfl (fun b _ hb => cellE_congr (fun j => u2_o (ne_of_toNat (isO_spec ho).1 hb) j) (fun _ => rfl)) ?_ z9 (by rw [ea]; exact oq)) (hS.put z9 oq (ad_A had ho hH.2.1)) hL
  rw [cellE_J ho, ea]
  show H1[ad a]? = some (vp_cell _ _)
  rw [e9]
  rw [vp_cell_l, vp_cell_l, arrV_store]
  congr 2
  funext q
  by_cases hq : q = (Int32.ofInt i).toNatClampNeg
  · refine (show updV _ _ _ q = _ from if_pos hq).trans (Eq.trans ?_ (congrArg (fun x => Value.long (Int64.ofInt x)) (u2_s.trans (if_pos ((e_idx h0).mp hq))).symm))
    rfl
  · exact (show updV _ _ _ q = _ from if_neg hq).trans (congrArg (fun x => Value.long (Int64.ofInt x)) (u2_s.trans (if_neg (fun h9 => hq ((e_idx h0).mpr h9)))).symm)
theorem s_castore {a i v : Int} (F : FO base ad z cA D p s m args meth c mi) (hd : decode (mC mi) pc = .ok (.castore, 1)) (ho : isO a 12 g.1 = true) (h0 : 0 ≤ w32 i) (h1 : w32 i < alen a) (hnc : narrow .char (.int (Int32.ofInt v)) = .int (Int32.ofInt v)) (k : WG base ad cA D n0 mi p l e R s m args below meth c Q (pc + 1, ls, st, u2 h a (w32 i) v, g)) : WG base ad cA D n0 mi p l e R s m args below meth c Q (pc, ls, .inl v :: .inl i :: .inr (.inr a) :: st, h, g) := fun H locs l9 hH hS hL => by
  refine W.cast F.1 F.2.1 (hH.2.2 a.toNat _ (WS_at ho (cellE_C ho))) (((s_FO.K F).2 2 _ rfl).1 (alen a) (fun j => .int (Int32.ofInt (h a j)))) (fun q => by cases q) (by show ¬ (Int32.ofInt i < 0 ∨ (arrV _ _ _).slots.size ≤ _); rw [arrV_size]; exact e_in h0 h1) rfl rfl hd fun H1 e9 z9 oq => ?_
  have had : AdOK base ad := F.2.2.2.2.2.2.2.2.2.1
  have ea : ad ((a.toNat : Nat) : Int) = ad a := by rw [(isO_spec ho).2.2.1]
  refine k H1 _ l9 (HI_set had hH (a := a.toNat) (isO_spec ho).2.1 rfl (fun b _ hb => cellE_congr (fun j => u2_o (ne_of_toNat (isO_spec ho).1 hb) j) (fun _ => rfl)) ?_ z9 (by rw [ea]; exact oq)) (hS.put z9 oq (ad_A had ho hH.2.1)) hL
  rw [cellE_C ho, ea]
  show H1[ad a]? = some (vp_cell _ _)
  rw [e9]
  rw [vp_cell_i, vp_cell_i, arrV_store]
  congr 2
  funext q
  by_cases hq : q = (Int32.ofInt i).toNatClampNeg
  · refine (show updV _ _ _ q = _ from if_pos hq).trans (Eq.trans ?_ (congrArg (fun x => Value.int (Int32.ofInt x)) (u2_s.trans (if_pos ((e_idx h0).mp hq))).symm))
    exact hnc
  · exact (show updV _ _ _ q = _ from if_neg hq).trans (congrArg (fun x => Value.int (Int32.ofInt x)) (u2_s.trans (if_neg (fun h9 => hq ((e_idx h0).mpr h9)))).symm)

end FRB
