/-! ===== a frame of method mi at a place of the plain machine: fields ===== -/
def tyOf (c k : Nat) : FieldType := (parseFieldDescriptor ((vwCl.getD c (RX0, TX0, 0)).2.1 k).2.2.1).getD .int
def clOk (c : Nat) : Bool := match vwCl[c]? with
  | some r => (List.range r.2.2).all (fun k => decide ((r.2.1 k).1 = r.1) && (decide (parseFieldDescriptor (r.2.1 k).2.2.1 = some (tyOf c k)) && (decide ((r.2.1 k).2.2.2 = decide (fty c k = 1)) && (decide (fty c k = 0 → tyOf c k = .int ∨ tyOf c k = .boolean) && (decide (¬ fty c k = 0 → (tyOf c k).isReference = true) && (decide (fty c k ≤ 2) && (List.range r.2.2).all (fun j => decide (j = k ∨ (r.2.1 j).2.1 ≠ (r.2.1 k).2.1))))))))
  | none => false
theorem cl_all : (List.range 9).all clOk = true := by decide +kernel
theorem uw_all : (List.range 9).all (fun c => match vwCl[c]? with
  | some r => (u_ws r.1 r.2.1 r.2.2).all (fun w => decide (w ∈ tables_1) && goodWord w)
  | none => false) = true := by decide +kernel
theorem cl_get {c : Nat} (hc : c < 9) : ∃ r : vw_C, vwCl[c]? = some r ∧ vwCl.getD c (RX0, TX0, 0) = r ∧ (∀ w ∈ u_ws r.1 r.2.1 r.2.2, w ∈ WB) ∧ (∀ k, k < r.2.2 → (r.2.1 k).1 = r.1 ∧ parseFieldDescriptor (r.2.1 k).2.2.1 = some (tyOf c k) ∧ (r.2.1 k).2.2.2 = decide (fty c k = 1) ∧ (fty c k = 0 → tyOf c k = .int ∨ tyOf c k = .boolean) ∧ (¬ fty c k = 0 → (tyOf c k).isReference = true) ∧ fty c k ≤ 2) ∧ ∀ a, a < r.2.2 → ∀ b, b < r.2.2 → a ≠ b → (r.2.1 a).2.1 ≠ (r.2.1 b).2.1 := by
  have h1 := List.all_eq_true.mp cl_all c (List.mem_range.mpr hc)
  have h2 := List.all_eq_true.mp uw_all c (List.mem_range.mpr hc)
  unfold clOk at h1
  cases hr : vwCl[c]? with
  | none => rw [hr] at h1; cases h1
  | some r =>
    rw [hr] at h1 h2
    simp only [List.all_eq_true, Bool.and_eq_true, decide_eq_true_eq, List.mem_range] at h1 h2
    refine ⟨r, rfl, by rw [List.getD_eq_getElem?_getD, hr]; rfl, fun w hw => ?_, fun k hk => ?_, fun a ha b hb hab => ?_⟩
    · obtain ⟨q1, q2⟩ := h2 w hw
      exact List.mem_filter.mpr ⟨List.mem_append_right _ q1, q2⟩
    · obtain ⟨q1, q2, q3, q4, q5, q6, -⟩ := h1 k hk
      exact ⟨q1, q2, q3, q4, q5, q6⟩
    · rcases (h1 b hb).2.2.2.2.2.2 a ha with q | q
      · exact absurd q hab
      · exact q
theorem fldT_spec {o i ci k b : Nat} (h : fldT o i = some (ci, k, b)) : ∃ e ∈ fldL, e.1 = o ∧ e.2.1 = i ∧ e.2.2.1 = ci ∧ e.2.2.2.1 = k ∧ e.2.2.2.2.1 = b ∧ ci < 9 ∧ k < (vwCl.getD ci (RX0, TX0, 0)).2.2 ∧ lw_tbl[e.2.2.2.2.2]? = some (if b = 1 then isNestF e else isPlainF e) := by
  unfold fldT at h
  cases hf : fldL.find? (fun e => e.1 == o && e.2.1 == i) with
  | none => rw [hf] at h; cases h
  | some e =>
    rw [hf] at h
    cases h
    have h1 := List.mem_of_find?_eq_some hf
    have h2 := List.find?_some hf
    simp only [Bool.and_eq_true, beq_iff_eq] at h2
    have h3 := List.all_eq_true.mp fld_all e h1
    simp only [Bool.and_eq_true, decide_eq_true_eq] at h3
    exact ⟨e, h1, h2.1, h2.2, rfl, rfl, rfl, h3.2.1, h3.2.2.1, h3.1⟩
theorem slotV_get {ad : Int → Nat} {h : PH} {r : Int → Int → Int} {ci k n : Nat} {a : Int} (hk : k < n) : ((List.range n).map (fun j => slotV ad h r ci j a))[k]? = some (slotV ad h r ci k a) := by
  rw [List.getElem?_map, List.getElem?_range hk]
  rfl
theorem alen_ok : (List.range nCell).all (fun a => decide ((shL.getD a (99, 0)).1 < 9 → (shL.getD a (99, 0)).2 = (vwCl.getD (shL.getD a (99, 0)).1 (RX0, TX0, 0)).2.2)) = true := by decide +kernel
theorem alen_cl {a : Int} {ci n : Nat} (ho : isO a ci n = true) (hc : ci < 9) (hn : n ≤ nCell) : alen a = (vwCl.getD ci (RX0, TX0, 0)).2.2 := by
  obtain ⟨e1, e2⟩ := isO_sh ho (by omega)
  have h1 := List.all_eq_true.mp alen_ok a.toNat (List.mem_range.mpr (by have := (isO_spec ho).2.1; omega))
  simp only [decide_eq_true_eq] at h1
  rw [e1, e2] at h1
  exact h1 hc
theorem own_all : (List.range 9).all (fun c => decide (oN c = (vwCl.getD c (RX0, TX0, 0)).1)) = true := by decide +kernel
theorem own_cl {c : Nat} (hc : c < 9) : oN c = (vwCl.getD c (RX0, TX0, 0)).1 := by
  have h1 := List.all_eq_true.mp own_all c (List.mem_range.mpr hc)
  simpa using h1
theorem nest_all : fldL.all (fun e => decide (e.2.2.2.2.1 = 1 → fty e.2.2.1 e.2.2.2.1 = 1 → ¬ e.1 = e.2.2.1)) = true := by decide +kernel
theorem nest_fin (e : Nat × Nat × Nat × Nat × Nat × Nat) (he : e ∈ fldL) (h1 : e.2.2.2.2.1 = 1) (h2 : fty e.2.2.1 e.2.2.2.1 = 1) (h3 : e.1 = e.2.2.1) : False := by
  have h := List.all_eq_true.mp nest_all e he
  simp only [decide_eq_true_eq] at h
  exact h h1 h2 h3
section FRC
variable {base : Nat} {ad : Int → Nat} {z : Int → Int} {cA : Nat → ClassId} {D : va_G} {n0 mi : Nat} {p : Program} {l : Launch} {e : Env} {R : Room} {s : State} {m : MethodId} {args : Array Value} {below : List Frame} {meth : Method} {c : Code} {Q : State → Prop}
variable {pc : Nat} {ls : PL} {st : List PV} {h : PH} {g : PG}
theorem s_get {a : Int} {i ci k b : Nat} {v : PV} (F : FO base ad z cA D p s m args meth c mi) (hd : decode (mC mi) pc = .ok (.getfield i, 3)) (hf : fldT (mO mi) i = some (ci, k, b)) (ho : isO a ci g.1 = true) (hv : slotV ad h g.2 ci k a = mv ad v) (kk : WG base ad cA D n0 mi p l e R s m args below meth c Q (pc + 3, ls, v :: st, h, g)) : WG base ad cA D n0 mi p l e R s m args below meth c Q (pc, ls, .inr (.inr a) :: st, h, g) := fun H locs l9 hH hS hL => by
  have k2 := kk H locs l9 hH hS hL
  obtain ⟨e9, he, e1, e2, e3, e4, e5, hci, hk, hw⟩ := fldT_spec hf
  obtain ⟨r, hr, hrd, hin, hfl, -⟩ := cl_get hci
  rw [hrd] at hk
  have hat := WS_at (ad := ad) (cA := cA) (h := h) (g := g) ho (cellE_O ho hci)
  have hal : alen a = r.2.2 := by rw [alen_cl ho hci hH.2.1, hrd]
  have hsv : ((List.range (alen a)).map (fun j => slotV ad h g.2 ci j a))[k]? = some (mv ad v) := by rw [slotV_get (by omega), hv]
  obtain ⟨d1, d2, -⟩ := hfl k hk
  by_cases hb : b = 1
  · have hl : (Cond.fieldLinkNest (oN (mO mi)) i r.1 (r.2.1 k).2.1 (r.2.1 k).2.2.1 RX7).before args s = true := by
      have h9 := F.2.2.2.2.2.1.1.2.1 e9 he (e5.trans hb)
      have h10 := va_Nw.use (A := args) rfl h9
      unfold isNestF at h10
      rw [e1, e2, e3, e4, hrd] at h10
      exact h10
    exact va_getN F.1 F.2.1 (T := r.2.1) F.2.2.2.2.1 hin F.2.2.2.1 (s_FO.K F) hH.2.2 a.toNat hat hr k hk hl (fun x hx => by rw [d1] at hx; exact hx) hsv hd k2
  · have hl : (Cond.fieldLink (oN (mO mi)) i r.1 (r.2.1 k).2.1 (r.2.1 k).2.2.1).before args s = true := by
      rw [if_neg hb] at hw
      have h10 := F.2.2.2.2.1 _ (WB_in hw rfl)
      unfold isPlainF at h10
      rw [e1, e2, e3, e4, hrd] at h10
      exact h10
    exact va_get F.1 F.2.1 (T := r.2.1) F.2.2.2.2.1 hin F.2.2.2.1 (s_FO.K F) hH.2.2 a.toNat hat hr k hk hl (fun x hx => by rw [d1] at hx; exact hx) hsv hd k2
/-- behind a store of a field -/
theorem HI_fld {H H1 : Heap} {h' : PH} {g' : PG} {a : Int} {ci k : Nat} {v : PV} {r : vw_C} (had : AdOK base ad) (hH : HI base ad cA D H h g) (ho : isO a ci g.1 = true) (hci : ci < 9) (hn : g'.1 = g.1) (hw1 : ∀ b : Int, b ≠ a → ∀ j, h' b j = h b j) (hw2 : ∀ b : Int, b ≠ a → ∀ j, g'.2 b j = g.2 b j)
    (hr : vwCl[ci]? = some r) (hk : k < r.2.2) (hal : alen a = r.2.2) (hs1 : slotV ad h' g'.2 ci k a = mv ad v) (hs2 : ∀ j, j ≠ k → slotV ad h' g'.2 ci j a = slotV ad h g.2 ci j a)
    (hob : t_OB (ad a) (D.1 ci) r.2.2 (D.2 ci) H1 (vp_V (((List.range (alen a)).map (fun j => slotV ad h g.2 ci j a)).set k (mv ad v)))) (z9 : H1.size = H.size) (oq : ∀ q : Nat, q ≠ ad a → H1[q]? = H[q]?) : HI base ad cA D H1 h' g' := by
  have ea : ad ((a.toNat : Nat) : Int) = ad a := by rw [(isO_spec ho).2.2.1]
  have ho' : isO a ci g'.1 = true := by rw [hn]; exact ho
  refine HI_set had hH (a := a.toNat) (isO_spec ho).2.1 hn (fun b _ hb => cellE_congr (fun j => hw1 b (ne_of_toNat (isO_spec ho).1 hb) j) (fun j => hw2 b (ne_of_toNat (isO_spec ho).1 hb) j)) ?_ z9 (by rw [ea]; exact oq)
  rw [cellE_O ho' hci, ea]
  refine ⟨r, hr, ?_⟩
  have e0 : (List.range (alen a)).map (fun j => slotV ad h' g'.2 ci j a) = ((List.range (alen a)).map (fun j => slotV ad h g.2 ci j a)).set k (mv ad v) := by
    apply List.ext_getElem?
    intro j
    by_cases hj : j < alen a
    · rw [slotV_get hj]
      by_cases q : k = j
      · subst q
        rw [List.getElem?_set_self (by simpa using hj), hs1]
      · rw [List.getElem?_set_ne q, slotV_get hj, hs2 j (fun q2 => q q2.symm)]
    · rw [List.getElem?_eq_none (by simpa using Nat.le_of_not_lt hj), List.getElem?_eq_none (by simpa using Nat.le_of_not_lt hj)]
  show t_OB (ad a) (D.1 ci) r.2.2 (D.2 ci) H1 (vp_V _)
  rw [e0]
  exact hob
theorem s_put {a : Int} {i ci k b : Nat} {v : PV} {h' : PH} {g' : PG} (F : FO base ad z cA D p s m args meth c mi) (hd : decode (mC mi) pc = .ok (.putfield i, 3)) (hf : fldT (mO mi) i = some (ci, k, b)) (ho : isO a ci g.1 = true) (hn : g'.1 = g.1) (hw1 : ∀ b : Int, b ≠ a → ∀ j, h' b j = h b j) (hw2 : ∀ b : Int, b ≠ a → ∀ j, g'.2 b j = g.2 b j)
    (hs1 : slotV ad h' g'.2 ci k a = mv ad v) (hs2 : ∀ j, j ≠ k → slotV ad h' g'.2 ci j a = slotV ad h g.2 ci j a) (hnar : narrow (tyOf ci k) (mv ad v) = mv ad v) (hfit : fits (tyOf ci k) (mv ad v) = true) (hini : fty ci k = 1 → mK mi = 2 ∧ mO mi = ci)
    (kk : WG base ad cA D n0 mi p l e R s m args below meth c Q (pc + 3, ls, st, h', g')) : WG base ad cA D n0 mi p l e R s m args below meth c Q (pc, ls, v :: .inr (.inr a) :: st, h, g) := fun H locs l9 hH hS hL => by
  obtain ⟨e9, he, e1, e2, e3, e4, e5, hci, hk, hw⟩ := fldT_spec hf
  obtain ⟨r, hr, hrd, hin, hfl, hnm⟩ := cl_get hci
  rw [hrd] at hk
  have hat := WS_at (ad := ad) (cA := cA) (h := h) (g := g) ho (cellE_O ho hci)
  have hal : alen a = r.2.2 := by rw [alen_cl ho hci hH.2.1, hrd]
  obtain ⟨d1, d2, d3, -⟩ := hfl k hk
  have hK := s_FO.K F
  have had : AdOK base ad := F.2.2.2.2.2.2.2.2.2.1
  have hap := va_apart (own := oN (mO mi)) F.2.2.2.2.1 hin (tyOf ci) (fun k hk => (hfl k hk).2.1) hnm hK hr
  obtain ⟨r', h1, cell, q1, q2, q3, q4⟩ := hH.2.2 a.toNat _ hat
  have hrr : r' = r := Option.some.inj (h1.symm.trans hr)
  subst hrr
  obtain ⟨hS9, hfc, kC, hkC, hkind⟩ := hK.1 ci _ hr
  obtain ⟨cf, kf, fi, f, hi, hsl⟩ := hS9 k hk
  have hlay := F.2.2.2.2.1 _ (hin _ (u_in_lay hk))
  unfold u_lay at hlay
  have hst := (u_facts hfc hkC (u_lays F.2.2.2.2.1 hin hk) hi).1
  have hll : k < ((List.range (alen a)).map (fun j => slotV ad h g.2 ci j a)).length := by simpa using (by omega : k < alen a)
  have fin : ∀ H1 : Heap, H1[ad a]? = some (cell.setSlot (D.2 ci k) (mv ad v)) → H1.size = H.size → (∀ q : Nat, q ≠ ad a → H1[q]? = H[q]?) → W p l e R s m args below meth c H1 (locs ++ [⟨ad a, D.2 ci k⟩]) (g.1 - n0) (sl g.1 - sl n0) Q (F0 m (pc + 3) l9 (st.map (mv ad))) := by
    intro H1 w1 w2 w3
    have k2 := kk H1 (locs ++ [⟨ad a, D.2 ci k⟩]) l9 (HI_fld had hH ho hci hn hw1 hw2 hr hk hal hs1 hs2 (t_OB.to (V := updV (vp_V _) k (mv ad v)) ⟨_, w1, q2, q3, t_set q4 hap hk (mv ad v)⟩ (fun j _ => vp_updV_set hll (mv ad v) j)) w2 w3) (hS.put w2 w3 (ad_A had ho hH.2.1)) hL
    rw [show ((pc + 3, ls, st, h', g') : Cfg).2.2.2.2.1 = g.1 from hn] at k2
    exact k2
  by_cases hfin : fty ci k = 1
  · obtain ⟨i1, i2⟩ := hini hfin
    have hf3 : (r'.2.1 k).2.2.2 = true := by rw [d3]; simpa using hfin
    rw [if_pos hf3] at hlay
    have hb : ¬ b = 1 := fun hb1 => nest_fin e9 he (e5.trans hb1) (by rw [e3, e4]; exact hfin) (by rw [e1, e3]; exact i2)
    have hl : (Cond.fieldLink (oN (mO mi)) i r'.1 (r'.2.1 k).2.1 (r'.2.1 k).2.2.1).before args s = true := by
      rw [if_neg hb] at hw
      have h10 := F.2.2.2.2.1 _ (WB_in hw rfl)
      unfold isPlainF at h10
      rw [e1, e2, e3, e4, hrd] at h10
      exact h10
    have hcf : m.cls = cf := by
      obtain ⟨_, _, c', _, _, _, -, -, hf', -, -, -, hown2, -⟩ := Cond.laysFinal_spec hlay
      have g1 : c' = cf := by have := hi.symm.trans hf'; simp at this; exact this.1.symm
      rw [d1] at hown2
      rw [← g1]
      have g2 : oN (mO mi) = r'.1 := by rw [i2, ← hrd]; exact own_cl hci
      exact Option.some.inj (F.2.2.2.1.symm.trans (by rw [g2]; exact hown2))
    have h6 := u_fits hfc hkC hkind (Or.inr hlay) hi d2 hnar hfit
    refine W.putFinK F.1 F.2.1 F.2.2.2.1 hl (by rw [d1] at hi; exact hi) hst hcf (F.2.2.2.2.2.2.2.2.1 i1) (by rw [q2]; exact h6) q1 q3 (by rw [hsl]; exact k2_hasslot (q4 k hk)) rfl rfl hd fun H' w1 w2 w3 => ?_
    rw [hsl] at w1 ⊢
    exact fin H' w1 w2 w3
  · have hf3 : (r'.2.1 k).2.2.2 = false := by rw [d3]; simpa using hfin
    rw [if_neg (by rw [hf3]; decide)] at hlay
    have h6 := u_store hfc hkC hkind hlay hi d2 hnar hfit
    by_cases hb : b = 1
    · have hl : (Cond.fieldLinkNest (oN (mO mi)) i r'.1 (r'.2.1 k).2.1 (r'.2.1 k).2.2.1 RX7).before args s = true := by
        have h9 := F.2.2.2.2.2.1.1.2.1 e9 he (e5.trans hb)
        have h10 := va_Nw.use (A := args) rfl h9
        unfold isNestF at h10
        rw [e1, e2, e3, e4, hrd] at h10
        exact h10
      refine va_WputK F.1 F.2.1 (f := f) F.2.2.2.1 hl (by rw [d1] at hi; exact hi) hst (by rw [q2]; exact h6) q1 q3 (by rw [hsl]; exact k2_hasslot (q4 k hk)) rfl rfl hd fun H' w1 w2 w3 => ?_
      rw [hsl] at w1 ⊢
      exact fin H' w1 w2 w3
    · have hl : (Cond.fieldLink (oN (mO mi)) i r'.1 (r'.2.1 k).2.1 (r'.2.1 k).2.2.1).before args s = true := by
        rw [if_neg hb] at hw
        have h10 := F.2.2.2.2.1 _ (WB_in hw rfl)
        unfold isPlainF at h10
        rw [e1, e2, e3, e4, hrd] at h10
        exact h10
      refine W.putK F.1 F.2.1 (f := f) ⟨F.2.2.2.1, hl, ⟨_, _, _, by rw [d1] at hi; exact hi⟩, hst⟩ (by rw [q2]; exact h6) q1 q3 (by rw [hsl]; exact k2_hasslot (q4 k hk)) rfl rfl hd fun H' w1 w2 w3 => ?_
      rw [hsl] at w1 ⊢
      exact fin H' w1 w2 w3

end FRC
