/-! ===== every step of the plain machine is a step of the machine ===== -/
theorem inl_inj {k k' : Cfg} (h : (some (.inl k) : Option SR) = some (.inl k')) : k = k' := Sum.inl.inj (Option.some.inj h)

theorem i_bI {f : Int → Int → Int} {pc : Nat} {ls : PL} {st : List PV} {h : PH} {g : PG} {k : Cfg} (hx : bI f pc ls st h g = some (.inl k)) : ∃ x y s2, st = .inl y :: .inl x :: s2 ∧ k = (pc + 1, ls, .inl (f x y) :: s2, h, g) := by
  unfold bI at hx
  split at hx
  · exact ⟨_, _, _, rfl, (inl_inj hx).symm⟩
  · cases hx
theorem i_bL {f : Int → Int → Int} {pc : Nat} {ls : PL} {st : List PV} {h : PH} {g : PG} {k : Cfg} (hx : bL f pc ls st h g = some (.inl k)) : ∃ x y s2, st = .inr (.inl y) :: .inr (.inl x) :: s2 ∧ k = (pc + 1, ls, .inr (.inl (f x y)) :: s2, h, g) := by
  unfold bL at hx
  split at hx
  · exact ⟨_, _, _, rfl, (inl_inj hx).symm⟩
  · cases hx
theorem i_qI {f : Int → Int → Int} {pc : Nat} {ls : PL} {st : List PV} {h : PH} {g : PG} {k : Cfg} (hx : qI f pc ls st h g = some (.inl k)) : ∃ x y s2, st = .inl y :: .inl x :: s2 ∧ ¬ w32 y = 0 ∧ k = (pc + 1, ls, .inl (f x y) :: s2, h, g) := by
  unfold qI at hx
  split at hx
  · split at hx
    · cases hx
    · rename_i h0
      exact ⟨_, _, _, rfl, h0, (inl_inj hx).symm⟩
  · cases hx
theorem i_qL {f : Int → Int → Int} {pc : Nat} {ls : PL} {st : List PV} {h : PH} {g : PG} {k : Cfg} (hx : qL f pc ls st h g = some (.inl k)) : ∃ x y s2, st = .inr (.inl y) :: .inr (.inl x) :: s2 ∧ ¬ w64 y = 0 ∧ k = (pc + 1, ls, .inr (.inl (f x y)) :: s2, h, g) := by
  unfold qL at hx
  split at hx
  · split at hx
    · cases hx
    · rename_i h0
      exact ⟨_, _, _, rfl, h0, (inl_inj hx).symm⟩
  · cases hx
theorem i_uI {f : Int → Int} {pc : Nat} {ls : PL} {st : List PV} {h : PH} {g : PG} {k : Cfg} (hx : uI f pc ls st h g = some (.inl k)) : ∃ x s2, st = .inl x :: s2 ∧ k = (pc + 1, ls, .inl (f x) :: s2, h, g) := by
  unfold uI at hx
  split at hx
  · exact ⟨_, _, rfl, (inl_inj hx).symm⟩
  · cases hx
theorem i_i2lI {pc : Nat} {ls : PL} {st : List PV} {h : PH} {g : PG} {k : Cfg} (hx : i2lI pc ls st h g = some (.inl k)) : ∃ x s2, st = .inl x :: s2 ∧ k = (pc + 1, ls, .inr (.inl (w32 x)) :: s2, h, g) := by
  unfold i2lI at hx
  split at hx
  · exact ⟨_, _, rfl, (inl_inj hx).symm⟩
  · cases hx
theorem i_l2iI {pc : Nat} {ls : PL} {st : List PV} {h : PH} {g : PG} {k : Cfg} (hx : l2iI pc ls st h g = some (.inl k)) : ∃ x s2, st = .inr (.inl x) :: s2 ∧ k = (pc + 1, ls, .inl x :: s2, h, g) := by
  unfold l2iI at hx
  split at hx
  · exact ⟨_, _, rfl, (inl_inj hx).symm⟩
  · cases hx
theorem i_negL {pc : Nat} {ls : PL} {st : List PV} {h : PH} {g : PG} {k : Cfg} (hx : negL pc ls st h g = some (.inl k)) : ∃ x s2, st = .inr (.inl x) :: s2 ∧ k = (pc + 1, ls, .inr (.inl (-x)) :: s2, h, g) := by
  unfold negL at hx
  split at hx
  · exact ⟨_, _, rfl, (inl_inj hx).symm⟩
  · cases hx
theorem i_lcmpI {pc : Nat} {ls : PL} {st : List PV} {h : PH} {g : PG} {k : Cfg} (hx : lcmpI pc ls st h g = some (.inl k)) : ∃ x y s2, st = .inr (.inl y) :: .inr (.inl x) :: s2 ∧ k = (pc + 1, ls, .inl (cmpL x y) :: s2, h, g) := by
  unfold lcmpI at hx
  split at hx
  · exact ⟨_, _, _, rfl, (inl_inj hx).symm⟩
  · cases hx
theorem i_dup1 {pc : Nat} {ls : PL} {st : List PV} {h : PH} {g : PG} {k : Cfg} (hx : dup1 pc ls st h g = some (.inl k)) : ∃ v s2, st = v :: s2 ∧ pcat v = 1 ∧ k = (pc + 1, ls, v :: v :: s2, h, g) := by
  unfold dup1 at hx
  split at hx
  · split at hx
    · rename_i h0
      exact ⟨_, _, rfl, h0, (inl_inj hx).symm⟩
    · cases hx
  · cases hx
theorem i_pop1 {pc : Nat} {ls : PL} {st : List PV} {h : PH} {g : PG} {k : Cfg} (hx : pop1 pc ls st h g = some (.inl k)) : ∃ v s2, st = v :: s2 ∧ pcat v = 1 ∧ k = (pc + 1, ls, s2, h, g) := by
  unfold pop1 at hx
  split at hx
  · split at hx
    · rename_i h0
      exact ⟨_, _, rfl, h0, (inl_inj hx).symm⟩
    · cases hx
  · cases hx
theorem i_pop22 {pc : Nat} {ls : PL} {st : List PV} {h : PH} {g : PG} {k : Cfg} (hx : pop22 pc ls st h g = some (.inl k)) : ∃ v s2, st = v :: s2 ∧ pcat v = 2 ∧ k = (pc + 1, ls, s2, h, g) := by
  unfold pop22 at hx
  split at hx
  · split at hx
    · rename_i h0
      exact ⟨_, _, rfl, h0, (inl_inj hx).symm⟩
    · cases hx
  · cases hx
theorem i_dup2 {pc : Nat} {ls : PL} {st : List PV} {h : PH} {g : PG} {k : Cfg} (hx : dup2 pc ls st h g = some (.inl k)) : ∃ v w s2, st = v :: w :: s2 ∧ pcat v = 1 ∧ pcat w = 1 ∧ k = (pc + 1, ls, v :: w :: v :: w :: s2, h, g) := by
  unfold dup2 at hx
  split at hx
  · split at hx
    · rename_i h0
      exact ⟨_, _, _, rfl, h0.1, h0.2, (inl_inj hx).symm⟩
    · cases hx
  · cases hx
theorem i_dupx {pc : Nat} {ls : PL} {st : List PV} {h : PH} {g : PG} {k : Cfg} (hx : dupx pc ls st h g = some (.inl k)) : ∃ v w s2, st = v :: w :: s2 ∧ pcat v = 1 ∧ pcat w = 1 ∧ k = (pc + 1, ls, v :: w :: v :: s2, h, g) := by
  unfold dupx at hx
  split at hx
  · split at hx
    · rename_i h0
      exact ⟨_, _, _, rfl, h0.1, h0.2, (inl_inj hx).symm⟩
    · cases hx
  · cases hx
theorem i_jmp {off : Int} {pc : Nat} {ls : PL} {st : List PV} {h : PH} {g : PG} {k : Cfg} (hx : jmp pc off ls st h g = some (.inl k)) : 0 ≤ (pc : Int) + off ∧ k = (tgtOf pc off, ls, st, h, g) := by
  unfold jmp at hx
  split at hx
  · rename_i h0
    exact ⟨h0, (inl_inj hx).symm⟩
  · cases hx
theorem i_jc {q : ClassFile.Cond} {x y off : Int} {pc : Nat} {ls : PL} {st : List PV} {h : PH} {g : PG} {k : Cfg} (hx : jc q x y pc off ls st h g = some (.inl k)) : 0 ≤ (pc : Int) + off ∧ ((ccmp q x y = true ∧ k = (tgtOf pc off, ls, st, h, g)) ∨ (ccmp q x y = false ∧ k = (pc + 3, ls, st, h, g))) := by
  unfold jc at hx
  split at hx
  · rename_i h0
    split at hx
    · rename_i h1
      exact ⟨h0, Or.inl ⟨h1, (inl_inj hx).symm⟩⟩
    · rename_i h1
      exact ⟨h0, Or.inr ⟨nft h1, (inl_inj hx).symm⟩⟩
  · cases hx
theorem i_ldv {i len k9 : Nat} {pc : Nat} {ls : PL} {st : List PV} {h : PH} {g : PG} {k : Cfg} (hx : ldv i len pc k9 ls st h g = some (.inl k)) : (∃ x, k9 = 0 ∧ lget ls i = some (.inl x) ∧ k = (pc + len, ls, .inl x :: st, h, g)) ∨ (∃ x, k9 = 1 ∧ lget ls i = some (.inr (.inl x)) ∧ k = (pc + len, ls, .inr (.inl x) :: st, h, g)) ∨ (∃ x, k9 = 2 ∧ lget ls i = some (.inr (.inr x)) ∧ k = (pc + len, ls, .inr (.inr x) :: st, h, g)) := by
  unfold ldv at hx
  split at hx
  · rename_i h0
    exact Or.inl ⟨_, rfl, h0, (inl_inj hx).symm⟩
  · rename_i h0
    exact Or.inr (Or.inl ⟨_, rfl, h0, (inl_inj hx).symm⟩)
  · rename_i h0
    exact Or.inr (Or.inr ⟨_, rfl, h0, (inl_inj hx).symm⟩)
  · cases hx
theorem i_st1 {i len : Nat} {v : PV} {pc : Nat} {ls : PL} {st : List PV} {h : PH} {g : PG} {k : Cfg} (hx : st1 i len pc v ls st h g = some (.inl k)) : i < ls.length ∧ lfree ls i = true ∧ k = (pc + len, ls.set i (some v), st, h, g) := by
  unfold st1 at hx
  split at hx
  · rename_i h0
    exact ⟨h0.1, h0.2, (inl_inj hx).symm⟩
  · cases hx
theorem i_st2 {i len : Nat} {v : PV} {pc : Nat} {ls : PL} {st : List PV} {h : PH} {g : PG} {k : Cfg} (hx : st2 i len pc v ls st h g = some (.inl k)) : i + 1 < ls.length ∧ lfree ls i = true ∧ k = (pc + len, (ls.set i (some v)).set (i + 1) none, st, h, g) := by
  unfold st2 at hx
  split at hx
  · rename_i h0
    exact ⟨h0.1, h0.2, (inl_inj hx).symm⟩
  · cases hx
theorem i_stv {i len k9 : Nat} {pc : Nat} {ls : PL} {st : List PV} {h : PH} {g : PG} {k : Cfg} (hx : stv i len pc k9 ls st h g = some (.inl k)) : (∃ x s2, k9 = 0 ∧ st = .inl x :: s2 ∧ st1 i len pc (.inl x) ls s2 h g = some (.inl k)) ∨ (∃ x s2, k9 = 1 ∧ st = .inr (.inl x) :: s2 ∧ st2 i len pc (.inr (.inl x)) ls s2 h g = some (.inl k)) ∨ (∃ x s2, k9 = 2 ∧ st = .inr (.inr x) :: s2 ∧ st1 i len pc (.inr (.inr x)) ls s2 h g = some (.inl k)) := by
  unfold stv at hx
  split at hx
  · exact Or.inl ⟨_, _, rfl, rfl, hx⟩
  · exact Or.inr (Or.inl ⟨_, _, rfl, rfl, hx⟩)
  · exact Or.inr (Or.inr ⟨_, _, rfl, rfl, hx⟩)
  · cases hx
theorem no17_all : (List.range nCell).all (fun a => decide (¬ (shL.getD a (99, 0)).1 = 17)) = true := by decide +kernel
theorem no17 {a : Int} {n : Nat} (ho : isO a 17 n = true) : False := by
  have h1 := (isO_sh ho (by decide)).1
  by_cases h2 : a.toNat < nCell
  · have h3 := List.all_eq_true.mp no17_all a.toNat (List.mem_range.mpr h2)
    simp only [decide_eq_true_eq] at h3
    exact h3 h1
  · rw [List.getD_eq_getElem?_getD, List.getElem?_eq_none (by exact Nat.le_of_not_lt h2)] at h1
    simp at h1
theorem roK_12 (a : Int) : ¬ roK a = 12 := by
  unfold roK
  split
  · decide
  · split <;> decide
theorem roK_10 {a : Int} (h : roK a < 99) : roK a = 10 ∨ roK a = 17 := by
  unfold roK at h ⊢
  split
  · exact Or.inl rfl
  · rename_i h1
    rw [if_neg h1] at h
    split
    · exact Or.inr rfl
    · rename_i h2
      rw [if_neg h2] at h
      omega
theorem roN_0 {z : Int → Int} (hz : 0 ≤ z (-1)) {a : Int} (h : roK a < 99) : 0 ≤ roN z a := by
  unfold roN
  split
  · exact hz
  · omega
theorem no98_all : (List.range nCell).all (fun a => decide (¬ (shL.getD a (99, 0)).1 = 98)) = true := by decide +kernel
theorem elt_k {v : Int} {k n : Nat} (h : isO v (eltK k) n = true) : k = 13 ∨ k = 14 ∨ k = 15 := by
  by_cases h1 : k = 13
  · exact Or.inl h1
  · by_cases h2 : k = 14
    · exact Or.inr (Or.inl h2)
    · by_cases h3 : k = 15
      · exact Or.inr (Or.inr h3)
      · exfalso
        have e : eltK k = 98 := by
          unfold eltK
          rw [if_neg h1, if_neg h2, if_neg h3]
        rw [e] at h
        have h4 := (isO_sh h (by decide)).1
        by_cases h5 : v.toNat < nCell
        · have h6 := List.all_eq_true.mp no98_all v.toNat (List.mem_range.mpr h5)
          simp only [decide_eq_true_eq] at h6
          exact h6 h4
        · rw [List.getD_eq_getElem?_getD, List.getElem?_eq_none (by exact Nat.le_of_not_lt h5)] at h4
          simp at h4
theorem nar_c {v : Int} (h : 0 ≤ v ∧ v ≤ 65535) : narrow .char (.int (Int32.ofInt v)) = .int (Int32.ofInt v) := by
  have h1 := pk_charN (q := v.toNat) (by omega)
  have h2 : nI v.toNat = Int32.ofInt v := by
    unfold nI
    rw [← Int32.ofInt_eq_ofNat, Int.toNat_of_nonneg h.1]
  rw [h2] at h1
  exact h1.1
def RoomOK (R : Room) (mi : Nat) (n0 : Nat) (n' : Nat) : Prop := mF mi ≤ R.frames ∧ mW mi ≤ R.locals ∧ n' - n0 ≤ R.cells ∧ sl n' - sl n0 ≤ R.slots
section FRG
variable {base : Nat} {ad : Int → Nat} {z : Int → Int} {cA : Nat → ClassId} {D : va_G} {n0 mi : Nat} {p : Program} {l : Launch} {e : Env} {R : Room} {s : State} {m : MethodId} {args : Array Value} {below : List Frame} {meth : Method} {c : Code} {Q : State → Prop}
variable {pc : Nat} {ls : PL} {st : List PV} {h : PH} {g : PG} {k : Cfg}
theorem n_iadd  (hd : decode (mC mi) pc = .ok (.iadd, 1)) (hx : bI (· + ·) pc ls st h g = some (.inl k)) : g.1 ≤ k.2.2.2.2.1 ∧ (g.1 ≤ nCell → k.2.2.2.2.1 ≤ nCell) ∧ ∀ (_ : FO base ad z cA D p s m args meth c mi) (_ : RoomOK R mi n0 k.2.2.2.2.1) (_ : n0 ≤ g.1) (_ : WG base ad cA D n0 mi p l e R s m args below meth c Q k), WG base ad cA D n0 mi p l e R s m args below meth c Q (pc, ls, st, h, g) := by
  obtain ⟨x, y, s2, rfl, rfl⟩ := i_bI hx
  exact ⟨Nat.le_refl _, fun q => q, fun F _ _ k9 => s_iadd F hd k9⟩
theorem n_isub  (hd : decode (mC mi) pc = .ok (.isub, 1)) (hx : bI (· - ·) pc ls st h g = some (.inl k)) : g.1 ≤ k.2.2.2.2.1 ∧ (g.1 ≤ nCell → k.2.2.2.2.1 ≤ nCell) ∧ ∀ (_ : FO base ad z cA D p s m args meth c mi) (_ : RoomOK R mi n0 k.2.2.2.2.1) (_ : n0 ≤ g.1) (_ : WG base ad cA D n0 mi p l e R s m args below meth c Q k), WG base ad cA D n0 mi p l e R s m args below meth c Q (pc, ls, st, h, g) := by
  obtain ⟨x, y, s2, rfl, rfl⟩ := i_bI hx
  exact ⟨Nat.le_refl _, fun q => q, fun F _ _ k9 => s_isub F hd k9⟩
theorem n_imul  (hd : decode (mC mi) pc = .ok (.imul, 1)) (hx : bI (· * ·) pc ls st h g = some (.inl k)) : g.1 ≤ k.2.2.2.2.1 ∧ (g.1 ≤ nCell → k.2.2.2.2.1 ≤ nCell) ∧ ∀ (_ : FO base ad z cA D p s m args meth c mi) (_ : RoomOK R mi n0 k.2.2.2.2.1) (_ : n0 ≤ g.1) (_ : WG base ad cA D n0 mi p l e R s m args below meth c Q k), WG base ad cA D n0 mi p l e R s m args below meth c Q (pc, ls, st, h, g) := by
  obtain ⟨x, y, s2, rfl, rfl⟩ := i_bI hx
  exact ⟨Nat.le_refl _, fun q => q, fun F _ _ k9 => s_imul F hd k9⟩
theorem n_iand  (hd : decode (mC mi) pc = .ok (.iand, 1)) (hx : bI andI pc ls st h g = some (.inl k)) : g.1 ≤ k.2.2.2.2.1 ∧ (g.1 ≤ nCell → k.2.2.2.2.1 ≤ nCell) ∧ ∀ (_ : FO base ad z cA D p s m args meth c mi) (_ : RoomOK R mi n0 k.2.2.2.2.1) (_ : n0 ≤ g.1) (_ : WG base ad cA D n0 mi p l e R s m args below meth c Q k), WG base ad cA D n0 mi p l e R s m args below meth c Q (pc, ls, st, h, g) := by
  obtain ⟨x, y, s2, rfl, rfl⟩ := i_bI hx
  exact ⟨Nat.le_refl _, fun q => q, fun F _ _ k9 => s_iand F hd k9⟩
theorem n_ior  (hd : decode (mC mi) pc = .ok (.ior, 1)) (hx : bI orI pc ls st h g = some (.inl k)) : g.1 ≤ k.2.2.2.2.1 ∧ (g.1 ≤ nCell → k.2.2.2.2.1 ≤ nCell) ∧ ∀ (_ : FO base ad z cA D p s m args meth c mi) (_ : RoomOK R mi n0 k.2.2.2.2.1) (_ : n0 ≤ g.1) (_ : WG base ad cA D n0 mi p l e R s m args below meth c Q k), WG base ad cA D n0 mi p l e R s m args below meth c Q (pc, ls, st, h, g) := by
  obtain ⟨x, y, s2, rfl, rfl⟩ := i_bI hx
  exact ⟨Nat.le_refl _, fun q => q, fun F _ _ k9 => s_ior F hd k9⟩
theorem n_ixor  (hd : decode (mC mi) pc = .ok (.ixor, 1)) (hx : bI xorI pc ls st h g = some (.inl k)) : g.1 ≤ k.2.2.2.2.1 ∧ (g.1 ≤ nCell → k.2.2.2.2.1 ≤ nCell) ∧ ∀ (_ : FO base ad z cA D p s m args meth c mi) (_ : RoomOK R mi n0 k.2.2.2.2.1) (_ : n0 ≤ g.1) (_ : WG base ad cA D n0 mi p l e R s m args below meth c Q k), WG base ad cA D n0 mi p l e R s m args below meth c Q (pc, ls, st, h, g) := by
  obtain ⟨x, y, s2, rfl, rfl⟩ := i_bI hx
  exact ⟨Nat.le_refl _, fun q => q, fun F _ _ k9 => s_ixor F hd k9⟩
theorem n_ishl  (hd : decode (mC mi) pc = .ok (.ishl, 1)) (hx : bI shlI pc ls st h g = some (.inl k)) : g.1 ≤ k.2.2.2.2.1 ∧ (g.1 ≤ nCell → k.2.2.2.2.1 ≤ nCell) ∧ ∀ (_ : FO base ad z cA D p s m args meth c mi) (_ : RoomOK R mi n0 k.2.2.2.2.1) (_ : n0 ≤ g.1) (_ : WG base ad cA D n0 mi p l e R s m args below meth c Q k), WG base ad cA D n0 mi p l e R s m args below meth c Q (pc, ls, st, h, g) := by
  obtain ⟨x, y, s2, rfl, rfl⟩ := i_bI hx
  exact ⟨Nat.le_refl _, fun q => q, fun F _ _ k9 => s_ishl F hd k9⟩
theorem n_ishr  (hd : decode (mC mi) pc = .ok (.ishr, 1)) (hx : bI shrI pc ls st h g = some (.inl k)) : g.1 ≤ k.2.2.2.2.1 ∧ (g.1 ≤ nCell → k.2.2.2.2.1 ≤ nCell) ∧ ∀ (_ : FO base ad z cA D p s m args meth c mi) (_ : RoomOK R mi n0 k.2.2.2.2.1) (_ : n0 ≤ g.1) (_ : WG base ad cA D n0 mi p l e R s m args below meth c Q k), WG base ad cA D n0 mi p l e R s m args below meth c Q (pc, ls, st, h, g) := by
  obtain ⟨x, y, s2, rfl, rfl⟩ := i_bI hx
  exact ⟨Nat.le_refl _, fun q => q, fun F _ _ k9 => s_ishr F hd k9⟩
theorem n_iushr  (hd : decode (mC mi) pc = .ok (.iushr, 1)) (hx : bI ushrI pc ls st h g = some (.inl k)) : g.1 ≤ k.2.2.2.2.1 ∧ (g.1 ≤ nCell → k.2.2.2.2.1 ≤ nCell) ∧ ∀ (_ : FO base ad z cA D p s m args meth c mi) (_ : RoomOK R mi n0 k.2.2.2.2.1) (_ : n0 ≤ g.1) (_ : WG base ad cA D n0 mi p l e R s m args below meth c Q k), WG base ad cA D n0 mi p l e R s m args below meth c Q (pc, ls, st, h, g) := by
  obtain ⟨x, y, s2, rfl, rfl⟩ := i_bI hx
  exact ⟨Nat.le_refl _, fun q => q, fun F _ _ k9 => s_iushr F hd k9⟩
theorem n_ladd  (hd : decode (mC mi) pc = .ok (.ladd, 1)) (hx : bL (· + ·) pc ls st h g = some (.inl k)) : g.1 ≤ k.2.2.2.2.1 ∧ (g.1 ≤ nCell → k.2.2.2.2.1 ≤ nCell) ∧ ∀ (_ : FO base ad z cA D p s m args meth c mi) (_ : RoomOK R mi n0 k.2.2.2.2.1) (_ : n0 ≤ g.1) (_ : WG base ad cA D n0 mi p l e R s m args below meth c Q k), WG base ad cA D n0 mi p l e R s m args below meth c Q (pc, ls, st, h, g) := by
  obtain ⟨x, y, s2, rfl, rfl⟩ := i_bL hx
  exact ⟨Nat.le_refl _, fun q => q, fun F _ _ k9 => s_ladd F hd k9⟩
theorem n_lsub  (hd : decode (mC mi) pc = .ok (.lsub, 1)) (hx : bL (· - ·) pc ls st h g = some (.inl k)) : g.1 ≤ k.2.2.2.2.1 ∧ (g.1 ≤ nCell → k.2.2.2.2.1 ≤ nCell) ∧ ∀ (_ : FO base ad z cA D p s m args meth c mi) (_ : RoomOK R mi n0 k.2.2.2.2.1) (_ : n0 ≤ g.1) (_ : WG base ad cA D n0 mi p l e R s m args below meth c Q k), WG base ad cA D n0 mi p l e R s m args below meth c Q (pc, ls, st, h, g) := by
  obtain ⟨x, y, s2, rfl, rfl⟩ := i_bL hx
  exact ⟨Nat.le_refl _, fun q => q, fun F _ _ k9 => s_lsub F hd k9⟩
theorem n_lmul  (hd : decode (mC mi) pc = .ok (.lmul, 1)) (hx : bL (· * ·) pc ls st h g = some (.inl k)) : g.1 ≤ k.2.2.2.2.1 ∧ (g.1 ≤ nCell → k.2.2.2.2.1 ≤ nCell) ∧ ∀ (_ : FO base ad z cA D p s m args meth c mi) (_ : RoomOK R mi n0 k.2.2.2.2.1) (_ : n0 ≤ g.1) (_ : WG base ad cA D n0 mi p l e R s m args below meth c Q k), WG base ad cA D n0 mi p l e R s m args below meth c Q (pc, ls, st, h, g) := by
  obtain ⟨x, y, s2, rfl, rfl⟩ := i_bL hx
  exact ⟨Nat.le_refl _, fun q => q, fun F _ _ k9 => s_lmul F hd k9⟩
theorem n_idiv  (hd : decode (mC mi) pc = .ok (.idiv, 1)) (hx : qI divI pc ls st h g = some (.inl k)) : g.1 ≤ k.2.2.2.2.1 ∧ (g.1 ≤ nCell → k.2.2.2.2.1 ≤ nCell) ∧ ∀ (_ : FO base ad z cA D p s m args meth c mi) (_ : RoomOK R mi n0 k.2.2.2.2.1) (_ : n0 ≤ g.1) (_ : WG base ad cA D n0 mi p l e R s m args below meth c Q k), WG base ad cA D n0 mi p l e R s m args below meth c Q (pc, ls, st, h, g) := by
  obtain ⟨x, y, s2, rfl, h0, rfl⟩ := i_qI hx
  exact ⟨Nat.le_refl _, fun q => q, fun F _ _ k9 => s_idiv F hd h0 k9⟩
theorem n_irem  (hd : decode (mC mi) pc = .ok (.irem, 1)) (hx : qI remI pc ls st h g = some (.inl k)) : g.1 ≤ k.2.2.2.2.1 ∧ (g.1 ≤ nCell → k.2.2.2.2.1 ≤ nCell) ∧ ∀ (_ : FO base ad z cA D p s m args meth c mi) (_ : RoomOK R mi n0 k.2.2.2.2.1) (_ : n0 ≤ g.1) (_ : WG base ad cA D n0 mi p l e R s m args below meth c Q k), WG base ad cA D n0 mi p l e R s m args below meth c Q (pc, ls, st, h, g) := by
  obtain ⟨x, y, s2, rfl, h0, rfl⟩ := i_qI hx
  exact ⟨Nat.le_refl _, fun q => q, fun F _ _ k9 => s_irem F hd h0 k9⟩
theorem n_ldiv  (hd : decode (mC mi) pc = .ok (.ldiv, 1)) (hx : qL divL pc ls st h g = some (.inl k)) : g.1 ≤ k.2.2.2.2.1 ∧ (g.1 ≤ nCell → k.2.2.2.2.1 ≤ nCell) ∧ ∀ (_ : FO base ad z cA D p s m args meth c mi) (_ : RoomOK R mi n0 k.2.2.2.2.1) (_ : n0 ≤ g.1) (_ : WG base ad cA D n0 mi p l e R s m args below meth c Q k), WG base ad cA D n0 mi p l e R s m args below meth c Q (pc, ls, st, h, g) := by
  obtain ⟨x, y, s2, rfl, h0, rfl⟩ := i_qL hx
  exact ⟨Nat.le_refl _, fun q => q, fun F _ _ k9 => s_ldiv F hd h0 k9⟩
theorem n_lrem  (hd : decode (mC mi) pc = .ok (.lrem, 1)) (hx : qL remL pc ls st h g = some (.inl k)) : g.1 ≤ k.2.2.2.2.1 ∧ (g.1 ≤ nCell → k.2.2.2.2.1 ≤ nCell) ∧ ∀ (_ : FO base ad z cA D p s m args meth c mi) (_ : RoomOK R mi n0 k.2.2.2.2.1) (_ : n0 ≤ g.1) (_ : WG base ad cA D n0 mi p l e R s m args below meth c Q k), WG base ad cA D n0 mi p l e R s m args below meth c Q (pc, ls, st, h, g) := by
  obtain ⟨x, y, s2, rfl, h0, rfl⟩ := i_qL hx
  exact ⟨Nat.le_refl _, fun q => q, fun F _ _ k9 => s_lrem F hd h0 k9⟩
theorem n_ineg  (hd : decode (mC mi) pc = .ok (.ineg, 1)) (hx : uI (- ·) pc ls st h g = some (.inl k)) : g.1 ≤ k.2.2.2.2.1 ∧ (g.1 ≤ nCell → k.2.2.2.2.1 ≤ nCell) ∧ ∀ (_ : FO base ad z cA D p s m args meth c mi) (_ : RoomOK R mi n0 k.2.2.2.2.1) (_ : n0 ≤ g.1) (_ : WG base ad cA D n0 mi p l e R s m args below meth c Q k), WG base ad cA D n0 mi p l e R s m args below meth c Q (pc, ls, st, h, g) := by
  obtain ⟨x, s2, rfl, rfl⟩ := i_uI hx
  exact ⟨Nat.le_refl _, fun q => q, fun F _ _ k9 => s_ineg F hd k9⟩
theorem n_i2b  (hd : decode (mC mi) pc = .ok (.i2b, 1)) (hx : uI i2bI pc ls st h g = some (.inl k)) : g.1 ≤ k.2.2.2.2.1 ∧ (g.1 ≤ nCell → k.2.2.2.2.1 ≤ nCell) ∧ ∀ (_ : FO base ad z cA D p s m args meth c mi) (_ : RoomOK R mi n0 k.2.2.2.2.1) (_ : n0 ≤ g.1) (_ : WG base ad cA D n0 mi p l e R s m args below meth c Q k), WG base ad cA D n0 mi p l e R s m args below meth c Q (pc, ls, st, h, g) := by
  obtain ⟨x, s2, rfl, rfl⟩ := i_uI hx
  exact ⟨Nat.le_refl _, fun q => q, fun F _ _ k9 => s_i2b F hd k9⟩
theorem n_i2c  (hd : decode (mC mi) pc = .ok (.i2c, 1)) (hx : uI i2cI pc ls st h g = some (.inl k)) : g.1 ≤ k.2.2.2.2.1 ∧ (g.1 ≤ nCell → k.2.2.2.2.1 ≤ nCell) ∧ ∀ (_ : FO base ad z cA D p s m args meth c mi) (_ : RoomOK R mi n0 k.2.2.2.2.1) (_ : n0 ≤ g.1) (_ : WG base ad cA D n0 mi p l e R s m args below meth c Q k), WG base ad cA D n0 mi p l e R s m args below meth c Q (pc, ls, st, h, g) := by
  obtain ⟨x, s2, rfl, rfl⟩ := i_uI hx
  exact ⟨Nat.le_refl _, fun q => q, fun F _ _ k9 => s_i2c F hd k9⟩
theorem n_i2l  (hd : decode (mC mi) pc = .ok (.i2l, 1)) (hx : i2lI pc ls st h g = some (.inl k)) : g.1 ≤ k.2.2.2.2.1 ∧ (g.1 ≤ nCell → k.2.2.2.2.1 ≤ nCell) ∧ ∀ (_ : FO base ad z cA D p s m args meth c mi) (_ : RoomOK R mi n0 k.2.2.2.2.1) (_ : n0 ≤ g.1) (_ : WG base ad cA D n0 mi p l e R s m args below meth c Q k), WG base ad cA D n0 mi p l e R s m args below meth c Q (pc, ls, st, h, g) := by
  obtain ⟨x, s2, rfl, rfl⟩ := i_i2lI hx
  exact ⟨Nat.le_refl _, fun q => q, fun F _ _ k9 => s_i2l F hd k9⟩
theorem n_l2i  (hd : decode (mC mi) pc = .ok (.l2i, 1)) (hx : l2iI pc ls st h g = some (.inl k)) : g.1 ≤ k.2.2.2.2.1 ∧ (g.1 ≤ nCell → k.2.2.2.2.1 ≤ nCell) ∧ ∀ (_ : FO base ad z cA D p s m args meth c mi) (_ : RoomOK R mi n0 k.2.2.2.2.1) (_ : n0 ≤ g.1) (_ : WG base ad cA D n0 mi p l e R s m args below meth c Q k), WG base ad cA D n0 mi p l e R s m args below meth c Q (pc, ls, st, h, g) := by
  obtain ⟨x, s2, rfl, rfl⟩ := i_l2iI hx
  exact ⟨Nat.le_refl _, fun q => q, fun F _ _ k9 => s_l2i F hd k9⟩
theorem n_lneg  (hd : decode (mC mi) pc = .ok (.lneg, 1)) (hx : negL pc ls st h g = some (.inl k)) : g.1 ≤ k.2.2.2.2.1 ∧ (g.1 ≤ nCell → k.2.2.2.2.1 ≤ nCell) ∧ ∀ (_ : FO base ad z cA D p s m args meth c mi) (_ : RoomOK R mi n0 k.2.2.2.2.1) (_ : n0 ≤ g.1) (_ : WG base ad cA D n0 mi p l e R s m args below meth c Q k), WG base ad cA D n0 mi p l e R s m args below meth c Q (pc, ls, st, h, g) := by
  obtain ⟨x, s2, rfl, rfl⟩ := i_negL hx
  exact ⟨Nat.le_refl _, fun q => q, fun F _ _ k9 => s_lneg F hd k9⟩
theorem n_lcmp  (hd : decode (mC mi) pc = .ok (.lcmp, 1)) (hx : lcmpI pc ls st h g = some (.inl k)) : g.1 ≤ k.2.2.2.2.1 ∧ (g.1 ≤ nCell → k.2.2.2.2.1 ≤ nCell) ∧ ∀ (_ : FO base ad z cA D p s m args meth c mi) (_ : RoomOK R mi n0 k.2.2.2.2.1) (_ : n0 ≤ g.1) (_ : WG base ad cA D n0 mi p l e R s m args below meth c Q k), WG base ad cA D n0 mi p l e R s m args below meth c Q (pc, ls, st, h, g) := by
  obtain ⟨x, y, s2, rfl, rfl⟩ := i_lcmpI hx
  exact ⟨Nat.le_refl _, fun q => q, fun F _ _ k9 => s_lcmp F hd k9⟩
theorem n_dup  (hd : decode (mC mi) pc = .ok (.dup, 1)) (hx : dup1 pc ls st h g = some (.inl k)) : g.1 ≤ k.2.2.2.2.1 ∧ (g.1 ≤ nCell → k.2.2.2.2.1 ≤ nCell) ∧ ∀ (_ : FO base ad z cA D p s m args meth c mi) (_ : RoomOK R mi n0 k.2.2.2.2.1) (_ : n0 ≤ g.1) (_ : WG base ad cA D n0 mi p l e R s m args below meth c Q k), WG base ad cA D n0 mi p l e R s m args below meth c Q (pc, ls, st, h, g) := by
  obtain ⟨v, s2, rfl, h0, rfl⟩ := i_dup1 hx
  exact ⟨Nat.le_refl _, fun q => q, fun F _ _ k9 => s_dup F hd h0 k9⟩
theorem n_pop  (hd : decode (mC mi) pc = .ok (.pop, 1)) (hx : pop1 pc ls st h g = some (.inl k)) : g.1 ≤ k.2.2.2.2.1 ∧ (g.1 ≤ nCell → k.2.2.2.2.1 ≤ nCell) ∧ ∀ (_ : FO base ad z cA D p s m args meth c mi) (_ : RoomOK R mi n0 k.2.2.2.2.1) (_ : n0 ≤ g.1) (_ : WG base ad cA D n0 mi p l e R s m args below meth c Q k), WG base ad cA D n0 mi p l e R s m args below meth c Q (pc, ls, st, h, g) := by
  obtain ⟨v, s2, rfl, h0, rfl⟩ := i_pop1 hx
  exact ⟨Nat.le_refl _, fun q => q, fun F _ _ k9 => s_pop F hd h0 k9⟩
theorem n_pop2  (hd : decode (mC mi) pc = .ok (.pop2, 1)) (hx : pop22 pc ls st h g = some (.inl k)) : g.1 ≤ k.2.2.2.2.1 ∧ (g.1 ≤ nCell → k.2.2.2.2.1 ≤ nCell) ∧ ∀ (_ : FO base ad z cA D p s m args meth c mi) (_ : RoomOK R mi n0 k.2.2.2.2.1) (_ : n0 ≤ g.1) (_ : WG base ad cA D n0 mi p l e R s m args below meth c Q k), WG base ad cA D n0 mi p l e R s m args below meth c Q (pc, ls, st, h, g) := by
  obtain ⟨v, s2, rfl, h0, rfl⟩ := i_pop22 hx
  exact ⟨Nat.le_refl _, fun q => q, fun F _ _ k9 => s_pop2 F hd h0 k9⟩
theorem n_dup2  (hd : decode (mC mi) pc = .ok (.dup2, 1)) (hx : dup2 pc ls st h g = some (.inl k)) : g.1 ≤ k.2.2.2.2.1 ∧ (g.1 ≤ nCell → k.2.2.2.2.1 ≤ nCell) ∧ ∀ (_ : FO base ad z cA D p s m args meth c mi) (_ : RoomOK R mi n0 k.2.2.2.2.1) (_ : n0 ≤ g.1) (_ : WG base ad cA D n0 mi p l e R s m args below meth c Q k), WG base ad cA D n0 mi p l e R s m args below meth c Q (pc, ls, st, h, g) := by
  obtain ⟨v, w, s2, rfl, h0, h1, rfl⟩ := i_dup2 hx
  exact ⟨Nat.le_refl _, fun q => q, fun F _ _ k9 => s_dup2 F hd h0 h1 k9⟩
theorem n_dup_x1  (hd : decode (mC mi) pc = .ok (.dup_x1, 1)) (hx : dupx pc ls st h g = some (.inl k)) : g.1 ≤ k.2.2.2.2.1 ∧ (g.1 ≤ nCell → k.2.2.2.2.1 ≤ nCell) ∧ ∀ (_ : FO base ad z cA D p s m args meth c mi) (_ : RoomOK R mi n0 k.2.2.2.2.1) (_ : n0 ≤ g.1) (_ : WG base ad cA D n0 mi p l e R s m args below meth c Q k), WG base ad cA D n0 mi p l e R s m args below meth c Q (pc, ls, st, h, g) := by
  obtain ⟨v, w, s2, rfl, h0, h1, rfl⟩ := i_dupx hx
  exact ⟨Nat.le_refl _, fun q => q, fun F _ _ k9 => s_dup_x1 F hd h0 h1 k9⟩
theorem n_goto {off : Int} (hd : decode (mC mi) pc = .ok (.goto off, 3)) (hx : jmp pc off ls st h g = some (.inl k)) : g.1 ≤ k.2.2.2.2.1 ∧ (g.1 ≤ nCell → k.2.2.2.2.1 ≤ nCell) ∧ ∀ (_ : FO base ad z cA D p s m args meth c mi) (_ : RoomOK R mi n0 k.2.2.2.2.1) (_ : n0 ≤ g.1) (_ : WG base ad cA D n0 mi p l e R s m args below meth c Q k), WG base ad cA D n0 mi p l e R s m args below meth c Q (pc, ls, st, h, g) := by
  obtain ⟨h0, rfl⟩ := i_jmp hx
  exact ⟨Nat.le_refl _, fun q => q, fun F _ _ k9 => s_goto F hd h0 k9⟩
theorem n_iload_n {i : Fin 4} (hd : decode (mC mi) pc = .ok (.iload_n i, 1)) (hx : ldv i 1 pc 0 ls st h g = some (.inl k)) : g.1 ≤ k.2.2.2.2.1 ∧ (g.1 ≤ nCell → k.2.2.2.2.1 ≤ nCell) ∧ ∀ (_ : FO base ad z cA D p s m args meth c mi) (_ : RoomOK R mi n0 k.2.2.2.2.1) (_ : n0 ≤ g.1) (_ : WG base ad cA D n0 mi p l e R s m args below meth c Q k), WG base ad cA D n0 mi p l e R s m args below meth c Q (pc, ls, st, h, g) := by
  rcases i_ldv hx with ⟨x, q, h0, rfl⟩ | ⟨x, q, h0, rfl⟩ | ⟨x, q, h0, rfl⟩
  · exact ⟨Nat.le_refl _, fun q => q, fun F _ _ k9 => s_iload_n F hd h0 k9⟩
  · cases q
  · cases q
theorem n_iload {i : Nat} (hd : decode (mC mi) pc = .ok (.iload i, 2)) (hx : ldv i 2 pc 0 ls st h g = some (.inl k)) : g.1 ≤ k.2.2.2.2.1 ∧ (g.1 ≤ nCell → k.2.2.2.2.1 ≤ nCell) ∧ ∀ (_ : FO base ad z cA D p s m args meth c mi) (_ : RoomOK R mi n0 k.2.2.2.2.1) (_ : n0 ≤ g.1) (_ : WG base ad cA D n0 mi p l e R s m args below meth c Q k), WG base ad cA D n0 mi p l e R s m args below meth c Q (pc, ls, st, h, g) := by
  rcases i_ldv hx with ⟨x, q, h0, rfl⟩ | ⟨x, q, h0, rfl⟩ | ⟨x, q, h0, rfl⟩
  · exact ⟨Nat.le_refl _, fun q => q, fun F _ _ k9 => s_iload F hd h0 k9⟩
  · cases q
  · cases q
theorem n_lload_n {i : Fin 4} (hd : decode (mC mi) pc = .ok (.lload_n i, 1)) (hx : ldv i 1 pc 1 ls st h g = some (.inl k)) : g.1 ≤ k.2.2.2.2.1 ∧ (g.1 ≤ nCell → k.2.2.2.2.1 ≤ nCell) ∧ ∀ (_ : FO base ad z cA D p s m args meth c mi) (_ : RoomOK R mi n0 k.2.2.2.2.1) (_ : n0 ≤ g.1) (_ : WG base ad cA D n0 mi p l e R s m args below meth c Q k), WG base ad cA D n0 mi p l e R s m args below meth c Q (pc, ls, st, h, g) := by
  rcases i_ldv hx with ⟨x, q, h0, rfl⟩ | ⟨x, q, h0, rfl⟩ | ⟨x, q, h0, rfl⟩
  · cases q
  · exact ⟨Nat.le_refl _, fun q => q, fun F _ _ k9 => s_lload_n F hd h0 k9⟩
  · cases q
theorem n_lload {i : Nat} (hd : decode (mC mi) pc = .ok (.lload i, 2)) (hx : ldv i 2 pc 1 ls st h g = some (.inl k)) : g.1 ≤ k.2.2.2.2.1 ∧ (g.1 ≤ nCell → k.2.2.2.2.1 ≤ nCell) ∧ ∀ (_ : FO base ad z cA D p s m args meth c mi) (_ : RoomOK R mi n0 k.2.2.2.2.1) (_ : n0 ≤ g.1) (_ : WG base ad cA D n0 mi p l e R s m args below meth c Q k), WG base ad cA D n0 mi p l e R s m args below meth c Q (pc, ls, st, h, g) := by
  rcases i_ldv hx with ⟨x, q, h0, rfl⟩ | ⟨x, q, h0, rfl⟩ | ⟨x, q, h0, rfl⟩
  · cases q
  · exact ⟨Nat.le_refl _, fun q => q, fun F _ _ k9 => s_lload F hd h0 k9⟩
  · cases q
theorem n_aload_n {i : Fin 4} (hd : decode (mC mi) pc = .ok (.aload_n i, 1)) (hx : ldv i 1 pc 2 ls st h g = some (.inl k)) : g.1 ≤ k.2.2.2.2.1 ∧ (g.1 ≤ nCell → k.2.2.2.2.1 ≤ nCell) ∧ ∀ (_ : FO base ad z cA D p s m args meth c mi) (_ : RoomOK R mi n0 k.2.2.2.2.1) (_ : n0 ≤ g.1) (_ : WG base ad cA D n0 mi p l e R s m args below meth c Q k), WG base ad cA D n0 mi p l e R s m args below meth c Q (pc, ls, st, h, g) := by
  rcases i_ldv hx with ⟨x, q, h0, rfl⟩ | ⟨x, q, h0, rfl⟩ | ⟨x, q, h0, rfl⟩
  · cases q
  · cases q
  · exact ⟨Nat.le_refl _, fun q => q, fun F _ _ k9 => s_aload_n F hd h0 k9⟩
theorem n_aload {i : Nat} (hd : decode (mC mi) pc = .ok (.aload i, 2)) (hx : ldv i 2 pc 2 ls st h g = some (.inl k)) : g.1 ≤ k.2.2.2.2.1 ∧ (g.1 ≤ nCell → k.2.2.2.2.1 ≤ nCell) ∧ ∀ (_ : FO base ad z cA D p s m args meth c mi) (_ : RoomOK R mi n0 k.2.2.2.2.1) (_ : n0 ≤ g.1) (_ : WG base ad cA D n0 mi p l e R s m args below meth c Q k), WG base ad cA D n0 mi p l e R s m args below meth c Q (pc, ls, st, h, g) := by
  rcases i_ldv hx with ⟨x, q, h0, rfl⟩ | ⟨x, q, h0, rfl⟩ | ⟨x, q, h0, rfl⟩
  · cases q
  · cases q
  · exact ⟨Nat.le_refl _, fun q => q, fun F _ _ k9 => s_aload F hd h0 k9⟩
theorem n_istore_n {i : Fin 4} (hd : decode (mC mi) pc = .ok (.istore_n i, 1)) (hx : stv i 1 pc 0 ls st h g = some (.inl k)) : g.1 ≤ k.2.2.2.2.1 ∧ (g.1 ≤ nCell → k.2.2.2.2.1 ≤ nCell) ∧ ∀ (_ : FO base ad z cA D p s m args meth c mi) (_ : RoomOK R mi n0 k.2.2.2.2.1) (_ : n0 ≤ g.1) (_ : WG base ad cA D n0 mi p l e R s m args below meth c Q k), WG base ad cA D n0 mi p l e R s m args below meth c Q (pc, ls, st, h, g) := by
  rcases i_stv hx with ⟨x, s2, q, rfl, h9⟩ | ⟨x, s2, q, rfl, h9⟩ | ⟨x, s2, q, rfl, h9⟩
  · obtain ⟨h0, h1, rfl⟩ := i_st1 h9
    exact ⟨Nat.le_refl _, fun q => q, fun F _ _ k9 => s_istore_n F hd h0 h1 k9⟩
  · cases q
  · cases q
theorem n_istore {i : Nat} (hd : decode (mC mi) pc = .ok (.istore i, 2)) (hx : stv i 2 pc 0 ls st h g = some (.inl k)) : g.1 ≤ k.2.2.2.2.1 ∧ (g.1 ≤ nCell → k.2.2.2.2.1 ≤ nCell) ∧ ∀ (_ : FO base ad z cA D p s m args meth c mi) (_ : RoomOK R mi n0 k.2.2.2.2.1) (_ : n0 ≤ g.1) (_ : WG base ad cA D n0 mi p l e R s m args below meth c Q k), WG base ad cA D n0 mi p l e R s m args below meth c Q (pc, ls, st, h, g) := by
  rcases i_stv hx with ⟨x, s2, q, rfl, h9⟩ | ⟨x, s2, q, rfl, h9⟩ | ⟨x, s2, q, rfl, h9⟩
  · obtain ⟨h0, h1, rfl⟩ := i_st1 h9
    exact ⟨Nat.le_refl _, fun q => q, fun F _ _ k9 => s_istore F hd h0 h1 k9⟩
  · cases q
  · cases q
theorem n_lstore_n {i : Fin 4} (hd : decode (mC mi) pc = .ok (.lstore_n i, 1)) (hx : stv i 1 pc 1 ls st h g = some (.inl k)) : g.1 ≤ k.2.2.2.2.1 ∧ (g.1 ≤ nCell → k.2.2.2.2.1 ≤ nCell) ∧ ∀ (_ : FO base ad z cA D p s m args meth c mi) (_ : RoomOK R mi n0 k.2.2.2.2.1) (_ : n0 ≤ g.1) (_ : WG base ad cA D n0 mi p l e R s m args below meth c Q k), WG base ad cA D n0 mi p l e R s m args below meth c Q (pc, ls, st, h, g) := by
  rcases i_stv hx with ⟨x, s2, q, rfl, h9⟩ | ⟨x, s2, q, rfl, h9⟩ | ⟨x, s2, q, rfl, h9⟩
  · cases q
  · obtain ⟨h0, h1, rfl⟩ := i_st2 h9
    exact ⟨Nat.le_refl _, fun q => q, fun F _ _ k9 => s_lstore_n F hd h0 h1 k9⟩
  · cases q
theorem n_lstore {i : Nat} (hd : decode (mC mi) pc = .ok (.lstore i, 2)) (hx : stv i 2 pc 1 ls st h g = some (.inl k)) : g.1 ≤ k.2.2.2.2.1 ∧ (g.1 ≤ nCell → k.2.2.2.2.1 ≤ nCell) ∧ ∀ (_ : FO base ad z cA D p s m args meth c mi) (_ : RoomOK R mi n0 k.2.2.2.2.1) (_ : n0 ≤ g.1) (_ : WG base ad cA D n0 mi p l e R s m args below meth c Q k), WG base ad cA D n0 mi p l e R s m args below meth c Q (pc, ls, st, h, g) := by
  rcases i_stv hx with ⟨x, s2, q, rfl, h9⟩ | ⟨x, s2, q, rfl, h9⟩ | ⟨x, s2, q, rfl, h9⟩
  · cases q
  · obtain ⟨h0, h1, rfl⟩ := i_st2 h9
    exact ⟨Nat.le_refl _, fun q => q, fun F _ _ k9 => s_lstore F hd h0 h1 k9⟩
  · cases q
theorem n_astore_n {i : Fin 4} (hd : decode (mC mi) pc = .ok (.astore_n i, 1)) (hx : stv i 1 pc 2 ls st h g = some (.inl k)) : g.1 ≤ k.2.2.2.2.1 ∧ (g.1 ≤ nCell → k.2.2.2.2.1 ≤ nCell) ∧ ∀ (_ : FO base ad z cA D p s m args meth c mi) (_ : RoomOK R mi n0 k.2.2.2.2.1) (_ : n0 ≤ g.1) (_ : WG base ad cA D n0 mi p l e R s m args below meth c Q k), WG base ad cA D n0 mi p l e R s m args below meth c Q (pc, ls, st, h, g) := by
  rcases i_stv hx with ⟨x, s2, q, rfl, h9⟩ | ⟨x, s2, q, rfl, h9⟩ | ⟨x, s2, q, rfl, h9⟩
  · cases q
  · cases q
  · obtain ⟨h0, h1, rfl⟩ := i_st1 h9
    exact ⟨Nat.le_refl _, fun q => q, fun F _ _ k9 => s_astore_n F hd h0 h1 k9⟩
theorem n_astore {i : Nat} (hd : decode (mC mi) pc = .ok (.astore i, 2)) (hx : stv i 2 pc 2 ls st h g = some (.inl k)) : g.1 ≤ k.2.2.2.2.1 ∧ (g.1 ≤ nCell → k.2.2.2.2.1 ≤ nCell) ∧ ∀ (_ : FO base ad z cA D p s m args meth c mi) (_ : RoomOK R mi n0 k.2.2.2.2.1) (_ : n0 ≤ g.1) (_ : WG base ad cA D n0 mi p l e R s m args below meth c Q k), WG base ad cA D n0 mi p l e R s m args below meth c Q (pc, ls, st, h, g) := by
  rcases i_stv hx with ⟨x, s2, q, rfl, h9⟩ | ⟨x, s2, q, rfl, h9⟩ | ⟨x, s2, q, rfl, h9⟩
  · cases q
  · cases q
  · obtain ⟨h0, h1, rfl⟩ := i_st1 h9
    exact ⟨Nat.le_refl _, fun q => q, fun F _ _ k9 => s_astore F hd h0 h1 k9⟩
theorem n_iinc {i : Nat} {q : Int} (hd : decode (mC mi) pc = .ok (.iinc i q, 3)) (hx : iinc i q pc ls st h g = some (.inl k)) : g.1 ≤ k.2.2.2.2.1 ∧ (g.1 ≤ nCell → k.2.2.2.2.1 ≤ nCell) ∧ ∀ (_ : FO base ad z cA D p s m args meth c mi) (_ : RoomOK R mi n0 k.2.2.2.2.1) (_ : n0 ≤ g.1) (_ : WG base ad cA D n0 mi p l e R s m args below meth c Q k), WG base ad cA D n0 mi p l e R s m args below meth c Q (pc, ls, st, h, g) := by
  unfold iinc at hx
  split at hx
  · rename_i h2
    obtain ⟨h0, h1, rfl⟩ := i_st1 hx
    exact ⟨Nat.le_refl _, fun q => q, fun F _ _ k9 => s_iinc F hd h2 h0 h1 k9⟩
  · cases hx
theorem n_icmp {q : ClassFile.Cond} {off : Int} (hd : decode (mC mi) pc = .ok (.if_icmp q off, 3)) (hx : (match st with
    | .inl y :: .inl x :: st => jc q x y pc off ls st h g
    | _ => none) = some (.inl k)) : g.1 ≤ k.2.2.2.2.1 ∧ (g.1 ≤ nCell → k.2.2.2.2.1 ≤ nCell) ∧ ∀ (_ : FO base ad z cA D p s m args meth c mi) (_ : RoomOK R mi n0 k.2.2.2.2.1) (_ : n0 ≤ g.1) (_ : WG base ad cA D n0 mi p l e R s m args below meth c Q k), WG base ad cA D n0 mi p l e R s m args below meth c Q (pc, ls, st, h, g) := by
  split at hx
  · obtain ⟨h0, h1⟩ := i_jc hx
    rcases h1 with ⟨h1, rfl⟩ | ⟨h1, rfl⟩
    · exact ⟨Nat.le_refl _, fun q => q, fun F _ _ k9 => s_icmp F hd h0 (fun _ => k9) (fun q => by rw [h1] at q; cases q)⟩
    · exact ⟨Nat.le_refl _, fun q => q, fun F _ _ k9 => s_icmp F hd h0 (fun q => by rw [h1] at q; cases q) (fun _ => k9)⟩
  · cases hx
theorem n_ifc {q : ClassFile.Cond} {off : Int} (hd : decode (mC mi) pc = .ok (.ifCond q off, 3)) (hx : (match st with
    | .inl x :: st => jc q x 0 pc off ls st h g
    | _ => none) = some (.inl k)) : g.1 ≤ k.2.2.2.2.1 ∧ (g.1 ≤ nCell → k.2.2.2.2.1 ≤ nCell) ∧ ∀ (_ : FO base ad z cA D p s m args meth c mi) (_ : RoomOK R mi n0 k.2.2.2.2.1) (_ : n0 ≤ g.1) (_ : WG base ad cA D n0 mi p l e R s m args below meth c Q k), WG base ad cA D n0 mi p l e R s m args below meth c Q (pc, ls, st, h, g) := by
  split at hx
  · obtain ⟨h0, h1⟩ := i_jc hx
    rcases h1 with ⟨h1, rfl⟩ | ⟨h1, rfl⟩
    · exact ⟨Nat.le_refl _, fun q => q, fun F _ _ k9 => s_ifc F hd h0 (fun _ => k9) (fun q => by rw [h1] at q; cases q)⟩
    · exact ⟨Nat.le_refl _, fun q => q, fun F _ _ k9 => s_ifc F hd h0 (fun q => by rw [h1] at q; cases q) (fun _ => k9)⟩
  · cases hx
theorem n_tsw {d lo hi : Int} {os : Array Int} {len : Nat} (hd : decode (mC mi) pc = .ok (.tableswitch d lo hi os, len)) (hx : tsw d lo hi os pc ls st h g = some (.inl k)) : g.1 ≤ k.2.2.2.2.1 ∧ (g.1 ≤ nCell → k.2.2.2.2.1 ≤ nCell) ∧ ∀ (_ : FO base ad z cA D p s m args meth c mi) (_ : RoomOK R mi n0 k.2.2.2.2.1) (_ : n0 ≤ g.1) (_ : WG base ad cA D n0 mi p l e R s m args below meth c Q k), WG base ad cA D n0 mi p l e R s m args below meth c Q (pc, ls, st, h, g) := by
  unfold tsw at hx
  split at hx
  · split at hx
    · rename_i h1
      obtain ⟨h0, rfl⟩ := i_jmp hx
      exact ⟨Nat.le_refl _, fun q => q, fun F _ _ k9 => s_tableOut F hd h1 h0 k9⟩
    · rename_i h1
      split at hx
      · rename_i h2
        obtain ⟨h0, rfl⟩ := i_jmp hx
        exact ⟨Nat.le_refl _, fun q => q, fun F _ _ k9 => s_tableIn F hd h1 h2 h0 k9⟩
      · cases hx
  · cases hx
theorem n_lsw {d : Int} {ps : Array (Int × Int)} {len : Nat} (hd : decode (mC mi) pc = .ok (.lookupswitch d ps, len)) (hx : lsw d ps pc ls st h g = some (.inl k)) : g.1 ≤ k.2.2.2.2.1 ∧ (g.1 ≤ nCell → k.2.2.2.2.1 ≤ nCell) ∧ ∀ (_ : FO base ad z cA D p s m args meth c mi) (_ : RoomOK R mi n0 k.2.2.2.2.1) (_ : n0 ≤ g.1) (_ : WG base ad cA D n0 mi p l e R s m args below meth c Q k), WG base ad cA D n0 mi p l e R s m args below meth c Q (pc, ls, st, h, g) := by
  unfold lsw at hx
  split at hx
  · split at hx
    · rename_i h1
      obtain ⟨h0, rfl⟩ := i_jmp hx
      exact ⟨Nat.le_refl _, fun q => q, fun F _ _ k9 => s_lookup F hd h1 h0 k9⟩
    · cases hx
  · cases hx
theorem n_iaload  (hd : decode (mC mi) pc = .ok (.iaload, 1)) (hx : aldI z 10 pc ls st h g = some (.inl k)) : g.1 ≤ k.2.2.2.2.1 ∧ (g.1 ≤ nCell → k.2.2.2.2.1 ≤ nCell) ∧ ∀ (_ : FO base ad z cA D p s m args meth c mi) (_ : RoomOK R mi n0 k.2.2.2.2.1) (_ : n0 ≤ g.1) (_ : WG base ad cA D n0 mi p l e R s m args below meth c Q k), WG base ad cA D n0 mi p l e R s m args below meth c Q (pc, ls, st, h, g) := by
  unfold aldI at hx
  split at hx
  · split at hx
    · rename_i h1
      unfold ald at h1
      split at h1
      · rename_i ho
        split at h1
        · rename_i hb
          cases h1
          obtain rfl := inl_inj hx
          exact ⟨Nat.le_refl _, fun q => q, fun F _ _ k9 => s_iaload F hd ho hb.1 hb.2 k9⟩
        · cases h1
      · split at h1
        · rename_i hr
          split at h1
          · rename_i hb
            cases h1
            obtain rfl := inl_inj hx
            exact ⟨Nat.le_refl _, fun q => q, fun F _ _ k9 => s_ialoadR F hd hr.1 hb.1 hb.2 k9⟩
          · cases h1
        · cases h1
    · cases hx
  · cases hx
theorem n_baload  (hd : decode (mC mi) pc = .ok (.baload, 1)) (hx : aldI z 17 pc ls st h g = some (.inl k)) : g.1 ≤ k.2.2.2.2.1 ∧ (g.1 ≤ nCell → k.2.2.2.2.1 ≤ nCell) ∧ ∀ (_ : FO base ad z cA D p s m args meth c mi) (_ : RoomOK R mi n0 k.2.2.2.2.1) (_ : n0 ≤ g.1) (_ : WG base ad cA D n0 mi p l e R s m args below meth c Q k), WG base ad cA D n0 mi p l e R s m args below meth c Q (pc, ls, st, h, g) := by
  unfold aldI at hx
  split at hx
  · split at hx
    · rename_i h1
      unfold ald at h1
      split at h1
      · rename_i ho
        split at h1
        · rename_i hb
          cases h1
          obtain rfl := inl_inj hx
          exact absurd (no17 ho) id
        · cases h1
      · split at h1
        · rename_i hr
          split at h1
          · rename_i hb
            cases h1
            obtain rfl := inl_inj hx
            exact ⟨Nat.le_refl _, fun q => q, fun F _ _ k9 => s_baloadR F hd hr.1 hb.1 hb.2 k9⟩
          · cases h1
        · cases h1
    · cases hx
  · cases hx
theorem n_caload  (hd : decode (mC mi) pc = .ok (.caload, 1)) (hx : aldI z 12 pc ls st h g = some (.inl k)) : g.1 ≤ k.2.2.2.2.1 ∧ (g.1 ≤ nCell → k.2.2.2.2.1 ≤ nCell) ∧ ∀ (_ : FO base ad z cA D p s m args meth c mi) (_ : RoomOK R mi n0 k.2.2.2.2.1) (_ : n0 ≤ g.1) (_ : WG base ad cA D n0 mi p l e R s m args below meth c Q k), WG base ad cA D n0 mi p l e R s m args below meth c Q (pc, ls, st, h, g) := by
  unfold aldI at hx
  split at hx
  · split at hx
    · rename_i h1
      unfold ald at h1
      split at h1
      · rename_i ho
        split at h1
        · rename_i hb
          cases h1
          obtain rfl := inl_inj hx
          exact ⟨Nat.le_refl _, fun q => q, fun F _ _ k9 => s_caload F hd ho hb.1 hb.2 k9⟩
        · cases h1
      · split at h1
        · rename_i hr
          split at h1
          · rename_i hb
            cases h1
            obtain rfl := inl_inj hx
            exact absurd hr.1 (roK_12 _)
          · cases h1
        · cases h1
    · cases hx
  · cases hx
theorem n_laload  (hd : decode (mC mi) pc = .ok (.laload, 1)) (hx : aldL pc ls st h g = some (.inl k)) : g.1 ≤ k.2.2.2.2.1 ∧ (g.1 ≤ nCell → k.2.2.2.2.1 ≤ nCell) ∧ ∀ (_ : FO base ad z cA D p s m args meth c mi) (_ : RoomOK R mi n0 k.2.2.2.2.1) (_ : n0 ≤ g.1) (_ : WG base ad cA D n0 mi p l e R s m args below meth c Q k), WG base ad cA D n0 mi p l e R s m args below meth c Q (pc, ls, st, h, g) := by
  unfold aldL at hx
  split at hx
  · split at hx
    · rename_i h1
      obtain rfl := inl_inj hx
      exact ⟨Nat.le_refl _, fun q => q, fun F _ _ k9 => s_laload F hd h1.1 h1.2.1 h1.2.2 k9⟩
    · cases hx
  · cases hx
theorem n_aaload  (hd : decode (mC mi) pc = .ok (.aaload, 1)) (hx : aldR pc ls st h g = some (.inl k)) : g.1 ≤ k.2.2.2.2.1 ∧ (g.1 ≤ nCell → k.2.2.2.2.1 ≤ nCell) ∧ ∀ (_ : FO base ad z cA D p s m args meth c mi) (_ : RoomOK R mi n0 k.2.2.2.2.1) (_ : n0 ≤ g.1) (_ : WG base ad cA D n0 mi p l e R s m args below meth c Q k), WG base ad cA D n0 mi p l e R s m args below meth c Q (pc, ls, st, h, g) := by
  unfold aldR at hx
  split at hx
  · split at hx
    · rename_i h1
      obtain rfl := inl_inj hx
      exact ⟨Nat.le_refl _, fun q => q, fun F _ _ k9 => s_aaload F hd h1.1 h1.2.1 h1.2.2.1 h1.2.2.2 k9⟩
    · cases hx
  · cases hx
theorem n_iastore  (hd : decode (mC mi) pc = .ok (.iastore, 1)) (hx : astI 10 (fun _ => true) pc ls st h g = some (.inl k)) : g.1 ≤ k.2.2.2.2.1 ∧ (g.1 ≤ nCell → k.2.2.2.2.1 ≤ nCell) ∧ ∀ (_ : FO base ad z cA D p s m args meth c mi) (_ : RoomOK R mi n0 k.2.2.2.2.1) (_ : n0 ≤ g.1) (_ : WG base ad cA D n0 mi p l e R s m args below meth c Q k), WG base ad cA D n0 mi p l e R s m args below meth c Q (pc, ls, st, h, g) := by
  unfold astI at hx
  split at hx
  · split at hx
    · rename_i h1
      obtain rfl := inl_inj hx
      exact ⟨Nat.le_refl _, fun q => q, fun F _ _ k9 => s_iastore F hd h1.1 h1.2.1 h1.2.2.1 k9⟩
    · cases hx
  · cases hx
theorem n_castore  (hd : decode (mC mi) pc = .ok (.castore, 1)) (hx : astI 12 (fun v => decide (0 ≤ v ∧ v ≤ 65535)) pc ls st h g = some (.inl k)) : g.1 ≤ k.2.2.2.2.1 ∧ (g.1 ≤ nCell → k.2.2.2.2.1 ≤ nCell) ∧ ∀ (_ : FO base ad z cA D p s m args meth c mi) (_ : RoomOK R mi n0 k.2.2.2.2.1) (_ : n0 ≤ g.1) (_ : WG base ad cA D n0 mi p l e R s m args below meth c Q k), WG base ad cA D n0 mi p l e R s m args below meth c Q (pc, ls, st, h, g) := by
  unfold astI at hx
  split at hx
  · split at hx
    · rename_i h1
      obtain rfl := inl_inj hx
      exact ⟨Nat.le_refl _, fun q => q, fun F _ _ k9 => s_castore F hd h1.1 h1.2.1 h1.2.2.1 (nar_c (by simpa using h1.2.2.2)) k9⟩
    · cases hx
  · cases hx
theorem n_lastore  (hd : decode (mC mi) pc = .ok (.lastore, 1)) (hx : astL pc ls st h g = some (.inl k)) : g.1 ≤ k.2.2.2.2.1 ∧ (g.1 ≤ nCell → k.2.2.2.2.1 ≤ nCell) ∧ ∀ (_ : FO base ad z cA D p s m args meth c mi) (_ : RoomOK R mi n0 k.2.2.2.2.1) (_ : n0 ≤ g.1) (_ : WG base ad cA D n0 mi p l e R s m args below meth c Q k), WG base ad cA D n0 mi p l e R s m args below meth c Q (pc, ls, st, h, g) := by
  unfold astL at hx
  split at hx
  · split at hx
    · rename_i h1
      obtain rfl := inl_inj hx
      exact ⟨Nat.le_refl _, fun q => q, fun F _ _ k9 => s_lastore F hd h1.1 h1.2.1 h1.2.2 k9⟩
    · cases hx
  · cases hx
theorem n_aastore  (hd : decode (mC mi) pc = .ok (.aastore, 1)) (hx : astR pc ls st h g = some (.inl k)) : g.1 ≤ k.2.2.2.2.1 ∧ (g.1 ≤ nCell → k.2.2.2.2.1 ≤ nCell) ∧ ∀ (_ : FO base ad z cA D p s m args meth c mi) (_ : RoomOK R mi n0 k.2.2.2.2.1) (_ : n0 ≤ g.1) (_ : WG base ad cA D n0 mi p l e R s m args below meth c Q k), WG base ad cA D n0 mi p l e R s m args below meth c Q (pc, ls, st, h, g) := by
  unfold astR at hx
  split at hx
  · split at hx
    · rename_i h1
      obtain rfl := inl_inj hx
      exact ⟨Nat.le_refl _, fun q => q, fun F _ _ k9 => s_aastore F hd (elt_k h1.2.1) h1.1 h1.2.1 h1.2.2.1 h1.2.2.2 k9⟩
    · cases hx
  · cases hx
theorem n_alen (hz : 0 ≤ z (-1)) (hd : decode (mC mi) pc = .ok (.arraylength, 1)) (hx : alenI z pc ls st h g = some (.inl k)) : g.1 ≤ k.2.2.2.2.1 ∧ (g.1 ≤ nCell → k.2.2.2.2.1 ≤ nCell) ∧ ∀ (_ : FO base ad z cA D p s m args meth c mi) (_ : RoomOK R mi n0 k.2.2.2.2.1) (_ : n0 ≤ g.1) (_ : WG base ad cA D n0 mi p l e R s m args below meth c Q k), WG base ad cA D n0 mi p l e R s m args below meth c Q (pc, ls, st, h, g) := by
  unfold alenI at hx
  split at hx
  · split at hx
    · rename_i h1
      obtain rfl := inl_inj hx
      exact ⟨Nat.le_refl _, fun q => q, fun F _ _ k9 => s_alen F hd h1.1 h1.2.1 h1.2.2 k9⟩
    · split at hx
      · rename_i h1
        obtain rfl := inl_inj hx
        exact ⟨Nat.le_refl _, fun q => q, fun F _ _ k9 => s_alenR F hd (roK_10 h1) (roN_0 hz h1) k9⟩
      · cases hx
  · cases hx

end FRG
