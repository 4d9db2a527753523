/-! ===== THE PLAIN MACHINE IS THE MACHINE: what a frame of the machine holds where the plain one stands; the instructions that touch no cell ===== -/
theorem e_nl (x y : Int) : Int32.ofInt x = Int32.ofInt y ↔ w32 x = w32 y := ⟨fun h => congrArg Int32.toInt h, fun h => Int32.toInt_inj.mp h⟩
theorem e_lt (x y : Int) : Int32.ofInt x < Int32.ofInt y ↔ w32 x < w32 y := Int32.lt_iff_toInt_lt
theorem e_le (x y : Int) : Int32.ofInt x ≤ Int32.ofInt y ↔ ¬ w32 y < w32 x := Int32.le_iff_toInt_le.trans Int.not_lt.symm
theorem e_nl64 (x y : Int) : Int64.ofInt x = Int64.ofInt y ↔ w64 x = w64 y := ⟨fun h => congrArg Int64.toInt h, fun h => Int64.toInt_inj.mp h⟩
theorem e_lt64 (x y : Int) : Int64.ofInt x < Int64.ofInt y ↔ w64 x < w64 y := Int64.lt_iff_toInt_lt
theorem w32_0 : w32 0 = 0 := by decide
theorem e_clamp (x : Int) : (Int32.ofInt x).toNatClampNeg = (w32 x).toNat := rfl
theorem e_in {x : Int} {n : Nat} (h0 : 0 ≤ w32 x) (h1 : w32 x < n) : vp_in (Int32.ofInt x) n := vp_in_iff.mpr ⟨h0, h1⟩
theorem e_nneg {x : Int} (h : 0 ≤ w32 x) : ¬ Int32.ofInt x < 0 := fun q => by
  have h2 : (Int32.ofInt x).toInt < (0 : Int32).toInt := Int32.lt_iff_toInt_lt.mp q
  have h3 : (0 : Int32).toInt = 0 := rfl
  have h4 : (Int32.ofInt x).toInt = w32 x := rfl
  omega
theorem e_small {x : Int} (h0 : -2147483648 ≤ x) (h1 : x < 2147483648) : w32 x = x := Int32.toInt_ofInt_of_le (by omega) (by omega)
def mv (ad : Int → Nat) (v : PV) : Value := match v with
  | .inl x => .int (Int32.ofInt x)
  | .inr (.inl x) => .long (Int64.ofInt x)
  | .inr (.inr a) => .ref (ad a)
theorem mv_cat (ad : Int → Nat) (v : PV) : (mv ad v).category = pcat v := by rcases v with x | x | x <;> rfl
theorem mv_cats (ad : Int → Nat) (st : List PV) : ((st.map (mv ad)).map fun v => v.category).sum = pcats st := by
  unfold pcats
  rw [List.map_map]
  congr 2
  funext v
  exact mv_cat ad v
/-- the machine's locals hold the plain ones -/
def LR (ad : Int → Nat) (nL : Nat) (ls : Array Slot) (l : PL) : Prop := ls.size = nL ∧ l.length = nL ∧ lv_wf ls ∧ ∀ (i : Nat) (v : PV), l[i]? = some (some v) → ls[i]? = some (.val (mv ad v))
theorem LR.get {ad : Int → Nat} {nL : Nat} {ls : Array Slot} {l : PL} (h : LR ad nL ls l) {i : Nat} {v : PV} (hv : lget l i = some v) : ls[i]? = some (.val (mv ad v)) := by
  refine h.2.2.2 i v ?_
  unfold lget at hv
  cases hl : l[i]? with
  | none => rw [hl] at hv; cases hv
  | some o => rw [hl] at hv; exact congrArg some hv
/-- all that is known, as the kit lists it -/
def toL (ad : Int → Nat) (l : PL) : List (Nat × Value) := (List.range l.length).filterMap (fun i => (lget l i).map (fun v => (i, mv ad v)))
theorem toL_mem {ad : Int → Nat} {l : PL} {q : Nat × Value} (h : q ∈ toL ad l) : ∃ v, lget l q.1 = some v ∧ q.2 = mv ad v := by
  obtain ⟨i, -, hi⟩ := List.mem_filterMap.mp h
  cases hv : lget l i with
  | none => rw [hv] at hi; cases hi
  | some v => rw [hv] at hi; cases hi; exact ⟨v, hv, rfl⟩
theorem toL_in {ad : Int → Nat} {l : PL} {i : Nat} {v : PV} (h : l[i]? = some (some v)) : (i, mv ad v) ∈ toL ad l := by
  refine List.mem_filterMap.mpr ⟨i, List.mem_range.mpr (List.getElem?_eq_some_iff.mp h).1, ?_⟩
  unfold lget
  rw [h]
  rfl
theorem LR.has {ad : Int → Nat} {nL : Nat} {ls : Array Slot} {l : PL} (h : LR ad nL ls l) : lv_has ls nL (toL ad l) := ⟨h.1, h.2.2.1, fun q hq => by
  obtain ⟨v, h1, h2⟩ := toL_mem hq
  rw [h2]
  exact h.get h1⟩
theorem lfree_use {l : PL} {i j : Nat} {v : PV} (h : lfree l i = true) (hj : j + 1 = i) (hv : l[j]? = some (some v)) : pcat v = 1 := by
  subst hj
  have e : lget l j = some v := by
    unfold lget
    rw [hv]
    rfl
  simp only [lfree] at h
  rw [e] at h
  simpa using h
theorem LR.put1 {ad : Int → Nat} {nL : Nat} {ls ls' : Array Slot} {l : PL} {i : Nat} {v : PV} (h : LR ad nL ls l) (hi : i < l.length) (hf : lfree l i = true)
    (h' : lv_has ls' nL ((i, mv ad v) :: (toL ad l).filter (fun q => !(q.1 == i) && !(q.1 + 1 == i && q.2.category == 2)))) : LR ad nL ls' (l.set i (some v)) := by
  refine ⟨h'.1, by rw [List.length_set]; exact h.2.1, h'.2.1, fun j w hj => ?_⟩
  by_cases e : i = j
  · subst e
    rw [List.getElem?_set_self hi] at hj
    cases hj
    exact h'.2.2 (i, mv ad v) List.mem_cons_self
  · rw [List.getElem?_set_ne e] at hj
    refine h'.2.2 (j, mv ad w) (List.mem_cons_of_mem _ (List.mem_filter.mpr ⟨toL_in hj, ?_⟩))
    have n1 : (j == i) = false := by simpa using fun q => e q.symm
    show (!(j == i) && !(j + 1 == i && (mv ad w).category == 2)) = true
    rw [n1, mv_cat]
    by_cases e2 : j + 1 = i
    · rw [lfree_use hf e2 hj]
      simp
    · simp [e2]
theorem LR.put2 {ad : Int → Nat} {nL : Nat} {ls ls' : Array Slot} {l : PL} {i : Nat} {v : PV} (h : LR ad nL ls l) (hi : i + 1 < l.length) (hf : lfree l i = true)
    (h' : lv_has ls' nL ((i, mv ad v) :: (toL ad l).filter (fun q => !(q.1 == i) && (!(q.1 == i + 1) && !(q.1 + 1 == i && q.2.category == 2))))) : LR ad nL ls' ((l.set i (some v)).set (i + 1) none) := by
  refine ⟨h'.1, by rw [List.length_set, List.length_set]; exact h.2.1, h'.2.1, fun j w hj => ?_⟩
  by_cases e0 : i + 1 = j
  · subst e0
    rw [List.getElem?_set_self (by rw [List.length_set]; exact hi)] at hj
    cases hj
  · rw [List.getElem?_set_ne e0] at hj
    by_cases e : i = j
    · subst e
      rw [List.getElem?_set_self (by omega)] at hj
      cases hj
      exact h'.2.2 (i, mv ad v) List.mem_cons_self
    · rw [List.getElem?_set_ne e] at hj
      refine h'.2.2 (j, mv ad w) (List.mem_cons_of_mem _ (List.mem_filter.mpr ⟨toL_in hj, ?_⟩))
      have n1 : (j == i) = false := by simpa using fun q => e q.symm
      have n2 : (j == i + 1) = false := by simpa using fun q => e0 q.symm
      show (!(j == i) && (!(j == i + 1) && !(j + 1 == i && (mv ad w).category == 2))) = true
      rw [n1, n2, mv_cat]
      by_cases e2 : j + 1 = i
      · rw [lfree_use hf e2 hj]
        simp
      · simp [e2]
/-! the cells -/
def tysOf (cA : Nat → ClassId) : List (ClassId × FieldType) := [(cA 0, .int), (cA 1, .long), (cA 2, .char), (cA 3, .object RX1), (cA 4, .object RX4), (cA 5, .object RX5), (cA 6, .array .int)]
def rnv (ad : Int → Nat) (x : Int) : Option Nat := if x < 0 then none else some (ad x)
def slotV (ad : Int → Nat) (h : PH) (r : Int → Int → Int) (c k : Nat) (a : Int) : Value := if fty c k = 0 then .int (Int32.ofInt (h a k)) else if fty c k = 1 then va_rf (rnv ad (r a k)) else va_rf (rnv ad (h a k))
def cellE (ad : Int → Nat) (cA : Nat → ClassId) (h : PH) (r : Int → Int → Int) (a : Nat) : va_E :=
  if (shL.getD a (99, 0)).1 < 9 then .inr ((shL.getD a (99, 0)).1, (List.range (shL.getD a (99, 0)).2).map (fun k => slotV ad h r (shL.getD a (99, 0)).1 k a))
  else if (shL.getD a (99, 0)).1 = 10 then .inl (cA 0, (shL.getD a (99, 0)).2, .inl (fun j => Int32.ofInt (h a j)))
  else if (shL.getD a (99, 0)).1 = 11 then .inl (cA 1, (shL.getD a (99, 0)).2, .inr (.inl (fun j => Int64.ofInt (h a j))))
  else if (shL.getD a (99, 0)).1 = 12 then .inl (cA 2, (shL.getD a (99, 0)).2, .inl (fun j => Int32.ofInt (h a j)))
  else .inl (cA ((shL.getD a (99, 0)).1 - 10), (shL.getD a (99, 0)).2, .inr (.inr (.inr (.inr (fun j => rnv ad (r a j))))))
def WS (ad : Int → Nat) (cA : Nat → ClassId) (h : PH) (g : PG) : va_W := (List.range g.1).map (fun (a : Nat) => (ad a, cellE ad cA h g.2 a))
theorem WS_get {ad : Int → Nat} {cA : Nat → ClassId} {h : PH} {g : PG} {a : Nat} (ha : a < g.1) : (WS ad cA h g)[a]? = some (ad a, cellE ad cA h g.2 a) := by
  unfold WS
  rw [List.getElem?_map, List.getElem?_range ha]
  rfl
/-- the addresses lie one behind the other, those that nobody writes ahead of them -/
def AdOK (base : Nat) (ad : Int → Nat) : Prop := ∀ a : Int, 0 ≤ a → a < 1000 → ad a = base + a.toNat
def ZA (base : Nat) : Nat → Prop := fun q => base ≤ q
theorem nCell_le : nCell ≤ 999 := by decide
theorem WS_D {base : Nat} {ad : Int → Nat} (had : AdOK base ad) {cA : Nat → ClassId} {h : PH} {g : PG} (hg : g.1 ≤ nCell) : va_D (ZA base) (WS ad cA h g) := by
  have hn := nCell_le
  have key : ∀ (k : Nat) (q : Nat × va_E), (WS ad cA h g)[k]? = some q → k < g.1 ∧ q.1 = base + k := by
    intro k q hk
    have hl : k < g.1 := by
      have := (List.getElem?_eq_some_iff.mp hk).1
      simpa [WS] using this
    rw [WS_get hl] at hk
    cases hk
    exact ⟨hl, by rw [had k (by omega) (by omega)]; simp⟩
  refine ⟨fun i j p q hi hj e => ?_, fun k q hk => ?_⟩
  · have a := key i p hi
    have b := key j q hj
    omega
  · have a := key k q hk
    unfold ZA
    omega
def sl (n : Nat) : Nat := ((shL.take n).map (fun q => q.2)).sum
/-- the machine's heap holds the plain cells -/
def HI (base : Nat) (ad : Int → Nat) (cA : Nat → ClassId) (D : va_G) (H : Heap) (h : PH) (g : PG) : Prop := H.size = base + g.1 ∧ g.1 ≤ nCell ∧ va_P D vwCl (WS ad cA h g) H
