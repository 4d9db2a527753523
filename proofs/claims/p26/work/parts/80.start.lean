/-! ===== WHAT THE STATEMENT GIVES OF THE START IS WHAT THE PLAIN MACHINE WANTS ===== -/
def fl0 : List Cond := flatC (Jvm.Cond.and given_1 narrow_1)
def tKA : Term := .static RX7 "KIND_ABOVE" "[I"
def tNB : Term := .static RX7 "NUMBERS_BEHIND" "[I"
def tmS (i : Nat) : Term := .string RX6 ([65, 71, 73, 75].getD i 0)
def tmV (i : Nat) : Term := .field (tmS i) "java/lang/String" "value" "[B"
def lenQ : List Nat := [3, 4, 5, 3]
def bytQ : List (List Int32) := [[98, 111, 120], [107, 105, 110, 100], [119, 101, 105, 103, 104], [111, 102, 102]]
theorem f_ka : (List.range 6).all (fun j => decide (Cond.eq (.elem tKA (.int (Int32.ofNat j))) (.int (Int32.ofInt (([-1, 0, 0, 1, 0, 2] : List Int).getD j 0))) ∈ fl0)) = true := by decide +kernel
theorem f_nb : (List.range 4).all (fun j => decide (Cond.eq (.elem tNB (.int (Int32.ofNat j))) (.int (Int32.ofInt (([5, 3, 3, 1] : List Int).getD j 0))) ∈ fl0)) = true := by decide +kernel
theorem f_st : (List.range 4).all (fun i => decide (Cond.exactly (tmS i) "java/lang/String" ∈ fl0) && (decide (Cond.eq (.field (tmS i) "java/lang/String" "coder" "B") (.int 0) ∈ fl0) && (decide (Cond.arrayOf (tmV i) .byte ∈ fl0) && (decide (Cond.eq (.length (tmV i)) (.int (Int32.ofNat (lenQ.getD i 0))) ∈ fl0) && (List.range (lenQ.getD i 0)).all (fun j => decide (Cond.eq (.elem (tmV i) (.int (Int32.ofNat j))) (.int ((bytQ.getD i []).getD j 0)) ∈ fl0)))))) = true := by decide +kernel
theorem f_ne : (List.range 4).all (fun i => (List.range 4).all (fun j => decide (i = j) || (decide (Cond.not (Cond.eq (tmS i) (tmS j)) ∈ fl0) || decide (Cond.not (Cond.eq (tmS j) (tmS i)) ∈ fl0)))) = true := by decide +kernel
theorem f_one : decide (Cond.arrayOf tKA .int ∈ fl0) && (decide (Cond.eq (.length tKA) (.int (Int32.ofNat 6)) ∈ fl0) && (decide (Cond.arrayOf tNB .int ∈ fl0) && (decide (Cond.eq (.length tNB) (.int (Int32.ofNat 4)) ∈ fl0) && (decide (Cond.eq (.static "java/lang/String" "COMPACT_STRINGS" "Z") (.int 1) ∈ fl0) && decide (Cond.isRef (.static "jdk/internal/util/Preconditions" "SIOOBE_FORMATTER" "Ljava/util/function/BiFunction;") ∈ fl0))))) = true := by decide +kernel
theorem f_inst : (List.range 9).all (fun c => match vwCl[c]? with
  | some r => decide (lw_tbl[instP.getD c 0]? = some (.instantiable r.1 r.2.2))
  | none => false) = true := by decide +kernel
theorem f_str : (List.range 4).all (fun i => match strL[i]? with
  | some e => decide (lw_tbl[e.2.2.2]? = some (.stringRef (oN e.1) e.2.1 e.2.2.1)) && decide (tmS i = .string (oN e.1) e.2.1)
  | none => false) = true := by decide +kernel
theorem ar_prim {ty : FieldType} {s : State} {args : Array Value} (h : (Cond.arrayClass ty).before args s = true) (hr : ∀ cA, s.vm.findClass ("[" ++ ty.toString) = some cA → va_RA s cA ty) : ∃ cA, ArrOfT s cA ty ∧ va_RA s cA ty := by
  obtain ⟨c, k, comp, h1, h2, h3⟩ := Cond.arrayClass_spec h
  exact ⟨c, fun n z => ⟨(fun k h => by cases h), k, h2, comp, h3⟩, hr c h1⟩
theorem ar_obj {C : String} {s : State} {args : Array Value} (h : (Cond.arrayOver (.object C)).before args s = true) : ∃ cA, ArrOfT s cA (.object C) ∧ va_RA s cA (.object C) := by
  obtain ⟨comp, c, k, h1, h2, h3, h4, h5⟩ := Cond.arrayOver_spec h
  exact ⟨c, fun n z => ⟨(fun k h => by cases h), k, h3, comp, h4⟩, k, comp, h3, h4, h1, h5⟩
theorem ar_arr {s : State} (h : va_AOt (.array .int) s) : ∃ cA, ArrOfT s cA (.array .int) ∧ va_RA s cA (.array .int) := by
  obtain ⟨comp, c, k, h1, h2, h3, h4, h5⟩ := va_AOt_spec h
  exact ⟨c, fun n z => ⟨(fun k h => by cases h), k, h3, comp, h4⟩, h5⟩
def adOf (base b tK tN : Nat) (adK adV : Nat → Nat) (a : Int) : Nat := if 0 ≤ a ∧ a < 1000 then base + a.toNat else if a = 1000 then tK else if a = 1001 then tN else if a = 2000 then b else if 1010 ≤ a ∧ a < 1014 then adK (a - 1010).toNat else if 1020 ≤ a ∧ a < 1024 then adV (a - 1020).toNat else 0
def zOf (L : Nat) (xs : Nat → Int32) (j : Int) : Int := if j = -1 then (L : Int) else (xs j.toNat).toInt
theorem ro_K : ∀ {z : Int → Int}, roN z 1000 = 6 ∧ ∀ j : Nat, roV z 1000 (j : Int) = ([-1, 0, 0, 1, 0, 2] : List Int).getD j 0 := fun {z} => ⟨rfl, fun j => by
  unfold roV
  rw [if_neg (by decide), Int.toNat_natCast]
  rfl⟩
theorem ro_N : ∀ {z : Int → Int}, roN z 1001 = 4 ∧ ∀ j : Nat, roV z 1001 (j : Int) = ([5, 3, 3, 1] : List Int).getD j 0 := fun {z} => ⟨rfl, fun j => by
  unfold roV
  rw [if_neg (by decide), Int.toNat_natCast]
  rfl⟩
theorem ro_S : (List.range 4).all (fun i => decide ((roL (1020 + (i : Int))).length = lenQ.getD i 0) && (List.range (lenQ.getD i 0)).all (fun j => decide (Int32.ofInt ((roL (1020 + (i : Int))).getD j 0) = (bytQ.getD i []).getD j 0))) = true := by decide +kernel
theorem roK10 {a : Int} (h : roK a = 10) : a = 1000 ∨ a = 1001 ∨ a = 2000 := by
  unfold roK at h
  split at h
  · assumption
  · split at h <;> omega
theorem roK17 {a : Int} (h : roK a = 17) : ∃ i : Nat, i < 4 ∧ a = 1020 + (i : Int) := by
  unfold roK at h
  split at h
  · omega
  · split at h
    · exact ⟨(a - 1020).toNat, by omega, by omega⟩
    · omega
theorem KB_ok {s : State} {b L : Nat} {xs : Nat → Int32} (hts : ∀ w ∈ lw_tbl, w.before #[Value.ref b] s = true) (hg : (Jvm.Cond.and given_1 narrow_1).before #[Value.ref b] s = true) (hX : va_X b L xs s s.heap) (hL : L < 2147483648) :
    ∃ (ad : Int → Nat) (cA : Nat → ClassId) (D : va_G), AdOK s.heap.size ad ∧ ad 2000 = b ∧ KB s.heap.size ad (zOf L xs) cA D s s.heap := by
  have hfl : ∀ w ∈ fl0, w.before #[Value.ref b] s = true := flat_of_before _ hg
  have hA : ∀ a : Nat, a < s.heap.size → ¬ ZA s.heap.size a := fun a ha q => by
    unfold ZA at q
    omega
  have hW : ∀ {w : Cond} (i : Nat), lw_tbl[i]? = some w → w.before #[Value.ref b] s = true := fun {w} i h => hts w (List.mem_of_getElem? h)
  have hone := f_one
  simp only [Bool.and_eq_true, decide_eq_true_eq] at hone
  obtain ⟨o1, o2, o3, o4, o5, o6⟩ := hone
  have hka : ∀ j : Nat, j < 6 → (Term.elem tKA (.int (Int32.ofNat j))).eval #[Value.ref b] s none [] s = some (.int (Int32.ofInt (([-1, 0, 0, 1, 0, 2] : List Int).getD j 0))) := fun j hj => va_eqt (hfl _ (of_decide_eq_true (List.all_eq_true.mp f_ka j (List.mem_range.mpr hj))))
  have hnb : ∀ j : Nat, j < 4 → (Term.elem tNB (.int (Int32.ofNat j))).eval #[Value.ref b] s none [] s = some (.int (Int32.ofInt (([5, 3, 3, 1] : List Int).getD j 0))) := fun j hj => va_eqt (hfl _ (of_decide_eq_true (List.all_eq_true.mp f_nb j (List.mem_range.mpr hj))))
  obtain ⟨tK, eK, hK⟩ := va_Tof (f := fun j => .int (Int32.ofInt (([-1, 0, 0, 1, 0, 2] : List Int).getD j 0))) (A := ZA s.heap.size) (N := 6) (by decide) (hfl _ o1) (va_eqt (hfl _ o2)) hka hA
  obtain ⟨tN, eN, hN⟩ := va_Tof (f := fun j => .int (Int32.ofInt (([5, 3, 3, 1] : List Int).getD j 0))) (A := ZA s.heap.size) (N := 4) (by decide) (hfl _ o3) (va_eqt (hfl _ o4)) hnb hA
  have hst : ∀ i : Nat, i < 4 → Cond.exactly (tmS i) "java/lang/String" ∈ fl0 ∧ Cond.eq (.field (tmS i) "java/lang/String" "coder" "B") (.int 0) ∈ fl0 ∧ Cond.arrayOf (tmV i) .byte ∈ fl0 ∧ Cond.eq (.length (tmV i)) (.int (Int32.ofNat (lenQ.getD i 0))) ∈ fl0 ∧ ∀ j : Nat, j < lenQ.getD i 0 → Cond.eq (.elem (tmV i) (.int (Int32.ofNat j))) (.int ((bytQ.getD i []).getD j 0)) ∈ fl0 := fun i hi => by
    have h := List.all_eq_true.mp f_st i (List.mem_range.mpr hi)
    simp only [Bool.and_eq_true, decide_eq_true_eq] at h
    obtain ⟨h1, h2, h3, h4, h5⟩ := h
    exact ⟨h1, h2, h3, h4, fun j hj => of_decide_eq_true (List.all_eq_true.mp h5 j (List.mem_range.mpr hj))⟩
  obtain ⟨adK, adV, hS, eS⟩ := vk_Sof (args := #[Value.ref b]) (s := s) (N := 4) (tm := tmS) (len := lenQ) (byt := bytQ) (A := ZA s.heap.size)
    (fun i hi => by
      match i, hi with
      | 0, _ => decide
      | 1, _ => decide
      | 2, _ => decide
      | 3, _ => decide
      | i + 4, hi => omega)
    (fun i hi => hfl _ (hst i hi).1) (fun i hi => hfl _ (hst i hi).2.1) (fun i hi => hfl _ (hst i hi).2.2.1) (fun i hi => hfl _ (hst i hi).2.2.2.1) (fun i hi j hj => hfl _ ((hst i hi).2.2.2.2 j hj))
    (fun i j hi hj hne => by
      have h := List.all_eq_true.mp (List.all_eq_true.mp f_ne i (List.mem_range.mpr hi)) j (List.mem_range.mpr hj)
      simp only [Bool.or_eq_true, decide_eq_true_eq] at h
      rcases h with h | h | h
      · exact absurd h hne
      · exact Or.inl (hfl _ h)
      · exact Or.inr (hfl _ h)) hA
  obtain ⟨c0, a0, r0⟩ := ar_prim (hW (w := .arrayClass .int) pw_arI (by decide +kernel)) (fun c h => h)
  obtain ⟨c1, a1, r1⟩ := ar_prim (hW (w := .arrayClass .long) pw_arJ (by decide +kernel)) (fun c h => h)
  obtain ⟨c2, a2, r2⟩ := ar_prim (hW (w := .arrayClass .char) pw_arC (by decide +kernel)) (fun c h => h)
  have w3 := hW (w := .arrayOver (.object RX1)) pw_ao1 (by decide +kernel)
  have w4 := hW (w := .arrayOver (.object RX4)) pw_ao4 (by decide +kernel)
  have w5 := hW (w := .arrayOver (.object RX5)) pw_ao5 (by decide +kernel)
  have w6 : va_AOt (.array .int) s := hW (w := .arrayOver (.array .int)) pw_aoI (by decide +kernel)
  obtain ⟨c3, a3, r3⟩ := ar_obj w3
  obtain ⟨c4, a4, r4⟩ := ar_obj w4
  obtain ⟨c5, a5, r5⟩ := ar_obj w5
  obtain ⟨c6, a6, r6⟩ := ar_arr w6
  have hcl : ∀ c : Nat, ∃ q : ClassId × (Nat → Nat), c < 9 → ∀ r : vw_C, vwCl[c]? = some r → u_Kn s r.1 r.2.1 r.2.2 q.1 q.2 := by
    intro c
    by_cases hc : c < 9
    · obtain ⟨r, h1, -, h3, -⟩ := cl_get hc
      have hi := List.all_eq_true.mp f_inst c (List.mem_range.mpr hc)
      rw [h1] at hi
      obtain ⟨cC, iS, hK⟩ := u_known (ws := WB) (args := #[Value.ref b]) (fun w hw => hts w (List.mem_filter.mp hw).1) h3 (hW _ (of_decide_eq_true hi))
      exact ⟨(cC, iS), fun _ r' hr' => by
        rw [h1] at hr'
        cases hr'
        exact hK⟩
    · exact ⟨(0, fun _ => 0), fun h => absurd h hc⟩
  obtain ⟨fD, hD⟩ := Classical.axiomOfChoice hcl
  refine ⟨adOf s.heap.size b tK tN adK adV, fun k => match k with
    | 0 => c0
    | 1 => c1
    | 2 => c2
    | 3 => c3
    | 4 => c4
    | 5 => c5
    | _ => c6, (fun c => (fD c).1, fun c => (fD c).2), fun a h0 h1 => if_pos ⟨h0, h1⟩, rfl, ⟨⟨fun c q hq => ?_, fun k q hk => ?_⟩, ?_, ?_, ?_, ?_, w3, w4, w5, w6⟩, ⟨?_, ?_, ?_, ?_, ?_, ?_, ?_⟩, ?_⟩
  · have hc : c < 9 := (List.getElem?_eq_some_iff.mp hq).1
    exact hD c hc q hq
  · match k, hk with
    | 0, hk => cases hk; exact ⟨a0, r0⟩
    | 1, hk => cases hk; exact ⟨a1, r1⟩
    | 2, hk => cases hk; exact ⟨a2, r2⟩
    | 3, hk => cases hk; exact ⟨a3, r3⟩
    | 4, hk => cases hk; exact ⟨a4, r4⟩
    | 5, hk => cases hk; exact ⟨a5, r5⟩
    | 6, hk => cases hk; exact ⟨a6, r6⟩
    | k + 7, hk => cases hk
  · intro e he hn
    have h := Bool.and_eq_true_iff.mp (List.all_eq_true.mp fld_all e he)
    have h1 := of_decide_eq_true h.1
    rw [if_pos hn] at h1
    exact va_Nw.of (by rfl) (hW _ h1)
  · intro e he hn
    have h := Bool.and_eq_true_iff.mp (List.all_eq_true.mp mth_all e he)
    have h1 := of_decide_eq_true h.1
    rw [if_pos hn] at h1
    exact va_Nw.of (by rfl) (hW _ h1)
  · exact va_Nw.of (by rfl) (hW pw_kaNest (by decide +kernel))
  · exact va_Nw.of (by rfl) (hW pw_nbNest (by decide +kernel))
  · exact va_Zref (hW 446 (by decide +kernel)) (hW 61 (by decide +kernel)) eK hA
  · exact va_Zref (hW 829 (by decide +kernel)) (hW 61 (by decide +kernel)) eN hA
  · exact va_Zof (hW 779 (by decide +kernel)) (hW 74 (by decide +kernel)) (va_eqi (hfl _ o5)) hA
  · exact va_Zqof (hW 795 (by decide +kernel)) (hW 76 (by decide +kernel)) (hfl _ o6) hA
  · intro a ha
    rcases roK10 ha with rfl | rfl | rfl
    · have e : (fun j : Nat => Value.int (Int32.ofInt (roV (zOf L xs) 1000 (j : Int)))) = fun j => .int (Int32.ofInt (([-1, 0, 0, 1, 0, 2] : List Int).getD j 0)) := funext fun j => by rw [ro_K.2 j]
      rw [e]
      exact hK
    · have e : (fun j : Nat => Value.int (Int32.ofInt (roV (zOf L xs) 1001 (j : Int)))) = fun j => .int (Int32.ofInt (([5, 3, 3, 1] : List Int).getD j 0)) := funext fun j => by rw [ro_N.2 j]
      rw [e]
      exact hN
    · obtain ⟨scr, x1, x2, x3, x4, x5⟩ := hX
      have e : (fun j : Nat => Value.int (Int32.ofInt (roV (zOf L xs) 2000 (j : Int)))) = fun j => .int (xs j) := funext fun j => by
        show Value.int (Int32.ofInt (zOf L xs (j : Int))) = _
        unfold zOf
        rw [if_neg (by omega), Int.toNat_natCast, Int32.ofInt_toInt]
      have e2 : (roN (zOf L xs) 2000).toNat = L := by
        show (zOf L xs (-1)).toNat = L
        unfold zOf
        rw [if_pos rfl, Int.toNat_natCast]
      rw [e, e2]
      refine ⟨scr, x1, x2, x3, by rw [x4]; exact Nat.le_refl _, (congrArg Nat.toInt32 x4), x5, hA b (Array.getElem?_eq_some_iff.mp x1).1⟩
  · intro a ha
    obtain ⟨i, hi, rfl⟩ := roK17 ha
    have h := Bool.and_eq_true_iff.mp (List.all_eq_true.mp ro_S i (List.mem_range.mpr hi))
    have h1 := of_decide_eq_true h.1
    obtain ⟨q1, q2, q3, cell, y1, y2, y3, y4, y5, y6, y7⟩ := hS.1 i hi
    have en : (roN (zOf L xs) (1020 + (i : Int))).toNat = lenQ.getD i 0 := by
      unfold roN
      rw [if_neg (by omega), h1, Int.toNat_natCast]
    have ea : adOf s.heap.size b tK tN adK adV (1020 + (i : Int)) = adV i := by
      unfold adOf
      rw [if_neg (by omega), if_neg (by omega), if_neg (by omega), if_neg (by omega), if_neg (by omega), if_pos (by omega), show (1020 + (i : Int) - 1020).toNat = i by omega]
    rw [en, ea]
    refine ⟨cell, y1, y2, y3, y4, y5, fun j hj => ?_, y7⟩
    have h2 := of_decide_eq_true (List.all_eq_true.mp h.2 j (List.mem_range.mpr hj))
    have e : roV (zOf L xs) (1020 + (i : Int)) (j : Int) = (roL (1020 + (i : Int))).getD j 0 := by
      unfold roV
      rw [if_neg (by omega), Int.toNat_natCast]
    rw [y6 j hj]
    show some (Value.int ((bytQ.getD i []).getD j 0)) = some (Value.int (Int32.ofInt (roV (zOf L xs) (1020 + (i : Int)) (j : Int))))
    rw [e, h2]
  · intro i hi
    obtain ⟨q1, q2, q3, -⟩ := hS.1 i hi
    have ek : adOf s.heap.size b tK tN adK adV (1010 + (i : Int)) = adK i := by
      unfold adOf
      rw [if_neg (by omega), if_neg (by omega), if_neg (by omega), if_neg (by omega), if_pos (by omega), show (1010 + (i : Int) - 1010).toNat = i by omega]
    have ea : adOf s.heap.size b tK tN adK adV (1020 + (i : Int)) = adV i := by
      unfold adOf
      rw [if_neg (by omega), if_neg (by omega), if_neg (by omega), if_neg (by omega), if_neg (by omega), if_pos (by omega), show (1020 + (i : Int) - 1020).toNat = i by omega]
    rw [ek, ea]
    exact ⟨q1, q2, q3⟩
  · intro i e he
    have hi : i < 4 := (List.getElem?_eq_some_iff.mp he).1
    have h := List.all_eq_true.mp f_str i (List.mem_range.mpr hi)
    rw [he] at h
    have h := Bool.and_eq_true_iff.mp h
    have ek : adOf s.heap.size b tK tN adK adV (1010 + (i : Int)) = adK i := by
      unfold adOf
      rw [if_neg (by omega), if_neg (by omega), if_neg (by omega), if_neg (by omega), if_pos (by omega), show (1010 + (i : Int) - 1010).toNat = i by omega]
    rw [ek]
    have e1 := eS i hi
    rw [of_decide_eq_true h.2] at e1
    exact vk_R.of (hW _ (of_decide_eq_true h.1)) e1
