/-! ===== ABSTRACT JUMPS, AND WHAT TOUCHES CELLS ===== -/
section OPS2
variable {P : RGt} {z : Int → Int} {Z : ZP} {σ : Nat → Int} {C : Cx} {pc : Nat} {ls : List AL} {st : List AV} {ov : OV} {l : PL} {s : List PV} {h : PH} {g : PG} {L : List AS}
def aJ (pc : Nat) (off : Int) : Option Nat := bif nnZ ((pc : Int) + off) then some (tgtOf pc off) else none
theorem aJ_ok {pc t : Nat} {off : Int} (e : aJ pc off = some t) : 0 ≤ (pc : Int) + off ∧ tgtOf pc off = t := by
  unfold aJ at e
  cases hk : nnZ ((pc : Int) + off) with
  | false => rw [hk] at e; cases e
  | true => rw [hk] at e; cases e; exact ⟨nnZ_iff.mp hk, rfl⟩
def oGoto (off : Int) (C : Cx) (pc : Nat) (ls : List AL) (st : List AV) (ov : OV) : Option (List AS) := match aJ pc off with
  | some t => some [(C, t, ls, st, ov)]
  | none => none
theorem oGoto_ok {off : Int} (H : Hy P z Z σ C ls st ov l s h g) (e : oGoto off C pc ls st ov = some L) : GO P z Z (nV C) σ L (jmp pc off l s h g) := by
  unfold oGoto at e
  split at e
  · rename_i t ht
    cases e
    obtain ⟨h1, h2⟩ := aJ_ok ht
    refine go1 (σ' := σ) (c' := (t, l, s, h, g)) ⟨rfl, H.1, H.2.1, H.2.2⟩ AG.rf (Nat.le_refl _) ?_
    unfold jmp
    rw [if_pos h1, h2]
    rfl
  · cases e
def oBrs (t f : Nat) (K : List (Cx × Bool)) (ls : List AL) (st : List AV) (ov : OV) : List AS := K.map (fun q => (q.1, bif q.2 then t else f, ls, st, ov))
theorem oBrs_ok {t f : Nat} {K : List (Cx × Bool)} {b : Bool} (H : Hy P z Z σ C ls st ov l s h g) (hK : ∃ q ∈ K, satC σ q.1 ∧ q.1.1.length = C.1.length ∧ q.2 = b) : GO P z Z (nV C) σ (oBrs t f K ls st ov) (if b = true then nx t l s h g else nx f l s h g) := by
  obtain ⟨q, h1, h2, h3, h4⟩ := hK
  have k := H.ctx h2 h3
  refine ⟨_, List.mem_map.mpr ⟨q, h1, rfl⟩, σ, (bif b then t else f, l, s, h, g), AG.rf, Nat.le_of_eq h3.symm, ⟨by rw [h4], k.1, k.2.1, k.2.2⟩, ?_⟩
  cases b <;> rfl
def oIf (c : ClassFile.Cond) (off : Int) (C : Cx) (pc : Nat) (ls : List AL) (st : List AV) (ov : OV) : Option (List AS) := match st with
  | .inl x :: st => (match aJ pc off with
    | some t => some (oBrs t (pc + 3) (brC c C x (apC 0)) ls st ov)
    | none => none)
  | _ => none
theorem oIf_ok {c : ClassFile.Cond} {off : Int} (H : Hy P z Z σ C ls st ov l s h g) (e : oIf c off C pc ls st ov = some L) : ∃ x s', s = .inl x :: s' ∧ GO P z Z (nV C) σ L (jc c x 0 pc off l s' h g) := by
  unfold oIf at e
  split at e
  · rename_i x st
    obtain ⟨X, s1, rfl, h1, h2⟩ := qSs_i H.2.1
    split at e
    · rename_i t ht
      cases e
      obtain ⟨h3, h4⟩ := aJ_ok ht
      refine ⟨X, s1, rfl, ?_⟩
      unfold jc
      rw [if_pos h3, h4]
      have k := brC_ok H.2.2.1 c x (apC 0)
      rw [h1.2, ev_C] at k
      exact oBrs_ok ⟨H.1, h2, H.2.2⟩ k
    · cases e
  · cases e
def oIfi (c : ClassFile.Cond) (off : Int) (C : Cx) (pc : Nat) (ls : List AL) (st : List AV) (ov : OV) : Option (List AS) := match st with
  | .inl y :: .inl x :: st => (match aJ pc off with
    | some t => some (oBrs t (pc + 3) (brC c C x y) ls st ov)
    | none => none)
  | _ => none
theorem oIfi_ok {c : ClassFile.Cond} {off : Int} (H : Hy P z Z σ C ls st ov l s h g) (e : oIfi c off C pc ls st ov = some L) : ∃ x y s', s = .inl y :: .inl x :: s' ∧ GO P z Z (nV C) σ L (jc c x y pc off l s' h g) := by
  unfold oIfi at e
  split at e
  · rename_i y x st
    obtain ⟨Y, s1, rfl, h1, h2⟩ := qSs_i H.2.1
    obtain ⟨X, s2, rfl, h5, h6⟩ := qSs_i h2
    split at e
    · rename_i t ht
      cases e
      obtain ⟨h3, h4⟩ := aJ_ok ht
      refine ⟨X, Y, s2, rfl, ?_⟩
      unfold jc
      rw [if_pos h3, h4]
      have k := brC_ok H.2.2.1 c x y
      rw [h1.2, h5.2] at k
      exact oBrs_ok ⟨H.1, h6, H.2.2⟩ k
    · cases e
  · cases e
/-! switches -/
def tswL (C : Cx) (x : AP) (lo hi : Int) (n : Nat) : List (Cx × Option Nat) := (brLt C (apSub x (apC lo))).flatMap (fun q => bif q.2 then [(q.1, none)] else
  (brLt q.1 (apSub (apC hi) x)).flatMap (fun r => bif r.2 then [(r.1, none)] else
    (List.range n).flatMap (fun (t : Nat) => (brEq r.1 (apSub x (apC (lo + (t : Int))))).filterMap (fun w => bif w.2 then some (w.1, some t) else none))))
theorem tswL_ok (hC : satC σ C) {x : AP} {lo hi : Int} {n : Nat} (hn : hi - lo + 1 = (n : Int)) :
    ∃ q ∈ tswL C x lo hi n, satC σ q.1 ∧ q.1.1.length = C.1.length ∧ q.2 = if ev σ x < lo ∨ hi < ev σ x then none else some (ev σ x - lo).toNat := by
  obtain ⟨q, a1, a2, a3, a4⟩ := brLt_ok hC (apSub x (apC lo))
  rw [ev_sub, ev_C] at a4
  by_cases h1 : ev σ x < lo
  · rw [decide_eq_true (by omega)] at a4
    exact ⟨(q.1, none), List.mem_flatMap.mpr ⟨q, a1, by rw [a4]; exact List.mem_cons_self⟩, a2, a3, by rw [if_pos (Or.inl h1)]⟩
  · rw [decide_eq_false (by omega)] at a4
    obtain ⟨r, b1, b2, b3, b4⟩ := brLt_ok a2 (apSub (apC hi) x)
    rw [ev_sub, ev_C] at b4
    by_cases h2 : hi < ev σ x
    · rw [decide_eq_true (by omega)] at b4
      refine ⟨(r.1, none), List.mem_flatMap.mpr ⟨q, a1, ?_⟩, b2, b3.trans a3, by rw [if_pos (Or.inr h2)]⟩
      rw [a4]
      exact List.mem_flatMap.mpr ⟨r, b1, by rw [b4]; exact List.mem_cons_self⟩
    · rw [decide_eq_false (by omega)] at b4
      have ht : lo + (((ev σ x - lo).toNat : Nat) : Int) = ev σ x := by omega
      obtain ⟨w, c1, c2, c3, c4⟩ := brEq_ok b2 (apSub x (apC (lo + (((ev σ x - lo).toNat : Nat) : Int))))
      rw [ev_sub, ev_C, decide_eq_true (by omega)] at c4
      refine ⟨(w.1, some (ev σ x - lo).toNat), List.mem_flatMap.mpr ⟨q, a1, ?_⟩, c2, (c3.trans b3).trans a3, by rw [if_neg (by omega)]⟩
      rw [a4]
      refine List.mem_flatMap.mpr ⟨r, b1, ?_⟩
      rw [b4]
      refine List.mem_flatMap.mpr ⟨(ev σ x - lo).toNat, List.mem_range.mpr (by omega), List.mem_filterMap.mpr ⟨w, c1, ?_⟩⟩
      rw [c4]
      rfl
def tswT (pc : Nat) (d : Int) (os : Array Int) (q : Option Nat) : Nat := match q with
  | none => tgtOf pc d
  | some t => tgtOf pc (os.toList.getD t 0)
def oTsw (d lo hi : Int) (os : Array Int) (C : Cx) (pc : Nat) (ls : List AL) (st : List AV) (ov : OV) : Option (List AS) := match st with
  | .inl x :: st => (match nrm C x with
    | some x => bif nnZ ((pc : Int) + d) && (os.toList.all (fun o => nnZ ((pc : Int) + o)) && eqZ (hi - lo + 1) (os.toList.length : Int)) then
        some ((tswL C x lo hi os.toList.length).map (fun q => (q.1, tswT pc d os q.2, ls, st, ov))) else none
    | none => none)
  | _ => none
theorem oTsw_ok {d lo hi : Int} {os : Array Int} (H : Hy P z Z σ C ls st ov l s h g) (e : oTsw d lo hi os C pc ls st ov = some L) : GO P z Z (nV C) σ L (tsw d lo hi os pc l s h g) := by
  unfold oTsw at e
  split at e
  · rename_i x st
    obtain ⟨X, s1, rfl, h1, h2⟩ := qSs_i H.2.1
    split at e
    · rename_i x' hx
      have e1 := nrm_ok H.2.2.1 hx
      rw [h1.2] at e1
      cases hk : nnZ ((pc : Int) + d) && (os.toList.all (fun o => nnZ ((pc : Int) + o)) && eqZ (hi - lo + 1) (os.toList.length : Int)) with
      | false => rw [hk] at e; cases e
      | true =>
        rw [hk] at e
        cases e
        simp only [Bool.and_eq_true] at hk
        obtain ⟨k1, k2, k3⟩ := hk
        have k1 := nnZ_iff.mp k1
        have k3 := eqZ_iff.mp k3
        obtain ⟨q, a1, a2, a3, a4⟩ := tswL_ok H.2.2.1 (x := x') k3
        have k := H.ctx a2 a3
        rw [← e1] at a4
        refine ⟨_, List.mem_map.mpr ⟨q, a1, rfl⟩, σ, (tswT pc d os q.2, l, s1, h, g), AG.rf, Nat.le_of_eq a3.symm, ⟨rfl, k.1, (show qSs σ (nV q.1) st s1 from by have e9 : nV q.1 = nV C := a3; rw [e9]; exact h2), k.2.2⟩, ?_⟩
        unfold tsw
        simp only
        by_cases hd : w32 X < lo ∨ hi < w32 X
        · rw [if_pos hd] at a4
          rw [if_pos hd, a4]
          unfold jmp
          rw [if_pos k1]
          rfl
        · rw [if_neg hd] at a4
          have hl : (w32 X - lo).toNat < os.toList.length := by omega
          have hg : os[(w32 X - lo).toNat]? = some (os.toList.getD (w32 X - lo).toNat 0) := by
            rw [← Array.getElem?_toList, List.getElem?_eq_getElem hl, List.getD_eq_getElem?_getD, List.getElem?_eq_getElem hl]
            rfl
          have hm : 0 ≤ (pc : Int) + os.toList.getD (w32 X - lo).toNat 0 := by
            have := List.all_eq_true.mp k2 (os.toList.getD (w32 X - lo).toNat 0) (by
              rw [List.getD_eq_getElem?_getD, List.getElem?_eq_getElem hl]
              exact List.getElem_mem hl)
            exact nnZ_iff.mp this
          rw [if_neg hd, hg, a4]
          simp only
          unfold jmp
          rw [if_pos hm]
          rfl
    · cases e
  · cases e
def lswL (x : AP) (d : Int) : List (Int × Int) → Cx → List (Cx × Int)
  | [], C => [(C, d)]
  | q :: r, C => (brEq C (apSub x (apC q.1))).flatMap (fun w => bif w.2 then [(w.1, q.2)] else lswL x d r w.1)
theorem lswL_ok {x : AP} {d : Int} : ∀ {ps : List (Int × Int)} {C : Cx}, satC σ C → ∃ q ∈ lswL x d ps C, satC σ q.1 ∧ q.1.1.length = C.1.length ∧ q.2 = Op.lookupswitch.offset ps d (ev σ x)
  | [], C, hC => ⟨(C, d), List.mem_cons_self, hC, rfl, rfl⟩
  | p :: r, C, hC => by
    obtain ⟨w, a1, a2, a3, a4⟩ := brEq_ok hC (apSub x (apC p.1))
    rw [ev_sub, ev_C] at a4
    obtain ⟨pa, po⟩ := p
    rw [Op.lookupswitch.offset_cons]
    by_cases hz : pa = ev σ x
    · rw [decide_eq_true (by simp only; omega)] at a4
      exact ⟨(w.1, po), List.mem_flatMap.mpr ⟨w, a1, by rw [a4]; exact List.mem_cons_self⟩, a2, a3, by rw [if_pos hz]⟩
    · rw [decide_eq_false (by simp only; omega)] at a4
      obtain ⟨q, b1, b2, b3, b4⟩ := lswL_ok (ps := r) a2
      exact ⟨q, List.mem_flatMap.mpr ⟨w, a1, by rw [a4]; exact b1⟩, b2, b3.trans a3, by rw [if_neg hz]; exact b4⟩
def oLsw (d : Int) (ps : Array (Int × Int)) (C : Cx) (pc : Nat) (ls : List AL) (st : List AV) (ov : OV) : Option (List AS) := match st with
  | .inl x :: st => (match nrm C x with
    | some x => bif (ps.toList.zip (ps.toList.drop 1)).all (fun q => decide (q.1.1 < q.2.1)) && (nnZ ((pc : Int) + d) && ps.toList.all (fun o => nnZ ((pc : Int) + o.2))) then
        some ((lswL x d ps.toList C).map (fun q => (q.1, tgtOf pc q.2, ls, st, ov))) else none
    | none => none)
  | _ => none
theorem off_in {pc : Nat} {d k : Int} : ∀ {ps : List (Int × Int)}, 0 ≤ (pc : Int) + d → (∀ q ∈ ps, 0 ≤ (pc : Int) + q.2) → 0 ≤ (pc : Int) + Op.lookupswitch.offset ps d k
  | [], h, _ => h
  | (a, o) :: r, h, hp => by
    rw [Op.lookupswitch.offset_cons]
    split
    · exact hp (a, o) List.mem_cons_self
    · exact off_in h (fun q hq => hp q (List.mem_cons_of_mem _ hq))
theorem oLsw_ok {d : Int} {ps : Array (Int × Int)} (H : Hy P z Z σ C ls st ov l s h g) (e : oLsw d ps C pc ls st ov = some L) : GO P z Z (nV C) σ L (lsw d ps pc l s h g) := by
  unfold oLsw at e
  split at e
  · rename_i x st
    obtain ⟨X, s1, rfl, h1, h2⟩ := qSs_i H.2.1
    split at e
    · rename_i x' hx
      have e1 := nrm_ok H.2.2.1 hx
      rw [h1.2] at e1
      cases hk : (ps.toList.zip (ps.toList.drop 1)).all (fun q => decide (q.1.1 < q.2.1)) && (nnZ ((pc : Int) + d) && ps.toList.all (fun o => nnZ ((pc : Int) + o.2))) with
      | false => rw [hk] at e; cases e
      | true =>
        rw [hk] at e
        cases e
        have hk := Bool.and_eq_true_iff.mp hk
        have k1 := hk.1
        have hk2 := Bool.and_eq_true_iff.mp hk.2
        have k2 := nnZ_iff.mp hk2.1
        have k3 := List.all_eq_true.mp hk2.2
        obtain ⟨q, a1, a2, a3, a4⟩ := lswL_ok (x := x') (d := d) (ps := ps.toList) H.2.2.1
        have k := H.ctx a2 a3
        rw [← e1] at a4
        refine ⟨_, List.mem_map.mpr ⟨q, a1, rfl⟩, σ, (tgtOf pc q.2, l, s1, h, g), AG.rf, Nat.le_of_eq a3.symm, ⟨rfl, k.1, (show qSs σ (nV q.1) st s1 from by have e9 : nV q.1 = nV C := a3; rw [e9]; exact h2), k.2.2⟩, ?_⟩
        unfold lsw
        simp only
        rw [if_pos k1]
        unfold jmp
        rw [if_pos (off_in k2 (fun q hq => nnZ_iff.mp (k3 q hq))), a4]
        rfl
    · cases e
  · cases e
/-! longs, the stack -/
def oLcmp (C : Cx) (pc : Nat) (ls : List AL) (st : List AV) (ov : OV) : Option (List AS) := match st with
  | .inr (.inl y) :: .inr (.inl x) :: st => some ((brL C x y).map (fun q => (q.1, pc + 1, ls, .inl (apC q.2) :: st, ov)))
  | _ => none
theorem oLcmp_ok (H : Hy P z Z σ C ls st ov l s h g) (e : oLcmp C pc ls st ov = some L) : GO P z Z (nV C) σ L (lcmpI pc l s h g) := by
  unfold oLcmp at e
  split at e
  · rename_i y x st
    obtain ⟨Y, s1, rfl, h1, h2⟩ := qSs_l H.2.1
    obtain ⟨X, s2, rfl, h3, h4⟩ := qSs_l h2
    cases e
    obtain ⟨q, a1, a2, a3, a4⟩ := brL_ok H.2.2.1 x y
    rw [h1.2, h3.2] at a4
    have k := H.ctx a2 a3
    have e9 : nV q.1 = nV C := a3
    exact ⟨_, List.mem_map.mpr ⟨q, a1, rfl⟩, σ, (pc + 1, l, .inl (cmpL X Y) :: s2, h, g), AG.rf, Nat.le_of_eq a3.symm, ⟨rfl, k.1, ⟨by rw [← a4]; exact okP_C _ _ _, by rw [e9]; exact h4⟩, k.2.2⟩, rfl⟩
  · cases e
def oI2l (C : Cx) (pc : Nat) (ls : List AL) (st : List AV) (ov : OV) : Option (List AS) := match st with
  | .inl x :: st => (match nrm C x with
    | some x => some [(C, pc + 1, ls, .inr (.inl x) :: st, ov)]
    | none => some [((fresh C rng32).1, pc + 1, ls, .inr (.inl (fresh C rng32).2) :: st, ov)])
  | _ => none
theorem nrm_lt {x y : AP} (h : nrm C x = some y) {n : Nat} (hx : rLt n x.2 = true) : rLt n y.2 = true := by
  unfold nrm at h
  split at h
  · rename_i q hq
    cases h1 : i32 q with
    | true => rw [h1] at h; cases h; exact hx
    | false =>
      rw [h1] at h
      simp only [cond_false] at h
      split at h
      · cases h; rfl
      · cases h
  · cases h
theorem oI2l_ok (H : Hy P z Z σ C ls st ov l s h g) (e : oI2l C pc ls st ov = some L) : GO P z Z (nV C) σ L (i2lI pc l s h g) := by
  unfold oI2l at e
  split at e
  · rename_i x st
    obtain ⟨X, s1, rfl, h1, h2⟩ := qSs_i H.2.1
    split at e
    · rename_i x' hx
      cases e
      have e1 := nrm_ok H.2.2.1 hx
      rw [h1.2] at e1
      exact go1 (σ' := σ) (c' := (pc + 1, l, .inr (.inl (w32 X)) :: s1, h, g)) ⟨rfl, H.1, ⟨⟨nrm_lt hx h1.1, e1.symm⟩, h2⟩, H.2.2⟩ AG.rf (Nat.le_refl _) rfl
    · cases e
      obtain ⟨a1, a2, a3, a4⟩ := fresh_ok H.2.2.1 (q := rng32) (x := w32 X) (r32 _)
      exact go1 (c' := (pc + 1, l, .inr (.inl (w32 X)) :: s1, h, g)) ⟨rfl, H.1.up a2 a1, ⟨a4, h2.up a2 a1⟩, H.2.2.ext a3 a2 a1⟩ a1 a2 rfl
  · cases e
def oL2i (C : Cx) (pc : Nat) (ls : List AL) (st : List AV) (ov : OV) : Option (List AS) := match st with
  | .inr (.inl x) :: st => some [(C, pc + 1, ls, .inl x :: st, ov)]
  | _ => none
theorem oL2i_ok (H : Hy P z Z σ C ls st ov l s h g) (e : oL2i C pc ls st ov = some L) : GO P z Z (nV C) σ L (l2iI pc l s h g) := by
  unfold oL2i at e
  split at e
  · rename_i x st
    obtain ⟨X, s1, rfl, h1, h2⟩ := qSs_l H.2.1
    cases e
    exact go1 (σ' := σ) (c' := (pc + 1, l, .inl X :: s1, h, g)) ⟨rfl, H.1, ⟨h1, h2⟩, H.2.2⟩ AG.rf (Nat.le_refl _) rfl
  · cases e
def oLneg (C : Cx) (pc : Nat) (ls : List AL) (st : List AV) (ov : OV) : Option (List AS) := match st with
  | .inr (.inl x) :: st => some [(C, pc + 1, ls, .inr (.inl (apNeg x)) :: st, ov)]
  | _ => none
theorem oLneg_ok (H : Hy P z Z σ C ls st ov l s h g) (e : oLneg C pc ls st ov = some L) : GO P z Z (nV C) σ L (negL pc l s h g) := by
  unfold oLneg at e
  split at e
  · rename_i x st
    obtain ⟨X, s1, rfl, h1, h2⟩ := qSs_l H.2.1
    cases e
    exact go1 (σ' := σ) (c' := (pc + 1, l, .inr (.inl (-X)) :: s1, h, g)) ⟨rfl, H.1, ⟨h1.neg, h2⟩, H.2.2⟩ AG.rf (Nat.le_refl _) rfl
  · cases e
def oDup (C : Cx) (pc : Nat) (ls : List AL) (st : List AV) (ov : OV) : Option (List AS) := match st with
  | a :: st => bif Nat.beq (catA a) 1 then some [(C, pc + 1, ls, a :: a :: st, ov)] else none
  | _ => none
theorem oDup_ok (H : Hy P z Z σ C ls st ov l s h g) (e : oDup C pc ls st ov = some L) : GO P z Z (nV C) σ L (dup1 pc l s h g) := by
  unfold oDup at e
  split at e
  · rename_i a st
    obtain ⟨v, s1, rfl, h1, h2⟩ := qSs_c H.2.1
    cases hk : Nat.beq (catA a) 1 with
    | false => rw [hk] at e; cases e
    | true =>
      rw [hk] at e
      cases e
      have hk := Nat.eq_of_beq_eq_true hk
      rw [qV_cat h1] at hk
      refine go1 (σ' := σ) (c' := (pc + 1, l, v :: v :: s1, h, g)) ⟨rfl, H.1, ⟨h1, h1, h2⟩, H.2.2⟩ AG.rf (Nat.le_refl _) ?_
      unfold dup1
      simp only
      rw [if_pos hk]
      rfl
  · cases e
def oDup2 (C : Cx) (pc : Nat) (ls : List AL) (st : List AV) (ov : OV) : Option (List AS) := match st with
  | a :: b :: st => bif Nat.beq (catA a) 1 && Nat.beq (catA b) 1 then some [(C, pc + 1, ls, a :: b :: a :: b :: st, ov)] else none
  | _ => none
theorem oDup2_ok (H : Hy P z Z σ C ls st ov l s h g) (e : oDup2 C pc ls st ov = some L) : GO P z Z (nV C) σ L (dup2 pc l s h g) := by
  unfold oDup2 at e
  split at e
  · rename_i a b st
    obtain ⟨v, s1, rfl, h1, h2⟩ := qSs_c H.2.1
    obtain ⟨w, s2, rfl, h3, h4⟩ := qSs_c h2
    cases hk : Nat.beq (catA a) 1 && Nat.beq (catA b) 1 with
    | false => rw [hk] at e; cases e
    | true =>
      rw [hk] at e
      cases e
      have hk := Bool.and_eq_true_iff.mp hk
      have k1 := Nat.eq_of_beq_eq_true hk.1
      have k2 := Nat.eq_of_beq_eq_true hk.2
      rw [qV_cat h1] at k1
      rw [qV_cat h3] at k2
      refine go1 (σ' := σ) (c' := (pc + 1, l, v :: w :: v :: w :: s2, h, g)) ⟨rfl, H.1, ⟨h1, h3, h1, h3, h4⟩, H.2.2⟩ AG.rf (Nat.le_refl _) ?_
      unfold dup2
      simp only
      rw [if_pos ⟨k1, k2⟩]
      rfl
  · cases e
def oDupx (C : Cx) (pc : Nat) (ls : List AL) (st : List AV) (ov : OV) : Option (List AS) := match st with
  | a :: b :: st => bif Nat.beq (catA a) 1 && Nat.beq (catA b) 1 then some [(C, pc + 1, ls, a :: b :: a :: st, ov)] else none
  | _ => none
theorem oDupx_ok (H : Hy P z Z σ C ls st ov l s h g) (e : oDupx C pc ls st ov = some L) : GO P z Z (nV C) σ L (dupx pc l s h g) := by
  unfold oDupx at e
  split at e
  · rename_i a b st
    obtain ⟨v, s1, rfl, h1, h2⟩ := qSs_c H.2.1
    obtain ⟨w, s2, rfl, h3, h4⟩ := qSs_c h2
    cases hk : Nat.beq (catA a) 1 && Nat.beq (catA b) 1 with
    | false => rw [hk] at e; cases e
    | true =>
      rw [hk] at e
      cases e
      have hk := Bool.and_eq_true_iff.mp hk
      have k1 := Nat.eq_of_beq_eq_true hk.1
      have k2 := Nat.eq_of_beq_eq_true hk.2
      rw [qV_cat h1] at k1
      rw [qV_cat h3] at k2
      refine go1 (σ' := σ) (c' := (pc + 1, l, v :: w :: v :: s2, h, g)) ⟨rfl, H.1, ⟨h1, h3, h1, h4⟩, H.2.2⟩ AG.rf (Nat.le_refl _) ?_
      unfold dupx
      simp only
      rw [if_pos ⟨k1, k2⟩]
      rfl
  · cases e
end OPS2
