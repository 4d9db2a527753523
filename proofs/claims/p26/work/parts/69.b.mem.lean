/-! ===== THE INSTRUCTIONS THAT TOUCH CELLS, OVER FLAGGED STATES ===== -/
theorem scr_big {a k : Int} (h : 1000 ≤ a) : scrt a k = false := by
  unfold scrt
  rw [decide_eq_false (by omega : ¬ a ≤ 223), decide_eq_false (by omega : ¬ a = 213)]
  simp
theorem rdk_big {h : PH} {a k : Int} (ha : 1000 ≤ a) : rdk h a k = true := by
  unfold rdk
  rw [scr_big ha]
  rfl
def oAldT (P : RGt) (Z : Option ZT) (k : Nat) (C : Cx) (pc : Nat) (ls : List AL) (st : List AV) (ov : OV) : Option (List AS) := match st with
  | .inl i :: .inr (.inr a) :: st => (match rowT C a k with
    | some q => (match idxT C i q.2 with
      | some w => (match rdT P C ov q.1 w.1 w.2 i with
        | some r => some [(r.1, pc + 1, ls, .inl r.2.1 :: st, r.2.2)]
        | none => none)
      | none => none)
    | none => bif Nat.beq k 10 then (match cst C a with
      | some c => bif eqZ c 2000 then (match Z with
          | some p => bif geS C i 0 && geS C (apSub p.1 i) 1 then (match cst C (apSub i p.2.1) with
              | some (.ofNat k) => (match nth p.2.2 k with
                | some v => some [(C, pc + 1, ls, .inl v :: st, ov)]
                | none => none)
              | _ => none) else none
          | none => none)
        else bif eqZ c 1000 || eqZ c 1001 then (match idxT C i (roL c).length with
          | some w => bif Nat.beq w.1 w.2 then some [(C, pc + 1, ls, .inl (apC ((roL c).getD w.1 0)) :: st, ov)] else some [((fresh C (some (-1, 5))).1, pc + 1, ls, .inl (fresh C (some (-1, 5))).2 :: st, ov)]
          | none => none) else none
      | none => none) else none)
  | _ => none
theorem ro_rng : ∀ c : Int, c = 1000 ∨ c = 1001 → ∀ j : Nat, j < (roL c).length → -1 ≤ (roL c).getD j 0 ∧ (roL c).getD j 0 ≤ 5 := by
  intro c hc
  rcases hc with rfl | rfl
  · decide +kernel
  · decide +kernel
section MEM
variable {P : RGt} {I : PH → Prop} {z : Int → Int} {Z : Option ZT} {σ : Nat → Int} {C : Cx} {pc : Nat} {ls : List AL} {st : List AV} {ov : OV} {l : PL} {s : List PV} {h : PH} {g : PG} {L : List AS}
theorem oAldT_ok {k : Nat} (hP : tOK P I) (H : tHy I z Z σ C ls st ov l s h g) (e : oAldT P Z k C pc ls st ov = some L) : ∃ X A s2, s = .inl X :: .inr (.inr A) :: s2 ∧ rdk h A (w32 X) = true ∧ tGO I z Z (nV C) σ L (aldI z k pc l s h g) := by
  unfold oAldT at e
  split at e
  · rename_i i a st
    obtain ⟨X, s1, rfl, h1, h2⟩ := qSs_i H.2.1
    obtain ⟨A, s2, rfl, h3, h4⟩ := qSs_r h2
    refine ⟨X, A, s2, rfl, ?_⟩
    split at e
    · rename_i q hq
      obtain ⟨a0, b0, b1, b2, b3, b4⟩ := rowT_ok H.2.2.1 h3 H.2.2.2.2.2.1.1 hq
      split at e
      · rename_i w hw
        obtain ⟨j, c1, c2, c3, c4, c5, c6, c7⟩ := idxT_ok H.2.2.1 h1 hw
        split at e
        · rename_i r hr
          cases e
          obtain ⟨σ', a1, a2, a3, a4, a5⟩ := rdT_ok hP H.2.2 b0 b2 c3 c4 (by omega) (h1.2.trans c1) hr
          refine ⟨by rw [b1, c2]; exact a5, tgo1 (σ' := σ') (c' := (pc + 1, l, .inl (h (a0 : Int) (j : Int)) :: s2, h, g)) ⟨rfl, H.1.up a2 a1, ⟨a4, h4.up a2 a1⟩, a3⟩ a1 a2 ?_⟩
          unfold aldI ald
          simp only
          rw [b3, if_pos rfl, c2, b4, if_pos ⟨by omega, by omega⟩, b1]
          rfl
        · cases e
      · cases e
    · cases hk : Nat.beq k 10 with
      | false => rw [hk] at e; cases e
      | true =>
        rw [hk] at e
        simp only [cond_true] at e
        have hk := Nat.eq_of_beq_eq_true hk
        subst hk
        split at e
        · rename_i c hc
          have ec := h3.2.symm.trans (cst_ok H.2.2.1 hc)
          subst ec
          have hnO : 1000 ≤ A → isO A 10 g.1 = false := by
            intro hA
            unfold isO
            have : ¬ (A < (g.1 : Nat)) := by
              have := H.2.2.2.2.2.1.1
              rw [this]
              show ¬ (A < ((232 : Nat) : Int))
              omega
            rw [decide_eq_false this]
            simp
          cases hz : eqZ A 2000 with
          | true =>
            rw [hz] at e
            simp only [cond_true] at e
            have hz := eqZ_iff.mp hz
            subst hz
            split at e
            · rename_i p
              cases hg : geS C i 0 && geS C (apSub p.1 i) 1 with
              | false => rw [hg] at e; cases e
              | true =>
                rw [hg] at e
                simp only [cond_true] at e
                have hg := Bool.and_eq_true_iff.mp hg
                have g1 := geS_ok H.2.2.1 hg.1
                have g2 := geS_ok H.2.2.1 hg.2
                obtain ⟨hz1, hz2, hz3⟩ := H.2.2.2.1.2.2 p rfl
                rw [ev_sub, hz1.2, h1.2] at g2
                rw [h1.2] at g1
                have hzl := H.2.2.2.1.1
                have hw : w32 X = X := e_small (by omega) (by omega)
                split at e
                · rename_i k hk
                  have hk2 := cst_ok H.2.2.1 hk
                  rw [ev_sub, h1.2] at hk2
                  have hk2 : X - ev σ p.2.1 = (k : Int) := hk2
                  split at e
                  · rename_i v hv
                    cases e
                    have hq := hz3 k v hv
                    rw [show ev σ p.2.1 + (k : Int) = X from by omega] at hq
                    refine ⟨rdk_big (by decide), tgo1 (σ' := σ) (c' := (pc + 1, l, .inl (z (w32 X)) :: s2, h, g)) ⟨rfl, H.1, ⟨by rw [hw]; exact hq, h4⟩, H.2.2⟩ AG.rf (Nat.le_refl _) ?_⟩
                    unfold aldI ald
                    simp only
                    rw [hnO (by decide), if_neg (by simp), if_pos ⟨by decide, by decide⟩]
                    have hn : roN z 2000 = z (-1) := rfl
                    have hv : roV z 2000 (w32 X) = z (w32 X) := rfl
                    rw [hn, hv, if_pos ⟨by omega, by omega⟩]
                    rfl
                  · cases e
                · cases e
            · cases e
          | false =>
            rw [hz] at e
            simp only [cond_false] at e
            cases hz2 : eqZ A 1000 || eqZ A 1001 with
            | false => rw [hz2] at e; cases e
            | true =>
              rw [hz2] at e
              simp only [cond_true] at e
              have hA : A = 1000 ∨ A = 1001 := by
                rcases Bool.or_eq_true_iff.mp hz2 with q | q
                · exact Or.inl (eqZ_iff.mp q)
                · exact Or.inr (eqZ_iff.mp q)
              have hK : roK A = 10 := by rcases hA with rfl | rfl <;> rfl
              have hN : roN z A = ((roL A).length : Int) := by rcases hA with rfl | rfl <;> rfl
              have hV : ∀ j : Nat, roV z A (j : Int) = (roL A).getD j 0 := by
                intro j
                rcases hA with rfl | rfl
                · unfold roV; rw [if_neg (by decide), Int.toNat_natCast]
                · unfold roV; rw [if_neg (by decide), Int.toNat_natCast]
              split at e
              · rename_i w hw
                obtain ⟨j, c1, c2, c3, c4, c5, c6, c7⟩ := idxT_ok H.2.2.1 h1 hw
                have key : aldI z 10 pc l (.inl X :: .inr (.inr A) :: s2) h g = some (.inl (pc + 1, l, .inl ((roL A).getD j 0) :: s2, h, g)) := by
                  unfold aldI ald
                  simp only
                  rw [hnO (by omega), if_neg (by simp), if_pos ⟨hK, by decide⟩, c2, hN, if_pos ⟨by omega, by omega⟩, hV]
                  rfl
                refine ⟨rdk_big (by omega), ?_⟩
                rw [key]
                cases hb : Nat.beq w.1 w.2 with
                | true =>
                  rw [hb] at e
                  cases e
                  have hb := Nat.eq_of_beq_eq_true hb
                  have hj : j = w.1 := by omega
                  refine tgo1 (σ' := σ) (c' := (pc + 1, l, .inl ((roL A).getD j 0) :: s2, h, g)) ⟨rfl, H.1, ⟨by rw [hj]; exact okP_C _ _ _, h4⟩, H.2.2⟩ AG.rf (Nat.le_refl _) rfl
                | false =>
                  rw [hb] at e
                  cases e
                  obtain ⟨a1, a2, a3, a4⟩ := fresh_ok H.2.2.1 (q := some (-1, 5)) (x := (roL A).getD j 0) (fun y hy => by cases hy; exact ro_rng A hA j c5)
                  exact tgo1 (σ' := extS σ (nV C) ((roL A).getD j 0)) (c' := (pc + 1, l, .inl ((roL A).getD j 0) :: s2, h, g)) ⟨rfl, H.1.up a2 a1, ⟨a4, h4.up a2 a1⟩, H.2.2.ext a3 a2 a1⟩ a1 a2 rfl
              · cases e
        · cases e
  · cases e
def oAldLT (P : RGt) (C : Cx) (pc : Nat) (ls : List AL) (st : List AV) (ov : OV) : Option (List AS) := match st with
  | .inl i :: .inr (.inr a) :: st => (match rowT C a 11 with
    | some q => (match idxT C i q.2 with
      | some w => (match rdT P C ov q.1 w.1 w.2 i with
        | some r => some [(r.1, pc + 1, ls, .inr (.inl r.2.1) :: st, r.2.2)]
        | none => none)
      | none => none)
    | none => none)
  | _ => none
theorem oAldLT_ok (hP : tOK P I) (H : tHy I z Z σ C ls st ov l s h g) (e : oAldLT P C pc ls st ov = some L) : ∃ X A s2, s = .inl X :: .inr (.inr A) :: s2 ∧ rdk h A (w32 X) = true ∧ tGO I z Z (nV C) σ L (aldL pc l s h g) := by
  unfold oAldLT at e
  split at e
  · rename_i i a st
    obtain ⟨X, s1, rfl, h1, h2⟩ := qSs_i H.2.1
    obtain ⟨A, s2, rfl, h3, h4⟩ := qSs_r h2
    refine ⟨X, A, s2, rfl, ?_⟩
    split at e
    · rename_i q hq
      obtain ⟨a0, b0, b1, b2, b3, b4⟩ := rowT_ok H.2.2.1 h3 H.2.2.2.2.2.1.1 hq
      split at e
      · rename_i w hw
        obtain ⟨j, c1, c2, c3, c4, c5, c6, c7⟩ := idxT_ok H.2.2.1 h1 hw
        split at e
        · rename_i r hr
          cases e
          obtain ⟨σ', a1, a2, a3, a4, a5⟩ := rdT_ok hP H.2.2 b0 b2 c3 c4 (by omega) (h1.2.trans c1) hr
          refine ⟨by rw [b1, c2]; exact a5, tgo1 (σ' := σ') (c' := (pc + 1, l, .inr (.inl (h (a0 : Int) (j : Int))) :: s2, h, g)) ⟨rfl, H.1.up a2 a1, ⟨a4, h4.up a2 a1⟩, a3⟩ a1 a2 ?_⟩
          unfold aldL
          simp only
          rw [c2, b4, if_pos ⟨b3, by omega, by omega⟩, b1]
          rfl
        · cases e
      · cases e
    · cases e
  · cases e
/-! references at even distance -/
def evenT (f : Nat → Option Nat) (l : Nat) (r0 d : Int) : Nat → Bool
  | 0 => true
  | n + 1 => (match f (l + n) with
    | some r => eqZ (r : Int) (r0 + d * (n : Int))
    | none => false) && evenT f l r0 d n
def affR (f : Nat → Option Nat) (l u : Nat) : Option (Int × Int) := match f l with
  | some r0 => bif Nat.beq l u then some ((r0 : Int), 0) else (match f (l + 1) with
    | some r1 => bif evenT f l (r0 : Int) ((r1 : Int) - (r0 : Int)) (u - l + 1) then some ((r0 : Int), (r1 : Int) - (r0 : Int)) else none
    | none => none)
  | none => none
theorem evenT_ok {f : Nat → Option Nat} {l : Nat} {r0 d : Int} : ∀ {n : Nat}, evenT f l r0 d n = true → ∀ t, t < n → ∃ r : Nat, f (l + t) = some r ∧ (r : Int) = r0 + d * (t : Int)
  | 0, _, t, ht => by omega
  | n + 1, e, t, ht => by
    have e := Bool.and_eq_true_iff.mp e
    by_cases hq : t = n
    · subst hq
      have e1 := e.1
      split at e1
      · rename_i r hr
        exact ⟨r, hr, eqZ_iff.mp e1⟩
      · cases e1
    · exact evenT_ok e.2 t (by omega)
theorem affR_ok {f : Nat → Option Nat} {l u : Nat} {q : Int × Int} (e : affR f l u = some q) (hlu : l ≤ u) : ∀ j, l ≤ j → j ≤ u → ∃ r : Nat, f j = some r ∧ (r : Int) = q.1 + q.2 * ((j : Int) - (l : Int)) := by
  intro j h1 h2
  unfold affR at e
  split at e
  · rename_i r0 hr0
    cases hk : Nat.beq l u with
    | true =>
      rw [hk] at e
      cases e
      have hk := Nat.eq_of_beq_eq_true hk
      have hj : j = l := by omega
      subst hj
      exact ⟨r0, hr0, by simp⟩
    | false =>
      rw [hk] at e
      simp only [cond_false] at e
      split at e
      · rename_i r1 hr1
        cases hv : evenT f l (r0 : Int) ((r1 : Int) - (r0 : Int)) (u - l + 1) with
        | false => rw [hv] at e; cases e
        | true =>
          rw [hv] at e
          cases e
          obtain ⟨r, k1, k2⟩ := evenT_ok hv (j - l) (by omega)
          rw [show l + (j - l) = j from by omega] at k1
          refine ⟨r, k1, ?_⟩
          simp only
          rw [k2, show ((j - l : Nat) : Int) = (j : Int) - (l : Int) from by omega]
      · cases e
  · cases e
def oAldRT (C : Cx) (pc : Nat) (ls : List AL) (st : List AV) (ov : OV) : Option (List AS) := match st with
  | .inl i :: .inr (.inr a) :: st => (match rowR C a with
    | some q => (match idxT C i q.2 with
      | some w => (match affR (rfA q.1) w.1 w.2 with
        | some r => some [(C, pc + 1, ls, .inr (.inr (bif isZ r.2 then apC r.1 else apAdd (apC (r.1 - r.2 * (w.1 : Int))) (apMul (apC r.2) i))) :: st, ov)]
        | none => none)
      | none => none)
    | none => none)
  | _ => none
theorem oAldRT_ok (H : tHy I z Z σ C ls st ov l s h g) (e : oAldRT C pc ls st ov = some L) : tGO I z Z (nV C) σ L (aldR pc l s h g) := by
  unfold oAldRT at e
  split at e
  · rename_i i a st
    obtain ⟨X, s1, rfl, h1, h2⟩ := qSs_i H.2.1
    obtain ⟨A, s2, rfl, h3, h4⟩ := qSs_r h2
    split at e
    · rename_i q hq
      obtain ⟨b1, b2, b3, b4⟩ := rowR_ok H.2.2.1 h3 H.2.2.2.2.2.1.1 hq
      split at e
      · rename_i w hw
        obtain ⟨j, c1, c2, c3, c4, c5, c6, c7⟩ := idxT_ok H.2.2.1 h1 hw
        split at e
        · rename_i r hr
          cases e
          obtain ⟨n, d1, d2⟩ := affR_ok hr (by omega) j c3 c4
          have hrt := rfA_rtab b2 d1
          have hg := H.2.2.2.2.2.1.2 q.1 j b2 (by rw [hrt]; omega)
          rw [hrt] at hg
          have hv : okP σ (nV C) (bif isZ r.2 then apC r.1 else apAdd (apC (r.1 - r.2 * (w.1 : Int))) (apMul (apC r.2) i)) (n : Int) := by
            cases hz : isZ r.2 with
            | true =>
              have hz := isZ_iff.mp hz
              rw [hz] at d2
              simp only [cond_true]
              rw [d2]
              simp only [Int.zero_mul, Int.add_zero]
              exact okP_C _ _ _
            | false =>
              simp only [cond_false]
              have k := (okP_C σ (nV C) (r.1 - r.2 * (w.1 : Int))).add ((okP_C σ (nV C) r.2).mul h1)
              rw [d2, show r.1 + r.2 * ((j : Int) - (w.1 : Int)) = r.1 - r.2 * (w.1 : Int) + r.2 * X from by rw [c1, Int.mul_sub]; omega]
              exact k
          refine tgo1 (σ' := σ) (c' := (pc + 1, l, .inr (.inr (n : Int)) :: s2, h, g)) ⟨rfl, H.1, ⟨hv, h4⟩, H.2.2⟩ AG.rf (Nat.le_refl _) ?_
          unfold aldR
          simp only
          rw [c2, b4, b1, hg, if_pos ⟨by rw [← b1]; exact b3, by omega, by omega, by omega⟩]
          rfl
        · cases e
      · cases e
    · cases e
  · cases e
def oAstT (P : RGt) (k : Nat) (C : Cx) (pc : Nat) (ls : List AL) (st : List AV) (ov : OV) : Option (List AS) := match st with
  | .inl v :: .inl i :: .inr (.inr a) :: st => bif Nat.beq k 10 then (match rowT C a 10 with
    | some q => (match idxT C i q.2 with
      | some w => (match wrT P C ov q.1 w.1 w.2 i v with
        | some ov => some [(C, pc + 1, ls, st, ov)]
        | none => none)
      | none => none)
    | none => none) else none
  | .inr (.inl v) :: .inl i :: .inr (.inr a) :: st => bif Nat.beq k 11 then (match rowT C a 11 with
    | some q => (match idxT C i q.2 with
      | some w => (match wrT P C ov q.1 w.1 w.2 i v with
        | some ov => some [(C, pc + 1, ls, st, ov)]
        | none => none)
      | none => none)
    | none => none) else none
  | _ => none
theorem oAstT_ok {m : Nat} (hP : tOK P I) (H : tHy I z Z σ C ls st ov l s h g) (e : oAstT P 10 C pc ls st ov = some L) : tGO I z Z (nV C) σ L (xiD z m .iastore 1 pc l s h g) := by
  unfold oAstT at e
  split at e
  · rename_i v i a st
    obtain ⟨V, s0, rfl, h8, h9⟩ := qSs_i H.2.1
    obtain ⟨X, s1, rfl, h1, h2⟩ := qSs_i h9
    obtain ⟨A, s2, rfl, h3, h4⟩ := qSs_r h2
    rw [show Nat.beq 10 10 = true from rfl] at e
    simp only [cond_true] at e
    split at e
    · rename_i q hq
      obtain ⟨a0, b0, b1, b2, b3, b4⟩ := rowT_ok H.2.2.1 h3 H.2.2.2.2.2.1.1 hq
      split at e
      · rename_i w hw
        obtain ⟨j, c1, c2, c3, c4, c5, c6, c7⟩ := idxT_ok H.2.2.1 h1 hw
        split at e
        · rename_i ov' hov
          cases e
          have k := wrT_ok hP H.2.2 b0 b2 c3 c4 (by omega) (h1.2.trans c1) h8 hov
          refine tgo1 (σ' := σ) (c' := (pc + 1, l, s2, fl1 (u2 h (a0 : Int) (j : Int) V) (a0 : Int) (j : Int), g)) ⟨rfl, H.1, h4, k⟩ AG.rf (Nat.le_refl _) ?_
          show mapH (fun h => fl1 h A (w32 X)) (astI 10 (fun _ => true) pc l (.inl V :: .inl X :: .inr (.inr A) :: s2) h g) = _
          unfold astI
          simp only
          rw [c2, b4, if_pos ⟨b3, by omega, by omega, trivial⟩, b1]
          rfl
        · cases e
      · cases e
    · cases e
  · rw [show Nat.beq 10 11 = false from rfl] at e
    cases e
  · cases e
theorem oAstLT_ok {m : Nat} (hP : tOK P I) (H : tHy I z Z σ C ls st ov l s h g) (e : oAstT P 11 C pc ls st ov = some L) : tGO I z Z (nV C) σ L (xiD z m .lastore 1 pc l s h g) := by
  unfold oAstT at e
  split at e
  · rw [show Nat.beq 11 10 = false from rfl] at e
    cases e
  · rename_i v i a st
    obtain ⟨V, s0, rfl, h8, h9⟩ := qSs_l H.2.1
    obtain ⟨X, s1, rfl, h1, h2⟩ := qSs_i h9
    obtain ⟨A, s2, rfl, h3, h4⟩ := qSs_r h2
    rw [show Nat.beq 11 11 = true from rfl] at e
    simp only [cond_true] at e
    split at e
    · rename_i q hq
      obtain ⟨a0, b0, b1, b2, b3, b4⟩ := rowT_ok H.2.2.1 h3 H.2.2.2.2.2.1.1 hq
      split at e
      · rename_i w hw
        obtain ⟨j, c1, c2, c3, c4, c5, c6, c7⟩ := idxT_ok H.2.2.1 h1 hw
        split at e
        · rename_i ov' hov
          cases e
          have k := wrT_ok hP H.2.2 b0 b2 c3 c4 (by omega) (h1.2.trans c1) h8 hov
          refine tgo1 (σ' := σ) (c' := (pc + 1, l, s2, fl1 (u2 h (a0 : Int) (j : Int) V) (a0 : Int) (j : Int), g)) ⟨rfl, H.1, h4, k⟩ AG.rf (Nat.le_refl _) ?_
          show mapH (fun h => fl1 h A (w32 X)) (astL pc l (.inr (.inl V) :: .inl X :: .inr (.inr A) :: s2) h g) = _
          unfold astL
          simp only
          rw [c2, b4, if_pos ⟨b3, by omega, by omega⟩, b1]
          rfl
        · cases e
      · cases e
    · cases e
  · cases e
end MEM
