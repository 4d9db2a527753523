/-! ===== LENGTHS, FIELDS, COPIES, OVER FLAGGED STATES ===== -/
def oAlenT (Z : Option ZT) (C : Cx) (pc : Nat) (ls : List AL) (st : List AV) (ov : OV) : Option (List AS) := match st with
  | .inr (.inr a) :: st => (match cst C a with
    | some (.ofNat c) => bif Nat.blt c 232 then (match kdA c with
        | some q => bif Nat.ble 10 q.1 && Nat.ble q.1 16 then some [(C, pc + 1, ls, .inl (apC ((q.2 : Nat) : Int)) :: st, ov)] else none
        | none => none)
      else bif Nat.beq c 2000 then (match Z with
        | some p => some [(C, pc + 1, ls, .inl p.1 :: st, ov)]
        | none => none)
      else bif Nat.beq c 1000 || Nat.beq c 1001 then some [(C, pc + 1, ls, .inl (apC (((roL (c : Int)).length : Nat) : Int)) :: st, ov)] else none
    | some _ => none
    | none => (match candT C a with
      | some M => (match natsT M with
        | some (b :: r) => (match kdA b with
          | some q => bif Nat.ble 10 q.1 && Nat.ble q.1 16 && allK q.1 q.2 (b :: r) then some [(C, pc + 1, ls, .inl (apC ((q.2 : Nat) : Int)) :: st, ov)] else none
          | none => none)
        | _ => none)
      | none => none))
  | _ => none
section FLD
variable {P : RGt} {I : PH → Prop} {z : Int → Int} {Z : Option ZT} {σ : Nat → Int} {C : Cx} {pc : Nat} {ls : List AL} {st : List AV} {ov : OV} {l : PL} {s : List PV} {h : PH} {g : PG} {L : List AS}
theorem alen_kd {a : Nat} {q : Nat × Nat} {s1 : List PV} (ha : a < 232) (hg : g.1 = nCell) (hq : kdA a = some q) (h1 : 10 ≤ q.1) (h2 : q.1 ≤ 16) : alenI z pc l (.inr (.inr (a : Int)) :: s1) h g = some (.inl (pc + 1, l, .inl ((q.2 : Nat) : Int) :: s1, h, g)) := by
  obtain ⟨q1, q2⟩ := q
  have k := isO_nat ha hg hq
  have hs : sid (a : Int) = (q1, q2) := by
    rw [sid_nat ha]
    have := hq
    rw [kdA_ok ha] at this
    exact Option.some.inj this
  unfold alenI
  simp only
  rw [hs, if_pos ⟨k.1, h1, h2⟩, k.2]
  rfl
theorem oAlenT_ok (H : tHy I z Z σ C ls st ov l s h g) (e : oAlenT Z C pc ls st ov = some L) : tGO I z Z (nV C) σ L (alenI z pc l s h g) := by
  unfold oAlenT at e
  split at e
  · rename_i a st
    obtain ⟨A, s1, rfl, h1, h2⟩ := qSs_r H.2.1
    split at e
    · rename_i c hc
      have ec := h1.2.symm.trans (cst_ok H.2.2.1 hc)
      have ec : A = (c : Int) := ec
      subst ec
      cases hk : Nat.blt c 232 with
      | true =>
        rw [hk] at e
        have hk2 : c + 1 ≤ 232 := Nat.le_of_ble_eq_true hk
        simp only [cond_true] at e
        split at e
        · rename_i q hq
          cases hb : Nat.ble 10 q.1 && Nat.ble q.1 16 with
          | false => rw [hb] at e; cases e
          | true =>
            rw [hb] at e
            cases e
            have hb := Bool.and_eq_true_iff.mp hb
            exact tgo1 (σ' := σ) (c' := (pc + 1, l, .inl ((q.2 : Nat) : Int) :: s1, h, g)) ⟨rfl, H.1, ⟨okP_C _ _ _, h2⟩, H.2.2⟩ AG.rf (Nat.le_refl _) (alen_kd (by omega) H.2.2.2.2.2.1.1 hq (Nat.le_of_ble_eq_true hb.1) (Nat.le_of_ble_eq_true hb.2))
        · cases e
      | false =>
        rw [hk] at e
        simp only [cond_false] at e
        cases hz : Nat.beq c 2000 with
        | true =>
          rw [hz] at e
          simp only [cond_true] at e
          have hz := Nat.eq_of_beq_eq_true hz
          subst hz
          split at e
          · rename_i p
            cases e
            refine tgo1 (σ' := σ) (c' := (pc + 1, l, .inl (z (-1)) :: s1, h, g)) ⟨rfl, H.1, ⟨(H.2.2.2.1.2.2 p rfl).1, h2⟩, H.2.2⟩ AG.rf (Nat.le_refl _) ?_
            unfold alenI
            simp only
            rw [if_neg (by intro q; have := q.2.2; revert this; decide), if_pos (by decide)]
            rfl
          · cases e
        | false =>
          rw [hz] at e
          simp only [cond_false] at e
          cases hz2 : Nat.beq c 1000 || Nat.beq c 1001 with
          | false => rw [hz2] at e; cases e
          | true =>
            rw [hz2] at e
            cases e
            refine tgo1 (σ' := σ) (c' := (pc + 1, l, .inl (((roL (c : Int)).length : Nat) : Int) :: s1, h, g)) ⟨rfl, H.1, ⟨okP_C _ _ _, h2⟩, H.2.2⟩ AG.rf (Nat.le_refl _) ?_
            rcases Bool.or_eq_true_iff.mp hz2 with q | q
            · have q := Nat.eq_of_beq_eq_true q
              subst q
              unfold alenI
              simp only
              rw [if_neg (by intro q; have := q.2.2; revert this; decide), if_pos (by decide)]
              rfl
            · have q := Nat.eq_of_beq_eq_true q
              subst q
              unfold alenI
              simp only
              rw [if_neg (by intro q; have := q.2.2; revert this; decide), if_pos (by decide)]
              rfl
    · cases e
    · split at e
      · rename_i M hM
        have hX := candT_ok H.2.2.1 hM
        rw [h1.2] at hX
        split at e
        · rename_i b r hr
          obtain ⟨a0, b1, b2, b3⟩ := natsT_ok hr A hX
          split at e
          · rename_i q hq
            cases hb : Nat.ble 10 q.1 && Nat.ble q.1 16 && allK q.1 q.2 (b :: r) with
            | false => rw [hb] at e; cases e
            | true =>
              rw [hb] at e
              cases e
              have hb := Bool.and_eq_true_iff.mp hb
              have hb1 := Bool.and_eq_true_iff.mp hb.1
              have k1 := allK_ok hb.2 b1
              rw [b2]
              exact tgo1 (σ' := σ) (c' := (pc + 1, l, .inl ((q.2 : Nat) : Int) :: s1, h, g)) ⟨rfl, H.1, ⟨okP_C _ _ _, h2⟩, H.2.2⟩ AG.rf (Nat.le_refl _) (alen_kd (q := (q.1, q.2)) b3 H.2.2.2.2.2.1.1 k1 (Nat.le_of_ble_eq_true hb1.1) (Nat.le_of_ble_eq_true hb1.2))
          · cases e
        · cases e
      · cases e
  · cases e
/-- what a field that is a reference holds -/
def refT (C : Cx) (p : AP) (k : Nat) : Option AP := match cst C p with
  | some (.ofNat a) => bif Nat.blt a 232 then (match rfA a k with
    | some r => some (apC ((r : Nat) : Int))
    | none => none) else none
  | some _ => none
  | none => (match p.2 with
    | [([v], s)] => (match getG C.1 v with
      | some q => bif leZ q.1 q.2 && (leZ 0 q.1 && (Nat.blt v C.1.length && (List.range (q.2.toNat + 1)).all (fun (t : Nat) => Nat.blt t q.1.toNat || (leZ 0 (p.1 + s * (t : Int)) && leZ (p.1 + s * (t : Int)) 231)))) then (match affR (fun t => rfA (p.1 + s * (t : Int)).toNat k) q.1.toNat q.2.toNat with
        | some r => some (apAdd (apC (r.1 - r.2 * q.1)) (apMul (apC r.2) (apV v)))
        | none => none) else none
      | none => none)
    | _ => none)
theorem refT_ok (hC : satC σ C) (hg : gInv g) {p r : AP} {k : Nat} {X : Int} (hp : okP σ (nV C) p X) (e : refT C p k = some r) : okP σ (nV C) r (g.2 X k) ∧ 0 ≤ g.2 X k := by
  unfold refT at e
  split at e
  · rename_i a ha
    have ea := hp.2.symm.trans (cst_ok hC ha)
    have ea : X = (a : Int) := ea
    cases hk : Nat.blt a 232 with
    | false => rw [hk] at e; cases e
    | true =>
      rw [hk] at e
      have hk2 : a + 1 ≤ 232 := Nat.le_of_ble_eq_true hk
      simp only [cond_true] at e
      split at e
      · rename_i n hn
        cases e
        have hrt := rfA_rtab (by omega) hn
        have h2 := hg.2 a k (by show a < 232; omega) (by rw [hrt]; omega)
        rw [ea, h2, hrt]
        exact ⟨okP_C _ _ _, by omega⟩
      · cases e
  · cases e
  · split at e
    · rename_i v s0 hp2
      split at e
      · rename_i q hq
        cases hk : leZ q.1 q.2 && (leZ 0 q.1 && (Nat.blt v C.1.length && (List.range (q.2.toNat + 1)).all (fun (t : Nat) => Nat.blt t q.1.toNat || (leZ 0 (p.1 + s0 * (t : Int)) && leZ (p.1 + s0 * (t : Int)) 231)))) with
        | false => rw [hk] at e; cases e
        | true =>
          rw [hk] at e
          simp only [cond_true] at e
          simp only [Bool.and_eq_true] at hk
          obtain ⟨k1, k2, k3, k4⟩ := hk
          have k1 := leZ_iff.mp k1
          have k2 := leZ_iff.mp k2
          have k3 : v + 1 ≤ C.1.length := Nat.le_of_ble_eq_true k3
          split at e
          · rename_i w hw
            cases e
            have hv := hC.1 v q.1 q.2 hq
            obtain ⟨n, d1, d2⟩ := affR_ok hw (by omega) (σ v).toNat (by omega) (by omega)
            have hX : X = p.1 + s0 * (((σ v).toNat : Nat) : Int) := by
              rw [← hp.2]
              unfold ev
              rw [hp2]
              simp only [evR, evM]
              rw [show (((σ v).toNat : Nat) : Int) = σ v from by omega]
              simp
            have k5 := List.all_eq_true.mp k4 (σ v).toNat (List.mem_range.mpr (by omega))
            have k6 : (leZ 0 (p.1 + s0 * (((σ v).toNat : Nat) : Int)) && leZ (p.1 + s0 * (((σ v).toNat : Nat) : Int)) 231) = true := by
              rcases Bool.or_eq_true_iff.mp k5 with q5 | q5
              · have : (σ v).toNat + 1 ≤ q.1.toNat := Nat.le_of_ble_eq_true q5
                omega
              · exact q5
            have k6 := Bool.and_eq_true_iff.mp k6
            have k7 := leZ_iff.mp k6.1
            have k8 := leZ_iff.mp k6.2
            rw [← hX] at k7 k8
            have hrt := rfA_rtab (a := (p.1 + s0 * (((σ v).toNat : Nat) : Int)).toNat) (by rw [← hX]; omega) d1
            rw [← hX, Int.toNat_of_nonneg k7] at hrt
            have h2 := hg.2 X.toNat k (by show X.toNat < 232; omega) (by rw [Int.toNat_of_nonneg k7, hrt]; omega)
            rw [Int.toNat_of_nonneg k7] at h2
            rw [h2, hrt]
            refine ⟨?_, by omega⟩
            have kk := (okP_C σ (nV C) (w.1 - w.2 * q.1)).add ((okP_C σ (nV C) w.2).mul (okP_V (σ := σ) (n := nV C) (v := v) (by unfold nV; omega)))
            rw [d2, show w.1 + w.2 * ((((σ v).toNat : Nat) : Int) - ((q.1.toNat : Nat) : Int)) = w.1 - w.2 * q.1 + w.2 * σ v from by
              rw [show (((σ v).toNat : Nat) : Int) = σ v from by omega, show ((q.1.toNat : Nat) : Int) = q.1 from by omega, Int.mul_sub]; omega]
            exact kk
          · cases e
      · cases e
    · cases e
def oGetFT (P : RGt) (c k ty : Nat) (C : Cx) (pc : Nat) (ls : List AL) (st : List AV) (ov : OV) : Option (List AS) := match st with
  | .inr (.inr p) :: st => (match rowT C p c with
    | some q => bif Nat.blt k 256 then (match ty with
      | 0 => (match rdT P C ov q.1 k k (apC ((k : Nat) : Int)) with
        | some r => some [(r.1, pc + 3, ls, .inl r.2.1 :: st, r.2.2)]
        | none => none)
      | 1 => bif q.1.all (fun a => df1 C ov k k (apC ((k : Nat) : Int)) a) then (match refT C p k with
        | some r => some [(C, pc + 3, ls, .inr (.inr r) :: st, ov)]
        | none => none) else none
      | _ => (match rdT P C ov q.1 k k (apC ((k : Nat) : Int)) with
        | some r => bif geS r.1 r.2.1 0 then some [(r.1, pc + 3, ls, .inr (.inr r.2.1) :: st, r.2.2)] else none
        | none => none)) else none
    | none => none)
  | _ => none
theorem oGetFT_ok {m i c k ty w : Nat} (hP : tOK P I) (hf : fldT (mO m) i = some (c, k, w)) (hty : fty c k = ty) (hty2 : ty ≤ 2) (H : tHy I z Z σ C ls st ov l s h g) (e : oGetFT P c k ty C pc ls st ov = some L) : tGO I z Z (nV C) σ L (xiD z m (.getfield i) 3 pc l s h g) := by
  unfold oGetFT at e
  split at e
  · rename_i p st
    obtain ⟨A, s1, rfl, h1, h2⟩ := qSs_r H.2.1
    split at e
    · rename_i q hq
      obtain ⟨a0, b0, b1, b2, b3, b4⟩ := rowT_ok H.2.2.1 h1 H.2.2.2.2.2.1.1 hq
      cases hk : Nat.blt k 256 with
      | false => rw [hk] at e; cases e
      | true =>
        rw [hk] at e
        have hk2 : k + 1 ≤ 256 := Nat.le_of_ble_eq_true hk
        simp only [cond_true] at e
        have hx : rdk h A k = true → xiD z m (.getfield i) 3 pc l (.inr (.inr A) :: s1) h g = getF (mO m) i pc l (.inr (.inr A) :: s1) h g := by
          intro hr
          unfold xiD
          simp only [hf, hr, cond_true]
          rfl
        split at e
        · split at e
          · rename_i r hr
            cases e
            obtain ⟨σ', a1, a2, a3, a4, a5⟩ := rdT_ok hP H.2.2 b0 b2 (Nat.le_refl k) (Nat.le_refl k) (by omega) (ev_C σ _) hr
            rw [hx (by rw [b1]; exact a5)]
            refine tgo1 (σ' := σ') (c' := (pc + 3, l, .inl (h (a0 : Int) (k : Int)) :: s1, h, g)) ⟨rfl, H.1.up a2 a1, ⟨a4, h2.up a2 a1⟩, a3⟩ a1 a2 ?_
            unfold getF
            simp only
            rw [hf]
            simp only
            rw [if_pos b3, hty, if_pos rfl, b1]
            rfl
          · cases e
        · cases hd : q.1.all (fun a => df1 C ov k k (apC ((k : Nat) : Int)) a) with
          | false => rw [hd] at e; cases e
          | true =>
            rw [hd] at e
            simp only [cond_true] at e
            split at e
            · rename_i r hr
              cases e
              have hd2 := df1_ok H.2.2 b2 (Nat.le_refl k) (Nat.le_refl k) (by omega) (ev_C σ _) (List.all_eq_true.mp hd a0 b0)
              obtain ⟨d1, d2⟩ := refT_ok H.2.2.1 H.2.2.2.2.2.1 h1 hr
              rw [hx (by rw [b1]; exact hd2)]
              refine tgo1 (σ' := σ) (c' := (pc + 3, l, .inr (.inr (g.2 A k)) :: s1, h, g)) ⟨rfl, H.1, ⟨d1, h2⟩, H.2.2⟩ AG.rf (Nat.le_refl _) ?_
              unfold getF
              simp only
              rw [hf]
              simp only
              rw [if_pos b3, hty, if_neg (by decide), if_pos rfl, if_pos d2]
              rfl
            · cases e
        · rename_i n0 n1
          have hty3 : ty = 2 := by
            rcases Nat.lt_or_ge ty 2 with hlt | hge
            · rcases Nat.lt_or_ge ty 1 with h0 | h0
              · exact absurd (by omega) n0
              · exact absurd (by omega) n1
            · omega
          subst hty3
          split at e
          · rename_i r hr
            cases hn : geS r.1 r.2.1 0 with
            | false => rw [hn] at e; cases e
            | true =>
              rw [hn] at e
              cases e
              obtain ⟨σ', a1, a2, a3, a4, a5⟩ := rdT_ok hP H.2.2 b0 b2 (Nat.le_refl k) (Nat.le_refl k) (by omega) (ev_C σ _) hr
              have hn := geS_ok a3.1 hn
              rw [a4.2] at hn
              rw [hx (by rw [b1]; exact a5)]
              refine tgo1 (σ' := σ') (c' := (pc + 3, l, .inr (.inr (h (a0 : Int) (k : Int))) :: s1, h, g)) ⟨rfl, H.1.up a2 a1, ⟨a4, h2.up a2 a1⟩, a3⟩ a1 a2 ?_
              unfold getF
              simp only
              rw [hf]
              simp only
              rw [if_pos b3, hty, if_neg (by decide), if_neg (by decide), if_pos rfl, b1, if_pos hn]
              rfl
          · cases e
    · cases e
  · cases e
def oPutFT (P : RGt) (c k ty bl : Nat) (C : Cx) (pc : Nat) (ls : List AL) (st : List AV) (ov : OV) : Option (List AS) := match st with
  | .inl v :: .inr (.inr p) :: st => (match rowT C p c with
    | some q => bif Nat.blt k 256 && (Nat.beq ty 0 && (Nat.beq bl 0 || inS C v (some (0, 1)))) then (match wrT P C ov q.1 k k (apC ((k : Nat) : Int)) v with
      | some ov => some [(C, pc + 3, ls, st, ov)]
      | none => none) else none
    | none => none)
  | .inr (.inr v) :: .inr (.inr p) :: st => (match rowT C p c with
    | some q => bif Nat.blt k 256 && (Nat.beq ty 2 && geS C v 0) then (match wrT P C ov q.1 k k (apC ((k : Nat) : Int)) v with
      | some ov => some [(C, pc + 3, ls, st, ov)]
      | none => none) else none
    | _ => none)
  | _ => none
theorem oPutFT_ok {m i c k ty bl w : Nat} (hP : tOK P I) (hf : fldT (mO m) i = some (c, k, w)) (hty : fty c k = ty) (hbl : bl = 0 → ¬ parseFieldDescriptor ((vwCl.getD c (RX0, TX0, 0)).2.1 k).2.2.1 = some .boolean) (H : tHy I z Z σ C ls st ov l s h g) (e : oPutFT P c k ty bl C pc ls st ov = some L) :
    tGO I z Z (nV C) σ L (xiD z m (.putfield i) 3 pc l s h g) := by
  unfold oPutFT at e
  split at e
  · rename_i v p st
    obtain ⟨V, s0, rfl, h8, h9⟩ := qSs_i H.2.1
    obtain ⟨A, s1, rfl, h1, h2⟩ := qSs_r h9
    split at e
    · rename_i q hq
      obtain ⟨a0, b0, b1, b2, b3, b4⟩ := rowT_ok H.2.2.1 h1 H.2.2.2.2.2.1.1 hq
      cases hk : Nat.blt k 256 && (Nat.beq ty 0 && (Nat.beq bl 0 || inS C v (some (0, 1)))) with
      | false => rw [hk] at e; cases e
      | true =>
        rw [hk] at e
        simp only [cond_true] at e
        split at e
        · rename_i ov' hov
          cases e
          have hk := Bool.and_eq_true_iff.mp hk
          have k1 : k + 1 ≤ 256 := Nat.le_of_ble_eq_true hk.1
          have hk := Bool.and_eq_true_iff.mp hk.2
          have k2 := Nat.eq_of_beq_eq_true hk.1
          have k3 : V = 0 ∨ V = 1 ∨ ¬ parseFieldDescriptor ((vwCl.getD c (RX0, TX0, 0)).2.1 k).2.2.1 = some .boolean := by
            rcases Bool.or_eq_true_iff.mp hk.2 with q | q
            · exact Or.inr (Or.inr (hbl (Nat.eq_of_beq_eq_true q)))
            · have := inS_ok H.2.2.1 q (0, 1) rfl
              rw [h8.2] at this
              simp only at this
              omega
          have kk := wrT_ok hP (j := k) H.2.2 b0 b2 (Nat.le_refl k) (Nat.le_refl k) (by omega) (ev_C σ _) h8 hov
          refine tgo1 (σ' := σ) (c' := (pc + 3, l, s1, fl1 (u2 h (a0 : Int) (k : Int) V) (a0 : Int) (k : Int), g)) ⟨rfl, H.1, h2, kk⟩ AG.rf (Nat.le_refl _) ?_
          unfold xiD
          simp only [hf]
          rw [show Nat.beq (fty c k) 1 = false from by rw [hty, k2]; rfl]
          simp only [cond_false]
          show mapH (fun h => fl1 h A k) (putF (decide (mK m = 2)) (mO m) i pc l (.inl V :: .inr (.inr A) :: s1) h g) = _
          unfold putF
          rw [hf]
          simp only
          rw [if_pos ⟨b3, by rw [hty, k2], k3⟩, b1]
          rfl
        · cases e
    · cases e
  · rename_i v p st
    obtain ⟨V, s0, rfl, h8, h9⟩ := qSs_r H.2.1
    obtain ⟨A, s1, rfl, h1, h2⟩ := qSs_r h9
    split at e
    · rename_i q hq
      obtain ⟨a0, b0, b1, b2, b3, b4⟩ := rowT_ok H.2.2.1 h1 H.2.2.2.2.2.1.1 hq
      cases hk : Nat.blt k 256 && (Nat.beq ty 2 && geS C v 0) with
      | false => rw [hk] at e; cases e
      | true =>
        rw [hk] at e
        simp only [cond_true] at e
        split at e
        · rename_i ov' hov
          cases e
          have hk := Bool.and_eq_true_iff.mp hk
          have k1 : k + 1 ≤ 256 := Nat.le_of_ble_eq_true hk.1
          have hk := Bool.and_eq_true_iff.mp hk.2
          have k2 := Nat.eq_of_beq_eq_true hk.1
          have k3 := geS_ok H.2.2.1 hk.2
          rw [h8.2] at k3
          have kk := wrT_ok hP (j := k) H.2.2 b0 b2 (Nat.le_refl k) (Nat.le_refl k) (by omega) (ev_C σ _) h8 hov
          refine tgo1 (σ' := σ) (c' := (pc + 3, l, s1, fl1 (u2 h (a0 : Int) (k : Int) V) (a0 : Int) (k : Int), g)) ⟨rfl, H.1, h2, kk⟩ AG.rf (Nat.le_refl _) ?_
          unfold xiD
          simp only [hf]
          rw [show Nat.beq (fty c k) 1 = false from by rw [hty, k2]; rfl]
          simp only [cond_false]
          show mapH (fun h => fl1 h A k) (putF (decide (mK m = 2)) (mO m) i pc l (.inr (.inr V) :: .inr (.inr A) :: s1) h g) = _
          unfold putF
          rw [hf]
          simp only
          rw [if_pos ⟨b3, k3⟩, if_neg (by rw [hty, k2]; intro q; exact absurd q.1 (by decide)), if_pos (by rw [hty, k2]), b1]
          rfl
        · cases e
    · cases e
  · cases e
/-! arraycopy of ints -/
def oCopyT (P : RGt) (C : Cx) (pc : Nat) (ls : List AL) (st : List AV) (ov : OV) : Option (List AS) := match st with
  | .inl n :: .inl j :: .inr (.inr b) :: .inl i :: .inr (.inr a) :: st => (match rowT C a 10, rowT C b 10 with
    | some qa, some qb =>
      bif qa.1.all (fun x => Nat.blt x 213) && (Nat.ble 1 qa.2 && (Nat.ble 1 qb.2 && (Nat.ble qa.2 1000 && (Nat.ble qb.2 1000 && (Nat.ble (catsA st) 8 && (geS C n 0 && (geS C i 0 && (geS C j 0 && (leS C (apAdd i n) (qa.2 : Int) && (leS C (apAdd j n) (qb.2 : Int) && qa.1.all (fun x => qb.1.all (fun y => P.2 y 0 (qb.2 - 1) (P.1 x 0 (qa.2 - 1)))))))))))))) then
        some [(C, pc + 3, ls, st, ov.filter (fun e => Nat.ble 65536 e.1 || !memN qb.1 (e.1 / 256)))] else none
    | _, _ => none)
  | _ => none
theorem oCopyT_ok {m i' : Nat} (hP : tOK P I) (hb : bltT (mO m) i' = some 2) (hw : 3 ≤ mF m ∧ 100 ≤ mW m) (H : tHy I z Z σ C ls st ov l s h g) (e : oCopyT P C pc ls st ov = some L) : tGO I z Z (nV C) σ L (xiD z m (.invokestatic i') 3 pc l s h g) := by
  unfold oCopyT at e
  split at e
  · rename_i n j b i a st
    obtain ⟨N, s1, rfl, g1, g2⟩ := qSs_i H.2.1
    obtain ⟨J, s2, rfl, g3, g4⟩ := qSs_i g2
    obtain ⟨B, s3, rfl, g5, g6⟩ := qSs_r g4
    obtain ⟨X, s4, rfl, g7, g8⟩ := qSs_i g6
    obtain ⟨A, s5, rfl, g9, g10⟩ := qSs_r g8
    split at e
    · rename_i qa qb hqa hqb
      obtain ⟨a0, p0, p1, p2, p3, p4⟩ := rowT_ok H.2.2.1 g9 H.2.2.2.2.2.1.1 hqa
      obtain ⟨b0, r0, r1, r2, r3, r4⟩ := rowT_ok H.2.2.1 g5 H.2.2.2.2.2.1.1 hqb
      cases hk : qa.1.all (fun x => Nat.blt x 213) && (Nat.ble 1 qa.2 && (Nat.ble 1 qb.2 && (Nat.ble qa.2 1000 && (Nat.ble qb.2 1000 && (Nat.ble (catsA st) 8 && (geS C n 0 && (geS C i 0 && (geS C j 0 && (leS C (apAdd i n) (qa.2 : Int) && (leS C (apAdd j n) (qb.2 : Int) && qa.1.all (fun x => qb.1.all (fun y => P.2 y 0 (qb.2 - 1) (P.1 x 0 (qa.2 - 1)))))))))))))) with
      | false => rw [hk] at e; cases e
      | true =>
        rw [hk] at e
        cases e
        simp only [Bool.and_eq_true] at hk
        obtain ⟨k0, k1, k2, k3, k4, k5, k6, k7, k8, k9, k10, k11⟩ := hk
        have k0 : a0 + 1 ≤ 213 := Nat.le_of_ble_eq_true (List.all_eq_true.mp k0 a0 p0)
        have k1 := Nat.le_of_ble_eq_true k1
        have k2 := Nat.le_of_ble_eq_true k2
        have k3 := Nat.le_of_ble_eq_true k3
        have k4 := Nat.le_of_ble_eq_true k4
        have k5 := Nat.le_of_ble_eq_true k5
        rw [qSs_cats g10] at k5
        have k6 := geS_ok H.2.2.1 k6
        have k7 := geS_ok H.2.2.1 k7
        have k8 := geS_ok H.2.2.1 k8
        have k9 := leS_ok H.2.2.1 k9
        have k10 := leS_ok H.2.2.1 k10
        have k11 := List.all_eq_true.mp (List.all_eq_true.mp k11 a0 p0) b0 r0
        rw [g1.2] at k6
        rw [g7.2] at k7
        rw [g3.2] at k8
        rw [ev_add, g7.2, g1.2] at k9
        rw [ev_add, g3.2, g1.2] at k10
        have wn : w32 N = N := e_small (by omega) (by omega)
        have wi : w32 X = X := e_small (by omega) (by omega)
        have wj : w32 J = J := e_small (by omega) (by omega)
        obtain ⟨m1, m2, m3, m4, m5⟩ := H.2.2
        have hI := hP.2.2 h a0 b0 (qa.2 - 1) (qb.2 - 1) X J N m3 k11 p2 r2 k7 k8 (by omega) (by omega)
        have hO : tOv σ (nV C) (ov.filter (fun e => Nat.ble 65536 e.1 || !memN qb.1 (e.1 / 256))) (cpyH h (a0 : Int) X (b0 : Int) J N) := by
          intro w hw9
          obtain ⟨hw1, hw2⟩ := List.mem_filter.mp hw9
          have k := m5 w hw1
          have hfl : ∀ (c q : Int), 4096 ≤ c → cpyH h (a0 : Int) X (b0 : Int) J N c q = h c q := by
            intro c q hc
            unfold cpyH
            rw [if_neg (by omega)]
          unfold okN at k ⊢
          by_cases hc : w.1 < 65536
          · rw [if_pos hc] at k ⊢
            have hne : w.1 / 256 ≠ b0 := by
              intro q
              rcases Bool.or_eq_true_iff.mp hw2 with q2 | q2
              · have := Nat.le_of_ble_eq_true q2; omega
              · rw [q, memN_iff.mpr r0] at q2; cases q2
            have hv : cpyH h (a0 : Int) X (b0 : Int) J N ((w.1 / 256 : Nat) : Int) ((w.1 % 256 : Nat) : Int) = h ((w.1 / 256 : Nat) : Int) ((w.1 % 256 : Nat) : Int) := by
              unfold cpyH
              rw [if_neg (by omega)]
            rw [hv]
            refine ⟨k.1, ?_⟩
            have k2 := k.2
            unfold rdk at k2 ⊢
            rw [hfl _ _ (by omega)]
            exact k2
          · rw [if_neg hc] at k ⊢
            exact ⟨k.1, fun q q1 q2 => by rw [hfl _ _ (by omega)]; exact k.2 q q1 q2⟩
        refine tgo1 (σ' := σ) (c' := (pc + 3, l, s5, cpyH h (a0 : Int) X (b0 : Int) J N, g)) ⟨rfl, H.1, g10, m1, m2, hI, m4, hO⟩ AG.rf (Nat.le_refl _) ?_
        unfold xiD
        simp only [hb, decide_true, cond_true]
        rw [show decide (A < 213) = true from decide_eq_true (by omega)]
        simp only [cond_true]
        show (if bltT (mO m) i' = none then doCall [1] m (mO m) i' pc l _ h g else if bltT (mO m) i' = some 1 then none else doBlt m (mO m) i' pc l _ h g) = _
        rw [hb, if_neg (by intro q; cases q), if_neg (by intro q; cases q)]
        unfold doBlt
        rw [if_pos hw, hb]
        simp only
        rw [wn, wi, wj, p4, r4, if_pos ⟨p3, r3, by omega, by omega, by omega, by omega, by omega, k5⟩, p1, r1]
        rfl
    · cases e
  · cases e
def oGetS (o i : Nat) (C : Cx) (pc : Nat) (ls : List AL) (st : List AV) (ov : OV) : Option (List AS) :=
  bif Nat.beq o 1 && Nat.beq i 60 then some [(C, pc + 3, ls, .inr (.inr (apC 1000)) :: st, ov)] else bif Nat.beq o 6 && Nat.beq i 49 then some [(C, pc + 3, ls, .inr (.inr (apC 1001)) :: st, ov)] else none
theorem oGetS_ok {o i : Nat} (H : tHy I z Z σ C ls st ov l s h g) (e : oGetS o i C pc ls st ov = some L) : tGO I z Z (nV C) σ L (getS o i pc l s h g) := by
  unfold oGetS at e
  cases h1 : Nat.beq o 1 && Nat.beq i 60 with
  | true =>
    rw [h1] at e
    cases e
    have h1 := Bool.and_eq_true_iff.mp h1
    have q1 := Nat.eq_of_beq_eq_true h1.1
    have q2 := Nat.eq_of_beq_eq_true h1.2
    subst q1 q2
    exact tgo1 (σ' := σ) (c' := (pc + 3, l, .inr (.inr 1000) :: s, h, g)) ⟨rfl, H.1, ⟨okP_C _ _ _, H.2.1⟩, H.2.2⟩ AG.rf (Nat.le_refl _) rfl
  | false =>
    rw [h1] at e
    simp only [cond_false] at e
    cases h2 : Nat.beq o 6 && Nat.beq i 49 with
    | false => rw [h2] at e; cases e
    | true =>
      rw [h2] at e
      cases e
      have h2 := Bool.and_eq_true_iff.mp h2
      have q1 := Nat.eq_of_beq_eq_true h2.1
      have q2 := Nat.eq_of_beq_eq_true h2.2
      subst q1 q2
      exact tgo1 (σ' := σ) (c' := (pc + 3, l, .inr (.inr 1001) :: s, h, g)) ⟨rfl, H.1, ⟨okP_C _ _ _, H.2.1⟩, H.2.2⟩ AG.rf (Nat.le_refl _) rfl
theorem toMax_ok {m i : Nat} (hb : bltT (mO m) i = some 4) (hw : 3 ≤ mF m ∧ 100 ≤ mW m) (H : tHy I z Z σ C ls st ov l s h g) (e : oMax C pc ls st ov = some L) : tGO I z Z (nV C) σ L (doBlt m (mO m) i pc l s h g) := by
  unfold oMax at e
  split at e
  · rename_i y x st
    obtain ⟨Y, s1, rfl, h1, h2⟩ := qSs_i H.2.1
    obtain ⟨X, s2, rfl, h3, h4⟩ := qSs_i h2
    cases hk : Nat.ble (catsA st) 8 with
    | false => rw [hk] at e; cases e
    | true =>
      rw [hk] at e
      cases e
      have hk := Nat.le_of_ble_eq_true hk
      rw [qSs_cats h4] at hk
      obtain ⟨q, a1, a2, a3, a4⟩ := brC_ok H.2.2.1 .lt x y
      rw [h1.2, h3.2] at a4
      have k := H.ctx a2 a3
      have e9 : nV q.1 = nV C := a3
      refine ⟨_, List.mem_map.mpr ⟨q, a1, rfl⟩, σ, (pc + 3, l, .inl (if w32 X < w32 Y then Y else X) :: s2, h, g), AG.rf, Nat.le_of_eq a3.symm, ⟨rfl, k.1, ⟨?_, (show qSs σ (nV q.1) st s2 from by rw [e9]; exact h4)⟩, k.2.2⟩, ?_⟩
      · show okP σ (nV q.1) (bif q.2 then y else x) (if w32 X < w32 Y then Y else X)
        rw [a4, e9]
        unfold ccmp
        by_cases hc : w32 X < w32 Y
        · simp only [decide_eq_true hc, cond_true, if_pos hc]; exact h1
        · simp only [decide_eq_false hc, cond_false, if_neg hc]; exact h3
      · unfold doBlt
        rw [if_pos hw, hb]
        simp only
        rw [if_pos hk]
        rfl
  · cases e
end FLD
