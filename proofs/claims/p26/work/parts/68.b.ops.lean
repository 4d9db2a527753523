/-! ===== THE INSTRUCTIONS THAT TOUCH NO CELL, OVER FLAGGED STATES ===== -/
def tHy (I : PH → Prop) (z : Int → Int) (Z : Option ZT) (σ : Nat → Int) (C : Cx) (ls : List AL) (st : List AV) (ov : OV) (l : PL) (s : List PV) (h : PH) (g : PG) : Prop := qLs σ (nV C) ls l ∧ qSs σ (nV C) st s ∧ tH I z Z σ C ov h g
def tGO (I : PH → Prop) (z : Int → Int) (Z : Option ZT) (n : Nat) (σ : Nat → Int) (L : List AS) (r : Option SR) : Prop := ∃ B ∈ L, ∃ σ' c', AG n σ σ' ∧ n ≤ nV B.1 ∧ tA I z Z σ' B c' ∧ r = some (.inl c')
theorem tgo1 {I : PH → Prop} {z : Int → Int} {Z : Option ZT} {n : Nat} {σ σ' : Nat → Int} {B : AS} {c' : Cfg} {r : Option SR} (h1 : tA I z Z σ' B c') (h2 : AG n σ σ') (h3 : n ≤ nV B.1) (h4 : r = some (.inl c')) : tGO I z Z n σ [B] r := ⟨B, List.mem_cons_self, σ', c', h2, h3, h1, h4⟩
theorem tHy.ctx {I : PH → Prop} {z : Int → Int} {Z : Option ZT} {σ : Nat → Int} {C C' : Cx} {ls : List AL} {st : List AV} {ov : OV} {l : PL} {s : List PV} {h : PH} {g : PG} (H : tHy I z Z σ C ls st ov l s h g) (hs : satC σ C') (hn : C'.1.length = C.1.length) : tHy I z Z σ C' ls st ov l s h g := by
  have e : nV C' = nV C := hn
  refine ⟨?_, ?_, H.2.2.ctx hs hn⟩
  · rw [e]; exact H.1
  · rw [e]; exact H.2.1
theorem tHy.ext {I : PH → Prop} {z : Int → Int} {Z : Option ZT} {σ σ' : Nat → Int} {C C' : Cx} {ls : List AL} {st : List AV} {ov : OV} {l : PL} {s : List PV} {h : PH} {g : PG} (H : tHy I z Z σ C ls st ov l s h g) (hs : satC σ' C') (hn : nV C ≤ nV C') (ha : AG (nV C) σ σ') : tHy I z Z σ' C' ls st ov l s h g :=
  ⟨H.1.up hn ha, H.2.1.up hn ha, H.2.2.ext hs hn ha⟩
section OPS
variable {I : PH → Prop} {z : Int → Int} {Z : Option ZT} {σ : Nat → Int} {C : Cx} {pc : Nat} {ls : List AL} {st : List AV} {ov : OV} {l : PL} {s : List PV} {h : PH} {g : PG} {L : List AS}
theorem toPush_ok {len : Nat} {a : AV} {v : PV} (H : tHy I z Z σ C ls st ov l s h g) (hv : qV σ (nV C) a v) (e : oPush len a C pc ls st ov = some L) : tGO I z Z (nV C) σ L (nx (pc + len) l (v :: s) h g) := by
  cases e
  exact tgo1 (σ' := σ) (c' := (pc + len, l, v :: s, h, g)) ⟨rfl, H.1, ⟨hv, H.2.1⟩, H.2.2⟩ AG.rf (Nat.le_refl _) rfl
theorem toLd_ok {i len k : Nat} (H : tHy I z Z σ C ls st ov l s h g) (e : oLd i len k C pc ls st ov = some L) : tGO I z Z (nV C) σ L (ldv i len pc k l s h g) := by
  unfold oLd at e
  split at e
  · rename_i a ha
    cases hk : Nat.beq (kindA a) k with
    | false => rw [hk] at e; cases e
    | true =>
      rw [hk] at e
      cases e
      have hk := Nat.eq_of_beq_eq_true hk
      obtain ⟨v, hv, hq⟩ := aGet_ok H.1 ha
      subst hk
      refine tgo1 (σ' := σ) (c' := (pc + len, l, v :: s, h, g)) ⟨rfl, H.1, ⟨hq, H.2.1⟩, H.2.2⟩ AG.rf (Nat.le_refl _) ?_
      unfold ldv
      rw [hv]
      match a, v, hq with
      | .inl _, .inl _, _ => rfl
      | .inr (.inl _), .inr (.inl _), _ => rfl
      | .inr (.inr _), .inr (.inr _), _ => rfl
      | .inl _, .inr _, hq => exact hq.elim
      | .inr (.inl _), .inl _, hq => exact hq.elim
      | .inr (.inl _), .inr (.inr _), hq => exact hq.elim
      | .inr (.inr _), .inl _, hq => exact hq.elim
      | .inr (.inr _), .inr (.inl _), hq => exact hq.elim
  · cases e
theorem toS1_ok {i len : Nat} {a : AV} {v : PV} (H : tHy I z Z σ C ls st ov l s h g) (hv : qV σ (nV C) a v) (e : oS1 i len a C pc ls st ov = some L) : tGO I z Z (nV C) σ L (st1 i len pc v l s h g) := by
  unfold oS1 at e
  cases hk : Nat.blt i ls.length && lfA ls i with
  | false => rw [hk] at e; cases e
  | true =>
    rw [hk] at e
    cases e
    have hk := Bool.and_eq_true_iff.mp hk
    have h1 : i + 1 ≤ ls.length := Nat.le_of_ble_eq_true hk.1
    have h2 := lfA_ok H.1 hk.2
    have h3 := qLs_len H.1
    refine tgo1 (σ' := σ) (c' := (pc + len, l.set i (some v), s, h, g)) ⟨rfl, qLs_set (a := .inr a) (o := some v) ⟨v, rfl, hv⟩ i H.1, H.2.1, H.2.2⟩ AG.rf (Nat.le_refl _) ?_
    unfold st1
    rw [if_pos ⟨by omega, h2⟩]
    rfl
theorem toS2_ok {i len : Nat} {a : AV} {v : PV} (H : tHy I z Z σ C ls st ov l s h g) (hv : qV σ (nV C) a v) (e : oS2 i len a C pc ls st ov = some L) : tGO I z Z (nV C) σ L (st2 i len pc v l s h g) := by
  unfold oS2 at e
  cases hk : Nat.blt (i + 1) ls.length && lfA ls i with
  | false => rw [hk] at e; cases e
  | true =>
    rw [hk] at e
    cases e
    have hk := Bool.and_eq_true_iff.mp hk
    have h1 : i + 1 + 1 ≤ ls.length := Nat.le_of_ble_eq_true hk.1
    have h2 := lfA_ok H.1 hk.2
    have h3 := qLs_len H.1
    refine tgo1 (σ' := σ) (c' := (pc + len, (l.set i (some v)).set (i + 1) none, s, h, g)) ⟨rfl, qLs_set (a := .inl true) (fun _ v hv => by cases hv) (i + 1) (qLs_set (a := .inr a) (o := some v) ⟨v, rfl, hv⟩ i H.1), H.2.1, H.2.2⟩ AG.rf (Nat.le_refl _) ?_
    unfold st2
    rw [if_pos ⟨by omega, h2⟩]
    rfl
theorem toSt_ok {i len k : Nat} (H : tHy I z Z σ C ls st ov l s h g) (e : oSt i len k C pc ls st ov = some L) : tGO I z Z (nV C) σ L (stv i len pc k l s h g) := by
  unfold oSt at e
  split at e
  · rename_i p st
    obtain ⟨x, s', rfl, h1, h2⟩ := qSs_i H.2.1
    cases hk : Nat.beq k 0 with
    | false => rw [hk] at e; cases e
    | true =>
      rw [hk] at e
      have hk := Nat.eq_of_beq_eq_true hk
      subst hk
      exact toS1_ok (a := .inl p) (v := .inl x) ⟨H.1, h2, H.2.2⟩ h1 e
  · rename_i p st
    obtain ⟨x, s', rfl, h1, h2⟩ := qSs_l H.2.1
    cases hk : Nat.beq k 1 with
    | false => rw [hk] at e; cases e
    | true =>
      rw [hk] at e
      have hk := Nat.eq_of_beq_eq_true hk
      subst hk
      exact toS2_ok (a := .inr (.inl p)) (v := .inr (.inl x)) ⟨H.1, h2, H.2.2⟩ h1 e
  · rename_i p st
    obtain ⟨x, s', rfl, h1, h2⟩ := qSs_r H.2.1
    cases hk : Nat.beq k 2 with
    | false => rw [hk] at e; cases e
    | true =>
      rw [hk] at e
      have hk := Nat.eq_of_beq_eq_true hk
      subst hk
      exact toS1_ok (a := .inr (.inr p)) (v := .inr (.inr x)) ⟨H.1, h2, H.2.2⟩ h1 e
  · cases e
theorem toInc_ok {i : Nat} {c : Int} (H : tHy I z Z σ C ls st ov l s h g) (e : oInc i c C pc ls st ov = some L) : tGO I z Z (nV C) σ L (iinc i c pc l s h g) := by
  unfold oInc at e
  split at e
  · rename_i p hp
    obtain ⟨v, hv, hq⟩ := aGet_ok H.1 hp
    match v, hq with
    | .inl x, hq =>
      unfold iinc
      rw [hv]
      exact toS1_ok (a := .inl (apAdd p (apC c))) (v := .inl (x + c)) H (okP.add hq (okP_C σ _ c)) e
    | .inr _, hq => exact hq.elim
  · cases e
theorem toBI_ok {F : F2} {f : Int → Int → Int} {D : Int → Prop} (hF : fOK F f D) (H : tHy I z Z σ C ls st ov l s h g) (e : oBI F C pc ls st ov = some L) :
    ∃ y x s', s = .inl y :: .inl x :: s' ∧ D y ∧ tGO I z Z (nV C) σ L (nx (pc + 1) l (.inl (f x y) :: s') h g) := by
  unfold oBI at e
  split at e
  · rename_i y x st
    obtain ⟨Y, s1, rfl, h1, h2⟩ := qSs_i H.2.1
    obtain ⟨X, s2, rfl, h3, h4⟩ := qSs_i h2
    split at e
    · rename_i r hr
      cases e
      obtain ⟨hD, σ', a1, a2, a3, a4⟩ := hF σ C x y X Y r H.2.2.1 h3 h1 hr
      refine ⟨Y, X, s2, rfl, hD, tgo1 (σ' := σ') (c' := (pc + 1, l, .inl (f X Y) :: s2, h, g)) ⟨rfl, H.1.up a2 a1, ⟨a4, h4.up a2 a1⟩, H.2.2.ext a3 a2 a1⟩ a1 a2 rfl⟩
    · cases e
  · cases e
theorem toBL_ok {F : F2} {f : Int → Int → Int} {D : Int → Prop} (hF : fOK F f D) (H : tHy I z Z σ C ls st ov l s h g) (e : oBL F C pc ls st ov = some L) :
    ∃ y x s', s = .inr (.inl y) :: .inr (.inl x) :: s' ∧ D y ∧ tGO I z Z (nV C) σ L (nx (pc + 1) l (.inr (.inl (f x y)) :: s') h g) := by
  unfold oBL at e
  split at e
  · rename_i y x st
    obtain ⟨Y, s1, rfl, h1, h2⟩ := qSs_l H.2.1
    obtain ⟨X, s2, rfl, h3, h4⟩ := qSs_l h2
    split at e
    · rename_i r hr
      cases e
      obtain ⟨hD, σ', a1, a2, a3, a4⟩ := hF σ C x y X Y r H.2.2.1 h3 h1 hr
      refine ⟨Y, X, s2, rfl, hD, tgo1 (σ' := σ') (c' := (pc + 1, l, .inr (.inl (f X Y)) :: s2, h, g)) ⟨rfl, H.1.up a2 a1, ⟨a4, h4.up a2 a1⟩, H.2.2.ext a3 a2 a1⟩ a1 a2 rfl⟩
    · cases e
  · cases e
theorem tbI_ok {F : F2} {f : Int → Int → Int} (hF : fOK F f (fun _ => True)) (H : tHy I z Z σ C ls st ov l s h g) (e : oBI F C pc ls st ov = some L) : tGO I z Z (nV C) σ L (bI f pc l s h g) := by
  obtain ⟨y, x, s', rfl, -, k⟩ := toBI_ok hF H e
  exact k
theorem tbL_ok {F : F2} {f : Int → Int → Int} (hF : fOK F f (fun _ => True)) (H : tHy I z Z σ C ls st ov l s h g) (e : oBL F C pc ls st ov = some L) : tGO I z Z (nV C) σ L (bL f pc l s h g) := by
  obtain ⟨y, x, s', rfl, -, k⟩ := toBL_ok hF H e
  exact k
theorem tqI_ok {F : F2} {f : Int → Int → Int} (hF : fOK F f (fun y => w32 y ≠ 0)) (H : tHy I z Z σ C ls st ov l s h g) (e : oBI F C pc ls st ov = some L) : tGO I z Z (nV C) σ L (qI f pc l s h g) := by
  obtain ⟨y, x, s', rfl, hD, k⟩ := toBI_ok hF H e
  unfold qI
  simp only
  rw [if_neg hD]
  exact k
theorem tqL_ok {F : F2} {f : Int → Int → Int} (hF : fOK F f (fun y => w64 y ≠ 0)) (H : tHy I z Z σ C ls st ov l s h g) (e : oBL F C pc ls st ov = some L) : tGO I z Z (nV C) σ L (qL f pc l s h g) := by
  obtain ⟨y, x, s', rfl, hD, k⟩ := toBL_ok hF H e
  unfold qL
  simp only
  rw [if_neg hD]
  exact k
theorem tuI_ok {F : F2} {f : Int → Int} (hF : fOK F (fun x _ => f x) (fun _ => True)) (H : tHy I z Z σ C ls st ov l s h g) (e : oUI F C pc ls st ov = some L) : tGO I z Z (nV C) σ L (uI f pc l s h g) := by
  unfold oUI at e
  split at e
  · rename_i x st
    obtain ⟨X, s1, rfl, h1, h2⟩ := qSs_i H.2.1
    split at e
    · rename_i r hr
      cases e
      obtain ⟨-, σ', a1, a2, a3, a4⟩ := hF σ C x x X X r H.2.2.1 h1 h1 hr
      exact tgo1 (σ' := σ') (c' := (pc + 1, l, .inl (f X) :: s1, h, g)) ⟨rfl, H.1.up a2 a1, ⟨a4, h2.up a2 a1⟩, H.2.2.ext a3 a2 a1⟩ a1 a2 rfl
    · cases e
  · cases e
end OPS

section OPS2
variable {I : PH → Prop} {z : Int → Int} {Z : Option ZT} {σ : Nat → Int} {C : Cx} {pc : Nat} {ls : List AL} {st : List AV} {ov : OV} {l : PL} {s : List PV} {h : PH} {g : PG} {L : List AS}
theorem toGoto_ok {off : Int} (H : tHy I z Z σ C ls st ov l s h g) (e : oGoto off C pc ls st ov = some L) : tGO I z Z (nV C) σ L (jmp pc off l s h g) := by
  unfold oGoto at e
  split at e
  · rename_i t ht
    cases e
    obtain ⟨h1, h2⟩ := aJ_ok ht
    refine tgo1 (σ' := σ) (c' := (t, l, s, h, g)) ⟨rfl, H.1, H.2.1, H.2.2⟩ AG.rf (Nat.le_refl _) ?_
    unfold jmp
    rw [if_pos h1, h2]
    rfl
  · cases e
theorem toBrs_ok {t f : Nat} {K : List (Cx × Bool)} {b : Bool} (H : tHy I z Z σ C ls st ov l s h g) (hK : ∃ q ∈ K, satC σ q.1 ∧ q.1.1.length = C.1.length ∧ q.2 = b) : tGO I z Z (nV C) σ (oBrs t f K ls st ov) (if b = true then nx t l s h g else nx f l s h g) := by
  obtain ⟨q, h1, h2, h3, h4⟩ := hK
  have k := H.ctx h2 h3
  refine ⟨_, List.mem_map.mpr ⟨q, h1, rfl⟩, σ, (bif b then t else f, l, s, h, g), AG.rf, Nat.le_of_eq h3.symm, ⟨by rw [h4], k.1, k.2.1, k.2.2⟩, ?_⟩
  cases b <;> rfl
theorem toIf_ok {c : ClassFile.Cond} {off : Int} (H : tHy I z Z σ C ls st ov l s h g) (e : oIf c off C pc ls st ov = some L) : ∃ x s', s = .inl x :: s' ∧ tGO I z Z (nV C) σ L (jc c x 0 pc off l s' h g) := by
  unfold oIf at e
  split at e
  · rename_i x st
    obtain ⟨X, s1, rfl, h1, h2⟩ := qSs_i H.2.1
    split at e
    · rename_i t ht
      cases e
      obtain ⟨h3, h4⟩ := aJ_ok ht
      refine ⟨X, s1, rfl, ?_⟩
      unfold jc
      rw [if_pos h3, h4]
      have k := brC_ok H.2.2.1 c x (apC 0)
      rw [h1.2, ev_C] at k
      exact toBrs_ok ⟨H.1, h2, H.2.2⟩ k
    · cases e
  · cases e
theorem toIfi_ok {c : ClassFile.Cond} {off : Int} (H : tHy I z Z σ C ls st ov l s h g) (e : oIfi c off C pc ls st ov = some L) : ∃ x y s', s = .inl y :: .inl x :: s' ∧ tGO I z Z (nV C) σ L (jc c x y pc off l s' h g) := by
  unfold oIfi at e
  split at e
  · rename_i y x st
    obtain ⟨Y, s1, rfl, h1, h2⟩ := qSs_i H.2.1
    obtain ⟨X, s2, rfl, h5, h6⟩ := qSs_i h2
    split at e
    · rename_i t ht
      cases e
      obtain ⟨h3, h4⟩ := aJ_ok ht
      refine ⟨X, Y, s2, rfl, ?_⟩
      unfold jc
      rw [if_pos h3, h4]
      have k := brC_ok H.2.2.1 c x y
      rw [h1.2, h5.2] at k
      exact toBrs_ok ⟨H.1, h6, H.2.2⟩ k
    · cases e
  · cases e
theorem toTsw_ok {d lo hi : Int} {os : Array Int} (H : tHy I z Z σ C ls st ov l s h g) (e : oTsw d lo hi os C pc ls st ov = some L) : tGO I z Z (nV C) σ L (tsw d lo hi os pc l s h g) := by
  unfold oTsw at e
  split at e
  · rename_i x st
    obtain ⟨X, s1, rfl, h1, h2⟩ := qSs_i H.2.1
    split at e
    · rename_i x' hx
      have e1 := nrm_ok H.2.2.1 hx
      rw [h1.2] at e1
      cases hk : nnZ ((pc : Int) + d) && (os.toList.all (fun o => nnZ ((pc : Int) + o)) && eqZ (hi - lo + 1) (os.toList.length : Int)) with
      | false => rw [hk] at e; cases e
      | true =>
        rw [hk] at e
        cases e
        simp only [Bool.and_eq_true] at hk
        obtain ⟨k1, k2, k3⟩ := hk
        have k1 := nnZ_iff.mp k1
        have k3 := eqZ_iff.mp k3
        obtain ⟨q, a1, a2, a3, a4⟩ := tswL_ok H.2.2.1 (x := x') k3
        have k := H.ctx a2 a3
        rw [← e1] at a4
        refine ⟨_, List.mem_map.mpr ⟨q, a1, rfl⟩, σ, (tswT pc d os q.2, l, s1, h, g), AG.rf, Nat.le_of_eq a3.symm, ⟨rfl, k.1, (show qSs σ (nV q.1) st s1 from by have e9 : nV q.1 = nV C := a3; rw [e9]; exact h2), k.2.2⟩, ?_⟩
        unfold tsw
        simp only
        by_cases hd : w32 X < lo ∨ hi < w32 X
        · rw [if_pos hd] at a4
          rw [if_pos hd, a4]
          unfold jmp
          rw [if_pos k1]
          rfl
        · rw [if_neg hd] at a4
          have hl : (w32 X - lo).toNat < os.toList.length := by omega
          have hg : os[(w32 X - lo).toNat]? = some (os.toList.getD (w32 X - lo).toNat 0) := by
            rw [← Array.getElem?_toList, List.getElem?_eq_getElem hl, List.getD_eq_getElem?_getD, List.getElem?_eq_getElem hl]
            rfl
          have hm : 0 ≤ (pc : Int) + os.toList.getD (w32 X - lo).toNat 0 := by
            have := List.all_eq_true.mp k2 (os.toList.getD (w32 X - lo).toNat 0) (by
              rw [List.getD_eq_getElem?_getD, List.getElem?_eq_getElem hl]
              exact List.getElem_mem hl)
            exact nnZ_iff.mp this
          rw [if_neg hd, hg, a4]
          simp only
          unfold jmp
          rw [if_pos hm]
          rfl
    · cases e
  · cases e
theorem toLsw_ok {d : Int} {ps : Array (Int × Int)} (H : tHy I z Z σ C ls st ov l s h g) (e : oLsw d ps C pc ls st ov = some L) : tGO I z Z (nV C) σ L (lsw d ps pc l s h g) := by
  unfold oLsw at e
  split at e
  · rename_i x st
    obtain ⟨X, s1, rfl, h1, h2⟩ := qSs_i H.2.1
    split at e
    · rename_i x' hx
      have e1 := nrm_ok H.2.2.1 hx
      rw [h1.2] at e1
      cases hk : (ps.toList.zip (ps.toList.drop 1)).all (fun q => decide (q.1.1 < q.2.1)) && (nnZ ((pc : Int) + d) && ps.toList.all (fun o => nnZ ((pc : Int) + o.2))) with
      | false => rw [hk] at e; cases e
      | true =>
        rw [hk] at e
        cases e
        have hk := Bool.and_eq_true_iff.mp hk
        have k1 := hk.1
        have hk2 := Bool.and_eq_true_iff.mp hk.2
        have k2 := nnZ_iff.mp hk2.1
        have k3 := List.all_eq_true.mp hk2.2
        obtain ⟨q, a1, a2, a3, a4⟩ := lswL_ok (x := x') (d := d) (ps := ps.toList) H.2.2.1
        have k := H.ctx a2 a3
        rw [← e1] at a4
        refine ⟨_, List.mem_map.mpr ⟨q, a1, rfl⟩, σ, (tgtOf pc q.2, l, s1, h, g), AG.rf, Nat.le_of_eq a3.symm, ⟨rfl, k.1, (show qSs σ (nV q.1) st s1 from by have e9 : nV q.1 = nV C := a3; rw [e9]; exact h2), k.2.2⟩, ?_⟩
        unfold lsw
        simp only
        rw [if_pos k1]
        unfold jmp
        rw [if_pos (off_in k2 (fun q hq => nnZ_iff.mp (k3 q hq))), a4]
        rfl
    · cases e
  · cases e
theorem toLcmp_ok (H : tHy I z Z σ C ls st ov l s h g) (e : oLcmp C pc ls st ov = some L) : tGO I z Z (nV C) σ L (lcmpI pc l s h g) := by
  unfold oLcmp at e
  split at e
  · rename_i y x st
    obtain ⟨Y, s1, rfl, h1, h2⟩ := qSs_l H.2.1
    obtain ⟨X, s2, rfl, h3, h4⟩ := qSs_l h2
    cases e
    obtain ⟨q, a1, a2, a3, a4⟩ := brL_ok H.2.2.1 x y
    rw [h1.2, h3.2] at a4
    have k := H.ctx a2 a3
    have e9 : nV q.1 = nV C := a3
    exact ⟨_, List.mem_map.mpr ⟨q, a1, rfl⟩, σ, (pc + 1, l, .inl (cmpL X Y) :: s2, h, g), AG.rf, Nat.le_of_eq a3.symm, ⟨rfl, k.1, ⟨by rw [← a4]; exact okP_C _ _ _, by rw [e9]; exact h4⟩, k.2.2⟩, rfl⟩
  · cases e
theorem toI2l_ok (H : tHy I z Z σ C ls st ov l s h g) (e : oI2l C pc ls st ov = some L) : tGO I z Z (nV C) σ L (i2lI pc l s h g) := by
  unfold oI2l at e
  split at e
  · rename_i x st
    obtain ⟨X, s1, rfl, h1, h2⟩ := qSs_i H.2.1
    split at e
    · rename_i x' hx
      cases e
      have e1 := nrm_ok H.2.2.1 hx
      rw [h1.2] at e1
      exact tgo1 (σ' := σ) (c' := (pc + 1, l, .inr (.inl (w32 X)) :: s1, h, g)) ⟨rfl, H.1, ⟨⟨nrm_lt hx h1.1, e1.symm⟩, h2⟩, H.2.2⟩ AG.rf (Nat.le_refl _) rfl
    · cases e
      obtain ⟨a1, a2, a3, a4⟩ := fresh_ok H.2.2.1 (q := rng32) (x := w32 X) (r32 _)
      exact tgo1 (c' := (pc + 1, l, .inr (.inl (w32 X)) :: s1, h, g)) ⟨rfl, H.1.up a2 a1, ⟨a4, h2.up a2 a1⟩, H.2.2.ext a3 a2 a1⟩ a1 a2 rfl
  · cases e
theorem toL2i_ok (H : tHy I z Z σ C ls st ov l s h g) (e : oL2i C pc ls st ov = some L) : tGO I z Z (nV C) σ L (l2iI pc l s h g) := by
  unfold oL2i at e
  split at e
  · rename_i x st
    obtain ⟨X, s1, rfl, h1, h2⟩ := qSs_l H.2.1
    cases e
    exact tgo1 (σ' := σ) (c' := (pc + 1, l, .inl X :: s1, h, g)) ⟨rfl, H.1, ⟨h1, h2⟩, H.2.2⟩ AG.rf (Nat.le_refl _) rfl
  · cases e
theorem toLneg_ok (H : tHy I z Z σ C ls st ov l s h g) (e : oLneg C pc ls st ov = some L) : tGO I z Z (nV C) σ L (negL pc l s h g) := by
  unfold oLneg at e
  split at e
  · rename_i x st
    obtain ⟨X, s1, rfl, h1, h2⟩ := qSs_l H.2.1
    cases e
    exact tgo1 (σ' := σ) (c' := (pc + 1, l, .inr (.inl (-X)) :: s1, h, g)) ⟨rfl, H.1, ⟨h1.neg, h2⟩, H.2.2⟩ AG.rf (Nat.le_refl _) rfl
  · cases e
theorem toDup_ok (H : tHy I z Z σ C ls st ov l s h g) (e : oDup C pc ls st ov = some L) : tGO I z Z (nV C) σ L (dup1 pc l s h g) := by
  unfold oDup at e
  split at e
  · rename_i a st
    obtain ⟨v, s1, rfl, h1, h2⟩ := qSs_c H.2.1
    cases hk : Nat.beq (catA a) 1 with
    | false => rw [hk] at e; cases e
    | true =>
      rw [hk] at e
      cases e
      have hk := Nat.eq_of_beq_eq_true hk
      rw [qV_cat h1] at hk
      refine tgo1 (σ' := σ) (c' := (pc + 1, l, v :: v :: s1, h, g)) ⟨rfl, H.1, ⟨h1, h1, h2⟩, H.2.2⟩ AG.rf (Nat.le_refl _) ?_
      unfold dup1
      simp only
      rw [if_pos hk]
      rfl
  · cases e
theorem toDup2_ok (H : tHy I z Z σ C ls st ov l s h g) (e : oDup2 C pc ls st ov = some L) : tGO I z Z (nV C) σ L (dup2 pc l s h g) := by
  unfold oDup2 at e
  split at e
  · rename_i a b st
    obtain ⟨v, s1, rfl, h1, h2⟩ := qSs_c H.2.1
    obtain ⟨w, s2, rfl, h3, h4⟩ := qSs_c h2
    cases hk : Nat.beq (catA a) 1 && Nat.beq (catA b) 1 with
    | false => rw [hk] at e; cases e
    | true =>
      rw [hk] at e
      cases e
      have hk := Bool.and_eq_true_iff.mp hk
      have k1 := Nat.eq_of_beq_eq_true hk.1
      have k2 := Nat.eq_of_beq_eq_true hk.2
      rw [qV_cat h1] at k1
      rw [qV_cat h3] at k2
      refine tgo1 (σ' := σ) (c' := (pc + 1, l, v :: w :: v :: w :: s2, h, g)) ⟨rfl, H.1, ⟨h1, h3, h1, h3, h4⟩, H.2.2⟩ AG.rf (Nat.le_refl _) ?_
      unfold dup2
      simp only
      rw [if_pos ⟨k1, k2⟩]
      rfl
  · cases e
theorem toDupx_ok (H : tHy I z Z σ C ls st ov l s h g) (e : oDupx C pc ls st ov = some L) : tGO I z Z (nV C) σ L (dupx pc l s h g) := by
  unfold oDupx at e
  split at e
  · rename_i a b st
    obtain ⟨v, s1, rfl, h1, h2⟩ := qSs_c H.2.1
    obtain ⟨w, s2, rfl, h3, h4⟩ := qSs_c h2
    cases hk : Nat.beq (catA a) 1 && Nat.beq (catA b) 1 with
    | false => rw [hk] at e; cases e
    | true =>
      rw [hk] at e
      cases e
      have hk := Bool.and_eq_true_iff.mp hk
      have k1 := Nat.eq_of_beq_eq_true hk.1
      have k2 := Nat.eq_of_beq_eq_true hk.2
      rw [qV_cat h1] at k1
      rw [qV_cat h3] at k2
      refine tgo1 (σ' := σ) (c' := (pc + 1, l, v :: w :: v :: s2, h, g)) ⟨rfl, H.1, ⟨h1, h3, h1, h4⟩, H.2.2⟩ AG.rf (Nat.le_refl _) ?_
      unfold dupx
      simp only
      rw [if_pos ⟨k1, k2⟩]
      rfl
  · cases e
end OPS2

section PUSH
variable {I : PH → Prop} {z : Int → Int} {Z : Option ZT} {σ : Nat → Int} {C : Cx} {pc : Nat} {ls : List AL} {st : List AV} {ov : OV} {l : PL} {s : List PV} {h : PH} {g : PG} {L : List AS}
theorem toPushI_ok {len : Nat} {x : Int} (H : tHy I z Z σ C ls st ov l s h g) (e : oPush len (.inl (apC x)) C pc ls st ov = some L) : tGO I z Z (nV C) σ L (nx (pc + len) l (.inl x :: s) h g) := toPush_ok (a := .inl (apC x)) (v := .inl x) H (okP_C _ _ _) e
theorem toPushL_ok {len : Nat} {x : Int} (H : tHy I z Z σ C ls st ov l s h g) (e : oPush len (.inr (.inl (apC x))) C pc ls st ov = some L) : tGO I z Z (nV C) σ L (nx (pc + len) l (.inr (.inl x) :: s) h g) := toPush_ok (a := .inr (.inl (apC x))) (v := .inr (.inl x)) H (okP_C _ _ _) e
end PUSH
