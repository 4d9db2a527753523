/-! ===== DIVISION OVER FLAGGED STATES ===== -/
theorem divL_pos {X k : Int} (h0 : 0 ≤ X) (h1 : X ≤ 9223372036854775807) (k1 : 1 ≤ k) (k2 : k ≤ 9223372036854775807) : remL X k = X % k := by
  have eX : (Int64.ofInt X).toInt = X := w64_small (by omega) (by omega)
  have ek : (Int64.ofInt k).toInt = k := w64_small (by omega) (by omega)
  have hq0 : 0 ≤ X / k := Int.ediv_nonneg h0 (by omega)
  have hq1 : X / k ≤ X := Int.ediv_le_self k h0
  have hd : (Int64.ofInt X / Int64.ofInt k).toInt = X / k := by
    rw [Int64.toInt_div_of_ne_right _ _ (by intro q; rw [q] at ek; have : (-1 : Int64).toInt = -1 := rfl; omega), eX, ek, Int.tdiv_eq_ediv_of_nonneg h0]
  have hd2 : Int64.ofInt X / Int64.ofInt k = Int64.ofInt (X / k) := by
    refine Int64.toInt_inj.mp ?_
    have : (Int64.ofInt (X / k)).toInt = X / k := w64_small (by omega) (by omega)
    rw [this]
    exact hd
  have hm : Int64.ofInt X - Int64.ofInt X / Int64.ofInt k * Int64.ofInt k = Int64.ofInt (X - X / k * k) := by
    rw [hd2, Int64.ofInt_sub, Int64.ofInt_mul]
  unfold remL
  rw [hm]
  have hmod := Int.mul_ediv_add_emod X k
  have hmc : X / k * k = k * (X / k) := Int.mul_comm _ _
  have hr0 := Int.emod_nonneg X (show k ≠ 0 by omega)
  have hr1 := Int.emod_lt_of_pos X (show 0 < k by omega)
  have e3 : X - X / k * k = X % k := by omega
  rw [e3]
  exact w64_small (by omega) (by omega)
theorem rmV_ok {σ : Nat → Int} {C : Cx} (hC : satC σ C) {x y : AP} {X Y R : Int} {p q : IV} {u : Option IV} (hx : okP σ (nV C) x X) (hy : okP σ (nV C) y Y) (hp : ivP C x = some p) (hq : ivP C y = some q) (hu : ∀ i, u = some i → i.1 ≤ R ∧ R ≤ i.2)
    (hR : 0 ≤ X → 1 ≤ Y → R = X % Y) (hY : Y ≤ 1099511627776) {r : Cx × AP} (e : rmV C x y p q u = some r) : ∃ σ', AG (nV C) σ σ' ∧ nV C ≤ nV r.1 ∧ satC σ' r.1 ∧ okP σ' (nV r.1) r.2 R := by
  have hfr : ∃ σ', AG (nV C) σ σ' ∧ nV C ≤ nV (fresh C u).1 ∧ satC σ' (fresh C u).1 ∧ okP σ' (nV (fresh C u).1) (fresh C u).2 R := by
    obtain ⟨a1, a2, a3, a4⟩ := fresh_ok hC (q := u) (x := R) hu
    exact ⟨_, a1, a2, a3, a4⟩
  have kp := ivP_ok hC hp
  have kq := ivP_ok hC hq
  rw [hx.2] at kp
  rw [hy.2] at kq
  unfold rmV at e
  cases hk : leZ 1 q.1 with
  | false => rw [hk] at e; cases e; exact hfr
  | true =>
    rw [hk] at e
    have hk := leZ_iff.mp hk
    cases hk2 : leZ 0 p.1 with
    | false => rw [hk2] at e; cases e; exact hfr
    | true =>
      rw [hk2] at e
      have hk2 := leZ_iff.mp hk2
      simp only [cond_true] at e
      have hR := hR (by omega) (by omega)
      have hr0 := Int.emod_nonneg X (show Y ≠ 0 by omega)
      have hr1 := Int.emod_lt_of_pos X (show 0 < Y by omega)
      have hr2 : X % Y ≤ X := by
        have q1 := Int.mul_ediv_add_emod X Y
        have q2 : 0 ≤ X / Y := Int.ediv_nonneg (by omega) (by omega)
        have q3 : 0 ≤ Y * (X / Y) := Int.mul_nonneg (by omega) q2
        omega
      have m := mn_ok p.2 (q.2 - 1)
      obtain ⟨a1, a2, a3, a4⟩ := fresh_ok hC (q := some (0, mn p.2 (q.2 - 1))) (x := R) (fun w hw => by cases hw; simp only; omega)
      have hp2 := (hy.up a2 a1).sub a4
      obtain ⟨C', c1, c2, c3⟩ := addF_ok a3 (p := apSub y (fresh C (some (0, mn p.2 (q.2 - 1)))).2) (l := 1) (u := 1099511627776) (by rw [hp2.2]; omega) (by rw [hp2.2]; omega)
      rw [c1] at e
      cases e
      have e9 : nV C' = nV (fresh C (some (0, mn p.2 (q.2 - 1)))).1 := c3
      exact ⟨_, a1, by rw [e9]; exact a2, c2, by rw [e9]; exact a4⟩
def dvG (f : Bool) (C : Cx) (x : AP) (b : Int) (pc : Nat) (ls : List AL) (st : List AV) (ov : OV) : Option (List AS) := match ivP C x with
  | some q => bif i32 q then (bif leZ 0 q.1 then dv2 f pc ls st ov x b (C, false) else bif leZ q.2 0 then dv2 f pc ls st ov x b (C, true) else bindL (dv2 f pc ls st ov x b) (brLt C x)) else some [((fresh C rng32).1, pc + 1, ls, .inl (fresh C rng32).2 :: st, ov)]
  | none => some [((fresh C rng32).1, pc + 1, ls, .inl (fresh C rng32).2 :: st, ov)]
def dvY (f : Bool) (C : Cx) (x y : AP) : Option (Cx × AP) := match ivP C x, ivP C y with
  | some p, some q => bif f || !(i32 p && i32 q) then some (fresh C rng32) else rmV C x y p q rng32
  | _, _ => some (fresh C rng32)
def oDivT (f : Bool) (C : Cx) (pc : Nat) (ls : List AL) (st : List AV) (ov : OV) : Option (List AS) := match st with
  | .inl y :: .inl x :: st => (match cst C y with
    | some b => (match cst C x with
      | some a => bif isZ (w32 b) then none else some [(C, pc + 1, ls, .inl (apC (bif f then divI a b else remI a b)) :: st, ov)]
      | none => bif leZ 1 b && leZ b 2147483647 then dvG f C x b pc ls st ov else none)
    | none => bif nzP C y then (match dvY f C x y with
      | some r => some [(r.1, pc + 1, ls, .inl r.2 :: st, ov)]
      | none => none) else none)
  | _ => none
def dvYL (f : Bool) (C : Cx) (x y : AP) : Option (Cx × AP) := match ivP C x, ivP C y with
  | some p, some q => bif f || !(i64 p && (i64 q && leZ q.2 1099511627776)) then some (fresh C rng64) else rmV C x y p q rng64
  | _, _ => some (fresh C rng64)
def oDivLT (f : Bool) (C : Cx) (pc : Nat) (ls : List AL) (st : List AV) (ov : OV) : Option (List AS) := match st with
  | .inr (.inl y) :: .inr (.inl x) :: st => bif nz64 C y then (match cst C x, cst C y with
      | some a, some b => some [(C, pc + 1, ls, .inr (.inl (apC (bif f then divL a b else remL a b))) :: st, ov)]
      | _, _ => (match dvYL f C x y with
        | some r => some [(r.1, pc + 1, ls, .inr (.inl r.2) :: st, ov)]
        | none => none)) else none
  | _ => none
section DIVT
variable {I : PH → Prop} {z : Int → Int} {Z : Option ZT} {σ : Nat → Int} {C : Cx} {pc : Nat} {ls : List AL} {st : List AV} {ov : OV} {l : PL} {s : List PV} {h : PH} {g : PG} {L : List AS}
theorem dv2_ok {f : Bool} {x : AP} {X b : Int} {q : Cx × Bool} {s1 : List PV} (H : tHy I z Z σ C ls st ov l s1 h g) (hx : okP σ (nV C) x X) (hq : satC σ q.1) (hn : q.1.1.length = C.1.length) (hb : q.2 = false → 0 ≤ X) (h1 : X ≤ 2147483647) (b1 : 1 ≤ b) (b2 : b ≤ 2147483647)
    (e : dv2 f pc ls st ov x b q = some L) : tGO I z Z (nV C) σ L (nx (pc + 1) l (.inl (bif f then divI X b else remI X b) :: s1) h g) := by
  have K := H.ctx hq hn
  have e9 : nV q.1 = nV C := hn
  have hx2 : okP σ (nV q.1) x X := by rw [e9]; exact hx
  unfold dv2 at e
  cases hc : q.2 with
  | true =>
    rw [hc] at e
    cases e
    obtain ⟨σ', a1, a2, a3, a4⟩ := dvW_ok hq (k := b) hx2 f
    exact tgo1 (σ' := σ') (c' := (pc + 1, l, .inl (bif f then divI X b else remI X b) :: s1, h, g)) ⟨rfl, K.1.up a2 a1, ⟨a4, K.2.1.up a2 a1⟩, K.2.2.ext a3 a2 a1⟩ (by rw [← e9]; exact a1) (by rw [← e9]; exact a2) rfl
  | false =>
    rw [hc] at e
    simp only [cond_false] at e
    split at e
    · rename_i r hr
      cases e
      obtain ⟨σ', a1, a2, a3, a4⟩ := dqT_ok hq hx2 (hb hc) h1 b1 b2 f hr
      exact tgo1 (σ' := σ') (c' := (pc + 1, l, .inl (bif f then divI X b else remI X b) :: s1, h, g)) ⟨rfl, K.1.up a2 a1, ⟨a4, K.2.1.up a2 a1⟩, K.2.2.ext a3 a2 a1⟩ (by rw [← e9]; exact a1) (by rw [← e9]; exact a2) rfl
    · cases e
theorem frI_ok {X : Int} {s1 : List PV} (H : tHy I z Z σ C ls st ov l s1 h g) (hX : ∀ i, rng32 = some i → i.1 ≤ X ∧ X ≤ i.2) : tGO I z Z (nV C) σ [((fresh C rng32).1, pc + 1, ls, .inl (fresh C rng32).2 :: st, ov)] (nx (pc + 1) l (.inl X :: s1) h g) := by
  obtain ⟨a1, a2, a3, a4⟩ := fresh_ok H.2.2.1 (q := rng32) (x := X) hX
  exact tgo1 (σ' := extS σ (nV C) X) (c' := (pc + 1, l, .inl X :: s1, h, g)) ⟨rfl, H.1.up a2 a1, ⟨a4, H.2.1.up a2 a1⟩, H.2.2.ext a3 a2 a1⟩ a1 a2 rfl
theorem dvb32 (f : Bool) (X b : Int) : ∀ i, rng32 = some i → i.1 ≤ (bif f then divI X b else remI X b) ∧ (bif f then divI X b else remI X b) ≤ i.2 := by
  cases f <;> exact r32 _
theorem dvG_ok {f : Bool} {x : AP} {X b : Int} {s1 : List PV} (H : tHy I z Z σ C ls st ov l s1 h g) (hx : okP σ (nV C) x X) (b1 : 1 ≤ b) (b2 : b ≤ 2147483647) (e : dvG f C x b pc ls st ov = some L) :
    tGO I z Z (nV C) σ L (nx (pc + 1) l (.inl (bif f then divI X b else remI X b) :: s1) h g) := by
  unfold dvG at e
  split at e
  · rename_i q hq
    have kq := ivP_ok H.2.2.1 hq
    rw [hx.2] at kq
    cases hi : i32 q with
    | false => rw [hi] at e; cases e; exact frI_ok H (dvb32 f X b)
    | true =>
      rw [hi] at e
      simp only [cond_true] at e
      have hi := Bool.and_eq_true_iff.mp (show (leZ (-2147483648) q.1 && leZ q.2 2147483647) = true from hi)
      have i1 := leZ_iff.mp hi.1
      have i2 := leZ_iff.mp hi.2
      cases h0 : leZ 0 q.1 with
      | true =>
        rw [h0] at e
        have h0 := leZ_iff.mp h0
        simp only [cond_true] at e
        exact dv2_ok (q := (C, false)) H hx H.2.2.1 rfl (fun _ => by omega) (by omega) b1 b2 e
      | false =>
        rw [h0] at e
        simp only [cond_false] at e
        cases h2 : leZ q.2 0 with
        | true =>
          rw [h2] at e
          simp only [cond_true] at e
          exact dv2_ok (q := (C, true)) H hx H.2.2.1 rfl (fun q => by cases q) (by omega) b1 b2 e
        | false =>
          rw [h2] at e
          simp only [cond_false] at e
          obtain ⟨w, c1, c2, c3, c4⟩ := brLt_ok H.2.2.1 x
          obtain ⟨L1, d1, d2⟩ := bindL_in e w c1
          obtain ⟨B, k1, k2⟩ := dv2_ok H hx c2 c3 (fun hf => by rw [c4, hx.2] at hf; have := of_decide_eq_false hf; omega) (by omega) b1 b2 d1
          exact ⟨B, d2 B k1, k2⟩
  · cases e
    exact frI_ok H (dvb32 f X b)
theorem dvY_ok {f : Bool} {x y : AP} {X Y : Int} (hC : satC σ C) (hx : okP σ (nV C) x X) (hy : okP σ (nV C) y Y) {r : Cx × AP} (e : dvY f C x y = some r) : ∃ σ', AG (nV C) σ σ' ∧ nV C ≤ nV r.1 ∧ satC σ' r.1 ∧ okP σ' (nV r.1) r.2 (bif f then divI X Y else remI X Y) := by
  have hfr : ∃ σ', AG (nV C) σ σ' ∧ nV C ≤ nV (fresh C rng32).1 ∧ satC σ' (fresh C rng32).1 ∧ okP σ' (nV (fresh C rng32).1) (fresh C rng32).2 (bif f then divI X Y else remI X Y) := by
    obtain ⟨a1, a2, a3, a4⟩ := fresh_ok hC (q := rng32) (x := bif f then divI X Y else remI X Y) (dvb32 f X Y)
    exact ⟨_, a1, a2, a3, a4⟩
  unfold dvY at e
  split at e
  · rename_i p q hp hq
    cases hk : f || !(i32 p && i32 q) with
    | true => rw [hk] at e; cases e; exact hfr
    | false =>
      rw [hk] at e
      simp only [cond_false] at e
      have hk := Bool.or_eq_false_iff.mp hk
      have hf := hk.1
      have hi : (i32 p && i32 q) = true := by simpa using hk.2
      have hi := Bool.and_eq_true_iff.mp hi
      have hi1 := Bool.and_eq_true_iff.mp (show (leZ (-2147483648) p.1 && leZ p.2 2147483647) = true from hi.1)
      have hi2 := Bool.and_eq_true_iff.mp (show (leZ (-2147483648) q.1 && leZ q.2 2147483647) = true from hi.2)
      have j1 := leZ_iff.mp hi1.2
      have j2 := leZ_iff.mp hi2.2
      have kp := ivP_ok hC hp
      have kq := ivP_ok hC hq
      rw [hx.2] at kp
      rw [hy.2] at kq
      subst hf
      simp only [cond_false] at hfr ⊢
      exact rmV_ok hC hx hy hp hq (R := remI X Y) (u := rng32) (r32 _) (fun a b => (divI_pos a (by omega) b (by omega)).2) (by omega) e
  · cases e
    exact hfr
theorem toDivT_ok {f : Bool} (H : tHy I z Z σ C ls st ov l s h g) (e : oDivT f C pc ls st ov = some L) : tGO I z Z (nV C) σ L (qI (fun x y => bif f then divI x y else remI x y) pc l s h g) := by
  unfold oDivT at e
  split at e
  · rename_i y x st
    obtain ⟨Y, s1, rfl, h1, h2⟩ := qSs_i H.2.1
    obtain ⟨X, s2, rfl, h3, h4⟩ := qSs_i h2
    have H2 : tHy I z Z σ C ls st ov l s2 h g := ⟨H.1, h4, H.2.2⟩
    unfold qI
    simp only
    split at e
    · rename_i b hb
      have eb := h1.2.symm.trans (cst_ok H.2.2.1 hb)
      subst eb
      split at e
      · rename_i a ha
        have ea := h3.2.symm.trans (cst_ok H.2.2.1 ha)
        subst ea
        cases hz : isZ (w32 Y) with
        | true => rw [hz] at e; cases e
        | false =>
          rw [hz] at e
          cases e
          rw [if_neg (isZ_f.mp hz)]
          exact tgo1 (σ' := σ) (c' := (pc + 1, l, .inl (bif f then divI X Y else remI X Y) :: s2, h, g)) ⟨rfl, H.1, ⟨okP_C _ _ _, h4⟩, H.2.2⟩ AG.rf (Nat.le_refl _) rfl
      · cases hk : leZ 1 Y && leZ Y 2147483647 with
        | false => rw [hk] at e; cases e
        | true =>
          rw [hk] at e
          have hk := Bool.and_eq_true_iff.mp hk
          have k1 := leZ_iff.mp hk.1
          have k2 := leZ_iff.mp hk.2
          have hw : w32 Y = Y := e_small (by omega) (by omega)
          rw [if_neg (by rw [hw]; omega)]
          exact dvG_ok H2 h3 k1 k2 e
    · cases hk : nzP C y with
      | false => rw [hk] at e; cases e
      | true =>
        rw [hk] at e
        simp only [cond_true] at e
        have k := nzP_ok H.2.2.1 hk
        rw [h1.2] at k
        rw [if_neg k]
        split at e
        · rename_i r hr
          cases e
          obtain ⟨σ', a1, a2, a3, a4⟩ := dvY_ok H.2.2.1 h3 h1 hr
          exact tgo1 (σ' := σ') (c' := (pc + 1, l, .inl (bif f then divI X Y else remI X Y) :: s2, h, g)) ⟨rfl, H.1.up a2 a1, ⟨a4, h4.up a2 a1⟩, H.2.2.ext a3 a2 a1⟩ a1 a2 rfl
        · cases e
  · cases e
theorem dvb64 (f : Bool) (X b : Int) : ∀ i, rng64 = some i → i.1 ≤ (bif f then divL X b else remL X b) ∧ (bif f then divL X b else remL X b) ≤ i.2 := by
  cases f <;> exact r64 _
theorem dvYL_ok {f : Bool} {x y : AP} {X Y : Int} (hC : satC σ C) (hx : okP σ (nV C) x X) (hy : okP σ (nV C) y Y) {r : Cx × AP} (e : dvYL f C x y = some r) : ∃ σ', AG (nV C) σ σ' ∧ nV C ≤ nV r.1 ∧ satC σ' r.1 ∧ okP σ' (nV r.1) r.2 (bif f then divL X Y else remL X Y) := by
  have hfr : ∃ σ', AG (nV C) σ σ' ∧ nV C ≤ nV (fresh C rng64).1 ∧ satC σ' (fresh C rng64).1 ∧ okP σ' (nV (fresh C rng64).1) (fresh C rng64).2 (bif f then divL X Y else remL X Y) := by
    obtain ⟨a1, a2, a3, a4⟩ := fresh_ok hC (q := rng64) (x := bif f then divL X Y else remL X Y) (dvb64 f X Y)
    exact ⟨_, a1, a2, a3, a4⟩
  unfold dvYL at e
  split at e
  · rename_i p q hp hq
    cases hk : f || !(i64 p && (i64 q && leZ q.2 1099511627776)) with
    | true => rw [hk] at e; cases e; exact hfr
    | false =>
      rw [hk] at e
      simp only [cond_false] at e
      have hk := Bool.or_eq_false_iff.mp hk
      have hf := hk.1
      have hi : (i64 p && (i64 q && leZ q.2 1099511627776)) = true := by simpa using hk.2
      simp only [Bool.and_eq_true] at hi
      have hi1 := Bool.and_eq_true_iff.mp (show (leZ (-9223372036854775808) p.1 && leZ p.2 9223372036854775807) = true from hi.1)
      have j1 := leZ_iff.mp hi1.2
      have j2 := leZ_iff.mp hi.2.2
      have kp := ivP_ok hC hp
      have kq := ivP_ok hC hq
      rw [hx.2] at kp
      rw [hy.2] at kq
      subst hf
      simp only [cond_false] at hfr ⊢
      exact rmV_ok hC hx hy hp hq (R := remL X Y) (u := rng64) (r64 _) (fun a b => divL_pos a (by omega) b (by omega)) (by omega) e
  · cases e
    exact hfr
theorem toDivLT_ok {f : Bool} (H : tHy I z Z σ C ls st ov l s h g) (e : oDivLT f C pc ls st ov = some L) : tGO I z Z (nV C) σ L (qL (fun x y => bif f then divL x y else remL x y) pc l s h g) := by
  unfold oDivLT at e
  split at e
  · rename_i y x st
    obtain ⟨Y, s1, rfl, h1, h2⟩ := qSs_l H.2.1
    obtain ⟨X, s2, rfl, h3, h4⟩ := qSs_l h2
    unfold qL
    simp only
    cases hk : nz64 C y with
    | false => rw [hk] at e; cases e
    | true =>
      rw [hk] at e
      simp only [cond_true] at e
      have k := nz64_ok H.2.2.1 hk
      rw [h1.2] at k
      rw [if_neg k]
      split at e
      · rename_i a b ha hb
        cases e
        have ea := h3.2.symm.trans (cst_ok H.2.2.1 ha)
        have eb := h1.2.symm.trans (cst_ok H.2.2.1 hb)
        subst ea eb
        exact tgo1 (σ' := σ) (c' := (pc + 1, l, .inr (.inl (bif f then divL X Y else remL X Y)) :: s2, h, g)) ⟨rfl, H.1, ⟨okP_C _ _ _, h4⟩, H.2.2⟩ AG.rf (Nat.le_refl _) rfl
      · split at e
        · rename_i r hr
          cases e
          obtain ⟨σ', a1, a2, a3, a4⟩ := dvYL_ok H.2.2.1 h3 h1 hr
          exact tgo1 (σ' := σ') (c' := (pc + 1, l, .inr (.inl (bif f then divL X Y else remL X Y)) :: s2, h, g)) ⟨rfl, H.1.up a2 a1, ⟨a4, h4.up a2 a1⟩, H.2.2.ext a3 a2 a1⟩ a1 a2 rfl
        · cases e
  · cases e
end DIVT
