/-! ===== FACTS, BOUNDS BY FACTS, AND SHARPER ARITHMETIC ===== -/
/-- l ≤ p ≤ u is told -/
def addF (C : Cx) (p : AP) (l u : Int) : Option Cx := match ivP C p with
  | some q => refn C p (mx l q.1) (mn u q.2)
  | none => refn C p l u
theorem addF_ok {σ : Nat → Int} {C : Cx} (hC : satC σ C) {p : AP} {l u : Int} (h1 : l ≤ ev σ p) (h2 : ev σ p ≤ u) : ∃ C', addF C p l u = some C' ∧ satC σ C' ∧ C'.1.length = C.1.length := by
  unfold addF
  split
  · rename_i q hq
    have k := ivP_ok hC hq
    have k1 := mx_ok l q.1
    have k2 := mn_ok u q.2
    exact refn_ok hC (by omega) (by omega)
  · exact refn_ok hC h1 h2
def shr2 (o x : Option IV) (l u : Int) : Option IV := match x with
  | none => o
  | some q => (match o with
    | none => some (q.1 + l, q.2 + u)
    | some w => some (mx w.1 (q.1 + l), mn w.2 (q.2 + u)))
def canP (r f : Rs) : Bool := r.any (fun q => f.any (fun e => moEq q.1 e.1 && isZ (q.2 + e.2)))
def canM (r f : Rs) : Bool := r.any (fun q => f.any (fun e => moEq q.1 e.1 && isZ (q.2 - e.2)))
/-- bounds, by up to d facts beside, such as cancel a term -/
def ivS : Nat → Cx → AP → Option IV
  | 0, C, p => ivP C p
  | d + 1, C, p => C.2.foldl (fun o f => bif canP p.2 f.1 then shr2 o (ivS d C (apAdd p (0, f.1))) (-f.2.2) (-f.2.1) else bif canM p.2 f.1 then shr2 o (ivS d C (apSub p (0, f.1))) f.2.1 f.2.2 else o) (ivP C p)
theorem shr2_ok {o x : Option IV} {l u P X F : Int} (ho : ∀ q, o = some q → q.1 ≤ P ∧ P ≤ q.2) (hx : ∀ q, x = some q → q.1 ≤ X ∧ X ≤ q.2) (hp : P = X + F) (h1 : l ≤ F) (h2 : F ≤ u) : ∀ q, shr2 o x l u = some q → q.1 ≤ P ∧ P ≤ q.2 := by
  intro q hq
  unfold shr2 at hq
  split at hq
  · exact ho q hq
  · rename_i w
    have k := hx w rfl
    split at hq
    · cases hq
      simp only
      omega
    · rename_i v
      have k2 := ho v rfl
      cases hq
      have m1 := mx_ok v.1 (w.1 + l)
      have m2 := mn_ok v.2 (w.2 + u)
      simp only
      omega
theorem ev_0 (σ : Nat → Int) (r : Rs) : ev σ (0, r) = evR σ r := by unfold ev; simp
theorem ivS_ok {σ : Nat → Int} {C : Cx} (hC : satC σ C) : ∀ (d : Nat) (p : AP) (q : IV), ivS d C p = some q → q.1 ≤ ev σ p ∧ ev σ p ≤ q.2
  | 0, p, q, h => ivP_ok hC h
  | d + 1, p, q, h => by
    have key : ∀ (F : Fc) (o : Option IV), (∀ f ∈ F, f ∈ C.2) → (∀ q, o = some q → q.1 ≤ ev σ p ∧ ev σ p ≤ q.2) →
        ∀ q, F.foldl (fun o f => bif canP p.2 f.1 then shr2 o (ivS d C (apAdd p (0, f.1))) (-f.2.2) (-f.2.1) else bif canM p.2 f.1 then shr2 o (ivS d C (apSub p (0, f.1))) f.2.1 f.2.2 else o) o = some q → q.1 ≤ ev σ p ∧ ev σ p ≤ q.2 := by
      intro F
      induction F with
      | nil => intro o _ ho q hq; exact ho q hq
      | cons f F ih =>
        intro o hF ho q hq
        have hf := (hC.2 f (hF f List.mem_cons_self)).2
        refine ih _ (fun g hg => hF g (List.mem_cons_of_mem _ hg)) ?_ q hq
        cases hc : canP p.2 f.1 with
        | true =>
          simp only [hc, cond_true]
          refine shr2_ok (o := o) (x := ivS d C (apAdd p (0, f.1))) (l := -f.2.2) (u := -f.2.1) (X := ev σ (apAdd p (0, f.1))) (F := -evR σ f.1) ho (fun q hq => ivS_ok hC d _ q hq) ?_ (by omega) (by omega)
          rw [ev_add, ev_0]; omega
        | false =>
          cases hd : canM p.2 f.1 with
          | true =>
            simp only [hc, hd, cond_true, cond_false]
            refine shr2_ok (o := o) (x := ivS d C (apSub p (0, f.1))) (l := f.2.1) (u := f.2.2) (X := ev σ (apSub p (0, f.1))) (F := evR σ f.1) ho (fun q hq => ivS_ok hC d _ q hq) ?_ hf.1 hf.2
            rw [ev_sub, ev_0]; omega
          | false =>
            simp only [hc, hd, cond_false]
            exact ho
    exact key C.2 _ (fun f hf => hf) (fun q hq => ivP_ok hC hq) q h
def lbS (d : Nat) (C : Cx) (p : AP) (c : Int) : Bool := match ivS d C p with
  | some q => leZ c q.1
  | none => false
def geS (C : Cx) (p : AP) (c : Int) : Bool := lbS 0 C p c || (lbS 1 C p c || lbS 2 C p c)
def leS (C : Cx) (p : AP) (c : Int) : Bool := geS C (apNeg p) (-c)
def inS (C : Cx) (p : AP) (q : Option IV) : Bool := match q with
  | none => true
  | some q => geS C p q.1 && leS C p q.2
theorem lbS_ok {σ : Nat → Int} {C : Cx} (hC : satC σ C) {d : Nat} {p : AP} {c : Int} (h : lbS d C p c = true) : c ≤ ev σ p := by
  unfold lbS at h
  split at h
  · rename_i q hq
    have k := ivS_ok hC d p q hq
    have := leZ_iff.mp h
    omega
  · cases h
theorem geS_ok {σ : Nat → Int} {C : Cx} (hC : satC σ C) {p : AP} {c : Int} (h : geS C p c = true) : c ≤ ev σ p := by
  rcases Bool.or_eq_true_iff.mp h with h | h
  · exact lbS_ok hC h
  · rcases Bool.or_eq_true_iff.mp h with h | h
    · exact lbS_ok hC h
    · exact lbS_ok hC h
theorem leS_ok {σ : Nat → Int} {C : Cx} (hC : satC σ C) {p : AP} {c : Int} (h : leS C p c = true) : ev σ p ≤ c := by
  have k := geS_ok hC (show geS C (apNeg p) (-c) = true from h)
  rw [ev_neg] at k
  omega
theorem inS_ok {σ : Nat → Int} {C : Cx} (hC : satC σ C) {p : AP} {q : Option IV} (h : inS C p q = true) : ∀ y, q = some y → y.1 ≤ ev σ p ∧ ev σ p ≤ y.2 := by
  intro y hy
  subst hy
  have h := Bool.and_eq_true_iff.mp (show (geS C p y.1 && leS C p y.2) = true from h)
  exact ⟨geS_ok hC h.1, leS_ok hC h.2⟩
/-! products -/
def aMulT : F2 := fun C x y => match cst C x, cst C y with
  | none, none => bif Nat.blt 1 x.2.length || Nat.blt 1 y.2.length then (match ivP C x, ivP C y with
    | some p, some q => some (fresh C (some (ivMul p q)))
    | _, _ => some (C, apMul x y)) else some (C, apMul x y)
  | _, _ => some (C, apMul x y)
theorem aMulT_ok : fOK aMulT (· * ·) (fun _ => True) := by
  intro σ C x y X Y r hC hx hy e
  refine ⟨trivial, ?_⟩
  have h0 : ∃ σ', AG (nV C) σ σ' ∧ nV C ≤ nV (C, apMul x y).1 ∧ satC σ' (C, apMul x y).1 ∧ okP σ' (nV (C, apMul x y).1) (C, apMul x y).2 (X * Y) := ⟨σ, AG.rf, Nat.le_refl _, hC, hx.mul hy⟩
  unfold aMulT at e
  split at e
  · cases hk : Nat.blt 1 x.2.length || Nat.blt 1 y.2.length with
    | false => rw [hk] at e; cases e; exact h0
    | true =>
      rw [hk] at e
      simp only [cond_true] at e
      split at e
      · rename_i p q hp hq
        cases e
        have k1 := ivP_ok hC hp
        have k2 := ivP_ok hC hq
        rw [hx.2] at k1
        rw [hy.2] at k2
        obtain ⟨a1, a2, a3, a4⟩ := fresh_ok hC (q := some (ivMul p q)) (x := X * Y) (fun w hw => by cases hw; exact ivMul_ok k1.1 k1.2 k2.1 k2.2)
        exact ⟨_, a1, a2, a3, a4⟩
      · cases e; exact h0
  · cases e; exact h0
/-! and, or, left shift -/
def nn31 (p : Option IV) : Option Int := match p with
  | some q => bif leZ 0 q.1 && leZ q.2 2147483647 then some q.2 else none
  | none => none
theorem nn31_ok {σ : Nat → Int} {C : Cx} (hC : satC σ C) {p : AP} {u : Int} (h : nn31 (ivP C p) = some u) : 0 ≤ ev σ p ∧ ev σ p ≤ u ∧ u ≤ 2147483647 := by
  unfold nn31 at h
  split at h
  · rename_i q hq
    have k := ivP_ok hC hq
    cases hk : leZ 0 q.1 && leZ q.2 2147483647 with
    | false => rw [hk] at h; cases h
    | true =>
      rw [hk] at h
      cases h
      have hk := Bool.and_eq_true_iff.mp hk
      have := leZ_iff.mp hk.1
      have := leZ_iff.mp hk.2
      omega
  · cases h
def andB (p q : Option Int) : Option IV := match p, q with
  | some u, some v => some (0, mn u v)
  | some u, none => some (0, u)
  | none, some v => some (0, v)
  | none, none => rng32
def aAndT : F2 := fun C x y => match cst C x, cst C y with
  | some a, some b => some (C, apC (andI a b))
  | _, _ => some (fresh C (andB (nn31 (ivP C x)) (nn31 (ivP C y))))
theorem andI_comm (x y : Int) : andI x y = andI y x := by
  unfold andI
  rw [Int32.and_comm]
theorem aAndT_ok : fOK aAndT andI (fun _ => True) := by
  intro σ C x y X Y r hC hx hy e
  refine ⟨trivial, ?_⟩
  unfold aAndT at e
  split at e
  · rename_i a b ha hb
    cases e
    have e1 := hx.2.symm.trans (cst_ok hC ha)
    have e2 := hy.2.symm.trans (cst_ok hC hb)
    rw [e1, e2]
    exact ⟨σ, AG.rf, Nat.le_refl _, hC, okP_C _ _ _⟩
  · cases e
    obtain ⟨a1, a2, a3, a4⟩ := fresh_ok hC (q := andB (nn31 (ivP C x)) (nn31 (ivP C y))) (x := andI X Y) (fun w hw => by
      have hX : ∀ u, nn31 (ivP C x) = some u → 0 ≤ andI X Y ∧ andI X Y ≤ u := fun u hu => by
        have k := nn31_ok hC hu
        rw [hx.2] at k
        rw [andI_comm]
        have := andI_rng Y X k.1 (by omega)
        omega
      have hY : ∀ u, nn31 (ivP C y) = some u → 0 ≤ andI X Y ∧ andI X Y ≤ u := fun u hu => by
        have k := nn31_ok hC hu
        rw [hy.2] at k
        have := andI_rng X Y k.1 (by omega)
        omega
      unfold andB at hw
      split at hw
      · rename_i u v hu hv
        cases hw
        have k1 := hX u hu
        have k2 := hY v hv
        have k3 := mn_ok u v
        simp only
        omega
      · rename_i u hu _
        cases hw
        exact hX u hu
      · rename_i v _ hv
        cases hw
        exact hY v hv
      · exact r32 _ w hw)
    exact ⟨_, a1, a2, a3, a4⟩
set_option maxRecDepth 100000 in
theorem or127 : (List.range 128).all (fun x => (List.range 128).all (fun y => leZ 0 (orI x y) && leZ (orI x y) 127)) = true := by decide +kernel
theorem or1 : (List.range 2).all (fun x => (List.range 2).all (fun y => leZ 0 (orI x y) && leZ (orI x y) 1)) = true := by decide +kernel
def aOrT : F2 := fun C x y => match cst C x, cst C y with
  | some a, some b => some (C, apC (orI a b))
  | _, _ => some (fresh C (match nn31 (ivP C x), nn31 (ivP C y) with
    | some u, some v => bif leZ u 1 && leZ v 1 then some (0, 1) else bif leZ u 127 && leZ v 127 then some (0, 127) else rng32
    | _, _ => rng32))
theorem aOrT_ok : fOK aOrT orI (fun _ => True) := by
  intro σ C x y X Y r hC hx hy e
  refine ⟨trivial, ?_⟩
  unfold aOrT at e
  split at e
  · rename_i a b ha hb
    cases e
    have e1 := hx.2.symm.trans (cst_ok hC ha)
    have e2 := hy.2.symm.trans (cst_ok hC hb)
    rw [e1, e2]
    exact ⟨σ, AG.rf, Nat.le_refl _, hC, okP_C _ _ _⟩
  · cases e
    obtain ⟨a1, a2, a3, a4⟩ := fresh_ok hC (q := match nn31 (ivP C x), nn31 (ivP C y) with
      | some u, some v => bif leZ u 1 && leZ v 1 then some (0, 1) else bif leZ u 127 && leZ v 127 then some (0, 127) else rng32
      | _, _ => rng32) (x := orI X Y) (fun w hw => by
      split at hw
      · rename_i u v hu hv
        have k1 := nn31_ok hC hu
        have k2 := nn31_ok hC hv
        rw [hx.2] at k1
        rw [hy.2] at k2
        cases hk1 : leZ u 1 && leZ v 1 with
        | true =>
          rw [hk1] at hw
          cases hw
          have hk := Bool.and_eq_true_iff.mp hk1
          have q1 := leZ_iff.mp hk.1
          have q2 := leZ_iff.mp hk.2
          have e1 : X = ((X.toNat : Nat) : Int) := by omega
          have e2 : Y = ((Y.toNat : Nat) : Int) := by omega
          have k := List.all_eq_true.mp (List.all_eq_true.mp or1 X.toNat (List.mem_range.mpr (by omega))) Y.toNat (List.mem_range.mpr (by omega))
          rw [← e1, ← e2] at k
          have k := Bool.and_eq_true_iff.mp k
          exact ⟨leZ_iff.mp k.1, leZ_iff.mp k.2⟩
        | false =>
        rw [hk1] at hw
        simp only [cond_false] at hw
        cases hk : leZ u 127 && leZ v 127 with
        | false => rw [hk] at hw; exact r32 _ w hw
        | true =>
          rw [hk] at hw
          cases hw
          have hk := Bool.and_eq_true_iff.mp hk
          have q1 := leZ_iff.mp hk.1
          have q2 := leZ_iff.mp hk.2
          have e1 : X = ((X.toNat : Nat) : Int) := by omega
          have e2 : Y = ((Y.toNat : Nat) : Int) := by omega
          have k := List.all_eq_true.mp (List.all_eq_true.mp or127 X.toNat (List.mem_range.mpr (by omega))) Y.toNat (List.mem_range.mpr (by omega))
          rw [← e1, ← e2] at k
          have k := Bool.and_eq_true_iff.mp k
          exact ⟨leZ_iff.mp k.1, leZ_iff.mp k.2⟩
      · exact r32 _ w hw)
    exact ⟨_, a1, a2, a3, a4⟩
def hullS (a l : Int) : Nat → IV → IV
  | 0, w => w
  | n + 1, w => hullS a l n (mn w.1 (shlI a (l + n)), mx w.2 (shlI a (l + n)))
theorem hullS_w (a l : Int) : ∀ (n : Nat) (w : IV), (hullS a l n w).1 ≤ w.1 ∧ w.2 ≤ (hullS a l n w).2
  | 0, w => ⟨Int.le_refl _, Int.le_refl _⟩
  | n + 1, w => by
    have k := hullS_w a l n (mn w.1 (shlI a (l + n)), mx w.2 (shlI a (l + n)))
    have k1 := mn_ok w.1 (shlI a (l + n))
    have k2 := mx_ok w.2 (shlI a (l + n))
    simp only at k
    unfold hullS
    omega
theorem hullS_in (a l : Int) : ∀ (n : Nat) (w : IV) (t : Nat), t < n → (hullS a l n w).1 ≤ shlI a (l + t) ∧ shlI a (l + t) ≤ (hullS a l n w).2
  | 0, _, _, h => by omega
  | n + 1, w, t, h => by
    unfold hullS
    by_cases ht : t = n
    · subst ht
      have k := hullS_w a l t (mn w.1 (shlI a (l + t)), mx w.2 (shlI a (l + t)))
      have k1 := mn_ok w.1 (shlI a (l + t))
      have k2 := mx_ok w.2 (shlI a (l + t))
      simp only at k
      omega
    · exact hullS_in a l n _ t (by omega)
def shlB (a : Int) (q : Option IV) : Option IV := match q with
  | some q => bif leZ 0 q.1 && leZ q.2 31 then some (hullS a q.1 (q.2 - q.1 + 1).toNat (shlI a q.1, shlI a q.1)) else rng32
  | none => rng32
def aShlT : F2 := fun C x y => match cst C x, cst C y with
  | some a, some b => some (C, apC (shlI a b))
  | some a, none => some (fresh C (shlB a (ivP C y)))
  | _, _ => some (fresh C rng32)
theorem aShlT_ok : fOK aShlT shlI (fun _ => True) := by
  intro σ C x y X Y r hC hx hy e
  refine ⟨trivial, ?_⟩
  unfold aShlT at e
  split at e
  · rename_i a b ha hb
    cases e
    have e1 := hx.2.symm.trans (cst_ok hC ha)
    have e2 := hy.2.symm.trans (cst_ok hC hb)
    rw [e1, e2]
    exact ⟨σ, AG.rf, Nat.le_refl _, hC, okP_C _ _ _⟩
  · rename_i a ha _
    cases e
    have e1 := hx.2.symm.trans (cst_ok hC ha)
    obtain ⟨a1, a2, a3, a4⟩ := fresh_ok hC (q := shlB a (ivP C y)) (x := shlI X Y) (fun w hw => by
      unfold shlB at hw
      split at hw
      · rename_i q hq
        have k := ivP_ok hC hq
        rw [hy.2] at k
        cases hk : leZ 0 q.1 && leZ q.2 31 with
        | false => rw [hk] at hw; exact r32 _ w hw
        | true =>
          rw [hk] at hw
          cases hw
          rw [e1]
          have := hullS_in a q.1 (q.2 - q.1 + 1).toNat (shlI a q.1, shlI a q.1) (Y - q.1).toNat (by omega)
          rw [show q.1 + ((Y - q.1).toNat : Int) = Y from by omega] at this
          exact this
      · exact r32 _ w hw)
    exact ⟨_, a1, a2, a3, a4⟩
  · cases e
    obtain ⟨a1, a2, a3, a4⟩ := fresh_ok hC (q := rng32) (x := shlI X Y) (r32 _)
    exact ⟨_, a1, a2, a3, a4⟩
/-! division -/
/-- the quotient of x by b that is known already -/
def fqT (x : AP) (b : Int) : Fc → Option Nat
  | [] => none
  | f :: F => match addR f.1 (negR x.2) with
    | [([v], k)] => bif eqZ k (-b) && (leZ (-x.1) f.2.1 && leZ f.2.2 (b - 1 - x.1)) then some v else fqT x b F
    | _ => fqT x b F
theorem fqT_ok {σ : Nat → Int} {x : AP} {b : Int} {n : Nat} : ∀ {F : Fc} {v : Nat}, (∀ f ∈ F, rLt n f.1 = true ∧ f.2.1 ≤ evR σ f.1 ∧ evR σ f.1 ≤ f.2.2) → rLt n x.2 = true → fqT x b F = some v → v < n ∧ 0 ≤ ev σ x - b * σ v ∧ ev σ x - b * σ v ≤ b - 1
  | [], _, _, _, h => by cases h
  | f :: F, v, hF, hx, h => by
    have hf := hF f List.mem_cons_self
    have hF2 := fun g hg => hF g (List.mem_cons_of_mem _ hg)
    unfold fqT at h
    split at h
    · rename_i w k hw
      cases hk : eqZ k (-b) && (leZ (-x.1) f.2.1 && leZ f.2.2 (b - 1 - x.1)) with
      | false => rw [hk] at h; exact fqT_ok hF2 hx h
      | true =>
        rw [hk] at h
        cases h
        simp only [Bool.and_eq_true] at hk
        have h1 := eqZ_iff.mp hk.1
        have h2 := leZ_iff.mp hk.2.1
        have h3 := leZ_iff.mp hk.2.2
        have hl : rLt n (addR f.1 (negR x.2)) = true := rLt_addR hf.1 (rLt_negR hx)
        rw [hw] at hl
        have hl := (rLt_cons.mp hl).1
        have hl : (Nat.blt v n && true) = true := hl
        rw [Bool.and_true] at hl
        have hv : v + 1 ≤ n := Nat.le_of_ble_eq_true hl
        have he := evR_addR σ f.1 (negR x.2)
        rw [hw, evR_negR] at he
        simp only [evR, evM] at he
        subst h1
        have : -b * (σ v * 1) = -(b * σ v) := by rw [Int.mul_one, Int.neg_mul]
        rw [this] at he
        unfold ev
        refine ⟨by omega, by omega, by omega⟩
    · exact fqT_ok hF2 hx h
/-- x, not below 0, by the number b -/
def dqT (fst' : Bool) (C : Cx) (x : AP) (b : Int) : Option (Cx × AP) := match fqT x b C.2 with
  | some v => some (C, bif fst' then apV v else apSub x (apMul (apC b) (apV v)))
  | none => (match ivP C x with
    | some q => (match addF (fresh C (some (q.1 / b, q.2 / b))).1 (apSub x (apMul (apC b) (fresh C (some (q.1 / b, q.2 / b))).2)) 0 (b - 1) with
      | some C' => some (C', bif fst' then (fresh C (some (q.1 / b, q.2 / b))).2 else apSub x (apMul (apC b) (fresh C (some (q.1 / b, q.2 / b))).2))
      | none => none)
    | none => none)
theorem dqT_ok {σ : Nat → Int} {C : Cx} (hC : satC σ C) {x : AP} {X b : Int} (hx : okP σ (nV C) x X) (h0 : 0 ≤ X) (h1 : X ≤ 2147483647) (b1 : 1 ≤ b) (b2 : b ≤ 2147483647) (f : Bool) {r : Cx × AP} (e : dqT f C x b = some r) :
    ∃ σ', AG (nV C) σ σ' ∧ nV C ≤ nV r.1 ∧ satC σ' r.1 ∧ okP σ' (nV r.1) r.2 (bif f then divI X b else remI X b) := by
  have hd := divI_pos h0 h1 b1 b2
  have hem := Int.mul_ediv_add_emod X b
  have hm0 := Int.emod_nonneg X (show b ≠ 0 by omega)
  have hm1 := Int.emod_lt_of_pos X (show 0 < b by omega)
  have uniq : ∀ q : Int, 0 ≤ X - b * q → X - b * q ≤ b - 1 → q = X / b := by
    intro q hq1 hq2
    have hlt : b * (X / b) < b * (q + 1) := by rw [Int.mul_add, Int.mul_one]; omega
    have hlt2 : b * q < b * (X / b + 1) := by rw [Int.mul_add, Int.mul_one]; omega
    have h3 := Int.lt_of_mul_lt_mul_left hlt (by omega)
    have h4 := Int.lt_of_mul_lt_mul_left hlt2 (by omega)
    omega
  unfold dqT at e
  split at e
  · rename_i v hv
    cases e
    obtain ⟨k1, k2, k3⟩ := fqT_ok (n := nV C) hC.2 hx.1 hv
    rw [hx.2] at k2 k3
    have hq := uniq _ k2 k3
    refine ⟨σ, AG.rf, Nat.le_refl _, hC, ?_⟩
    cases f with
    | true =>
      simp only [cond_true]
      rw [hd.1, ← hq]
      exact okP_V k1
    | false =>
      simp only [cond_false]
      rw [hd.2]
      have : X % b = X - b * σ v := by rw [hq]; omega
      rw [this]
      exact hx.sub ((okP_C σ _ b).mul (okP_V k1))
  · split at e
    · rename_i q hq
      have kq := ivP_ok hC hq
      rw [hx.2] at kq
      obtain ⟨a1, a2, a3, a4⟩ := fresh_ok hC (q := some (q.1 / b, q.2 / b)) (x := X / b) (fun w hw => by
        cases hw
        exact ⟨Int.ediv_le_ediv (by omega) kq.1, Int.ediv_le_ediv (by omega) kq.2⟩)
      have hp := (hx.up a2 a1).sub ((okP_C _ _ b).mul a4)
      obtain ⟨C', c1, c2, c3⟩ := addF_ok a3 (p := apSub x (apMul (apC b) (fresh C (some (q.1 / b, q.2 / b))).2)) (l := 0) (u := b - 1) (by rw [hp.2]; omega) (by rw [hp.2]; omega)
      rw [c1] at e
      cases e
      have e9 : nV C' = nV (fresh C (some (q.1 / b, q.2 / b))).1 := c3
      refine ⟨_, a1, by rw [e9]; exact a2, c2, ?_⟩
      rw [e9]
      cases f with
      | true => simp only [cond_true]; rw [hd.1]; exact a4
      | false =>
        simp only [cond_false]
        rw [hd.2, show X % b = X - b * (X / b) from by omega]
        exact hp
    · cases e
def dv2 (f : Bool) (pc : Nat) (ls : List AL) (st : List AV) (ov : OV) (x : AP) (b : Int) (q : Cx × Bool) : Option (List AS) := bif q.2 then some [((dvW f q.1 x b).1, pc + 1, ls, .inl (dvW f q.1 x b).2 :: st, ov)] else (match dqT f q.1 x b with
  | some r => some [(r.1, pc + 1, ls, .inl r.2 :: st, ov)]
  | none => none)
/-- by a number that varies, above 0 -/
def rmV (C : Cx) (x y : AP) (p q : IV) (u64 : Option IV) : Option (Cx × AP) := bif leZ 1 q.1 then (bif leZ 0 p.1 then
    (match addF (fresh C (some (0, mn p.2 (q.2 - 1)))).1 (apSub y (fresh C (some (0, mn p.2 (q.2 - 1)))).2) 1 1099511627776 with
      | some C' => some (C', (fresh C (some (0, mn p.2 (q.2 - 1)))).2)
      | none => none) else some (fresh C u64)) else some (fresh C u64)
