/-! ===== WHAT AN ABSTRACT STATE SAYS OF A PLAIN ONE ===== -/
abbrev AV : Type := AP ⊕ AP ⊕ AP
abbrev AL : Type := Bool ⊕ AV
abbrev OV : Type := List (Nat × AP)
abbrev AS : Type := Cx × Nat × List AL × List AV × OV
def nV (C : Cx) : Nat := C.1.length
theorem mLt_insV (n v : Nat) : ∀ m : Mo, mLt n (insV v m) = (Nat.blt v n && mLt n m)
  | [] => rfl
  | w :: r => by
    have ih := mLt_insV n v r
    unfold insV
    cases Nat.ble v w with
    | true => rfl
    | false =>
      show (Nat.blt w n && mLt n (insV v r)) = (Nat.blt v n && (Nat.blt w n && mLt n r))
      rw [ih]
      cases Nat.blt w n <;> cases Nat.blt v n <;> rfl
theorem mLt_mulM {n : Nat} : ∀ {a b : Mo}, mLt n a = true → mLt n b = true → mLt n (mulM a b) = true
  | [], _, _, h => h
  | v :: a, b, h1, h2 => by
    show mLt n (insV v (mulM a b)) = true
    rw [mLt_insV]
    have k : (Nat.blt v n && mLt n a) = true := h1
    have k := Bool.and_eq_true_iff.mp k
    exact Bool.and_eq_true_iff.mpr ⟨k.1, mLt_mulM k.2 h2⟩
theorem rLt_cons {n : Nat} {q : Mo × Int} {r : Rs} : rLt n (q :: r) = true ↔ mLt n q.1 = true ∧ rLt n r = true := Bool.and_eq_true_iff
theorem rLt_addM {n : Nat} {m : Mo} {c : Int} (hm : mLt n m = true) : ∀ {r : Rs}, rLt n r = true → rLt n (addM m c r) = true
  | [], _ => rLt_cons.mpr ⟨hm, rfl⟩
  | q :: r, h => by
    have k := rLt_cons.mp h
    have ih := rLt_addM (c := c) hm k.2
    unfold addM
    cases moEq m q.1 with
    | true =>
      cases isZ (q.2 + c) with
      | true => exact k.2
      | false => exact rLt_cons.mpr ⟨k.1, k.2⟩
    | false =>
      cases moLt m q.1 with
      | true => exact rLt_cons.mpr ⟨hm, h⟩
      | false => exact rLt_cons.mpr ⟨k.1, ih⟩
theorem rLt_addR {n : Nat} : ∀ {a b : Rs}, rLt n a = true → rLt n b = true → rLt n (addR a b) = true
  | [], _, _, h => h
  | q :: a, b, h1, h2 => by
    have k := rLt_cons.mp h1
    exact rLt_addM k.1 (rLt_addR k.2 h2)
theorem rLt_negR {n : Nat} : ∀ {a : Rs}, rLt n a = true → rLt n (negR a) = true
  | [], _ => rfl
  | q :: a, h => by
    have k := rLt_cons.mp h
    exact rLt_cons.mpr ⟨k.1, rLt_negR k.2⟩
theorem rLt_scR {n : Nat} {k : Int} {a : Rs} (h : rLt n a = true) : rLt n (scR k a) = true := by
  unfold scR
  cases isZ k with
  | true => rfl
  | false =>
    simp only [cond_false]
    induction a with
    | nil => rfl
    | cons q a ih =>
      have e := rLt_cons.mp h
      exact rLt_cons.mpr ⟨e.1, ih e.2⟩
theorem rLt_mulR1 {n : Nat} {q : Mo × Int} (hq : mLt n q.1 = true) : ∀ {b : Rs}, rLt n b = true → rLt n (mulR1 q b) = true
  | [], _ => rfl
  | e :: b, h => by
    have k := rLt_cons.mp h
    exact rLt_addM (mLt_mulM hq k.1) (rLt_mulR1 hq k.2)
theorem rLt_mulR {n : Nat} : ∀ {a b : Rs}, rLt n a = true → rLt n b = true → rLt n (mulR a b) = true
  | [], _, _, _ => rfl
  | q :: a, b, h1, h2 => by
    have k := rLt_cons.mp h1
    exact rLt_addR (rLt_mulR1 k.1 h2) (rLt_mulR k.2 h2)
theorem mLt_mono {n k : Nat} (hn : n ≤ k) : ∀ {m : Mo}, mLt n m = true → mLt k m = true
  | [], _ => rfl
  | v :: m, h => by
    have e : (Nat.blt v n && mLt n m) = true := h
    have e := Bool.and_eq_true_iff.mp e
    have e1 : v + 1 ≤ n := Nat.le_of_ble_eq_true e.1
    exact Bool.and_eq_true_iff.mpr ⟨Nat.ble_eq_true_of_le (by omega), mLt_mono hn e.2⟩
theorem rLt_mono {n k : Nat} (hn : n ≤ k) : ∀ {r : Rs}, rLt n r = true → rLt k r = true
  | [], _ => rfl
  | q :: r, h => by
    have e := rLt_cons.mp h
    exact rLt_cons.mpr ⟨mLt_mono hn e.1, rLt_mono hn e.2⟩
def AG (n : Nat) (σ σ' : Nat → Int) : Prop := ∀ i, i < n → σ i = σ' i
theorem AG.rf {n : Nat} {σ : Nat → Int} : AG n σ σ := fun _ _ => rfl
theorem AG.tr {n m : Nat} {σ σ' σ'' : Nat → Int} (h : AG n σ σ') (hn : n ≤ m) (h' : AG m σ' σ'') : AG n σ σ'' := fun i hi => (h i hi).trans (h' i (by omega))
theorem AG.lo {n m : Nat} {σ σ' : Nat → Int} (h : AG m σ σ') (hn : n ≤ m) : AG n σ σ' := fun i hi => h i (by omega)
theorem AG.sy {n : Nat} {σ σ' : Nat → Int} (h : AG n σ σ') : AG n σ' σ := fun i hi => (h i hi).symm
theorem evM_ag {n : Nat} {σ σ' : Nat → Int} (h : AG n σ σ') : ∀ {m : Mo}, mLt n m = true → evM σ m = evM σ' m
  | [], _ => rfl
  | v :: m, hm => by
    have e : (Nat.blt v n && mLt n m) = true := hm
    have e := Bool.and_eq_true_iff.mp e
    have e1 : v + 1 ≤ n := Nat.le_of_ble_eq_true e.1
    simp only [evM]
    rw [h v (by omega), evM_ag h e.2]
theorem evR_ag {n : Nat} {σ σ' : Nat → Int} (h : AG n σ σ') : ∀ {r : Rs}, rLt n r = true → evR σ r = evR σ' r
  | [], _ => rfl
  | q :: r, hr => by
    have e := rLt_cons.mp hr
    simp only [evR]
    rw [evM_ag h e.1, evR_ag h e.2]
/-- p is x, by numbers below n -/
def okP (σ : Nat → Int) (n : Nat) (p : AP) (x : Int) : Prop := rLt n p.2 = true ∧ ev σ p = x
theorem okP.up {σ σ' : Nat → Int} {n m : Nat} {p : AP} {x : Int} (h : okP σ n p x) (hn : n ≤ m) (ha : AG n σ σ') : okP σ' m p x := ⟨rLt_mono hn h.1, by
  have e := evR_ag ha h.1
  have e2 := h.2
  unfold ev at e2 ⊢
  rw [← e]
  exact e2⟩
theorem okP_C (σ : Nat → Int) (n : Nat) (c : Int) : okP σ n (apC c) c := ⟨rfl, ev_C σ c⟩
theorem okP_V {σ : Nat → Int} {n v : Nat} (h : v < n) : okP σ n (apV v) (σ v) := ⟨by
  show ((Nat.blt v n && true) && true) = true
  rw [Bool.and_true, Bool.and_true]
  exact Nat.ble_eq_true_of_le h, ev_V σ v⟩
theorem okP.add {σ : Nat → Int} {n : Nat} {p q : AP} {x y : Int} (h : okP σ n p x) (k : okP σ n q y) : okP σ n (apAdd p q) (x + y) := ⟨rLt_addR h.1 k.1, by rw [ev_add, h.2, k.2]⟩
theorem okP.sub {σ : Nat → Int} {n : Nat} {p q : AP} {x y : Int} (h : okP σ n p x) (k : okP σ n q y) : okP σ n (apSub p q) (x - y) := ⟨rLt_addR (rLt_negR k.1) h.1, by rw [ev_sub, h.2, k.2]⟩
theorem okP.mul {σ : Nat → Int} {n : Nat} {p q : AP} {x y : Int} (h : okP σ n p x) (k : okP σ n q y) : okP σ n (apMul p q) (x * y) := ⟨rLt_addR (rLt_scR k.1) (rLt_addR (rLt_scR h.1) (rLt_mulR h.1 k.1)), by rw [ev_mul, h.2, k.2]⟩
theorem okP.neg {σ : Nat → Int} {n : Nat} {p : AP} {x : Int} (h : okP σ n p x) : okP σ n (apNeg p) (-x) := ⟨rLt_negR h.1, by rw [ev_neg, h.2]⟩
def qV (σ : Nat → Int) (n : Nat) : AV → PV → Prop
  | .inl p, .inl x => okP σ n p x
  | .inr (.inl p), .inr (.inl x) => okP σ n p x
  | .inr (.inr p), .inr (.inr x) => okP σ n p x
  | _, _ => False
def qO (σ : Nat → Int) (n : Nat) : AL → Option PV → Prop
  | .inl b, o => b = true → ∀ v, o = some v → pcat v = 1
  | .inr a, o => ∃ v, o = some v ∧ qV σ n a v
def qLs (σ : Nat → Int) (n : Nat) : List AL → PL → Prop
  | [], [] => True
  | a :: as, o :: os => qO σ n a o ∧ qLs σ n as os
  | _, _ => False
def qSs (σ : Nat → Int) (n : Nat) : List AV → List PV → Prop
  | [], [] => True
  | a :: as, o :: os => qV σ n a o ∧ qSs σ n as os
  | _, _ => False
theorem qV.up {σ σ' : Nat → Int} {n m : Nat} (hn : n ≤ m) (ha : AG n σ σ') : ∀ {a : AV} {v : PV}, qV σ n a v → qV σ' m a v
  | .inl _, .inl _, h => okP.up h hn ha
  | .inr (.inl _), .inr (.inl _), h => okP.up h hn ha
  | .inr (.inr _), .inr (.inr _), h => okP.up h hn ha
  | .inl _, .inr _, h => h.elim
  | .inr (.inl _), .inl _, h => h.elim
  | .inr (.inl _), .inr (.inr _), h => h.elim
  | .inr (.inr _), .inl _, h => h.elim
  | .inr (.inr _), .inr (.inl _), h => h.elim
theorem qO.up {σ σ' : Nat → Int} {n m : Nat} (hn : n ≤ m) (ha : AG n σ σ') : ∀ {a : AL} {o : Option PV}, qO σ n a o → qO σ' m a o
  | .inl _, _, h => h
  | .inr _, _, ⟨v, h1, h2⟩ => ⟨v, h1, h2.up hn ha⟩
theorem qLs.up {σ σ' : Nat → Int} {n m : Nat} (hn : n ≤ m) (ha : AG n σ σ') : ∀ {a : List AL} {o : PL}, qLs σ n a o → qLs σ' m a o
  | [], [], h => h
  | _ :: _, _ :: _, h => ⟨h.1.up hn ha, qLs.up hn ha h.2⟩
  | [], _ :: _, h => h.elim
  | _ :: _, [], h => h.elim
theorem qSs.up {σ σ' : Nat → Int} {n m : Nat} (hn : n ≤ m) (ha : AG n σ σ') : ∀ {a : List AV} {o : List PV}, qSs σ n a o → qSs σ' m a o
  | [], [], h => h
  | _ :: _, _ :: _, h => ⟨h.1.up hn ha, qSs.up hn ha h.2⟩
  | [], _ :: _, h => h.elim
  | _ :: _, [], h => h.elim
/-- bounds of what cells hold; whether a value within bounds may be written -/
abbrev RGt : Type := (Nat → Nat → Nat → Option IV) × (Nat → Nat → Nat → Option IV → Bool)
/-- the script's items and its length -/
abbrev ZP : Type := List AP × AP
def hInv (P : RGt) (h : PH) : Prop := ∀ (a l u j : Nat) (q : IV), P.1 a l u = some q → l ≤ j → j ≤ u → q.1 ≤ h a j ∧ h a j ≤ q.2
def pOK (P : RGt) : Prop := ∀ (a l u j l' u' : Nat) (v : Int) (o : Option IV) (q : IV), P.2 a l u o = true → (∀ x, o = some x → x.1 ≤ v ∧ v ≤ x.2) → l ≤ j → j ≤ u → P.1 a l' u' = some q → l' ≤ j → j ≤ u' → q.1 ≤ v ∧ v ≤ q.2
def gInv (g : PG) : Prop := g.1 = nCell ∧ ∀ a k : Nat, a < nCell → 0 ≤ rtab a k → g.2 a k = rtab a k
def qZ (z : Int → Int) (Z : ZP) (σ : Nat → Int) (n : Nat) : Prop := (∀ (j : Nat) (p : AP), Z.1[j]? = some p → okP σ n p (z j)) ∧ okP σ n Z.2 (z (-1)) ∧ z (-1) < 2147483648
theorem qZ.up {z : Int → Int} {Z : ZP} {σ σ' : Nat → Int} {n m : Nat} (h : qZ z Z σ n) (hn : n ≤ m) (ha : AG n σ σ') : qZ z Z σ' m := ⟨fun j p hp => (h.1 j p hp).up hn ha, h.2.1.up hn ha, h.2.2⟩
def hOv (σ : Nat → Int) (n : Nat) (ov : OV) (h : PH) : Prop := ∀ e ∈ ov, okP σ n e.2 (h ((e.1 / 256 : Nat) : Int) ((e.1 % 256 : Nat) : Int))
def qH (P : RGt) (z : Int → Int) (Z : ZP) (σ : Nat → Int) (C : Cx) (ov : OV) (h : PH) (g : PG) : Prop := satC σ C ∧ qZ z Z σ (nV C) ∧ hInv P h ∧ gInv g ∧ hOv σ (nV C) ov h
def qA (P : RGt) (z : Int → Int) (Z : ZP) (σ : Nat → Int) (A : AS) (c : Cfg) : Prop := A.2.1 = c.1 ∧ qLs σ (nV A.1) A.2.2.1 c.2.1 ∧ qSs σ (nV A.1) A.2.2.2.1 c.2.2.1 ∧ qH P z Z σ A.1 A.2.2.2.2 c.2.2.2.1 c.2.2.2.2
theorem hOv.up {σ σ' : Nat → Int} {n m : Nat} {ov : OV} {h : PH} (k : hOv σ n ov h) (hn : n ≤ m) (ha : AG n σ σ') : hOv σ' m ov h := fun e he => (k e he).up hn ha
/-- narrower bounds, the same numbers -/
theorem qH.ctx {P : RGt} {z : Int → Int} {Z : ZP} {σ : Nat → Int} {C C' : Cx} {ov : OV} {h : PH} {g : PG} (k : qH P z Z σ C ov h g) (hs : satC σ C') (hn : C'.1.length = C.1.length) : qH P z Z σ C' ov h g := by
  obtain ⟨-, k2, k3, k4, k5⟩ := k
  have e : nV C' = nV C := hn
  exact ⟨hs, by rw [e]; exact k2, k3, k4, by rw [e]; exact k5⟩
theorem qH.ext {P : RGt} {z : Int → Int} {Z : ZP} {σ σ' : Nat → Int} {C C' : Cx} {ov : OV} {h : PH} {g : PG} (k : qH P z Z σ C ov h g) (hs : satC σ' C') (hn : nV C ≤ nV C') (ha : AG (nV C) σ σ') : qH P z Z σ' C' ov h g :=
  ⟨hs, k.2.1.up hn ha, k.2.2.1, k.2.2.2.1, k.2.2.2.2.up hn ha⟩
/-- a new number -/
def fresh (C : Cx) (q : Option IV) : Cx × AP := ((C.1 ++ [q], C.2), apV C.1.length)
def extS (σ : Nat → Int) (n : Nat) (x : Int) : Nat → Int := fun i => bif Nat.beq i n then x else σ i
theorem extS_eq (σ : Nat → Int) (n : Nat) (x : Int) : extS σ n x n = x := by
  unfold extS
  rw [Nat.beq_refl]
  rfl
theorem extS_ne {σ : Nat → Int} {n i : Nat} {x : Int} (h : i ≠ n) : extS σ n x i = σ i := by
  unfold extS
  cases e : Nat.beq i n with
  | true => exact absurd (Nat.eq_of_beq_eq_true e) h
  | false => rfl
theorem extS_ag (σ : Nat → Int) (n : Nat) (x : Int) : AG n σ (extS σ n x) := fun i hi => (extS_ne (by omega)).symm
theorem fresh_ok {σ : Nat → Int} {C : Cx} (hC : satC σ C) {q : Option IV} {x : Int} (hq : ∀ y, q = some y → y.1 ≤ x ∧ x ≤ y.2) :
    AG (nV C) σ (extS σ (nV C) x) ∧ nV C ≤ nV (fresh C q).1 ∧ satC (extS σ (nV C) x) (fresh C q).1 ∧ okP (extS σ (nV C) x) (nV (fresh C q).1) (fresh C q).2 x := by
  have hn : nV (fresh C q).1 = nV C + 1 := by
    show (C.1 ++ [q]).length = C.1.length + 1
    rw [List.length_append]
    rfl
  refine ⟨extS_ag _ _ _, by omega, ⟨fun i l u hi => ?_, fun f hf => ?_⟩, ?_⟩
  · rcases getG_app C.1 q i with e | ⟨e1, e2⟩
    · have hi : getG (C.1 ++ [q]) i = some (l, u) := hi
      rw [e] at hi
      have hl : i < C.1.length := getG_lt hi
      rw [extS_ne (by unfold nV; omega)]
      exact hC.1 i l u hi
    · have hj : getG (C.1 ++ [q]) i = some (l, u) := hi
      have hj2 : q = some (l, u) := e2.symm.trans hj
      subst e1
      have := hq _ hj2
      have e3 : extS σ (nV C) x C.1.length = x := extS_eq σ (nV C) x
      rw [e3]
      exact this
  · have k := hC.2 f hf
    have e := evR_ag (extS_ag σ (nV C) x) k.1
    refine ⟨?_, ?_⟩
    · show rLt (nV (fresh C q).1) f.1 = true
      exact rLt_mono (n := C.1.length) (by rw [hn]; exact Nat.le_succ _) k.1
    · rw [← e]
      exact k.2
  · have k := okP_V (σ := extS σ (nV C) x) (n := nV (fresh C q).1) (v := nV C) (by omega)
    rw [extS_eq] at k
    exact k
/-! reading lists -/
theorem qLs_nth {σ : Nat → Int} {n : Nat} : ∀ {as : List AL} {os : PL} {i : Nat} {a : AL}, qLs σ n as os → nth as i = some a → ∃ o, os[i]? = some o ∧ qO σ n a o
  | _ :: _, o :: _, 0, _, h, e => by cases e; exact ⟨o, rfl, h.1⟩
  | _ :: _, _ :: _, i + 1, _, h, e => qLs_nth (i := i) h.2 e
  | [], _, _, _, _, e => by cases e
  | _ :: _, [], _, _, h, _ => h.elim
theorem qLs_len {σ : Nat → Int} {n : Nat} : ∀ {as : List AL} {os : PL}, qLs σ n as os → as.length = os.length
  | [], [], _ => rfl
  | _ :: _, _ :: _, h => congrArg (· + 1) (qLs_len h.2)
  | [], _ :: _, h => h.elim
  | _ :: _, [], h => h.elim
theorem qSs_len {σ : Nat → Int} {n : Nat} : ∀ {as : List AV} {os : List PV}, qSs σ n as os → as.length = os.length
  | [], [], _ => rfl
  | _ :: _, _ :: _, h => congrArg (· + 1) (qSs_len h.2)
  | [], _ :: _, h => h.elim
  | _ :: _, [], h => h.elim
theorem qLs_set {σ : Nat → Int} {n : Nat} {a : AL} {o : Option PV} (ha : qO σ n a o) : ∀ {as : List AL} {os : PL} (i : Nat), qLs σ n as os → qLs σ n (as.set i a) (os.set i o)
  | [], [], _, h => h
  | _ :: _, _ :: _, 0, h => ⟨ha, h.2⟩
  | _ :: _, _ :: _, i + 1, h => ⟨h.1, qLs_set ha i h.2⟩
  | [], _ :: _, _, h => h.elim
  | _ :: _, [], _, h => h.elim
def kindA (a : AV) : Nat := match a with
  | .inl _ => 0
  | .inr (.inl _) => 1
  | .inr (.inr _) => 2
def catA (a : AV) : Nat := match a with
  | .inl _ => 1
  | .inr (.inl _) => 2
  | .inr (.inr _) => 1
theorem qV_cat {σ : Nat → Int} {n : Nat} : ∀ {a : AV} {v : PV}, qV σ n a v → catA a = pcat v
  | .inl _, .inl _, _ => rfl
  | .inr (.inl _), .inr (.inl _), _ => rfl
  | .inr (.inr _), .inr (.inr _), _ => rfl
  | .inl _, .inr _, h => h.elim
  | .inr (.inl _), .inl _, h => h.elim
  | .inr (.inl _), .inr (.inr _), h => h.elim
  | .inr (.inr _), .inl _, h => h.elim
  | .inr (.inr _), .inr (.inl _), h => h.elim
def catsA : List AV → Nat
  | [] => 0
  | a :: r => catA a + catsA r
theorem qSs_cats {σ : Nat → Int} {n : Nat} : ∀ {as : List AV} {os : List PV}, qSs σ n as os → catsA as = pcats os
  | [], [], _ => rfl
  | a :: as, o :: os, h => by
    have e1 := qV_cat h.1
    have e2 := qSs_cats h.2
    show catA a + catsA as = ((o :: os).map pcat).sum
    rw [List.map_cons, List.sum_cons, e1, e2]
    rfl
  | [], _ :: _, h => h.elim
  | _ :: _, [], h => h.elim
def aGet (ls : List AL) (i : Nat) : Option AV := match nth ls i with
  | some (.inr a) => some a
  | _ => none
theorem aGet_ok {σ : Nat → Int} {n : Nat} {as : List AL} {os : PL} {i : Nat} {a : AV} (h : qLs σ n as os) (e : aGet as i = some a) : ∃ v, lget os i = some v ∧ qV σ n a v := by
  unfold aGet at e
  split at e
  · rename_i a' h'
    cases e
    obtain ⟨o, h1, v, rfl, h2⟩ := qLs_nth h h'
    exact ⟨v, by unfold lget; rw [h1]; rfl, h2⟩
  · cases e
def lfA (ls : List AL) (i : Nat) : Bool := match i with
  | 0 => true
  | j + 1 => match nth ls j with
    | some (.inl b) => b
    | some (.inr a) => Nat.beq (catA a) 1
    | none => false
theorem lfA_ok {σ : Nat → Int} {n : Nat} {as : List AL} {os : PL} {i : Nat} (h : qLs σ n as os) (e : lfA as i = true) : lfree os i = true := by
  cases i with
  | zero => rfl
  | succ j =>
    unfold lfA at e
    simp only at e
    unfold lfree
    simp only
    split at e
    · rename_i b hb
      obtain ⟨o, h1, h2⟩ := qLs_nth h hb
      have h3 := h2 e
      unfold lget
      rw [h1]
      cases o with
      | none => rfl
      | some v => simp only [Option.join_some]; exact decide_eq_true (h3 v rfl)
    · rename_i a ha
      obtain ⟨o, h1, v, rfl, h2⟩ := qLs_nth h ha
      have h3 : catA a = 1 := Nat.eq_of_beq_eq_true e
      unfold lget
      rw [h1]
      simp only [Option.join_some]
      rw [← qV_cat h2]
      exact decide_eq_true h3
    · cases e
