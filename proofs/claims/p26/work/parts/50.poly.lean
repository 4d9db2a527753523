/-! ===== POLYNOMIALS OVER NUMBERED NUMBERS, AND THEIR BOUNDS ===== -/
abbrev Mo : Type := List Nat
abbrev Rs : Type := List (Mo × Int)
abbrev AP : Type := Int × Rs
abbrev IV : Type := Int × Int
def isZ (x : Int) : Bool := match x with
  | .ofNat n => Nat.beq n 0
  | .negSucc _ => false
def nnZ (x : Int) : Bool := match x with
  | .ofNat _ => true
  | .negSucc _ => false
def leZ (a b : Int) : Bool := nnZ (b - a)
def eqZ (a b : Int) : Bool := isZ (a - b)
theorem isZ_iff {x : Int} : isZ x = true ↔ x = 0 := by
  cases x with
  | ofNat n =>
    have e : Int.ofNat n = (n : Int) := rfl
    rw [e]
    constructor
    · intro h
      have h2 : n = 0 := Nat.eq_of_beq_eq_true h
      omega
    · intro h
      have h2 : n = 0 := by omega
      subst h2
      rfl
  | negSucc n =>
    constructor
    · intro h; cases h
    · intro h; omega
theorem nnZ_iff {x : Int} : nnZ x = true ↔ 0 ≤ x := by
  cases x with
  | ofNat n =>
    have e : Int.ofNat n = (n : Int) := rfl
    rw [e]
    exact ⟨fun _ => by omega, fun _ => rfl⟩
  | negSucc n =>
    constructor
    · intro h; cases h
    · intro h; omega
theorem leZ_iff {a b : Int} : leZ a b = true ↔ a ≤ b := by unfold leZ; rw [nnZ_iff]; omega
theorem eqZ_iff {a b : Int} : eqZ a b = true ↔ a = b := by unfold eqZ; rw [isZ_iff]; omega
theorem leZ_f {a b : Int} : leZ a b = false ↔ b < a := by
  rw [← Bool.not_eq_true, leZ_iff]; omega
theorem isZ_f {a : Int} : isZ a = false ↔ a ≠ 0 := by
  rw [← Bool.not_eq_true, isZ_iff]
def evM (σ : Nat → Int) : Mo → Int
  | [] => 1
  | v :: r => σ v * evM σ r
def evR (σ : Nat → Int) : Rs → Int
  | [] => 0
  | q :: r => q.2 * evM σ q.1 + evR σ r
def ev (σ : Nat → Int) (p : AP) : Int := p.1 + evR σ p.2
def moEq : Mo → Mo → Bool
  | [], [] => true
  | a :: x, b :: y => Nat.beq a b && moEq x y
  | _, _ => false
def moLt : Mo → Mo → Bool
  | [], [] => false
  | [], _ :: _ => true
  | _ :: _, [] => false
  | a :: x, b :: y => Nat.blt a b || (Nat.beq a b && moLt x y)
theorem moEq_eq : ∀ {x y : Mo}, moEq x y = true → x = y
  | [], [], _ => rfl
  | [], _ :: _, h => by simp [moEq] at h
  | _ :: _, [], h => by simp [moEq] at h
  | a :: x, b :: y, h => by
    simp only [moEq, Bool.and_eq_true] at h
    have h1 : a = b := Nat.eq_of_beq_eq_true h.1
    have h2 : x = y := moEq_eq h.2
    rw [h1, h2]
def addM (m : Mo) (c : Int) : Rs → Rs
  | [] => [(m, c)]
  | q :: r => bif moEq m q.1 then (bif isZ (q.2 + c) then r else (q.1, q.2 + c) :: r) else bif moLt m q.1 then (m, c) :: q :: r else q :: addM m c r
def addR (a b : Rs) : Rs := a.foldr (fun q acc => addM q.1 q.2 acc) b
def negR (a : Rs) : Rs := a.map (fun q => (q.1, -q.2))
def insV (v : Nat) : Mo → Mo
  | [] => [v]
  | w :: r => bif Nat.ble v w then v :: w :: r else w :: insV v r
def mulM (a b : Mo) : Mo := a.foldr insV b
def mulR1 (q : Mo × Int) (b : Rs) : Rs := b.foldr (fun e acc => addM (mulM q.1 e.1) (q.2 * e.2) acc) []
def mulR (a b : Rs) : Rs := a.foldr (fun q acc => addR (mulR1 q b) acc) []
def scR (k : Int) (r : Rs) : Rs := bif isZ k then [] else r.map (fun q => (q.1, k * q.2))
def apC (c : Int) : AP := (c, [])
def apV (v : Nat) : AP := (0, [([v], 1)])
def apAdd (p q : AP) : AP := (p.1 + q.1, addR p.2 q.2)
def apNeg (p : AP) : AP := (-p.1, negR p.2)
def apSub (p q : AP) : AP := (p.1 - q.1, addR (negR q.2) p.2)
def apMul (p q : AP) : AP := (p.1 * q.1, addR (scR p.1 q.2) (addR (scR q.1 p.2) (mulR p.2 q.2)))
theorem evR_addM (σ : Nat → Int) (m : Mo) (c : Int) : ∀ r : Rs, evR σ (addM m c r) = c * evM σ m + evR σ r
  | [] => by simp [addM, evR]
  | q :: r => by
    have ih := evR_addM σ m c r
    unfold addM
    cases h : moEq m q.1 with
    | true =>
      have e := moEq_eq h
      subst e
      cases h2 : isZ (q.2 + c) with
      | true =>
        have e2 := isZ_iff.mp h2
        simp only [cond_true, evR]
        have : q.2 * evM σ q.1 + c * evM σ q.1 = 0 := by rw [← Int.add_mul, e2, Int.zero_mul]
        omega
      | false =>
        simp only [cond_true, cond_false, evR]
        rw [Int.add_mul]
        omega
    | false =>
      cases h2 : moLt m q.1 with
      | true => simp only [cond_true, cond_false, evR]
      | false =>
        simp only [cond_false, evR]
        rw [ih]
        omega
theorem evR_addR (σ : Nat → Int) : ∀ a b : Rs, evR σ (addR a b) = evR σ a + evR σ b
  | [], b => by simp [addR, evR]
  | q :: a, b => by
    have ih := evR_addR σ a b
    show evR σ (addM q.1 q.2 (addR a b)) = _
    rw [evR_addM, ih]
    simp only [evR]
    omega
theorem evR_negR (σ : Nat → Int) : ∀ a : Rs, evR σ (negR a) = - evR σ a
  | [] => by simp [negR, evR]
  | q :: a => by
    have ih := evR_negR σ a
    show -q.2 * evM σ q.1 + evR σ (negR a) = -(q.2 * evM σ q.1 + evR σ a)
    rw [ih, Int.neg_mul]
    omega
theorem evM_insV (σ : Nat → Int) (v : Nat) : ∀ m : Mo, evM σ (insV v m) = σ v * evM σ m
  | [] => rfl
  | w :: r => by
    have ih := evM_insV σ v r
    unfold insV
    cases Nat.ble v w with
    | true => rfl
    | false =>
      simp only [cond_false, evM]
      rw [ih, Int.mul_left_comm]
theorem evM_mulM (σ : Nat → Int) : ∀ a b : Mo, evM σ (mulM a b) = evM σ a * evM σ b
  | [], b => by simp [mulM, evM]
  | v :: a, b => by
    have ih := evM_mulM σ a b
    show evM σ (insV v (mulM a b)) = _
    rw [evM_insV, ih]
    simp only [evM]
    rw [Int.mul_assoc]
theorem evR_mulR1 (σ : Nat → Int) (q : Mo × Int) : ∀ b : Rs, evR σ (mulR1 q b) = (q.2 * evM σ q.1) * evR σ b
  | [] => by simp [mulR1, evR]
  | e :: b => by
    have ih := evR_mulR1 σ q b
    show evR σ (addM (mulM q.1 e.1) (q.2 * e.2) (mulR1 q b)) = _
    rw [evR_addM, ih, evM_mulM]
    simp only [evR]
    rw [Int.mul_add]
    have : q.2 * e.2 * (evM σ q.1 * evM σ e.1) = q.2 * evM σ q.1 * (e.2 * evM σ e.1) := by
      simp only [Int.mul_assoc, Int.mul_left_comm]
    omega
theorem evR_mulR (σ : Nat → Int) : ∀ a b : Rs, evR σ (mulR a b) = evR σ a * evR σ b
  | [], b => by simp [mulR, evR]
  | q :: a, b => by
    have ih := evR_mulR σ a b
    show evR σ (addR (mulR1 q b) (mulR a b)) = _
    rw [evR_addR, evR_mulR1, ih]
    simp only [evR]
    rw [Int.add_mul]
theorem evR_scR (σ : Nat → Int) (k : Int) : ∀ r : Rs, evR σ (scR k r) = k * evR σ r := by
  intro r
  unfold scR
  cases h : isZ k with
  | true =>
    rw [isZ_iff.mp h]
    simp [evR]
  | false =>
    simp only [cond_false]
    induction r with
    | nil => simp [evR]
    | cons q r ih =>
      simp only [List.map_cons, evR]
      rw [ih, Int.mul_add, Int.mul_assoc]
theorem ev_C (σ : Nat → Int) (c : Int) : ev σ (apC c) = c := by simp [ev, apC, evR]
theorem ev_V (σ : Nat → Int) (v : Nat) : ev σ (apV v) = σ v := by simp [ev, apV, evR, evM]
theorem ev_add (σ : Nat → Int) (p q : AP) : ev σ (apAdd p q) = ev σ p + ev σ q := by
  unfold ev apAdd
  simp only [evR_addR]
  omega
theorem ev_neg (σ : Nat → Int) (p : AP) : ev σ (apNeg p) = - ev σ p := by
  unfold ev apNeg
  simp only [evR_negR]
  omega
theorem ev_sub (σ : Nat → Int) (p q : AP) : ev σ (apSub p q) = ev σ p - ev σ q := by
  unfold ev apSub
  simp only [evR_addR, evR_negR]
  omega
theorem ev_mul (σ : Nat → Int) (p q : AP) : ev σ (apMul p q) = ev σ p * ev σ q := by
  unfold ev apMul
  simp only [evR_addR, evR_scR, evR_mulR]
  rw [Int.add_mul, Int.mul_add, Int.mul_add, Int.mul_comm q.1 (evR σ p.2)]
  omega
/-! bounds -/
def mn (a b : Int) : Int := bif leZ a b then a else b
def mx (a b : Int) : Int := bif leZ a b then b else a
theorem mn_ok (a b : Int) : mn a b ≤ a ∧ mn a b ≤ b ∧ (mn a b = a ∨ mn a b = b) := by
  unfold mn
  cases h : leZ a b with
  | true => have := leZ_iff.mp h; exact ⟨Int.le_refl _, this, Or.inl rfl⟩
  | false => have := leZ_f.mp h; exact ⟨by simp only [cond_false]; omega, Int.le_refl _, Or.inr rfl⟩
theorem mx_ok (a b : Int) : a ≤ mx a b ∧ b ≤ mx a b ∧ (mx a b = a ∨ mx a b = b) := by
  unfold mx
  cases h : leZ a b with
  | true => have := leZ_iff.mp h; exact ⟨this, Int.le_refl _, Or.inr rfl⟩
  | false => have := leZ_f.mp h; exact ⟨Int.le_refl _, by simp only [cond_false]; omega, Or.inl rfl⟩
def ivMul (x y : IV) : IV := (mn (mn (x.1 * y.1) (x.1 * y.2)) (mn (x.2 * y.1) (x.2 * y.2)), mx (mx (x.1 * y.1) (x.1 * y.2)) (mx (x.2 * y.1) (x.2 * y.2)))
theorem iv_lin {l u a t : Int} (h1 : l ≤ a) (h2 : a ≤ u) : (l * t ≤ a * t ∨ u * t ≤ a * t) ∧ (a * t ≤ l * t ∨ a * t ≤ u * t) := by
  by_cases ht : 0 ≤ t
  · have a1 := Int.mul_le_mul_of_nonneg_right h1 ht
    have a2 := Int.mul_le_mul_of_nonneg_right h2 ht
    exact ⟨Or.inl a1, Or.inr a2⟩
  · have ht2 : t ≤ 0 := by omega
    have a1 := Int.mul_le_mul_of_nonpos_right h1 ht2
    have a2 := Int.mul_le_mul_of_nonpos_right h2 ht2
    exact ⟨Or.inr a2, Or.inl a1⟩
theorem ivMul_ok {x y : IV} {a b : Int} (h1 : x.1 ≤ a) (h2 : a ≤ x.2) (h3 : y.1 ≤ b) (h4 : b ≤ y.2) : (ivMul x y).1 ≤ a * b ∧ a * b ≤ (ivMul x y).2 := by
  have k1 := iv_lin (t := b) h1 h2
  have k2 := iv_lin (t := x.1) h3 h4
  have k3 := iv_lin (t := x.2) h3 h4
  rw [Int.mul_comm y.1, Int.mul_comm y.2, Int.mul_comm b] at k2 k3
  unfold ivMul
  simp only
  have m1 := mn_ok (x.1 * y.1) (x.1 * y.2)
  have m2 := mn_ok (x.2 * y.1) (x.2 * y.2)
  have m3 := mn_ok (mn (x.1 * y.1) (x.1 * y.2)) (mn (x.2 * y.1) (x.2 * y.2))
  have n1 := mx_ok (x.1 * y.1) (x.1 * y.2)
  have n2 := mx_ok (x.2 * y.1) (x.2 * y.2)
  have n3 := mx_ok (mx (x.1 * y.1) (x.1 * y.2)) (mx (x.2 * y.1) (x.2 * y.2))
  generalize mn (mn (x.1 * y.1) (x.1 * y.2)) (mn (x.2 * y.1) (x.2 * y.2)) = M at *
  generalize mx (mx (x.1 * y.1) (x.1 * y.2)) (mx (x.2 * y.1) (x.2 * y.2)) = N at *
  generalize mn (x.1 * y.1) (x.1 * y.2) = M1 at *
  generalize mn (x.2 * y.1) (x.2 * y.2) = M2 at *
  generalize mx (x.1 * y.1) (x.1 * y.2) = N1 at *
  generalize mx (x.2 * y.1) (x.2 * y.2) = N2 at *
  generalize x.1 * y.1 = p1 at *
  generalize x.1 * y.2 = p2 at *
  generalize x.2 * y.1 = p3 at *
  generalize x.2 * y.2 = p4 at *
  generalize x.1 * b = p5 at *
  generalize x.2 * b = p6 at *
  generalize a * b = p7 at *
  omega
abbrev Gm : Type := List (Option IV)
abbrev Fc : Type := List (Rs × IV)
abbrev Cx : Type := Gm × Fc
def getG : Gm → Nat → Option IV
  | [], _ => none
  | q :: _, 0 => q
  | _ :: r, i + 1 => getG r i
def setG : Gm → Nat → IV → Gm
  | [], _, _ => []
  | _ :: r, 0, q => some q :: r
  | x :: r, i + 1, q => x :: setG r i q
theorem setG_len : ∀ (G : Gm) (i : Nat) (q : IV), (setG G i q).length = G.length
  | [], _, _ => rfl
  | _ :: _, 0, _ => rfl
  | _ :: r, i + 1, q => congrArg (· + 1) (setG_len r i q)
theorem getG_set : ∀ (G : Gm) (i j : Nat) (q : IV), getG (setG G i q) j = getG G j ∨ (i = j ∧ getG (setG G i q) j = some q)
  | [], _, _, _ => Or.inl rfl
  | _ :: _, 0, 0, _ => Or.inr ⟨rfl, rfl⟩
  | _ :: _, 0, _ + 1, _ => Or.inl rfl
  | _ :: _, _ + 1, 0, _ => Or.inl rfl
  | _ :: r, i + 1, j + 1, q => (getG_set r i j q).elim Or.inl (fun h => Or.inr ⟨congrArg (· + 1) h.1, h.2⟩)
theorem getG_app : ∀ (G : Gm) (q : Option IV) (j : Nat), getG (G ++ [q]) j = getG G j ∨ (j = G.length ∧ getG (G ++ [q]) j = q)
  | [], _, 0 => Or.inr ⟨rfl, rfl⟩
  | [], _, _ + 1 => Or.inl rfl
  | _ :: _, _, 0 => Or.inl rfl
  | _ :: r, q, j + 1 => (getG_app r q j).elim Or.inl (fun h => Or.inr ⟨congrArg (· + 1) h.1, h.2⟩)
theorem getG_lt : ∀ {G : Gm} {j : Nat} {q : IV}, getG G j = some q → j < G.length
  | [], _, _, h => by cases h
  | _ :: _, 0, _, _ => Nat.succ_pos _
  | _ :: r, j + 1, q, h => Nat.succ_lt_succ (getG_lt (G := r) h)
/-- the variables of a polynomial are below n -/
def mLt (n : Nat) (m : Mo) : Bool := m.all (fun v => Nat.blt v n)
def rLt (n : Nat) (r : Rs) : Bool := r.all (fun q => mLt n q.1)
def satC (σ : Nat → Int) (C : Cx) : Prop := (∀ i l u, getG C.1 i = some (l, u) → l ≤ σ i ∧ σ i ≤ u) ∧ ∀ f ∈ C.2, rLt C.1.length f.1 = true ∧ f.2.1 ≤ evR σ f.1 ∧ evR σ f.1 ≤ f.2.2
def oMul (a b : Option IV) : Option IV := match a, b with
  | some x, some y => some (ivMul x y)
  | _, _ => none
def ivM (G : Gm) : Mo → Option IV
  | [] => some (1, 1)
  | v :: r => oMul (getG G v) (ivM G r)
def ivAdd (x y : IV) : IV := (x.1 + y.1, x.2 + y.2)
def ivR (G : Gm) : Rs → Option IV
  | [] => some (0, 0)
  | q :: r => match ivM G q.1, ivR G r with
    | some x, some y => some (ivAdd (ivMul (q.2, q.2) x) y)
    | _, _ => none
def rEq : Rs → Rs → Bool
  | [], [] => true
  | q :: r, e :: s => moEq q.1 e.1 && (eqZ q.2 e.2 && rEq r s)
  | _, _ => false
def rOp : Rs → Rs → Bool
  | [], [] => true
  | q :: r, e :: s => moEq q.1 e.1 && (isZ (q.2 + e.2) && rOp r s)
  | _, _ => false
def findF : Fc → Rs → Option IV
  | [], _ => none
  | f :: F, r => bif rEq r f.1 then some f.2 else bif rOp r f.1 then some (-f.2.2, -f.2.1) else findF F r
def ivP (C : Cx) (p : AP) : Option IV := match p.2 with
  | [] => some (p.1, p.1)
  | r => match ivR C.1 r, findF C.2 r with
    | some x, some y => some (p.1 + mx x.1 y.1, p.1 + mn x.2 y.2)
    | some x, none => some (p.1 + x.1, p.1 + x.2)
    | none, some y => some (p.1 + y.1, p.1 + y.2)
    | none, none => none
theorem rEq_eq : ∀ {r s : Rs}, rEq r s = true → r = s
  | [], [], _ => rfl
  | [], _ :: _, h => by simp [rEq] at h
  | _ :: _, [], h => by simp [rEq] at h
  | q :: r, e :: s, h => by
    simp only [rEq, Bool.and_eq_true] at h
    have h1 : q.1 = e.1 := moEq_eq h.1
    have h2 : q.2 = e.2 := eqZ_iff.mp h.2.1
    have h3 : r = s := rEq_eq h.2.2
    rw [h3, show q = e from Prod.ext h1 h2]
theorem rOp_ev (σ : Nat → Int) : ∀ {r s : Rs}, rOp r s = true → evR σ r = - evR σ s
  | [], [], _ => rfl
  | [], _ :: _, h => by simp [rOp] at h
  | _ :: _, [], h => by simp [rOp] at h
  | q :: r, e :: s, h => by
    simp only [rOp, Bool.and_eq_true] at h
    have h1 : q.1 = e.1 := moEq_eq h.1
    have h2 : q.2 + e.2 = 0 := isZ_iff.mp h.2.1
    have h3 := rOp_ev σ h.2.2
    simp only [evR]
    rw [h1, h3]
    have : q.2 * evM σ e.1 + e.2 * evM σ e.1 = 0 := by rw [← Int.add_mul, h2, Int.zero_mul]
    omega
theorem ivM_ok {σ : Nat → Int} {G : Gm} (hG : ∀ i l u, getG G i = some (l, u) → l ≤ σ i ∧ σ i ≤ u) : ∀ {m : Mo} {x : IV}, ivM G m = some x → x.1 ≤ evM σ m ∧ evM σ m ≤ x.2
  | [], x, h => by cases h; exact ⟨Int.le_refl _, Int.le_refl _⟩
  | v :: r, x, h => by
    unfold ivM oMul at h
    split at h
    · rename_i a b h1 h2
      cases h
      have k1 := hG v a.1 a.2 h1
      have k2 := ivM_ok hG h2
      exact ivMul_ok k1.1 k1.2 k2.1 k2.2
    · cases h
theorem ivR_ok {σ : Nat → Int} {G : Gm} (hG : ∀ i l u, getG G i = some (l, u) → l ≤ σ i ∧ σ i ≤ u) : ∀ {r : Rs} {x : IV}, ivR G r = some x → x.1 ≤ evR σ r ∧ evR σ r ≤ x.2
  | [], x, h => by cases h; exact ⟨Int.le_refl _, Int.le_refl _⟩
  | q :: r, x, h => by
    unfold ivR at h
    split at h
    · rename_i a b h1 h2
      cases h
      have k1 := ivM_ok hG h1
      have k2 := ivR_ok hG h2
      have k3 := ivMul_ok (x := (q.2, q.2)) (y := a) (a := q.2) (Int.le_refl _) (Int.le_refl _) k1.1 k1.2
      unfold ivAdd
      simp only [evR]
      omega
    · cases h
theorem findF_ok {σ : Nat → Int} : ∀ {F : Fc} {r : Rs} {x : IV}, (∀ f ∈ F, f.2.1 ≤ evR σ f.1 ∧ evR σ f.1 ≤ f.2.2) → findF F r = some x → x.1 ≤ evR σ r ∧ evR σ r ≤ x.2
  | [], _, _, _, h => by cases h
  | f :: F, r, x, hF, h => by
    have h0 := hF f List.mem_cons_self
    unfold findF at h
    cases h1 : rEq r f.1 with
    | true =>
      rw [h1] at h
      cases h
      rw [rEq_eq h1]
      exact h0
    | false =>
      rw [h1] at h
      cases h2 : rOp r f.1 with
      | true =>
        rw [h2] at h
        cases h
        rw [rOp_ev σ h2]
        simp only
        omega
      | false =>
        rw [h2] at h
        exact findF_ok (fun g hg => hF g (List.mem_cons_of_mem _ hg)) h
theorem ivP_ok {σ : Nat → Int} {C : Cx} (hC : satC σ C) {p : AP} {x : IV} (h : ivP C p = some x) : x.1 ≤ ev σ p ∧ ev σ p ≤ x.2 := by
  unfold ivP at h
  unfold ev
  split at h
  · rename_i h0
    cases h
    rw [h0]
    simp only [evR]
    omega
  · split at h
    · rename_i a b h1 h2
      cases h
      have k1 := ivR_ok hC.1 h1
      have k2 := findF_ok (fun f hf => (hC.2 f hf).2) h2
      have k3 := mx_ok a.1 b.1
      have k4 := mn_ok a.2 b.2
      simp only
      omega
    · rename_i a h1 h2
      cases h
      have k1 := ivR_ok hC.1 h1
      simp only
      omega
    · rename_i b h1 h2
      cases h
      have k2 := findF_ok (fun f hf => (hC.2 f hf).2) h2
      simp only
      omega
    · cases h
def gSat (σ : Nat → Int) (G : Gm) : Prop := ∀ i l u, getG G i = some (l, u) → l ≤ σ i ∧ σ i ≤ u
/-- l ≤ r ≤ u narrows each single number in r -/
def tgt1 (G0 : Gm) (r : Rs) (l u : Int) (G : Gm) (q : Mo × Int) : Gm := match q.1 with
  | [v] => (match ivR G0 (addM q.1 (-q.2) r), getG G v with
    | some x, some y => bif eqZ q.2 1 then setG G v (mx y.1 (l - x.2), mn y.2 (u - x.1)) else bif eqZ q.2 (-1) then setG G v (mx y.1 (x.1 - u), mn y.2 (x.2 - l)) else G
    | _, _ => G)
  | _ => G
def tgt (G0 : Gm) (r : Rs) (l u : Int) (s : Rs) (G : Gm) : Gm := s.foldl (tgt1 G0 r l u) G
theorem gSat_set {σ : Nat → Int} {G : Gm} (hG : gSat σ G) {v : Nat} {a b : Int} (h1 : a ≤ σ v) (h2 : σ v ≤ b) : gSat σ (setG G v (a, b)) := by
  intro i l u hi
  rcases getG_set G v i (a, b) with q | ⟨rfl, q⟩
  · rw [q] at hi; exact hG i l u hi
  · rw [q] at hi; cases hi; exact ⟨h1, h2⟩
theorem tgt1_ok {σ : Nat → Int} {G0 G : Gm} (h0 : gSat σ G0) (hG : gSat σ G) {r : Rs} {l u : Int} (h1 : l ≤ evR σ r) (h2 : evR σ r ≤ u) (q : Mo × Int) : gSat σ (tgt1 G0 r l u G q) ∧ (tgt1 G0 r l u G q).length = G.length := by
  obtain ⟨m, k⟩ := q
  unfold tgt1
  simp only
  split
  · rename_i v
    split
    · rename_i x y hx hy
      have e1 := ivR_ok h0 hx
      rw [evR_addM] at e1
      have e2 : evM σ [v] = σ v := by simp [evM]
      rw [e2] at e1
      have e3 := hG v y.1 y.2 hy
      cases hk : eqZ k 1 with
      | true =>
        have hk := eqZ_iff.mp hk
        subst hk
        have k1 := mx_ok y.1 (l - x.2)
        have k2 := mn_ok y.2 (u - x.1)
        exact ⟨gSat_set hG (by omega) (by omega), setG_len _ _ _⟩
      | false =>
        cases hk2 : eqZ k (-1) with
        | true =>
          have hk := eqZ_iff.mp hk2
          subst hk
          have k1 := mx_ok y.1 (x.1 - u)
          have k2 := mn_ok y.2 (x.2 - l)
          exact ⟨gSat_set hG (by omega) (by omega), setG_len _ _ _⟩
        | false => exact ⟨hG, rfl⟩
    · exact ⟨hG, rfl⟩
  · exact ⟨hG, rfl⟩
theorem tgt_ok {σ : Nat → Int} {G0 : Gm} (h0 : gSat σ G0) {r : Rs} {l u : Int} (h1 : l ≤ evR σ r) (h2 : evR σ r ≤ u) : ∀ (s : Rs) {G : Gm}, gSat σ G → gSat σ (tgt G0 r l u s G) ∧ (tgt G0 r l u s G).length = G.length
  | [], _, hG => ⟨hG, rfl⟩
  | q :: s, G, hG => by
    have k := tgt1_ok h0 hG h1 h2 q
    have k2 := tgt_ok h0 h1 h2 s k.1
    exact ⟨k2.1, k2.2.trans k.2⟩
/-- l ≤ d ≤ u is known -/
def refn (C : Cx) (d : AP) (l u : Int) : Option Cx := bif leZ l u then (match d.2 with
  | [] => some C
  | r => match r with
    | [([v], k)] => bif eqZ k 1 then some (setG C.1 v (l - d.1, u - d.1), C.2) else bif eqZ k (-1) then some (setG C.1 v (d.1 - u, d.1 - l), C.2) else (bif rLt C.1.length r then some (tgt C.1 r (l - d.1) (u - d.1) r C.1, (r, (l - d.1, u - d.1)) :: C.2) else some C)
    | r => bif rLt C.1.length r then some (tgt C.1 r (l - d.1) (u - d.1) r C.1, (r, (l - d.1, u - d.1)) :: C.2) else some C) else none
theorem refn_fact {σ : Nat → Int} {C : Cx} (hC : satC σ C) {d : AP} {l u : Int} (h1 : l ≤ ev σ d) (h2 : ev σ d ≤ u) : ∃ C', (bif rLt C.1.length d.2 then some (tgt C.1 d.2 (l - d.1) (u - d.1) d.2 C.1, (d.2, (l - d.1, u - d.1)) :: C.2) else some C : Option Cx) = some C' ∧ satC σ C' ∧ C'.1.length = C.1.length := by
  cases h : rLt C.1.length d.2 with
  | true =>
    have h1' : l - d.1 ≤ evR σ d.2 := by unfold ev at h1; omega
    have h2' : evR σ d.2 ≤ u - d.1 := by unfold ev at h2; omega
    have kt := tgt_ok (σ := σ) (G0 := C.1) hC.1 h1' h2' d.2 (G := C.1) hC.1
    refine ⟨_, rfl, ⟨kt.1, fun f hf => ?_⟩, kt.2⟩
    show rLt (tgt C.1 d.2 (l - d.1) (u - d.1) d.2 C.1).length f.1 = true ∧ f.2.1 ≤ evR σ f.1 ∧ evR σ f.1 ≤ f.2.2
    rw [kt.2]
    rcases List.mem_cons.mp hf with rfl | hf
    · exact ⟨h, h1', h2'⟩
    · exact hC.2 f hf
  | false => exact ⟨_, rfl, hC, rfl⟩
theorem refn_ok {σ : Nat → Int} {C : Cx} (hC : satC σ C) {d : AP} {l u : Int} (h1 : l ≤ ev σ d) (h2 : ev σ d ≤ u) : ∃ C', refn C d l u = some C' ∧ satC σ C' ∧ C'.1.length = C.1.length := by
  have h3 : leZ l u = true := leZ_iff.mpr (by omega)
  have hf := refn_fact hC h1 h2
  obtain ⟨dc, dr⟩ := d
  unfold refn
  rw [h3]
  simp only [cond_true]
  match dr, hf, h1, h2 with
  | [], _, _, _ => exact ⟨_, rfl, hC, rfl⟩
  | [([], k)], hf, _, _ => exact hf
  | [([v], k)], hf, h1, h2 =>
    have e : ev σ (dc, [([v], k)]) = dc + k * σ v := by simp [ev, evR, evM]
    simp only
    cases hk : eqZ k 1 with
    | true =>
      have hk := eqZ_iff.mp hk
      subst hk
      refine ⟨_, rfl, ⟨fun i a b hi => ?_, fun f hf => ?_⟩, setG_len _ _ _⟩
      · rcases getG_set C.1 v i (l - dc, u - dc) with q | ⟨rfl, q⟩
        · rw [q] at hi; exact hC.1 i a b hi
        · rw [q] at hi; cases hi; rw [e] at h1 h2; omega
      · rw [setG_len]; exact hC.2 f hf
    | false =>
      cases hk : eqZ k (-1) with
      | true =>
        have hk := eqZ_iff.mp hk
        subst hk
        refine ⟨_, rfl, ⟨fun i a b hi => ?_, fun f hf => ?_⟩, setG_len _ _ _⟩
        · rcases getG_set C.1 v i (dc - u, dc - l) with q | ⟨rfl, q⟩
          · rw [q] at hi; exact hC.1 i a b hi
          · rw [q] at hi; cases hi; rw [e] at h1 h2; omega
        · rw [setG_len]; exact hC.2 f hf
      | false => exact hf
  | [(a :: b :: m, k)], hf, _, _ => exact hf
  | ([], k) :: q' :: r, hf, _, _ => exact hf
  | ([v], k) :: q' :: r, hf, _, _ => exact hf
  | (a :: b :: m, k) :: q' :: r, hf, _, _ => exact hf
def cons1 (o : Option Cx) (b : Bool) (L : List (Cx × Bool)) : List (Cx × Bool) := match o with
  | some C => (C, b) :: L
  | none => L
theorem cons1_l {C C' : Cx} {o : Option Cx} {b : Bool} {L : List (Cx × Bool)} (h : o = some C) : (C, b) ∈ cons1 o b L := by
  rw [h]; exact List.mem_cons_self
theorem cons1_r {o : Option Cx} {b : Bool} {L : List (Cx × Bool)} {q : Cx × Bool} (h : q ∈ L) : q ∈ cons1 o b L := by
  cases o with
  | none => exact h
  | some C => exact List.mem_cons_of_mem _ h
/-- is d below 0? -/
def brLt (C : Cx) (d : AP) : List (Cx × Bool) := match ivP C d with
  | some q => bif leZ q.2 (-1) then [(C, true)] else bif leZ 0 q.1 then [(C, false)] else cons1 (refn C d q.1 (-1)) true (cons1 (refn C d 0 q.2) false [])
  | none => [(C, true), (C, false)]
/-- is d 0? -/
def brEq (C : Cx) (d : AP) : List (Cx × Bool) := match ivP C d with
  | some q => bif leZ q.2 (-1) || leZ 1 q.1 then [(C, false)] else bif isZ q.1 && isZ q.2 then [(C, true)] else cons1 (refn C d 0 0) true (cons1 (refn C d q.1 (-1)) false (cons1 (refn C d 1 q.2) false []))
  | none => [(C, true), (C, false)]
theorem brLt_ok {σ : Nat → Int} {C : Cx} (hC : satC σ C) (d : AP) : ∃ q ∈ brLt C d, satC σ q.1 ∧ q.1.1.length = C.1.length ∧ q.2 = decide (ev σ d < 0) := by
  unfold brLt
  split
  · rename_i q hq
    have k := ivP_ok hC hq
    cases h1 : leZ q.2 (-1) with
    | true =>
      have h1 := leZ_iff.mp h1
      exact ⟨_, List.mem_cons_self, hC, rfl, by simp only; rw [decide_eq_true (by omega)]⟩
    | false =>
      cases h2 : leZ 0 q.1 with
      | true =>
        have h2 := leZ_iff.mp h2
        exact ⟨_, List.mem_cons_self, hC, rfl, by simp only; rw [decide_eq_false (by omega)]⟩
      | false =>
        simp only [cond_false]
        by_cases hd : ev σ d < 0
        · obtain ⟨C', e, s, n⟩ := refn_ok hC (d := d) (l := q.1) (u := -1) k.1 (by omega)
          exact ⟨(C', true), cons1_l (C' := C') e, s, n, (decide_eq_true hd).symm⟩
        · obtain ⟨C', e, s, n⟩ := refn_ok hC (d := d) (l := 0) (u := q.2) (by omega) k.2
          exact ⟨(C', false), cons1_r (cons1_l (C' := C') e), s, n, (decide_eq_false hd).symm⟩
  · by_cases hd : ev σ d < 0
    · exact ⟨(C, true), List.mem_cons_self, hC, rfl, (decide_eq_true hd).symm⟩
    · exact ⟨(C, false), List.mem_cons_of_mem _ List.mem_cons_self, hC, rfl, (decide_eq_false hd).symm⟩
theorem brEq_ok {σ : Nat → Int} {C : Cx} (hC : satC σ C) (d : AP) : ∃ q ∈ brEq C d, satC σ q.1 ∧ q.1.1.length = C.1.length ∧ q.2 = decide (ev σ d = 0) := by
  unfold brEq
  split
  · rename_i q hq
    have k := ivP_ok hC hq
    cases h1 : leZ q.2 (-1) || leZ 1 q.1 with
    | true =>
      have h1 : ev σ d ≠ 0 := by
        rcases Bool.or_eq_true_iff.mp h1 with h | h
        · have := leZ_iff.mp h; omega
        · have := leZ_iff.mp h; omega
      exact ⟨_, List.mem_cons_self, hC, rfl, by simp only; rw [decide_eq_false h1]⟩
    | false =>
      cases h2 : isZ q.1 && isZ q.2 with
      | true =>
        have h2 := Bool.and_eq_true_iff.mp h2
        have a := isZ_iff.mp h2.1
        have b := isZ_iff.mp h2.2
        exact ⟨_, List.mem_cons_self, hC, rfl, by simp only; rw [decide_eq_true (by omega)]⟩
      | false =>
        simp only [cond_false]
        by_cases hd : ev σ d = 0
        · obtain ⟨C', e, s, n⟩ := refn_ok hC (d := d) (l := 0) (u := 0) (by omega) (by omega)
          exact ⟨(C', true), cons1_l (C' := C') e, s, n, (decide_eq_true hd).symm⟩
        · by_cases hd2 : ev σ d < 0
          · obtain ⟨C', e, s, n⟩ := refn_ok hC (d := d) (l := q.1) (u := -1) k.1 (by omega)
            exact ⟨(C', false), cons1_r (cons1_l (C' := C') e), s, n, (decide_eq_false hd).symm⟩
          · obtain ⟨C', e, s, n⟩ := refn_ok hC (d := d) (l := 1) (u := q.2) (by omega) k.2
            exact ⟨(C', false), cons1_r (cons1_r (cons1_l (C' := C') e)), s, n, (decide_eq_false hd).symm⟩
  · by_cases hd : ev σ d = 0
    · exact ⟨(C, true), List.mem_cons_self, hC, rfl, (decide_eq_true hd).symm⟩
    · exact ⟨(C, false), List.mem_cons_of_mem _ List.mem_cons_self, hC, rfl, (decide_eq_false hd).symm⟩
def i32 (q : IV) : Bool := leZ (-2147483648) q.1 && leZ q.2 2147483647
def i64 (q : IV) : Bool := leZ (-9223372036854775808) q.1 && leZ q.2 9223372036854775807
def nrm (C : Cx) (x : AP) : Option AP := match ivP C x with
  | some q => bif i32 q then some x else (match x.2 with
    | [] => some (apC (w32 x.1))
    | _ => none)
  | none => none
def nrm64 (C : Cx) (x : AP) : Option AP := match ivP C x with
  | some q => bif i64 q then some x else (match x.2 with
    | [] => some (apC (w64 x.1))
    | _ => none)
  | none => none
theorem w64_small {x : Int} (h0 : -9223372036854775808 ≤ x) (h1 : x ≤ 9223372036854775807) : w64 x = x := Int64.toInt_ofInt_of_le (by omega) (by omega)
theorem nrm_ok {σ : Nat → Int} {C : Cx} (hC : satC σ C) {x y : AP} (h : nrm C x = some y) : w32 (ev σ x) = ev σ y := by
  unfold nrm at h
  split at h
  · rename_i q hq
    have k := ivP_ok hC hq
    cases h1 : i32 q with
    | true =>
      rw [h1] at h
      cases h
      unfold i32 at h1
      have h2 := Bool.and_eq_true_iff.mp h1
      have a := leZ_iff.mp h2.1
      have b := leZ_iff.mp h2.2
      exact e_small (by omega) (by omega)
    | false =>
      rw [h1] at h
      simp only [cond_false] at h
      split at h
      · rename_i h0
        cases h
        rw [ev_C]
        unfold ev
        rw [h0]
        simp [evR]
      · cases h
  · cases h
theorem nrm64_ok {σ : Nat → Int} {C : Cx} (hC : satC σ C) {x y : AP} (h : nrm64 C x = some y) : w64 (ev σ x) = ev σ y := by
  unfold nrm64 at h
  split at h
  · rename_i q hq
    have k := ivP_ok hC hq
    cases h1 : i64 q with
    | true =>
      rw [h1] at h
      cases h
      unfold i64 at h1
      have h2 := Bool.and_eq_true_iff.mp h1
      have a := leZ_iff.mp h2.1
      have b := leZ_iff.mp h2.2
      exact w64_small (by omega) (by omega)
    | false =>
      rw [h1] at h
      simp only [cond_false] at h
      split at h
      · rename_i h0
        cases h
        rw [ev_C]
        unfold ev
        rw [h0]
        simp [evR]
      · cases h
  · cases h
def flipB (L : List (Cx × Bool)) : List (Cx × Bool) := L.map (fun q => (q.1, !q.2))
def brC (c : ClassFile.Cond) (C : Cx) (x y : AP) : List (Cx × Bool) := match nrm C x, nrm C y with
  | some x, some y => (match c with
    | .eq => brEq C (apSub x y)
    | .ne => flipB (brEq C (apSub x y))
    | .lt => brLt C (apSub x y)
    | .ge => flipB (brLt C (apSub x y))
    | .gt => brLt C (apSub y x)
    | .le => flipB (brLt C (apSub y x)))
  | _, _ => [(C, true), (C, false)]
theorem flipB_ok {σ : Nat → Int} {n : Nat} {L : List (Cx × Bool)} {b : Bool} (h : ∃ q ∈ L, satC σ q.1 ∧ q.1.1.length = n ∧ q.2 = b) : ∃ q ∈ flipB L, satC σ q.1 ∧ q.1.1.length = n ∧ q.2 = !b := by
  obtain ⟨q, h1, h2, h3, h4⟩ := h
  exact ⟨(q.1, !q.2), List.mem_map.mpr ⟨q, h1, rfl⟩, h2, h3, by rw [h4]⟩
theorem brC_ok {σ : Nat → Int} {C : Cx} (hC : satC σ C) (c : ClassFile.Cond) (x y : AP) : ∃ q ∈ brC c C x y, satC σ q.1 ∧ q.1.1.length = C.1.length ∧ q.2 = ccmp c (ev σ x) (ev σ y) := by
  unfold brC
  split
  · rename_i x' y' hx hy
    have e1 := nrm_ok hC hx
    have e2 := nrm_ok hC hy
    have s1 := ev_sub σ x' y'
    have s2 := ev_sub σ y' x'
    have d1 : decide (ev σ (apSub x' y') = 0) = decide (w32 (ev σ x) = w32 (ev σ y)) := decide_eq_decide.mpr (by rw [e1, e2, s1]; omega)
    have d2 : decide (ev σ (apSub x' y') < 0) = decide (w32 (ev σ x) < w32 (ev σ y)) := decide_eq_decide.mpr (by rw [e1, e2, s1]; omega)
    have d3 : decide (ev σ (apSub y' x') < 0) = decide (w32 (ev σ y) < w32 (ev σ x)) := decide_eq_decide.mpr (by rw [e1, e2, s2]; omega)
    cases c with
    | eq => simp only [ccmp]; rw [← d1]; exact brEq_ok hC _
    | ne => simp only [ccmp]; rw [← d1]; exact flipB_ok (brEq_ok hC _)
    | lt => simp only [ccmp]; rw [← d2]; exact brLt_ok hC _
    | ge => simp only [ccmp]; rw [← d2]; exact flipB_ok (brLt_ok hC _)
    | gt => simp only [ccmp]; rw [← d3]; exact brLt_ok hC _
    | le => simp only [ccmp]; rw [← d3]; exact flipB_ok (brLt_ok hC _)
  · cases h : ccmp c (ev σ x) (ev σ y) with
    | true => exact ⟨(C, true), List.mem_cons_self, hC, rfl, rfl⟩
    | false => exact ⟨(C, false), List.mem_cons_of_mem _ List.mem_cons_self, hC, rfl, rfl⟩
/-- of longs: -1, 0, 1 -/
def brL (C : Cx) (x y : AP) : List (Cx × Int) := match nrm64 C x, nrm64 C y with
  | some x, some y => (brLt C (apSub x y)).flatMap (fun q => bif q.2 then [(q.1, -1)] else (brEq q.1 (apSub x y)).map (fun r => (r.1, bif r.2 then 0 else 1)))
  | _, _ => [(C, 1), (C, 0), (C, -1)]
theorem brL_ok {σ : Nat → Int} {C : Cx} (hC : satC σ C) (x y : AP) : ∃ q ∈ brL C x y, satC σ q.1 ∧ q.1.1.length = C.1.length ∧ q.2 = cmpL (ev σ x) (ev σ y) := by
  unfold brL
  split
  · rename_i x' y' hx hy
    have e1 := nrm64_ok hC hx
    have e2 := nrm64_ok hC hy
    have s1 := ev_sub σ x' y'
    obtain ⟨q, h1, h2, h3, h4⟩ := brLt_ok hC (apSub x' y')
    unfold cmpL
    rw [e1, e2]
    by_cases hd : ev σ (apSub x' y') < 0
    · rw [decide_eq_true hd] at h4
      refine ⟨(q.1, -1), List.mem_flatMap.mpr ⟨q, h1, ?_⟩, h2, h3, ?_⟩
      · rw [h4]; exact List.mem_cons_self
      · simp only
        rw [if_neg (by omega), if_neg (by omega)]
    · rw [decide_eq_false hd] at h4
      obtain ⟨r, k1, k2, k3, k4⟩ := brEq_ok h2 (apSub x' y')
      refine ⟨(r.1, bif r.2 then 0 else 1), List.mem_flatMap.mpr ⟨q, h1, ?_⟩, k2, k3.trans h3, ?_⟩
      · rw [h4]; exact List.mem_map.mpr ⟨r, k1, rfl⟩
      · simp only
        by_cases hz : ev σ (apSub x' y') = 0
        · rw [k4, decide_eq_true hz, if_neg (by omega), if_pos (by omega)]
          rfl
        · rw [k4, decide_eq_false hz, if_pos (by omega)]
          rfl
  · unfold cmpL
    by_cases h1 : w64 (ev σ y) < w64 (ev σ x)
    · exact ⟨(C, 1), List.mem_cons_self, hC, rfl, by rw [if_pos h1]⟩
    · by_cases h2 : w64 (ev σ x) = w64 (ev σ y)
      · exact ⟨(C, 0), List.mem_cons_of_mem _ List.mem_cons_self, hC, rfl, by rw [if_neg h1, if_pos h2]⟩
      · exact ⟨(C, -1), List.mem_cons_of_mem _ (List.mem_cons_of_mem _ List.mem_cons_self), hC, rfl, by rw [if_neg h1, if_neg h2]⟩
