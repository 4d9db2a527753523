/-! ===== ABSTRACT INSTRUCTIONS, AND THAT EACH IS TRUE OF THE PLAIN ONE ===== -/
def Hy (P : RGt) (z : Int → Int) (Z : ZP) (σ : Nat → Int) (C : Cx) (ls : List AL) (st : List AV) (ov : OV) (l : PL) (s : List PV) (h : PH) (g : PG) : Prop := qLs σ (nV C) ls l ∧ qSs σ (nV C) st s ∧ qH P z Z σ C ov h g
def GO (P : RGt) (z : Int → Int) (Z : ZP) (n : Nat) (σ : Nat → Int) (L : List AS) (r : Option SR) : Prop := ∃ B ∈ L, ∃ σ' c', AG n σ σ' ∧ n ≤ nV B.1 ∧ qA P z Z σ' B c' ∧ r = some (.inl c')
theorem go1 {P : RGt} {z : Int → Int} {Z : ZP} {n : Nat} {σ σ' : Nat → Int} {B : AS} {c' : Cfg} {r : Option SR} (h1 : qA P z Z σ' B c') (h2 : AG n σ σ') (h3 : n ≤ nV B.1) (h4 : r = some (.inl c')) : GO P z Z n σ [B] r := ⟨B, List.mem_cons_self, σ', c', h2, h3, h1, h4⟩
theorem Hy.ctx {P : RGt} {z : Int → Int} {Z : ZP} {σ : Nat → Int} {C C' : Cx} {ls : List AL} {st : List AV} {ov : OV} {l : PL} {s : List PV} {h : PH} {g : PG} (H : Hy P z Z σ C ls st ov l s h g) (hs : satC σ C') (hn : C'.1.length = C.1.length) : Hy P z Z σ C' ls st ov l s h g := by
  have e : nV C' = nV C := hn
  refine ⟨?_, ?_, H.2.2.ctx hs hn⟩
  · rw [e]; exact H.1
  · rw [e]; exact H.2.1
theorem Hy.ext {P : RGt} {z : Int → Int} {Z : ZP} {σ σ' : Nat → Int} {C C' : Cx} {ls : List AL} {st : List AV} {ov : OV} {l : PL} {s : List PV} {h : PH} {g : PG} (H : Hy P z Z σ C ls st ov l s h g) (hs : satC σ' C') (hn : nV C ≤ nV C') (ha : AG (nV C) σ σ') : Hy P z Z σ' C' ls st ov l s h g :=
  ⟨H.1.up hn ha, H.2.1.up hn ha, H.2.2.ext hs hn ha⟩
section OPS
variable {P : RGt} {z : Int → Int} {Z : ZP} {σ : Nat → Int} {C : Cx} {pc : Nat} {ls : List AL} {st : List AV} {ov : OV} {l : PL} {s : List PV} {h : PH} {g : PG} {L : List AS}
def oPush (len : Nat) (a : AV) (C : Cx) (pc : Nat) (ls : List AL) (st : List AV) (ov : OV) : Option (List AS) := some [(C, pc + len, ls, a :: st, ov)]
theorem oPush_ok {len : Nat} {a : AV} {v : PV} (H : Hy P z Z σ C ls st ov l s h g) (hv : qV σ (nV C) a v) (e : oPush len a C pc ls st ov = some L) : GO P z Z (nV C) σ L (nx (pc + len) l (v :: s) h g) := by
  cases e
  exact go1 (σ' := σ) (c' := (pc + len, l, v :: s, h, g)) ⟨rfl, H.1, ⟨hv, H.2.1⟩, H.2.2⟩ AG.rf (Nat.le_refl _) rfl
def oLd (i len k : Nat) (C : Cx) (pc : Nat) (ls : List AL) (st : List AV) (ov : OV) : Option (List AS) := match aGet ls i with
  | some a => bif Nat.beq (kindA a) k then some [(C, pc + len, ls, a :: st, ov)] else none
  | none => none
theorem oLd_ok {i len k : Nat} (H : Hy P z Z σ C ls st ov l s h g) (e : oLd i len k C pc ls st ov = some L) : GO P z Z (nV C) σ L (ldv i len pc k l s h g) := by
  unfold oLd at e
  split at e
  · rename_i a ha
    cases hk : Nat.beq (kindA a) k with
    | false => rw [hk] at e; cases e
    | true =>
      rw [hk] at e
      cases e
      have hk := Nat.eq_of_beq_eq_true hk
      obtain ⟨v, hv, hq⟩ := aGet_ok H.1 ha
      subst hk
      refine go1 (σ' := σ) (c' := (pc + len, l, v :: s, h, g)) ⟨rfl, H.1, ⟨hq, H.2.1⟩, H.2.2⟩ AG.rf (Nat.le_refl _) ?_
      unfold ldv
      rw [hv]
      match a, v, hq with
      | .inl _, .inl _, _ => rfl
      | .inr (.inl _), .inr (.inl _), _ => rfl
      | .inr (.inr _), .inr (.inr _), _ => rfl
      | .inl _, .inr _, hq => exact hq.elim
      | .inr (.inl _), .inl _, hq => exact hq.elim
      | .inr (.inl _), .inr (.inr _), hq => exact hq.elim
      | .inr (.inr _), .inl _, hq => exact hq.elim
      | .inr (.inr _), .inr (.inl _), hq => exact hq.elim
  · cases e
def oS1 (i len : Nat) (a : AV) (C : Cx) (pc : Nat) (ls : List AL) (st : List AV) (ov : OV) : Option (List AS) := bif Nat.blt i ls.length && lfA ls i then some [(C, pc + len, ls.set i (.inr a), st, ov)] else none
theorem oS1_ok {i len : Nat} {a : AV} {v : PV} (H : Hy P z Z σ C ls st ov l s h g) (hv : qV σ (nV C) a v) (e : oS1 i len a C pc ls st ov = some L) : GO P z Z (nV C) σ L (st1 i len pc v l s h g) := by
  unfold oS1 at e
  cases hk : Nat.blt i ls.length && lfA ls i with
  | false => rw [hk] at e; cases e
  | true =>
    rw [hk] at e
    cases e
    have hk := Bool.and_eq_true_iff.mp hk
    have h1 : i + 1 ≤ ls.length := Nat.le_of_ble_eq_true hk.1
    have h2 := lfA_ok H.1 hk.2
    have h3 := qLs_len H.1
    refine go1 (σ' := σ) (c' := (pc + len, l.set i (some v), s, h, g)) ⟨rfl, qLs_set (a := .inr a) (o := some v) ⟨v, rfl, hv⟩ i H.1, H.2.1, H.2.2⟩ AG.rf (Nat.le_refl _) ?_
    unfold st1
    rw [if_pos ⟨by omega, h2⟩]
    rfl
def oS2 (i len : Nat) (a : AV) (C : Cx) (pc : Nat) (ls : List AL) (st : List AV) (ov : OV) : Option (List AS) := bif Nat.blt (i + 1) ls.length && lfA ls i then some [(C, pc + len, (ls.set i (.inr a)).set (i + 1) (.inl true), st, ov)] else none
theorem oS2_ok {i len : Nat} {a : AV} {v : PV} (H : Hy P z Z σ C ls st ov l s h g) (hv : qV σ (nV C) a v) (e : oS2 i len a C pc ls st ov = some L) : GO P z Z (nV C) σ L (st2 i len pc v l s h g) := by
  unfold oS2 at e
  cases hk : Nat.blt (i + 1) ls.length && lfA ls i with
  | false => rw [hk] at e; cases e
  | true =>
    rw [hk] at e
    cases e
    have hk := Bool.and_eq_true_iff.mp hk
    have h1 : i + 1 + 1 ≤ ls.length := Nat.le_of_ble_eq_true hk.1
    have h2 := lfA_ok H.1 hk.2
    have h3 := qLs_len H.1
    refine go1 (σ' := σ) (c' := (pc + len, (l.set i (some v)).set (i + 1) none, s, h, g)) ⟨rfl, qLs_set (a := .inl true) (fun _ v hv => by cases hv) (i + 1) (qLs_set (a := .inr a) (o := some v) ⟨v, rfl, hv⟩ i H.1), H.2.1, H.2.2⟩ AG.rf (Nat.le_refl _) ?_
    unfold st2
    rw [if_pos ⟨by omega, h2⟩]
    rfl
def oSt (i len k : Nat) (C : Cx) (pc : Nat) (ls : List AL) (st : List AV) (ov : OV) : Option (List AS) := match st with
  | .inl p :: st => bif Nat.beq k 0 then oS1 i len (.inl p) C pc ls st ov else none
  | .inr (.inl p) :: st => bif Nat.beq k 1 then oS2 i len (.inr (.inl p)) C pc ls st ov else none
  | .inr (.inr p) :: st => bif Nat.beq k 2 then oS1 i len (.inr (.inr p)) C pc ls st ov else none
  | [] => none
theorem qSs_i {n : Nat} {p : AP} {r : List AV} {s : List PV} (h : qSs σ n (.inl p :: r) s) : ∃ x s', s = .inl x :: s' ∧ okP σ n p x ∧ qSs σ n r s' := match s, h with
  | .inl x :: s', h => ⟨x, s', rfl, h.1, h.2⟩
  | .inr _ :: _, h => h.1.elim
  | [], h => h.elim
theorem qSs_l {n : Nat} {p : AP} {r : List AV} {s : List PV} (h : qSs σ n (.inr (.inl p) :: r) s) : ∃ x s', s = .inr (.inl x) :: s' ∧ okP σ n p x ∧ qSs σ n r s' := match s, h with
  | .inr (.inl x) :: s', h => ⟨x, s', rfl, h.1, h.2⟩
  | .inl _ :: _, h => h.1.elim
  | .inr (.inr _) :: _, h => h.1.elim
  | [], h => h.elim
theorem qSs_r {n : Nat} {p : AP} {r : List AV} {s : List PV} (h : qSs σ n (.inr (.inr p) :: r) s) : ∃ x s', s = .inr (.inr x) :: s' ∧ okP σ n p x ∧ qSs σ n r s' := match s, h with
  | .inr (.inr x) :: s', h => ⟨x, s', rfl, h.1, h.2⟩
  | .inl _ :: _, h => h.1.elim
  | .inr (.inl _) :: _, h => h.1.elim
  | [], h => h.elim
theorem qSs_c {n : Nat} {a : AV} {r : List AV} {s : List PV} (h : qSs σ n (a :: r) s) : ∃ v s', s = v :: s' ∧ qV σ n a v ∧ qSs σ n r s' := match s, h with
  | v :: s', h => ⟨v, s', rfl, h.1, h.2⟩
  | [], h => h.elim
theorem qSs_n {n : Nat} {s : List PV} (h : qSs σ n [] s) : s = [] := match s, h with
  | [], _ => rfl
  | _ :: _, h => h.elim
theorem oSt_ok {i len k : Nat} (H : Hy P z Z σ C ls st ov l s h g) (e : oSt i len k C pc ls st ov = some L) : GO P z Z (nV C) σ L (stv i len pc k l s h g) := by
  unfold oSt at e
  split at e
  · rename_i p st
    obtain ⟨x, s', rfl, h1, h2⟩ := qSs_i H.2.1
    cases hk : Nat.beq k 0 with
    | false => rw [hk] at e; cases e
    | true =>
      rw [hk] at e
      have hk := Nat.eq_of_beq_eq_true hk
      subst hk
      exact oS1_ok (a := .inl p) (v := .inl x) ⟨H.1, h2, H.2.2⟩ h1 e
  · rename_i p st
    obtain ⟨x, s', rfl, h1, h2⟩ := qSs_l H.2.1
    cases hk : Nat.beq k 1 with
    | false => rw [hk] at e; cases e
    | true =>
      rw [hk] at e
      have hk := Nat.eq_of_beq_eq_true hk
      subst hk
      exact oS2_ok (a := .inr (.inl p)) (v := .inr (.inl x)) ⟨H.1, h2, H.2.2⟩ h1 e
  · rename_i p st
    obtain ⟨x, s', rfl, h1, h2⟩ := qSs_r H.2.1
    cases hk : Nat.beq k 2 with
    | false => rw [hk] at e; cases e
    | true =>
      rw [hk] at e
      have hk := Nat.eq_of_beq_eq_true hk
      subst hk
      exact oS1_ok (a := .inr (.inr p)) (v := .inr (.inr x)) ⟨H.1, h2, H.2.2⟩ h1 e
  · cases e
def oInc (i : Nat) (c : Int) (C : Cx) (pc : Nat) (ls : List AL) (st : List AV) (ov : OV) : Option (List AS) := match aGet ls i with
  | some (.inl p) => oS1 i 3 (.inl (apAdd p (apC c))) C pc ls st ov
  | _ => none
theorem oInc_ok {i : Nat} {c : Int} (H : Hy P z Z σ C ls st ov l s h g) (e : oInc i c C pc ls st ov = some L) : GO P z Z (nV C) σ L (iinc i c pc l s h g) := by
  unfold oInc at e
  split at e
  · rename_i p hp
    obtain ⟨v, hv, hq⟩ := aGet_ok H.1 hp
    match v, hq with
    | .inl x, hq =>
      unfold iinc
      rw [hv]
      exact oS1_ok (a := .inl (apAdd p (apC c))) (v := .inl (x + c)) H (okP.add hq (okP_C σ _ c)) e
    | .inr _, hq => exact hq.elim
  · cases e
/-! arithmetic -/
abbrev F2 : Type := Cx → AP → AP → Option (Cx × AP)
def fOK (F : F2) (f : Int → Int → Int) (D : Int → Prop) : Prop := ∀ (σ : Nat → Int) (C : Cx) (x y : AP) (X Y : Int) (r : Cx × AP), satC σ C → okP σ (nV C) x X → okP σ (nV C) y Y → F C x y = some r →
  D Y ∧ ∃ σ', AG (nV C) σ σ' ∧ nV C ≤ nV r.1 ∧ satC σ' r.1 ∧ okP σ' (nV r.1) r.2 (f X Y)
def oBI (F : F2) (C : Cx) (pc : Nat) (ls : List AL) (st : List AV) (ov : OV) : Option (List AS) := match st with
  | .inl y :: .inl x :: st => (match F C x y with
    | some r => some [(r.1, pc + 1, ls, .inl r.2 :: st, ov)]
    | none => none)
  | _ => none
def oBL (F : F2) (C : Cx) (pc : Nat) (ls : List AL) (st : List AV) (ov : OV) : Option (List AS) := match st with
  | .inr (.inl y) :: .inr (.inl x) :: st => (match F C x y with
    | some r => some [(r.1, pc + 1, ls, .inr (.inl r.2) :: st, ov)]
    | none => none)
  | _ => none
theorem oBI_ok {F : F2} {f : Int → Int → Int} {D : Int → Prop} (hF : fOK F f D) (H : Hy P z Z σ C ls st ov l s h g) (e : oBI F C pc ls st ov = some L) :
    ∃ y x s', s = .inl y :: .inl x :: s' ∧ D y ∧ GO P z Z (nV C) σ L (nx (pc + 1) l (.inl (f x y) :: s') h g) := by
  unfold oBI at e
  split at e
  · rename_i y x st
    obtain ⟨Y, s1, rfl, h1, h2⟩ := qSs_i H.2.1
    obtain ⟨X, s2, rfl, h3, h4⟩ := qSs_i h2
    split at e
    · rename_i r hr
      cases e
      obtain ⟨hD, σ', a1, a2, a3, a4⟩ := hF σ C x y X Y r H.2.2.1 h3 h1 hr
      refine ⟨Y, X, s2, rfl, hD, go1 (σ' := σ') (c' := (pc + 1, l, .inl (f X Y) :: s2, h, g)) ⟨rfl, H.1.up a2 a1, ⟨a4, h4.up a2 a1⟩, H.2.2.ext a3 a2 a1⟩ a1 a2 rfl⟩
    · cases e
  · cases e
theorem oBL_ok {F : F2} {f : Int → Int → Int} {D : Int → Prop} (hF : fOK F f D) (H : Hy P z Z σ C ls st ov l s h g) (e : oBL F C pc ls st ov = some L) :
    ∃ y x s', s = .inr (.inl y) :: .inr (.inl x) :: s' ∧ D y ∧ GO P z Z (nV C) σ L (nx (pc + 1) l (.inr (.inl (f x y)) :: s') h g) := by
  unfold oBL at e
  split at e
  · rename_i y x st
    obtain ⟨Y, s1, rfl, h1, h2⟩ := qSs_l H.2.1
    obtain ⟨X, s2, rfl, h3, h4⟩ := qSs_l h2
    split at e
    · rename_i r hr
      cases e
      obtain ⟨hD, σ', a1, a2, a3, a4⟩ := hF σ C x y X Y r H.2.2.1 h3 h1 hr
      refine ⟨Y, X, s2, rfl, hD, go1 (σ' := σ') (c' := (pc + 1, l, .inr (.inl (f X Y)) :: s2, h, g)) ⟨rfl, H.1.up a2 a1, ⟨a4, h4.up a2 a1⟩, H.2.2.ext a3 a2 a1⟩ a1 a2 rfl⟩
    · cases e
  · cases e
theorem bI_ok {F : F2} {f : Int → Int → Int} (hF : fOK F f (fun _ => True)) (H : Hy P z Z σ C ls st ov l s h g) (e : oBI F C pc ls st ov = some L) : GO P z Z (nV C) σ L (bI f pc l s h g) := by
  obtain ⟨y, x, s', rfl, -, k⟩ := oBI_ok hF H e
  exact k
theorem bL_ok {F : F2} {f : Int → Int → Int} (hF : fOK F f (fun _ => True)) (H : Hy P z Z σ C ls st ov l s h g) (e : oBL F C pc ls st ov = some L) : GO P z Z (nV C) σ L (bL f pc l s h g) := by
  obtain ⟨y, x, s', rfl, -, k⟩ := oBL_ok hF H e
  exact k
theorem qI_ok {F : F2} {f : Int → Int → Int} (hF : fOK F f (fun y => w32 y ≠ 0)) (H : Hy P z Z σ C ls st ov l s h g) (e : oBI F C pc ls st ov = some L) : GO P z Z (nV C) σ L (qI f pc l s h g) := by
  obtain ⟨y, x, s', rfl, hD, k⟩ := oBI_ok hF H e
  unfold qI
  simp only
  rw [if_neg hD]
  exact k
theorem qL_ok {F : F2} {f : Int → Int → Int} (hF : fOK F f (fun y => w64 y ≠ 0)) (H : Hy P z Z σ C ls st ov l s h g) (e : oBL F C pc ls st ov = some L) : GO P z Z (nV C) σ L (qL f pc l s h g) := by
  obtain ⟨y, x, s', rfl, hD, k⟩ := oBL_ok hF H e
  unfold qL
  simp only
  rw [if_neg hD]
  exact k
def oUI (F : F2) (C : Cx) (pc : Nat) (ls : List AL) (st : List AV) (ov : OV) : Option (List AS) := match st with
  | .inl x :: st => (match F C x x with
    | some r => some [(r.1, pc + 1, ls, .inl r.2 :: st, ov)]
    | none => none)
  | _ => none
theorem uI_ok {F : F2} {f : Int → Int} (hF : fOK F (fun x _ => f x) (fun _ => True)) (H : Hy P z Z σ C ls st ov l s h g) (e : oUI F C pc ls st ov = some L) : GO P z Z (nV C) σ L (uI f pc l s h g) := by
  unfold oUI at e
  split at e
  · rename_i x st
    obtain ⟨X, s1, rfl, h1, h2⟩ := qSs_i H.2.1
    split at e
    · rename_i r hr
      cases e
      obtain ⟨-, σ', a1, a2, a3, a4⟩ := hF σ C x x X X r H.2.2.1 h1 h1 hr
      exact go1 (σ' := σ') (c' := (pc + 1, l, .inl (f X) :: s1, h, g)) ⟨rfl, H.1.up a2 a1, ⟨a4, h2.up a2 a1⟩, H.2.2.ext a3 a2 a1⟩ a1 a2 rfl
    · cases e
  · cases e
def aAdd : F2 := fun C x y => some (C, apAdd x y)
def aSub : F2 := fun C x y => some (C, apSub x y)
def aMul : F2 := fun C x y => some (C, apMul x y)
def aNeg : F2 := fun C x _ => some (C, apNeg x)
theorem aAdd_ok : fOK aAdd (· + ·) (fun _ => True) := fun σ C x y X Y r hC hx hy e => by cases e; exact ⟨trivial, σ, AG.rf, Nat.le_refl _, hC, hx.add hy⟩
theorem aSub_ok : fOK aSub (· - ·) (fun _ => True) := fun σ C x y X Y r hC hx hy e => by cases e; exact ⟨trivial, σ, AG.rf, Nat.le_refl _, hC, hx.sub hy⟩
theorem aMul_ok : fOK aMul (· * ·) (fun _ => True) := fun σ C x y X Y r hC hx hy e => by cases e; exact ⟨trivial, σ, AG.rf, Nat.le_refl _, hC, hx.mul hy⟩
theorem aNeg_ok : fOK aNeg (fun x _ => - x) (fun _ => True) := fun σ C x y X Y r hC hx hy e => by cases e; exact ⟨trivial, σ, AG.rf, Nat.le_refl _, hC, hx.neg⟩
/-- a number that is known -/
def cst (C : Cx) (p : AP) : Option Int := match p.2 with
  | [] => some p.1
  | _ => match ivP C p with
    | some q => bif eqZ q.1 q.2 then some q.1 else none
    | none => none
theorem cst_ok {σ : Nat → Int} {C : Cx} (hC : satC σ C) {p : AP} {c : Int} (h : cst C p = some c) : ev σ p = c := by
  unfold cst at h
  split at h
  · rename_i h0
    cases h
    unfold ev
    rw [h0]
    simp [evR]
  · split at h
    · rename_i q hq
      have k := ivP_ok hC hq
      cases he : eqZ q.1 q.2 with
      | false => rw [he] at h; cases h
      | true =>
        rw [he] at h
        cases h
        have := eqZ_iff.mp he
        omega
    · cases h
def rng32 : Option IV := some (-2147483648, 2147483647)
def rng64 : Option IV := some (-9223372036854775808, 9223372036854775807)
/-- an operation whose numbers are both known, or else any number of a range -/
def aGen (f : Int → Int → Int) (q : Option IV) : F2 := fun C x y => match cst C x, cst C y with
  | some a, some b => some (C, apC (f a b))
  | _, _ => some (fresh C q)
theorem aGen_ok {f : Int → Int → Int} {q : Option IV} (hq : ∀ x y i, q = some i → i.1 ≤ f x y ∧ f x y ≤ i.2) : fOK (aGen f q) f (fun _ => True) := by
  intro σ C x y X Y r hC hx hy e
  refine ⟨trivial, ?_⟩
  unfold aGen at e
  split at e
  · rename_i a b ha hb
    cases e
    refine ⟨σ, AG.rf, Nat.le_refl _, hC, ?_⟩
    have e1 := hx.2.symm.trans (cst_ok hC ha)
    have e2 := hy.2.symm.trans (cst_ok hC hb)
    rw [e1, e2]
    exact okP_C _ _ _
  · cases e
    obtain ⟨a1, a2, a3, a4⟩ := fresh_ok hC (q := q) (x := f X Y) (hq X Y)
    exact ⟨_, a1, a2, a3, a4⟩
theorem r32 (x : Int32) : ∀ i, rng32 = some i → i.1 ≤ x.toInt ∧ x.toInt ≤ i.2 := by
  intro i e
  cases e
  have a := Int32.le_toInt x
  have b := Int32.toInt_lt x
  simp only
  omega
theorem r64 (x : Int64) : ∀ i, rng64 = some i → i.1 ≤ x.toInt ∧ x.toInt ≤ i.2 := by
  intro i e
  cases e
  have a := Int64.le_toInt x
  have b := Int64.toInt_lt x
  simp only
  omega
theorem aOr_ok : fOK (aGen orI rng32) orI (fun _ => True) := aGen_ok (fun x y i e => r32 _ i e)
theorem aXor_ok : fOK (aGen xorI rng32) xorI (fun _ => True) := aGen_ok (fun x y i e => r32 _ i e)
theorem aShl_ok : fOK (aGen shlI rng32) shlI (fun _ => True) := aGen_ok (fun x y i e => r32 _ i e)
theorem aShr_ok : fOK (aGen shrI rng32) shrI (fun _ => True) := aGen_ok (fun x y i e => r32 _ i e)
theorem aUsh_ok : fOK (aGen ushrI rng32) ushrI (fun _ => True) := aGen_ok (fun x y i e => r32 _ i e)
theorem aI2b_ok : fOK (aGen (fun x _ => i2bI x) rng32) (fun x _ => i2bI x) (fun _ => True) := aGen_ok (fun x y i e => r32 _ i e)
theorem aI2c_ok : fOK (aGen (fun x _ => i2cI x) rng32) (fun x _ => i2cI x) (fun _ => True) := aGen_ok (fun x y i e => r32 _ i e)
theorem aAnd_gen : fOK (aGen andI rng32) andI (fun _ => True) := aGen_ok (fun x y i e => r32 _ i e)
/-- and with a known number from 0 on -/
def aAnd : F2 := fun C x y => match cst C y with
  | some b => (match cst C x with
    | some a => some (C, apC (andI a b))
    | none => bif leZ 0 b && leZ b 2147483647 then some (fresh C (some (0, b))) else some (fresh C rng32))
  | none => aGen andI rng32 C x y
theorem andI_rng (x b : Int) (h0 : 0 ≤ b) (h1 : b ≤ 2147483647) : 0 ≤ andI x b ∧ andI x b ≤ b := by
  have e : (Int32.ofInt b).toInt = b := e_small (by omega) (by omega)
  have hb : (Int32.ofInt b).toBitVec.toInt = b := e
  have hm : (Int32.ofInt b).toBitVec.msb = false := by
    cases hh : (Int32.ofInt b).toBitVec.msb with
    | false => rfl
    | true =>
      have := BitVec.toInt_neg_of_msb_true hh
      omega
  have hn : (((Int32.ofInt b).toBitVec.toNat : Nat) : Int) = b := by
    have q := BitVec.toInt_eq_toNat_of_msb hm
    omega
  have hr : andI x b = ((((Int32.ofInt x).toBitVec &&& (Int32.ofInt b).toBitVec).toNat : Nat) : Int) := by
    have hm2 : ((Int32.ofInt x).toBitVec &&& (Int32.ofInt b).toBitVec).msb = false := by
      rw [BitVec.msb_and, hm, Bool.and_false]
    rw [← BitVec.toInt_eq_toNat_of_msb hm2]
    rfl
  have hl : ((Int32.ofInt x).toBitVec &&& (Int32.ofInt b).toBitVec).toNat ≤ (Int32.ofInt b).toBitVec.toNat := by
    rw [BitVec.toNat_and]
    exact Nat.and_le_right
  omega
theorem aAnd_ok : fOK aAnd andI (fun _ => True) := by
  intro σ C x y X Y r hC hx hy e
  unfold aAnd at e
  split at e
  · rename_i b hb
    have e2 := hy.2.symm.trans (cst_ok hC hb)
    refine ⟨trivial, ?_⟩
    split at e
    · rename_i a ha
      cases e
      have e1 := hx.2.symm.trans (cst_ok hC ha)
      rw [e1, e2]
      exact ⟨σ, AG.rf, Nat.le_refl _, hC, okP_C _ _ _⟩
    · cases hk : leZ 0 b && leZ b 2147483647 with
      | true =>
        rw [hk] at e
        cases e
        have hk := Bool.and_eq_true_iff.mp hk
        have k1 := leZ_iff.mp hk.1
        have k2 := leZ_iff.mp hk.2
        obtain ⟨a1, a2, a3, a4⟩ := fresh_ok hC (q := some (0, b)) (x := andI X Y) (fun y hy => by cases hy; rw [e2]; exact andI_rng X b k1 k2)
        exact ⟨_, a1, a2, a3, a4⟩
      | false =>
        rw [hk] at e
        cases e
        obtain ⟨a1, a2, a3, a4⟩ := fresh_ok hC (q := rng32) (x := andI X Y) (r32 _)
        exact ⟨_, a1, a2, a3, a4⟩
  · exact aAnd_gen σ C x y X Y r hC hx hy e
/-- not 0 -/
def nzP (C : Cx) (y : AP) : Bool := match nrm C y with
  | some y => (match ivP C y with
    | some q => leZ 1 q.1 || leZ q.2 (-1)
    | none => false)
  | none => false
theorem nzP_ok {σ : Nat → Int} {C : Cx} (hC : satC σ C) {y : AP} (h : nzP C y = true) : w32 (ev σ y) ≠ 0 := by
  unfold nzP at h
  split at h
  · rename_i y' hy
    rw [nrm_ok hC hy]
    split at h
    · rename_i q hq
      have k := ivP_ok hC hq
      rcases Bool.or_eq_true_iff.mp h with h | h
      · have := leZ_iff.mp h; omega
      · have := leZ_iff.mp h; omega
    · cases h
  · cases h
def nz64 (C : Cx) (y : AP) : Bool := match nrm64 C y with
  | some y => (match ivP C y with
    | some q => leZ 1 q.1 || leZ q.2 (-1)
    | none => false)
  | none => false
theorem nz64_ok {σ : Nat → Int} {C : Cx} (hC : satC σ C) {y : AP} (h : nz64 C y = true) : w64 (ev σ y) ≠ 0 := by
  unfold nz64 at h
  split at h
  · rename_i y' hy
    rw [nrm64_ok hC hy]
    split at h
    · rename_i q hq
      have k := ivP_ok hC hq
      rcases Bool.or_eq_true_iff.mp h with h | h
      · have := leZ_iff.mp h; omega
      · have := leZ_iff.mp h; omega
    · cases h
  · cases h
def aDiv64 (f : Int → Int → Int) : F2 := fun C x y => bif nz64 C y then aGen f rng64 C x y else none
theorem aDiv64_ok {f : Int → Int → Int} (hf : ∀ x y i, rng64 = some i → i.1 ≤ f x y ∧ f x y ≤ i.2) : fOK (aDiv64 f) f (fun y => w64 y ≠ 0) := by
  intro σ C x y X Y r hC hx hy e
  unfold aDiv64 at e
  cases hk : nz64 C y with
  | false => rw [hk] at e; cases e
  | true =>
    rw [hk] at e
    exact ⟨by have k := nz64_ok hC hk; rw [hy.2] at k; exact k, (aGen_ok hf σ C x y X Y r hC hx hy e).2⟩
/-- a polynomial by a number: what can be divided, and the rest, which is within 0 .. k - 1 -/
def dvR (k : Int) (r : Rs) : Rs := (r.filter (fun q => isZ (q.2 % k))).map (fun q => (q.1, q.2 / k))
def rmR (k : Int) (r : Rs) : Rs := r.filter (fun q => !isZ (q.2 % k))
theorem dv_rm (σ : Nat → Int) (k : Int) : ∀ r : Rs, evR σ r = k * evR σ (dvR k r) + evR σ (rmR k r)
  | [] => by simp [dvR, rmR, evR]
  | q :: r => by
    have ih := dv_rm σ k r
    unfold dvR rmR at ih ⊢
    cases h : isZ (q.2 % k) with
    | true =>
      have hz := isZ_iff.mp h
      have hd : k * (q.2 / k) = q.2 := by
        have := Int.mul_ediv_add_emod q.2 k
        omega
      rw [List.filter_cons_of_pos (by simpa using h), List.filter_cons_of_neg (by simp [h])]
      simp only [List.map_cons, evR]
      rw [ih, Int.mul_add, ← Int.mul_assoc, hd]
      omega
    | false =>
      rw [List.filter_cons_of_neg (by simp [h]), List.filter_cons_of_pos (by simp [h])]
      simp only [evR]
      rw [ih]
      omega
theorem rLt_filter {n : Nat} (f : Mo × Int → Bool) : ∀ {r : Rs}, rLt n r = true → rLt n (r.filter f) = true
  | [], _ => rfl
  | q :: r, h => by
    have e := rLt_cons.mp h
    cases hf : f q with
    | true => rw [List.filter_cons_of_pos hf]; exact rLt_cons.mpr ⟨e.1, rLt_filter f e.2⟩
    | false => rw [List.filter_cons_of_neg (by simp [hf])]; exact rLt_filter f e.2
theorem rLt_map {n : Nat} (f : Int → Int) : ∀ {r : Rs}, rLt n r = true → rLt n (r.map (fun q => (q.1, f q.2))) = true
  | [], _ => rfl
  | q :: r, h => by
    have e := rLt_cons.mp h
    exact rLt_cons.mpr ⟨e.1, rLt_map f e.2⟩
/-- quotient and rest of x from 0 on by k above 0, both as polynomials -/
def dvQ (x : AP) (k : Int) (q w : IV) (cq : Int) : Option (AP × AP) := bif leZ 0 w.1 && leZ w.2 2147483647 && leZ 0 (q.1 + (x.1 - k * cq)) && leZ (q.2 + (x.1 - k * cq)) (k - 1) then some ((cq, dvR k x.2), (x.1 - k * cq, rmR k x.2)) else none
def dvP (C : Cx) (x : AP) (k : Int) : Option (AP × AP) := bif leZ 1 k && leZ k 2147483647 then (match ivP C (0, rmR k x.2), ivP C x with
  | some q, some w => dvQ x k q w ((x.1 + q.1) / k)
  | _, _ => none) else none
theorem dvP_ok {σ : Nat → Int} {C : Cx} (hC : satC σ C) {x : AP} {k : Int} {n : Nat} {X : Int} (hx : okP σ n x X) {r : AP × AP} (e : dvP C x k = some r) :
    0 ≤ X ∧ X ≤ 2147483647 ∧ 1 ≤ k ∧ k ≤ 2147483647 ∧ okP σ n r.1 (X / k) ∧ okP σ n r.2 (X % k) := by
  unfold dvP at e
  cases hk : leZ 1 k && leZ k 2147483647 with
  | false => rw [hk] at e; cases e
  | true =>
    rw [hk] at e
    have hk := Bool.and_eq_true_iff.mp hk
    have k1 := leZ_iff.mp hk.1
    have k2 := leZ_iff.mp hk.2
    simp only [cond_true] at e
    split at e
    · rename_i q w hq hw
      have a1 := ivP_ok hC hq
      have a2 := ivP_ok hC hw
      rw [hx.2] at a2
      generalize (x.1 + q.1) / k = cq at e
      unfold dvQ at e
      cases hc : (leZ 0 w.1 && leZ w.2 2147483647 && leZ 0 (q.1 + (x.1 - k * cq)) && leZ (q.2 + (x.1 - k * cq)) (k - 1)) with
      | false => rw [hc] at e; cases e
      | true =>
        rw [hc] at e
        cases e
        simp only [Bool.and_eq_true] at hc
        obtain ⟨⟨⟨c1, c2⟩, c3⟩, c4⟩ := hc
        have c1 := leZ_iff.mp c1
        have c2 := leZ_iff.mp c2
        have c3 := leZ_iff.mp c3
        have c4 := leZ_iff.mp c4
        have hsum := dv_rm σ k x.2
        have hX := hx.2
        unfold ev at hX a1
        simp only at a1
        have hXe : X = k * (cq + evR σ (dvR k x.2)) + (x.1 - k * cq + evR σ (rmR k x.2)) := by
          rw [Int.mul_add]
          omega
        have hr0 : 0 ≤ x.1 - k * cq + evR σ (rmR k x.2) := by omega
        have hr1 : x.1 - k * cq + evR σ (rmR k x.2) < k := by omega
        have hdm := Int.ediv_emod_unique (a := X) (b := k) (r := x.1 - k * cq + evR σ (rmR k x.2)) (q := cq + evR σ (dvR k x.2)) (by omega)
        have hd := hdm.mpr ⟨by omega, hr0, hr1⟩
        refine ⟨by omega, by omega, k1, k2, ⟨rLt_map (fun c => c / k) (rLt_filter _ hx.1), ?_⟩, ⟨rLt_filter _ hx.1, ?_⟩⟩
        · rw [hd.1]; rfl
        · rw [hd.2]; rfl
    · cases e
theorem divI_pos {X k : Int} (h0 : 0 ≤ X) (h1 : X ≤ 2147483647) (k1 : 1 ≤ k) (k2 : k ≤ 2147483647) : divI X k = X / k ∧ remI X k = X % k := by
  have eX : (Int32.ofInt X).toInt = X := e_small (by omega) (by omega)
  have ek : (Int32.ofInt k).toInt = k := e_small (by omega) (by omega)
  have hq0 : 0 ≤ X / k := Int.ediv_nonneg h0 (by omega)
  have hq1 : X / k ≤ X := Int.ediv_le_self k h0
  have hd : divI X k = X / k := by
    unfold divI
    rw [Int32.toInt_div_of_ne_right _ _ (by intro q; rw [q] at ek; have : (-1 : Int32).toInt = -1 := rfl; omega), eX, ek, Int.tdiv_eq_ediv_of_nonneg h0]
  refine ⟨hd, ?_⟩
  have hd2 : Int32.ofInt X / Int32.ofInt k = Int32.ofInt (X / k) := by
    refine Int32.toInt_inj.mp ?_
    have : (Int32.ofInt (X / k)).toInt = X / k := e_small (by omega) (by omega)
    rw [this]
    exact hd
  have hm : Int32.ofInt X - Int32.ofInt X / Int32.ofInt k * Int32.ofInt k = Int32.ofInt (X - X / k * k) := by
    rw [hd2, Int32.ofInt_sub, Int32.ofInt_mul]
  unfold remI
  rw [hm]
  have hmod := Int.mul_ediv_add_emod X k
  have hmc : X / k * k = k * (X / k) := Int.mul_comm _ _
  have hr0 := Int.emod_nonneg X (show k ≠ 0 by omega)
  have hr1 := Int.emod_lt_of_pos X (show 0 < k by omega)
  have e3 : X - X / k * k = X % k := by omega
  rw [e3]
  exact e_small (by omega) (by omega)
/-- cut division by a number above 0 -/
def tq (x k : Int) : Int := bif leZ 0 x then x / k else -((-x) / k)
theorem tq_rem {X k : Int} (k1 : 1 ≤ k) : (0 ≤ X → 0 ≤ X - tq X k * k ∧ X - tq X k * k ≤ k - 1 ∧ 0 ≤ tq X k ∧ tq X k ≤ X) ∧ (X < 0 → 1 - k ≤ X - tq X k * k ∧ X - tq X k * k ≤ 0 ∧ tq X k ≤ 0 ∧ X ≤ tq X k) := by
  constructor
  · intro h
    have e : tq X k = X / k := by unfold tq; rw [leZ_iff.mpr h]; rfl
    rw [e]
    have h1 := Int.mul_ediv_add_emod X k
    have h2 := Int.emod_nonneg X (show k ≠ 0 by omega)
    have h3 := Int.emod_lt_of_pos X (show 0 < k by omega)
    have h4 : X / k * k = k * (X / k) := Int.mul_comm _ _
    have h5 : 0 ≤ X / k := Int.ediv_nonneg h (by omega)
    have h6 : X / k ≤ X := Int.ediv_le_self k h
    omega
  · intro h
    have e : tq X k = -((-X) / k) := by unfold tq; rw [leZ_f.mpr h]; rfl
    rw [e]
    have h1 := Int.mul_ediv_add_emod (-X) k
    have h2 := Int.emod_nonneg (-X) (show k ≠ 0 by omega)
    have h3 := Int.emod_lt_of_pos (-X) (show 0 < k by omega)
    have h4 : -(-X / k) * k = -(k * (-X / k)) := by rw [Int.neg_mul, Int.mul_comm]
    have h5 : 0 ≤ -X / k := Int.ediv_nonneg (by omega) (by omega)
    have h6 : -X / k ≤ -X := Int.ediv_le_self k (by omega)
    omega
theorem tq_mono {X Y k : Int} (k1 : 1 ≤ k) (h : X ≤ Y) : tq X k ≤ tq Y k := by
  by_cases hX : 0 ≤ X
  · have e1 : tq X k = X / k := by unfold tq; rw [leZ_iff.mpr hX]; rfl
    have e2 : tq Y k = Y / k := by unfold tq; rw [leZ_iff.mpr (by omega)]; rfl
    rw [e1, e2]
    exact Int.ediv_le_ediv (by omega) h
  · by_cases hY : 0 ≤ Y
    · have h1 := (tq_rem (X := X) k1).2 (by omega)
      have h2 := (tq_rem (X := Y) k1).1 hY
      omega
    · have e1 : tq X k = -((-X) / k) := by unfold tq; rw [leZ_f.mpr (by omega)]; rfl
      have e2 : tq Y k = -((-Y) / k) := by unfold tq; rw [leZ_f.mpr (by omega)]; rfl
      rw [e1, e2]
      have := Int.ediv_le_ediv (a := -Y) (b := -X) (c := k) (by omega) (by omega)
      omega
theorem tq_div {X k : Int} (h0 : -2147483648 ≤ X) (h1 : X ≤ 2147483647) (k1 : 1 ≤ k) (k2 : k ≤ 2147483647) : divI X k = tq X k ∧ remI X k = X - tq X k * k := by
  have eX : (Int32.ofInt X).toInt = X := e_small (by omega) (by omega)
  have ek : (Int32.ofInt k).toInt = k := e_small (by omega) (by omega)
  have hb := tq_rem (X := X) k1
  have hd : divI X k = tq X k := by
    unfold divI
    rw [Int32.toInt_div_of_ne_right _ _ (by intro q; rw [q] at ek; have : (-1 : Int32).toInt = -1 := rfl; omega), eX, ek]
    unfold tq
    cases h : leZ 0 X with
    | true => exact Int.tdiv_eq_ediv_of_nonneg (leZ_iff.mp h)
    | false =>
      have h := leZ_f.mp h
      have e : X.tdiv k = -((-X).tdiv k) := by rw [Int.neg_tdiv, Int.neg_neg]
      rw [e, Int.tdiv_eq_ediv_of_nonneg (by omega)]
      rfl
  refine ⟨hd, ?_⟩
  have hd2 : Int32.ofInt X / Int32.ofInt k = Int32.ofInt (tq X k) := by
    refine Int32.toInt_inj.mp ?_
    have : (Int32.ofInt (tq X k)).toInt = tq X k := e_small (by omega) (by omega)
    rw [this]
    exact hd
  unfold remI
  rw [hd2, ← Int32.ofInt_mul, ← Int32.ofInt_sub]
  exact e_small (by omega) (by omega)
def dvW (fst' : Bool) (C : Cx) (x : AP) (b : Int) : Cx × AP := match ivP C x with
  | some w => bif leZ 1 b && (leZ b 2147483647 && (leZ (-2147483648) w.1 && leZ w.2 2147483647)) then (bif fst' then fresh C (some (tq w.1 b, tq w.2 b)) else fresh C (some (bif leZ 0 w.1 then (0, b - 1) else (1 - b, b - 1)))) else fresh C rng32
  | none => fresh C rng32
theorem dvW_ok {σ : Nat → Int} {C : Cx} (hC : satC σ C) {x : AP} {k : Int} {n : Nat} {X : Int} (hx : okP σ n x X) (b : Bool) :
    ∃ σ', AG (nV C) σ σ' ∧ nV C ≤ nV (dvW b C x k).1 ∧ satC σ' (dvW b C x k).1 ∧ okP σ' (nV (dvW b C x k).1) (dvW b C x k).2 (bif b then divI X k else remI X k) := by
  have hfr : ∃ σ', AG (nV C) σ σ' ∧ nV C ≤ nV (fresh C rng32).1 ∧ satC σ' (fresh C rng32).1 ∧ okP σ' (nV (fresh C rng32).1) (fresh C rng32).2 (bif b then divI X k else remI X k) := by
    obtain ⟨a1, a2, a3, a4⟩ := fresh_ok hC (q := rng32) (x := bif b then divI X k else remI X k) (by cases b <;> exact r32 _)
    exact ⟨_, a1, a2, a3, a4⟩
  unfold dvW
  split
  · rename_i w hw
    have kw := ivP_ok hC hw
    rw [hx.2] at kw
    cases hk : leZ 1 k && (leZ k 2147483647 && (leZ (-2147483648) w.1 && leZ w.2 2147483647)) with
    | false => exact hfr
    | true =>
      simp only [Bool.and_eq_true] at hk
      obtain ⟨k1, k2, k3, k4⟩ := hk
      have k1 := leZ_iff.mp k1
      have k2 := leZ_iff.mp k2
      have k3 := leZ_iff.mp k3
      have k4 := leZ_iff.mp k4
      have hd := tq_div (X := X) (k := k) (by omega) (by omega) k1 k2
      cases b with
      | true =>
        simp only [cond_true]
        obtain ⟨a1, a2, a3, a4⟩ := fresh_ok hC (q := some (tq w.1 k, tq w.2 k)) (x := divI X k) (fun y hy => by
          cases hy
          rw [hd.1]
          exact ⟨tq_mono k1 kw.1, tq_mono k1 kw.2⟩)
        exact ⟨_, a1, a2, a3, a4⟩
      | false =>
        simp only [cond_true, cond_false]
        obtain ⟨a1, a2, a3, a4⟩ := fresh_ok hC (q := some (bif leZ 0 w.1 then (0, k - 1) else (1 - k, k - 1))) (x := remI X k) (fun y hy => by
          cases hy
          rw [hd.2]
          have hb := tq_rem (X := X) k1
          cases hz : leZ 0 w.1 with
          | true =>
            have hz := leZ_iff.mp hz
            have := hb.1 (by omega)
            exact ⟨this.1, this.2.1⟩
          | false =>
            show 1 - k ≤ _ ∧ _ ≤ k - 1
            by_cases h0 : 0 ≤ X
            · have := hb.1 h0; omega
            · have := hb.2 (by omega); omega)
        exact ⟨_, a1, a2, a3, a4⟩
  · exact hfr
def aDivI (fst' : Bool) : F2 := fun C x y => bif nzP C y then (match cst C x, cst C y with
  | some a, some b => some (C, apC (bif fst' then divI a b else remI a b))
  | _, some b => (match dvP C x b with
    | some r => some (C, bif fst' then r.1 else r.2)
    | none => some (dvW fst' C x b))
  | _, none => some (fresh C rng32)) else none
theorem aDivI_ok (b : Bool) : fOK (aDivI b) (fun x y => bif b then divI x y else remI x y) (fun y => w32 y ≠ 0) := by
  intro σ C x y X Y r hC hx hy e
  unfold aDivI at e
  cases hk : nzP C y with
  | false => rw [hk] at e; cases e
  | true =>
    rw [hk] at e
    refine ⟨by have k := nzP_ok hC hk; rw [hy.2] at k; exact k, ?_⟩
    have hfr : ∃ σ', AG (nV C) σ σ' ∧ nV C ≤ nV (fresh C rng32).1 ∧ satC σ' (fresh C rng32).1 ∧ okP σ' (nV (fresh C rng32).1) (fresh C rng32).2 (bif b then divI X Y else remI X Y) := by
      obtain ⟨a1, a2, a3, a4⟩ := fresh_ok hC (q := rng32) (x := bif b then divI X Y else remI X Y) (by cases b <;> exact r32 _)
      exact ⟨_, a1, a2, a3, a4⟩
    simp only [cond_true] at e
    split at e
    · rename_i a c ha hc
      cases e
      have e1 := hx.2.symm.trans (cst_ok hC ha)
      have e2 := hy.2.symm.trans (cst_ok hC hc)
      rw [e1, e2]
      exact ⟨σ, AG.rf, Nat.le_refl _, hC, okP_C _ _ _⟩
    · rename_i c hc _
      have e2 := hy.2.symm.trans (cst_ok hC hc)
      split at e
      · rename_i q hq
        cases e
        obtain ⟨c1, c2, c3, c4, c5, c6⟩ := dvP_ok hC hx hq
        have k := divI_pos c1 c2 c3 c4
        rw [e2]
        refine ⟨σ, AG.rf, Nat.le_refl _, hC, ?_⟩
        cases b with
        | true => simp only [cond_true]; rw [k.1]; exact c5
        | false => simp only [cond_false]; rw [k.2]; exact c6
      · cases e
        rw [e2]
        exact dvW_ok hC hx b
    · cases e
      exact hfr
end OPS
