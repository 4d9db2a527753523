/-! ===== RUNS OF ABSTRACT STATES: calls inside, loops by what they change ===== -/
abbrev Rt : Type := Cx × Option AV × OV
abbrev Oc : Type := AS ⊕ Rt
/-- what is known beforehand of a call: which answers may come -/
abbrev Ct : Type := Nat → Cx → List AV → OV → Option (List Rt)
/-- a loop: which locals change (place, 0 int 1 long, bounds), which are dead at its head, the cells that change, what falls (numbers times locals, and a number) -/
abbrev Lp : Type := List (Nat × Nat × Option IV) × List Nat × List Nat × List (Nat × Int) × Int
def slA : List AV → List AL
  | [] => []
  | a :: r => bif Nat.beq (catA a) 2 then .inr a :: .inl true :: slA r else .inr a :: slA r
def enA (w : Nat) (av : List AV) : Option (List AL) := bif Nat.ble (slA av).length (w / 16) then some (slA av ++ List.replicate (w / 16 - (slA av).length) (.inl true)) else none
def kdI (i : Instr) : Nat := match i with
  | .invokevirtual _ => 0
  | .invokestatic _ => 1
  | .invokespecial _ => 2
  | _ => 9
def rcv (C : Cx) (kd w : Nat) (av : List AV) : Bool := match kd with
  | 0 => (match av with
    | .inr (.inr p) :: _ => Nat.blt (w % 16) 9 && (row C p (w % 16)).isSome
    | _ => false)
  | 1 => true
  | 2 => (match av with
    | .inr (.inr _) :: _ => true
    | _ => false)
  | _ => false
def callA (e : E6) (C : Cx) (st : List AV) : Option (Nat × List AV × List AV) :=
  bif Nat.beq e.2.1 3 && (Nat.beq e.2.2.1 1 && (Nat.ble e.2.2.2.2.1 st.length && (Nat.ble (catsA (st.drop e.2.2.2.2.1)) 8 && rcv C (kdI e.1) e.2.2.2.2.2 (st.take e.2.2.2.2.1).reverse))) then
    some (e.2.2.2.1, (st.take e.2.2.2.2.1).reverse, st.drop e.2.2.2.2.1) else none
def retA (e : E6) (C : Cx) (st : List AV) : Option (Option AV) := bif Nat.beq e.2.1 1 then (match e.1 with
  | .ireturn => (match st with
    | [.inl p] => bif Nat.beq e.2.2.1 1 || (Nat.beq e.2.2.1 2 && is01 C p) then some (some (.inl p)) else none
    | _ => none)
  | .lreturn => (match st with
    | [.inr (.inl p)] => some (some (.inr (.inl p)))
    | _ => none)
  | .return_ => (match st with
    | [] => some none
    | _ => none)
  | _ => none) else none
def bindL {α β : Type} (f : α → Option (List β)) : List α → Option (List β)
  | [] => some []
  | a :: r => match f a, bindL f r with
    | some x, some y => some (x ++ y)
    | _, _ => none
theorem bindL_in {α β : Type} {f : α → Option (List β)} : ∀ {r : List α} {L : List β}, bindL f r = some L → ∀ a ∈ r, ∃ x, f a = some x ∧ ∀ b ∈ x, b ∈ L
  | [], _, _, _, h => by cases h
  | a :: r, L, e, b, h => by
    unfold bindL at e
    split at e
    · rename_i x y hx hy
      cases e
      rcases List.mem_cons.mp h with rfl | h
      · exact ⟨x, hx, fun b hb => List.mem_append_left _ hb⟩
      · obtain ⟨w, h1, h2⟩ := bindL_in hy b h
        exact ⟨w, h1, fun b hb => List.mem_append_right _ (h2 b hb)⟩
    · cases e
def memN (l : List Nat) (k : Nat) : Bool := l.any (fun x => Nat.beq x k)
def apEq (p q : AP) : Bool := eqZ p.1 q.1 && rEq p.2 q.2
theorem apEq_eq {p q : AP} (h : apEq p q = true) : p = q := by
  have h := Bool.and_eq_true_iff.mp h
  exact Prod.ext (eqZ_iff.mp h.1) (rEq_eq h.2)
def avEq : AV → AV → Bool
  | .inl p, .inl q => apEq p q
  | .inr (.inl p), .inr (.inl q) => apEq p q
  | .inr (.inr p), .inr (.inr q) => apEq p q
  | _, _ => false
theorem avEq_eq : ∀ {p q : AV}, avEq p q = true → p = q
  | .inl _, .inl _, h => by rw [apEq_eq h]
  | .inr (.inl _), .inr (.inl _), h => by rw [apEq_eq h]
  | .inr (.inr _), .inr (.inr _), h => by rw [apEq_eq h]
  | .inl _, .inr _, h => by cases h
  | .inr (.inl _), .inl _, h => by cases h
  | .inr (.inl _), .inr (.inr _), h => by cases h
  | .inr (.inr _), .inl _, h => by cases h
  | .inr (.inr _), .inr (.inl _), h => by cases h
def toRt (o : Oc) : Option (List Rt) := match o with
  | .inl _ => none
  | .inr r => some [r]
/-- v is a number within bounds -/
def ivIn (C : Cx) (p : AP) (q : Option IV) : Bool := match q with
  | none => true
  | some q => (match ivP C p with
    | some w => leZ q.1 w.1 && leZ w.2 q.2
    | none => false)
theorem ivIn_ok {σ : Nat → Int} {C : Cx} (hC : satC σ C) {p : AP} {q : Option IV} (h : ivIn C p q = true) : ∀ y, q = some y → y.1 ≤ ev σ p ∧ ev σ p ≤ y.2 := by
  intro y hy
  subst hy
  unfold ivIn at h
  simp only at h
  split at h
  · rename_i w hw
    have k := ivP_ok hC hw
    have h := Bool.and_eq_true_iff.mp h
    have a := leZ_iff.mp h.1
    have b := leZ_iff.mp h.2
    omega
  · cases h
def getK (ls : List AL) (i k : Nat) : Option AP := match nth ls i with
  | some (.inr (.inl p)) => bif Nat.beq k 0 then some p else none
  | some (.inr (.inr (.inl p))) => bif Nat.beq k 1 then some p else none
  | _ => none
def putK (k : Nat) (p : AP) : AL := bif Nat.beq k 0 then .inr (.inl p) else .inr (.inr (.inl p))
/-- the changing locals become new numbers -/
def gen1 : List (Nat × Nat × Option IV) → Cx → List AL → Cx × List AL
  | [], C, ls => (C, ls)
  | q :: r, C, ls => gen1 r (fresh C q.2.2).1 (ls.set q.1 (putK q.2.1 (fresh C q.2.2).2))
def genD (d : List Nat) (ls : List AL) : List AL := d.foldl (fun l i => l.set i (.inl false)) ls
/-- B is what A stands for, but for the changing locals -/
def mtL : List AL → List AL → Bool
  | [], [] => true
  | .inl b :: r, .inl c :: s => (!b || c) && mtL r s
  | .inl b :: r, .inr a :: s => (!b || Nat.beq (catA a) 1) && mtL r s
  | .inr a :: r, .inr b :: s => avEq a b && mtL r s
  | _, _ => false
def mtS : List AV → List AV → Bool
  | [], [] => true
  | a :: r, b :: s => avEq a b && mtS r s
  | _, _ => false
def mtO (ov : OV) : OV → Bool
  | [] => true
  | e :: r => (match lkp ov e.1 with
    | some p => apEq p e.2
    | none => false) && mtO ov r
/-- the same, where the order is kept -/
def mtQ : OV → OV → Bool
  | _, [] => true
  | [], _ :: _ => false
  | x :: xs, e :: r => bif Nat.beq x.1 e.1 && apEq x.2 e.2 then mtQ xs r else mtQ xs (e :: r)
def mtP (ov r : OV) : Bool := mtQ ov r || mtO ov r
def mtV (C : Cx) (ls : List AL) : List (Nat × Nat × Option IV) → Bool
  | [] => true
  | q :: r => (match getK ls q.1 q.2.1 with
    | some p => ivIn C p q.2.2
    | none => false) && mtV C ls r
/-- A, with the changing locals taken for what they are in B -/
def blk (sp : Lp) (ls : List AL) : List AL := sp.1.foldl (fun l q => l.set q.1 (.inl false)) (genD sp.2.1 ls)
def genA (sp : Lp) (A : AS) : AS := ((gen1 sp.1 A.1 (blk sp A.2.2.1)).1, A.2.1, (gen1 sp.1 A.1 (blk sp A.2.2.1)).2, A.2.2.2.1, A.2.2.2.2.filter (fun e => !memN sp.2.2.1 (e.1 / 256)))
def meas (sp : Lp) (ls : List AL) : Option AP := sp.2.2.2.1.foldl (fun o q => match o, getK ls q.1 0 with
  | some p, some v => some (apAdd p (apMul (apC q.2) v))
  | _, _ => none) (some (apC sp.2.2.2.2))
def inst (sp : Lp) (A B : AS) : Bool := Nat.beq B.2.1 A.2.1 && (mtL (blk sp A.2.2.1) (blk sp B.2.2.1) && (mtS A.2.2.2.1 B.2.2.2.1 && (mtP B.2.2.2.2 (A.2.2.2.2.filter (fun e => !memN sp.2.2.1 (e.1 / 256))) && mtV B.1 B.2.2.1 sp.1)))
def falls (sp : Lp) (G B : AS) : Bool := match meas sp G.2.2.1, meas sp B.2.2.1 with
  | some p, some q => (match ivP B.1 (apSub p q), ivP B.1 p with
    | some x, some y => leZ 1 x.1 && leZ 1 y.1
    | _, _ => false)
  | _, _ => false
def isHd (pc : Nat) (o : Oc) : Bool := match o with
  | .inl B => Nat.beq B.2.1 pc
  | .inr _ => false
def backOk (sp : Lp) (A G : AS) (o : Oc) : Bool := match o with
  | .inl B => !Nat.beq B.2.1 A.2.1 || (inst sp A B && falls sp G B)
  | .inr _ => true
def loopA (sp : Lp) (body : AS → Option (List Oc)) (A : AS) : Option (List Oc) :=
  bif inst sp A A then (match body (genA sp A) with
    | some L => bif L.all (backOk sp A (genA sp A)) then some (L.filter (fun o => !isHd A.2.1 o)) else none
    | none => none) else none
def run (P : RGt) (Z : ZP) (K : Ct) (T : Nat → AS → Option Lp) (f : Nat) : Nat → MT → List Nat → Bool → AS → Option (List Oc) := Nat.rec (fun _ _ _ _ _ => none) (fun _ rec m t stops fr A =>
  bif !fr && memN stops A.2.1 then some [.inl A] else
    match (bif fr then none else T m A) with
    | some sp => loopA sp (rec m t (A.2.1 :: stops) true) A
    | none => match pI t A.2.1 with
      | none => none
      | some e => match stA P Z e.1 e.2.1 e.2.2.1 e.2.2.2.1 e.2.2.2.2.1 e.2.2.2.2.2 A.1 A.2.1 A.2.2.1 A.2.2.2.1 A.2.2.2.2 with
        | some L => bindL (rec m t stops false) L
        | none => match callA e A.1 A.2.2.2.1 with
          | some q => (match (match K q.1 A.1 q.2.1 A.2.2.2.2 with
              | some rs => some rs
              | none => match pTm q.1, enA e.2.2.2.2.2 q.2.1 with
                | some t', some l0 => (match rec q.1 t' [] false (A.1, 0, l0, [], A.2.2.2.2) with
                  | some L => bindL toRt L
                  | none => none)
                | _, _ => none) with
            | some rs => bindL (fun r => rec m t stops false (r.1, A.2.1 + 3, A.2.2.1, r.2.1.toList ++ q.2.2, r.2.2)) rs
            | none => none)
          | none => match retA e A.1 A.2.2.2.1 with
            | some v => some [.inr (A.1, v, A.2.2.2.2)]
            | none => none) f
theorem run_succ (P : RGt) (Z : ZP) (K : Ct) (T : Nat → AS → Option Lp) (f m : Nat) (t : MT) (stops : List Nat) (fr : Bool) (A : AS) : run P Z K T (f + 1) m t stops fr A =
  bif !fr && memN stops A.2.1 then some [.inl A] else
    match (bif fr then none else T m A) with
    | some sp => loopA sp (run P Z K T f m t (A.2.1 :: stops) true) A
    | none => match pI t A.2.1 with
      | none => none
      | some e => match stA P Z e.1 e.2.1 e.2.2.1 e.2.2.2.1 e.2.2.2.2.1 e.2.2.2.2.2 A.1 A.2.1 A.2.2.1 A.2.2.2.1 A.2.2.2.2 with
        | some L => bindL (run P Z K T f m t stops false) L
        | none => match callA e A.1 A.2.2.2.1 with
          | some q => (match (match K q.1 A.1 q.2.1 A.2.2.2.2 with
              | some rs => some rs
              | none => match pTm q.1, enA e.2.2.2.2.2 q.2.1 with
                | some t', some l0 => (match run P Z K T f q.1 t' [] false (A.1, 0, l0, [], A.2.2.2.2) with
                  | some L => bindL toRt L
                  | none => none)
                | _, _ => none) with
            | some rs => bindL (fun r => run P Z K T f m t stops false (r.1, A.2.1 + 3, A.2.2.1, r.2.1.toList ++ q.2.2, r.2.2)) rs
            | none => none)
          | none => match retA e A.1 A.2.2.2.1 with
            | some v => some [.inr (A.1, v, A.2.2.2.2)]
            | none => none := rfl
