/-! ===== RUNS OVER FLAGGED STATES: contracts of methods, loops with cells as variables ===== -/
/-- 0 a local, 1 a cell, 2 a cell as it was at the loop's begin, 3 a number of the entry, 4 what is returned -/
abbrev Tm : Type := Nat × Nat
abbrev Ln : Type := List (Tm × Int) × Int
abbrev Ft : Type := Ln × Int × Int
def tmA (ls : List AL) (ov ov0 : OV) (V : List AP) (ret : Option AP) (t : Tm) : Option AP := match t.1 with
  | 0 => (match nth ls t.2 with
    | some (.inr (.inl p)) => some p
    | some (.inr (.inr (.inl p))) => some p
    | _ => none)
  | 1 => bif Nat.blt t.2 65536 then lkp ov t.2 else none
  | 2 => lkp ov0 t.2
  | 3 => nth V t.2
  | _ => ret
def lnF (ls : List AL) (ov ov0 : OV) (V : List AP) (ret : Option AP) (o : Option AP) (q : Tm × Int) : Option AP := match o, tmA ls ov ov0 V ret q.1 with
  | some p, some v => some (apAdd p (apMul (apC q.2) v))
  | _, _ => none
def lnA (ls : List AL) (ov ov0 : OV) (V : List AP) (ret : Option AP) (L : Ln) : Option AP := L.1.foldl (lnF ls ov ov0 V ret) (some (apC L.2))
def bdF (C : Cx) (o : Option AP) (lo hi : Int) : Bool := match o with
  | some p => geS C p lo && leS C p hi
  | none => false
/-- a loop: the locals that change, those dead at its head, the cells told no longer, the cells told anew, what holds of these, what is defined, what falls, the cells that it wants told -/
abbrev LpT : Type := List (Nat × Nat × Option IV) × List Nat × List Nat × List (Nat × Option IV) × List Ft × List (Nat × Ln) × Ln × List Nat
def tchT (P : RGt) : List Nat → Cx → OV → Option (Cx × OV)
  | [], C, ov => some (C, ov)
  | c :: r, C, ov => bif Nat.blt (c / 256) 232 then (match rdT P C ov [c / 256] (c % 256) (c % 256) (apC ((c % 256 : Nat) : Int)) with
    | some q => tchT P r q.1 q.2.2
    | none => none) else none
def blkT (sp : LpT) (ls : List AL) : List AL := sp.1.foldl (fun l q => l.set q.1 (.inl false)) (genD sp.2.1 ls)
def genC : List (Nat × Option IV) → Cx → OV → Cx × OV
  | [], C, ov => (C, ov)
  | q :: r, C, ov => genC r (fresh C q.2).1 ((q.1, (fresh C q.2).2) :: ov)
def genF (ls : List AL) (ov ov0 : OV) : List Ft → Cx → Option Cx
  | [], C => some C
  | f :: r, C => match lnA ls ov ov0 [] none f.1 with
    | some p => (match addF C p f.2.1 f.2.2 with
      | some C' => genF ls ov ov0 r C'
      | none => none)
    | none => none
def genR (ls : List AL) (ov ov0 : OV) : List (Nat × Ln) → Option OV
  | [] => some []
  | q :: r => match lnA ls ov ov0 [] none q.2, genR ls ov ov0 r with
    | some p, some w => some ((q.1, p) :: w)
    | _, _ => none
/-- what stays told -/
def stay (sp : LpT) (e : Nat × AP) : Bool := !(memN sp.2.2.1 e.1 || (sp.2.2.2.1.any (fun q => Nat.beq q.1 e.1) || sp.2.2.2.2.2.1.any (fun q => Nat.beq q.1 e.1)))
def genT (sp : LpT) (A : AS) : Option AS :=
  match gen1 sp.1 A.1 (blkT sp A.2.2.1) with
  | (C1, ls1) => match genC sp.2.2.2.1 C1 (A.2.2.2.2.filter (stay sp)) with
    | (C2, ov2) => match genF ls1 ov2 A.2.2.2.2 sp.2.2.2.2.1 C2, genR ls1 ov2 A.2.2.2.2 sp.2.2.2.2.2.1 with
      | some C3, some w => some (C3, A.2.1, ls1, A.2.2.2.1, w ++ ov2)
      | _, _ => none
def okK (C : Cx) (ov : OV) (e : Nat × AP) : Bool := match lkp ov e.1 with
  | some p => bif Nat.blt e.1 65536 then apEq p e.2 else apEq p e.2 || geS C (apSub p e.2) 0
  | none => false
def okV2 (C : Cx) (ls : List AL) (q : Nat × Nat × Option IV) : Bool := match getK ls q.1 q.2.1 with
  | some p => inS C p q.2.2
  | none => false
def okC2 (C : Cx) (ov : OV) (q : Nat × Option IV) : Bool := Nat.blt q.1 65536 && (match lkp ov q.1 with
  | some p => inS C p q.2
  | none => false)
def okR2 (C : Cx) (ov : OV) (o : Option AP) (k : Nat) : Bool := Nat.ble 65536 k && (match o with
  | some p => (match lkp ov k with
    | some B => geS C (apSub B p) 0
    | none => leS C p 0)
  | none => false)
def instT (sp : LpT) (A B : AS) : Bool := Nat.beq B.2.1 A.2.1 && (mtL (blkT sp A.2.2.1) (blkT sp B.2.2.1) && (mtS A.2.2.2.1 B.2.2.2.1 && ((A.2.2.2.2.filter (stay sp)).all (okK B.1 B.2.2.2.2) && (sp.1.all (okV2 B.1 B.2.2.1) && (sp.2.2.2.1.all (okC2 B.1 B.2.2.2.2) &&
  (sp.2.2.2.2.1.all (fun f => bdF B.1 (lnA B.2.2.1 B.2.2.2.2 A.2.2.2.2 [] none f.1) f.2.1 f.2.2) && sp.2.2.2.2.2.1.all (fun q => okR2 B.1 B.2.2.2.2 (lnA B.2.2.1 B.2.2.2.2 A.2.2.2.2 [] none q.2) q.1)))))))
def fallT (sp : LpT) (A G B : AS) : Bool := match lnA G.2.2.1 G.2.2.2.2 A.2.2.2.2 [] none sp.2.2.2.2.2.2.1, lnA B.2.2.1 B.2.2.2.2 A.2.2.2.2 [] none sp.2.2.2.2.2.2.1 with
  | some p, some q => geS B.1 (apSub p q) 1 && geS B.1 p 1
  | _, _ => false
def backT (sp : LpT) (A G : AS) (o : Oc) : Bool := match o with
  | .inl B => !Nat.beq B.2.1 A.2.1 || (instT sp A B && fallT sp A G B)
  | .inr _ => true
def loopT (P : RGt) (sp : LpT) (body : AS → Option (List Oc)) (A : AS) : Option (List Oc) := match tchT P sp.2.2.2.2.2.2.2 A.1 A.2.2.2.2 with
  | some q => bif instT sp (q.1, A.2.1, A.2.2.1, A.2.2.2.1, q.2) (q.1, A.2.1, A.2.2.1, A.2.2.2.1, q.2) then (match genT sp (q.1, A.2.1, A.2.2.1, A.2.2.2.1, q.2) with
    | some G => (match body G with
      | some L => bif L.all (backT sp (q.1, A.2.1, A.2.2.1, A.2.2.2.1, q.2) G) then some (L.filter (fun o => !isHd A.2.1 o)) else none
      | none => none)
    | none => none) else none
  | none => none
/-! contracts -/
/-- of an argument: 0 an int, 1 a long, 2 a reference; its bounds; a reference: base, distance, how many -/
abbrev ArgT : Type := Nat × Option IV × Int × Int × Nat
/-- one way to end: what is returned, the cells told then, what holds, what is defined -/
abbrev AltT : Type := Option (Nat × Option IV) × List (Nat × (Option IV ⊕ Ln)) × List Ft × List (Nat × Ln)
abbrev WrT : Type := List (Nat × Nat × Nat)
/-- the method, its arguments, the cells that are told, what holds, what is defined, what it may write, how it ends -/
abbrev Con : Type := Nat × List ArgT × List (Nat × Option IV) × List Ft × List (Nat × Ln) × WrT × List AltT
def inWn (W : WrT) (a l u : Nat) : Bool := W.any (fun w => Nat.beq w.1 a && (Nat.ble w.2.1 l && Nat.ble u w.2.2))
def subW (W W' : WrT) : Bool := W.all (fun w => inWn W' w.1 w.2.1 w.2.2)
def hitW (W : WrT) (c : Nat) : Bool := W.any (fun w => Nat.beq w.1 (c / 256) && (Nat.ble w.2.1 (c % 256) && Nat.ble (c % 256) w.2.2))
def dvdP (r : AP) (s : Int) : Option AP := bif apEq (apMul (apC s) (r.1 / s, r.2.map (fun q => (q.1, q.2 / s)))) r then some (r.1 / s, r.2.map (fun q => (q.1, q.2 / s))) else none
def argV (C : Cx) (a : ArgT) (v : AV) : Option AP := match v with
  | .inl p => bif Nat.beq a.1 0 && inS C p a.2.1 then some p else none
  | .inr (.inl p) => bif Nat.beq a.1 1 && inS C p a.2.1 then some p else none
  | .inr (.inr p) => bif Nat.beq a.1 2 then (bif Nat.beq a.2.2.2.2 1 then (match cst C p with
      | some c => bif eqZ c a.2.2.1 then some (apC 0) else none
      | none => none) else (match dvdP (apSub p (apC a.2.2.1)) a.2.2.2.1 with
        | some q => bif rLt C.1.length q.2 && (geS C q 0 && leS C q ((a.2.2.2.2 : Int) - 1)) then some q else none
        | none => none)) else none
def argsV (C : Cx) : List ArgT → List AV → Option (List AP)
  | [], [] => some []
  | a :: r, v :: s => (match argV C a v, argsV C r s with
    | some p, some w => some (p :: w)
    | _, _ => none)
  | _, _ => none
def preV (C : Cx) (ov : OV) : List (Nat × Option IV) → Option (List AP)
  | [] => some []
  | q :: r => bif Nat.blt q.1 65536 then (match lkp ov q.1, preV C ov r with
    | some p, some w => bif inS C p q.2 then some (p :: w) else none
    | _, _ => none) else none
def pstA (V : List AP) : List (Nat × (Option IV ⊕ Ln)) → Cx → OV → Option (Cx × OV)
  | [], C, ov => some (C, ov)
  | q :: r, C, ov => bif Nat.blt q.1 65536 then (match q.2 with
    | .inl iv => pstA V r (fresh C iv).1 ((q.1, (fresh C iv).2) :: ov)
    | .inr ln => (match lnA [] [] [] V none ln with
      | some p => pstA V r C ((q.1, p) :: ov)
      | none => none)) else none
def pstR (V : List AP) (ov : OV) (ret : Option AP) : List (Nat × Ln) → Option OV
  | [] => some []
  | q :: r => match lnA [] ov [] V ret q.2, pstR V ov ret r with
    | some p, some w => bif Nat.ble 65536 q.1 then some ((q.1, p) :: w) else none
    | _, _ => none
def pstF (V : List AP) (ov : OV) (ret : Option AP) : List Ft → Cx → Option (Option Cx)
  | [], C => some (some C)
  | f :: r, C => match lnA [] ov [] V ret f.1 with
    | some p => (match addF C p f.2.1 f.2.2 with
      | some C' => pstF V ov ret r C'
      | none => some none)
    | none => none
def retP (C : Cx) (r : Option (Nat × Option IV)) : Cx × Option AV × Option AP := match r with
  | none => (C, none, none)
  | some q => bif Nat.beq q.1 0 then ((fresh C q.2).1, some (.inl (fresh C q.2).2), some (fresh C q.2).2) else ((fresh C q.2).1, some (.inr (.inl (fresh C q.2).2)), some (fresh C q.2).2)
def altA (V : List AP) (C : Cx) (ov : OV) (a : AltT) : Option (List Rt) := match retP C a.1 with
  | (C1, rv, rp) => match pstA V a.2.1 C1 ov with
    | some (C2, ov2) => (match pstF V ov2 rp a.2.2.1 C2, pstR V ov2 rp a.2.2.2 with
      | some (some C3), some w => some [(C3, rv, w ++ ov2)]
      | some none, some _ => some []
      | _, _ => none)
    | none => none
def appC (Wc : WrT) (c : Con) (C : Cx) (av : List AV) (ov : OV) : Option (List Rt) := match argsV C c.2.1 av, preV C ov c.2.2.1 with
  | some V1, some V2 => bif c.2.2.2.1.all (fun f => bdF C (lnA [] ov [] (V1 ++ V2) none f.1) f.2.1 f.2.2) && (c.2.2.2.2.1.all (fun q => okR2 C ov (lnA [] ov [] (V1 ++ V2) none q.2) q.1) && subW c.2.2.2.2.2.1 Wc) then
      bindL (altA (V1 ++ V2) C (ov.filter (fun e => Nat.ble 65536 e.1 || !hitW c.2.2.2.2.2.1 e.1))) c.2.2.2.2.2.2 else none
  | _, _ => none
def appK (Wc : WrT) (m : Nat) (C : Cx) (av : List AV) (ov : OV) : List Con → Option (List Rt)
  | [] => none
  | c :: r => (match (bif Nat.beq c.1 m then appC Wc c C av ov else none) with
    | some L => some L
    | none => appK Wc m C av ov r)
/-- the receiver may vary; a text's is one of the four -/
def rcvT (C : Cx) (kd w : Nat) (av : List AV) : Bool := match kd with
  | 0 => (match av with
    | .inr (.inr p) :: _ => (Nat.blt (w % 16) 9 && (rowT C p (w % 16)).isSome) || (Nat.beq (w % 16) 12 && (match cst C p with
      | some c => leZ 1010 c && leZ c 1013
      | none => false))
    | _ => false)
  | 1 => true
  | 2 => (match av with
    | .inr (.inr _) :: _ => true
    | _ => false)
  | _ => false
def callT (e : E6) (C : Cx) (st : List AV) : Option (Nat × List AV × List AV) :=
  bif Nat.beq e.2.1 3 && (Nat.beq e.2.2.1 1 && (Nat.ble e.2.2.2.2.1 st.length && (Nat.ble (catsA (st.drop e.2.2.2.2.1)) 8 && rcvT C (kdI e.1) e.2.2.2.2.2 (st.take e.2.2.2.2.1).reverse))) then
    some (e.2.2.2.1, (st.take e.2.2.2.2.1).reverse, st.drop e.2.2.2.2.1) else none
/-- where a loop's body is run for each number of a local by itself: the clause's numbers -/
def splT (m : Nat) (G : AS) : List AS := bif Nat.beq m 196 && Nat.beq G.2.1 18 then (match nth G.2.2.1 2 with
  | some (.inr (.inl p)) => bif inS G.1 p (some (0, 5)) then (List.range 6).flatMap (fun (t : Nat) => (brEq G.1 (apSub p (apC (t : Int)))).filterMap (fun q => bif q.2 then some (q.1, G.2) else none)) else [G]
  | _ => [G]) else [G]
def runT (P : RGt) (Z : Option ZT) (K : List Con) (Wc : WrT) (T : Nat → AS → Option LpT) (f : Nat) : Nat → MT → List Nat → Bool → AS → Option (List Oc) := Nat.rec (fun _ _ _ _ _ => none) (fun _ rec m t stops fr A =>
  bif !fr && memN stops A.2.1 then some [.inl A] else
    match (bif fr then none else T m A) with
    | some sp => loopT P sp (fun G => bindL (rec m t (A.2.1 :: stops) true) (splT m G)) A
    | none => match pI t A.2.1 with
      | none => none
      | some e => match stT P Z (mO m) e.1 e.2.1 e.2.2.1 e.2.2.2.1 e.2.2.2.2.1 e.2.2.2.2.2 A.1 A.2.1 A.2.2.1 A.2.2.2.1 A.2.2.2.2 with
        | some L => bindL (rec m t stops false) L
        | none => match callT e A.1 A.2.2.2.1 with
          | some q => (match (match appK Wc q.1 A.1 q.2.1 A.2.2.2.2 K with
              | some rs => some rs
              | none => match pTm q.1, enA e.2.2.2.2.2 q.2.1 with
                | some t', some l0 => (match rec q.1 t' [] false (A.1, 0, l0, [], A.2.2.2.2) with
                  | some L => bindL toRt L
                  | none => none)
                | _, _ => none) with
            | some rs => bindL (fun r => rec m t stops false (r.1, A.2.1 + 3, A.2.2.1, r.2.1.toList ++ q.2.2, r.2.2)) rs
            | none => none)
          | none => match retA e A.1 A.2.2.2.1 with
            | some v => some [.inr (A.1, v, A.2.2.2.2)]
            | none => none) f
theorem runT_succ (P : RGt) (Z : Option ZT) (K : List Con) (Wc : WrT) (T : Nat → AS → Option LpT) (f m : Nat) (t : MT) (stops : List Nat) (fr : Bool) (A : AS) : runT P Z K Wc T (f + 1) m t stops fr A =
  bif !fr && memN stops A.2.1 then some [.inl A] else
    match (bif fr then none else T m A) with
    | some sp => loopT P sp (fun G => bindL (runT P Z K Wc T f m t (A.2.1 :: stops) true) (splT m G)) A
    | none => match pI t A.2.1 with
      | none => none
      | some e => match stT P Z (mO m) e.1 e.2.1 e.2.2.1 e.2.2.2.1 e.2.2.2.2.1 e.2.2.2.2.2 A.1 A.2.1 A.2.2.1 A.2.2.2.1 A.2.2.2.2 with
        | some L => bindL (runT P Z K Wc T f m t stops false) L
        | none => match callT e A.1 A.2.2.2.1 with
          | some q => (match (match appK Wc q.1 A.1 q.2.1 A.2.2.2.2 K with
              | some rs => some rs
              | none => match pTm q.1, enA e.2.2.2.2.2 q.2.1 with
                | some t', some l0 => (match runT P Z K Wc T f q.1 t' [] false (A.1, 0, l0, [], A.2.2.2.2) with
                  | some L => bindL toRt L
                  | none => none)
                | _, _ => none) with
            | some rs => bindL (fun r => runT P Z K Wc T f m t stops false (r.1, A.2.1 + 3, A.2.2.1, r.2.1.toList ++ q.2.2, r.2.2)) rs
            | none => none)
          | none => match retA e A.1 A.2.2.2.1 with
            | some v => some [.inr (A.1, v, A.2.2.2.2)]
            | none => none := rfl
