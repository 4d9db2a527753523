/-! ===== THE FIRST CALL ON NEW OBJECTS: where the law stands behind the constructors ===== -/
def PR : RGt := (fun _ _ _ => none, fun _ _ _ _ => true)
theorem PR_ok : pOK PR := fun _ _ _ _ _ _ _ _ _ _ _ _ _ h => by cases h
theorem PR_inv (h : PH) : hInv PR h := fun _ _ _ _ _ h => by cases h
def i32v : Option IV := some (-2147483648, 2147483647)
def Z7 : ZP := ([apV 0, apV 1, apV 2, apV 3, apV 4, apV 5, apV 6], apV 7)
def C7 : Cx := ([i32v, i32v, i32v, i32v, i32v, i32v, i32v, some (0, 7)], [])
def ov0 : OV := [(7, apC 0), (258, apC 0), (259, apC 0), (2816, apC 0), (3072, apC 0), (3328, apC 0), (3584, apC 0), (3840, apC 0), (4096, apC 0), (4352, apC 0), (47873, apC 0), (52481, apC (-1)), (52482, apC 0), (52993, apC (-1)), (52994, apC 0), (53505, apC (-1)), (53506, apC 0), (54017, apC (-1)), (54018, apC 0), (54530, apC 0), (54550, apC 0), (54784, apC 0), (54785, apC 0), (58368, apC (-1)), (58624, apC 0), (58369, apC (-1)), (58625, apC 0), (58370, apC (-1)), (58626, apC 0), (58371, apC (-1)), (58627, apC 0)]
def ls0 : List AL := [.inr (.inr (.inr (apC 2000))), .inr (.inr (.inr (apC 0))), .inr (.inr (.inr (apC 213))), .inl true]
def A16 : AS := (C7, 16, ls0, [], ov0)
def cpcs : List Nat := [188, 251, 284, 327, 370, 403, 426, 459, 492, 515, 548, 592, 635, 658, 681, 704, 737, 760, 773, 796, 819, 842, 885, 918, 971, 1046, 1059, 1092, 1115, 1168, 1181, 1194, 1217, 1260, 1303]
def noK : Ct := fun _ _ _ _ => none
/-- the row that a local names -/
def lref (A : AS) (i : Nat) : Nat := match nth A.2.2.1 i with
  | some (.inr (.inr (.inr p))) => (match adr A.1 p with
    | some a => a
    | none => 999)
  | _ => 999
/-- the loops of which the runs know what they change -/
def TL (m : Nat) (A : AS) : Option Lp := match m with
  | 216 => bif Nat.beq A.2.1 5 then some ([(2, 0, some (0, 200))], [], [lref A 0], [(3, 1), (2, -1)], 0) else none
  | 152 => bif Nat.beq A.2.1 2 then some ([(2, 0, some (0, 64))], [], [217], [(2, -1)], 64) else bif Nat.beq A.2.1 23 then some ([(2, 0, some (0, 8))], [], [216], [(2, -1)], 8) else none
  | 106 => bif Nat.beq A.2.1 5 then some ([(3, 0, none), (4, 0, some (0, 30))], [5, 6], [], [(2, 1), (4, -1)], 0) else none
  | 191 => bif Nat.beq A.2.1 5 then some ([(3, 0, none), (4, 0, some (0, 30))], [5], [213, 216, 217], [(2, 1), (4, -1)], 0) else none
  | _ => none
def ckR (o : Oc) : Bool := match o with
  | .inl _ => false
  | .inr r => (match r.2.1 with
    | some (.inl p) => (match cst r.1 p with
      | some x => eqZ x 1
      | none => false)
    | _ => false)
def pro (Z : ZP) (A : AS) : Option (List Oc) := run PR Z noK TL 60 223 pT_223 cpcs true A
def csOk (Z : ZP) (A : AS) (K : Ct) (f pc : Nat) : Bool := match pro Z A with
  | some L => L.all (fun o => match o with
    | .inl B => !Nat.beq B.2.1 pc || (match run PR Z K TL f 223 pT_223 [] true B with
      | some L' => L'.all ckR
      | none => false)
    | .inr _ => true)
  | none => false
/-- of the outcomes: each is a case, or the end with 1 -/
def proOk (Z : ZP) (A : AS) : Bool := match pro Z A with
  | some L => L.all (fun o => match o with
    | .inl B => memN cpcs B.2.1
    | .inr _ => ckR o)
  | none => false
