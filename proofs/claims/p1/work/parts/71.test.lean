/-! ===== A PLACE OF spot, WHATEVER IT IS ===== -/
def Cs : Cx := ([none, none, none, none, none, none, none, none, some (0, 7), some (0, 7), some (1, 4), some (1, 4), some (1, 4), some (1, 999)], [])
def pPl : AP := apAdd (apMul (apC 8) (apV 9)) (apV 8)
def pSz : AP := apAdd (apAdd (apMul (apC 100) (apV 10)) (apMul (apC 10) (apV 11))) (apV 12)
def F104 : OV := [(258, apC 0), (259, apC 0), (2816, apC 0), (3072, apC 0), (3328, apC 0), (3584, apC 0), (3840, apC 0), (4096, apC 0), (4352, apC 0), (54784, apC 0), (54785, apC 0)]
/-- x and w together, less 8; y and d together, less 8 -/
def pXW : AP := apAdd (apAdd (apV 8) (apV 10)) (apC (-8))
def pYD : AP := apAdd (apAdd (apV 9) (apV 11)) (apC (-8))
def le0 (C : Cx) (p : AP) : Bool := match ivP C p with
  | some q => leZ q.2 0
  | none => false
def ge1 (C : Cx) (p : AP) : Bool := match ivP C p with
  | some q => leZ 1 q.1
  | none => false
/-- 1 where it fits, 0 where it does not -/
def fitO (F : OV) (o : Oc) : Bool := match o with
  | .inl _ => false
  | .inr r => (match r.2.1 with
    | some (.inl p) => (match cst r.1 p with
      | some x => ((eqZ x 1 && (le0 r.1 pXW && le0 r.1 pYD)) || (eqZ x 0 && (ge1 r.1 pXW || ge1 r.1 pYD))) && mtO r.2.2 F
      | none => false)
    | _ => false)
def a104 : List AV := [.inr (.inr (apC 0)), .inl pPl, .inl pSz, .inl (apV 13)]
def a189 : List AV := [.inr (.inr (apC 213)), .inl (apV 8), .inl (apV 9), .inl pSz, .inl (apV 13)]
def TLs (m : Nat) (A : AS) : Option Lp := match m with
  | 152 => none
  | _ => TL m A
def rOn (Z : ZP) (m : Nat) (t : MT) (C : Cx) (av : List AV) (F : OV) (f : Nat) : Option (List Oc) := match enA (mL m * 16) av with
  | some l0 => run PR Z noK TLs f m t [] false (C, 0, l0, [], F)
  | none => none
def r104 (Z : ZP) (f : Nat) : Option (List Oc) := rOn Z 104 pT_104 Cs a104 F104 f
def r189 (Z : ZP) (f : Nat) : Option (List Oc) := rOn Z 189 pT_189 Cs a189 F104 f
def allO (o : Option (List Oc)) (f : Oc → Bool) : Bool := match o with
  | some L => L.all f
  | none => false
set_option maxRecDepth 1000000 in
theorem r189_ok : allO (r189 Z7 20000) (fitO F104) = true := by decide +kernel
