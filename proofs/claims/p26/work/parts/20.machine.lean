/-! ===== THE PLAIN MACHINE: values are Ints (read modulo), cells are numbered, a step is a function ===== -/
abbrev PV : Type := Int ⊕ Int ⊕ Int
abbrev vI (x : Int) : PV := .inl x
abbrev vL (x : Int) : PV := .inr (.inl x)
abbrev vR (x : Int) : PV := .inr (.inr x)
abbrev PH : Type := Int → Int → Int
/-- how many cells there are, and what the reference slots hold (below 0: null) -/
abbrev PG : Type := Nat × (Int → Int → Int)
abbrev PL : Type := List (Option PV)
abbrev Cfg : Type := Nat × PL × List PV × PH × PG
abbrev Out : Type := Option PV × PH × PG
abbrev SR : Type := Cfg ⊕ (Nat × List PV × Cfg) ⊕ Out
def w32 (x : Int) : Int := (Int32.ofInt x).toInt
def w64 (x : Int) : Int := (Int64.ofInt x).toInt
def pcat (v : PV) : Nat := match v with
  | .inl _ => 1
  | .inr (.inl _) => 2
  | .inr (.inr _) => 1
def pcats (st : List PV) : Nat := (st.map pcat).sum
def u2 (h : Int → Int → Int) (a k v : Int) : Int → Int → Int := fun b j => if b = a then (if j = k then v else h b j) else h b j
def nx (pc : Nat) (ls : PL) (st : List PV) (h : PH) (g : PG) : Option SR := some (.inl (pc, ls, st, h, g))
def andI (x y : Int) : Int := (Int32.ofInt x &&& Int32.ofInt y).toInt
def orI (x y : Int) : Int := (Int32.ofInt x ||| Int32.ofInt y).toInt
def xorI (x y : Int) : Int := (Int32.ofInt x ^^^ Int32.ofInt y).toInt
def shlI (x y : Int) : Int := (Int32.ofInt x <<< (Int32.ofInt y &&& 31)).toInt
def shrI (x y : Int) : Int := (Int32.ofInt x >>> (Int32.ofInt y &&& 31)).toInt
def ushrI (x y : Int) : Int := ((Int32.ofInt x).toUInt32 >>> ((Int32.ofInt y).toUInt32 &&& Int32.toUInt32 31)).toInt32.toInt
def divI (x y : Int) : Int := (Int32.ofInt x / Int32.ofInt y).toInt
def remI (x y : Int) : Int := (Int32.ofInt x - Int32.ofInt x / Int32.ofInt y * Int32.ofInt y).toInt
def divL (x y : Int) : Int := (Int64.ofInt x / Int64.ofInt y).toInt
def remL (x y : Int) : Int := (Int64.ofInt x - Int64.ofInt x / Int64.ofInt y * Int64.ofInt y).toInt
def i2bI (x : Int) : Int := (Int32.ofInt x).toInt8.toInt32.toInt
def i2cI (x : Int) : Int := ((Int32.ofInt x).toUInt32 % 65536).toInt32.toInt
def cmpL (x y : Int) : Int := if w64 y < w64 x then 1 else if w64 x = w64 y then 0 else -1
def bI (f : Int → Int → Int) (pc : Nat) (ls : PL) (st : List PV) (h : PH) (g : PG) : Option SR := match st with
  | .inl y :: .inl x :: st => nx (pc + 1) ls (.inl (f x y) :: st) h g
  | _ => none
def bL (f : Int → Int → Int) (pc : Nat) (ls : PL) (st : List PV) (h : PH) (g : PG) : Option SR := match st with
  | .inr (.inl y) :: .inr (.inl x) :: st => nx (pc + 1) ls (.inr (.inl (f x y)) :: st) h g
  | _ => none
def qI (f : Int → Int → Int) (pc : Nat) (ls : PL) (st : List PV) (h : PH) (g : PG) : Option SR := match st with
  | .inl y :: .inl x :: st => if w32 y = 0 then none else nx (pc + 1) ls (.inl (f x y) :: st) h g
  | _ => none
def qL (f : Int → Int → Int) (pc : Nat) (ls : PL) (st : List PV) (h : PH) (g : PG) : Option SR := match st with
  | .inr (.inl y) :: .inr (.inl x) :: st => if w64 y = 0 then none else nx (pc + 1) ls (.inr (.inl (f x y)) :: st) h g
  | _ => none
def uI (f : Int → Int) (pc : Nat) (ls : PL) (st : List PV) (h : PH) (g : PG) : Option SR := match st with
  | .inl x :: st => nx (pc + 1) ls (.inl (f x) :: st) h g
  | _ => none
def tgtOf (pc : Nat) (off : Int) : Nat := ((pc : Int) + off).toNat
def jmp (pc : Nat) (off : Int) (ls : PL) (st : List PV) (h : PH) (g : PG) : Option SR := if 0 ≤ (pc : Int) + off then nx (tgtOf pc off) ls st h g else none
def ccmp (c : ClassFile.Cond) (x y : Int) : Bool := match c with
  | .eq => decide (w32 x = w32 y)
  | .ne => !decide (w32 x = w32 y)
  | .lt => decide (w32 x < w32 y)
  | .ge => !decide (w32 x < w32 y)
  | .gt => decide (w32 y < w32 x)
  | .le => !decide (w32 y < w32 x)
def jc (c : ClassFile.Cond) (x y : Int) (pc : Nat) (off : Int) (ls : PL) (st : List PV) (h : PH) (g : PG) : Option SR :=
  if 0 ≤ (pc : Int) + off then (if ccmp c x y = true then nx (tgtOf pc off) ls st h g else nx (pc + 3) ls st h g) else none
def lget (ls : PL) (i : Nat) : Option PV := (ls[i]?).join
def ldv (i len pc : Nat) (k : Nat) (ls : PL) (st : List PV) (h : PH) (g : PG) : Option SR := match lget ls i, k with
  | some (.inl x), 0 => nx (pc + len) ls (.inl x :: st) h g
  | some (.inr (.inl x)), 1 => nx (pc + len) ls (.inr (.inl x) :: st) h g
  | some (.inr (.inr x)), 2 => nx (pc + len) ls (.inr (.inr x) :: st) h g
  | _, _ => none
/-- no long stands just before slot i -/
def lfree (ls : PL) (i : Nat) : Bool := match i with
  | 0 => true
  | j + 1 => match lget ls j with
    | some v => decide (pcat v = 1)
    | none => true
def st1 (i len pc : Nat) (v : PV) (ls : PL) (st : List PV) (h : PH) (g : PG) : Option SR :=
  if i < ls.length ∧ lfree ls i = true then nx (pc + len) (ls.set i (some v)) st h g else none
def st2 (i len pc : Nat) (v : PV) (ls : PL) (st : List PV) (h : PH) (g : PG) : Option SR :=
  if i + 1 < ls.length ∧ lfree ls i = true then nx (pc + len) ((ls.set i (some v)).set (i + 1) none) st h g else none
def stv (i len pc : Nat) (k : Nat) (ls : PL) (st : List PV) (h : PH) (g : PG) : Option SR := match st, k with
  | .inl x :: st, 0 => st1 i len pc (.inl x) ls st h g
  | .inr (.inl x) :: st, 1 => st2 i len pc (.inr (.inl x)) ls st h g
  | .inr (.inr x) :: st, 2 => st1 i len pc (.inr (.inr x)) ls st h g
  | _, _ => none
/-! cells -/
def sid (a : Int) : Nat × Nat := if 0 ≤ a ∧ a < 1000 then shL.getD a.toNat (99, 0) else (99, 0)
/-- cell a is there and of kind k -/
def isO (a : Int) (k n : Nat) : Bool := decide (0 ≤ a) && (decide (a < n) && decide ((sid a).1 = k))
def alen (a : Int) : Nat := (sid a).2
/-- kinds and lengths of the rows that nobody writes: 1000, 1001 the class's tables, 1020 .. the texts' bytes, 2000 the script z, its length z (-1) -/
def roK (a : Int) : Nat := if a = 1000 ∨ a = 1001 ∨ a = 2000 then 10 else if 1020 ≤ a ∧ a < 1024 then 17 else 99
def roT : List (Int × List Int) := [(1000, [-1, 0, 0, 1, 0, 2]), (1001, [5, 3, 3, 1]), (1020, [98, 111, 120]), (1021, [107, 105, 110, 100]), (1022, [119, 101, 105, 103, 104]), (1023, [111, 102, 102])]
def roL (a : Int) : List Int := match roT.find? (fun q => q.1 == a) with
  | some q => q.2
  | none => []
def roN (z : Int → Int) (a : Int) : Int := if a = 2000 then z (-1) else ((roL a).length : Int)
def roV (z : Int → Int) (a i : Int) : Int := if a = 2000 then z i else (roL a).getD i.toNat 0
def fldT (o i : Nat) : Option (Nat × Nat × Nat) := (fldL.find? (fun e => e.1 == o && e.2.1 == i)).map (fun e => (e.2.2.1, e.2.2.2.1, e.2.2.2.2.1))
def mthT (o i : Nat) : Option (Nat × Nat) := (mthL.find? (fun e => e.1 == o && e.2.1 == i)).map (fun e => (e.2.2.1, e.2.2.2.1))
def cstT (o i : Nat) : Option Int := (cstL.find? (fun e => e.1 == o && e.2.1 == i)).map (fun e => e.2.2.1)
def clgT (o i : Nat) : Option Int := (clgL.find? (fun e => e.1 == o && e.2.1 == i)).map (fun e => e.2.2.1)
/-- which text constant (from 0) -/
def strT (o i : Nat) : Option Nat := strL.findIdx? (fun e => e.1 == o && e.2.1 == i)
def clsT (o i : Nat) : Option Nat := (clsL.find? (fun e => e.1 == o && e.2.1 == i)).map (fun e => e.2.2.1)
def bltT (o i : Nat) : Option Nat := (bltL.find? (fun e => e.1 == o && e.2.1 == i)).map (fun e => e.2.2.1)
/-- a row is read: of kind k -/
def ald (z : Int → Int) (k : Nat) (h : PH) (n : Nat) (a i : Int) : Option Int :=
  if isO a k n = true then (if 0 ≤ w32 i ∧ w32 i < alen a then some (h a (w32 i)) else none)
  else if roK a = k ∧ k < 99 then (if 0 ≤ w32 i ∧ w32 i < roN z a then some (roV z a (w32 i)) else none) else none
def aldI (z : Int → Int) (k : Nat) (pc : Nat) (ls : PL) (st : List PV) (h : PH) (g : PG) : Option SR := match st with
  | .inl i :: .inr (.inr a) :: st => match ald z k h g.1 a i with
    | some v => nx (pc + 1) ls (.inl v :: st) h g
    | none => none
  | _ => none
def aldL (pc : Nat) (ls : PL) (st : List PV) (h : PH) (g : PG) : Option SR := match st with
  | .inl i :: .inr (.inr a) :: st => if isO a 11 g.1 = true ∧ 0 ≤ w32 i ∧ w32 i < alen a then nx (pc + 1) ls (.inr (.inl (h a (w32 i))) :: st) h g else none
  | _ => none
def isQ (a : Int) (n : Nat) : Bool := isO a 13 n || (isO a 14 n || (isO a 15 n || isO a 16 n))
def aldR (pc : Nat) (ls : PL) (st : List PV) (h : PH) (g : PG) : Option SR := match st with
  | .inl i :: .inr (.inr a) :: st => if isQ a g.1 = true ∧ 0 ≤ w32 i ∧ w32 i < alen a ∧ 0 ≤ g.2 a (w32 i) then nx (pc + 1) ls (.inr (.inr (g.2 a (w32 i))) :: st) h g else none
  | _ => none
def astI (k : Nat) (ok : Int → Bool) (pc : Nat) (ls : PL) (st : List PV) (h : PH) (g : PG) : Option SR := match st with
  | .inl v :: .inl i :: .inr (.inr a) :: st => if isO a k g.1 = true ∧ 0 ≤ w32 i ∧ w32 i < alen a ∧ ok v = true then nx (pc + 1) ls st (u2 h a (w32 i) v) g else none
  | _ => none
def astL (pc : Nat) (ls : PL) (st : List PV) (h : PH) (g : PG) : Option SR := match st with
  | .inr (.inl v) :: .inl i :: .inr (.inr a) :: st => if isO a 11 g.1 = true ∧ 0 ≤ w32 i ∧ w32 i < alen a then nx (pc + 1) ls st (u2 h a (w32 i) v) g else none
  | _ => none
/-- what kind of objects a row of kind 13, 14, 15 holds -/
def eltK (k : Nat) : Nat := if k = 13 then 1 else if k = 14 then 4 else if k = 15 then 5 else 98
def astR (pc : Nat) (ls : PL) (st : List PV) (h : PH) (g : PG) : Option SR := match st with
  | .inr (.inr v) :: .inl i :: .inr (.inr a) :: st => if isO a (sid a).1 g.1 = true ∧ isO v (eltK (sid a).1) g.1 = true ∧ 0 ≤ w32 i ∧ w32 i < alen a then nx (pc + 1) ls st h (g.1, u2 g.2 a (w32 i) v) else none
  | _ => none
def alenI (z : Int → Int) (pc : Nat) (ls : PL) (st : List PV) (h : PH) (g : PG) : Option SR := match st with
  | .inr (.inr a) :: st => if isO a (sid a).1 g.1 = true ∧ 10 ≤ (sid a).1 ∧ (sid a).1 ≤ 16 then nx (pc + 1) ls (.inl (alen a) :: st) h g
    else if roK a < 99 then nx (pc + 1) ls (.inl (roN z a) :: st) h g else none
  | _ => none
def getF (o i pc : Nat) (ls : PL) (st : List PV) (h : PH) (g : PG) : Option SR := match st with
  | .inr (.inr a) :: st => match fldT o i with
    | some (c, k, _) => if isO a c g.1 = true then
        (if fty c k = 0 then nx (pc + 3) ls (.inl (h a k) :: st) h g
        else if fty c k = 1 then (if 0 ≤ g.2 a k then nx (pc + 3) ls (.inr (.inr (g.2 a k)) :: st) h g else none)
        else if fty c k = 2 then (if 0 ≤ h a k then nx (pc + 3) ls (.inr (.inr (h a k)) :: st) h g else none) else none)
        else none
    | none => if o = 12 ∧ 1010 ≤ a ∧ a < 1014 then (if i = 9 then nx (pc + 3) ls (.inr (.inr (a + 10)) :: st) h g else if i = 15 then nx (pc + 3) ls (.inl 0 :: st) h g else none) else none
  | _ => none
def putF (ini : Bool) (o i pc : Nat) (ls : PL) (st : List PV) (h : PH) (g : PG) : Option SR := match fldT o i with
  | some (c, k, _) => match st with
    | .inl v :: .inr (.inr a) :: st => if isO a c g.1 = true ∧ fty c k = 0 ∧ (v = 0 ∨ v = 1 ∨ ¬ parseFieldDescriptor ((vwCl.getD c (RX0, TX0, 0)).2.1 k).2.2.1 = some .boolean) then nx (pc + 3) ls st (u2 h a k v) g else none
    | .inr (.inr v) :: .inr (.inr a) :: st => if isO a c g.1 = true ∧ 0 ≤ v then
        (if fty c k = 1 ∧ ini = true ∧ o = c then nx (pc + 3) ls st h (g.1, u2 g.2 a k v) else if fty c k = 2 then nx (pc + 3) ls st (u2 h a k v) g else none) else none
    | _ => none
  | none => none
def getS (o i pc : Nat) (ls : PL) (st : List PV) (h : PH) (g : PG) : Option SR :=
  if o = 1 ∧ i = 60 then nx (pc + 3) ls (.inr (.inr 1000) :: st) h g
  else if o = 6 ∧ i = 49 then nx (pc + 3) ls (.inr (.inr 1001) :: st) h g
  else if o = 12 ∧ i = 38 then nx (pc + 3) ls (.inl 1 :: st) h g else none
def wipe (h : Int → Int → Int) (a : Int) (f : Int → Int) : Int → Int → Int := fun b j => if b = a then f j else h b j
def newO (o i pc : Nat) (ls : PL) (st : List PV) (h : PH) (g : PG) : Option SR := match clsT o i with
  | some c => if c < 9 ∧ g.1 < nCell ∧ shL.getD g.1 (99, 0) = (c, (vwCl.getD c (RX0, TX0, 0)).2.2) then
      nx (pc + 3) ls (.inr (.inr g.1) :: st) (wipe h g.1 (fun j => if fty c j.toNat = 2 then -1 else 0)) (g.1 + 1, wipe g.2 g.1 (fun _ => -1)) else none
  | none => none
def newA (k len pc : Nat) (ls : PL) (st : List PV) (h : PH) (g : PG) : Option SR := match st with
  | .inl x :: st => if 0 ≤ x ∧ x ≤ 1000 ∧ g.1 < nCell ∧ shL.getD g.1 (99, 0) = (k, x.toNat) then
      nx (pc + len) ls (.inr (.inr g.1) :: st) (wipe h g.1 (fun _ => 0)) (g.1 + 1, wipe g.2 g.1 (fun _ => -1)) else none
  | _ => none
def aRow (c : Nat) : Nat := if c = 1 then 13 else if c = 4 then 14 else if c = 5 then 15 else 97
def newM (pc : Nat) (ls : PL) (st : List PV) (h : PH) (g : PG) : Option SR := match st with
  | .inl k :: .inl x :: st => if 0 ≤ x ∧ x ≤ 100 ∧ 0 ≤ k ∧ k ≤ 100 ∧ g.1 + x.toNat < nCell ∧ shL.getD g.1 (99, 0) = (16, x.toNat) ∧ (List.range x.toNat).all (fun j => shL.getD (g.1 + 1 + j) (99, 0) == (10, k.toNat)) = true then
      nx (pc + 4) ls (.inr (.inr g.1) :: st) (fun b j => if (g.1 : Int) ≤ b ∧ b ≤ g.1 + x then 0 else h b j) (g.1 + 1 + x.toNat, fun b j => if b = (g.1 : Int) then (if 0 ≤ j ∧ j < x then g.1 + 1 + j else -1) else if (g.1 : Int) < b ∧ b ≤ g.1 + x then -1 else g.2 b j) else none
  | _ => none
def slotsOf : List PV → PL
  | [] => []
  | v :: r => if pcat v = 2 then some v :: none :: slotsOf r else some v :: slotsOf r
def entryL (m : Nat) (av : List PV) : Option PL := if (slotsOf av).length ≤ mL m then some (slotsOf av ++ List.replicate (mL m - (slotsOf av).length) none) else none
def isRecv (a : Int) (m n : Nat) : Bool := (decide (mO m < 9) && isO a (mO m) n) || (decide (mO m = 12) && (decide (1010 ≤ a) && decide (a < 1014)))
/-- a call: the values that it takes lie on the stack, the last one on top -/
def doCall (ks : List Nat) (mm o i pc : Nat) (ls : PL) (st : List PV) (h : PH) (g : PG) : Option SR := match mthT o i with
  | some (m, _) => if m < nMeth ∧ mF m + 1 ≤ mF mm ∧ 8 + (mL m + 11) + mW m ≤ mW mm ∧ mK m ∈ ks ∧ mN m ≤ st.length ∧ pcats (st.drop (mN m)) ≤ 8 then match (st.take (mN m)).reverse with
      | .inr (.inr a) :: r => if mK m = 0 ∧ isRecv a m g.1 = false then none else some (.inr (.inl (m, .inr (.inr a) :: r, (pc + 3, ls, st.drop (mN m), h, g))))
      | av => if mK m = 1 then some (.inr (.inl (m, av, (pc + 3, ls, st.drop (mN m), h, g)))) else none
      else none
  | none => none
def cpyH (h : PH) (a i b j n : Int) : PH := fun c k => if c = b then (if j ≤ k ∧ k < j + n then h a (i + (k - j)) else h c k) else h c k
def doBlt (mm o i pc : Nat) (ls : PL) (st : List PV) (h : PH) (g : PG) : Option SR := if 3 ≤ mF mm ∧ 100 ≤ mW mm then (match bltT o i with
  | some 1 => match st with
    | .inr (.inr _) :: st => if pcats st ≤ 8 then nx (pc + 3) ls st h g else none
    | _ => none
  | some 2 => match st with
    | .inl n :: .inl j :: .inr (.inr b) :: .inl i :: .inr (.inr a) :: st => if isO a 10 g.1 = true ∧ isO b 10 g.1 = true ∧ 0 ≤ w32 i ∧ 0 ≤ w32 j ∧ 0 ≤ w32 n ∧ w32 i + w32 n ≤ alen a ∧ w32 j + w32 n ≤ alen b ∧ pcats st ≤ 8 then nx (pc + 3) ls st (cpyH h a (w32 i) b (w32 j) (w32 n)) g else none
    | _ => none
  | some 4 => match st with
    | .inl y :: .inl x :: st => if pcats st ≤ 8 then nx (pc + 3) ls (.inl (if w32 x < w32 y then y else x) :: st) h g else none
    | _ => none
  | some 3 => match st with
    | .inl n :: .inl i :: st => if 0 ≤ w32 i ∧ w32 i < w32 n ∧ pcats st ≤ 8 then nx (pc + 3) ls st h g else none
    | _ => none
  | _ => none) else none
def retI (m : Nat) (st : List PV) (h : PH) (g : PG) : Option SR := match st with
  | [.inl x] => match mR m with
    | some .int => some (.inr (.inr (some (.inl x), h, g)))
    | some .boolean => if x = 0 ∨ x = 1 then some (.inr (.inr (some (.inl x), h, g))) else none
    | some .char => if 0 ≤ x ∧ x ≤ 65535 then some (.inr (.inr (some (.inl x), h, g))) else none
    | some .byte => if -128 ≤ x ∧ x ≤ 127 then some (.inr (.inr (some (.inl x), h, g))) else none
    | _ => none
  | _ => none
def retL (m : Nat) (st : List PV) (h : PH) (g : PG) : Option SR := match st with
  | [.inr (.inl x)] => if mR m = some .long then some (.inr (.inr (some (.inr (.inl x)), h, g))) else none
  | _ => none
def retV (m : Nat) (st : List PV) (h : PH) (g : PG) : Option SR := match st with
  | [] => if mR m = none then some (.inr (.inr (none, h, g))) else none
  | _ => none
def tsw (d lo hi : Int) (os : Array Int) (pc : Nat) (ls : PL) (st : List PV) (h : PH) (g : PG) : Option SR := match st with
  | .inl x :: st => if w32 x < lo ∨ hi < w32 x then jmp pc d ls st h g else match os[(w32 x - lo).toNat]? with
    | some off => jmp pc off ls st h g
    | none => none
  | _ => none
def lsw (d : Int) (ps : Array (Int × Int)) (pc : Nat) (ls : PL) (st : List PV) (h : PH) (g : PG) : Option SR := match st with
  | .inl x :: st => if (ps.toList.zip (ps.toList.drop 1)).all (fun q => decide (q.1.1 < q.2.1)) = true then jmp pc (Op.lookupswitch.offset ps.toList d (w32 x)) ls st h g else none
  | _ => none
def iinc (i : Nat) (c : Int) (pc : Nat) (ls : PL) (st : List PV) (h : PH) (g : PG) : Option SR := match lget ls i with
  | some (.inl x) => st1 i 3 pc (.inl (x + c)) ls st h g
  | _ => none
def dup2 (pc : Nat) (ls : PL) (st : List PV) (h : PH) (g : PG) : Option SR := match st with
  | v :: w :: st => if pcat v = 1 ∧ pcat w = 1 then nx (pc + 1) ls (v :: w :: v :: w :: st) h g else none
  | _ => none
def dup1 (pc : Nat) (ls : PL) (st : List PV) (h : PH) (g : PG) : Option SR := match st with
  | v :: st => if pcat v = 1 then nx (pc + 1) ls (v :: v :: st) h g else none
  | _ => none
def pop1 (pc : Nat) (ls : PL) (st : List PV) (h : PH) (g : PG) : Option SR := match st with
  | v :: st => if pcat v = 1 then nx (pc + 1) ls st h g else none
  | _ => none
def pop22 (pc : Nat) (ls : PL) (st : List PV) (h : PH) (g : PG) : Option SR := match st with
  | v :: st => if pcat v = 2 then nx (pc + 1) ls st h g else none
  | _ => none
def dupx (pc : Nat) (ls : PL) (st : List PV) (h : PH) (g : PG) : Option SR := match st with
  | v :: w :: st => if pcat v = 1 ∧ pcat w = 1 then nx (pc + 1) ls (v :: w :: v :: st) h g else none
  | _ => none
def i2lI (pc : Nat) (ls : PL) (st : List PV) (h : PH) (g : PG) : Option SR := match st with
  | .inl x :: st => nx (pc + 1) ls (.inr (.inl (w32 x)) :: st) h g
  | _ => none
def l2iI (pc : Nat) (ls : PL) (st : List PV) (h : PH) (g : PG) : Option SR := match st with
  | .inr (.inl x) :: st => nx (pc + 1) ls (.inl x :: st) h g
  | _ => none
def negL (pc : Nat) (ls : PL) (st : List PV) (h : PH) (g : PG) : Option SR := match st with
  | .inr (.inl x) :: st => nx (pc + 1) ls (.inr (.inl (-x)) :: st) h g
  | _ => none
def lcmpI (pc : Nat) (ls : PL) (st : List PV) (h : PH) (g : PG) : Option SR := match st with
  | .inr (.inl y) :: .inr (.inl x) :: st => nx (pc + 1) ls (.inl (cmpL x y) :: st) h g
  | _ => none
/-- one instruction, of length len, of method m -/
def xi (z : Int → Int) (m : Nat) (i : Instr) (len pc : Nat) (ls : PL) (st : List PV) (h : PH) (g : PG) : Option SR :=
  match i with
  | .iconst c => if len = 1 then nx (pc + 1) ls (.inl c :: st) h g else none
  | .bipush c => if len = 2 ∧ -128 ≤ c ∧ c ≤ 127 then nx (pc + 2) ls (.inl c :: st) h g else none
  | .sipush c => if len = 3 ∧ -32768 ≤ c ∧ c ≤ 32767 then nx (pc + 3) ls (.inl c :: st) h g else none
  | .lconst c => if len = 1 then nx (pc + 1) ls (.inr (.inl ((c : Nat) : Int)) :: st) h g else none
  | .iload_n k => if len = 1 then ldv k 1 pc 0 ls st h g else none
  | .iload k => if len = 2 then ldv k 2 pc 0 ls st h g else none
  | .lload_n k => if len = 1 then ldv k 1 pc 1 ls st h g else none
  | .lload k => if len = 2 then ldv k 2 pc 1 ls st h g else none
  | .aload_n k => if len = 1 then ldv k 1 pc 2 ls st h g else none
  | .aload k => if len = 2 then ldv k 2 pc 2 ls st h g else none
  | .istore_n k => if len = 1 then stv k 1 pc 0 ls st h g else none
  | .istore k => if len = 2 then stv k 2 pc 0 ls st h g else none
  | .lstore_n k => if len = 1 then stv k 1 pc 1 ls st h g else none
  | .lstore k => if len = 2 then stv k 2 pc 1 ls st h g else none
  | .astore_n k => if len = 1 then stv k 1 pc 2 ls st h g else none
  | .astore k => if len = 2 then stv k 2 pc 2 ls st h g else none
  | .iinc k c => if len = 3 then iinc k c pc ls st h g else none
  | .iadd => if len = 1 then bI (· + ·) pc ls st h g else none
  | .isub => if len = 1 then bI (· - ·) pc ls st h g else none
  | .imul => if len = 1 then bI (· * ·) pc ls st h g else none
  | .iand => if len = 1 then bI andI pc ls st h g else none
  | .ior => if len = 1 then bI orI pc ls st h g else none
  | .ixor => if len = 1 then bI xorI pc ls st h g else none
  | .ishl => if len = 1 then bI shlI pc ls st h g else none
  | .ishr => if len = 1 then bI shrI pc ls st h g else none
  | .iushr => if len = 1 then bI ushrI pc ls st h g else none
  | .idiv => if len = 1 then qI divI pc ls st h g else none
  | .irem => if len = 1 then qI remI pc ls st h g else none
  | .ineg => if len = 1 then uI (- ·) pc ls st h g else none
  | .i2b => if len = 1 then uI i2bI pc ls st h g else none
  | .i2c => if len = 1 then uI i2cI pc ls st h g else none
  | .i2l => if len = 1 then i2lI pc ls st h g else none
  | .l2i => if len = 1 then l2iI pc ls st h g else none
  | .ladd => if len = 1 then bL (· + ·) pc ls st h g else none
  | .lsub => if len = 1 then bL (· - ·) pc ls st h g else none
  | .lmul => if len = 1 then bL (· * ·) pc ls st h g else none
  | .ldiv => if len = 1 then qL divL pc ls st h g else none
  | .lrem => if len = 1 then qL remL pc ls st h g else none
  | .lneg => if len = 1 then negL pc ls st h g else none
  | .lcmp => if len = 1 then lcmpI pc ls st h g else none
  | .dup => if len = 1 then dup1 pc ls st h g else none
  | .dup2 => if len = 1 then dup2 pc ls st h g else none
  | .pop => if len = 1 then pop1 pc ls st h g else none
  | .pop2 => if len = 1 then pop22 pc ls st h g else none
  | .dup_x1 => if len = 1 then dupx pc ls st h g else none
  | .goto off => if len = 3 then jmp pc off ls st h g else none
  | .ifCond c off => if len = 3 then (match st with
    | .inl x :: st => jc c x 0 pc off ls st h g
    | _ => none) else none
  | .if_icmp c off => if len = 3 then (match st with
    | .inl y :: .inl x :: st => jc c x y pc off ls st h g
    | _ => none) else none
  | .tableswitch d lo hi os => tsw d lo hi os pc ls st h g
  | .lookupswitch d ps => lsw d ps pc ls st h g
  | .iaload => if len = 1 then aldI z 10 pc ls st h g else none
  | .baload => if len = 1 then aldI z 17 pc ls st h g else none
  | .caload => if len = 1 then aldI z 12 pc ls st h g else none
  | .laload => if len = 1 then aldL pc ls st h g else none
  | .aaload => if len = 1 then aldR pc ls st h g else none
  | .iastore => if len = 1 then astI 10 (fun _ => true) pc ls st h g else none
  | .castore => if len = 1 then astI 12 (fun v => decide (0 ≤ v ∧ v ≤ 65535)) pc ls st h g else none
  | .lastore => if len = 1 then astL pc ls st h g else none
  | .aastore => if len = 1 then astR pc ls st h g else none
  | .arraylength => if len = 1 then alenI z pc ls st h g else none
  | .getfield k => if len = 3 then getF (mO m) k pc ls st h g else none
  | .putfield k => if len = 3 then putF (decide (mK m = 2)) (mO m) k pc ls st h g else none
  | .getstatic k => if len = 3 then getS (mO m) k pc ls st h g else none
  | .ldc k => if len = 2 then (match cstT (mO m) k with
    | some v => nx (pc + 2) ls (.inl v :: st) h g
    | none => match strT (mO m) k with
      | some q => nx (pc + 2) ls (.inr (.inr (1010 + (q : Int))) :: st) h g
      | none => none) else none
  | .ldc_w k => if len = 3 then (match cstT (mO m) k with
    | some v => nx (pc + 3) ls (.inl v :: st) h g
    | none => none) else none
  | .ldc2_w k => if len = 3 then (match clgT (mO m) k with
    | some v => nx (pc + 3) ls (.inr (.inl v) :: st) h g
    | none => none) else none
  | .new k => if len = 3 then newO (mO m) k pc ls st h g else none
  | .newarray t => if len = 2 then (match t with
    | .int => newA 10 2 pc ls st h g
    | .long => newA 11 2 pc ls st h g
    | .char => newA 12 2 pc ls st h g
    | _ => none) else none
  | .anewarray k => if len = 3 then (match clsT (mO m) k with
    | some c => newA (aRow c) 3 pc ls st h g
    | none => none) else none
  | .multianewarray k d => if len = 4 ∧ d = 2 ∧ clsT (mO m) k = some 16 then newM pc ls st h g else none
  | .invokevirtual k => if len = 3 then doCall [0] m (mO m) k pc ls st h g else none
  | .invokestatic k => if len = 3 then (if bltT (mO m) k = none then doCall [1] m (mO m) k pc ls st h g else if bltT (mO m) k = some 1 then none else doBlt m (mO m) k pc ls st h g) else none
  | .invokespecial k => if len = 3 then (if bltT (mO m) k = none then doCall [2] m (mO m) k pc ls st h g else if bltT (mO m) k = some 1 then doBlt m (mO m) k pc ls st h g else none) else none
  | .ireturn => if len = 1 then retI m st h g else none
  | .lreturn => if len = 1 then retL m st h g else none
  | .return_ => if len = 1 then retV m st h g else none
  | _ => none
def xs (z : Int → Int) (m : Nat) (c : Cfg) : Option SR := match decode (mC m) c.1 with
  | .ok (i, len) => xi z m i len c.1 c.2.1 c.2.2.1 c.2.2.2.1 c.2.2.2.2
  | .error _ => none
def ex (z : Int → Int) : Nat → Nat → Cfg → Option Out
  | 0, _, _ => none
  | f + 1, m, c => match xs z m c with
    | none => none
    | some (.inl c') => ex z f m c'
    | some (.inr (.inl (m', av, c'))) => match entryL m' av with
      | none => none
      | some l0 => match ex z f m' (0, l0, [], c'.2.2.2.1, c'.2.2.2.2) with
        | none => none
        | some (v, h', g') => ex z f m (c'.1, c'.2.1, v.toList ++ c'.2.2.1, h', g')
    | some (.inr (.inr o)) => some o
theorem ex_mono1 (z : Int → Int) : ∀ (f m : Nat) (c : Cfg) (o : Out), ex z f m c = some o → ex z (f + 1) m c = some o := by
  intro f
  induction f with
  | zero => intro m c o h; simp [ex] at h
  | succ f ih =>
    intro m c o h
    rw [ex] at h ⊢
    cases he : xs z m c with
    | none => rw [he] at h; cases h
    | some r =>
      rw [he] at h
      rcases r with c' | ⟨m', av, c'⟩ | o'
      · exact ih _ _ _ h
      · simp only at h ⊢
        cases hl : entryL m' av with
        | none => rw [hl] at h; cases h
        | some l0 =>
          rw [hl] at h
          simp only at h ⊢
          cases hc : ex z f m' (0, l0, [], c'.2.2.2.1, c'.2.2.2.2) with
          | none => rw [hc] at h; cases h
          | some q =>
            rw [hc] at h
            rw [ih _ _ _ hc]
            exact ih _ _ _ h
      · exact h
theorem ex_mono (z : Int → Int) {f f' m : Nat} {c : Cfg} {o : Out} (hf : f ≤ f') (h : ex z f m c = some o) : ex z f' m c = some o := by
  induction hf with
  | refl => exact h
  | step _ ih => exact ex_mono1 z _ _ _ _ ih
theorem ex_det (z : Int → Int) {f f' m : Nat} {c : Cfg} {o o' : Out} (h : ex z f m c = some o) (h' : ex z f' m c = some o') : o = o' := by
  have a := ex_mono z (Nat.le_max_left f f') h
  have b := ex_mono z (Nat.le_max_right f f') h'
  exact Option.some.inj (a.symm.trans b)
/-- what a method's run comes to from a place on, if it comes to an end -/
noncomputable def XC (z : Int → Int) (m : Nat) (c : Cfg) : Option Out := @dite _ (∃ (f : Nat) (o : Out), ex z f m c = some o) (Classical.propDecidable _) (fun hx => some (Classical.choose (Classical.choose_spec hx))) (fun _ => none)
theorem XC_of (z : Int → Int) {f m : Nat} {c : Cfg} {o : Out} (h : ex z f m c = some o) : XC z m c = some o := by
  have hx : ∃ (f : Nat) (o : Out), ex z f m c = some o := ⟨f, o, h⟩
  unfold XC
  rw [dif_pos hx]
  exact congrArg some (ex_det z (Classical.choose_spec (Classical.choose_spec hx)) h)
theorem XC_some (z : Int → Int) {m : Nat} {c : Cfg} {o : Out} (h : XC z m c = some o) : ∃ f, ex z f m c = some o := by
  unfold XC at h
  split at h
  · rename_i hx
    rw [← Option.some.inj h]
    exact ⟨_, Classical.choose_spec (Classical.choose_spec hx)⟩
  · cases h
theorem XC_eq (z : Int → Int) {m m' : Nat} {c c' : Cfg} (h : ∀ o, (∃ f, ex z f m c = some o) ↔ ∃ f, ex z f m' c' = some o) : XC z m c = XC z m' c' := by
  cases h1 : XC z m c with
  | some o =>
    obtain ⟨f, hf⟩ := (h o).mp (XC_some z h1)
    exact (XC_of z hf).symm
  | none =>
    cases h2 : XC z m' c' with
    | none => rfl
    | some o =>
      obtain ⟨f, hf⟩ := (h o).mpr (XC_some z h2)
      rw [XC_of z hf] at h1
      cases h1
theorem XC_next (z : Int → Int) {m : Nat} {c c' : Cfg} (h : xs z m c = some (.inl c')) : XC z m c = XC z m c' := by
  refine XC_eq z fun o => ⟨fun ⟨f, hf⟩ => ?_, fun ⟨f, hf⟩ => ⟨f + 1, ?_⟩⟩
  · cases f with
    | zero => simp [ex] at hf
    | succ f => rw [ex, h] at hf; exact ⟨f, hf⟩
  · rw [ex, h]; exact hf
theorem XC_ret (z : Int → Int) {m : Nat} {c : Cfg} {o : Out} (h : xs z m c = some (.inr (.inr o))) : XC z m c = some o := XC_of z (f := 1) (by rw [ex, h])
theorem XC_call (z : Int → Int) {m m' : Nat} {c c' : Cfg} {av : List PV} {l0 : PL} {v : Option PV} {h' : PH} {g' : PG} (h : xs z m c = some (.inr (.inl (m', av, c')))) (hl : entryL m' av = some l0) (hc : XC z m' (0, l0, [], c'.2.2.2.1, c'.2.2.2.2) = some (v, h', g')) :
    XC z m c = XC z m (c'.1, c'.2.1, v.toList ++ c'.2.2.1, h', g') := by
  obtain ⟨f0, hf0⟩ := XC_some z hc
  refine XC_eq z fun o => ⟨fun ⟨f, hf⟩ => ?_, fun ⟨f, hf⟩ => ⟨max f f0 + 1, ?_⟩⟩
  · cases f with
    | zero => simp [ex] at hf
    | succ f =>
      rw [ex, h] at hf
      simp only [hl] at hf
      cases hq : ex z f m' (0, l0, [], c'.2.2.2.1, c'.2.2.2.2) with
      | none => rw [hq] at hf; cases hf
      | some q =>
        rw [hq] at hf
        cases ex_det z hq hf0
        exact ⟨f, hf⟩
  · rw [ex, h]
    simp only [hl, ex_mono z (Nat.le_max_right f f0) hf0]
    exact ex_mono z (Nat.le_max_left f f0) hf
/-- a method's answer: what it returns, and the cells behind it -/
noncomputable def CALL (z : Int → Int) (m : Nat) (av : List PV) (h : PH) (g : PG) : Option Out := match entryL m av with
  | some l0 => XC z m (0, l0, [], h, g)
  | none => none
