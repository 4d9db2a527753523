/-! ===== ABSTRACT READING AND WRITING OF CELLS ===== -/
def shC : List (List (Nat × Nat)) := [[(7, 8), (3, 4), (13, 7), (16, 7), (10, 7), (10, 7), (10, 7), (10, 7), (10, 7), (10, 7), (10, 7), (1, 9), (1, 9), (1, 9), (1, 9), (1, 9)],
  [(1, 9), (1, 9), (3, 4), (13, 7), (16, 7), (10, 7), (10, 7), (10, 7), (10, 7), (10, 7), (10, 7), (10, 7), (1, 9), (1, 9), (1, 9), (1, 9)],
  [(1, 9), (1, 9), (1, 9), (3, 4), (13, 7), (16, 7), (10, 7), (10, 7), (10, 7), (10, 7), (10, 7), (10, 7), (10, 7), (1, 9), (1, 9), (1, 9)],
  [(1, 9), (1, 9), (1, 9), (1, 9), (0, 7), (10, 7), (16, 7), (10, 7), (10, 7), (10, 7), (10, 7), (10, 7), (10, 7), (10, 7), (11, 7), (11, 7)],
  [(14, 7), (3, 4), (13, 7), (16, 7), (10, 7), (10, 7), (10, 7), (10, 7), (10, 7), (10, 7), (10, 7), (1, 9), (1, 9), (1, 9), (1, 9), (1, 9)],
  [(1, 9), (1, 9), (4, 6), (10, 28), (10, 28), (10, 28), (10, 28), (4, 6), (10, 28), (10, 28), (10, 28), (10, 28), (4, 6), (10, 28), (10, 28), (10, 28)],
  [(10, 28), (4, 6), (10, 28), (10, 28), (10, 28), (10, 28), (4, 6), (10, 28), (10, 28), (10, 28), (10, 28), (4, 6), (10, 28), (10, 28), (10, 28), (10, 28)],
  [(4, 6), (10, 28), (10, 28), (10, 28), (10, 28), (2, 5), (0, 7), (10, 7), (16, 7), (10, 7), (10, 7), (10, 7), (10, 7), (10, 7), (10, 7), (10, 7)],
  [(11, 7), (11, 7), (14, 7), (3, 4), (13, 7), (16, 7), (10, 7), (10, 7), (10, 7), (10, 7), (10, 7), (10, 7), (10, 7), (1, 9), (1, 9), (1, 9)],
  [(1, 9), (1, 9), (1, 9), (1, 9), (4, 6), (10, 28), (10, 28), (10, 28), (10, 28), (4, 6), (10, 28), (10, 28), (10, 28), (10, 28), (4, 6), (10, 28)],
  [(10, 28), (10, 28), (10, 28), (4, 6), (10, 28), (10, 28), (10, 28), (10, 28), (4, 6), (10, 28), (10, 28), (10, 28), (10, 28), (4, 6), (10, 28), (10, 28)],
  [(10, 28), (10, 28), (4, 6), (10, 28), (10, 28), (10, 28), (10, 28), (10, 128), (10, 128), (10, 128), (10, 7), (6, 9), (10, 60), (10, 13), (16, 13), (10, 5)],
  [(10, 5), (10, 5), (10, 5), (10, 5), (10, 5), (10, 5), (10, 5), (10, 5), (10, 5), (10, 5), (10, 5), (10, 5), (15, 4), (5, 3), (10, 40), (5, 3)],
  [(10, 40), (5, 3), (10, 40), (5, 3), (10, 40), (8, 32), (10, 74), (10, 74), (10, 8), (10, 64), (10, 32), (10, 32), (10, 64), (10, 64), (10, 128), (10, 8)],
  [(10, 60), (10, 5), (10, 4), (12, 20), (10, 4), (10, 4), (10, 160), (10, 40)]]
def rtC : List (List (List Int)) := [[[1, 18, 35, 52, 117, 187, 204, -1], [2, 3, -1, -1], [11, 12, 13, 14, 15, 16, 17], [4, 5, 6, 7, 8, 9, 10], [], [], [], [], [], [], [], [], [], [], [], []],
  [[], [], [19, 20, -1, -1], [28, 29, 30, 31, 32, 33, 34], [21, 22, 23, 24, 25, 26, 27], [], [], [], [], [], [], [], [], [], [], []],
  [[], [], [], [36, 37, -1, -1], [45, 46, 47, 48, 49, 50, 51], [38, 39, 40, 41, 42, 43, 44], [], [], [], [], [], [], [], [], [], []],
  [[], [], [], [], [53, 54, 62, 63, 64, -1, -1], [], [55, 56, 57, 58, 59, 60, 61], [], [], [], [], [], [], [], [], []],
  [[82, 87, 92, 97, 102, 107, 112], [66, 67, -1, -1], [75, 76, 77, 78, 79, 80, 81], [68, 69, 70, 71, 72, 73, 74], [], [], [], [], [], [], [], [], [], [], [], []],
  [[], [], [83, 84, 85, 86, -1, -1], [], [], [], [], [88, 89, 90, 91, -1, -1], [], [], [], [], [93, 94, 95, 96, -1, -1], [], [], []],
  [[], [98, 99, 100, 101, -1, -1], [], [], [], [], [103, 104, 105, 106, -1, -1], [], [], [], [], [108, 109, 110, 111, -1, -1], [], [], [], []],
  [[113, 114, 115, 116, -1, -1], [], [], [], [], [118, 183, 184, 185, 186], [119, 120, 128, 129, 130, -1, -1], [], [121, 122, 123, 124, 125, 126, 127], [], [], [], [], [], [], []],
  [[], [], [148, 153, 158, 163, 168, 173, 178], [132, 133, -1, -1], [141, 142, 143, 144, 145, 146, 147], [134, 135, 136, 137, 138, 139, 140], [], [], [], [], [], [], [], [], [], []],
  [[], [], [], [], [149, 150, 151, 152, -1, -1], [], [], [], [], [154, 155, 156, 157, -1, -1], [], [], [], [], [159, 160, 161, 162, -1, -1], []],
  [[], [], [], [164, 165, 166, 167, -1, -1], [], [], [], [], [169, 170, 171, 172, -1, -1], [], [], [], [], [174, 175, 176, 177, -1, -1], [], []],
  [[], [], [179, 180, 181, 182, -1, -1], [], [], [], [], [], [], [], [], [188, -1, 189, 190, -1, -1, -1, -1, -1], [], [], [191, 192, 193, 194, 195, 196, 197, 198, 199, 200, 201, 202, 203], []],
  [[], [], [], [], [], [], [], [], [], [], [], [], [205, 207, 209, 211], [206, -1, -1], [], [208, -1, -1]],
  [[], [210, -1, -1], [], [212, -1, -1], [], [214, 215, -1, 216, 217, 218, 219, 220, 221, -1, -1, -1, -1, -1, -1, 222, 223, -1, 224, 225, 226, 227, -1, -1, -1, -1, 228, 229, 230, -1, -1, 231], [], [], [], [], [], [], [], [], [], []],
  [[], [], [], [], [], [], [], []]]
def kdA (a : Nat) : Option (Nat × Nat) := match nth shC (a / 16) with
  | some r => nth r (a % 16)
  | none => none
def rfA (a k : Nat) : Option Nat := match nth rtC (a / 16) with
  | some r => (match nth r (a % 16) with
    | some q => (match nth q k with
      | some (.ofNat n) => some n
      | _ => none)
    | none => none)
  | none => none
theorem kdA_all : (List.range 232).all (fun a => decide (kdA a = some (shL.getD a (99, 0)))) = true := by decide +kernel
def rtA (a : Nat) : Option (List Int) := match nth rtC (a / 16) with
  | some r => nth r (a % 16)
  | none => none
theorem rtA_all : (List.range 232).all (fun a => decide (rtA a = some (rtL.getD a []))) = true := by decide +kernel
theorem kdA_ok {a : Nat} (ha : a < 232) : kdA a = some (shL.getD a (99, 0)) := of_decide_eq_true (List.all_eq_true.mp kdA_all a (List.mem_range.mpr ha))
theorem rtA_ok {a : Nat} (ha : a < 232) : rtA a = some (rtL.getD a []) := of_decide_eq_true (List.all_eq_true.mp rtA_all a (List.mem_range.mpr ha))
theorem nth_get {α : Type} : ∀ {r : List α} {i : Nat} {a : α}, nth r i = some a → r[i]? = some a
  | _ :: _, 0, _, h => by cases h; rfl
  | _ :: r, i + 1, _, h => nth_get (r := r) h
  | [], _, _, h => by cases h
theorem rfA_rtab {a k n : Nat} (ha : a < 232) (h : rfA a k = some n) : rtab a k = (n : Int) := by
  have e1 : rfA a k = (match rtA a with
    | some q => (match nth q k with
      | some (.ofNat n) => some n
      | _ => none)
    | none => none) := by
    unfold rfA rtA
    cases nth rtC (a / 16) <;> rfl
  rw [e1, rtA_ok ha] at h
  simp only at h
  split at h
  · rename_i m hm
    cases h
    unfold rtab
    rw [if_pos ⟨by omega, by omega⟩, Int.toNat_natCast, Int.toNat_natCast, List.getD_eq_getElem?_getD (l := rtL.getD a []), nth_get hm]
    rfl
  · cases h
theorem sid_nat {a : Nat} (ha : a < 232) : sid (a : Int) = shL.getD a (99, 0) := by
  unfold sid
  rw [if_pos ⟨by omega, by omega⟩, Int.toNat_natCast]
theorem isO_nat {a k len n : Nat} (ha : a < 232) (hn : n = nCell) (h : kdA a = some (k, len)) : isO (a : Int) k n = true ∧ alen (a : Int) = len := by
  rw [kdA_ok ha] at h
  have h := Option.some.inj h
  unfold isO alen
  rw [sid_nat ha, h, hn]
  have : (a : Int) < (nCell : Nat) := by show (a : Int) < ((232 : Nat) : Int); omega
  refine ⟨?_, rfl⟩
  rw [Bool.and_eq_true, Bool.and_eq_true]
  exact ⟨decide_eq_true (by omega), decide_eq_true this, decide_eq_true rfl⟩
section OPS3
variable {P : RGt} {z : Int → Int} {Z : ZP} {σ : Nat → Int} {C : Cx} {pc : Nat} {ls : List AL} {st : List AV} {ov : OV} {l : PL} {s : List PV} {h : PH} {g : PG} {L : List AS}
/-- the one cell that a reference names -/
def adr (C : Cx) (p : AP) : Option Nat := match cst C p with
  | some (.ofNat n) => bif Nat.blt n 232 then some n else none
  | _ => none
theorem adr_ok (hC : satC σ C) {p : AP} {n a : Nat} {X : Int} (hp : okP σ n p X) (e : adr C p = some a) : X = (a : Int) ∧ a < 232 := by
  unfold adr at e
  split at e
  · rename_i m hm
    have k := cst_ok hC hm
    cases hk : Nat.blt m 232 with
    | false => rw [hk] at e; cases e
    | true =>
      rw [hk] at e
      cases e
      have h2 : a + 1 ≤ 232 := Nat.le_of_ble_eq_true hk
      have h3 := hp.2
      exact ⟨by rw [← h3, k]; rfl, by omega⟩
  · cases e
/-- places within 0 .. len - 1 -/
def idx (C : Cx) (p : AP) (len : Nat) : Option (Nat × Nat) := match ivP C p with
  | some q => bif leZ 0 q.1 && leZ (q.2 + 1) (len : Int) && Nat.ble len 256 then some (q.1.toNat, q.2.toNat) else none
  | none => none
theorem idx_ok (hC : satC σ C) {p : AP} {n len : Nat} {X : Int} {q : Nat × Nat} (hp : okP σ n p X) (e : idx C p len = some q) : ∃ j : Nat, X = (j : Int) ∧ w32 X = (j : Int) ∧ q.1 ≤ j ∧ j ≤ q.2 ∧ j < len ∧ len ≤ 256 ∧ q.2 < len := by
  unfold idx at e
  split at e
  · rename_i w hw
    have k := ivP_ok hC hw
    rw [hp.2] at k
    cases hk : leZ 0 w.1 && leZ (w.2 + 1) (len : Int) && Nat.ble len 256 with
    | false => rw [hk] at e; cases e
    | true =>
      rw [hk] at e
      cases e
      have hk := Bool.and_eq_true_iff.mp hk
      have h3 := Nat.le_of_ble_eq_true hk.2
      have hk := Bool.and_eq_true_iff.mp hk.1
      have h1 := leZ_iff.mp hk.1
      have h2 := leZ_iff.mp hk.2
      have hw32 : w32 X = X := e_small (by omega) (by omega)
      refine ⟨X.toNat, by omega, by rw [hw32]; omega, ?_, ?_, by omega, h3, ?_⟩
      · show w.1.toNat ≤ X.toNat; omega
      · show X.toNat ≤ w.2.toNat; omega
      · show w.2.toNat < len; omega
  · cases e
def lkp : OV → Nat → Option AP
  | [], _ => none
  | e :: r, k => bif Nat.beq e.1 k then some e.2 else lkp r k
theorem lkp_ok : ∀ {ov : OV} {k : Nat} {p : AP}, lkp ov k = some p → (k, p) ∈ ov
  | [], _, _, h => by cases h
  | e :: r, k, p, h => by
    unfold lkp at h
    cases hk : Nat.beq e.1 k with
    | true =>
      rw [hk] at h
      cases h
      have := Nat.eq_of_beq_eq_true hk
      subst this
      exact List.mem_cons_self
    | false =>
      rw [hk] at h
      exact List.mem_cons_of_mem _ (lkp_ok h)
def rdO (P : RGt) (C : Cx) (ov : OV) (a l u : Nat) : Cx × AP := match (bif Nat.beq l u then lkp ov (a * 256 + l) else none) with
  | some p => (C, p)
  | none => fresh C (P.1 a l u)
theorem rdO_ok {a l' u j : Nat} (H : qH P z Z σ C ov h g) (h1 : l' ≤ j) (h2 : j ≤ u) (h3 : u < 256) :
    ∃ σ', AG (nV C) σ σ' ∧ nV C ≤ nV (rdO P C ov a l' u).1 ∧ satC σ' (rdO P C ov a l' u).1 ∧ okP σ' (nV (rdO P C ov a l' u).1) (rdO P C ov a l' u).2 (h (a : Int) (j : Int)) := by
  unfold rdO
  split
  · rename_i p hp
    cases hk : Nat.beq l' u with
    | false => rw [hk] at hp; cases hp
    | true =>
      rw [hk] at hp
      have hk := Nat.eq_of_beq_eq_true hk
      have k := H.2.2.2.2 _ (lkp_ok hp)
      have e1 : (a * 256 + l') / 256 = a := by omega
      have e2 : (a * 256 + l') % 256 = j := by omega
      simp only [e1, e2] at k
      exact ⟨σ, AG.rf, Nat.le_refl _, H.1, k⟩
  · obtain ⟨a1, a2, a3, a4⟩ := fresh_ok H.1 (q := P.1 a l' u) (x := h (a : Int) (j : Int)) (fun y hy => H.2.2.1 a l' u j y hy h1 h2)
    exact ⟨_, a1, a2, a3, a4⟩
/-- the row behind a reference: of kind k, its cell and length -/
def row (C : Cx) (p : AP) (k : Nat) : Option (Nat × Nat) := match adr C p with
  | some a => (match kdA a with
    | some q => bif Nat.beq q.1 k then some (a, q.2) else none
    | none => none)
  | none => none
theorem row_ok (hC : satC σ C) {p : AP} {n k : Nat} {X : Int} {q : Nat × Nat} (hp : okP σ n p X) (hg : g.1 = nCell) (e : row C p k = some q) : X = (q.1 : Int) ∧ q.1 < 232 ∧ isO X k g.1 = true ∧ alen X = q.2 := by
  unfold row at e
  split at e
  · rename_i a ha
    obtain ⟨h1, h2⟩ := adr_ok hC hp ha
    split at e
    · rename_i w hw
      cases hk : Nat.beq w.1 k with
      | false => rw [hk] at e; cases e
      | true =>
        rw [hk] at e
        cases e
        have hk := Nat.eq_of_beq_eq_true hk
        subst hk
        have k := isO_nat h2 hg hw
        rw [h1]
        exact ⟨rfl, h2, k.1, k.2⟩
    · cases e
  · cases e
/-- an item of the script, told or not -/
def scr (Z : ZP) (C : Cx) (a i : AP) : Option AP := match cst C a, cst C i, ivP C Z.2 with
  | some a, some (.ofNat j), some q => bif eqZ a 2000 && (leZ ((j : Int) + 1) q.1 && Nat.ble j 100000) then nth Z.1 j else none
  | _, _, _ => none
theorem scr_ok {a i r : AP} {A I : Int} {n : Nat} (H : qH P z Z σ C ov h g) (ha : okP σ n a A) (hi : okP σ n i I) (e : scr Z C a i = some r) : ald z 10 h g.1 A I = some (z (w32 I)) ∧ okP σ (nV C) r (z (w32 I)) := by
  unfold scr at e
  split at e
  · rename_i c j q hc hj hq
    cases hk : eqZ c 2000 && (leZ ((j : Int) + 1) q.1 && Nat.ble j 100000) with
    | false => rw [hk] at e; cases e
    | true =>
      rw [hk] at e
      simp only [cond_true] at e
      have hk := Bool.and_eq_true_iff.mp hk
      have h1 := eqZ_iff.mp hk.1
      have hk := Bool.and_eq_true_iff.mp hk.2
      have h2 := leZ_iff.mp hk.1
      have h3 := Nat.le_of_ble_eq_true hk.2
      have e1 := cst_ok H.1 hc
      have e2 := cst_ok H.1 hj
      rw [ha.2] at e1
      rw [hi.2] at e2
      subst e1
      subst h1
      have e2 : I = (j : Int) := e2
      have hw : w32 I = (j : Int) := by rw [e2]; exact e_small (by omega) (by omega)
      have hz := ivP_ok H.1 hq
      rw [H.2.1.2.1.2] at hz
      rw [hw]
      refine ⟨?_, H.2.1.1 j r (nth_get e)⟩
      unfold ald
      have hf : isO 2000 10 g.1 = false := by
        unfold isO
        have : ¬ ((2000 : Int) < (g.1 : Nat)) := by
          have := H.2.2.2.1.1
          rw [this]
          show ¬ ((2000 : Int) < ((232 : Nat) : Int))
          omega
        rw [decide_eq_false this]
        simp
      rw [hf, if_neg (by simp), if_pos ⟨by decide, by decide⟩, hw]
      have hn : roN z 2000 = z (-1) := rfl
      have hv : roV z 2000 (j : Int) = z (j : Int) := rfl
      rw [hn, hv, if_pos ⟨by omega, by omega⟩]
  · cases e
def oAldI (P : RGt) (Z : ZP) (k : Nat) (C : Cx) (pc : Nat) (ls : List AL) (st : List AV) (ov : OV) : Option (List AS) := match st with
  | .inl i :: .inr (.inr a) :: st => (match row C a k with
    | some q => (match idx C i q.2 with
      | some w => some [((rdO P C ov q.1 w.1 w.2).1, pc + 1, ls, .inl (rdO P C ov q.1 w.1 w.2).2 :: st, ov)]
      | none => none)
    | none => bif Nat.beq k 10 then (match scr Z C a i with
      | some r => some [(C, pc + 1, ls, .inl r :: st, ov)]
      | none => none) else none)
  | _ => none
theorem oAldI_ok {k : Nat} (H : Hy P z Z σ C ls st ov l s h g) (e : oAldI P Z k C pc ls st ov = some L) : GO P z Z (nV C) σ L (aldI z k pc l s h g) := by
  unfold oAldI at e
  split at e
  · rename_i i a st
    obtain ⟨I, s1, rfl, h1, h2⟩ := qSs_i H.2.1
    obtain ⟨A, s2, rfl, h3, h4⟩ := qSs_r h2
    split at e
    · rename_i q hq
      obtain ⟨b1, b2, b3, b4⟩ := row_ok H.2.2.1 h3 H.2.2.2.2.2.1.1 hq
      split at e
      · rename_i w hw
        cases e
        obtain ⟨j, c1, c2, c3, c4, c5, c6, c7⟩ := idx_ok H.2.2.1 h1 hw
        obtain ⟨σ', a1, a2, a3, a4⟩ := rdO_ok (a := q.1) H.2.2 c3 c4 (by omega)
        refine go1 (σ' := σ') (c' := (pc + 1, l, .inl (h (q.1 : Int) (j : Int)) :: s2, h, g)) ⟨rfl, H.1.up a2 a1, ⟨a4, h4.up a2 a1⟩, H.2.2.ext a3 a2 a1⟩ a1 a2 ?_
        unfold aldI ald
        simp only
        rw [b3, if_pos rfl, c2, b4, if_pos ⟨by omega, by omega⟩, b1]
        rfl
      · cases e
    · rename_i hq
      cases hk : Nat.beq k 10 with
      | false => rw [hk] at e; cases e
      | true =>
        rw [hk] at e
        simp only [cond_true] at e
        have hk := Nat.eq_of_beq_eq_true hk
        subst hk
        split at e
        · rename_i r hr
          cases e
          obtain ⟨k1, k2⟩ := scr_ok H.2.2 h3 h1 hr
          refine go1 (σ' := σ) (c' := (pc + 1, l, .inl (z (w32 I)) :: s2, h, g)) ⟨rfl, H.1, ⟨k2, h4⟩, H.2.2⟩ AG.rf (Nat.le_refl _) ?_
          unfold aldI
          simp only
          rw [k1]
          rfl
        · cases e
  · cases e
def oAldL (P : RGt) (C : Cx) (pc : Nat) (ls : List AL) (st : List AV) (ov : OV) : Option (List AS) := match st with
  | .inl i :: .inr (.inr a) :: st => (match row C a 11 with
    | some q => (match idx C i q.2 with
      | some w => some [((rdO P C ov q.1 w.1 w.2).1, pc + 1, ls, .inr (.inl (rdO P C ov q.1 w.1 w.2).2) :: st, ov)]
      | none => none)
    | none => none)
  | _ => none
theorem oAldL_ok (H : Hy P z Z σ C ls st ov l s h g) (e : oAldL P C pc ls st ov = some L) : GO P z Z (nV C) σ L (aldL pc l s h g) := by
  unfold oAldL at e
  split at e
  · rename_i i a st
    obtain ⟨I, s1, rfl, h1, h2⟩ := qSs_i H.2.1
    obtain ⟨A, s2, rfl, h3, h4⟩ := qSs_r h2
    split at e
    · rename_i q hq
      obtain ⟨b1, b2, b3, b4⟩ := row_ok H.2.2.1 h3 H.2.2.2.2.2.1.1 hq
      split at e
      · rename_i w hw
        cases e
        obtain ⟨j, c1, c2, c3, c4, c5, c6, c7⟩ := idx_ok H.2.2.1 h1 hw
        obtain ⟨σ', a1, a2, a3, a4⟩ := rdO_ok (a := q.1) H.2.2 c3 c4 (by omega)
        refine go1 (σ' := σ') (c' := (pc + 1, l, .inr (.inl (h (q.1 : Int) (j : Int))) :: s2, h, g)) ⟨rfl, H.1.up a2 a1, ⟨a4, h4.up a2 a1⟩, H.2.2.ext a3 a2 a1⟩ a1 a2 ?_
        unfold aldL
        simp only
        rw [c2, b4, if_pos ⟨b3, by omega, by omega⟩, b1]
        rfl
      · cases e
    · cases e
  · cases e
/-- a row of references, of kind 13 .. 16 -/
def rowR (C : Cx) (p : AP) : Option (Nat × Nat) := match adr C p with
  | some a => (match kdA a with
    | some q => bif Nat.ble 13 q.1 && Nat.ble q.1 16 then some (a, q.2) else none
    | none => none)
  | none => none
def oAldR (C : Cx) (pc : Nat) (ls : List AL) (st : List AV) (ov : OV) : Option (List AS) := match st with
  | .inl i :: .inr (.inr a) :: st => (match rowR C a with
    | some q => (match idx C i q.2 with
      | some w => bif (List.range (w.2 - w.1 + 1)).all (fun t => (rfA q.1 (w.1 + t)).isSome) then
          some ((List.range (w.2 - w.1 + 1)).flatMap (fun t => (brEq C (apSub i (apC ((w.1 + t : Nat) : Int)))).filterMap (fun v => bif v.2 then some (v.1, pc + 1, ls, .inr (.inr (apC (((rfA q.1 (w.1 + t)).getD 0 : Nat) : Int))) :: st, ov) else none))) else none
      | none => none)
    | none => none)
  | _ => none
theorem rowR_ok (hC : satC σ C) {p : AP} {n : Nat} {X : Int} {q : Nat × Nat} (hp : okP σ n p X) (hg : g.1 = nCell) (e : rowR C p = some q) : X = (q.1 : Int) ∧ q.1 < 232 ∧ isQ X g.1 = true ∧ alen X = q.2 := by
  unfold rowR at e
  split at e
  · rename_i a ha
    obtain ⟨h1, h2⟩ := adr_ok hC hp ha
    split at e
    · rename_i w hw
      cases hk : Nat.ble 13 w.1 && Nat.ble w.1 16 with
      | false => rw [hk] at e; cases e
      | true =>
        rw [hk] at e
        cases e
        have hk := Bool.and_eq_true_iff.mp hk
        have k1 := Nat.le_of_ble_eq_true hk.1
        have k2 := Nat.le_of_ble_eq_true hk.2
        obtain ⟨w1, w2⟩ := w
        have k := isO_nat h2 hg hw
        rw [h1]
        refine ⟨rfl, h2, ?_, k.2⟩
        unfold isQ
        simp only at k1 k2
        have hd : w1 = 13 ∨ w1 = 14 ∨ w1 = 15 ∨ w1 = 16 := by omega
        rcases hd with rfl | rfl | rfl | rfl
        · rw [k.1]; rfl
        · rw [k.1]; simp
        · rw [k.1]; simp
        · rw [k.1]; simp
    · cases e
  · cases e
theorem oAldR_ok (H : Hy P z Z σ C ls st ov l s h g) (e : oAldR C pc ls st ov = some L) : GO P z Z (nV C) σ L (aldR pc l s h g) := by
  unfold oAldR at e
  split at e
  · rename_i i a st
    obtain ⟨I, s1, rfl, h1, h2⟩ := qSs_i H.2.1
    obtain ⟨A, s2, rfl, h3, h4⟩ := qSs_r h2
    split at e
    · rename_i q hq
      obtain ⟨b1, b2, b3, b4⟩ := rowR_ok H.2.2.1 h3 H.2.2.2.2.2.1.1 hq
      split at e
      · rename_i w hw
        cases hk : (List.range (w.2 - w.1 + 1)).all (fun t => (rfA q.1 (w.1 + t)).isSome) with
        | false => rw [hk] at e; cases e
        | true =>
          rw [hk] at e
          cases e
          obtain ⟨j, c1, c2, c3, c4, c5, c6, c7⟩ := idx_ok H.2.2.1 h1 hw
          have hr : j - w.1 ∈ List.range (w.2 - w.1 + 1) := List.mem_range.mpr (by omega)
          have hsome := List.all_eq_true.mp hk _ hr
          have hj : w.1 + (j - w.1) = j := by omega
          simp only [hj] at hsome
          obtain ⟨r, hr2⟩ := Option.isSome_iff_exists.mp hsome
          obtain ⟨v, d1, d2, d3, d4⟩ := brEq_ok H.2.2.1 (apSub i (apC ((j : Nat) : Int)))
          rw [ev_sub, ev_C, h1.2, decide_eq_true (by omega)] at d4
          have k := H.ctx d2 d3
          have e9 : nV v.1 = nV C := d3
          have hrt := rfA_rtab b2 hr2
          have hg := H.2.2.2.2.2.1.2 q.1 j b2 (by rw [hrt]; omega)
          rw [hrt] at hg
          refine ⟨(v.1, pc + 1, ls, .inr (.inr (apC ((r : Nat) : Int))) :: st, ov), ?_, σ, (pc + 1, l, .inr (.inr (r : Int)) :: s2, h, g), AG.rf, Nat.le_of_eq d3.symm, ⟨rfl, k.1, ⟨okP_C _ _ _, (show qSs σ (nV v.1) st s2 from by rw [e9]; exact h4)⟩, k.2.2⟩, ?_⟩
          · refine List.mem_flatMap.mpr ⟨j - w.1, hr, List.mem_filterMap.mpr ⟨v, ?_, ?_⟩⟩
            · rw [hj]; exact d1
            · rw [d4, hj, hr2]; rfl
          · unfold aldR
            simp only
            rw [c2, b4, b1, hg, if_pos ⟨by rw [← b1]; exact b3, by omega, by omega, by omega⟩]
            rfl
      · cases e
    · cases e
  · cases e
/-! writing -/
def wrO (P : RGt) (C : Cx) (ov : OV) (a l u : Nat) (v : AP) : Option OV := bif P.2 a l u (ivP C v) then
    (bif Nat.beq l u then some ((a * 256 + l, v) :: ov.filter (fun e => !Nat.beq e.1 (a * 256 + l))) else some (ov.filter (fun e => !Nat.beq (e.1 / 256) a))) else none
theorem wrO_ok (hP : pOK P) {a l' u j : Nat} {v : AP} {V : Int} {ov' : OV} (H : qH P z Z σ C ov h g) (h1 : l' ≤ j) (h2 : j ≤ u) (h3 : u < 256) (hv : okP σ (nV C) v V) (e : wrO P C ov a l' u v = some ov') :
    qH P z Z σ C ov' (u2 h (a : Int) (j : Int) V) g := by
  obtain ⟨k1, k2, k3, k4, k5⟩ := H
  unfold wrO at e
  cases hk : P.2 a l' u (ivP C v) with
  | false => rw [hk] at e; cases e
  | true =>
    rw [hk] at e
    simp only [cond_true] at e
    have hV : ∀ x, ivP C v = some x → x.1 ≤ V ∧ V ≤ x.2 := fun x hx => by have := ivP_ok k1 hx; rw [hv.2] at this; exact this
    have hI : hInv P (u2 h (a : Int) (j : Int) V) := by
      intro b lb ub jb q hq hl hu
      unfold u2
      by_cases hb : (b : Int) = (a : Int)
      · rw [if_pos hb]
        by_cases hj : (jb : Int) = (j : Int)
        · rw [if_pos hj]
          have hb : b = a := by omega
          have hj : jb = j := by omega
          subst hb
          subst hj
          exact hP b l' u jb lb ub V (ivP C v) q hk hV h1 h2 hq hl hu
        · rw [if_neg hj]; exact k3 b lb ub jb q hq hl hu
      · rw [if_neg hb]; exact k3 b lb ub jb q hq hl hu
    refine ⟨k1, k2, hI, k4, ?_⟩
    cases hb : Nat.beq l' u with
    | true =>
      rw [hb] at e
      cases e
      have hb := Nat.eq_of_beq_eq_true hb
      intro w hw
      rcases List.mem_cons.mp hw with rfl | hw
      · have e1 : (a * 256 + l') / 256 = a := by omega
        have e2 : (a * 256 + l') % 256 = j := by omega
        simp only [e1, e2]
        unfold u2
        rw [if_pos rfl, if_pos rfl]
        exact hv
      · obtain ⟨hw1, hw2⟩ := List.mem_filter.mp hw
        have hne : w.1 ≠ a * 256 + l' := fun q => by rw [q, Nat.beq_refl] at hw2; cases hw2
        have k := k5 w hw1
        unfold u2
        by_cases q1 : ((w.1 / 256 : Nat) : Int) = (a : Int)
        · rw [if_pos q1, if_neg (by omega)]; exact k
        · rw [if_neg q1]; exact k
    | false =>
      rw [hb] at e
      cases e
      intro w hw
      obtain ⟨hw1, hw2⟩ := List.mem_filter.mp hw
      have hne : w.1 / 256 ≠ a := fun q => by rw [q, Nat.beq_refl] at hw2; cases hw2
      have k := k5 w hw1
      unfold u2
      rw [if_neg (by omega)]
      exact k
def oAstI (P : RGt) (C : Cx) (pc : Nat) (ls : List AL) (st : List AV) (ov : OV) : Option (List AS) := match st with
  | .inl v :: .inl i :: .inr (.inr a) :: st => (match row C a 10 with
    | some q => (match idx C i q.2 with
      | some w => (match wrO P C ov q.1 w.1 w.2 v with
        | some ov => some [(C, pc + 1, ls, st, ov)]
        | none => none)
      | none => none)
    | none => none)
  | _ => none
theorem oAstI_ok (hP : pOK P) (H : Hy P z Z σ C ls st ov l s h g) (e : oAstI P C pc ls st ov = some L) : GO P z Z (nV C) σ L (astI 10 (fun _ => true) pc l s h g) := by
  unfold oAstI at e
  split at e
  · rename_i v i a st
    obtain ⟨V, s0, rfl, h8, h9⟩ := qSs_i H.2.1
    obtain ⟨I, s1, rfl, h1, h2⟩ := qSs_i h9
    obtain ⟨A, s2, rfl, h3, h4⟩ := qSs_r h2
    split at e
    · rename_i q hq
      obtain ⟨b1, b2, b3, b4⟩ := row_ok H.2.2.1 h3 H.2.2.2.2.2.1.1 hq
      split at e
      · rename_i w hw
        split at e
        · rename_i ov' hov
          cases e
          obtain ⟨j, c1, c2, c3, c4, c5, c6, c7⟩ := idx_ok H.2.2.1 h1 hw
          have k := wrO_ok hP H.2.2 c3 c4 (by omega) h8 hov
          refine go1 (σ' := σ) (c' := (pc + 1, l, s2, u2 h (q.1 : Int) (j : Int) V, g)) ⟨rfl, H.1, h4, k⟩ AG.rf (Nat.le_refl _) ?_
          unfold astI
          simp only
          rw [c2, b4, b1, if_pos ⟨by rw [← b1]; exact b3, by omega, by omega, trivial⟩]
          rfl
        · cases e
      · cases e
    · cases e
  · cases e
def oAstL (P : RGt) (C : Cx) (pc : Nat) (ls : List AL) (st : List AV) (ov : OV) : Option (List AS) := match st with
  | .inr (.inl v) :: .inl i :: .inr (.inr a) :: st => (match row C a 11 with
    | some q => (match idx C i q.2 with
      | some w => (match wrO P C ov q.1 w.1 w.2 v with
        | some ov => some [(C, pc + 1, ls, st, ov)]
        | none => none)
      | none => none)
    | none => none)
  | _ => none
theorem oAstL_ok (hP : pOK P) (H : Hy P z Z σ C ls st ov l s h g) (e : oAstL P C pc ls st ov = some L) : GO P z Z (nV C) σ L (astL pc l s h g) := by
  unfold oAstL at e
  split at e
  · rename_i v i a st
    obtain ⟨V, s0, rfl, h8, h9⟩ := qSs_l H.2.1
    obtain ⟨I, s1, rfl, h1, h2⟩ := qSs_i h9
    obtain ⟨A, s2, rfl, h3, h4⟩ := qSs_r h2
    split at e
    · rename_i q hq
      obtain ⟨b1, b2, b3, b4⟩ := row_ok H.2.2.1 h3 H.2.2.2.2.2.1.1 hq
      split at e
      · rename_i w hw
        split at e
        · rename_i ov' hov
          cases e
          obtain ⟨j, c1, c2, c3, c4, c5, c6, c7⟩ := idx_ok H.2.2.1 h1 hw
          have k := wrO_ok hP H.2.2 c3 c4 (by omega) h8 hov
          refine go1 (σ' := σ) (c' := (pc + 1, l, s2, u2 h (q.1 : Int) (j : Int) V, g)) ⟨rfl, H.1, h4, k⟩ AG.rf (Nat.le_refl _) ?_
          unfold astL
          simp only
          rw [c2, b4, b1, if_pos ⟨by rw [← b1]; exact b3, by omega, by omega⟩]
          rfl
        · cases e
      · cases e
    · cases e
  · cases e
/-- the length of a row -/
def oAlen (Z : ZP) (C : Cx) (pc : Nat) (ls : List AL) (st : List AV) (ov : OV) : Option (List AS) := match st with
  | .inr (.inr a) :: st => (match adr C a with
    | some b => (match kdA b with
      | some q => bif Nat.ble 10 q.1 && Nat.ble q.1 16 then some [(C, pc + 1, ls, .inl (apC ((q.2 : Nat) : Int)) :: st, ov)] else none
      | none => none)
    | none => (match cst C a with
      | some c => bif eqZ c 2000 then some [(C, pc + 1, ls, .inl Z.2 :: st, ov)] else none
      | none => none))
  | _ => none
theorem oAlen_ok (H : Hy P z Z σ C ls st ov l s h g) (e : oAlen Z C pc ls st ov = some L) : GO P z Z (nV C) σ L (alenI z pc l s h g) := by
  unfold oAlen at e
  split at e
  · rename_i a st
    obtain ⟨A, s1, rfl, h1, h2⟩ := qSs_r H.2.1
    split at e
    · rename_i b hb
      obtain ⟨b1, b2⟩ := adr_ok H.2.2.1 h1 hb
      split at e
      · rename_i q hq
        cases hk : Nat.ble 10 q.1 && Nat.ble q.1 16 with
        | false => rw [hk] at e; cases e
        | true =>
          rw [hk] at e
          cases e
          have hk := Bool.and_eq_true_iff.mp hk
          have k1 := Nat.le_of_ble_eq_true hk.1
          have k2 := Nat.le_of_ble_eq_true hk.2
          obtain ⟨q1, q2⟩ := q
          have k := isO_nat b2 H.2.2.2.2.2.1.1 hq
          have hs : sid (b : Int) = (q1, q2) := by
            rw [sid_nat b2]
            have := hq
            rw [kdA_ok b2] at this
            exact Option.some.inj this
          refine go1 (σ' := σ) (c' := (pc + 1, l, .inl ((q2 : Nat) : Int) :: s1, h, g)) ⟨rfl, H.1, ⟨okP_C _ _ _, h2⟩, H.2.2⟩ AG.rf (Nat.le_refl _) ?_
          unfold alenI
          simp only
          rw [b1, hs, if_pos ⟨k.1, k1, k2⟩, k.2]
          rfl
      · cases e
    · split at e
      · rename_i c hc
        cases hk : eqZ c 2000 with
        | false => rw [hk] at e; cases e
        | true =>
          rw [hk] at e
          cases e
          have hk := eqZ_iff.mp hk
          have e1 := cst_ok H.2.2.1 hc
          rw [h1.2] at e1
          subst e1
          subst hk
          refine go1 (σ' := σ) (c' := (pc + 1, l, .inl (z (-1)) :: s1, h, g)) ⟨rfl, H.1, ⟨H.2.2.2.1.2.1, h2⟩, H.2.2⟩ AG.rf (Nat.le_refl _) ?_
          unfold alenI
          simp only
          rw [if_neg (by intro q; have := q.2.2; revert this; decide), if_pos (by decide)]
          rfl
      · cases e
  · cases e
def oGetF (P : RGt) (c k ty : Nat) (C : Cx) (pc : Nat) (ls : List AL) (st : List AV) (ov : OV) : Option (List AS) := match st with
  | .inr (.inr p) :: st => (match row C p c with
    | some q => bif Nat.blt k 256 then (match ty with
      | 0 => some [((rdO P C ov q.1 k k).1, pc + 3, ls, .inl (rdO P C ov q.1 k k).2 :: st, ov)]
      | 1 => (match rfA q.1 k with
        | some r => some [(C, pc + 3, ls, .inr (.inr (apC ((r : Nat) : Int))) :: st, ov)]
        | none => none)
      | _ => (match lkp ov (q.1 * 256 + k) with
        | some v => (match cst C v with
          | some x => bif nnZ x then some [(C, pc + 3, ls, .inr (.inr v) :: st, ov)] else none
          | none => none)
        | none => none)) else none
    | none => none)
  | _ => none
theorem oGetF_ok {o i c k ty w : Nat} (hf : fldT o i = some (c, k, w)) (hty : fty c k = ty) (hty2 : ty ≤ 2) (H : Hy P z Z σ C ls st ov l s h g) (e : oGetF P c k ty C pc ls st ov = some L) : GO P z Z (nV C) σ L (getF o i pc l s h g) := by
  unfold oGetF at e
  split at e
  · rename_i p st
    obtain ⟨A, s1, rfl, h1, h2⟩ := qSs_r H.2.1
    split at e
    · rename_i q hq
      obtain ⟨b1, b2, b3, b4⟩ := row_ok H.2.2.1 h1 H.2.2.2.2.2.1.1 hq
      cases hk : Nat.blt k 256 with
      | false => rw [hk] at e; cases e
      | true =>
        rw [hk] at e
        have hk2 : k + 1 ≤ 256 := Nat.le_of_ble_eq_true hk
        simp only [cond_true] at e
        unfold getF
        simp only
        rw [hf]
        simp only
        rw [if_pos b3, hty]
        split at e
        · cases e
          obtain ⟨σ', a1, a2, a3, a4⟩ := rdO_ok (a := q.1) (j := k) H.2.2 (Nat.le_refl k) (Nat.le_refl k) (by omega)
          refine go1 (σ' := σ') (c' := (pc + 3, l, .inl (h (q.1 : Int) (k : Int)) :: s1, h, g)) ⟨rfl, H.1.up a2 a1, ⟨a4, h2.up a2 a1⟩, H.2.2.ext a3 a2 a1⟩ a1 a2 ?_
          rw [if_pos rfl, b1]
          rfl
        · split at e
          · rename_i r hr
            cases e
            have hrt := rfA_rtab b2 hr
            have hg := H.2.2.2.2.2.1.2 q.1 k b2 (by rw [hrt]; omega)
            rw [hrt] at hg
            refine go1 (σ' := σ) (c' := (pc + 3, l, .inr (.inr (r : Int)) :: s1, h, g)) ⟨rfl, H.1, ⟨okP_C _ _ _, h2⟩, H.2.2⟩ AG.rf (Nat.le_refl _) ?_
            rw [if_neg (by decide), if_pos rfl, b1, hg, if_pos (by omega)]
            rfl
          · cases e
        · rename_i n0 n1
          have hty3 : ty = 2 := by
            rcases Nat.lt_or_ge ty 2 with hlt | hge
            · rcases Nat.lt_or_ge ty 1 with h0 | h0
              · exact absurd (by omega) n0
              · exact absurd (by omega) n1
            · omega
          subst hty3
          split at e
          · rename_i v hv
            split at e
            · rename_i x hx
              cases hn : nnZ x with
              | false => rw [hn] at e; cases e
              | true =>
                rw [hn] at e
                cases e
                have hn := nnZ_iff.mp hn
                have kk := H.2.2.2.2.2.2 _ (lkp_ok hv)
                have e1 : (q.1 * 256 + k) / 256 = q.1 := by omega
                have e2 : (q.1 * 256 + k) % 256 = k := by omega
                simp only [e1, e2] at kk
                have hxv := cst_ok H.2.2.1 hx
                rw [kk.2] at hxv
                refine go1 (σ' := σ) (c' := (pc + 3, l, .inr (.inr (h (q.1 : Int) (k : Int))) :: s1, h, g)) ⟨rfl, H.1, ⟨kk, h2⟩, H.2.2⟩ AG.rf (Nat.le_refl _) ?_
                rw [if_neg (by decide), if_neg (by decide), if_pos rfl, b1, if_pos (by omega)]
                rfl
            · cases e
          · cases e
    · cases e
  · cases e
/-- 0 or 1 -/
def is01 (C : Cx) (v : AP) : Bool := match ivP C v with
  | some q => leZ 0 q.1 && leZ q.2 1
  | none => false
theorem is01_ok (hC : satC σ C) {v : AP} {n : Nat} {V : Int} (hv : okP σ n v V) (e : is01 C v = true) : V = 0 ∨ V = 1 := by
  unfold is01 at e
  split at e
  · rename_i q hq
    have k := ivP_ok hC hq
    rw [hv.2] at k
    have e := Bool.and_eq_true_iff.mp e
    have := leZ_iff.mp e.1
    have := leZ_iff.mp e.2
    omega
  · cases e
def oPutF (P : RGt) (c k ty bl : Nat) (C : Cx) (pc : Nat) (ls : List AL) (st : List AV) (ov : OV) : Option (List AS) := match st with
  | .inl v :: .inr (.inr p) :: st => (match row C p c with
    | some q => bif Nat.blt k 256 && (Nat.beq ty 0 && (Nat.beq bl 0 || is01 C v)) then (match wrO P C ov q.1 k k v with
      | some ov => some [(C, pc + 3, ls, st, ov)]
      | none => none) else none
    | none => none)
  | .inr (.inr v) :: .inr (.inr p) :: st => (match row C p c, cst C v with
    | some q, some x => bif Nat.blt k 256 && (Nat.beq ty 2 && nnZ x) then (match wrO P C ov q.1 k k v with
      | some ov => some [(C, pc + 3, ls, st, ov)]
      | none => none) else none
    | _, _ => none)
  | _ => none
theorem oPutF_ok {ini : Bool} {o i c k ty bl w : Nat} (hP : pOK P) (hf : fldT o i = some (c, k, w)) (hty : fty c k = ty) (hbl : bl = 0 → ¬ parseFieldDescriptor ((vwCl.getD c (RX0, TX0, 0)).2.1 k).2.2.1 = some .boolean) (H : Hy P z Z σ C ls st ov l s h g) (e : oPutF P c k ty bl C pc ls st ov = some L) : GO P z Z (nV C) σ L (putF ini o i pc l s h g) := by
  unfold oPutF at e
  split at e
  · rename_i v p st
    obtain ⟨V, s0, rfl, h8, h9⟩ := qSs_i H.2.1
    obtain ⟨A, s1, rfl, h1, h2⟩ := qSs_r h9
    split at e
    · rename_i q hq
      obtain ⟨b1, b2, b3, b4⟩ := row_ok H.2.2.1 h1 H.2.2.2.2.2.1.1 hq
      cases hk : Nat.blt k 256 && (Nat.beq ty 0 && (Nat.beq bl 0 || is01 C v)) with
      | false => rw [hk] at e; cases e
      | true =>
        rw [hk] at e
        simp only [cond_true] at e
        split at e
        · rename_i ov' hov
          cases e
          have hk := Bool.and_eq_true_iff.mp hk
          have k1 : k + 1 ≤ 256 := Nat.le_of_ble_eq_true hk.1
          have hk := Bool.and_eq_true_iff.mp hk.2
          have k2 := Nat.eq_of_beq_eq_true hk.1
          have k3 : V = 0 ∨ V = 1 ∨ ¬ parseFieldDescriptor ((vwCl.getD c (RX0, TX0, 0)).2.1 k).2.2.1 = some .boolean := by
            rcases Bool.or_eq_true_iff.mp hk.2 with q | q
            · exact Or.inr (Or.inr (hbl (Nat.eq_of_beq_eq_true q)))
            · rcases is01_ok H.2.2.1 h8 q with q | q
              · exact Or.inl q
              · exact Or.inr (Or.inl q)
          have kk := wrO_ok hP (j := k) H.2.2 (Nat.le_refl k) (Nat.le_refl k) (by omega) h8 hov
          refine go1 (σ' := σ) (c' := (pc + 3, l, s1, u2 h (q.1 : Int) (k : Int) V, g)) ⟨rfl, H.1, h2, kk⟩ AG.rf (Nat.le_refl _) ?_
          unfold putF
          rw [hf]
          simp only
          rw [if_pos ⟨b3, by rw [hty, k2], k3⟩, b1]
          rfl
        · cases e
    · cases e
  · rename_i v p st
    obtain ⟨V, s0, rfl, h8, h9⟩ := qSs_r H.2.1
    obtain ⟨A, s1, rfl, h1, h2⟩ := qSs_r h9
    split at e
    · rename_i q x hq hx
      obtain ⟨b1, b2, b3, b4⟩ := row_ok H.2.2.1 h1 H.2.2.2.2.2.1.1 hq
      cases hk : Nat.blt k 256 && (Nat.beq ty 2 && nnZ x) with
      | false => rw [hk] at e; cases e
      | true =>
        rw [hk] at e
        simp only [cond_true] at e
        split at e
        · rename_i ov' hov
          cases e
          have hk := Bool.and_eq_true_iff.mp hk
          have k1 : k + 1 ≤ 256 := Nat.le_of_ble_eq_true hk.1
          have hk := Bool.and_eq_true_iff.mp hk.2
          have k2 := Nat.eq_of_beq_eq_true hk.1
          have k3 := nnZ_iff.mp hk.2
          have hxv := cst_ok H.2.2.1 hx
          rw [h8.2] at hxv
          have kk := wrO_ok hP (j := k) H.2.2 (Nat.le_refl k) (Nat.le_refl k) (by omega) h8 hov
          refine go1 (σ' := σ) (c' := (pc + 3, l, s1, u2 h (q.1 : Int) (k : Int) V, g)) ⟨rfl, H.1, h2, kk⟩ AG.rf (Nat.le_refl _) ?_
          unfold putF
          rw [hf]
          simp only
          rw [if_pos ⟨b3, by omega⟩, if_neg (by rw [hty, k2]; intro q; exact absurd q.1 (by decide)), if_pos (by rw [hty, k2]), b1]
          rfl
        · cases e
    · cases e
  · cases e
/-! what is built in: arraycopy of ints, max -/
def oCopy (P : RGt) (C : Cx) (pc : Nat) (ls : List AL) (st : List AV) (ov : OV) : Option (List AS) := match st with
  | .inl n :: .inl j :: .inr (.inr b) :: .inl i :: .inr (.inr a) :: st => (match row C a 10, row C b 10, cst C n, cst C i, cst C j with
    | some qa, some qb, some (.ofNat n), some (.ofNat i), some (.ofNat j) =>
      bif Nat.ble (i + n) qa.2 && (Nat.ble (j + n) qb.2 && (Nat.ble qa.2 256 && (Nat.ble qb.2 256 && (Nat.ble (catsA st) 8 && P.2 qb.1 0 256 (P.1 qa.1 0 256))))) then
        some [(C, pc + 3, ls, st, ov.filter (fun e => !Nat.beq (e.1 / 256) qb.1))] else none
    | _, _, _, _, _ => none)
  | _ => none
def oMax (C : Cx) (pc : Nat) (ls : List AL) (st : List AV) (ov : OV) : Option (List AS) := match st with
  | .inl y :: .inl x :: st => bif Nat.ble (catsA st) 8 then some ((brC .lt C x y).map (fun q => (q.1, pc + 3, ls, .inl (bif q.2 then y else x) :: st, ov))) else none
  | _ => none
theorem oMax_ok {mm o i : Nat} (hb : bltT o i = some 4) (hw : 3 ≤ mF mm ∧ 100 ≤ mW mm) (H : Hy P z Z σ C ls st ov l s h g) (e : oMax C pc ls st ov = some L) : GO P z Z (nV C) σ L (doBlt mm o i pc l s h g) := by
  unfold oMax at e
  split at e
  · rename_i y x st
    obtain ⟨Y, s1, rfl, h1, h2⟩ := qSs_i H.2.1
    obtain ⟨X, s2, rfl, h3, h4⟩ := qSs_i h2
    cases hk : Nat.ble (catsA st) 8 with
    | false => rw [hk] at e; cases e
    | true =>
      rw [hk] at e
      cases e
      have hk := Nat.le_of_ble_eq_true hk
      rw [qSs_cats h4] at hk
      obtain ⟨q, a1, a2, a3, a4⟩ := brC_ok H.2.2.1 .lt x y
      rw [h1.2, h3.2] at a4
      have k := H.ctx a2 a3
      have e9 : nV q.1 = nV C := a3
      refine ⟨_, List.mem_map.mpr ⟨q, a1, rfl⟩, σ, (pc + 3, l, .inl (if w32 X < w32 Y then Y else X) :: s2, h, g), AG.rf, Nat.le_of_eq a3.symm, ⟨rfl, k.1, ⟨?_, (show qSs σ (nV q.1) st s2 from by rw [e9]; exact h4)⟩, k.2.2⟩, ?_⟩
      · show okP σ (nV q.1) (bif q.2 then y else x) (if w32 X < w32 Y then Y else X)
        rw [a4, e9]
        unfold ccmp
        by_cases hc : w32 X < w32 Y
        · simp only [decide_eq_true hc, cond_true, if_pos hc]; exact h1
        · simp only [decide_eq_false hc, cond_false, if_neg hc]; exact h3
      · unfold doBlt
        rw [if_pos hw, hb]
        simp only
        rw [if_pos hk]
        rfl
  · cases e
theorem oCopy_ok {mm o i' : Nat} (hP : pOK P) (hb : bltT o i' = some 2) (hw : 3 ≤ mF mm ∧ 100 ≤ mW mm) (H : Hy P z Z σ C ls st ov l s h g) (e : oCopy P C pc ls st ov = some L) : GO P z Z (nV C) σ L (doBlt mm o i' pc l s h g) := by
  unfold oCopy at e
  split at e
  · rename_i n j b i a st
    obtain ⟨N, s1, rfl, g1, g2⟩ := qSs_i H.2.1
    obtain ⟨J, s2, rfl, g3, g4⟩ := qSs_i g2
    obtain ⟨B, s3, rfl, g5, g6⟩ := qSs_r g4
    obtain ⟨I, s4, rfl, g7, g8⟩ := qSs_i g6
    obtain ⟨A, s5, rfl, g9, g10⟩ := qSs_r g8
    split at e
    · rename_i qa qb n' i' j' hqa hqb hn hi hj
      obtain ⟨b1, b2, b3, b4⟩ := row_ok H.2.2.1 g9 H.2.2.2.2.2.1.1 hqa
      obtain ⟨d1, d2, d3, d4⟩ := row_ok H.2.2.1 g5 H.2.2.2.2.2.1.1 hqb
      have en := cst_ok H.2.2.1 hn
      have ei := cst_ok H.2.2.1 hi
      have ej := cst_ok H.2.2.1 hj
      rw [g1.2] at en
      rw [g7.2] at ei
      rw [g3.2] at ej
      have en : N = (n' : Int) := en
      have ei : I = (i' : Int) := ei
      have ej : J = (j' : Int) := ej
      cases hk : Nat.ble (i' + n') qa.2 && (Nat.ble (j' + n') qb.2 && (Nat.ble qa.2 256 && (Nat.ble qb.2 256 && (Nat.ble (catsA st) 8 && P.2 qb.1 0 256 (P.1 qa.1 0 256))))) with
      | false => rw [hk] at e; cases e
      | true =>
        rw [hk] at e
        cases e
        simp only [Bool.and_eq_true] at hk
        obtain ⟨k1, k2, k3, k4, k5, k6⟩ := hk
        have k1 := Nat.le_of_ble_eq_true k1
        have k2 := Nat.le_of_ble_eq_true k2
        have k3 := Nat.le_of_ble_eq_true k3
        have k4 := Nat.le_of_ble_eq_true k4
        have k5 := Nat.le_of_ble_eq_true k5
        rw [qSs_cats g10] at k5
        have wn : w32 N = (n' : Int) := by rw [en]; exact e_small (by omega) (by omega)
        have wi : w32 I = (i' : Int) := by rw [ei]; exact e_small (by omega) (by omega)
        have wj : w32 J = (j' : Int) := by rw [ej]; exact e_small (by omega) (by omega)
        obtain ⟨m1, m2, m3, m4, m5⟩ := H.2.2
        have hI : hInv P (cpyH h (qa.1 : Int) (i' : Int) (qb.1 : Int) (j' : Int) (n' : Int)) := by
          intro b9 lb ub jb q hq hl hu
          unfold cpyH
          by_cases hb9 : (b9 : Int) = (qb.1 : Int)
          · rw [if_pos hb9]
            by_cases hj9 : (j' : Int) ≤ (jb : Int) ∧ (jb : Int) < (j' : Int) + (n' : Int)
            · rw [if_pos hj9]
              have hb9 : b9 = qb.1 := by omega
              subst hb9
              have hsrc : (i' : Int) + ((jb : Int) - (j' : Int)) = ((i' + (jb - j') : Nat) : Int) := by omega
              rw [hsrc]
              exact hP qb.1 0 256 jb lb ub _ (P.1 qa.1 0 256) q k6 (fun x hx => m3 qa.1 0 256 (i' + (jb - j')) x hx (Nat.zero_le _) (by omega)) (Nat.zero_le _) (by omega) hq hl hu
            · rw [if_neg hj9]; exact m3 b9 lb ub jb q hq hl hu
          · rw [if_neg hb9]; exact m3 b9 lb ub jb q hq hl hu
        have hO : hOv σ (nV C) (ov.filter (fun e => !Nat.beq (e.1 / 256) qb.1)) (cpyH h (qa.1 : Int) (i' : Int) (qb.1 : Int) (j' : Int) (n' : Int)) := by
          intro w hw9
          obtain ⟨hw1, hw2⟩ := List.mem_filter.mp hw9
          have hne : w.1 / 256 ≠ qb.1 := fun q => by rw [q, Nat.beq_refl] at hw2; cases hw2
          have k := m5 w hw1
          unfold cpyH
          rw [if_neg (by omega)]
          exact k
        refine go1 (σ' := σ) (c' := (pc + 3, l, s5, cpyH h (qa.1 : Int) (i' : Int) (qb.1 : Int) (j' : Int) (n' : Int), g)) ⟨rfl, H.1, g10, m1, m2, hI, m4, hO⟩ AG.rf (Nat.le_refl _) ?_
        · unfold doBlt
          rw [if_pos hw, hb]
          simp only
          rw [wn, wi, wj, b4, d4, if_pos ⟨b3, d3, by omega, by omega, by omega, by omega, by omega, k5⟩, b1, d1]
          rfl
    · cases e
  · cases e
end OPS3
