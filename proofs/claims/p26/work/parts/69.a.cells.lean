/-! ===== ABSTRACT READING AND WRITING OF FLAGGED CELLS; references that vary ===== -/
/-- bounds (reading), whether one may write; and what they say of the cells -/
def tOK (P : RGt) (I : PH → Prop) : Prop :=
  (∀ (h : PH) (a l u j : Nat) (q : IV), I h → a < 232 → P.1 a l u = some q → l ≤ j → j ≤ u → q.1 ≤ h (a : Int) (j : Int) ∧ h (a : Int) (j : Int) ≤ q.2) ∧
  (∀ (h : PH) (a l u j : Nat) (v : Int) (o : Option IV), I h → P.2 a l u o = true → (∀ x, o = some x → x.1 ≤ v ∧ v ≤ x.2) → l ≤ j → j ≤ u → a < 232 → I (fl1 (u2 h (a : Int) (j : Int) v) (a : Int) (j : Int))) ∧
  (∀ (h : PH) (a b la lb : Nat) (i j n : Int), I h → P.2 b 0 lb (P.1 a 0 la) = true → a < 232 → b < 232 → 0 ≤ i → 0 ≤ j → i + n ≤ (la : Int) + 1 → j + n ≤ (lb : Int) + 1 → I (cpyH h (a : Int) i (b : Int) j n))
def candT (C : Cx) (p : AP) : Option (List Int) := match cst C p with
  | some c => some [c]
  | none => (match p.2 with
    | [([v], s)] => (match getG C.1 v with
      | some q => bif leZ (q.2 - q.1) 40 then some ((List.range (q.2 - q.1 + 1).toNat).map (fun (t : Nat) => p.1 + s * (q.1 + (t : Int)))) else none
      | none => none)
    | _ => none)
theorem candT_ok {σ : Nat → Int} {C : Cx} (hC : satC σ C) {p : AP} {L : List Int} (e : candT C p = some L) : ev σ p ∈ L := by
  unfold candT at e
  split at e
  · rename_i c hc
    cases e
    rw [cst_ok hC hc]
    exact List.mem_cons_self
  · split at e
    · rename_i v s hp
      split at e
      · rename_i q hq
        cases hk : leZ (q.2 - q.1) 40 with
        | false => rw [hk] at e; cases e
        | true =>
          rw [hk] at e
          cases e
          have k := hC.1 v q.1 q.2 hq
          refine List.mem_map.mpr ⟨(σ v - q.1).toNat, List.mem_range.mpr (by omega), ?_⟩
          unfold ev
          rw [hp]
          simp only [evR, evM]
          rw [show q.1 + ((σ v - q.1).toNat : Int) = σ v from by omega]
          simp
      · cases e
    · cases e
def natsT : List Int → Option (List Nat)
  | [] => some []
  | .ofNat n :: r => bif Nat.blt n 232 then (match natsT r with
    | some s => some (n :: s)
    | none => none) else none
  | _ => none
theorem natsT_ok : ∀ {L : List Int} {M : List Nat}, natsT L = some M → ∀ X ∈ L, ∃ a ∈ M, X = (a : Int) ∧ a < 232
  | [], _, _, _, h => by cases h
  | .ofNat n :: r, M, e, X, h => by
    unfold natsT at e
    cases hk : Nat.blt n 232 with
    | false => rw [hk] at e; cases e
    | true =>
      rw [hk] at e
      simp only [cond_true] at e
      have hk2 : n + 1 ≤ 232 := Nat.le_of_ble_eq_true hk
      split at e
      · rename_i s hs
        cases e
        rcases List.mem_cons.mp h with rfl | h
        · exact ⟨n, List.mem_cons_self, rfl, by omega⟩
        · obtain ⟨a, h1, h2⟩ := natsT_ok hs X h
          exact ⟨a, List.mem_cons_of_mem _ h1, h2⟩
      · cases e
  | .negSucc _ :: _, _, e, _, _ => by cases e
def allK (k len : Nat) (L : List Nat) : Bool := L.all (fun a => match kdA a with
  | some q => Nat.beq q.1 k && Nat.beq q.2 len
  | none => false)
/-- the rows that a reference may name: of kind k, all as long -/
def rowT (C : Cx) (p : AP) (k : Nat) : Option (List Nat × Nat) := match candT C p with
  | some L => (match natsT L with
    | some (a :: r) => (match kdA a with
      | some q => bif allK k q.2 (a :: r) then some (a :: r, q.2) else none
      | none => none)
    | _ => none)
  | none => none
theorem allK_ok {k len a : Nat} {L : List Nat} (h : allK k len L = true) (ha : a ∈ L) : kdA a = some (k, len) := by
  have h := List.all_eq_true.mp h a ha
  split at h
  · rename_i q hq
    have h := Bool.and_eq_true_iff.mp h
    have h1 := Nat.eq_of_beq_eq_true h.1
    have h2 := Nat.eq_of_beq_eq_true h.2
    rw [hq]
    exact congrArg some (Prod.ext h1 h2)
  · cases h
theorem rowT_ok {σ : Nat → Int} {C : Cx} {g : PG} (hC : satC σ C) {p : AP} {n k : Nat} {X : Int} {q : List Nat × Nat} (hp : okP σ n p X) (hg : g.1 = nCell) (e : rowT C p k = some q) : ∃ a ∈ q.1, X = (a : Int) ∧ a < 232 ∧ isO X k g.1 = true ∧ alen X = q.2 := by
  unfold rowT at e
  split at e
  · rename_i L hL
    have hX := candT_ok hC hL
    rw [hp.2] at hX
    split at e
    · rename_i a r hr
      obtain ⟨b, b1, b2, b3⟩ := natsT_ok hr X hX
      split at e
      · rename_i w hw
        cases hk : allK k w.2 (a :: r) with
        | false => rw [hk] at e; cases e
        | true =>
          rw [hk] at e
          cases e
          have k1 := allK_ok hk b1
          have k2 := isO_nat b3 hg k1
          exact ⟨b, b1, b2, b3, by rw [b2]; exact k2.1, by rw [b2]; exact k2.2⟩
      · cases e
    · cases e
  · cases e
def inR (q : Option IV) (len : Nat) : Option (Nat × Nat) := match q with
  | some q => bif leZ 0 q.1 && leZ (q.2 + 1) (len : Int) && Nat.ble len 256 then some (q.1.toNat, q.2.toNat) else none
  | none => none
def idxT (C : Cx) (p : AP) (len : Nat) : Option (Nat × Nat) := match inR (ivS 0 C p) len with
  | some w => some w
  | none => (match inR (ivS 1 C p) len with
    | some w => some w
    | none => inR (ivS 2 C p) len)
theorem inR_ok {σ : Nat → Int} {C : Cx} (hC : satC σ C) {d : Nat} {p : AP} {n len : Nat} {X : Int} {q : Nat × Nat} (hp : okP σ n p X) (e : inR (ivS d C p) len = some q) : ∃ j : Nat, X = (j : Int) ∧ w32 X = (j : Int) ∧ q.1 ≤ j ∧ j ≤ q.2 ∧ j < len ∧ len ≤ 256 ∧ q.2 < len := by
  unfold inR at e
  split at e
  · rename_i w hw
    have k := ivS_ok hC d p w hw
    rw [hp.2] at k
    cases hk : leZ 0 w.1 && leZ (w.2 + 1) (len : Int) && Nat.ble len 256 with
    | false => rw [hk] at e; cases e
    | true =>
      rw [hk] at e
      cases e
      have hk := Bool.and_eq_true_iff.mp hk
      have h3 := Nat.le_of_ble_eq_true hk.2
      have hk := Bool.and_eq_true_iff.mp hk.1
      have h1 := leZ_iff.mp hk.1
      have h2 := leZ_iff.mp hk.2
      have hw32 : w32 X = X := e_small (by omega) (by omega)
      refine ⟨X.toNat, by omega, by rw [hw32]; omega, ?_, ?_, by omega, h3, ?_⟩
      · show w.1.toNat ≤ X.toNat; omega
      · show X.toNat ≤ w.2.toNat; omega
      · show w.2.toNat < len; omega
  · cases e
theorem idxT_ok {σ : Nat → Int} {C : Cx} (hC : satC σ C) {p : AP} {n len : Nat} {X : Int} {q : Nat × Nat} (hp : okP σ n p X) (e : idxT C p len = some q) : ∃ j : Nat, X = (j : Int) ∧ w32 X = (j : Int) ∧ q.1 ≤ j ∧ j ≤ q.2 ∧ j < len ∧ len ≤ 256 ∧ q.2 < len := by
  unfold idxT at e
  split at e
  · rename_i w hw
    cases e
    exact inR_ok hC hp hw
  · split at e
    · rename_i w hw
      cases e
      exact inR_ok hC hp hw
    · exact inR_ok hC hp e
def bndT (P : RGt) (L : List Nat) (l u : Nat) : Option IV := match L with
  | [] => none
  | a :: r => (match P.1 a l u with
    | some q => bif r.all (fun b => match P.1 b l u with
      | some w => eqZ w.1 q.1 && eqZ w.2 q.2
      | none => false) then some q else none
    | none => none)
theorem bndT_ok {P : RGt} {L : List Nat} {l u a : Nat} {q : IV} (e : bndT P L l u = some q) (ha : a ∈ L) : P.1 a l u = some q := by
  unfold bndT at e
  split at e
  · cases e
  · rename_i b r
    split at e
    · rename_i w hw
      cases hk : r.all (fun b => match P.1 b l u with
        | some x => eqZ x.1 w.1 && eqZ x.2 w.2
        | none => false) with
      | false => rw [hk] at e; cases e
      | true =>
        rw [hk] at e
        cases e
        rcases List.mem_cons.mp ha with rfl | ha
        · exact hw
        · have k := List.all_eq_true.mp hk a ha
          split at k
          · rename_i x hx
            have k := Bool.and_eq_true_iff.mp k
            rw [hx]
            exact congrArg some (Prod.ext (eqZ_iff.mp k.1) (eqZ_iff.mp k.2))
          · cases k
    · cases e
def scA (a : Nat) : Bool := Nat.ble 216 a && Nat.ble a 223
def scF (a l : Nat) : Bool := Nat.beq a 213 && (Nat.ble 9 l && Nat.ble l 14)
/-- what is read is defined -/
def df1 (C : Cx) (ov : OV) (l u : Nat) (ip : AP) (a : Nat) : Bool := bif scA a then (match lkp ov (65536 + a * 256) with
    | some B => geS C (apSub B ip) 1
    | none => false) else bif Nat.beq a 213 && ((Nat.ble l 14 && Nat.ble 9 u) || (Nat.ble l 17 && Nat.ble 17 u)) then (Nat.beq l u && (match lkp ov (65536 + 54528 + l) with
    | some B => geS C B 1
    | none => false)) else true
theorem scr_f {a j : Nat} (h1 : scA a = false) (h2 : ¬ (a = 213 ∧ ((9 ≤ j ∧ j ≤ 14) ∨ j = 17))) : scrt (a : Int) (j : Int) = false := by
  unfold scrt
  unfold scA at h1
  have e1 : (decide (216 ≤ (a : Int)) && decide ((a : Int) ≤ 223)) = false := by
    rcases Bool.and_eq_false_iff.mp h1 with q | q
    · have : ¬ 216 ≤ a := fun k => by rw [Nat.ble_eq_true_of_le k] at q; cases q
      rw [decide_eq_false (by omega)]; rfl
    · have : ¬ a ≤ 223 := fun k => by rw [Nat.ble_eq_true_of_le k] at q; cases q
      rw [decide_eq_false (by omega : ¬ (a : Int) ≤ 223)]; simp
  rw [e1, Bool.false_or]
  by_cases ha : a = 213
  · have h7 : decide ((j : Int) = 17) = false := decide_eq_false (by omega)
    by_cases h9 : 9 ≤ j
    · rw [h7, decide_eq_false (by omega : ¬ (j : Int) ≤ 14)]; simp
    · rw [h7, decide_eq_false (by omega : ¬ (9 : Int) ≤ (j : Int))]; simp
  · rw [decide_eq_false (by omega : ¬ (a : Int) = 213)]; rfl
theorem df1_ok {I : PH → Prop} {z : Int → Int} {Z : Option ZT} {σ : Nat → Int} {C : Cx} {ov : OV} {h : PH} {g : PG} (H : tH I z Z σ C ov h g) {a l u j : Nat} {ip : AP} (ha : a < 232) (h1 : l ≤ j) (h2 : j ≤ u) (h3 : u < 256) (hi : ev σ ip = (j : Int)) (e : df1 C ov l u ip a = true) : rdk h (a : Int) (j : Int) = true := by
  unfold df1 at e
  cases hs : scA a with
  | true =>
    rw [hs] at e
    simp only [cond_true] at e
    split at e
    · rename_i B hB
      have k := H.2.2.2.2 _ (lkp_ok hB)
      unfold okN at k
      rw [if_neg (show ¬ (65536 + a * 256 < 65536) from by omega)] at k
      have q1 : (65536 + a * 256 - 65536) / 256 = a := by omega
      have q2 : (65536 + a * 256 - 65536) % 256 = 0 := by omega
      simp only [q1, q2] at k
      have k1 := geS_ok H.1 e
      rw [ev_sub, hi] at k1
      have k2 := k.2 (j : Int) (by omega) (by omega)
      unfold rdk
      rw [k2]
      simp
    · cases e
  | false =>
    rw [hs] at e
    simp only [cond_false] at e
    by_cases hf : a = 213 ∧ ((9 ≤ j ∧ j ≤ 14) ∨ j = 17)
    · obtain ⟨rfl, h9⟩ := hf
      have hc : (Nat.beq 213 213 && ((Nat.ble l 14 && Nat.ble 9 u) || (Nat.ble l 17 && Nat.ble 17 u))) = true := by
        rcases h9 with h9 | h9
        · rw [Nat.ble_eq_true_of_le (by omega : l ≤ 14), Nat.ble_eq_true_of_le (by omega : 9 ≤ u)]; rfl
        · rw [Nat.ble_eq_true_of_le (by omega : l ≤ 17), Nat.ble_eq_true_of_le (by omega : 17 ≤ u)]
          rw [Bool.and_self, Bool.or_true]; rfl
      rw [hc] at e
      simp only [cond_true] at e
      have e := Bool.and_eq_true_iff.mp e
      have hl := Nat.eq_of_beq_eq_true e.1
      have e2 := e.2
      have hj : j = l := by omega
      subst hj
      split at e2
      · rename_i B hB
        have k := H.2.2.2.2 _ (lkp_ok hB)
        unfold okN at k
        rw [if_neg (show ¬ (65536 + 54528 + j < 65536) from by omega)] at k
        have q1 : (65536 + 54528 + j - 65536) / 256 = 213 := by omega
        have q2 : (65536 + 54528 + j - 65536) % 256 = j := by omega
        simp only [q1, q2] at k
        have k1 := geS_ok H.1 e2
        have k2 := k.2 (j : Int) (by omega) (by omega)
        unfold rdk
        rw [k2]
        simp
      · cases e2
    · unfold rdk
      rw [scr_f hs hf]
      rfl
def rdT (P : RGt) (C : Cx) (ov : OV) (L : List Nat) (l u : Nat) (ip : AP) : Option (Cx × AP × OV) := match (match L with
    | [a] => bif Nat.beq l u then lkp ov (a * 256 + l) else none
    | _ => none) with
  | some p => some (C, p, ov)
  | none => bif L.all (df1 C ov l u ip) then some ((fresh C (bndT P L l u)).1, (fresh C (bndT P L l u)).2, (match L with
    | [a] => bif Nat.beq l u then (a * 256 + l, (fresh C (bndT P L l u)).2) :: ov else ov
    | _ => ov)) else none
theorem okE_cell {σ : Nat → Int} {n a l : Nat} {p : AP} {h : PH} (ha : a < 232) (hl : l < 256) : okN σ n (a * 256 + l, p) h ↔ (okP σ n p (h (a : Int) (l : Int)) ∧ rdk h (a : Int) (l : Int) = true) := by
  unfold okN
  have e1 : (a * 256 + l) / 256 = a := by omega
  have e2 : (a * 256 + l) % 256 = l := by omega
  simp only [e1, e2]
  rw [if_pos (show a * 256 + l < 65536 from by omega)]
theorem rdT_ok {P : RGt} {I : PH → Prop} {z : Int → Int} {Z : Option ZT} {σ : Nat → Int} {C : Cx} {ov : OV} {h : PH} {g : PG} (hP : tOK P I) (H : tH I z Z σ C ov h g) {L : List Nat} {a l u j : Nat} {ip : AP} {r : Cx × AP × OV} (hm : a ∈ L) (ha : a < 232) (h1 : l ≤ j) (h2 : j ≤ u) (h3 : u < 256)
    (hi : ev σ ip = (j : Int)) (e : rdT P C ov L l u ip = some r) : ∃ σ', AG (nV C) σ σ' ∧ nV C ≤ nV r.1 ∧ tH I z Z σ' r.1 r.2.2 h g ∧ okP σ' (nV r.1) r.2.1 (h (a : Int) (j : Int)) ∧ rdk h (a : Int) (j : Int) = true := by
  unfold rdT at e
  split at e
  · rename_i p hp
    cases e
    split at hp
    · rename_i b
      have hb : a = b := by simpa using hm
      subst hb
      cases hk : Nat.beq l u with
      | false => rw [hk] at hp; cases hp
      | true =>
        rw [hk] at hp
        have hk := Nat.eq_of_beq_eq_true hk
        have hj : j = l := by omega
        subst hj
        have k := (okE_cell ha (by omega)).mp (H.2.2.2.2 _ (lkp_ok hp))
        exact ⟨σ, AG.rf, Nat.le_refl _, H, k.1, k.2⟩
    · cases hp
  · cases hk : L.all (df1 C ov l u ip) with
    | false => rw [hk] at e; cases e
    | true =>
      rw [hk] at e
      cases e
      have hd := df1_ok H ha h1 h2 h3 hi (List.all_eq_true.mp hk a hm)
      obtain ⟨a1, a2, a3, a4⟩ := fresh_ok H.1 (q := bndT P L l u) (x := h (a : Int) (j : Int)) (fun y hy => hP.1 h a l u j y H.2.2.1 ha (bndT_ok hy hm) h1 h2)
      have H2 := H.ext a3 a2 a1
      refine ⟨_, a1, a2, ?_, a4, hd⟩
      simp only
      split
      · rename_i b _
        have hb : a = b := by simpa using hm
        subst hb
        cases hq : Nat.beq l u with
        | false => exact H2
        | true =>
          have hq := Nat.eq_of_beq_eq_true hq
          have hj : j = l := by omega
          subst hj
          refine ⟨H2.1, H2.2.1, H2.2.2.1, H2.2.2.2.1, fun w hw => ?_⟩
          rcases List.mem_cons.mp hw with rfl | hw
          · exact (okE_cell ha (by omega)).mpr ⟨a4, hd⟩
          · exact H2.2.2.2.2 w hw
      · exact H2
/-! writing -/
def kpT (L : List Nat) (l u : Nat) (e : Nat × AP) : Bool := Nat.ble 65536 e.1 || !(memN L (e.1 / 256) && (Nat.ble l (e.1 % 256) && Nat.ble (e.1 % 256) u))
/-- what more is defined -/
def rgT (ov : OV) (a l u : Nat) (ip : AP) : OV := bif scA a then (match lkp ov (65536 + a * 256) with
    | some B => bif apEq B ip then [(65536 + a * 256, apAdd B (apC 1))] else []
    | none => bif apEq (apC 0) ip then [(65536 + a * 256, apC 1)] else []) else bif Nat.beq l u && scF a l then [(65536 + a * 256 + l, apC 1)] else []
def wrT (P : RGt) (C : Cx) (ov : OV) (L : List Nat) (l u : Nat) (ip v : AP) : Option OV := bif L.all (fun a => P.2 a l u (ivS 0 C v)) || (L.all (fun a => P.2 a l u (ivS 1 C v)) || L.all (fun a => P.2 a l u (ivS 2 C v))) then
    some (match L with
      | [a] => (bif Nat.beq l u then [(a * 256 + l, v)] else []) ++ (rgT ov a l u ip ++ (ov.filter (kpT L l u)).filter (fun e => !memN ((rgT ov a l u ip).map (·.1)) e.1))
      | _ => ov.filter (kpT L l u)) else none
theorem fl_mono {h : PH} {a i V b j : Int} (ha : a < 232) (hb : 0 ≤ b) (hf : h (b + 4096) j = 1) : fl1 (u2 h a i V) a i (b + 4096) j = 1 := by
  unfold fl1 u2
  by_cases hc : b + 4096 = a + 4096
  · rw [if_pos hc]
    by_cases hj : j = i
    · rw [if_pos hj]
    · rw [if_neg hj, if_neg (by omega)]
      exact hf
  · rw [if_neg hc, if_neg (by omega)]
    exact hf
theorem rdk_mono {h : PH} {a i V b j : Int} (ha : a < 232) (hb : 0 ≤ b) (hf : rdk h b j = true) : rdk (fl1 (u2 h a i V) a i) b j = true := by
  unfold rdk at hf ⊢
  rcases Bool.or_eq_true_iff.mp hf with hf | hf
  · rw [hf]; rfl
  · rw [fl_mono ha hb (of_decide_eq_true hf)]
    simp
theorem fl_val {h : PH} {a i V b j : Int} (ha : 0 ≤ a) (hb : b < 4096) : fl1 (u2 h a i V) a i b j = u2 h a i V b j := by
  unfold fl1
  have : ∀ h : PH, u2 h (a + 4096) i 1 b j = h b j := by
    intro h
    unfold u2
    rw [if_neg (by omega)]
  exact this _
theorem fl_own {h : PH} {a i V : Int} : fl1 (u2 h a i V) a i (a + 4096) i = 1 := by
  unfold fl1
  have : ∀ h : PH, u2 h (a + 4096) i 1 (a + 4096) i = 1 := by
    intro h
    unfold u2
    rw [if_pos rfl, if_pos rfl]
  exact this _
theorem okE_keep {σ : Nat → Int} {n : Nat} {e : Nat × AP} {h : PH} {a j : Nat} {V : Int} (ha : a < 232) (hk : 65536 ≤ e.1 ∨ e.1 / 256 ≠ a ∨ e.1 % 256 ≠ j) (k : okN σ n e h) : okN σ n e (fl1 (u2 h (a : Int) (j : Int) V) (a : Int) (j : Int)) := by
  unfold okN at k ⊢
  by_cases hc : e.1 < 65536
  · rw [if_pos hc] at k ⊢
    refine ⟨?_, rdk_mono (by omega) (by omega) k.2⟩
    rw [fl_val (by omega) (by omega)]
    unfold u2
    by_cases h1 : ((e.1 / 256 : Nat) : Int) = (a : Int)
    · rw [if_pos h1, if_neg (by omega)]; exact k.1
    · rw [if_neg h1]; exact k.1
  · rw [if_neg hc] at k ⊢
    exact ⟨k.1, fun q h1 h2 => fl_mono (by omega) (by omega) (k.2 q h1 h2)⟩
theorem memN_iff {l : List Nat} {k : Nat} : memN l k = true ↔ k ∈ l := by
  unfold memN
  constructor
  · intro h
    obtain ⟨x, h1, h2⟩ := List.any_eq_true.mp h
    have := Nat.eq_of_beq_eq_true h2
    rw [← this]; exact h1
  · intro h
    exact List.any_eq_true.mpr ⟨k, h, Nat.beq_refl k⟩
theorem kpT_ok {L : List Nat} {l u a j : Nat} {e : Nat × AP} (hm : a ∈ L) (h1 : l ≤ j) (h2 : j ≤ u) (h : kpT L l u e = true) : 65536 ≤ e.1 ∨ e.1 / 256 ≠ a ∨ e.1 % 256 ≠ j := by
  unfold kpT at h
  rcases Bool.or_eq_true_iff.mp h with h | h
  · exact Or.inl (Nat.le_of_ble_eq_true h)
  · by_cases hq : e.1 / 256 ≠ a ∨ e.1 % 256 ≠ j
    · exact Or.inr hq
    · exfalso
      have q1 : e.1 / 256 = a := by omega
      have q2 : e.1 % 256 = j := by omega
      rw [q1, q2, memN_iff.mpr hm, Nat.ble_eq_true_of_le h1, Nat.ble_eq_true_of_le h2] at h
      cases h
theorem rgT_ok {I : PH → Prop} {z : Int → Int} {Z : Option ZT} {σ : Nat → Int} {C : Cx} {ov : OV} {h : PH} {g : PG} (H : tH I z Z σ C ov h g) {a l u j : Nat} {ip : AP} {V : Int} (ha : a < 232) (h1 : l ≤ j) (h2 : j ≤ u) (h3 : u < 256) (hi : ev σ ip = (j : Int)) :
    ∀ e ∈ rgT ov a l u ip, okN σ (nV C) e (fl1 (u2 h (a : Int) (j : Int) V) (a : Int) (j : Int)) := by
  intro e he
  unfold rgT at he
  have q0 : ((65536 + a * 256 - 65536) / 256 : Nat) = a := by omega
  have q1 : ((65536 + a * 256 - 65536) % 256 : Nat) = 0 := by omega
  cases hs : scA a with
  | true =>
    rw [hs] at he
    simp only [cond_true] at he
    split at he
    · rename_i B hB
      cases hk : apEq B ip with
      | false => rw [hk] at he; cases he
      | true =>
        rw [hk] at he
        have hk := apEq_eq hk
        subst hk
        have he : e = (65536 + a * 256, apAdd B (apC 1)) := by simpa using he
        subst he
        have k := H.2.2.2.2 _ (lkp_ok hB)
        unfold okN at k ⊢
        rw [if_neg (show ¬ (65536 + a * 256 < 65536) from by omega)] at k ⊢
        simp only [q0, q1] at k ⊢
        refine ⟨rLt_addR k.1 rfl, fun q p1 p2 => ?_⟩
        rw [ev_add, ev_C, hi] at p2
        by_cases hq : q = (j : Int)
        · subst hq; exact fl_own
        · exact fl_mono (by omega) (by omega) (k.2 q p1 (by rw [hi]; omega))
    · cases hk : apEq (apC 0) ip with
      | false => rw [hk] at he; cases he
      | true =>
        rw [hk] at he
        have hk := apEq_eq hk
        subst hk
        have he : e = (65536 + a * 256, apC 1) := by simpa using he
        subst he
        rw [ev_C] at hi
        unfold okN
        rw [if_neg (show ¬ (65536 + a * 256 < 65536) from by omega)]
        simp only [q0, q1]
        refine ⟨rfl, fun q p1 p2 => ?_⟩
        rw [ev_C] at p2
        have hq : q = (j : Int) := by omega
        subst hq
        exact fl_own
  | false =>
    rw [hs] at he
    simp only [cond_false] at he
    cases hk : Nat.beq l u && scF a l with
    | false => rw [hk] at he; cases he
    | true =>
      rw [hk] at he
      have hk := Bool.and_eq_true_iff.mp hk
      have hl := Nat.eq_of_beq_eq_true hk.1
      have hj : j = l := by omega
      subst hj
      have he : e = (65536 + a * 256 + j, apC 1) := by simpa using he
      subst he
      have e9 : 65536 + a * 256 + j - 65536 = a * 256 + j := by rw [Nat.add_assoc, Nat.add_sub_cancel_left]
      have q2 : ((65536 + a * 256 + j - 65536) / 256 : Nat) = a := by rw [e9]; omega
      have q3 : ((65536 + a * 256 + j - 65536) % 256 : Nat) = j := by rw [e9]; omega
      unfold okN
      rw [if_neg (show ¬ (65536 + a * 256 + j < 65536) from by omega)]
      simp only [q2, q3]
      refine ⟨rfl, fun q p1 p2 => ?_⟩
      rw [ev_C] at p2
      have hq : q = (j : Int) := by omega
      subst hq
      exact fl_own
theorem wrT_ok {P : RGt} {I : PH → Prop} {z : Int → Int} {Z : Option ZT} {σ : Nat → Int} {C : Cx} {ov ov' : OV} {h : PH} {g : PG} (hP : tOK P I) (H : tH I z Z σ C ov h g) {L : List Nat} {a l u j : Nat} {ip v : AP} {V : Int} (hm : a ∈ L) (ha : a < 232) (h1 : l ≤ j) (h2 : j ≤ u) (h3 : u < 256)
    (hi : ev σ ip = (j : Int)) (hv : okP σ (nV C) v V) (e : wrT P C ov L l u ip v = some ov') : tH I z Z σ C ov' (fl1 (u2 h (a : Int) (j : Int) V) (a : Int) (j : Int)) g := by
  unfold wrT at e
  cases hk : L.all (fun a => P.2 a l u (ivS 0 C v)) || (L.all (fun a => P.2 a l u (ivS 1 C v)) || L.all (fun a => P.2 a l u (ivS 2 C v))) with
  | false => rw [hk] at e; cases e
  | true =>
    rw [hk] at e
    cases e
    have hw : ∀ d, L.all (fun a => P.2 a l u (ivS d C v)) = true → I (fl1 (u2 h (a : Int) (j : Int) V) (a : Int) (j : Int)) := by
      intro d hd
      exact hP.2.1 h a l u j V (ivS d C v) H.2.2.1 (List.all_eq_true.mp hd a hm) (fun x hx => by have := ivS_ok H.1 d v x hx; rw [hv.2] at this; exact this) h1 h2 ha
    have hI : I (fl1 (u2 h (a : Int) (j : Int) V) (a : Int) (j : Int)) := by
      rcases Bool.or_eq_true_iff.mp hk with hk | hk
      · exact hw 0 hk
      · rcases Bool.or_eq_true_iff.mp hk with hk | hk
        · exact hw 1 hk
        · exact hw 2 hk
    have hkeep : ∀ w ∈ ov.filter (kpT L l u), okN σ (nV C) w (fl1 (u2 h (a : Int) (j : Int) V) (a : Int) (j : Int)) := fun w hw => by
      obtain ⟨w1, w2⟩ := List.mem_filter.mp hw
      exact okE_keep ha (kpT_ok hm h1 h2 w2) (H.2.2.2.2 w w1)
    refine ⟨H.1, H.2.1, hI, H.2.2.2.1, ?_⟩
    split
    · rename_i b
      have hb : a = b := by simpa using hm
      subst hb
      intro w hw
      rcases List.mem_append.mp hw with hw | hw
      · cases hq : Nat.beq l u with
        | false => rw [hq] at hw; cases hw
        | true =>
          rw [hq] at hw
          have hq := Nat.eq_of_beq_eq_true hq
          have hj : j = l := by omega
          subst hj
          have hw : w = (a * 256 + j, v) := by simpa using hw
          subst hw
          refine (okE_cell ha (by omega)).mpr ⟨?_, ?_⟩
          · rw [fl_val (by omega) (by omega)]
            unfold u2
            rw [if_pos rfl, if_pos rfl]
            exact hv
          · unfold rdk
            rw [fl_own]
            simp
      · rcases List.mem_append.mp hw with hw | hw
        · exact rgT_ok H ha h1 h2 h3 hi w hw
        · exact hkeep w (List.mem_filter.mp hw).1
    · exact hkeep
