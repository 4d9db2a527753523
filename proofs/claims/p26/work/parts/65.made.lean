/-! ===== THE CONSTRUCTORS, RUN WITH KNOWN NUMBERS: cells as a list of what was written ===== -/
def z0 : Int → Int := fun _ => 0
abbrev WL : Type := List (Nat × Int)
abbrev HR : Type := WL × WL × Nat
abbrev CK : Type := Nat × PL × List PV × HR
def lki : WL → Nat → Option Int
  | [], _ => none
  | e :: r, k => bif Nat.beq e.1 k then some e.2 else lki r k
def ini (b j : Int) : Int := if (sid b).1 < 9 ∧ fty (sid b).1 j.toNat = 2 then -1 else 0
def dH (H : WL) : PH := fun b j => if 0 ≤ b ∧ 0 ≤ j ∧ j < 256 then (match lki H (b.toNat * 256 + j.toNat) with
  | some v => v
  | none => ini b j) else ini b j
def dR (R : WL) : Int → Int → Int := fun b j => if 0 ≤ b ∧ 0 ≤ j ∧ j < 256 then (match lki R (b.toNat * 256 + j.toNat) with
  | some v => v
  | none => -1) else -1
def dG (q : HR) : PG := (q.2.2, dR q.2.1)
def den (K : CK) : Cfg := (K.1, K.2.1, K.2.2.1, dH K.2.2.2.1, dG K.2.2.2)
theorem lki_cons (k k' : Nat) (v : Int) (r : WL) : lki ((k, v) :: r) k' = if k = k' then some v else lki r k' := by
  show (bif Nat.beq k k' then some v else lki r k') = _
  cases hk : Nat.beq k k' with
  | true => rw [if_pos (Nat.eq_of_beq_eq_true hk)]; rfl
  | false => rw [if_neg (fun q => by rw [q, Nat.beq_refl] at hk; cases hk)]; rfl
theorem dH_u2 {H : WL} {a k v : Int} (ha : 0 ≤ a) (h0 : 0 ≤ k) (h1 : k < 256) : u2 (dH H) a k v = dH ((a.toNat * 256 + k.toNat, v) :: H) := by
  funext b j
  unfold u2 dH
  rw [lki_cons]
  by_cases hb : b = a
  · rw [if_pos hb]
    by_cases hj : j = k
    · rw [if_pos hj, if_pos (by omega), if_pos (by rw [hb, hj])]
    · rw [if_neg hj]
      by_cases hr : 0 ≤ b ∧ 0 ≤ j ∧ j < 256
      · rw [if_pos hr, if_pos hr, if_neg (by omega)]
      · rw [if_neg hr, if_neg hr]
  · rw [if_neg hb]
    by_cases hr : 0 ≤ b ∧ 0 ≤ j ∧ j < 256
    · rw [if_pos hr, if_pos hr, if_neg (by omega)]
    · rw [if_neg hr, if_neg hr]
theorem dR_u2 {R : WL} {a k v : Int} (ha : 0 ≤ a) (h0 : 0 ≤ k) (h1 : k < 256) : u2 (dR R) a k v = dR ((a.toNat * 256 + k.toNat, v) :: R) := by
  funext b j
  unfold u2 dR
  rw [lki_cons]
  by_cases hb : b = a
  · rw [if_pos hb]
    by_cases hj : j = k
    · rw [if_pos hj, if_pos (by omega), if_pos (by rw [hb, hj])]
    · rw [if_neg hj]
      by_cases hr : 0 ≤ b ∧ 0 ≤ j ∧ j < 256
      · rw [if_pos hr, if_pos hr, if_neg (by omega)]
      · rw [if_neg hr, if_neg hr]
  · rw [if_neg hb]
    by_cases hr : 0 ≤ b ∧ 0 ≤ j ∧ j < 256
    · rw [if_pos hr, if_pos hr, if_neg (by omega)]
    · rw [if_neg hr, if_neg hr]
/-- nothing is written in cells a .. b -/
def clr (H : WL) (a b : Nat) : Bool := H.all (fun e => Nat.blt (e.1 / 256) a || Nat.blt b (e.1 / 256))
theorem clr_none : ∀ {H : WL} {a b c j : Nat}, clr H a b = true → a ≤ c → c ≤ b → j < 256 → lki H (c * 256 + j) = none
  | [], _, _, _, _, _, _, _, _ => rfl
  | e :: r, a, b, c, j, h, h1, h2, h3 => by
    have h : ((Nat.blt (e.1 / 256) a || Nat.blt b (e.1 / 256)) && clr r a b) = true := h
    have h := Bool.and_eq_true_iff.mp h
    obtain ⟨k, v⟩ := e
    rw [lki_cons, if_neg]
    · exact clr_none h.2 h1 h2 h3
    · intro q
      have e2 : k / 256 = c := by omega
      rcases Bool.or_eq_true_iff.mp h.1 with w | w
      · have : k / 256 + 1 ≤ a := Nat.le_of_ble_eq_true w
        omega
      · have : b + 1 ≤ k / 256 := Nat.le_of_ble_eq_true w
        omega
theorem dH_new {H : WL} {a b : Nat} (h : clr H a b = true) {c : Int} (h1 : (a : Int) ≤ c) (h2 : c ≤ (b : Int)) (j : Int) : dH H c j = ini c j := by
  unfold dH
  by_cases hr : 0 ≤ c ∧ 0 ≤ j ∧ j < 256
  · rw [if_pos hr, clr_none h (c := c.toNat) (by omega) (by omega) (by omega)]
  · rw [if_neg hr]
theorem dR_new {H : WL} {a b : Nat} (h : clr H a b = true) {c : Int} (h1 : (a : Int) ≤ c) (h2 : c ≤ (b : Int)) (j : Int) : dR H c j = -1 := by
  unfold dR
  by_cases hr : 0 ≤ c ∧ 0 ≤ j ∧ j < 256
  · rw [if_pos hr, clr_none h (c := c.toNat) (by omega) (by omega) (by omega)]
  · rw [if_neg hr]
def i2n (x : Int) : Option Nat := match x with
  | .ofNat n => bif Nat.blt n 256 then some n else none
  | .negSucc _ => none
theorem i2n_ok {x : Int} {n : Nat} (h : i2n x = some n) : x = (n : Int) ∧ n < 256 := by
  unfold i2n at h
  split at h
  · rename_i m
    cases hk : Nat.blt m 256 with
    | false => rw [hk] at h; cases h
    | true =>
      rw [hk] at h
      cases h
      exact ⟨rfl, Nat.le_of_ble_eq_true hk⟩
  · cases h
/-- instructions that only move values -/
def pureI (i : Instr) (st : List PV) : Bool := match i with
  | .aload_n _ => true
  | .iload_n _ => true
  | .istore_n _ => true
  | .astore_n _ => true
  | .iconst _ => true
  | .bipush _ => true
  | .sipush _ => true
  | .dup => true
  | .iinc _ _ => true
  | .goto _ => true
  | .if_icmp _ _ => true
  | .getfield _ => true
  | .arraylength => (match st with
    | .inr (.inr a) :: _ => leZ a 999
    | _ => false)
  | _ => false
def cwPf (o i : Nat) (st : List PV) (q : HR) : Option HR := match fldT o i, st with
  | some (c, k', _), .inl v :: .inr (.inr a) :: _ => bif Nat.blt k' 256 then some ((a.toNat * 256 + k', v) :: q.1, q.2.1, q.2.2) else none
  | some (c, k', _), .inr (.inr v) :: .inr (.inr a) :: _ => bif Nat.blt k' 256 then (bif Nat.beq (fty c k') 1 then some (q.1, (a.toNat * 256 + k', v) :: q.2.1, q.2.2) else some ((a.toNat * 256 + k', v) :: q.1, q.2.1, q.2.2)) else none
  | _, _ => none
def cwAi (st : List PV) (q : HR) : Option HR := match st with
  | .inl v :: .inl j :: .inr (.inr a) :: _ => (match i2n (w32 j) with
      | some n => some ((a.toNat * 256 + n, v) :: q.1, q.2.1, q.2.2)
      | none => none)
  | _ => none
def cwAr (st : List PV) (q : HR) : Option HR := match st with
  | .inr (.inr v) :: .inl j :: .inr (.inr a) :: _ => (match i2n (w32 j) with
      | some n => some (q.1, (a.toNat * 256 + n, v) :: q.2.1, q.2.2)
      | none => none)
  | _ => none
def cwMa (st : List PV) (q : HR) : Option HR := match st with
  | .inl _ :: .inl x :: _ => bif leZ x 100 && (clr q.1 q.2.2 (q.2.2 + x.toNat) && clr q.2.1 q.2.2 (q.2.2 + x.toNat)) then
        some (q.1, (List.range x.toNat).map (fun j => (q.2.2 * 256 + j, ((q.2.2 + 1 + j : Nat) : Int))) ++ q.2.1, q.2.2 + 1 + x.toNat) else none
  | _ => none
/-- what an instruction that writes leaves behind -/
def cwr (m : Nat) (i : Instr) (st : List PV) (q : HR) : Option HR := match i with
  | .putfield k => cwPf (mO m) k st q
  | .iastore => cwAi st q
  | .castore => cwAi st q
  | .aastore => cwAr st q
  | .new _ => bif clr q.1 q.2.2 q.2.2 && clr q.2.1 q.2.2 q.2.2 then some (q.1, q.2.1, q.2.2 + 1) else none
  | .newarray _ => bif clr q.1 q.2.2 q.2.2 && clr q.2.1 q.2.2 q.2.2 then some (q.1, q.2.1, q.2.2 + 1) else none
  | .anewarray _ => bif clr q.1 q.2.2 q.2.2 && clr q.2.1 q.2.2 q.2.2 then some (q.1, q.2.1, q.2.2 + 1) else none
  | .multianewarray _ _ => cwMa st q
  | _ => none
theorem lki_app : ∀ {a b : WL} {k : Nat}, lki (a ++ b) k = match lki a k with
    | some v => some v
    | none => lki b k
  | [], _, _ => rfl
  | e :: a, b, k => by
    have ih := lki_app (a := a) (b := b) (k := k)
    obtain ⟨k', v⟩ := e
    rw [List.cons_append, lki_cons, lki_cons]
    by_cases h : k' = k
    · rw [if_pos h, if_pos h]
    · rw [if_neg h, if_neg h]; exact ih
theorem lki_range (n : Nat) (f : Nat → Int) (k : Nat) : ∀ x : Nat, lki ((List.range x).map (fun j => (n + j, f j))) k = if n ≤ k ∧ k < n + x then some (f (k - n)) else none := by
  intro x
  induction x with
  | zero => rw [if_neg (by omega)]; rfl
  | succ x ih =>
    rw [List.range_succ, List.map_append, lki_app, ih]
    by_cases h : n ≤ k ∧ k < n + x
    · rw [if_pos h, if_pos (by omega)]
    · rw [if_neg h]
      simp only [List.map_cons, List.map_nil]
      rw [lki_cons]
      by_cases h2 : n + x = k
      · rw [if_pos h2, if_pos (by omega), ← h2, Nat.add_sub_cancel_left]
      · rw [if_neg h2, if_neg (by omega)]
        rfl
theorem wipe_H {H : WL} {n : Nat} {f : Int → Int} (h : clr H n n = true) (hf : ∀ j, f j = ini n j) : wipe (dH H) n f = dH H := by
  funext b j
  unfold wipe
  by_cases hb : b = (n : Int)
  · rw [if_pos hb, hb, dH_new h (Int.le_refl _) (Int.le_refl _), hf]
  · rw [if_neg hb]
theorem wipe_R {R : WL} {n : Nat} (h : clr R n n = true) : wipe (dR R) n (fun _ => -1) = dR R := by
  funext b j
  unfold wipe
  by_cases hb : b = (n : Int)
  · rw [if_pos hb, hb, dR_new h (Int.le_refl _) (Int.le_refl _)]
  · rw [if_neg hb]
theorem ini_arr {n k x : Nat} (hn : n < nCell) (hs : shL.getD n (99, 0) = (k, x)) (hk : 9 ≤ k) (j : Int) : (0 : Int) = ini n j := by
  unfold ini
  have : sid (n : Int) = (k, x) := by rw [sid_nat hn]; exact hs
  rw [this, if_neg (by intro q; have := q.1; simp only at this; omega)]
section MADE
variable {z : Int → Int} {m len pc : Nat} {ls : PL} {st : List PV} {q : HR} {c' : Cfg}
theorem newA_ok {k : Nat} {l : Nat} (hk : 9 ≤ k) (hc : clr q.1 q.2.2 q.2.2 = true) (hc2 : clr q.2.1 q.2.2 q.2.2 = true) (hx : newA k l pc ls st (dH q.1) (dG q) = some (.inl c')) : c'.2.2.2.1 = dH q.1 ∧ c'.2.2.2.2 = (q.2.2 + 1, dR q.2.1) := by
  unfold newA at hx
  split at hx
  · rename_i x st'
    split at hx
    · rename_i hcond
      obtain ⟨h1, h2, h3, h4⟩ := hcond
      cases hx
      refine ⟨wipe_H hc (fun j => ini_arr h3 h4 hk j), ?_⟩
      show (q.2.2 + 1, wipe (dR q.2.1) q.2.2 (fun _ => -1)) = _
      rw [wipe_R hc2]
    · cases hx
  · cases hx
theorem isO_nn {a : Int} {k n : Nat} (h : isO a k n = true) : 0 ≤ a := by
  unfold isO at h
  have := Bool.and_eq_true_iff.mp h
  exact of_decide_eq_true this.1
theorem putW_ok {o i : Nat} {ini' : Bool} {r : HR} (hx : putF ini' o i pc ls st (dH q.1) (dG q) = some (.inl c')) (hw : cwPf o i st q = some r) : c'.2.2.2.1 = dH r.1 ∧ c'.2.2.2.2 = dG r := by
  unfold cwPf at hw
  unfold putF at hx
  split at hx
  · rename_i c k' w hf
    rw [hf] at hw
    split at hx
    · rename_i v a st'
      simp only at hw
      split at hx
      · rename_i hcond
        cases hx
        cases hk : Nat.blt k' 256 with
        | false => rw [hk] at hw; cases hw
        | true =>
          rw [hk] at hw
          cases hw
          have hk : k' + 1 ≤ 256 := Nat.le_of_ble_eq_true hk
          exact ⟨dH_u2 (isO_nn hcond.1) (by omega) (by omega), rfl⟩
      · cases hx
    · rename_i v a st'
      simp only at hw
      split at hx
      · rename_i hcond
        cases hk : Nat.blt k' 256 with
        | false => rw [hk] at hw; cases hw
        | true =>
          rw [hk] at hw
          simp only [cond_true] at hw
          have hk : k' + 1 ≤ 256 := Nat.le_of_ble_eq_true hk
          split at hx
          · rename_i h1
            cases hx
            have hb : Nat.beq (fty c k') 1 = true := by rw [h1.1]; rfl
            rw [hb] at hw
            cases hw
            refine ⟨rfl, ?_⟩
            show (q.2.2, u2 (dR q.2.1) a (k' : Int) v) = _
            rw [dR_u2 (isO_nn hcond.1) (by omega) (by omega)]
            rfl
          · split at hx
            · rename_i h2
              cases hx
              have hb : Nat.beq (fty c k') 1 = false := by rw [h2]; rfl
              rw [hb] at hw
              cases hw
              exact ⟨dH_u2 (isO_nn hcond.1) (by omega) (by omega), rfl⟩
            · cases hx
      · cases hx
    · cases hx
  · cases hx
theorem astW_ok {k : Nat} {ok : Int → Bool} {r : HR} (hx : astI k ok pc ls st (dH q.1) (dG q) = some (.inl c')) (hw : cwAi st q = some r) : c'.2.2.2.1 = dH r.1 ∧ c'.2.2.2.2 = dG r := by
  unfold cwAi at hw
  unfold astI at hx
  split at hx
  · rename_i v j a st'
    simp only at hw hx
    by_cases hcond : isO a k (dG q).1 = true ∧ 0 ≤ w32 j ∧ w32 j < alen a ∧ ok v = true
    · rw [if_pos hcond] at hx
      cases hx
      split at hw
      · rename_i n hn
        cases hw
        obtain ⟨e1, e2⟩ := i2n_ok hn
        refine ⟨?_, rfl⟩
        show u2 (dH q.1) a (w32 j) v = _
        rw [e1, dH_u2 (isO_nn hcond.1) (by omega) (by omega)]
        rfl
      · cases hw
    · rw [if_neg hcond] at hx; cases hx
  · cases hx
theorem astRW_ok {r : HR} (hx : astR pc ls st (dH q.1) (dG q) = some (.inl c')) (hw : cwAr st q = some r) : c'.2.2.2.1 = dH r.1 ∧ c'.2.2.2.2 = dG r := by
  unfold cwAr at hw
  unfold astR at hx
  split at hx
  · rename_i v j a st'
    simp only at hw hx
    by_cases hcond : isO a (sid a).1 (dG q).1 = true ∧ isO v (eltK (sid a).1) (dG q).1 = true ∧ 0 ≤ w32 j ∧ w32 j < alen a
    · rw [if_pos hcond] at hx
      cases hx
      split at hw
      · rename_i n hn
        cases hw
        obtain ⟨e1, e2⟩ := i2n_ok hn
        refine ⟨rfl, ?_⟩
        show (q.2.2, u2 (dR q.2.1) a (w32 j) v) = _
        rw [e1, dR_u2 (isO_nn hcond.1) (by omega) (by omega)]
        rfl
      · cases hw
    · rw [if_neg hcond] at hx; cases hx
  · cases hx
theorem newO_ok {o i : Nat} (hc : clr q.1 q.2.2 q.2.2 = true) (hc2 : clr q.2.1 q.2.2 q.2.2 = true) (hx : newO o i pc ls st (dH q.1) (dG q) = some (.inl c')) : c'.2.2.2.1 = dH q.1 ∧ c'.2.2.2.2 = (q.2.2 + 1, dR q.2.1) := by
  unfold newO at hx
  split at hx
  · rename_i c hcl
    by_cases hcond : c < 9 ∧ (dG q).1 < nCell ∧ shL.getD (dG q).1 (99, 0) = (c, (vwCl.getD c (RX0, TX0, 0)).2.2)
    · rw [if_pos hcond] at hx
      cases hx
      obtain ⟨h1, h2, h3⟩ := hcond
      have h2 : q.2.2 < nCell := h2
      have h3 : shL.getD q.2.2 (99, 0) = (c, (vwCl.getD c (RX0, TX0, 0)).2.2) := h3
      refine ⟨wipe_H hc (fun j => ?_), ?_⟩
      · unfold ini
        have : sid ((q.2.2 : Nat) : Int) = (c, (vwCl.getD c (RX0, TX0, 0)).2.2) := by rw [sid_nat h2]; exact h3
        show (if fty c j.toNat = 2 then (-1 : Int) else 0) = if (sid ((q.2.2 : Nat) : Int)).1 < 9 ∧ fty (sid ((q.2.2 : Nat) : Int)).1 j.toNat = 2 then -1 else 0
        rw [this]
        simp only
        by_cases hf : fty c j.toNat = 2
        · rw [if_pos hf, if_pos ⟨h1, hf⟩]
        · rw [if_neg hf, if_neg (fun w => hf w.2)]
      · show (q.2.2 + 1, wipe (dR q.2.1) q.2.2 (fun _ => -1)) = _
        rw [wipe_R hc2]
    · rw [if_neg hcond] at hx; cases hx
  · cases hx
theorem newM_ok {r : HR} (hx : newM pc ls st (dH q.1) (dG q) = some (.inl c')) (hw : cwMa st q = some r) : c'.2.2.2.1 = dH r.1 ∧ c'.2.2.2.2 = dG r := by
  unfold cwMa at hw
  unfold newM at hx
  split at hx
  · rename_i k x st'
    simp only at hw hx
    by_cases hcond : 0 ≤ x ∧ x ≤ 100 ∧ 0 ≤ k ∧ k ≤ 100 ∧ (dG q).1 + x.toNat < nCell ∧ shL.getD (dG q).1 (99, 0) = (16, x.toNat) ∧ (List.range x.toNat).all (fun j => shL.getD ((dG q).1 + 1 + j) (99, 0) == (10, k.toNat)) = true
    · rw [if_pos hcond] at hx
      cases hx
      obtain ⟨h1, h2, h3, h4, h5, h6, h7⟩ := hcond
      have h5 : q.2.2 + x.toNat < nCell := h5
      have h6 : shL.getD q.2.2 (99, 0) = (16, x.toNat) := h6
      have h7 : (List.range x.toNat).all (fun j => shL.getD (q.2.2 + 1 + j) (99, 0) == (10, k.toNat)) = true := h7
      cases hk : leZ x 100 && (clr q.1 q.2.2 (q.2.2 + x.toNat) && clr q.2.1 q.2.2 (q.2.2 + x.toNat)) with
      | false => rw [hk] at hw; cases hw
      | true =>
        rw [hk] at hw
        cases hw
        have hk := (Bool.and_eq_true_iff.mp hk).2
        have hk := Bool.and_eq_true_iff.mp hk
        refine ⟨?_, ?_⟩
        · funext b j
          show (if ((q.2.2 : Nat) : Int) ≤ b ∧ b ≤ (q.2.2 : Nat) + x then 0 else dH q.1 b j) = dH q.1 b j
          by_cases hb : ((q.2.2 : Nat) : Int) ≤ b ∧ b ≤ (q.2.2 : Nat) + x
          · rw [if_pos hb, dH_new hk.1 (c := b) hb.1 (by omega)]
            have hbn : b = ((b.toNat : Nat) : Int) := by omega
            rw [hbn]
            by_cases he : b.toNat = q.2.2
            · rw [he]
              exact ini_arr (by omega) h6 (by omega) j
            · have hm := List.all_eq_true.mp h7 (b.toNat - q.2.2 - 1) (List.mem_range.mpr (by omega))
              have hm : shL.getD (q.2.2 + 1 + (b.toNat - q.2.2 - 1)) (99, 0) = (10, k.toNat) := by simpa using hm
              rw [show q.2.2 + 1 + (b.toNat - q.2.2 - 1) = b.toNat by omega] at hm
              exact ini_arr (by omega) hm (by omega) j
          · rw [if_neg hb]
        · show (q.2.2 + 1 + x.toNat, fun b j => if b = ((q.2.2 : Nat) : Int) then (if 0 ≤ j ∧ j < x then ((q.2.2 : Nat) : Int) + 1 + j else -1) else if ((q.2.2 : Nat) : Int) < b ∧ b ≤ ((q.2.2 : Nat) : Int) + x then -1 else dR q.2.1 b j) = _
          refine Prod.ext rfl ?_
          funext b j
          show _ = dR ((List.range x.toNat).map (fun j => (q.2.2 * 256 + j, ((q.2.2 + 1 + j : Nat) : Int))) ++ q.2.1) b j
          simp only
          have hR : ∀ (b j : Int), dR ((List.range x.toNat).map (fun j => (q.2.2 * 256 + j, ((q.2.2 + 1 + j : Nat) : Int))) ++ q.2.1) b j = if b = ((q.2.2 : Nat) : Int) ∧ 0 ≤ j ∧ j < x then ((q.2.2 : Nat) : Int) + 1 + j else dR q.2.1 b j := by
            intro b j
            unfold dR
            rw [lki_app, lki_range]
            by_cases hr : 0 ≤ b ∧ 0 ≤ j ∧ j < 256
            · rw [if_pos hr, if_pos hr]
              by_cases hb : b = ((q.2.2 : Nat) : Int) ∧ 0 ≤ j ∧ j < x
              · rw [if_pos hb, if_pos (by omega)]
                simp only
                omega
              · rw [if_neg hb, if_neg (by omega)]
            · rw [if_neg hr, if_neg hr, if_neg (by omega)]
          rw [hR]
          by_cases hb : b = ((q.2.2 : Nat) : Int)
          · rw [if_pos hb]
            by_cases hj : 0 ≤ j ∧ j < x
            · rw [if_pos hj, if_pos ⟨hb, hj⟩]
            · have hn : ¬ (b = ((q.2.2 : Nat) : Int) ∧ 0 ≤ j ∧ j < x) := fun w => hj w.2
              rw [if_neg hj, if_neg hn, dR_new hk.2 (c := b) (by omega) (by omega)]
          · have hn : ¬ (b = ((q.2.2 : Nat) : Int) ∧ 0 ≤ j ∧ j < x) := fun w => hb w.1
            rw [if_neg hb, if_neg hn]
            by_cases hc : ((q.2.2 : Nat) : Int) < b ∧ b ≤ ((q.2.2 : Nat) : Int) + x
            · rw [if_pos hc, dR_new hk.2 (c := b) (by omega) (by omega)]
            · rw [if_neg hc]
    · rw [if_neg hcond] at hx; cases hx
  · cases hx
theorem lenS {len k : Nat} {x : Option SR} {r : SR} (h : (if len = k then x else none) = some r) : len = k ∧ x = some r := if_len h
theorem cwr_ok {i : Instr} {r : HR} (hx : xi z0 m i len pc ls st (dH q.1) (dG q) = some (.inl c')) (hw : cwr m i st q = some r) : xi z m i len pc ls st (dH q.1) (dG q) = some (.inl c') ∧ c'.2.2.2.1 = dH r.1 ∧ c'.2.2.2.2 = dG r := by
  cases i with
  | putfield k => exact ⟨hx, putW_ok (lenS hx).2 hw⟩
  | iastore => exact ⟨hx, astW_ok (lenS hx).2 hw⟩
  | castore => exact ⟨hx, astW_ok (lenS hx).2 hw⟩
  | aastore => exact ⟨hx, astRW_ok (lenS hx).2 hw⟩
  | new k =>
    refine ⟨hx, ?_⟩
    unfold cwr at hw
    simp only at hw
    cases hk : clr q.1 q.2.2 q.2.2 && clr q.2.1 q.2.2 q.2.2 with
    | false => rw [hk] at hw; cases hw
    | true =>
      rw [hk] at hw
      cases hw
      have hk := Bool.and_eq_true_iff.mp hk
      exact newO_ok hk.1 hk.2 (lenS hx).2
  | newarray t =>
    refine ⟨hx, ?_⟩
    unfold cwr at hw
    simp only at hw
    cases hk : clr q.1 q.2.2 q.2.2 && clr q.2.1 q.2.2 q.2.2 with
    | false => rw [hk] at hw; cases hw
    | true =>
      rw [hk] at hw
      cases hw
      have hk := Bool.and_eq_true_iff.mp hk
      have hx := (lenS hx).2
      cases t with
      | int => exact newA_ok (k := 10) (by omega) hk.1 hk.2 hx
      | long => exact newA_ok (k := 11) (by omega) hk.1 hk.2 hx
      | char => exact newA_ok (k := 12) (by omega) hk.1 hk.2 hx
      | _ => cases hx
  | anewarray k =>
    refine ⟨hx, ?_⟩
    unfold cwr at hw
    simp only at hw
    cases hk : clr q.1 q.2.2 q.2.2 && clr q.2.1 q.2.2 q.2.2 with
    | false => rw [hk] at hw; cases hw
    | true =>
      rw [hk] at hw
      cases hw
      have hk := Bool.and_eq_true_iff.mp hk
      have hx := (lenS hx).2
      split at hx
      · rename_i c hc
        refine newA_ok (k := aRow c) ?_ hk.1 hk.2 hx
        unfold aRow
        split
        · omega
        · split
          · omega
          · split <;> omega
      · cases hx
  | multianewarray k d =>
    refine ⟨hx, ?_⟩
    have hx : (if len = 4 ∧ d = 2 ∧ clsT (mO m) k = some 16 then newM pc ls st (dH q.1) (dG q) else none) = some (.inl c') := hx
    by_cases h : len = 4 ∧ d = 2 ∧ clsT (mO m) k = some 16
    · rw [if_pos h] at hx
      exact newM_ok hx hw
    · rw [if_neg h] at hx; cases hx
  | _ => cases hw
theorem nx_pure {pc' : Nat} {ls' : PL} {st' : List PV} {h : PH} {g : PG} (hx : nx pc' ls' st' h g = some (.inl c')) : c'.2.2.2.1 = h ∧ c'.2.2.2.2 = g := by cases hx; exact ⟨rfl, rfl⟩
theorem pure_ok {i : Instr} {h : PH} {g : PG} (hp : pureI i st = true) (hx : xi z0 m i len pc ls st h g = some (.inl c')) : xi z m i len pc ls st h g = some (.inl c') ∧ c'.2.2.2.1 = h ∧ c'.2.2.2.2 = g := by
  cases i with
  | aload_n k =>
    refine ⟨hx, ?_⟩
    have hx := (lenS hx).2
    unfold ldv at hx
    repeat' (split at hx)
    all_goals (first | exact nx_pure hx | cases hx)
  | iload_n k =>
    refine ⟨hx, ?_⟩
    have hx := (lenS hx).2
    unfold ldv at hx
    repeat' (split at hx)
    all_goals (first | exact nx_pure hx | cases hx)
  | istore_n k =>
    refine ⟨hx, ?_⟩
    have hx := (lenS hx).2
    unfold stv st1 st2 at hx
    repeat' (split at hx)
    all_goals (first | exact nx_pure hx | cases hx)
  | astore_n k =>
    refine ⟨hx, ?_⟩
    have hx := (lenS hx).2
    unfold stv st1 st2 at hx
    repeat' (split at hx)
    all_goals (first | exact nx_pure hx | cases hx)
  | iconst c => exact ⟨hx, nx_pure (lenS hx).2⟩
  | bipush c =>
    refine ⟨hx, ?_⟩
    have hx : (if len = 2 ∧ -128 ≤ c ∧ c ≤ 127 then nx (pc + 2) ls (.inl c :: st) h g else none) = some (.inl c') := hx
    split at hx
    · exact nx_pure hx
    · cases hx
  | sipush c =>
    refine ⟨hx, ?_⟩
    have hx : (if len = 3 ∧ -32768 ≤ c ∧ c ≤ 32767 then nx (pc + 3) ls (.inl c :: st) h g else none) = some (.inl c') := hx
    split at hx
    · exact nx_pure hx
    · cases hx
  | dup =>
    refine ⟨hx, ?_⟩
    have hx := (lenS hx).2
    unfold dup1 at hx
    repeat' (split at hx)
    all_goals (first | exact nx_pure hx | cases hx)
  | iinc k c =>
    refine ⟨hx, ?_⟩
    have hx := (lenS hx).2
    unfold iinc st1 at hx
    repeat' (split at hx)
    all_goals (first | exact nx_pure hx | cases hx)
  | goto off =>
    refine ⟨hx, ?_⟩
    have hx := (lenS hx).2
    unfold jmp at hx
    repeat' (split at hx)
    all_goals (first | exact nx_pure hx | cases hx)
  | if_icmp c off =>
    refine ⟨hx, ?_⟩
    have hx := (lenS hx).2
    split at hx
    · unfold jc at hx
      repeat' (split at hx)
      all_goals (first | exact nx_pure hx | cases hx)
    · cases hx
  | getfield k =>
    refine ⟨hx, ?_⟩
    have hx := (lenS hx).2
    unfold getF at hx
    repeat' (split at hx)
    all_goals (first | exact nx_pure hx | cases hx)
  | arraylength =>
    obtain ⟨hl, hx⟩ := lenS hx
    subst hl
    unfold pureI at hp
    simp only at hp
    split at hp
    · rename_i a st' _
      have ha := leZ_iff.mp hp
      have hr : ¬ roK a < 99 := by
        unfold roK
        rw [if_neg (by omega), if_neg (by omega)]
        omega
      have hx : (if isO a (sid a).1 g.1 = true ∧ 10 ≤ (sid a).1 ∧ (sid a).1 ≤ 16 then nx (pc + 1) ls (.inl (alen a) :: st') h g else if roK a < 99 then nx (pc + 1) ls (.inl (roN z0 a) :: st') h g else none) = some (.inl c') := hx
      have hy : xi z m .arraylength 1 pc ls (.inr (.inr a) :: st') h g = (if isO a (sid a).1 g.1 = true ∧ 10 ≤ (sid a).1 ∧ (sid a).1 ≤ 16 then nx (pc + 1) ls (.inl (alen a) :: st') h g else if roK a < 99 then nx (pc + 1) ls (.inl (roN z a) :: st') h g else none) := rfl
      rw [if_neg hr] at hx
      rw [hy, if_neg hr]
      refine ⟨hx, ?_⟩
      split at hx
      · exact nx_pure hx
      · cases hx
    · cases hp
  | _ => cases hp
end MADE
