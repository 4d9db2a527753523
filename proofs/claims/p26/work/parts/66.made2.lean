/-! ===== THE CONSTRUCTORS, RUN: calls inside ===== -/
def isSp (i : Instr) : Bool := match i with
  | .invokespecial _ => true
  | _ => false
def isRt (i : Instr) : Bool := match i with
  | .return_ => true
  | _ => false
abbrev CR : Type := CK ⊕ (Nat × List PV × CK) ⊕ (Option PV × HR)
def dnR (r : CR) : SR := match r with
  | .inl K => .inl (den K)
  | .inr (.inl q) => .inr (.inl (q.1, q.2.1, den q.2.2))
  | .inr (.inr o) => .inr (.inr (o.1, dH o.2.1, dG o.2))
def cst1 (m : Nat) (t : MT) (K : CK) : Option CR := match pI t K.1 with
  | none => none
  | some e => match xi z0 m e.1 e.2.1 K.1 K.2.1 K.2.2.1 (dH K.2.2.2.1) (dG K.2.2.2) with
    | none => none
    | some (.inl c') => bif pureI e.1 K.2.2.1 || isSp e.1 then some (.inl (c'.1, c'.2.1, c'.2.2.1, K.2.2.2)) else (match cwr m e.1 K.2.2.1 K.2.2.2 with
      | some r => some (.inl (c'.1, c'.2.1, c'.2.2.1, r))
      | none => none)
    | some (.inr (.inl q)) => bif isSp e.1 then some (.inr (.inl (q.1, q.2.1, (q.2.2.1, q.2.2.2.1, q.2.2.2.2.1, K.2.2.2)))) else none
    | some (.inr (.inr o)) => bif isRt e.1 then some (.inr (.inr (o.1, K.2.2.2))) else none
theorem cfg_eq {c : Cfg} {H : HR} (h1 : c.2.2.2.1 = dH H.1) (h2 : c.2.2.2.2 = dG H) : c = den (c.1, c.2.1, c.2.2.1, H) := by
  obtain ⟨a, b, d, e, f⟩ := c
  simp only at h1 h2
  subst h1
  subst h2
  rfl
theorem sp_next {z : Int → Int} {m k len pc : Nat} {ls : PL} {st : List PV} {h : PH} {g : PG} {c' : Cfg} (hx : xi z m (.invokespecial k) len pc ls st h g = some (.inl c')) : c'.2.2.2.1 = h ∧ c'.2.2.2.2 = g := by
  have hx : (if len = 3 then (if bltT (mO m) k = none then doCall [2] m (mO m) k pc ls st h g else if bltT (mO m) k = some 1 then doBlt m (mO m) k pc ls st h g else none) else none) = some (.inl c') := hx
  have hx := (lenS hx).2
  split at hx
  · exact (q_doCall hx).elim
  · split at hx
    · rename_i hb
      unfold doBlt at hx
      rw [hb] at hx
      split at hx
      · simp only at hx
        split at hx
        · split at hx
          · exact nx_pure hx
          · cases hx
        · cases hx
      · cases hx
    · cases hx
theorem sp_call {z : Int → Int} {m k len pc : Nat} {ls : PL} {st : List PV} {h : PH} {g : PG} {q : Nat × List PV × Cfg} (hx : xi z m (.invokespecial k) len pc ls st h g = some (.inr (.inl q))) : q.2.2.2.2.2.1 = h ∧ q.2.2.2.2.2.2 = g := by
  have hx : (if len = 3 then (if bltT (mO m) k = none then doCall [2] m (mO m) k pc ls st h g else if bltT (mO m) k = some 1 then doBlt m (mO m) k pc ls st h g else none) else none) = some (.inr (.inl q)) := hx
  have hx := (lenS hx).2
  split at hx
  · obtain ⟨m', b, av, rest, -, -, -, -, -, -, e, -⟩ := doCall_spec hx
    cases e
    exact ⟨rfl, rfl⟩
  · split at hx
    · exact (r_doBlt hx).elim
    · cases hx
theorem rt_ret {z : Int → Int} {m len pc : Nat} {ls : PL} {st : List PV} {h : PH} {g : PG} {o : Out} (hx : xi z m .return_ len pc ls st h g = some (.inr (.inr o))) : o.2.1 = h ∧ o.2.2 = g := by
  have hx : (if len = 1 then retV m st h g else none) = some (.inr (.inr o)) := hx
  have hx := (lenS hx).2
  unfold retV at hx
  split at hx
  · split at hx
    · cases hx; exact ⟨rfl, rfl⟩
    · cases hx
  · cases hx
theorem cst1_ok {z : Int → Int} {m : Nat} {t : MT} {K : CK} {r : CR} (hT : okT m t = true) (h : cst1 m t K = some r) : xs z m (den K) = some (dnR r) := by
  unfold cst1 at h
  split at h
  · cases h
  · rename_i e he
    obtain ⟨hd, -⟩ := pI_ok hT he
    have hxs : ∀ z, xs z m (den K) = xi z m e.1 e.2.1 K.1 K.2.1 K.2.2.1 (dH K.2.2.2.1) (dG K.2.2.2) := by
      intro z
      unfold xs
      show (match decode (mC m) K.1 with
        | .ok (i, len) => xi z m i len K.1 K.2.1 K.2.2.1 (dH K.2.2.2.1) (dG K.2.2.2)
        | .error _ => none) = _
      rw [hd]
    rw [hxs z]
    split at h
    · cases h
    · rename_i c' hc
      cases hp : pureI e.1 K.2.2.1 || isSp e.1 with
      | true =>
        rw [hp] at h
        cases h
        rcases Bool.or_eq_true_iff.mp hp with hp | hp
        · obtain ⟨a1, a2, a3⟩ := pure_ok (z := z) hp hc
          rw [a1]
          exact congrArg (fun c => some (Sum.inl c)) (cfg_eq (H := K.2.2.2) a2 a3)
        · cases hi : e.1 with
          | invokespecial k =>
            rw [hi] at hc
            obtain ⟨a2, a3⟩ := sp_next hc
            have hz : xi z m (.invokespecial k) e.2.1 K.1 K.2.1 K.2.2.1 (dH K.2.2.2.1) (dG K.2.2.2) = xi z0 m (.invokespecial k) e.2.1 K.1 K.2.1 K.2.2.1 (dH K.2.2.2.1) (dG K.2.2.2) := rfl
            rw [hz, hc]
            exact congrArg (fun c => some (Sum.inl c)) (cfg_eq (H := K.2.2.2) a2 a3)
          | _ => rw [hi] at hp; cases hp
      | false =>
        rw [hp] at h
        simp only [cond_false] at h
        split at h
        · rename_i r' hr
          cases h
          obtain ⟨a1, a2, a3⟩ := cwr_ok (z := z) hc hr
          rw [a1]
          exact congrArg (fun c => some (Sum.inl c)) (cfg_eq (H := r') a2 a3)
        · cases h
    · rename_i q hc
      cases hp : isSp e.1 with
      | false => rw [hp] at h; cases h
      | true =>
        rw [hp] at h
        cases h
        cases hi : e.1 with
        | invokespecial k =>
          rw [hi] at hc
          obtain ⟨a2, a3⟩ := sp_call hc
          have hz : xi z m (.invokespecial k) e.2.1 K.1 K.2.1 K.2.2.1 (dH K.2.2.2.1) (dG K.2.2.2) = xi z0 m (.invokespecial k) e.2.1 K.1 K.2.1 K.2.2.1 (dH K.2.2.2.1) (dG K.2.2.2) := rfl
          rw [hz, hc]
          obtain ⟨q1, q2, q3⟩ := q
          exact congrArg (fun c => some (Sum.inr (Sum.inl (q1, q2, c)))) (cfg_eq (H := K.2.2.2) a2 a3)
        | _ => rw [hi] at hp; cases hp
    · rename_i o hc
      cases hp : isRt e.1 with
      | false => rw [hp] at h; cases h
      | true =>
        rw [hp] at h
        cases h
        cases hi : e.1 with
        | return_ =>
          rw [hi] at hc
          obtain ⟨a2, a3⟩ := rt_ret hc
          have hz : xi z m .return_ e.2.1 K.1 K.2.1 K.2.2.1 (dH K.2.2.2.1) (dG K.2.2.2) = xi z0 m .return_ e.2.1 K.1 K.2.1 K.2.2.1 (dH K.2.2.2.1) (dG K.2.2.2) := rfl
          rw [hz, hc]
          obtain ⟨o1, o2, o3⟩ := o
          simp only at a2 a3
          subst a2
          subst a3
          rfl
        | _ => rw [hi] at hp; cases hp
abbrev CE : Type := CK ⊕ (Option PV × HR)
def crun (f : Nat) : Nat → MT → List Nat → CK → Option CE := Nat.rec (fun _ _ _ _ => none) (fun _ rec m t stops K =>
  bif memN stops K.1 then some (.inl K) else match cst1 m t K with
    | none => none
    | some (.inl K') => rec m t stops K'
    | some (.inr (.inl q)) => (match pTm q.1, entryL q.1 q.2.1 with
      | some t', some l0 => (match rec q.1 t' [] (0, l0, [], q.2.2.2.2.2) with
        | some (.inr o) => rec m t stops (q.2.2.1, q.2.2.2.1, o.1.toList ++ q.2.2.2.2.1, o.2)
        | _ => none)
      | _, _ => none)
    | some (.inr (.inr o)) => some (.inr o)) f
theorem crun_succ (f m : Nat) (t : MT) (stops : List Nat) (K : CK) : crun (f + 1) m t stops K =
  bif memN stops K.1 then some (.inl K) else match cst1 m t K with
    | none => none
    | some (.inl K') => crun f m t stops K'
    | some (.inr (.inl q)) => (match pTm q.1, entryL q.1 q.2.1 with
      | some t', some l0 => (match crun f q.1 t' [] (0, l0, [], q.2.2.2.2.2) with
        | some (.inr o) => crun f m t stops (q.2.2.1, q.2.2.2.1, o.1.toList ++ q.2.2.2.2.1, o.2)
        | _ => none)
      | _, _ => none)
    | some (.inr (.inr o)) => some (.inr o) := rfl
def ceP (z : Int → Int) (m : Nat) (K : CK) : CE → Prop
  | .inl K' => XC z m (den K) = XC z m (den K')
  | .inr o => XC z m (den K) = some (o.1, dH o.2.1, dG o.2)
theorem crun_ok {z : Int → Int} : ∀ {f m : Nat} {t : MT} {stops : List Nat} {K : CK} {r : CE}, okT m t = true → crun f m t stops K = some r → ceP z m K r := by
  intro f
  induction f with
  | zero => intro m t stops K r _ h; cases h
  | succ f ih =>
    intro m t stops K r hT h
    rw [crun_succ] at h
    cases hs : memN stops K.1 with
    | true =>
      rw [hs] at h
      cases h
      exact rfl
    | false =>
      rw [hs] at h
      simp only [cond_false] at h
      cases hc : cst1 m t K with
      | none => rw [hc] at h; cases h
      | some w =>
        rw [hc] at h
        have hx := cst1_ok (z := z) hT hc
        rcases w with K' | q | o
        · have k := ih hT h
          have e := XC_next z (c' := den K') hx
          cases r with
          | inl K2 => exact e.trans k
          | inr o => exact e.trans k
        · simp only at h
          split at h
          · rename_i t' l0 ht hl
            split at h
            · rename_i o ho
              have k := ih (pTm_ok ht) ho
              have k2 := ih hT h
              have e := XC_call z (c' := den q.2.2) (v := o.1) (h' := dH o.2.1) (g' := dG o.2) hx hl k
              cases r with
              | inl K2 => exact e.trans k2
              | inr o => exact e.trans k2
            · cases h
          · cases h
        · cases h
          exact XC_ret z (o := (o.1, dH o.2.1, dG o.2)) hx
