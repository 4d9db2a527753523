/-! ===== THE FLAGGED MACHINE: a scratch cell is read only where it was written since its flags were taken away ===== -/
/-- the reference's scratch: loads, parts, hx, hy, px, py, and six fields of the model -/
def scrt (a k : Int) : Bool := (decide (216 ≤ a) && decide (a ≤ 223)) || (decide (a = 213) && ((decide (9 ≤ k) && decide (k ≤ 14)) || decide (k = 17)))
def rdk (h : PH) (a k : Int) : Bool := !scrt a k || decide (h (a + 4096) k = 1)
def fl1 (h : PH) (a k : Int) : PH := u2 h (a + 4096) k 1
def mapH (f : PH → PH) : Option SR → Option SR
  | some (.inl (pc, ls, st, h, g)) => some (.inl (pc, ls, st, f h, g))
  | _ => none
def xiD (z : Int → Int) (m : Nat) (i : Instr) (len pc : Nat) (ls : PL) (st : List PV) (h : PH) (g : PG) : Option SR :=
  match i with
  | .iaload => (match st with
    | .inl i :: .inr (.inr a) :: _ => bif rdk h a (w32 i) then xi z m .iaload len pc ls st h g else none
    | _ => none)
  | .laload => (match st with
    | .inl i :: .inr (.inr a) :: _ => bif rdk h a (w32 i) then xi z m .laload len pc ls st h g else none
    | _ => none)
  | .caload => (match st with
    | .inl i :: .inr (.inr a) :: _ => bif rdk h a (w32 i) then xi z m .caload len pc ls st h g else none
    | _ => none)
  | .baload => (match st with
    | .inl i :: .inr (.inr a) :: _ => bif rdk h a (w32 i) then xi z m .baload len pc ls st h g else none
    | _ => none)
  | .getfield k => (match st with
    | .inr (.inr a) :: _ => (match fldT (mO m) k with
      | some (_, f, _) => bif rdk h a f then xi z m (.getfield k) len pc ls st h g else none
      | none => xi z m (.getfield k) len pc ls st h g)
    | _ => none)
  | .iastore => (match st with
    | .inl _ :: .inl i :: .inr (.inr a) :: _ => mapH (fun h => fl1 h a (w32 i)) (xi z m .iastore len pc ls st h g)
    | _ => none)
  | .lastore => (match st with
    | .inr (.inl _) :: .inl i :: .inr (.inr a) :: _ => mapH (fun h => fl1 h a (w32 i)) (xi z m .lastore len pc ls st h g)
    | _ => none)
  | .putfield k => (match st with
    | _ :: .inr (.inr a) :: _ => (match fldT (mO m) k with
      | some (c, f, _) => bif Nat.beq (fty c f) 1 then none else mapH (fun h => fl1 h a f) (xi z m (.putfield k) len pc ls st h g)
      | none => none)
    | _ => none)
  | .invokestatic k => bif decide (bltT (mO m) k = some 2) then (match st with
    | .inl _ :: .inl _ :: .inr (.inr _) :: .inl _ :: .inr (.inr a) :: _ => bif decide (a < 213) then xi z m (.invokestatic k) len pc ls st h g else none
    | _ => none) else xi z m (.invokestatic k) len pc ls st h g
  | .castore => none
  | .aastore => none
  | .new _ => none
  | .newarray _ => none
  | .anewarray _ => none
  | .multianewarray _ _ => none
  | i => xi z m i len pc ls st h g
def xsD (z : Int → Int) (m : Nat) (c : Cfg) : Option SR := match decode (mC m) c.1 with
  | .ok (i, len) => xiD z m i len c.1 c.2.1 c.2.2.1 c.2.2.2.1 c.2.2.2.2
  | .error _ => none

def exD (z : Int → Int) : Nat → Nat → Cfg → Option Out
  | 0, _, _ => none
  | f + 1, m, c => match xsD z m c with
    | none => none
    | some (.inl c') => exD z f m c'
    | some (.inr (.inl (m', av, c'))) => match entryL m' av with
      | none => none
      | some l0 => match exD z f m' (0, l0, [], c'.2.2.2.1, c'.2.2.2.2) with
        | none => none
        | some (v, h', g') => exD z f m (c'.1, c'.2.1, v.toList ++ c'.2.2.1, h', g')
    | some (.inr (.inr o)) => some o
theorem exD_mono1 (z : Int → Int) : ∀ (f m : Nat) (c : Cfg) (o : Out), exD z f m c = some o → exD z (f + 1) m c = some o := by
  intro f
  induction f with
  | zero => intro m c o h; simp [exD] at h
  | succ f ih =>
    intro m c o h
    rw [exD] at h ⊢
    cases he : xsD z m c with
    | none => rw [he] at h; cases h
    | some r =>
      rw [he] at h
      rcases r with c' | ⟨m', av, c'⟩ | o'
      · exact ih _ _ _ h
      · simp only at h ⊢
        cases hl : entryL m' av with
        | none => rw [hl] at h; cases h
        | some l0 =>
          rw [hl] at h
          simp only at h ⊢
          cases hc : exD z f m' (0, l0, [], c'.2.2.2.1, c'.2.2.2.2) with
          | none => rw [hc] at h; cases h
          | some q =>
            rw [hc] at h
            rw [ih _ _ _ hc]
            exact ih _ _ _ h
      · exact h
theorem exD_mono (z : Int → Int) {f f' m : Nat} {c : Cfg} {o : Out} (hf : f ≤ f') (h : exD z f m c = some o) : exD z f' m c = some o := by
  induction hf with
  | refl => exact h
  | step _ ih => exact exD_mono1 z _ _ _ _ ih
theorem exD_det (z : Int → Int) {f f' m : Nat} {c : Cfg} {o o' : Out} (h : exD z f m c = some o) (h' : exD z f' m c = some o') : o = o' := by
  have a := exD_mono z (Nat.le_max_left f f') h
  have b := exD_mono z (Nat.le_max_right f f') h'
  exact Option.some.inj (a.symm.trans b)
/-- what a method's run comes to from a place on, if it comes to an end -/
noncomputable def XCD (z : Int → Int) (m : Nat) (c : Cfg) : Option Out := @dite _ (∃ (f : Nat) (o : Out), exD z f m c = some o) (Classical.propDecidable _) (fun hx => some (Classical.choose (Classical.choose_spec hx))) (fun _ => none)
theorem XCD_of (z : Int → Int) {f m : Nat} {c : Cfg} {o : Out} (h : exD z f m c = some o) : XCD z m c = some o := by
  have hx : ∃ (f : Nat) (o : Out), exD z f m c = some o := ⟨f, o, h⟩
  unfold XCD
  rw [dif_pos hx]
  exact congrArg some (exD_det z (Classical.choose_spec (Classical.choose_spec hx)) h)
theorem XCD_some (z : Int → Int) {m : Nat} {c : Cfg} {o : Out} (h : XCD z m c = some o) : ∃ f, exD z f m c = some o := by
  unfold XCD at h
  split at h
  · rename_i hx
    rw [← Option.some.inj h]
    exact ⟨_, Classical.choose_spec (Classical.choose_spec hx)⟩
  · cases h
theorem XCD_eq (z : Int → Int) {m m' : Nat} {c c' : Cfg} (h : ∀ o, (∃ f, exD z f m c = some o) ↔ ∃ f, exD z f m' c' = some o) : XCD z m c = XCD z m' c' := by
  cases h1 : XCD z m c with
  | some o =>
    obtain ⟨f, hf⟩ := (h o).mp (XCD_some z h1)
    exact (XCD_of z hf).symm
  | none =>
    cases h2 : XCD z m' c' with
    | none => rfl
    | some o =>
      obtain ⟨f, hf⟩ := (h o).mpr (XCD_some z h2)
      rw [XCD_of z hf] at h1
      cases h1
theorem XCD_next (z : Int → Int) {m : Nat} {c c' : Cfg} (h : xsD z m c = some (.inl c')) : XCD z m c = XCD z m c' := by
  refine XCD_eq z fun o => ⟨fun ⟨f, hf⟩ => ?_, fun ⟨f, hf⟩ => ⟨f + 1, ?_⟩⟩
  · cases f with
    | zero => simp [exD] at hf
    | succ f => rw [exD, h] at hf; exact ⟨f, hf⟩
  · rw [exD, h]; exact hf
theorem XCD_ret (z : Int → Int) {m : Nat} {c : Cfg} {o : Out} (h : xsD z m c = some (.inr (.inr o))) : XCD z m c = some o := XCD_of z (f := 1) (by rw [exD, h])
theorem XCD_call (z : Int → Int) {m m' : Nat} {c c' : Cfg} {av : List PV} {l0 : PL} {v : Option PV} {h' : PH} {g' : PG} (h : xsD z m c = some (.inr (.inl (m', av, c')))) (hl : entryL m' av = some l0) (hc : XCD z m' (0, l0, [], c'.2.2.2.1, c'.2.2.2.2) = some (v, h', g')) :
    XCD z m c = XCD z m (c'.1, c'.2.1, v.toList ++ c'.2.2.1, h', g') := by
  obtain ⟨f0, hf0⟩ := XCD_some z hc
  refine XCD_eq z fun o => ⟨fun ⟨f, hf⟩ => ?_, fun ⟨f, hf⟩ => ⟨max f f0 + 1, ?_⟩⟩
  · cases f with
    | zero => simp [exD] at hf
    | succ f =>
      rw [exD, h] at hf
      simp only [hl] at hf
      cases hq : exD z f m' (0, l0, [], c'.2.2.2.1, c'.2.2.2.2) with
      | none => rw [hq] at hf; cases hf
      | some q =>
        rw [hq] at hf
        cases exD_det z hq hf0
        exact ⟨f, hf⟩
  · rw [exD, h]
    simp only [hl, exD_mono z (Nat.le_max_right f f0) hf0]
    exact exD_mono z (Nat.le_max_left f f0) hf
/-- a method's answer: what it returns, and the cells behind it -/
noncomputable def CALLD (z : Int → Int) (m : Nat) (av : List PV) (h : PH) (g : PG) : Option Out := match entryL m av with
  | some l0 => XCD z m (0, l0, [], h, g)
  | none => none
