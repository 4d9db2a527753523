/-! ===== WHAT THE FLAGGED MACHINE DOES, THE PLAIN ONE DOES: whatever its unflagged scratch holds ===== -/
def simR (hD h : PH) : Prop := ∀ a k : Int, 0 ≤ a → a < 1000 → (scrt a k = false ∨ hD (a + 4096) k = 1) → hD a k = h a k
def simC (c d : Cfg) : Prop := c.1 = d.1 ∧ c.2.1 = d.2.1 ∧ c.2.2.1 = d.2.2.1 ∧ simR c.2.2.2.1 d.2.2.2.1 ∧ c.2.2.2.2 = d.2.2.2.2
def simS : SR → SR → Prop
  | .inl c, .inl d => simC c d
  | .inr (.inl q), .inr (.inl r) => q.1 = r.1 ∧ q.2.1 = r.2.1 ∧ simC q.2.2 r.2.2
  | .inr (.inr o), .inr (.inr p) => o.1 = p.1 ∧ simR o.2.1 p.2.1 ∧ o.2.2 = p.2.2
  | _, _ => False
theorem simR_rd {hD h : PH} (H : simR hD h) {a k : Int} (ha : 0 ≤ a ∧ a < 1000) (e : rdk hD a k = true) : hD a k = h a k := by
  unfold rdk at e
  rcases Bool.or_eq_true_iff.mp e with e | e
  · exact H a k ha.1 ha.2 (Or.inl (by simpa using e))
  · exact H a k ha.1 ha.2 (Or.inr (of_decide_eq_true e))
theorem simR_wr {hD h : PH} (H : simR hD h) {a k v : Int} (ha : 0 ≤ a ∧ a < 1000) : simR (fl1 (u2 hD a k v) a k) (u2 h a k v) := by
  intro b j hb0 hb hf
  unfold fl1 at hf ⊢
  have e1 : u2 (u2 hD a k v) (a + 4096) k 1 b j = u2 hD a k v b j := by
    unfold u2
    rw [if_neg (by omega)]
  rw [e1]
  by_cases hab : b = a ∧ j = k
  · obtain ⟨rfl, rfl⟩ := hab
    unfold u2
    rw [if_pos rfl, if_pos rfl, if_pos rfl, if_pos rfl]
  · have e2 : u2 hD a k v b j = hD b j := by
      unfold u2
      by_cases hb2 : b = a
      · rw [if_pos hb2, if_neg (fun q => hab ⟨hb2, q⟩)]
      · rw [if_neg hb2]
    have e3 : u2 h a k v b j = h b j := by
      unfold u2
      by_cases hb2 : b = a
      · rw [if_pos hb2, if_neg (fun q => hab ⟨hb2, q⟩)]
      · rw [if_neg hb2]
    have e4 : u2 (u2 hD a k v) (a + 4096) k 1 (b + 4096) j = hD (b + 4096) j := by
      unfold u2
      by_cases hb2 : b = a
      · rw [if_pos (by omega), if_neg (fun q => hab ⟨hb2, q⟩), if_neg (by omega)]
      · rw [if_neg (by omega), if_neg (by omega)]
    rw [e4] at hf
    rw [e2, e3]
    exact H b j hb0 hb hf
/-- it goes on with the cells that it found -/
def HF (X : PH → PG → Option SR) : Prop := ∀ h g r, X h g = some r → (∃ pc ls st, r = .inl (pc, ls, st, h, g) ∧ ∀ h', X h' g = some (.inl (pc, ls, st, h', g)))
theorem HF_none : HF (fun _ _ => none) := fun h g r e => by cases e
theorem HF_nx (pc : Nat) (ls : PL) (st : List PV) : HF (fun h g => nx pc ls st h g) := fun h g r e => by
  cases e
  exact ⟨pc, ls, st, rfl, fun _ => rfl⟩
theorem HF_if {p : Prop} [Decidable p] {X Y : PH → PG → Option SR} (hX : HF X) (hY : HF Y) : HF (fun h g => if p then X h g else Y h g) := by
  by_cases hp : p
  · simp only [if_pos hp]; exact hX
  · simp only [if_neg hp]; exact hY
theorem HF_jmp (pc : Nat) (off : Int) (ls : PL) (st : List PV) : HF (fun h g => jmp pc off ls st h g) := HF_if (HF_nx _ _ _) HF_none
theorem HF_jc (c : ClassFile.Cond) (x y : Int) (pc : Nat) (off : Int) (ls : PL) (st : List PV) : HF (fun h g => jc c x y pc off ls st h g) := HF_if (HF_if (HF_nx _ _ _) (HF_nx _ _ _)) HF_none
theorem HF_st1 (i len pc : Nat) (v : PV) (ls : PL) (st : List PV) : HF (fun h g => st1 i len pc v ls st h g) := HF_if (HF_nx _ _ _) HF_none
theorem HF_st2 (i len pc : Nat) (v : PV) (ls : PL) (st : List PV) : HF (fun h g => st2 i len pc v ls st h g) := HF_if (HF_nx _ _ _) HF_none

theorem HF_bI (f : Int → Int → Int) (pc : Nat) (ls : PL) (st : List PV) : HF (fun h g => bI f pc ls st h g) := by
  unfold bI
  split
  all_goals first
    | exact HF_none
    | exact HF_nx _ _ _

theorem HF_bL (f : Int → Int → Int) (pc : Nat) (ls : PL) (st : List PV) : HF (fun h g => bL f pc ls st h g) := by
  unfold bL
  split
  all_goals first
    | exact HF_none
    | exact HF_nx _ _ _

theorem HF_qI (f : Int → Int → Int) (pc : Nat) (ls : PL) (st : List PV) : HF (fun h g => qI f pc ls st h g) := by
  unfold qI
  split
  all_goals first
    | exact HF_none
    | exact HF_if HF_none (HF_nx _ _ _)

theorem HF_qL (f : Int → Int → Int) (pc : Nat) (ls : PL) (st : List PV) : HF (fun h g => qL f pc ls st h g) := by
  unfold qL
  split
  all_goals first
    | exact HF_none
    | exact HF_if HF_none (HF_nx _ _ _)

theorem HF_uI (f : Int → Int) (pc : Nat) (ls : PL) (st : List PV) : HF (fun h g => uI f pc ls st h g) := by
  unfold uI
  split
  all_goals first
    | exact HF_none
    | exact HF_nx _ _ _

theorem HF_ldv (i len pc k : Nat) (ls : PL) (st : List PV) : HF (fun h g => ldv i len pc k ls st h g) := by
  unfold ldv
  split
  all_goals first
    | exact HF_none
    | exact HF_nx _ _ _

theorem HF_stv (i len pc k : Nat) (ls : PL) (st : List PV) : HF (fun h g => stv i len pc k ls st h g) := by
  unfold stv
  split
  all_goals first
    | exact HF_none
    | exact HF_st1 _ _ _ _ _ _
    | exact HF_st2 _ _ _ _ _ _

theorem HF_iinc (i : Nat) (c : Int) (pc : Nat) (ls : PL) (st : List PV) : HF (fun h g => iinc i c pc ls st h g) := by
  unfold iinc
  split
  all_goals first
    | exact HF_none
    | exact HF_st1 _ _ _ _ _ _

theorem HF_dup1 (pc : Nat) (ls : PL) (st : List PV) : HF (fun h g => dup1 pc ls st h g) := by
  unfold dup1
  split
  all_goals first
    | exact HF_none
    | exact HF_if (HF_nx _ _ _) HF_none

theorem HF_pop1 (pc : Nat) (ls : PL) (st : List PV) : HF (fun h g => pop1 pc ls st h g) := by
  unfold pop1
  split
  all_goals first
    | exact HF_none
    | exact HF_if (HF_nx _ _ _) HF_none

theorem HF_pop22 (pc : Nat) (ls : PL) (st : List PV) : HF (fun h g => pop22 pc ls st h g) := by
  unfold pop22
  split
  all_goals first
    | exact HF_none
    | exact HF_if (HF_nx _ _ _) HF_none

theorem HF_dup2 (pc : Nat) (ls : PL) (st : List PV) : HF (fun h g => dup2 pc ls st h g) := by
  unfold dup2
  split
  all_goals first
    | exact HF_none
    | exact HF_if (HF_nx _ _ _) HF_none

theorem HF_dupx (pc : Nat) (ls : PL) (st : List PV) : HF (fun h g => dupx pc ls st h g) := by
  unfold dupx
  split
  all_goals first
    | exact HF_none
    | exact HF_if (HF_nx _ _ _) HF_none

theorem HF_i2lI (pc : Nat) (ls : PL) (st : List PV) : HF (fun h g => i2lI pc ls st h g) := by
  unfold i2lI
  split
  all_goals first
    | exact HF_none
    | exact HF_nx _ _ _

theorem HF_l2iI (pc : Nat) (ls : PL) (st : List PV) : HF (fun h g => l2iI pc ls st h g) := by
  unfold l2iI
  split
  all_goals first
    | exact HF_none
    | exact HF_nx _ _ _

theorem HF_negL (pc : Nat) (ls : PL) (st : List PV) : HF (fun h g => negL pc ls st h g) := by
  unfold negL
  split
  all_goals first
    | exact HF_none
    | exact HF_nx _ _ _

theorem HF_lcmpI (pc : Nat) (ls : PL) (st : List PV) : HF (fun h g => lcmpI pc ls st h g) := by
  unfold lcmpI
  split
  all_goals first
    | exact HF_none
    | exact HF_nx _ _ _

theorem HF_alenI (z : Int → Int) (pc : Nat) (ls : PL) (st : List PV) : HF (fun h g => alenI z pc ls st h g) := by
  unfold alenI
  split
  · intro h g r e
    simp only at e ⊢
    split at e
    · cases e
      rename_i hk
      exact ⟨_, _, _, rfl, fun _ => by rw [if_pos hk]; rfl⟩
    · rename_i hk
      split at e
      · cases e
        rename_i hk2
        exact ⟨_, _, _, rfl, fun _ => by rw [if_neg hk, if_pos hk2]; rfl⟩
      · cases e
  · exact HF_none

theorem HF_aldR (pc : Nat) (ls : PL) (st : List PV) : HF (fun h g => aldR pc ls st h g) := by
  unfold aldR
  split
  · intro h g r e
    simp only at e ⊢
    split at e
    · cases e
      rename_i hk
      exact ⟨_, _, _, rfl, fun _ => by rw [if_pos hk]; rfl⟩
    · cases e
  · exact HF_none

theorem HF_getS (o i : Nat) (pc : Nat) (ls : PL) (st : List PV) : HF (fun h g => getS o i pc ls st h g) := by
  exact HF_if (HF_nx _ _ _) (HF_if (HF_nx _ _ _) (HF_if (HF_nx _ _ _) HF_none))

theorem HF_tsw (d lo hi : Int) (os : Array Int) (pc : Nat) (ls : PL) (st : List PV) : HF (fun h g => tsw d lo hi os pc ls st h g) := by
  unfold tsw
  split
  · refine HF_if (HF_jmp _ _ _ _) ?_
    split
    · exact HF_jmp _ _ _ _
    · exact HF_none
  · exact HF_none

theorem HF_lsw (d : Int) (ps : Array (Int × Int)) (pc : Nat) (ls : PL) (st : List PV) : HF (fun h g => lsw d ps pc ls st h g) := by
  unfold lsw
  split
  all_goals first
    | exact HF_none
    | exact HF_if (HF_jmp _ _ _ _) HF_none

theorem HF_sim {X : PH → PG → Option SR} (hX : HF X) {hD h : PH} {g : PG} {r : SR} (e : X hD g = some r) (H : simR hD h) : ∃ r', X h g = some r' ∧ simS r r' := by
  obtain ⟨pc, ls, st, rfl, k⟩ := hX hD g r e
  exact ⟨_, k h, rfl, rfl, rfl, H, rfl⟩

theorem isO_lt {a : Int} {k n : Nat} (hk : k ≠ 99) (e : isO a k n = true) : 0 ≤ a ∧ a < 1000 := by
  unfold isO at e
  simp only [Bool.and_eq_true, decide_eq_true_eq] at e
  by_cases hl : 0 ≤ a ∧ a < 1000
  · exact hl
  · exfalso
    have h2 := e.2.2
    unfold sid at h2
    rw [if_neg hl] at h2
    exact hk h2.symm
theorem fld_99 : fldL.all (fun e => !Nat.beq e.2.2.1 99) = true := by decide +kernel
theorem fldT_99 {o i c k w : Nat} (e : fldT o i = some (c, k, w)) : c ≠ 99 := by
  unfold fldT at e
  cases hf : fldL.find? (fun e => e.1 == o && e.2.1 == i) with
  | none => rw [hf] at e; cases e
  | some q =>
    rw [hf] at e
    simp only [Option.map_some, Option.some.injEq, Prod.mk.injEq] at e
    have h1 := List.all_eq_true.mp fld_99 q (List.mem_of_find?_eq_some hf)
    intro hc
    rw [e.1, hc] at h1
    cases h1
theorem ald_sim {z : Int → Int} {k n : Nat} {hD h : PH} {a i v : Int} (hk : k ≠ 99) (H : simR hD h) (hr : rdk hD a (w32 i) = true) (e : ald z k hD n a i = some v) : ald z k h n a i = some v := by
  unfold ald at e ⊢
  split at e
  · rename_i ho
    rw [if_pos ho]
    split at e
    · rename_i hi
      rw [if_pos hi, ← simR_rd H (isO_lt hk ho) hr]
      exact e
    · cases e
  · rename_i ho
    rw [if_neg ho]
    exact e
theorem aldI_sim {z : Int → Int} {k pc : Nat} {ls : PL} {st : List PV} {i a : Int} {hD h : PH} {g : PG} {r : SR} (hk : k ≠ 99) (H : simR hD h) (hr : rdk hD a (w32 i) = true) (e : aldI z k pc ls (.inl i :: .inr (.inr a) :: st) hD g = some r) :
    ∃ r', aldI z k pc ls (.inl i :: .inr (.inr a) :: st) h g = some r' ∧ simS r r' := by
  unfold aldI at e ⊢
  simp only at e ⊢
  cases hv : ald z k hD g.1 a i with
  | none => rw [hv] at e; cases e
  | some v =>
    rw [hv] at e
    cases e
    rw [ald_sim hk H hr hv]
    exact ⟨_, rfl, rfl, rfl, rfl, H, rfl⟩
theorem aldL_sim {pc : Nat} {ls : PL} {st : List PV} {i a : Int} {hD h : PH} {g : PG} {r : SR} (H : simR hD h) (hr : rdk hD a (w32 i) = true) (e : aldL pc ls (.inl i :: .inr (.inr a) :: st) hD g = some r) :
    ∃ r', aldL pc ls (.inl i :: .inr (.inr a) :: st) h g = some r' ∧ simS r r' := by
  unfold aldL at e ⊢
  simp only at e ⊢
  split at e
  · rename_i hi
    cases e
    rw [if_pos hi, ← simR_rd H (isO_lt (by decide) hi.1) hr]
    exact ⟨_, rfl, rfl, rfl, rfl, H, rfl⟩
  · cases e
theorem getF_sim {o i pc c k w : Nat} {ls : PL} {st : List PV} {a : Int} {hD h : PH} {g : PG} {r : SR} (hf : fldT o i = some (c, k, w)) (H : simR hD h) (hr : rdk hD a k = true) (e : getF o i pc ls (.inr (.inr a) :: st) hD g = some r) :
    ∃ r', getF o i pc ls (.inr (.inr a) :: st) h g = some r' ∧ simS r r' := by
  unfold getF at e ⊢
  simp only [hf] at e ⊢
  split at e
  · rename_i ho
    have hq := simR_rd H (isO_lt (fldT_99 hf) ho) hr
    rw [if_pos ho, ← hq]
    split at e
    · rename_i h0
      cases e
      rw [if_pos h0]
      exact ⟨_, rfl, rfl, rfl, rfl, H, rfl⟩
    · rename_i h0
      rw [if_neg h0]
      split at e
      · rename_i h1
        rw [if_pos h1]
        split at e
        · rename_i h2
          cases e
          rw [if_pos h2]
          exact ⟨_, rfl, rfl, rfl, rfl, H, rfl⟩
        · cases e
      · rename_i h1
        rw [if_neg h1]
        split at e
        · rename_i h3
          rw [if_pos h3]
          split at e
          · rename_i h2
            cases e
            rw [if_pos h2]
            exact ⟨_, rfl, rfl, rfl, rfl, H, rfl⟩
          · cases e
        · cases e
  · cases e
theorem getF_none {o i pc : Nat} {ls : PL} {st : List PV} {a : Int} {hD h : PH} {g : PG} {r : SR} (hf : fldT o i = none) (H : simR hD h) (e : getF o i pc ls (.inr (.inr a) :: st) hD g = some r) :
    ∃ r', getF o i pc ls (.inr (.inr a) :: st) h g = some r' ∧ simS r r' := by
  have hX : HF (fun h g => getF o i pc ls (.inr (.inr a) :: st) h g) := by
    unfold getF
    simp only [hf]
    exact HF_if (HF_if (HF_nx _ _ _) (HF_if (HF_nx _ _ _) HF_none)) HF_none
  exact HF_sim hX e H
theorem mapH_some {f : PH → PH} {x : Option SR} {r : SR} (e : mapH f x = some r) : ∃ pc ls st h g, x = some (.inl (pc, ls, st, h, g)) ∧ r = .inl (pc, ls, st, f h, g) := by
  unfold mapH at e
  split at e
  · cases e
    exact ⟨_, _, _, _, _, rfl, rfl⟩
  · cases e
theorem astI_sim {k pc : Nat} {ok : Int → Bool} {ls : PL} {st : List PV} {v i a : Int} {hD h : PH} {g : PG} {r : SR} (hk : k ≠ 99) (H : simR hD h) (e : mapH (fun h => fl1 h a (w32 i)) (astI k ok pc ls (.inl v :: .inl i :: .inr (.inr a) :: st) hD g) = some r) :
    ∃ r', astI k ok pc ls (.inl v :: .inl i :: .inr (.inr a) :: st) h g = some r' ∧ simS r r' := by
  obtain ⟨pc', ls', st', h', g', e1, rfl⟩ := mapH_some e
  unfold astI at e1 ⊢
  simp only at e1 ⊢
  split at e1
  · rename_i hc
    cases e1
    rw [if_pos hc]
    exact ⟨_, rfl, rfl, rfl, rfl, simR_wr H (isO_lt hk hc.1), rfl⟩
  · cases e1
theorem astL_sim {pc : Nat} {ls : PL} {st : List PV} {v i a : Int} {hD h : PH} {g : PG} {r : SR} (H : simR hD h) (e : mapH (fun h => fl1 h a (w32 i)) (astL pc ls (.inr (.inl v) :: .inl i :: .inr (.inr a) :: st) hD g) = some r) :
    ∃ r', astL pc ls (.inr (.inl v) :: .inl i :: .inr (.inr a) :: st) h g = some r' ∧ simS r r' := by
  obtain ⟨pc', ls', st', h', g', e1, rfl⟩ := mapH_some e
  unfold astL at e1 ⊢
  simp only at e1 ⊢
  split at e1
  · rename_i hc
    cases e1
    rw [if_pos hc]
    exact ⟨_, rfl, rfl, rfl, rfl, simR_wr H (isO_lt (by decide) hc.1), rfl⟩
  · cases e1
theorem putF_sim {ini : Bool} {o i pc c k w : Nat} {ls : PL} {st : List PV} {v : PV} {a : Int} {hD h : PH} {g : PG} {r : SR} (hf : fldT o i = some (c, k, w)) (h1 : Nat.beq (fty c k) 1 = false) (H : simR hD h)
    (e : mapH (fun h => fl1 h a k) (putF ini o i pc ls (v :: .inr (.inr a) :: st) hD g) = some r) : ∃ r', putF ini o i pc ls (v :: .inr (.inr a) :: st) h g = some r' ∧ simS r r' := by
  obtain ⟨pc', ls', st', h', g', e1, rfl⟩ := mapH_some e
  unfold putF at e1 ⊢
  simp only [hf] at e1 ⊢
  have hn : ¬ (fty c k = 1) := fun q => by rw [q] at h1; cases h1
  match v, e1 with
  | .inl x, e1 =>
    simp only at e1 ⊢
    split at e1
    · rename_i hc
      cases e1
      rw [if_pos hc]
      exact ⟨_, rfl, rfl, rfl, rfl, simR_wr H (isO_lt (fldT_99 hf) hc.1), rfl⟩
    · cases e1
  | .inr (.inl x), e1 => cases e1
  | .inr (.inr x), e1 =>
    simp only at e1 ⊢
    split at e1
    · rename_i hc
      rw [if_pos hc]
      rw [if_neg (fun q => hn q.1)] at e1 ⊢
      split at e1
      · rename_i h2
        cases e1
        rw [if_pos h2]
        exact ⟨_, rfl, rfl, rfl, rfl, simR_wr H (isO_lt (fldT_99 hf) hc.1), rfl⟩
      · cases e1
    · cases e1
theorem doCall_sim {ks : List Nat} {mm o i pc : Nat} {ls : PL} {st : List PV} {hD h : PH} {g : PG} {r : SR} (H : simR hD h) (e : doCall ks mm o i pc ls st hD g = some r) : ∃ r', doCall ks mm o i pc ls st h g = some r' ∧ simS r r' := by
  unfold doCall at e ⊢
  split at e
  · rename_i m' b hm
    split at e
    · rename_i hc
      rw [if_pos hc]
      split at e
      · rename_i a r' hr
        split at e
        · cases e
        · rename_i hn
          cases e
          exact ⟨.inr (.inl (m', .inr (.inr a) :: r', (pc + 3, ls, st.drop (mN m'), h, g))), if_neg hn, rfl, rfl, rfl, rfl, rfl, H, rfl⟩
      · rename_i hno
        split at e
        · rename_i hk
          cases e
          exact ⟨.inr (.inl (m', (st.take (mN m')).reverse, (pc + 3, ls, st.drop (mN m'), h, g))), if_pos hk, rfl, rfl, rfl, rfl, rfl, H, rfl⟩
        · cases e
    · cases e
  · cases e
theorem retI_sim {m : Nat} {st : List PV} {hD h : PH} {g : PG} {r : SR} (H : simR hD h) (e : retI m st hD g = some r) : ∃ r', retI m st h g = some r' ∧ simS r r' := by
  unfold retI at e ⊢
  split at e
  · rename_i x
    split at e
    · cases e; exact ⟨_, rfl, rfl, H, rfl⟩
    all_goals first
      | (split at e
         · rename_i hc
           cases e
           rw [if_pos hc]
           exact ⟨_, rfl, rfl, H, rfl⟩
         · cases e)
      | cases e
  · cases e
theorem retL_sim {m : Nat} {st : List PV} {hD h : PH} {g : PG} {r : SR} (H : simR hD h) (e : retL m st hD g = some r) : ∃ r', retL m st h g = some r' ∧ simS r r' := by
  unfold retL at e ⊢
  split at e
  · split at e
    · rename_i hc
      cases e
      rw [if_pos hc]
      exact ⟨_, rfl, rfl, H, rfl⟩
    · cases e
  · cases e
theorem retV_sim {m : Nat} {st : List PV} {hD h : PH} {g : PG} {r : SR} (H : simR hD h) (e : retV m st hD g = some r) : ∃ r', retV m st h g = some r' ∧ simS r r' := by
  unfold retV at e ⊢
  split at e
  · split at e
    · rename_i hc
      cases e
      rw [if_pos hc]
      exact ⟨_, rfl, rfl, H, rfl⟩
    · cases e
  · cases e
theorem cpy_sim {hD h : PH} (H : simR hD h) {a i b j n : Int} (ha0 : 0 ≤ a) (ha : a < 213) (hb : b < 1000) : simR (cpyH hD a i b j n) (cpyH h a i b j n) := by
  intro c k hc0 hc hf
  unfold cpyH at hf ⊢
  have hs : ∀ q : Int, scrt a q = false := by
    intro q
    unfold scrt
    rw [decide_eq_false (by omega), decide_eq_false (by omega : ¬ a = 213)]
    rfl
  rw [if_neg (by omega : ¬ c + 4096 = b)] at hf
  by_cases hcb : c = b
  · rw [if_pos hcb, if_pos hcb]
    by_cases hk : j ≤ k ∧ k < j + n
    · rw [if_pos hk, if_pos hk]
      exact H a _ ha0 (by omega) (Or.inl (hs _))
    · rw [if_neg hk, if_neg hk]
      exact H c k hc0 hc hf
  · rw [if_neg hcb, if_neg hcb]
    exact H c k hc0 hc hf
theorem blt_sim {mm o i' pc : Nat} {ls : PL} {n j b i a : Int} {st : List PV} {hD h : PH} {g : PG} {r : SR} (ha : a < 213) (hb : bltT o i' = some 2) (H : simR hD h)
    (e : doBlt mm o i' pc ls (.inl n :: .inl j :: .inr (.inr b) :: .inl i :: .inr (.inr a) :: st) hD g = some r) : ∃ r', doBlt mm o i' pc ls (.inl n :: .inl j :: .inr (.inr b) :: .inl i :: .inr (.inr a) :: st) h g = some r' ∧ simS r r' := by
  unfold doBlt at e ⊢
  split at e
  · rename_i hc
    rw [if_pos hc]
    rw [hb] at e ⊢
    simp only at e ⊢
    split at e
    · rename_i hk
      cases e
      rw [if_pos hk]
      exact ⟨_, rfl, rfl, rfl, rfl, cpy_sim H (isO_lt (by decide) hk.1).1 ha (isO_lt (by decide) hk.2.1).2, rfl⟩
    · cases e
  · cases e
theorem HF_blt {mm o i' pc : Nat} {ls : PL} {st : List PV} (hb : bltT o i' ≠ some 2) : HF (fun h g => doBlt mm o i' pc ls st h g) := by
  unfold doBlt
  refine HF_if ?_ HF_none
  split
  · split
    · exact HF_if (HF_nx _ _ _) HF_none
    · exact HF_none
  · rename_i hx; exact absurd hx hb
  · split
    · exact HF_if (HF_nx _ _ _) HF_none
    · exact HF_none
  · split
    · exact HF_if (HF_nx _ _ _) HF_none
    · exact HF_none
  · exact HF_none
set_option maxHeartbeats 4000000 in
theorem xiD_sim {z : Int → Int} {m len pc : Nat} {i : Instr} {ls : PL} {st : List PV} {hD h : PH} {g : PG} {r : SR} (e : xiD z m i len pc ls st hD g = some r) (H : simR hD h) : ∃ r', xi z m i len pc ls st h g = some r' ∧ simS r r' := by
  cases i
  case pop  => exact HF_sim (HF_if (HF_pop1 _ _ _) HF_none) e H
  case pop2  => exact HF_sim (HF_if (HF_pop22 _ _ _) HF_none) e H
  case iconst x => exact HF_sim (HF_if (HF_nx _ _ _) HF_none) e H
  case bipush x => exact HF_sim (HF_if (HF_nx _ _ _) HF_none) e H
  case sipush x => exact HF_sim (HF_if (HF_nx _ _ _) HF_none) e H
  case lconst x => exact HF_sim (HF_if (HF_nx _ _ _) HF_none) e H
  case iload_n x => exact HF_sim (HF_if (HF_ldv _ _ _ _ _ _) HF_none) e H
  case iload x => exact HF_sim (HF_if (HF_ldv _ _ _ _ _ _) HF_none) e H
  case istore_n x => exact HF_sim (HF_if (HF_stv _ _ _ _ _ _) HF_none) e H
  case istore x => exact HF_sim (HF_if (HF_stv _ _ _ _ _ _) HF_none) e H
  case lload_n x => exact HF_sim (HF_if (HF_ldv _ _ _ _ _ _) HF_none) e H
  case lload x => exact HF_sim (HF_if (HF_ldv _ _ _ _ _ _) HF_none) e H
  case lstore_n x => exact HF_sim (HF_if (HF_stv _ _ _ _ _ _) HF_none) e H
  case lstore x => exact HF_sim (HF_if (HF_stv _ _ _ _ _ _) HF_none) e H
  case aload_n x => exact HF_sim (HF_if (HF_ldv _ _ _ _ _ _) HF_none) e H
  case aload x => exact HF_sim (HF_if (HF_ldv _ _ _ _ _ _) HF_none) e H
  case astore_n x => exact HF_sim (HF_if (HF_stv _ _ _ _ _ _) HF_none) e H
  case astore x => exact HF_sim (HF_if (HF_stv _ _ _ _ _ _) HF_none) e H
  case iinc x y => exact HF_sim (HF_if (HF_iinc _ _ _ _ _) HF_none) e H
  case iadd  => exact HF_sim (HF_if (HF_bI _ _ _ _) HF_none) e H
  case isub  => exact HF_sim (HF_if (HF_bI _ _ _ _) HF_none) e H
  case imul  => exact HF_sim (HF_if (HF_bI _ _ _ _) HF_none) e H
  case iand  => exact HF_sim (HF_if (HF_bI _ _ _ _) HF_none) e H
  case ior  => exact HF_sim (HF_if (HF_bI _ _ _ _) HF_none) e H
  case ixor  => exact HF_sim (HF_if (HF_bI _ _ _ _) HF_none) e H
  case ishl  => exact HF_sim (HF_if (HF_bI _ _ _ _) HF_none) e H
  case ishr  => exact HF_sim (HF_if (HF_bI _ _ _ _) HF_none) e H
  case iushr  => exact HF_sim (HF_if (HF_bI _ _ _ _) HF_none) e H
  case idiv  => exact HF_sim (HF_if (HF_qI _ _ _ _) HF_none) e H
  case irem  => exact HF_sim (HF_if (HF_qI _ _ _ _) HF_none) e H
  case ineg  => exact HF_sim (HF_if (HF_uI _ _ _ _) HF_none) e H
  case i2b  => exact HF_sim (HF_if (HF_uI _ _ _ _) HF_none) e H
  case i2c  => exact HF_sim (HF_if (HF_uI _ _ _ _) HF_none) e H
  case i2l  => exact HF_sim (HF_if (HF_i2lI _ _ _) HF_none) e H
  case l2i  => exact HF_sim (HF_if (HF_l2iI _ _ _) HF_none) e H
  case ladd  => exact HF_sim (HF_if (HF_bL _ _ _ _) HF_none) e H
  case lsub  => exact HF_sim (HF_if (HF_bL _ _ _ _) HF_none) e H
  case lmul  => exact HF_sim (HF_if (HF_bL _ _ _ _) HF_none) e H
  case ldiv  => exact HF_sim (HF_if (HF_qL _ _ _ _) HF_none) e H
  case lrem  => exact HF_sim (HF_if (HF_qL _ _ _ _) HF_none) e H
  case lneg  => exact HF_sim (HF_if (HF_negL _ _ _) HF_none) e H
  case lcmp  => exact HF_sim (HF_if (HF_lcmpI _ _ _) HF_none) e H
  case dup  => exact HF_sim (HF_if (HF_dup1 _ _ _) HF_none) e H
  case dup2  => exact HF_sim (HF_if (HF_dup2 _ _ _) HF_none) e H
  case dup_x1  => exact HF_sim (HF_if (HF_dupx _ _ _) HF_none) e H
  case goto o => exact HF_sim (HF_if (HF_jmp _ _ _ _) HF_none) e H
  case ifCond c o =>
    have hX : HF (fun h g => xi z m (.ifCond c o) len pc ls st h g) := by
      unfold xi
      simp only
      refine HF_if ?_ HF_none
      split
      · exact HF_jc _ _ _ _ _ _ _
      · exact HF_none
    exact HF_sim hX e H
  case if_icmp c o =>
    have hX : HF (fun h g => xi z m (.if_icmp c o) len pc ls st h g) := by
      unfold xi
      simp only
      refine HF_if ?_ HF_none
      split
      · exact HF_jc _ _ _ _ _ _ _
      · exact HF_none
    exact HF_sim hX e H
  case tableswitch d lo hi os => exact HF_sim (HF_tsw _ _ _ _ _ _ _) e H
  case lookupswitch d ps => exact HF_sim (HF_lsw _ _ _ _ _) e H
  case arraylength  => exact HF_sim (HF_if (HF_alenI _ _ _ _) HF_none) e H
  case aaload  => exact HF_sim (HF_if (HF_aldR _ _ _) HF_none) e H
  case getstatic k => exact HF_sim (HF_if (HF_getS _ _ _ _ _) HF_none) e H
  case iaload =>
    unfold xiD at e
    simp only at e
    split at e
    · rename_i i a s0
      cases hr : rdk hD a (w32 i) with
      | false => rw [hr] at e; cases e
      | true =>
        rw [hr] at e
        simp only [cond_true] at e
        unfold xi at e ⊢
        simp only at e ⊢
        split at e
        · rename_i hl
          rw [if_pos hl]
          exact aldI_sim (by decide) H hr e
        · cases e
    · cases e
  case caload =>
    unfold xiD at e
    simp only at e
    split at e
    · rename_i i a s0
      cases hr : rdk hD a (w32 i) with
      | false => rw [hr] at e; cases e
      | true =>
        rw [hr] at e
        simp only [cond_true] at e
        unfold xi at e ⊢
        simp only at e ⊢
        split at e
        · rename_i hl
          rw [if_pos hl]
          exact aldI_sim (by decide) H hr e
        · cases e
    · cases e
  case baload =>
    unfold xiD at e
    simp only at e
    split at e
    · rename_i i a s0
      cases hr : rdk hD a (w32 i) with
      | false => rw [hr] at e; cases e
      | true =>
        rw [hr] at e
        simp only [cond_true] at e
        unfold xi at e ⊢
        simp only at e ⊢
        split at e
        · rename_i hl
          rw [if_pos hl]
          exact aldI_sim (by decide) H hr e
        · cases e
    · cases e
  case laload =>
    unfold xiD at e
    simp only at e
    split at e
    · rename_i i a s0
      cases hr : rdk hD a (w32 i) with
      | false => rw [hr] at e; cases e
      | true =>
        rw [hr] at e
        simp only [cond_true] at e
        unfold xi at e ⊢
        simp only at e ⊢
        split at e
        · rename_i hl
          rw [if_pos hl]
          exact aldL_sim H hr e
        · cases e
    · cases e
  case getfield k =>
    unfold xiD at e
    simp only at e
    split at e
    · rename_i a s0
      split at e
      · rename_i c f w hf
        cases hr : rdk hD a f with
        | false => rw [hr] at e; cases e
        | true =>
          rw [hr] at e
          simp only [cond_true] at e
          unfold xi at e ⊢
          simp only at e ⊢
          split at e
          · rename_i hl
            rw [if_pos hl]
            exact getF_sim hf H hr e
          · cases e
      · rename_i hf
        unfold xi at e ⊢
        simp only at e ⊢
        split at e
        · rename_i hl
          rw [if_pos hl]
          exact getF_none hf H e
        · cases e
    · cases e
  case iastore =>
    unfold xiD at e
    simp only at e
    split at e
    · unfold xi at e ⊢
      simp only at e ⊢
      split at e
      · rename_i hl
        rw [if_pos hl]
        exact astI_sim (by decide) H e
      · cases e
    · cases e
  case lastore =>
    unfold xiD at e
    simp only at e
    split at e
    · unfold xi at e ⊢
      simp only at e ⊢
      split at e
      · rename_i hl
        rw [if_pos hl]
        exact astL_sim H e
      · cases e
    · cases e
  case putfield k =>
    unfold xiD at e
    simp only at e
    split at e
    · split at e
      · rename_i c f w hf
        cases h1 : Nat.beq (fty c f) 1 with
        | true => rw [h1] at e; cases e
        | false =>
          rw [h1] at e
          simp only [cond_false] at e
          unfold xi at e ⊢
          simp only at e ⊢
          split at e
          · rename_i hl
            rw [if_pos hl]
            exact putF_sim hf h1 H e
          · cases e
      · cases e
    · cases e
  case invokevirtual k => exact (by
    unfold xiD at e
    simp only at e
    unfold xi at e ⊢
    simp only at e ⊢
    split at e
    · rename_i hl
      rw [if_pos hl]
      exact doCall_sim H e
    · cases e)
  case invokestatic k =>
    unfold xiD at e
    simp only at e
    cases hb : decide (bltT (mO m) k = some 2) with
    | true =>
      rw [hb] at e
      have hb := of_decide_eq_true hb
      simp only [cond_true] at e
      split at e
      · rename_i n0 j0 b0 i0 a0 s0
        cases ha : decide (a0 < 213) with
        | false => rw [ha] at e; cases e
        | true =>
          rw [ha] at e
          have ha := of_decide_eq_true ha
          simp only [cond_true] at e
          unfold xi at e ⊢
          simp only at e ⊢
          split at e
          · rename_i hl
            rw [if_pos hl]
            rw [if_neg (by rw [hb]; intro q; cases q), if_neg (by rw [hb]; intro q; cases q)] at e ⊢
            exact blt_sim ha hb H e
          · cases e
      · cases e
    | false =>
      rw [hb] at e
      have hb := of_decide_eq_false hb
      simp only [cond_false] at e
      unfold xi at e ⊢
      simp only at e ⊢
      split at e
      · rename_i hl
        rw [if_pos hl]
        split at e
        · rename_i h0
          rw [if_pos h0]
          exact doCall_sim H e
        · rename_i h0
          rw [if_neg h0]
          split at e
          · cases e
          · rename_i h1
            rw [if_neg h1]
            exact HF_sim (HF_blt hb) e H
      · cases e
  case invokespecial k =>
    unfold xiD at e
    simp only at e
    unfold xi at e ⊢
    simp only at e ⊢
    split at e
    · rename_i hl
      rw [if_pos hl]
      split at e
      · rename_i h0
        rw [if_pos h0]
        exact doCall_sim H e
      · rename_i h0
        rw [if_neg h0]
        split at e
        · rename_i h1
          rw [if_pos h1]
          exact HF_sim (HF_blt (by rw [h1]; intro q; cases q)) e H
        · cases e
    · cases e
  case ireturn =>
    unfold xiD at e
    simp only at e
    unfold xi at e ⊢
    simp only at e ⊢
    split at e
    · rename_i hl
      rw [if_pos hl]
      exact retI_sim H e
    · cases e
  case lreturn =>
    unfold xiD at e
    simp only at e
    unfold xi at e ⊢
    simp only at e ⊢
    split at e
    · rename_i hl
      rw [if_pos hl]
      exact retL_sim H e
    · cases e
  case return_ =>
    unfold xiD at e
    simp only at e
    unfold xi at e ⊢
    simp only at e ⊢
    split at e
    · rename_i hl
      rw [if_pos hl]
      exact retV_sim H e
    · cases e
  case ldc k =>
    refine HF_sim (X := fun h g => xi z m (.ldc k) len pc ls st h g) ?_ e H
    unfold xi
    simp only
    refine HF_if ?_ HF_none
    split
    · exact HF_nx _ _ _
    · split
      · exact HF_nx _ _ _
      · exact HF_none
  case ldc_w k =>
    refine HF_sim (X := fun h g => xi z m (.ldc_w k) len pc ls st h g) ?_ e H
    unfold xi
    simp only
    refine HF_if ?_ HF_none
    split
    · exact HF_nx _ _ _
    · exact HF_none
  case ldc2_w k =>
    refine HF_sim (X := fun h g => xi z m (.ldc2_w k) len pc ls st h g) ?_ e H
    unfold xi
    simp only
    refine HF_if ?_ HF_none
    split
    · exact HF_nx _ _ _
    · exact HF_none
  all_goals first
    | exact HF_sim (X := fun _ _ => none) HF_none e H
    | cases e
