/-! ===== THE SAME OF WHOLE RUNS; WHAT A CALL ANSWERS DOES NOT HANG ON UNFLAGGED SCRATCH ===== -/
theorem xsD_sim {z : Int → Int} {m : Nat} {c d : Cfg} {r : SR} (e : xsD z m c = some r) (H : simC c d) : ∃ r', xs z m d = some r' ∧ simS r r' := by
  obtain ⟨pc, ls, st, hD, g⟩ := c
  obtain ⟨pc', ls', st', h, g'⟩ := d
  obtain ⟨h1, h2, h3, h4, h5⟩ := H
  simp only at h1 h2 h3 h4 h5
  subst h1 h2 h3 h5
  unfold xsD at e
  unfold xs
  simp only at e ⊢
  split at e
  · rename_i i len hd
    rw [hd]
    exact xiD_sim e h4
  · cases e
theorem exD_sim {z : Int → Int} : ∀ (f m : Nat) (c d : Cfg) (o : Out), exD z f m c = some o → simC c d → ∃ o', ex z f m d = some o' ∧ o.1 = o'.1 ∧ simR o.2.1 o'.2.1 ∧ o.2.2 = o'.2.2 := by
  intro f
  induction f with
  | zero => intro m c d o e; cases e
  | succ f ih =>
    intro m c d o e H
    rw [exD] at e
    rw [ex]
    split at e
    · cases e
    · rename_i c' hx
      obtain ⟨r', hr, hs⟩ := xsD_sim hx H
      rw [hr]
      match r', hs with
      | .inl d', hs => exact ih m c' d' o e hs
    · rename_i m' av c' hx
      obtain ⟨r', hr, hs⟩ := xsD_sim hx H
      rw [hr]
      match r', hs with
      | .inr (.inl (m2, av2, d')), hs =>
        obtain ⟨h1, h2, h3⟩ := hs
        simp only at h1 h2
        subst h1 h2
        simp only
        obtain ⟨k1, k2, k3, k4, k5⟩ := h3
        split at e
        · cases e
        · rename_i l0 hl0
          rw [hl0]
          simp only
          split at e
          · cases e
          · rename_i v h' g' hq
            obtain ⟨o', q1, q2, q3, q4⟩ := ih _ _ (0, l0, [], d'.2.2.2.1, d'.2.2.2.2) _ hq ⟨rfl, rfl, rfl, k4, k5⟩
            rw [q1]
            obtain ⟨v2, h2', g2⟩ := o'
            simp only at q2 q3 q4
            subst q2 q4
            simp only
            rw [← k1, ← k2, ← k3]
            exact ih _ _ _ _ e ⟨rfl, rfl, rfl, q3, rfl⟩
    · rename_i o2 hx
      obtain ⟨r', hr, hs⟩ := xsD_sim hx H
      rw [hr]
      cases e
      match r', hs with
      | .inr (.inr o'), hs => exact ⟨o', rfl, hs.1, hs.2.1, hs.2.2⟩
theorem CALLD_sim {z : Int → Int} {m : Nat} {av : List PV} {hD h hD' : PH} {g g' : PG} {v : Option PV} (e : CALLD z m av hD g = some (v, hD', g')) (H : simR hD h) : ∃ h', CALL z m av h g = some (v, h', g') ∧ simR hD' h' := by
  unfold CALLD at e
  unfold CALL
  split at e
  · rename_i l0 hl0
    rw [hl0]
    obtain ⟨f, hf⟩ := XCD_some z e
    obtain ⟨o', k1, k2, k3, k4⟩ := exD_sim f m _ (0, l0, [], h, g) _ hf ⟨rfl, rfl, rfl, H, rfl⟩
    obtain ⟨v2, h2, g2⟩ := o'
    simp only at k2 k3 k4
    subst k2 k4
    exact ⟨h2, XC_of z k1, k3⟩
  · cases e
