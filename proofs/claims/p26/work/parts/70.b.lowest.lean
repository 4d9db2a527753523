/-! ===== Euclid's steps of the class, by hand; contracts of the texts' methods ===== -/
theorem args1 {a : ArgT} {as : List ArgT} : ∀ {avs : List PV} {V : List Int}, argsOK (a :: as) avs V → ∃ w ws x xs, avs = w :: ws ∧ V = x :: xs ∧ argOK a w x ∧ argsOK as ws xs
  | w :: ws, x :: xs, h => ⟨w, ws, x, xs, rfl, rfl, h.1, h.2⟩
  | [], _, h => h.elim
  | _ :: _, [], h => h.elim
theorem args0 : ∀ {avs : List PV} {V : List Int}, argsOK [] avs V → avs = [] ∧ V = []
  | [], [], _ => ⟨rfl, rfl⟩
  | [], _ :: _, h => h.elim
  | _ :: _, _, h => h.elim
theorem argI {iv : Option IV} {b s : Int} {n : Nat} : ∀ {w : PV} {x : Int}, argOK (0, iv, b, s, n) w x → w = .inl x ∧ bnd iv x
  | .inl y, x, ⟨_, h2, h3⟩ => ⟨by rw [show y = x from h2], h3⟩
  | .inr (.inl _), _, ⟨h1, _⟩ => by cases h1
  | .inr (.inr _), _, ⟨h1, _⟩ => by cases h1
theorem argL {iv : Option IV} {b s : Int} {n : Nat} : ∀ {w : PV} {x : Int}, argOK (1, iv, b, s, n) w x → w = .inr (.inl x) ∧ bnd iv x
  | .inr (.inl y), x, ⟨_, h2, h3⟩ => ⟨by rw [show y = x from h2], h3⟩
  | .inl _, _, ⟨h1, _⟩ => by cases h1
  | .inr (.inr _), _, ⟨h1, _⟩ => by cases h1
theorem argR {iv : Option IV} {b : Int} : ∀ {w : PV} {x : Int}, argOK (2, iv, b, 0, 1) w x → w = .inr (.inr b)
  | .inr (.inr y), x, ⟨_, h2, _⟩ => by rw [show y = b + 0 * x from h2, Int.zero_mul, Int.add_zero]
  | .inl _, _, ⟨h1, _⟩ => by cases h1
  | .inr (.inl _), _, ⟨h1, _⟩ => by cases h1
theorem con_len {z : Int → Int} {m : Nat} {a n : Int} (hc : ∀ (h : PH) (g : PG), CALLD z m [vR a] h g = some (some (vI n), h, g)) : conOK z (m, [(2, none, a, 0, 1)], [], [], [], [], [((some (0, (some (n, n)))), [], [], [])]) := by
  intro avs V1 V2 h g h1 h2 hB hg hf hr
  obtain ⟨w, ws, x, xs, rfl, rfl, k1, k2⟩ := args1 h1
  obtain ⟨rfl, rfl⟩ := args0 k2
  rw [argR k1]
  exact ⟨_, h, g, hc h g, hB, FR.rf, hg, _, List.mem_cons_self, n, ⟨rfl, rfl, fun q hq => by cases hq; exact ⟨Int.le_refl _, Int.le_refl _⟩⟩, (fun q hq => by cases hq), (fun q hq => by cases hq), (fun q hq => by cases hq)⟩
theorem con_chr {z : Int → Int} {m : Nat} {a u lo hi : Int} (hc : ∀ i : Int, 0 ≤ i → i ≤ u → ∃ c : Int, lo ≤ c ∧ c ≤ hi ∧ ∀ (h : PH) (g : PG), CALLD z m [vR a, vI i] h g = some (some (vI c), h, g)) : conOK z (m, [(2, none, a, 0, 1), (0, (some (0, u)), 0, 0, 0)], [], [], [], [], [((some (0, (some (lo, hi)))), [], [], [])]) := by
  intro avs V1 V2 h g h1 h2 hB hg hf hr
  obtain ⟨w, ws, x, xs, rfl, rfl, k1, k2⟩ := args1 h1
  obtain ⟨w2, ws2, x2, xs2, rfl, rfl, k3, k4⟩ := args1 k2
  obtain ⟨rfl, rfl⟩ := args0 k4
  obtain ⟨e2, e3⟩ := argI k3
  rw [argR k1, e2]
  have hb := e3 (0, u) rfl
  obtain ⟨c, c1, c2, c3⟩ := hc x2 hb.1 hb.2
  exact ⟨_, h, g, c3 h g, hB, FR.rf, hg, _, List.mem_cons_self, c, ⟨rfl, rfl, fun q hq => by cases hq; exact ⟨c1, c2⟩⟩, (fun q hq => by cases hq), (fun q hq => by cases hq), (fun q hq => by cases hq)⟩
theorem jcD {z : Int → Int} {m pc : Nat} {c : ClassFile.Cond} {off x y : Int} {ls : PL} {st : List PV} {h : PH} {g : PG} (b : Bool) (h0 : 0 ≤ (pc : Int) + off) (hc : ccmp c x y = b) : xiD z m (.if_icmp c off) 3 pc ls (vI y :: vI x :: st) h g = some (.inl ((if b = true then tgtOf pc off else pc + 3), ls, st, h, g)) := by
  show jc c x y pc off ls st h g = _
  unfold jc
  rw [if_pos h0, hc]
  cases b <;> rfl
theorem j0D {z : Int → Int} {m pc : Nat} {c : ClassFile.Cond} {off x : Int} {ls : PL} {st : List PV} {h : PH} {g : PG} (b : Bool) (h0 : 0 ≤ (pc : Int) + off) (hc : ccmp c x 0 = b) : xiD z m (.ifCond c off) 3 pc ls (vI x :: st) h g = some (.inl ((if b = true then tgtOf pc off else pc + 3), ls, st, h, g)) := by
  show jc c x 0 pc off ls st h g = _
  unfold jc
  rw [if_pos h0, hc]
  cases b <;> rfl
theorem dz90_0 : decode (mC 90) 0 = .ok (.lload_n 2, 1) := by decide +kernel
theorem dz90_1 : decode (mC 90) 1 = .ok (.lstore 5, 2) := by decide +kernel
theorem dz90_3 : decode (mC 90) 3 = .ok (.lload_n 0, 1) := by decide +kernel
theorem dz90_4 : decode (mC 90) 4 = .ok (.lstore 7, 2) := by decide +kernel
theorem dz90_6 : decode (mC 90) 6 = .ok (.iconst 0, 1) := by decide +kernel
theorem dz90_7 : decode (mC 90) 7 = .ok (.istore 9, 2) := by decide +kernel
theorem dz90_9 : decode (mC 90) 9 = .ok (.iload 9, 2) := by decide +kernel
theorem dz90_11 : decode (mC 90) 11 = .ok (.bipush 100, 2) := by decide +kernel
theorem dz90_13 : decode (mC 90) 13 = .ok (.if_icmp .ge 31, 3) := by decide +kernel
theorem dz90_16 : decode (mC 90) 16 = .ok (.lload 7, 2) := by decide +kernel
theorem dz90_18 : decode (mC 90) 18 = .ok (.lconst 0, 1) := by decide +kernel
theorem dz90_19 : decode (mC 90) 19 = .ok (.lcmp, 1) := by decide +kernel
theorem dz90_20 : decode (mC 90) 20 = .ok (.ifCond .eq 24, 3) := by decide +kernel
theorem dz90_23 : decode (mC 90) 23 = .ok (.lload 5, 2) := by decide +kernel
theorem dz90_25 : decode (mC 90) 25 = .ok (.lload 7, 2) := by decide +kernel
theorem dz90_27 : decode (mC 90) 27 = .ok (.lrem, 1) := by decide +kernel
theorem dz90_28 : decode (mC 90) 28 = .ok (.lstore 10, 2) := by decide +kernel
theorem dz90_30 : decode (mC 90) 30 = .ok (.lload 7, 2) := by decide +kernel
theorem dz90_32 : decode (mC 90) 32 = .ok (.lstore 5, 2) := by decide +kernel
theorem dz90_34 : decode (mC 90) 34 = .ok (.lload 10, 2) := by decide +kernel
theorem dz90_36 : decode (mC 90) 36 = .ok (.lstore 7, 2) := by decide +kernel
theorem dz90_38 : decode (mC 90) 38 = .ok (.iinc 9 1, 3) := by decide +kernel
theorem dz90_41 : decode (mC 90) 41 = .ok (.goto (-32), 3) := by decide +kernel
theorem dz90_44 : decode (mC 90) 44 = .ok (.lload 5, 2) := by decide +kernel
theorem dz90_46 : decode (mC 90) 46 = .ok (.lconst 0, 1) := by decide +kernel
theorem dz90_47 : decode (mC 90) 47 = .ok (.lcmp, 1) := by decide +kernel
theorem dz90_48 : decode (mC 90) 48 = .ok (.ifCond .ne 7, 3) := by decide +kernel
theorem dz90_51 : decode (mC 90) 51 = .ok (.ldc2_w 165, 3) := by decide +kernel
theorem dz90_54 : decode (mC 90) 54 = .ok (.lreturn, 1) := by decide +kernel
theorem dz90_55 : decode (mC 90) 55 = .ok (.iload 4, 2) := by decide +kernel
theorem dz90_57 : decode (mC 90) 57 = .ok (.ifCond .ne 7, 3) := by decide +kernel
theorem dz90_60 : decode (mC 90) 60 = .ok (.lload_n 0, 1) := by decide +kernel
theorem dz90_61 : decode (mC 90) 61 = .ok (.goto 4, 3) := by decide +kernel
theorem dz90_64 : decode (mC 90) 64 = .ok (.lload_n 2, 1) := by decide +kernel
theorem dz90_65 : decode (mC 90) 65 = .ok (.lload 5, 2) := by decide +kernel
theorem dz90_67 : decode (mC 90) 67 = .ok (.ldiv, 1) := by decide +kernel
theorem dz90_68 : decode (mC 90) 68 = .ok (.lreturn, 1) := by decide +kernel
theorem dlr {z : Int → Int} {m pc : Nat} {ls : PL} {st : List PV} {x y : Int} {h : PH} {g : PG} (hy : w64 y ≠ 0) : xiD z m .lrem 1 pc ls (vL y :: vL x :: st) h g = some (.inl (pc + 1, ls, vL (remL x y) :: st, h, g)) := by
  have e : xiD z m .lrem 1 pc ls (vL y :: vL x :: st) h g = (if w64 y = 0 then none else nx (pc + 1) ls (vL (remL x y) :: st) h g) := rfl
  rw [e, if_neg hy]
  rfl
theorem dld {z : Int → Int} {m pc : Nat} {ls : PL} {st : List PV} {x y : Int} {h : PH} {g : PG} (hy : w64 y ≠ 0) : xiD z m .ldiv 1 pc ls (vL y :: vL x :: st) h g = some (.inl (pc + 1, ls, vL (divL x y) :: st, h, g)) := by
  have e : xiD z m .ldiv 1 pc ls (vL y :: vL x :: st) h g = (if w64 y = 0 then none else nx (pc + 1) ls (vL (divL x y) :: st) h g) := rfl
  rw [e, if_neg hy]
  rfl
theorem cm0 (x : Int) : (w64 x = 0 → cmpL x 0 = 0) ∧ (w64 x ≠ 0 → w32 (cmpL x 0) ≠ 0) := by
  have h0 : w64 0 = 0 := by decide +kernel
  unfold cmpL
  rw [h0]
  constructor
  · intro h
    rw [if_neg (by omega), if_pos h]
  · intro h
    by_cases h1 : 0 < w64 x
    · rw [if_pos h1]; decide +kernel
    · rw [if_neg h1, if_neg h]; decide +kernel
theorem w320 : w32 0 = 0 := by decide +kernel
abbrev loL (a b : Int) (p : Int) (d r i : Int) (o : Option PV) : PL := [some (vL a), none, some (vL b), none, some (vI p), some (vL d), none, some (vL r), none, some (vI i), o, none]
abbrev loE (z : Int → Int) (c : Cfg) (h : PH) (g : PG) : Prop := ∃ v : Int, XCD z 90 c = some (some (vL v), h, g) ∧ -9223372036854775808 ≤ v ∧ v ≤ 9223372036854775807
theorem mR90 : mR 90 = some .long := by decide +kernel
theorem r90 {z : Int → Int} {pc : Nat} {ls : PL} {x : Int} {h : PH} {g : PG} : xiD z 90 .lreturn 1 pc ls [vL x] h g = some (.inr (.inr (some (vL x), h, g))) := by
  show retL 90 [vL x] h g = _
  unfold retL
  simp only
  rw [if_pos mR90]
theorem cg165 : clgT (mO 90) 165 = some (-9223372036854775808) := by decide +kernel
theorem ld165 {z : Int → Int} {pc : Nat} {ls : PL} {st : List PV} {h : PH} {g : PG} : xiD z 90 (.ldc2_w 165) 3 pc ls st h g = some (.inl (pc + 3, ls, vL (-9223372036854775808) :: st, h, g)) := by
  show (match clgT (mO 90) 165 with
    | some v => nx (pc + 3) ls (.inr (.inl v) :: st) h g
    | none => none) = _
  rw [cg165]
  rfl
theorem rngD (x y : Int) : -9223372036854775808 ≤ divL x y ∧ divL x y ≤ 9223372036854775807 := r64 _ _ rfl
theorem low_end {z : Int → Int} {a b p d r i : Int} {o : Option PV} {h : PH} {g : PG} : loE z (44, loL a b p d r i o, [], h, g) h g := by
  have step : XCD z 90 (44, loL a b p d r i o, [], h, g) = XCD z 90 (48, loL a b p d r i o, [vI (cmpL d 0)], h, g) := (stD dz90_44 rfl).trans ((stD dz90_46 rfl).trans ((stD dz90_47 rfl).trans rfl))
  unfold loE
  rw [step]
  by_cases hd : w64 d = 0
  · have e := (cm0 d).1 hd
    refine ⟨-9223372036854775808, ?_, by decide, by decide⟩
    refine (stD dz90_48 (j0D false (by decide) (by rw [e]; decide +kernel))).trans ?_
    refine (stD (pc := 51) dz90_51 ld165).trans ?_
    exact rtD dz90_54 r90
  · have e := (cm0 d).2 hd
    have hc : ccmp .ne (cmpL d 0) 0 = true := by
      unfold ccmp
      rw [w320, decide_eq_false e]
      rfl
    by_cases hp : w32 p = 0
    · refine ⟨divL a d, ?_, rngD _ _⟩
      refine (stD dz90_48 (j0D true (by decide) hc)).trans ?_
      refine (stD (pc := 55) dz90_55 rfl).trans ?_
      refine (stD dz90_57 (j0D false (by decide) (by unfold ccmp; rw [w320, decide_eq_true hp]; rfl))).trans ?_
      refine (stD (pc := 60) dz90_60 rfl).trans ?_
      refine (stD dz90_61 rfl).trans ?_
      refine (stD (pc := 65) dz90_65 rfl).trans ?_
      refine (stD dz90_67 (dld hd)).trans ?_
      exact rtD dz90_68 r90
    · refine ⟨divL b d, ?_, rngD _ _⟩
      refine (stD dz90_48 (j0D true (by decide) hc)).trans ?_
      refine (stD (pc := 55) dz90_55 rfl).trans ?_
      refine (stD dz90_57 (j0D true (by decide) (by unfold ccmp; rw [w320, decide_eq_false hp]; rfl))).trans ?_
      refine (stD (pc := 64) dz90_64 rfl).trans ?_
      refine (stD dz90_65 rfl).trans ?_
      refine (stD dz90_67 (dld hd)).trans ?_
      exact rtD dz90_68 r90
theorem low_loop {z : Int → Int} {a b p : Int} {h : PH} {g : PG} : ∀ (k : Nat) (d r : Int) (o : Option PV), k ≤ 100 → loE z (9, loL a b p d r (100 - (k : Int)) o, [], h, g) h g := by
  intro k
  induction k with
  | zero =>
    intro d r o _
    have step : XCD z 90 (9, loL a b p d r (100 - ((0 : Nat) : Int)) o, [], h, g) = XCD z 90 (44, loL a b p d r (100 - ((0 : Nat) : Int)) o, [], h, g) := by
      refine (stD dz90_9 rfl).trans ((stD dz90_11 rfl).trans ?_)
      exact stD dz90_13 (jcD true (by decide) (by decide +kernel))
    unfold loE
    rw [step]
    exact low_end
  | succ k ih =>
    intro d r o hk
    have hw : w32 (100 - ((k + 1 : Nat) : Int)) = 100 - ((k + 1 : Nat) : Int) := e_small (by omega) (by omega)
    have hw2 : w32 100 = 100 := by decide +kernel
    have s1 : XCD z 90 (9, loL a b p d r (100 - ((k + 1 : Nat) : Int)) o, [], h, g) = XCD z 90 (20, loL a b p d r (100 - ((k + 1 : Nat) : Int)) o, [vI (cmpL r 0)], h, g) := by
      refine (stD dz90_9 rfl).trans ((stD dz90_11 rfl).trans ?_)
      refine (stD dz90_13 (jcD false (by decide) (by
        show (!decide (w32 (100 - ((k + 1 : Nat) : Int)) < w32 100)) = false
        rw [hw, hw2, decide_eq_true (by omega)]; rfl))).trans ?_
      exact (stD (pc := 16) dz90_16 rfl).trans ((stD dz90_18 rfl).trans (stD dz90_19 rfl))
    unfold loE
    rw [s1]
    by_cases hr : w64 r = 0
    · have e := (cm0 r).1 hr
      have s2 : XCD z 90 (20, loL a b p d r (100 - ((k + 1 : Nat) : Int)) o, [vI (cmpL r 0)], h, g) = XCD z 90 (44, loL a b p d r (100 - ((k + 1 : Nat) : Int)) o, [], h, g) := stD dz90_20 (j0D true (by decide) (by rw [e]; decide +kernel))
      rw [s2]
      exact low_end
    · have e := (cm0 r).2 hr
      have s2 : XCD z 90 (20, loL a b p d r (100 - ((k + 1 : Nat) : Int)) o, [vI (cmpL r 0)], h, g) = XCD z 90 (9, loL a b p r (remL d r) (100 - ((k + 1 : Nat) : Int) + 1) (some (vL (remL d r))), [], h, g) := by
        refine (stD dz90_20 (j0D false (by decide) (by unfold ccmp; rw [w320, decide_eq_false e]))).trans ?_
        refine (stD (pc := 23) dz90_23 rfl).trans ((stD dz90_25 rfl).trans ((stD dz90_27 (dlr hr)).trans ?_))
        refine (stD (pc := 28) dz90_28 rfl).trans ((stD dz90_30 rfl).trans ((stD dz90_32 rfl).trans ((stD dz90_34 rfl).trans ((stD dz90_36 rfl).trans ?_))))
        exact (stD (pc := 38) dz90_38 rfl).trans (stD dz90_41 rfl)
      rw [s2, show 100 - ((k + 1 : Nat) : Int) + 1 = 100 - (k : Int) from by omega]
      exact ih r (remL d r) _ (by omega)
theorem low_ok {z : Int → Int} {a b p : Int} {h : PH} {g : PG} : ∃ v : Int, CALLD z 90 [vL a, vL b, vI p] h g = some (some (vL v), h, g) ∧ -9223372036854775808 ≤ v ∧ v ≤ 9223372036854775807 := by
  obtain ⟨v, v1, v2⟩ := low_loop (z := z) (a := a) (b := b) (p := p) (h := h) (g := g) 100 b a none (Nat.le_refl _)
  refine ⟨v, caD (l0 := [some (vL a), none, some (vL b), none, some (vI p), none, none, none, none, none, none, none]) ?_ ?_, v2⟩
  · have hm : mL 90 = 12 := by decide +kernel
    unfold entryL
    rw [hm]
    rfl
  · refine (stD (pc := 0) dz90_0 rfl).trans ((stD dz90_1 rfl).trans ((stD dz90_3 rfl).trans ((stD dz90_4 rfl).trans ((stD dz90_6 rfl).trans ((stD dz90_7 rfl).trans ?_)))))
    exact v1
theorem con_low {z : Int → Int} : conOK z (90, [(1, none, 0, 0, 0), (1, none, 0, 0, 0), (0, none, 0, 0, 0)], [], [], [], [], [((some (1, (some ((-9223372036854775808), 9223372036854775807)))), [], [], [])]) := by
  intro avs V1 V2 h g h1 h2 hB hg hf hr
  obtain ⟨w, ws, x, xs, rfl, rfl, k1, k2⟩ := args1 h1
  obtain ⟨w2, ws2, x2, xs2, rfl, rfl, k3, k4⟩ := args1 k2
  obtain ⟨w3, ws3, x3, xs3, rfl, rfl, k5, k6⟩ := args1 k4
  obtain ⟨rfl, rfl⟩ := args0 k6
  rw [(argL k1).1, (argL k3).1, (argI k5).1]
  obtain ⟨v, v1, v2⟩ := low_ok (z := z) (a := x) (b := x2) (p := x3) (h := h) (g := g)
  exact ⟨_, h, g, v1, hB, FR.rf, hg, _, List.mem_cons_self, v, ⟨rfl, rfl, fun q hq => by cases hq; exact v2⟩, (fun q hq => by cases hq), (fun q hq => by cases hq), (fun q hq => by cases hq)⟩
