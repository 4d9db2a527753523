/-! ===== the texts' own methods, step by step ===== -/
theorem stD {z : Int → Int} {m pc len : Nat} {i : Instr} {ls : PL} {st : List PV} {h : PH} {g : PG} {c' : Cfg} (hd : decode (mC m) pc = .ok (i, len)) (hx : xiD z m i len pc ls st h g = some (.inl c')) : XCD z m (pc, ls, st, h, g) = XCD z m c' := by
  refine XCD_next z ?_
  unfold xsD
  simp only
  rw [hd]
  exact hx
theorem rtD {z : Int → Int} {m pc len : Nat} {i : Instr} {ls : PL} {st : List PV} {h : PH} {g : PG} {o : Out} (hd : decode (mC m) pc = .ok (i, len)) (hx : xiD z m i len pc ls st h g = some (.inr (.inr o))) : XCD z m (pc, ls, st, h, g) = some o := by
  refine XCD_ret z ?_
  unfold xsD
  simp only
  rw [hd]
  exact hx
theorem clD {z : Int → Int} {m pc len m' : Nat} {i : Instr} {ls ls' : PL} {st st' : List PV} {h h' : PH} {g g' : PG} {av : List PV} {pc' : Nat} {v : Option PV} (hd : decode (mC m) pc = .ok (i, len)) (hx : xiD z m i len pc ls st h g = some (.inr (.inl (m', av, (pc', ls', st', h, g))))) (hc : CALLD z m' av h g = some (v, h', g')) :
    XCD z m (pc, ls, st, h, g) = XCD z m (pc', ls', v.toList ++ st', h', g') := by
  unfold CALLD at hc
  split at hc
  · rename_i l0 hl
    refine XCD_call z (c := (pc, ls, st, h, g)) (c' := (pc', ls', st', h, g)) ?_ hl hc
    unfold xsD
    simp only
    rw [hd]
    exact hx
  · cases hc
theorem caD {z : Int → Int} {m : Nat} {av : List PV} {l0 : PL} {h : PH} {g : PG} {o : Out} (hl : entryL m av = some l0) (hx : XCD z m (0, l0, [], h, g) = some o) : CALLD z m av h g = some o := by
  unfold CALLD
  rw [hl]
  exact hx
theorem fT9 : fldT 12 9 = none := by decide +kernel
theorem fT15 : fldT 12 15 = none := by decide +kernel
theorem gf9 {z : Int → Int} {m pc : Nat} {ls : PL} {st : List PV} {h : PH} {g : PG} {a : Int} (hm : mO m = 12) (h1 : 1010 ≤ a) (h2 : a < 1014) : xiD z m (.getfield 9) 3 pc ls (vR a :: st) h g = some (.inl (pc + 3, ls, vR (a + 10) :: st, h, g)) := by
  unfold xiD
  simp only [hm, fT9]
  unfold xi
  simp only
  rw [if_pos trivial]
  unfold getF
  simp only [hm, fT9]
  rw [if_pos ⟨trivial, h1, h2⟩]
  rfl
theorem gf15 {z : Int → Int} {m pc : Nat} {ls : PL} {st : List PV} {h : PH} {g : PG} {a : Int} (hm : mO m = 12) (h1 : 1010 ≤ a) (h2 : a < 1014) : xiD z m (.getfield 15) 3 pc ls (vR a :: st) h g = some (.inl (pc + 3, ls, vI 0 :: st, h, g)) := by
  unfold xiD
  simp only [hm, fT15]
  unfold xi
  simp only
  rw [if_pos trivial]
  unfold getF
  simp only [hm, fT15]
  rw [if_pos ⟨trivial, h1, h2⟩]
  rfl
theorem alq {z : Int → Int} {m pc : Nat} {ls : PL} {st : List PV} {h : PH} {g : PG} {a : Int} (hs : (sid a).1 = 99) (hk : roK a < 99) : xiD z m .arraylength 1 pc ls (vR a :: st) h g = some (.inl (pc + 1, ls, vI (roN z a) :: st, h, g)) := by
  show alenI z pc ls (vR a :: st) h g = _
  unfold alenI
  simp only
  rw [if_neg (by rw [hs]; intro q; have := q.2.2; omega), if_pos hk]
  rfl
theorem blq {z : Int → Int} {m pc : Nat} {ls : PL} {st : List PV} {h : PH} {g : PG} {a i : Int} (k n b : Int) (ha : 1000 ≤ a) (hs : (sid a).1 = 99) (hk : roK a = 17) (hw : w32 i = k) (hn : roN z a = n) (hb : roV z a k = b) (hi : 0 ≤ k ∧ k < n) : xiD z m .baload 1 pc ls (vI i :: vR a :: st) h g = some (.inl (pc + 1, ls, vI b :: st, h, g)) := by
  unfold xiD
  simp only [rdk_big ha, cond_true]
  show aldI z 17 pc ls (vI i :: vR a :: st) h g = _
  unfold aldI ald
  simp only
  rw [if_neg (by unfold isO; rw [hs]; simp), if_pos ⟨hk, by decide⟩, hw, hn, if_pos hi, hb]
  rfl
theorem mR222 : mR 222 = some .char := by decide +kernel
theorem r222 {z : Int → Int} {ls : PL} {x : Int} {h : PH} {g : PG} (hx : 0 ≤ x ∧ x ≤ 65535) : xiD z 222 .ireturn 1 14 ls [vI x] h g = some (.inr (.inr (some (vI x), h, g))) := by
  show retI 222 [vI x] h g = _
  unfold retI
  rw [mR222]
  simp only
  rw [if_pos hx]

theorem dz218_0 : decode (mC 218) 0 = .ok (.aload_n 0, 1) := by decide +kernel
theorem dz218_1 : decode (mC 218) 1 = .ok (.getfield 9, 3) := by decide +kernel
theorem dz218_4 : decode (mC 218) 4 = .ok (.arraylength, 1) := by decide +kernel
theorem dz218_5 : decode (mC 218) 5 = .ok (.aload_n 0, 1) := by decide +kernel
theorem dz218_6 : decode (mC 218) 6 = .ok (.invokevirtual 335, 3) := by decide +kernel
theorem dz218_9 : decode (mC 218) 9 = .ok (.ishr, 1) := by decide +kernel
theorem dz218_10 : decode (mC 218) 10 = .ok (.ireturn, 1) := by decide +kernel
theorem dz219_0 : decode (mC 219) 0 = .ok (.getstatic 38, 3) := by decide +kernel
theorem dz219_3 : decode (mC 219) 3 = .ok (.ifCond .eq 10, 3) := by decide +kernel
theorem dz219_6 : decode (mC 219) 6 = .ok (.aload_n 0, 1) := by decide +kernel
theorem dz219_7 : decode (mC 219) 7 = .ok (.getfield 15, 3) := by decide +kernel
theorem dz219_10 : decode (mC 219) 10 = .ok (.goto 4, 3) := by decide +kernel
theorem dz219_14 : decode (mC 219) 14 = .ok (.ireturn, 1) := by decide +kernel
theorem dz220_0 : decode (mC 220) 0 = .ok (.aload_n 0, 1) := by decide +kernel
theorem dz220_1 : decode (mC 220) 1 = .ok (.invokevirtual 492, 3) := by decide +kernel
theorem dz220_4 : decode (mC 220) 4 = .ok (.ifCond .eq 12, 3) := by decide +kernel
theorem dz220_7 : decode (mC 220) 7 = .ok (.aload_n 0, 1) := by decide +kernel
theorem dz220_8 : decode (mC 220) 8 = .ok (.getfield 9, 3) := by decide +kernel
theorem dz220_11 : decode (mC 220) 11 = .ok (.iload_n 1, 1) := by decide +kernel
theorem dz220_12 : decode (mC 220) 12 = .ok (.invokestatic 495, 3) := by decide +kernel
theorem dz220_15 : decode (mC 220) 15 = .ok (.ireturn, 1) := by decide +kernel
theorem dz221_0 : decode (mC 221) 0 = .ok (.getstatic 38, 3) := by decide +kernel
theorem dz221_3 : decode (mC 221) 3 = .ok (.ifCond .eq 14, 3) := by decide +kernel
theorem dz221_6 : decode (mC 221) 6 = .ok (.aload_n 0, 1) := by decide +kernel
theorem dz221_7 : decode (mC 221) 7 = .ok (.getfield 15, 3) := by decide +kernel
theorem dz221_10 : decode (mC 221) 10 = .ok (.ifCond .ne 7, 3) := by decide +kernel
theorem dz221_13 : decode (mC 221) 13 = .ok (.iconst 1, 1) := by decide +kernel
theorem dz221_14 : decode (mC 221) 14 = .ok (.goto 4, 3) := by decide +kernel
theorem dz221_18 : decode (mC 221) 18 = .ok (.ireturn, 1) := by decide +kernel
theorem dz222_0 : decode (mC 222) 0 = .ok (.iload_n 1, 1) := by decide +kernel
theorem dz222_1 : decode (mC 222) 1 = .ok (.aload_n 0, 1) := by decide +kernel
theorem dz222_2 : decode (mC 222) 2 = .ok (.arraylength, 1) := by decide +kernel
theorem dz222_3 : decode (mC 222) 3 = .ok (.invokestatic 9, 3) := by decide +kernel
theorem dz222_6 : decode (mC 222) 6 = .ok (.aload_n 0, 1) := by decide +kernel
theorem dz222_7 : decode (mC 222) 7 = .ok (.iload_n 1, 1) := by decide +kernel
theorem dz222_8 : decode (mC 222) 8 = .ok (.baload, 1) := by decide +kernel
theorem dz222_9 : decode (mC 222) 9 = .ok (.sipush 255, 3) := by decide +kernel
theorem dz222_12 : decode (mC 222) 12 = .ok (.iand, 1) := by decide +kernel
theorem dz222_13 : decode (mC 222) 13 = .ok (.i2c, 1) := by decide +kernel
theorem dz222_14 : decode (mC 222) 14 = .ok (.ireturn, 1) := by decide +kernel
theorem mR218 : mR 218 = some .int := by decide +kernel
theorem r218 {z : Int → Int} {ls : PL} {x : Int} {h : PH} {g : PG} : xiD z 218 .ireturn 1 10 ls [vI x] h g = some (.inr (.inr (some (vI x), h, g))) := by
  show retI 218 [vI x] h g = _
  unfold retI
  rw [mR218]

theorem c219_0 {z : Int → Int} {h : PH} {g : PG} : CALLD z 219 [vR 1010] h g = some (some (vI 0), h, g) := by
  refine caD (l0 := [some (vR 1010)]) (by decide +kernel) ?_
  refine (stD dz219_0 rfl).trans ?_
  refine (stD dz219_3 rfl).trans ?_
  refine (stD dz219_6 rfl).trans ?_
  refine (stD dz219_7 (gf15 (by decide +kernel) (by decide) (by decide))).trans ?_
  refine (stD dz219_10 rfl).trans ?_
  exact rtD dz219_14 rfl

theorem c221_0 {z : Int → Int} {h : PH} {g : PG} : CALLD z 221 [vR 1010] h g = some (some (vI 1), h, g) := by
  refine caD (l0 := [some (vR 1010)]) (by decide +kernel) ?_
  refine (stD dz221_0 rfl).trans ?_
  refine (stD dz221_3 rfl).trans ?_
  refine (stD dz221_6 rfl).trans ?_
  refine (stD dz221_7 (gf15 (by decide +kernel) (by decide) (by decide))).trans ?_
  refine (stD dz221_10 rfl).trans ?_
  refine (stD dz221_13 rfl).trans ?_
  refine (stD dz221_14 rfl).trans ?_
  exact rtD dz221_18 rfl

theorem c218_0 {z : Int → Int} {h : PH} {g : PG} : CALLD z 218 [vR 1010] h g = some (some (vI 3), h, g) := by
  have e : CALLD z 218 [vR 1010] h g = some (some (vI (shrI 3 0)), h, g) := by
    refine caD (l0 := [some (vR 1010)]) (by decide +kernel) ?_
    refine (stD dz218_0 rfl).trans ?_
    refine (stD dz218_1 (gf9 (by decide +kernel) (by decide) (by decide))).trans ?_
    refine (stD dz218_4 (alq (by decide) (by decide))).trans ?_
    refine (stD dz218_5 rfl).trans ?_
    refine (clD dz218_6 rfl c219_0).trans ?_
    refine (stD dz218_9 rfl).trans ?_
    exact rtD dz218_10 r218
  rw [show shrI 3 0 = 3 from by decide +kernel] at e
  exact e

theorem c222_0_0 {z : Int → Int} {h : PH} {g : PG} : CALLD z 222 [vR 1020, vI 0] h g = some (some (vI 98), h, g) := by
  have e : CALLD z 222 [vR 1020, vI 0] h g = some (some (vI (i2cI (andI 98 255))), h, g) := by
    refine caD (l0 := [some (vR 1020), some (vI 0)]) (by decide +kernel) ?_
    refine (stD dz222_0 rfl).trans ?_
    refine (stD dz222_1 rfl).trans ?_
    refine (stD dz222_2 (alq (by decide) (by decide))).trans ?_
    refine (stD dz222_3 rfl).trans ?_
    refine (stD dz222_6 rfl).trans ?_
    refine (stD dz222_7 rfl).trans ?_
    refine (stD dz222_8 (blq 0 3 98 (by decide) (by decide) (by decide) (by decide +kernel) rfl rfl (by decide))).trans ?_
    refine (stD dz222_9 rfl).trans ?_
    refine (stD dz222_12 rfl).trans ?_
    refine (stD dz222_13 rfl).trans ?_
    exact rtD dz222_14 (r222 (by decide +kernel))
  rw [show i2cI (andI 98 255) = 98 from by decide +kernel] at e
  exact e

theorem c220_0_0 {z : Int → Int} {h : PH} {g : PG} : CALLD z 220 [vR 1010, vI 0] h g = some (some (vI 98), h, g) := by
  refine caD (l0 := [some (vR 1010), some (vI 0)]) (by decide +kernel) ?_
  refine (stD dz220_0 rfl).trans ?_
  refine (clD dz220_1 rfl c221_0).trans ?_
  refine (stD dz220_4 rfl).trans ?_
  refine (stD dz220_7 rfl).trans ?_
  refine (stD dz220_8 (gf9 (by decide +kernel) (by decide) (by decide))).trans ?_
  refine (stD dz220_11 rfl).trans ?_
  refine (clD dz220_12 rfl c222_0_0).trans ?_
  exact rtD dz220_15 rfl

theorem c222_0_1 {z : Int → Int} {h : PH} {g : PG} : CALLD z 222 [vR 1020, vI 1] h g = some (some (vI 111), h, g) := by
  have e : CALLD z 222 [vR 1020, vI 1] h g = some (some (vI (i2cI (andI 111 255))), h, g) := by
    refine caD (l0 := [some (vR 1020), some (vI 1)]) (by decide +kernel) ?_
    refine (stD dz222_0 rfl).trans ?_
    refine (stD dz222_1 rfl).trans ?_
    refine (stD dz222_2 (alq (by decide) (by decide))).trans ?_
    refine (stD dz222_3 rfl).trans ?_
    refine (stD dz222_6 rfl).trans ?_
    refine (stD dz222_7 rfl).trans ?_
    refine (stD dz222_8 (blq 1 3 111 (by decide) (by decide) (by decide) (by decide +kernel) rfl rfl (by decide))).trans ?_
    refine (stD dz222_9 rfl).trans ?_
    refine (stD dz222_12 rfl).trans ?_
    refine (stD dz222_13 rfl).trans ?_
    exact rtD dz222_14 (r222 (by decide +kernel))
  rw [show i2cI (andI 111 255) = 111 from by decide +kernel] at e
  exact e

theorem c220_0_1 {z : Int → Int} {h : PH} {g : PG} : CALLD z 220 [vR 1010, vI 1] h g = some (some (vI 111), h, g) := by
  refine caD (l0 := [some (vR 1010), some (vI 1)]) (by decide +kernel) ?_
  refine (stD dz220_0 rfl).trans ?_
  refine (clD dz220_1 rfl c221_0).trans ?_
  refine (stD dz220_4 rfl).trans ?_
  refine (stD dz220_7 rfl).trans ?_
  refine (stD dz220_8 (gf9 (by decide +kernel) (by decide) (by decide))).trans ?_
  refine (stD dz220_11 rfl).trans ?_
  refine (clD dz220_12 rfl c222_0_1).trans ?_
  exact rtD dz220_15 rfl

theorem c222_0_2 {z : Int → Int} {h : PH} {g : PG} : CALLD z 222 [vR 1020, vI 2] h g = some (some (vI 120), h, g) := by
  have e : CALLD z 222 [vR 1020, vI 2] h g = some (some (vI (i2cI (andI 120 255))), h, g) := by
    refine caD (l0 := [some (vR 1020), some (vI 2)]) (by decide +kernel) ?_
    refine (stD dz222_0 rfl).trans ?_
    refine (stD dz222_1 rfl).trans ?_
    refine (stD dz222_2 (alq (by decide) (by decide))).trans ?_
    refine (stD dz222_3 rfl).trans ?_
    refine (stD dz222_6 rfl).trans ?_
    refine (stD dz222_7 rfl).trans ?_
    refine (stD dz222_8 (blq 2 3 120 (by decide) (by decide) (by decide) (by decide +kernel) rfl rfl (by decide))).trans ?_
    refine (stD dz222_9 rfl).trans ?_
    refine (stD dz222_12 rfl).trans ?_
    refine (stD dz222_13 rfl).trans ?_
    exact rtD dz222_14 (r222 (by decide +kernel))
  rw [show i2cI (andI 120 255) = 120 from by decide +kernel] at e
  exact e

theorem c220_0_2 {z : Int → Int} {h : PH} {g : PG} : CALLD z 220 [vR 1010, vI 2] h g = some (some (vI 120), h, g) := by
  refine caD (l0 := [some (vR 1010), some (vI 2)]) (by decide +kernel) ?_
  refine (stD dz220_0 rfl).trans ?_
  refine (clD dz220_1 rfl c221_0).trans ?_
  refine (stD dz220_4 rfl).trans ?_
  refine (stD dz220_7 rfl).trans ?_
  refine (stD dz220_8 (gf9 (by decide +kernel) (by decide) (by decide))).trans ?_
  refine (stD dz220_11 rfl).trans ?_
  refine (clD dz220_12 rfl c222_0_2).trans ?_
  exact rtD dz220_15 rfl

theorem c219_1 {z : Int → Int} {h : PH} {g : PG} : CALLD z 219 [vR 1011] h g = some (some (vI 0), h, g) := by
  refine caD (l0 := [some (vR 1011)]) (by decide +kernel) ?_
  refine (stD dz219_0 rfl).trans ?_
  refine (stD dz219_3 rfl).trans ?_
  refine (stD dz219_6 rfl).trans ?_
  refine (stD dz219_7 (gf15 (by decide +kernel) (by decide) (by decide))).trans ?_
  refine (stD dz219_10 rfl).trans ?_
  exact rtD dz219_14 rfl

theorem c221_1 {z : Int → Int} {h : PH} {g : PG} : CALLD z 221 [vR 1011] h g = some (some (vI 1), h, g) := by
  refine caD (l0 := [some (vR 1011)]) (by decide +kernel) ?_
  refine (stD dz221_0 rfl).trans ?_
  refine (stD dz221_3 rfl).trans ?_
  refine (stD dz221_6 rfl).trans ?_
  refine (stD dz221_7 (gf15 (by decide +kernel) (by decide) (by decide))).trans ?_
  refine (stD dz221_10 rfl).trans ?_
  refine (stD dz221_13 rfl).trans ?_
  refine (stD dz221_14 rfl).trans ?_
  exact rtD dz221_18 rfl

theorem c218_1 {z : Int → Int} {h : PH} {g : PG} : CALLD z 218 [vR 1011] h g = some (some (vI 4), h, g) := by
  have e : CALLD z 218 [vR 1011] h g = some (some (vI (shrI 4 0)), h, g) := by
    refine caD (l0 := [some (vR 1011)]) (by decide +kernel) ?_
    refine (stD dz218_0 rfl).trans ?_
    refine (stD dz218_1 (gf9 (by decide +kernel) (by decide) (by decide))).trans ?_
    refine (stD dz218_4 (alq (by decide) (by decide))).trans ?_
    refine (stD dz218_5 rfl).trans ?_
    refine (clD dz218_6 rfl c219_1).trans ?_
    refine (stD dz218_9 rfl).trans ?_
    exact rtD dz218_10 r218
  rw [show shrI 4 0 = 4 from by decide +kernel] at e
  exact e

theorem c222_1_0 {z : Int → Int} {h : PH} {g : PG} : CALLD z 222 [vR 1021, vI 0] h g = some (some (vI 107), h, g) := by
  have e : CALLD z 222 [vR 1021, vI 0] h g = some (some (vI (i2cI (andI 107 255))), h, g) := by
    refine caD (l0 := [some (vR 1021), some (vI 0)]) (by decide +kernel) ?_
    refine (stD dz222_0 rfl).trans ?_
    refine (stD dz222_1 rfl).trans ?_
    refine (stD dz222_2 (alq (by decide) (by decide))).trans ?_
    refine (stD dz222_3 rfl).trans ?_
    refine (stD dz222_6 rfl).trans ?_
    refine (stD dz222_7 rfl).trans ?_
    refine (stD dz222_8 (blq 0 4 107 (by decide) (by decide) (by decide) (by decide +kernel) rfl rfl (by decide))).trans ?_
    refine (stD dz222_9 rfl).trans ?_
    refine (stD dz222_12 rfl).trans ?_
    refine (stD dz222_13 rfl).trans ?_
    exact rtD dz222_14 (r222 (by decide +kernel))
  rw [show i2cI (andI 107 255) = 107 from by decide +kernel] at e
  exact e

theorem c220_1_0 {z : Int → Int} {h : PH} {g : PG} : CALLD z 220 [vR 1011, vI 0] h g = some (some (vI 107), h, g) := by
  refine caD (l0 := [some (vR 1011), some (vI 0)]) (by decide +kernel) ?_
  refine (stD dz220_0 rfl).trans ?_
  refine (clD dz220_1 rfl c221_1).trans ?_
  refine (stD dz220_4 rfl).trans ?_
  refine (stD dz220_7 rfl).trans ?_
  refine (stD dz220_8 (gf9 (by decide +kernel) (by decide) (by decide))).trans ?_
  refine (stD dz220_11 rfl).trans ?_
  refine (clD dz220_12 rfl c222_1_0).trans ?_
  exact rtD dz220_15 rfl

theorem c222_1_1 {z : Int → Int} {h : PH} {g : PG} : CALLD z 222 [vR 1021, vI 1] h g = some (some (vI 105), h, g) := by
  have e : CALLD z 222 [vR 1021, vI 1] h g = some (some (vI (i2cI (andI 105 255))), h, g) := by
    refine caD (l0 := [some (vR 1021), some (vI 1)]) (by decide +kernel) ?_
    refine (stD dz222_0 rfl).trans ?_
    refine (stD dz222_1 rfl).trans ?_
    refine (stD dz222_2 (alq (by decide) (by decide))).trans ?_
    refine (stD dz222_3 rfl).trans ?_
    refine (stD dz222_6 rfl).trans ?_
    refine (stD dz222_7 rfl).trans ?_
    refine (stD dz222_8 (blq 1 4 105 (by decide) (by decide) (by decide) (by decide +kernel) rfl rfl (by decide))).trans ?_
    refine (stD dz222_9 rfl).trans ?_
    refine (stD dz222_12 rfl).trans ?_
    refine (stD dz222_13 rfl).trans ?_
    exact rtD dz222_14 (r222 (by decide +kernel))
  rw [show i2cI (andI 105 255) = 105 from by decide +kernel] at e
  exact e

theorem c220_1_1 {z : Int → Int} {h : PH} {g : PG} : CALLD z 220 [vR 1011, vI 1] h g = some (some (vI 105), h, g) := by
  refine caD (l0 := [some (vR 1011), some (vI 1)]) (by decide +kernel) ?_
  refine (stD dz220_0 rfl).trans ?_
  refine (clD dz220_1 rfl c221_1).trans ?_
  refine (stD dz220_4 rfl).trans ?_
  refine (stD dz220_7 rfl).trans ?_
  refine (stD dz220_8 (gf9 (by decide +kernel) (by decide) (by decide))).trans ?_
  refine (stD dz220_11 rfl).trans ?_
  refine (clD dz220_12 rfl c222_1_1).trans ?_
  exact rtD dz220_15 rfl

theorem c222_1_2 {z : Int → Int} {h : PH} {g : PG} : CALLD z 222 [vR 1021, vI 2] h g = some (some (vI 110), h, g) := by
  have e : CALLD z 222 [vR 1021, vI 2] h g = some (some (vI (i2cI (andI 110 255))), h, g) := by
    refine caD (l0 := [some (vR 1021), some (vI 2)]) (by decide +kernel) ?_
    refine (stD dz222_0 rfl).trans ?_
    refine (stD dz222_1 rfl).trans ?_
    refine (stD dz222_2 (alq (by decide) (by decide))).trans ?_
    refine (stD dz222_3 rfl).trans ?_
    refine (stD dz222_6 rfl).trans ?_
    refine (stD dz222_7 rfl).trans ?_
    refine (stD dz222_8 (blq 2 4 110 (by decide) (by decide) (by decide) (by decide +kernel) rfl rfl (by decide))).trans ?_
    refine (stD dz222_9 rfl).trans ?_
    refine (stD dz222_12 rfl).trans ?_
    refine (stD dz222_13 rfl).trans ?_
    exact rtD dz222_14 (r222 (by decide +kernel))
  rw [show i2cI (andI 110 255) = 110 from by decide +kernel] at e
  exact e

theorem c220_1_2 {z : Int → Int} {h : PH} {g : PG} : CALLD z 220 [vR 1011, vI 2] h g = some (some (vI 110), h, g) := by
  refine caD (l0 := [some (vR 1011), some (vI 2)]) (by decide +kernel) ?_
  refine (stD dz220_0 rfl).trans ?_
  refine (clD dz220_1 rfl c221_1).trans ?_
  refine (stD dz220_4 rfl).trans ?_
  refine (stD dz220_7 rfl).trans ?_
  refine (stD dz220_8 (gf9 (by decide +kernel) (by decide) (by decide))).trans ?_
  refine (stD dz220_11 rfl).trans ?_
  refine (clD dz220_12 rfl c222_1_2).trans ?_
  exact rtD dz220_15 rfl

theorem c222_1_3 {z : Int → Int} {h : PH} {g : PG} : CALLD z 222 [vR 1021, vI 3] h g = some (some (vI 100), h, g) := by
  have e : CALLD z 222 [vR 1021, vI 3] h g = some (some (vI (i2cI (andI 100 255))), h, g) := by
    refine caD (l0 := [some (vR 1021), some (vI 3)]) (by decide +kernel) ?_
    refine (stD dz222_0 rfl).trans ?_
    refine (stD dz222_1 rfl).trans ?_
    refine (stD dz222_2 (alq (by decide) (by decide))).trans ?_
    refine (stD dz222_3 rfl).trans ?_
    refine (stD dz222_6 rfl).trans ?_
    refine (stD dz222_7 rfl).trans ?_
    refine (stD dz222_8 (blq 3 4 100 (by decide) (by decide) (by decide) (by decide +kernel) rfl rfl (by decide))).trans ?_
    refine (stD dz222_9 rfl).trans ?_
    refine (stD dz222_12 rfl).trans ?_
    refine (stD dz222_13 rfl).trans ?_
    exact rtD dz222_14 (r222 (by decide +kernel))
  rw [show i2cI (andI 100 255) = 100 from by decide +kernel] at e
  exact e

theorem c220_1_3 {z : Int → Int} {h : PH} {g : PG} : CALLD z 220 [vR 1011, vI 3] h g = some (some (vI 100), h, g) := by
  refine caD (l0 := [some (vR 1011), some (vI 3)]) (by decide +kernel) ?_
  refine (stD dz220_0 rfl).trans ?_
  refine (clD dz220_1 rfl c221_1).trans ?_
  refine (stD dz220_4 rfl).trans ?_
  refine (stD dz220_7 rfl).trans ?_
  refine (stD dz220_8 (gf9 (by decide +kernel) (by decide) (by decide))).trans ?_
  refine (stD dz220_11 rfl).trans ?_
  refine (clD dz220_12 rfl c222_1_3).trans ?_
  exact rtD dz220_15 rfl

theorem c219_2 {z : Int → Int} {h : PH} {g : PG} : CALLD z 219 [vR 1012] h g = some (some (vI 0), h, g) := by
  refine caD (l0 := [some (vR 1012)]) (by decide +kernel) ?_
  refine (stD dz219_0 rfl).trans ?_
  refine (stD dz219_3 rfl).trans ?_
  refine (stD dz219_6 rfl).trans ?_
  refine (stD dz219_7 (gf15 (by decide +kernel) (by decide) (by decide))).trans ?_
  refine (stD dz219_10 rfl).trans ?_
  exact rtD dz219_14 rfl

theorem c221_2 {z : Int → Int} {h : PH} {g : PG} : CALLD z 221 [vR 1012] h g = some (some (vI 1), h, g) := by
  refine caD (l0 := [some (vR 1012)]) (by decide +kernel) ?_
  refine (stD dz221_0 rfl).trans ?_
  refine (stD dz221_3 rfl).trans ?_
  refine (stD dz221_6 rfl).trans ?_
  refine (stD dz221_7 (gf15 (by decide +kernel) (by decide) (by decide))).trans ?_
  refine (stD dz221_10 rfl).trans ?_
  refine (stD dz221_13 rfl).trans ?_
  refine (stD dz221_14 rfl).trans ?_
  exact rtD dz221_18 rfl

theorem c218_2 {z : Int → Int} {h : PH} {g : PG} : CALLD z 218 [vR 1012] h g = some (some (vI 5), h, g) := by
  have e : CALLD z 218 [vR 1012] h g = some (some (vI (shrI 5 0)), h, g) := by
    refine caD (l0 := [some (vR 1012)]) (by decide +kernel) ?_
    refine (stD dz218_0 rfl).trans ?_
    refine (stD dz218_1 (gf9 (by decide +kernel) (by decide) (by decide))).trans ?_
    refine (stD dz218_4 (alq (by decide) (by decide))).trans ?_
    refine (stD dz218_5 rfl).trans ?_
    refine (clD dz218_6 rfl c219_2).trans ?_
    refine (stD dz218_9 rfl).trans ?_
    exact rtD dz218_10 r218
  rw [show shrI 5 0 = 5 from by decide +kernel] at e
  exact e

theorem c222_2_0 {z : Int → Int} {h : PH} {g : PG} : CALLD z 222 [vR 1022, vI 0] h g = some (some (vI 119), h, g) := by
  have e : CALLD z 222 [vR 1022, vI 0] h g = some (some (vI (i2cI (andI 119 255))), h, g) := by
    refine caD (l0 := [some (vR 1022), some (vI 0)]) (by decide +kernel) ?_
    refine (stD dz222_0 rfl).trans ?_
    refine (stD dz222_1 rfl).trans ?_
    refine (stD dz222_2 (alq (by decide) (by decide))).trans ?_
    refine (stD dz222_3 rfl).trans ?_
    refine (stD dz222_6 rfl).trans ?_
    refine (stD dz222_7 rfl).trans ?_
    refine (stD dz222_8 (blq 0 5 119 (by decide) (by decide) (by decide) (by decide +kernel) rfl rfl (by decide))).trans ?_
    refine (stD dz222_9 rfl).trans ?_
    refine (stD dz222_12 rfl).trans ?_
    refine (stD dz222_13 rfl).trans ?_
    exact rtD dz222_14 (r222 (by decide +kernel))
  rw [show i2cI (andI 119 255) = 119 from by decide +kernel] at e
  exact e

theorem c220_2_0 {z : Int → Int} {h : PH} {g : PG} : CALLD z 220 [vR 1012, vI 0] h g = some (some (vI 119), h, g) := by
  refine caD (l0 := [some (vR 1012), some (vI 0)]) (by decide +kernel) ?_
  refine (stD dz220_0 rfl).trans ?_
  refine (clD dz220_1 rfl c221_2).trans ?_
  refine (stD dz220_4 rfl).trans ?_
  refine (stD dz220_7 rfl).trans ?_
  refine (stD dz220_8 (gf9 (by decide +kernel) (by decide) (by decide))).trans ?_
  refine (stD dz220_11 rfl).trans ?_
  refine (clD dz220_12 rfl c222_2_0).trans ?_
  exact rtD dz220_15 rfl

theorem c222_2_1 {z : Int → Int} {h : PH} {g : PG} : CALLD z 222 [vR 1022, vI 1] h g = some (some (vI 101), h, g) := by
  have e : CALLD z 222 [vR 1022, vI 1] h g = some (some (vI (i2cI (andI 101 255))), h, g) := by
    refine caD (l0 := [some (vR 1022), some (vI 1)]) (by decide +kernel) ?_
    refine (stD dz222_0 rfl).trans ?_
    refine (stD dz222_1 rfl).trans ?_
    refine (stD dz222_2 (alq (by decide) (by decide))).trans ?_
    refine (stD dz222_3 rfl).trans ?_
    refine (stD dz222_6 rfl).trans ?_
    refine (stD dz222_7 rfl).trans ?_
    refine (stD dz222_8 (blq 1 5 101 (by decide) (by decide) (by decide) (by decide +kernel) rfl rfl (by decide))).trans ?_
    refine (stD dz222_9 rfl).trans ?_
    refine (stD dz222_12 rfl).trans ?_
    refine (stD dz222_13 rfl).trans ?_
    exact rtD dz222_14 (r222 (by decide +kernel))
  rw [show i2cI (andI 101 255) = 101 from by decide +kernel] at e
  exact e

theorem c220_2_1 {z : Int → Int} {h : PH} {g : PG} : CALLD z 220 [vR 1012, vI 1] h g = some (some (vI 101), h, g) := by
  refine caD (l0 := [some (vR 1012), some (vI 1)]) (by decide +kernel) ?_
  refine (stD dz220_0 rfl).trans ?_
  refine (clD dz220_1 rfl c221_2).trans ?_
  refine (stD dz220_4 rfl).trans ?_
  refine (stD dz220_7 rfl).trans ?_
  refine (stD dz220_8 (gf9 (by decide +kernel) (by decide) (by decide))).trans ?_
  refine (stD dz220_11 rfl).trans ?_
  refine (clD dz220_12 rfl c222_2_1).trans ?_
  exact rtD dz220_15 rfl

theorem c222_2_2 {z : Int → Int} {h : PH} {g : PG} : CALLD z 222 [vR 1022, vI 2] h g = some (some (vI 105), h, g) := by
  have e : CALLD z 222 [vR 1022, vI 2] h g = some (some (vI (i2cI (andI 105 255))), h, g) := by
    refine caD (l0 := [some (vR 1022), some (vI 2)]) (by decide +kernel) ?_
    refine (stD dz222_0 rfl).trans ?_
    refine (stD dz222_1 rfl).trans ?_
    refine (stD dz222_2 (alq (by decide) (by decide))).trans ?_
    refine (stD dz222_3 rfl).trans ?_
    refine (stD dz222_6 rfl).trans ?_
    refine (stD dz222_7 rfl).trans ?_
    refine (stD dz222_8 (blq 2 5 105 (by decide) (by decide) (by decide) (by decide +kernel) rfl rfl (by decide))).trans ?_
    refine (stD dz222_9 rfl).trans ?_
    refine (stD dz222_12 rfl).trans ?_
    refine (stD dz222_13 rfl).trans ?_
    exact rtD dz222_14 (r222 (by decide +kernel))
  rw [show i2cI (andI 105 255) = 105 from by decide +kernel] at e
  exact e

theorem c220_2_2 {z : Int → Int} {h : PH} {g : PG} : CALLD z 220 [vR 1012, vI 2] h g = some (some (vI 105), h, g) := by
  refine caD (l0 := [some (vR 1012), some (vI 2)]) (by decide +kernel) ?_
  refine (stD dz220_0 rfl).trans ?_
  refine (clD dz220_1 rfl c221_2).trans ?_
  refine (stD dz220_4 rfl).trans ?_
  refine (stD dz220_7 rfl).trans ?_
  refine (stD dz220_8 (gf9 (by decide +kernel) (by decide) (by decide))).trans ?_
  refine (stD dz220_11 rfl).trans ?_
  refine (clD dz220_12 rfl c222_2_2).trans ?_
  exact rtD dz220_15 rfl

theorem c222_2_3 {z : Int → Int} {h : PH} {g : PG} : CALLD z 222 [vR 1022, vI 3] h g = some (some (vI 103), h, g) := by
  have e : CALLD z 222 [vR 1022, vI 3] h g = some (some (vI (i2cI (andI 103 255))), h, g) := by
    refine caD (l0 := [some (vR 1022), some (vI 3)]) (by decide +kernel) ?_
    refine (stD dz222_0 rfl).trans ?_
    refine (stD dz222_1 rfl).trans ?_
    refine (stD dz222_2 (alq (by decide) (by decide))).trans ?_
    refine (stD dz222_3 rfl).trans ?_
    refine (stD dz222_6 rfl).trans ?_
    refine (stD dz222_7 rfl).trans ?_
    refine (stD dz222_8 (blq 3 5 103 (by decide) (by decide) (by decide) (by decide +kernel) rfl rfl (by decide))).trans ?_
    refine (stD dz222_9 rfl).trans ?_
    refine (stD dz222_12 rfl).trans ?_
    refine (stD dz222_13 rfl).trans ?_
    exact rtD dz222_14 (r222 (by decide +kernel))
  rw [show i2cI (andI 103 255) = 103 from by decide +kernel] at e
  exact e

theorem c220_2_3 {z : Int → Int} {h : PH} {g : PG} : CALLD z 220 [vR 1012, vI 3] h g = some (some (vI 103), h, g) := by
  refine caD (l0 := [some (vR 1012), some (vI 3)]) (by decide +kernel) ?_
  refine (stD dz220_0 rfl).trans ?_
  refine (clD dz220_1 rfl c221_2).trans ?_
  refine (stD dz220_4 rfl).trans ?_
  refine (stD dz220_7 rfl).trans ?_
  refine (stD dz220_8 (gf9 (by decide +kernel) (by decide) (by decide))).trans ?_
  refine (stD dz220_11 rfl).trans ?_
  refine (clD dz220_12 rfl c222_2_3).trans ?_
  exact rtD dz220_15 rfl

theorem c222_2_4 {z : Int → Int} {h : PH} {g : PG} : CALLD z 222 [vR 1022, vI 4] h g = some (some (vI 104), h, g) := by
  have e : CALLD z 222 [vR 1022, vI 4] h g = some (some (vI (i2cI (andI 104 255))), h, g) := by
    refine caD (l0 := [some (vR 1022), some (vI 4)]) (by decide +kernel) ?_
    refine (stD dz222_0 rfl).trans ?_
    refine (stD dz222_1 rfl).trans ?_
    refine (stD dz222_2 (alq (by decide) (by decide))).trans ?_
    refine (stD dz222_3 rfl).trans ?_
    refine (stD dz222_6 rfl).trans ?_
    refine (stD dz222_7 rfl).trans ?_
    refine (stD dz222_8 (blq 4 5 104 (by decide) (by decide) (by decide) (by decide +kernel) rfl rfl (by decide))).trans ?_
    refine (stD dz222_9 rfl).trans ?_
    refine (stD dz222_12 rfl).trans ?_
    refine (stD dz222_13 rfl).trans ?_
    exact rtD dz222_14 (r222 (by decide +kernel))
  rw [show i2cI (andI 104 255) = 104 from by decide +kernel] at e
  exact e

theorem c220_2_4 {z : Int → Int} {h : PH} {g : PG} : CALLD z 220 [vR 1012, vI 4] h g = some (some (vI 104), h, g) := by
  refine caD (l0 := [some (vR 1012), some (vI 4)]) (by decide +kernel) ?_
  refine (stD dz220_0 rfl).trans ?_
  refine (clD dz220_1 rfl c221_2).trans ?_
  refine (stD dz220_4 rfl).trans ?_
  refine (stD dz220_7 rfl).trans ?_
  refine (stD dz220_8 (gf9 (by decide +kernel) (by decide) (by decide))).trans ?_
  refine (stD dz220_11 rfl).trans ?_
  refine (clD dz220_12 rfl c222_2_4).trans ?_
  exact rtD dz220_15 rfl

theorem c219_3 {z : Int → Int} {h : PH} {g : PG} : CALLD z 219 [vR 1013] h g = some (some (vI 0), h, g) := by
  refine caD (l0 := [some (vR 1013)]) (by decide +kernel) ?_
  refine (stD dz219_0 rfl).trans ?_
  refine (stD dz219_3 rfl).trans ?_
  refine (stD dz219_6 rfl).trans ?_
  refine (stD dz219_7 (gf15 (by decide +kernel) (by decide) (by decide))).trans ?_
  refine (stD dz219_10 rfl).trans ?_
  exact rtD dz219_14 rfl

theorem c221_3 {z : Int → Int} {h : PH} {g : PG} : CALLD z 221 [vR 1013] h g = some (some (vI 1), h, g) := by
  refine caD (l0 := [some (vR 1013)]) (by decide +kernel) ?_
  refine (stD dz221_0 rfl).trans ?_
  refine (stD dz221_3 rfl).trans ?_
  refine (stD dz221_6 rfl).trans ?_
  refine (stD dz221_7 (gf15 (by decide +kernel) (by decide) (by decide))).trans ?_
  refine (stD dz221_10 rfl).trans ?_
  refine (stD dz221_13 rfl).trans ?_
  refine (stD dz221_14 rfl).trans ?_
  exact rtD dz221_18 rfl

theorem c218_3 {z : Int → Int} {h : PH} {g : PG} : CALLD z 218 [vR 1013] h g = some (some (vI 3), h, g) := by
  have e : CALLD z 218 [vR 1013] h g = some (some (vI (shrI 3 0)), h, g) := by
    refine caD (l0 := [some (vR 1013)]) (by decide +kernel) ?_
    refine (stD dz218_0 rfl).trans ?_
    refine (stD dz218_1 (gf9 (by decide +kernel) (by decide) (by decide))).trans ?_
    refine (stD dz218_4 (alq (by decide) (by decide))).trans ?_
    refine (stD dz218_5 rfl).trans ?_
    refine (clD dz218_6 rfl c219_3).trans ?_
    refine (stD dz218_9 rfl).trans ?_
    exact rtD dz218_10 r218
  rw [show shrI 3 0 = 3 from by decide +kernel] at e
  exact e

theorem c222_3_0 {z : Int → Int} {h : PH} {g : PG} : CALLD z 222 [vR 1023, vI 0] h g = some (some (vI 111), h, g) := by
  have e : CALLD z 222 [vR 1023, vI 0] h g = some (some (vI (i2cI (andI 111 255))), h, g) := by
    refine caD (l0 := [some (vR 1023), some (vI 0)]) (by decide +kernel) ?_
    refine (stD dz222_0 rfl).trans ?_
    refine (stD dz222_1 rfl).trans ?_
    refine (stD dz222_2 (alq (by decide) (by decide))).trans ?_
    refine (stD dz222_3 rfl).trans ?_
    refine (stD dz222_6 rfl).trans ?_
    refine (stD dz222_7 rfl).trans ?_
    refine (stD dz222_8 (blq 0 3 111 (by decide) (by decide) (by decide) (by decide +kernel) rfl rfl (by decide))).trans ?_
    refine (stD dz222_9 rfl).trans ?_
    refine (stD dz222_12 rfl).trans ?_
    refine (stD dz222_13 rfl).trans ?_
    exact rtD dz222_14 (r222 (by decide +kernel))
  rw [show i2cI (andI 111 255) = 111 from by decide +kernel] at e
  exact e

theorem c220_3_0 {z : Int → Int} {h : PH} {g : PG} : CALLD z 220 [vR 1013, vI 0] h g = some (some (vI 111), h, g) := by
  refine caD (l0 := [some (vR 1013), some (vI 0)]) (by decide +kernel) ?_
  refine (stD dz220_0 rfl).trans ?_
  refine (clD dz220_1 rfl c221_3).trans ?_
  refine (stD dz220_4 rfl).trans ?_
  refine (stD dz220_7 rfl).trans ?_
  refine (stD dz220_8 (gf9 (by decide +kernel) (by decide) (by decide))).trans ?_
  refine (stD dz220_11 rfl).trans ?_
  refine (clD dz220_12 rfl c222_3_0).trans ?_
  exact rtD dz220_15 rfl

theorem c222_3_1 {z : Int → Int} {h : PH} {g : PG} : CALLD z 222 [vR 1023, vI 1] h g = some (some (vI 102), h, g) := by
  have e : CALLD z 222 [vR 1023, vI 1] h g = some (some (vI (i2cI (andI 102 255))), h, g) := by
    refine caD (l0 := [some (vR 1023), some (vI 1)]) (by decide +kernel) ?_
    refine (stD dz222_0 rfl).trans ?_
    refine (stD dz222_1 rfl).trans ?_
    refine (stD dz222_2 (alq (by decide) (by decide))).trans ?_
    refine (stD dz222_3 rfl).trans ?_
    refine (stD dz222_6 rfl).trans ?_
    refine (stD dz222_7 rfl).trans ?_
    refine (stD dz222_8 (blq 1 3 102 (by decide) (by decide) (by decide) (by decide +kernel) rfl rfl (by decide))).trans ?_
    refine (stD dz222_9 rfl).trans ?_
    refine (stD dz222_12 rfl).trans ?_
    refine (stD dz222_13 rfl).trans ?_
    exact rtD dz222_14 (r222 (by decide +kernel))
  rw [show i2cI (andI 102 255) = 102 from by decide +kernel] at e
  exact e

theorem c220_3_1 {z : Int → Int} {h : PH} {g : PG} : CALLD z 220 [vR 1013, vI 1] h g = some (some (vI 102), h, g) := by
  refine caD (l0 := [some (vR 1013), some (vI 1)]) (by decide +kernel) ?_
  refine (stD dz220_0 rfl).trans ?_
  refine (clD dz220_1 rfl c221_3).trans ?_
  refine (stD dz220_4 rfl).trans ?_
  refine (stD dz220_7 rfl).trans ?_
  refine (stD dz220_8 (gf9 (by decide +kernel) (by decide) (by decide))).trans ?_
  refine (stD dz220_11 rfl).trans ?_
  refine (clD dz220_12 rfl c222_3_1).trans ?_
  exact rtD dz220_15 rfl

theorem c222_3_2 {z : Int → Int} {h : PH} {g : PG} : CALLD z 222 [vR 1023, vI 2] h g = some (some (vI 102), h, g) := by
  have e : CALLD z 222 [vR 1023, vI 2] h g = some (some (vI (i2cI (andI 102 255))), h, g) := by
    refine caD (l0 := [some (vR 1023), some (vI 2)]) (by decide +kernel) ?_
    refine (stD dz222_0 rfl).trans ?_
    refine (stD dz222_1 rfl).trans ?_
    refine (stD dz222_2 (alq (by decide) (by decide))).trans ?_
    refine (stD dz222_3 rfl).trans ?_
    refine (stD dz222_6 rfl).trans ?_
    refine (stD dz222_7 rfl).trans ?_
    refine (stD dz222_8 (blq 2 3 102 (by decide) (by decide) (by decide) (by decide +kernel) rfl rfl (by decide))).trans ?_
    refine (stD dz222_9 rfl).trans ?_
    refine (stD dz222_12 rfl).trans ?_
    refine (stD dz222_13 rfl).trans ?_
    exact rtD dz222_14 (r222 (by decide +kernel))
  rw [show i2cI (andI 102 255) = 102 from by decide +kernel] at e
  exact e

theorem c220_3_2 {z : Int → Int} {h : PH} {g : PG} : CALLD z 220 [vR 1013, vI 2] h g = some (some (vI 102), h, g) := by
  refine caD (l0 := [some (vR 1013), some (vI 2)]) (by decide +kernel) ?_
  refine (stD dz220_0 rfl).trans ?_
  refine (clD dz220_1 rfl c221_3).trans ?_
  refine (stD dz220_4 rfl).trans ?_
  refine (stD dz220_7 rfl).trans ?_
  refine (stD dz220_8 (gf9 (by decide +kernel) (by decide) (by decide))).trans ?_
  refine (stD dz220_11 rfl).trans ?_
  refine (clD dz220_12 rfl c222_3_2).trans ?_
  exact rtD dz220_15 rfl

