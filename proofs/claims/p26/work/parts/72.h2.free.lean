/-! ===== has, there, isFree; findWays ===== -/
theorem hm128 : mO 128 = 8 := by decide +kernel
theorem hm129 : mO 129 = 8 := by decide +kernel
theorem dz128_0 : decode (mC 128) 0 = .ok ((.iconst 1), 1) := by decide +kernel
theorem dz128_1 : decode (mC 128) 1 = .ok ((.aload_n 0), 1) := by decide +kernel
theorem dz128_2 : decode (mC 128) 2 = .ok ((.getfield 9), 3) := by decide +kernel
theorem dz128_5 : decode (mC 128) 5 = .ok ((.iconst 0), 1) := by decide +kernel
theorem dz128_6 : decode (mC 128) 6 = .ok (.iaload, 1) := by decide +kernel
theorem dz128_7 : decode (mC 128) 7 = .ok (.ishl, 1) := by decide +kernel
theorem dz128_8 : decode (mC 128) 8 = .ok ((.iconst 1), 1) := by decide +kernel
theorem dz128_9 : decode (mC 128) 9 = .ok (.isub, 1) := by decide +kernel
theorem dz128_10 : decode (mC 128) 10 = .ok ((.aload_n 0), 1) := by decide +kernel
theorem dz128_11 : decode (mC 128) 11 = .ok ((.getfield 9), 3) := by decide +kernel
theorem dz128_14 : decode (mC 128) 14 = .ok ((.iconst 1), 1) := by decide +kernel
theorem dz128_15 : decode (mC 128) 15 = .ok (.iaload, 1) := by decide +kernel
theorem dz128_16 : decode (mC 128) 16 = .ok ((.iconst (-1)), 1) := by decide +kernel
theorem dz128_17 : decode (mC 128) 17 = .ok (.ixor, 1) := by decide +kernel
theorem dz128_18 : decode (mC 128) 18 = .ok (.iand, 1) := by decide +kernel
theorem dz128_19 : decode (mC 128) 19 = .ok (.ireturn, 1) := by decide +kernel
theorem dz129_0 : decode (mC 129) 0 = .ok ((.iload_n 0), 1) := by decide +kernel
theorem dz129_1 : decode (mC 129) 1 = .ok ((.iload_n 1), 1) := by decide +kernel
theorem dz129_2 : decode (mC 129) 2 = .ok (.ishr, 1) := by decide +kernel
theorem dz129_3 : decode (mC 129) 3 = .ok ((.iconst 1), 1) := by decide +kernel
theorem dz129_4 : decode (mC 129) 4 = .ok (.iand, 1) := by decide +kernel
theorem dz129_5 : decode (mC 129) 5 = .ok ((.iconst 1), 1) := by decide +kernel
theorem dz129_6 : decode (mC 129) 6 = .ok ((.if_icmp .ne 7), 3) := by decide +kernel
theorem dz129_9 : decode (mC 129) 9 = .ok ((.iconst 1), 1) := by decide +kernel
theorem dz129_10 : decode (mC 129) 10 = .ok ((.goto 4), 3) := by decide +kernel
theorem dz129_13 : decode (mC 129) 13 = .ok ((.iconst 0), 1) := by decide +kernel
theorem dz129_14 : decode (mC 129) 14 = .ok (.ireturn, 1) := by decide +kernel
theorem hasD {z : Int → Int} {s k : Nat} (hs : s < 128) (hk : k < 8) {h : PH} {g : PG} : CALLD z 129 [vI (s : Int), vI (k : Int)] h g = some (some (vI (bif hasB s k then 1 else 0)), h, g) := by
  have hL : mL 129 = 2 := by decide +kernel
  have hb := has_e hs hk
  refine caD (l0 := [some (vI (s : Int)), some (vI (k : Int))]) (by unfold entryL; rw [hL]; rfl) ?_
  cases hc : hasB s k with
  | true =>
    rw [hc] at hb
    refine (stD (pc := 0) dz129_0 rfl).trans ?_
    refine (stD (pc := 1) dz129_1 rfl).trans ?_
    refine (stD (pc := 2) dz129_2 rfl).trans ?_
    refine (stD (pc := 3) dz129_3 rfl).trans ?_
    refine (stD (pc := 4) dz129_4 rfl).trans ?_
    refine (stD (pc := 5) dz129_5 rfl).trans ?_
    refine (stD (pc := 6) dz129_6 (jcD false (by decide) (by unfold ccmp; rw [hb]; rfl))).trans ?_
    refine (stD (pc := 9) dz129_9 rfl).trans ?_
    refine (stD (pc := 10) dz129_10 rfl).trans ?_
    exact rtD (pc := 14) dz129_14 (rtB (by decide +kernel) (Or.inr rfl))
  | false =>
    rw [hc] at hb
    refine (stD (pc := 0) dz129_0 rfl).trans ?_
    refine (stD (pc := 1) dz129_1 rfl).trans ?_
    refine (stD (pc := 2) dz129_2 rfl).trans ?_
    refine (stD (pc := 3) dz129_3 rfl).trans ?_
    refine (stD (pc := 4) dz129_4 rfl).trans ?_
    refine (stD (pc := 5) dz129_5 rfl).trans ?_
    refine (stD (pc := 6) dz129_6 (jcD true (by decide) (by unfold ccmp; rw [hb]; rfl))).trans ?_
    refine (stD (pc := 13) dz129_13 rfl).trans ?_
    exact rtD (pc := 14) dz129_14 (rtB (by decide +kernel) (Or.inl rfl))
theorem thereD {z : Int → Int} {h : PH} {g : PG} (hg : gInv g) : CALLD z 128 [vR 213] h g = some (some (vI (andI (shlI 1 (h 214 0) - 1) (xorI (h 214 1) (-1)))), h, g) := by
  have hL : mL 128 = 1 := by decide +kernel
  refine caD (l0 := [some (vR 213)]) (by unfold entryL; rw [hL]; rfl) ?_
  refine (stD (pc := 0) dz128_0 rfl).trans ?_
  refine (stD (pc := 1) dz128_1 rfl).trans ?_
  refine (stD (pc := 2) dz128_2 (gfg hm128 hg)).trans ?_
  refine (stD (pc := 5) dz128_5 rfl).trans ?_
  refine (stD (pc := 6) dz128_6 (ialC hg)).trans ?_
  refine (stD (pc := 7) dz128_7 rfl).trans ?_
  refine (stD (pc := 8) dz128_8 rfl).trans ?_
  refine (stD (pc := 9) dz128_9 rfl).trans ?_
  refine (stD (pc := 10) dz128_10 rfl).trans ?_
  refine (stD (pc := 11) dz128_11 (gfg hm128 hg)).trans ?_
  refine (stD (pc := 14) dz128_14 rfl).trans ?_
  refine (stD (pc := 15) dz128_15 (ialG hg)).trans ?_
  refine (stD (pc := 16) dz128_16 rfl).trans ?_
  refine (stD (pc := 17) dz128_17 rfl).trans ?_
  refine (stD (pc := 18) dz128_18 rfl).trans ?_
  exact rtD (pc := 19) dz128_19 (rtI (by decide +kernel))
/-- the cells that are no scratch are the same -/
def NS (h h' : PH) : Prop := ∀ a k : Int, 0 ≤ a → a < 4096 → scrt a k = false → h' a k = h a k
def scW (W : WrT) : Bool := W.all (fun w => (Nat.ble 216 w.1 && Nat.ble w.1 223) || (Nat.beq w.1 213 && ((Nat.ble 9 w.2.1 && Nat.ble w.2.2 14) || (Nat.beq w.2.1 17 && Nat.beq w.2.2 17))))
theorem scW_ok {W : WrT} (h : scW W = true) {a k : Int} (hi : InW W a k) : scrt a k = true := by
  obtain ⟨w, w1, w2, w3, w4⟩ := hi
  have e := List.all_eq_true.mp h w w1
  unfold scrt
  rcases Bool.or_eq_true_iff.mp e with e | e
  · have e := Bool.and_eq_true_iff.mp e
    have e1 := Nat.le_of_ble_eq_true e.1
    have e2 := Nat.le_of_ble_eq_true e.2
    rw [decide_eq_true (by omega : 216 ≤ a), decide_eq_true (by omega : a ≤ 223)]
    rfl
  · have e := Bool.and_eq_true_iff.mp e
    have e1 := Nat.eq_of_beq_eq_true e.1
    rw [decide_eq_true (by omega : a = 213)]
    rcases Bool.or_eq_true_iff.mp e.2 with e | e
    · have e := Bool.and_eq_true_iff.mp e
      have e2 := Nat.le_of_ble_eq_true e.1
      have e3 := Nat.le_of_ble_eq_true e.2
      rw [decide_eq_true (by omega : 9 ≤ k), decide_eq_true (by omega : k ≤ 14)]
      simp
    · have e := Bool.and_eq_true_iff.mp e
      have e2 := Nat.eq_of_beq_eq_true e.1
      have e3 := Nat.eq_of_beq_eq_true e.2
      rw [decide_eq_true (by omega : k = 17)]
      simp
theorem FR.ns {W : WrT} {h h' : PH} (hF : FR W h h') (hw : scW W = true) : NS h h' := fun a k h0 h1 hs => hF.1 a k h0 h1 (fun hi => by rw [scW_ok hw hi] at hs; cases hs)
theorem IW_tr {W W' : WrT} {h0 h h' : PH} (hI : IW W h0 h) (hB : BI h') (hF : FR W' h h') (hs : subW W' W = true) : IW W h0 h' := by
  refine ⟨hB, fun b k hb0 hb1 hn => ?_, fun b k hb0 hf => hF.2 b k hb0 (hI.2.2 b k hb0 hf)⟩
  rw [hF.1 b k hb0 hb1 (fun q => hn (subW_ok hs q))]
  exact hI.2.1 b k hb0 hb1 hn
def clrH (h : PH) : PH := fun a k => if 4096 ≤ a then 0 else h a k
theorem BI_clr {h : PH} (hB : BI h) : BI (clrH h) := by
  intro a ha e he k k1 k2
  unfold clrH
  rw [if_neg (by omega)]
  exact hB a ha e he k k1 k2
theorem simR_clr {h h' : PH} (hn : NS h h') : simR (clrH h) h' := by
  intro a k h0 h1 hs
  have e : clrH h a k = h a k := by
    unfold clrH
    rw [if_neg (by omega)]
  rw [e]
  rcases hs with hs | hs
  · exact (hn a k h0 (by omega) hs).symm
  · unfold clrH at hs
    rw [if_pos (by omega)] at hs
    cases hs
theorem simR_self (h : PH) : simR h h := fun _ _ _ _ _ => rfl
def inI32 (x : Int) : Prop := -2147483648 ≤ x ∧ x ≤ 2147483647
theorem fr_arg {b s : Int} (hb : 0 ≤ b ∧ b ≤ 6) (hs : inI32 s) : argsOK kc_99.2.1 [vR 213, vI b, vI s] [0, b, s] := ⟨⟨rfl, by simp, by omega, by decide⟩, ⟨rfl, rfl, fun q hq => by cases hq; exact hb⟩, ⟨rfl, rfl, fun q hq => by cases hq; exact hs⟩, trivial⟩
theorem fr_ex {z : Int → Int} (hz : zOK z) {h : PH} {g : PG} (hB : BI h) (hg : gInv g) {b s : Int} (hb : 0 ≤ b ∧ b ≤ 6) (hs : inI32 s) : ∃ (v : Int) (h' : PH), CALLD z 146 [vR 213, vI b, vI s] h g = some (some (vI v), h', g) ∧ 0 ≤ v ∧ v ≤ 1 ∧ BI h' ∧ FR kc_99.2.2.2.2.2.1 h h' := by
  obtain ⟨v, h', g', r1, r2, r3, r4, a, ha, x, x1, -⟩ := ko_99 hz [vR 213, vI b, vI s] [0, b, s] [] h g (fr_arg hb hs) trivial hB hg (fun f hf => by cases hf) (fun q hq => by cases hq)
  have eg := CALLD_g r1
  subst eg
  rcases List.mem_cons.mp ha with rfl | ha
  · match v, x1 with
    | some (.inl y), ⟨y1, y2, y3⟩ =>
      have y2 : y = x := y2
      subst y2
      have := y3 (0, 1) rfl
      exact ⟨y, h', r1, this.1, this.2, r2, r3⟩
    | some (.inr (.inl y)), ⟨y1, _⟩ => cases y1
    | none, x1 => exact x1.elim
    | some (.inr (.inr _)), x1 => exact x1.elim
  · cases ha
theorem fr_det {z : Int → Int} (hz : zOK z) {h1 h2 h1' h2' : PH} {g : PG} (hB : BI h1) (hg : gInv g) (hN : NS h1 h2) {b s : Int} (hb : 0 ≤ b ∧ b ≤ 6) (hs : inI32 s) {v1 v2 : Option PV} (e1 : CALLD z 146 [vR 213, vI b, vI s] h1 g = some (v1, h1', g)) (e2 : CALLD z 146 [vR 213, vI b, vI s] h2 g = some (v2, h2', g)) : v1 = v2 := by
  obtain ⟨v, h', r1, -⟩ := fr_ex hz (BI_clr hB) hg hb hs
  obtain ⟨k1, s1, -⟩ := CALLD_sim r1 (simR_clr (h' := h1) (fun _ _ _ _ _ => rfl))
  obtain ⟨k2, s2, -⟩ := CALLD_sim r1 (simR_clr hN)
  obtain ⟨k3, s3, -⟩ := CALLD_sim e1 (simR_self h1)
  obtain ⟨k4, s4, -⟩ := CALLD_sim e2 (simR_self h2)
  rw [s1] at s3
  rw [s2] at s4
  cases s3
  cases s4
  rfl
