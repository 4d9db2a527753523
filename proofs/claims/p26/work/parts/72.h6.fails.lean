/-! ===== fails: the chain of causes comes to an end ===== -/
theorem hm177 : mO 177 = 8 := by decide +kernel
theorem dz177_112 : decode (mC 177) 112 = .ok ((.iload 5), 2) := by decide +kernel
theorem dz177_114 : decode (mC 177) 114 = .ok ((.ifCond .lt 21), 3) := by decide +kernel
theorem dz177_117 : decode (mC 177) 117 = .ok ((.iload 5), 2) := by decide +kernel
theorem dz177_119 : decode (mC 177) 119 = .ok ((.istore 4), 2) := by decide +kernel
theorem dz177_121 : decode (mC 177) 121 = .ok ((.iinc 3 1), 3) := by decide +kernel
theorem dz177_124 : decode (mC 177) 124 = .ok ((.aload_n 0), 1) := by decide +kernel
theorem dz177_125 : decode (mC 177) 125 = .ok ((.iload 5), 2) := by decide +kernel
theorem dz177_127 : decode (mC 177) 127 = .ok ((.invokevirtual 235), 3) := by decide +kernel
theorem dz177_130 : decode (mC 177) 130 = .ok ((.istore 5), 2) := by decide +kernel
theorem dz177_132 : decode (mC 177) 132 = .ok ((.goto (-20)), 3) := by decide +kernel
theorem dz177_135 : decode (mC 177) 135 = .ok ((.iload_n 1), 1) := by decide +kernel
theorem dz177_136 : decode (mC 177) 136 = .ok ((.iconst 3), 1) := by decide +kernel
theorem dz177_137 : decode (mC 177) 137 = .ok ((.if_icmp .ne 7), 3) := by decide +kernel
theorem dz177_140 : decode (mC 177) 140 = .ok ((.iload_n 3), 1) := by decide +kernel
theorem dz177_141 : decode (mC 177) 141 = .ok ((.goto 5), 3) := by decide +kernel
theorem dz177_144 : decode (mC 177) 144 = .ok ((.iload 4), 2) := by decide +kernel
theorem dz177_146 : decode (mC 177) 146 = .ok (.ireturn, 1) := by decide +kernel
theorem w32m (x : Int) : w32 x % 4294967296 = x % 4294967296 := by
  have e : w32 x = x.bmod 4294967296 := Int32.toInt_ofInt
  rw [e, Int.bmod_def]
  split
  · omega
  · omega
theorem w32_mod {x y : Int} (h : w32 x = w32 y) : x % 4294967296 = y % 4294967296 := by rw [← w32m x, ← w32m y, h]
theorem cnt_le {p q : Nat → Bool} (hpq : ∀ a, p a = true → q a = true) : ∀ l : List Nat, l.countP p ≤ l.countP q
  | [] => Nat.le_refl _
  | a :: l => by
    have k := cnt_le hpq l
    rw [List.countP_cons, List.countP_cons]
    cases hp : p a with
    | false =>
      rw [if_neg (by decide)]
      split
      · omega
      · omega
    | true =>
      rw [hpq a hp]
      omega
theorem cnt_lt {p q : Nat → Bool} (hpq : ∀ a, p a = true → q a = true) {c : Nat} (hc : p c = false) (hq : q c = true) : ∀ l : List Nat, c ∈ l → l.countP p < l.countP q
  | [], h => by cases h
  | a :: l, h => by
    rw [List.countP_cons, List.countP_cons]
    rcases List.mem_cons.mp h with rfl | h
    · have k := cnt_le hpq l
      rw [hc, hq, if_neg (by decide), if_pos rfl]
      omega
    · have k := cnt_lt hpq hc hq l h
      cases hp : p a with
      | false =>
        rw [if_neg (by decide)]
        split
        · omega
        · omega
      | true =>
        rw [hpq a hp]
        omega
/-- how far above the first one, and how many lie lower -/
def upB (h : PH) (base : Int) (a : Nat) : Int := (h 214 (34 + (a : Int)) - base) % 4294967296
def loK (h : PH) (base S : Int) : Nat := (List.range 7).countP (fun a => decide (upB h base a < S))
theorem loK_7 {h : PH} {base S : Int} : loK h base S ≤ 7 := List.countP_le_length
theorem loK_lt {h : PH} {base S S' : Int} {c : Nat} (hc : c < 7) (e : upB h base c = S) (hl : S < S') : loK h base S < loK h base S' := cnt_lt (fun a ha => decide_eq_true (by have := of_decide_eq_true ha; omega)) (decide_eq_false (by omega)) (decide_eq_true (by omega)) _ (List.mem_range.mpr hc)
theorem up_next {h : PH} {base : Int} {b c : Nat} (ho : onZ h c b) (h1 : 1 ≤ h 214 (58 + (b : Int))) (h4 : h 214 (58 + (b : Int)) ≤ 4) (hs : upB h base b ≤ 1000) : upB h base c = upB h base b + h 214 (58 + (b : Int)) := by
  have k := w32_mod ho
  unfold upB at hs ⊢
  omega
theorem ff_end {z : Int → Int} {h : PH} {g : PG} {wh fa nn ro : Int} : ∃ v : Int, XCD z 177 (112, [some (vR 213), some (vI wh), some (vI fa), some (vI nn), some (vI ro), some (vI (-1))], [], h, g) = some (some (vI v), h, g) := by
  cases hc : ccmp .ne wh 3 with
  | true =>
    refine ⟨ro, ?_⟩
    refine (stD (pc := 112) dz177_112 rfl).trans ?_
    refine (stD (pc := 114) dz177_114 (j0D true (by decide) (by decide +kernel))).trans ?_
    refine (stD (pc := 135) dz177_135 rfl).trans ?_
    refine (stD (pc := 136) dz177_136 rfl).trans ?_
    refine (stD (pc := 137) dz177_137 (jcD true (by decide) (hc))).trans ?_
    refine (stD (pc := 144) dz177_144 rfl).trans ?_
    exact rtD (pc := 146) dz177_146 (rtI (by decide +kernel))
  | false =>
    refine ⟨nn, ?_⟩
    refine (stD (pc := 112) dz177_112 rfl).trans ?_
    refine (stD (pc := 114) dz177_114 (j0D true (by decide) (by decide +kernel))).trans ?_
    refine (stD (pc := 135) dz177_135 rfl).trans ?_
    refine (stD (pc := 136) dz177_136 rfl).trans ?_
    refine (stD (pc := 137) dz177_137 (jcD false (by decide) (hc))).trans ?_
    refine (stD (pc := 140) dz177_140 rfl).trans ?_
    refine (stD (pc := 141) dz177_141 rfl).trans ?_
    exact rtD (pc := 146) dz177_146 (rtI (by decide +kernel))
theorem ff_loop {z : Int → Int} (hz : zOK z) {h0 : PH} {g : PG} (hB : BI h0) (hg : gInv g) {n : Nat} (hn : n ≤ 7) (hc : h0 214 0 = (n : Int)) (hH : ∀ a : Nat, a < n → 1 ≤ h0 214 (58 + (a : Int)) ∧ h0 214 (58 + (a : Int)) ≤ 4) (hp : ∀ k : Int, 0 ≤ k → k < 64 → h0 (217 + 4096) k = 1) {wh fa base : Int} :
    ∀ (k c : Nat) (nn ro : Int) (h : PH), c < n → BI h → FR [] h0 h → upB h0 base c ≤ 4 * (loK h0 base (upB h0 base c) : Int) → 7 ≤ loK h0 base (upB h0 base c) + k →
    ∃ (v : Int) (h' : PH), XCD z 177 (112, [some (vR 213), some (vI wh), some (vI fa), some (vI nn), some (vI ro), some (vI (c : Int))], [], h, g) = some (some (vI v), h', g) ∧ BI h' ∧ FR [] h0 h' := by
  intro k
  induction k with
  | zero =>
    intro c nn ro h hcn hBh hF h4 h7
    have := loK_lt (h := h0) (base := base) (S' := upB h0 base c + 1) (by omega : c < 7) rfl (by omega)
    have := loK_7 (h := h0) (base := base) (S := upB h0 base c + 1)
    omega
  | succ k ih =>
    intro c nn ro h hcn hBh hF h4 h7
    have e0 : h 214 0 = (n : Int) := (FR0 hF (by decide) (by decide)).trans hc
    obtain ⟨all, ha, hA⟩ := th_rng hz hBh hg
    have hp1 : ∀ k : Int, 0 ≤ k → k < 64 → h (217 + 4096) k = 1 := fun k k0 k1 => hF.2 217 k (by decide) (hp k k0 k1)
    obtain ⟨v, h1, r1, r2, r3, r4⟩ := caD2 hz hBh hg hn e0 ha hA hp1 (by omega : c < 7)
    have hnl : ccmp .lt (c : Int) 0 = false := cclt_f (by rw [w320, w32n (by omega)]; omega)
    have hF1 := FR0.tr hF r3
    rcases r4 with rfl | ⟨c', rfl, m2, m3⟩
    · obtain ⟨v, hv⟩ := ff_end (z := z) (h := h1) (g := g) (wh := wh) (fa := fa) (nn := nn + 1) (ro := (c : Int))
      refine ⟨v, h1, ?_, r2, hF1⟩
      refine Eq.trans ?_ hv
      refine (stD (pc := 112) dz177_112 rfl).trans ?_
      refine (stD (pc := 114) dz177_114 (j0D false (by decide) (hnl))).trans ?_
      refine (stD (pc := 117) dz177_117 rfl).trans ?_
      refine (stD (pc := 119) dz177_119 rfl).trans ?_
      refine (stD (pc := 121) dz177_121 rfl).trans ?_
      refine (stD (pc := 124) dz177_124 rfl).trans ?_
      refine (stD (pc := 125) dz177_125 rfl).trans ?_
      refine (clD (pc := 127) dz177_127 (cvD (by decide +kernel : okC 177 235 0 179 2 72 = true) hm177 hg rfl rfl rfl rfl) (r1)).trans ?_
      refine (stD (pc := 130) dz177_130 rfl).trans ?_
      refine (stD (pc := 132) dz177_132 rfl).trans ?_
      rfl
    · have ho : onZ h0 c' c := by
        unfold onZ at m3 ⊢
        rw [FR0 hF (by decide) (by decide), FR0 hF (by decide) (by decide), FR0 hF (by decide) (by decide)] at m3
        exact m3
      have l7 := loK_7 (h := h0) (base := base) (S := upB h0 base c)
      obtain ⟨q1, q2⟩ := hH c hcn
      have hu := up_next (base := base) ho q1 q2 (by omega)
      have hlt := loK_lt (h := h0) (base := base) (S' := upB h0 base c') (by omega : c < 7) rfl (by omega)
      obtain ⟨v, h', k1, k2⟩ := ih c' (nn + 1) (c : Int) h1 m2 r2 hF1 (by omega) (by omega)
      refine ⟨v, h', ?_, k2⟩
      refine Eq.trans ?_ k1
      refine (stD (pc := 112) dz177_112 rfl).trans ?_
      refine (stD (pc := 114) dz177_114 (j0D false (by decide) (hnl))).trans ?_
      refine (stD (pc := 117) dz177_117 rfl).trans ?_
      refine (stD (pc := 119) dz177_119 rfl).trans ?_
      refine (stD (pc := 121) dz177_121 rfl).trans ?_
      refine (stD (pc := 124) dz177_124 rfl).trans ?_
      refine (stD (pc := 125) dz177_125 rfl).trans ?_
      refine (clD (pc := 127) dz177_127 (cvD (by decide +kernel : okC 177 235 0 179 2 72 = true) hm177 hg rfl rfl rfl rfl) (r1)).trans ?_
      refine (stD (pc := 130) dz177_130 rfl).trans ?_
      refine (stD (pc := 132) dz177_132 rfl).trans ?_
      rfl
def kc_ca : Con := (179, [(2, none, 213, 0, 1), (0, (some (0, 6)), 0, 0, 0)], [], [], [(65536 + 217 * 256, ([], 64))], [], [((some (0, (some (-1, 6)))), [], [], [])])
theorem ko_ca {z : Int → Int} (hz : zOK z) : conOK z kc_ca := by
  intro avs V1 V2 h g h1 h2 hB hg hf hr
  obtain ⟨w, ws, x, xs, rfl, rfl, k1, k2⟩ := args1 h1
  obtain ⟨w2, ws2, x2, xs2, rfl, rfl, k3, k4⟩ := args1 k2
  obtain ⟨rfl, rfl⟩ := args0 k4
  obtain ⟨e2, e3⟩ := argI k3
  have hb := e3 (0, 6) rfl
  have hb : 0 ≤ x2 ∧ x2 ≤ 6 := hb
  rw [argR k1, e2]
  have r1 := (hr (65536 + 217 * 256, ([], 64)) List.mem_cons_self).2
  have hcb : (0 : Int) ≤ h 214 0 ∧ h 214 0 ≤ 7 := hB 214 (by decide) (0, 0, 0, 7) (by decide +kernel) 0 (by decide) (by decide)
  obtain ⟨all, ha, hA⟩ := th_rng hz hB hg
  obtain ⟨v, h', q1, q2, q3, q4⟩ := caD2 hz hB hg (n := (h 214 0).toNat) (by omega) (by omega) ha hA (fun k k0 k1 => r1 k k0 k1) (b := x2.toNat) (by omega)
  rw [show ((x2.toNat : Nat) : Int) = x2 from by omega] at q1
  refine ⟨_, h', g, q1, q2, q3, hg, _, List.mem_cons_self, v, ⟨rfl, rfl, fun q hq => by
    cases hq
    rcases q4 with q4 | ⟨c, q4, q5, q6⟩
    · exact ⟨by simp only; omega, by simp only; omega⟩
    · exact ⟨by simp only; omega, by simp only; omega⟩⟩, (fun q hq => by cases hq), (fun q hq => by cases hq), (fun q hq => by cases hq)⟩
