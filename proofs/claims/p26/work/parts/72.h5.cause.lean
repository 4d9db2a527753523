/-! ===== contactOf, restingOn, causeOf: who a cause is ===== -/
theorem hm134 : mO 134 = 8 := by decide +kernel
theorem hm147 : mO 147 = 8 := by decide +kernel
theorem hm148 : mO 148 = 8 := by decide +kernel
theorem hm179 : mO 179 = 8 := by decide +kernel
theorem dz134_0 : decode (mC 134) 0 = .ok ((.aload_n 0), 1) := by decide +kernel
theorem dz134_1 : decode (mC 134) 1 = .ok ((.getfield 9), 3) := by decide +kernel
theorem dz134_4 : decode (mC 134) 4 = .ok ((.bipush 34), 2) := by decide +kernel
theorem dz134_6 : decode (mC 134) 6 = .ok ((.iload_n 1), 1) := by decide +kernel
theorem dz134_7 : decode (mC 134) 7 = .ok (.iadd, 1) := by decide +kernel
theorem dz134_8 : decode (mC 134) 8 = .ok (.iaload, 1) := by decide +kernel
theorem dz134_9 : decode (mC 134) 9 = .ok ((.aload_n 0), 1) := by decide +kernel
theorem dz134_10 : decode (mC 134) 10 = .ok ((.getfield 9), 3) := by decide +kernel
theorem dz134_13 : decode (mC 134) 13 = .ok ((.bipush 58), 2) := by decide +kernel
theorem dz134_15 : decode (mC 134) 15 = .ok ((.iload_n 1), 1) := by decide +kernel
theorem dz134_16 : decode (mC 134) 16 = .ok (.iadd, 1) := by decide +kernel
theorem dz134_17 : decode (mC 134) 17 = .ok (.iaload, 1) := by decide +kernel
theorem dz134_18 : decode (mC 134) 18 = .ok (.iadd, 1) := by decide +kernel
theorem dz134_19 : decode (mC 134) 19 = .ok (.ireturn, 1) := by decide +kernel
theorem dz147_0 : decode (mC 147) 0 = .ok ((.iconst 0), 1) := by decide +kernel
theorem dz147_1 : decode (mC 147) 1 = .ok ((.istore_n 3), 1) := by decide +kernel
theorem dz147_2 : decode (mC 147) 2 = .ok ((.iconst 0), 1) := by decide +kernel
theorem dz147_3 : decode (mC 147) 3 = .ok ((.istore 4), 2) := by decide +kernel
theorem dz147_5 : decode (mC 147) 5 = .ok ((.iload 4), 2) := by decide +kernel
theorem dz147_7 : decode (mC 147) 7 = .ok ((.aload_n 0), 1) := by decide +kernel
theorem dz147_8 : decode (mC 147) 8 = .ok ((.getfield 9), 3) := by decide +kernel
theorem dz147_11 : decode (mC 147) 11 = .ok ((.iconst 0), 1) := by decide +kernel
theorem dz147_12 : decode (mC 147) 12 = .ok (.iaload, 1) := by decide +kernel
theorem dz147_13 : decode (mC 147) 13 = .ok ((.if_icmp .ge 39), 3) := by decide +kernel
theorem dz147_16 : decode (mC 147) 16 = .ok ((.iload_n 3), 1) := by decide +kernel
theorem dz147_17 : decode (mC 147) 17 = .ok ((.iload_n 2), 1) := by decide +kernel
theorem dz147_18 : decode (mC 147) 18 = .ok ((.iload 4), 2) := by decide +kernel
theorem dz147_20 : decode (mC 147) 20 = .ok ((.invokestatic 79), 3) := by decide +kernel
theorem dz147_23 : decode (mC 147) 23 = .ok ((.ifCond .eq 20), 3) := by decide +kernel
theorem dz147_26 : decode (mC 147) 26 = .ok ((.aload_n 0), 1) := by decide +kernel
theorem dz147_27 : decode (mC 147) 27 = .ok ((.iload 4), 2) := by decide +kernel
theorem dz147_29 : decode (mC 147) 29 = .ok ((.iload_n 1), 1) := by decide +kernel
theorem dz147_30 : decode (mC 147) 30 = .ok ((.invokevirtual 101), 3) := by decide +kernel
theorem dz147_33 : decode (mC 147) 33 = .ok ((.ifCond .le 10), 3) := by decide +kernel
theorem dz147_36 : decode (mC 147) 36 = .ok ((.iconst 1), 1) := by decide +kernel
theorem dz147_37 : decode (mC 147) 37 = .ok ((.iload 4), 2) := by decide +kernel
theorem dz147_39 : decode (mC 147) 39 = .ok (.ishl, 1) := by decide +kernel
theorem dz147_40 : decode (mC 147) 40 = .ok ((.goto 4), 3) := by decide +kernel
theorem dz147_43 : decode (mC 147) 43 = .ok ((.iconst 0), 1) := by decide +kernel
theorem dz147_44 : decode (mC 147) 44 = .ok (.ior, 1) := by decide +kernel
theorem dz147_45 : decode (mC 147) 45 = .ok ((.istore_n 3), 1) := by decide +kernel
theorem dz147_46 : decode (mC 147) 46 = .ok ((.iinc 4 1), 3) := by decide +kernel
theorem dz147_49 : decode (mC 147) 49 = .ok ((.goto (-44)), 3) := by decide +kernel
theorem dz147_52 : decode (mC 147) 52 = .ok ((.iload_n 3), 1) := by decide +kernel
theorem dz147_53 : decode (mC 147) 53 = .ok (.ireturn, 1) := by decide +kernel
theorem dz148_0 : decode (mC 148) 0 = .ok ((.iload_n 2), 1) := by decide +kernel
theorem dz148_1 : decode (mC 148) 1 = .ok ((.iload_n 1), 1) := by decide +kernel
theorem dz148_2 : decode (mC 148) 2 = .ok ((.if_icmp .eq 29), 3) := by decide +kernel
theorem dz148_5 : decode (mC 148) 5 = .ok ((.aload_n 0), 1) := by decide +kernel
theorem dz148_6 : decode (mC 148) 6 = .ok ((.iload_n 2), 1) := by decide +kernel
theorem dz148_7 : decode (mC 148) 7 = .ok ((.invokevirtual 87), 3) := by decide +kernel
theorem dz148_10 : decode (mC 148) 10 = .ok ((.aload_n 0), 1) := by decide +kernel
theorem dz148_11 : decode (mC 148) 11 = .ok ((.getfield 9), 3) := by decide +kernel
theorem dz148_14 : decode (mC 148) 14 = .ok ((.bipush 34), 2) := by decide +kernel
theorem dz148_16 : decode (mC 148) 16 = .ok ((.iload_n 1), 1) := by decide +kernel
theorem dz148_17 : decode (mC 148) 17 = .ok (.iadd, 1) := by decide +kernel
theorem dz148_18 : decode (mC 148) 18 = .ok (.iaload, 1) := by decide +kernel
theorem dz148_19 : decode (mC 148) 19 = .ok ((.if_icmp .ne 12), 3) := by decide +kernel
theorem dz148_31 : decode (mC 148) 31 = .ok ((.iconst 0), 1) := by decide +kernel
theorem dz148_32 : decode (mC 148) 32 = .ok (.ireturn, 1) := by decide +kernel
theorem dz179_0 : decode (mC 179) 0 = .ok ((.iconst (-1)), 1) := by decide +kernel
theorem dz179_1 : decode (mC 179) 1 = .ok ((.istore_n 2), 1) := by decide +kernel
theorem dz179_2 : decode (mC 179) 2 = .ok ((.iconst 0), 1) := by decide +kernel
theorem dz179_3 : decode (mC 179) 3 = .ok ((.istore_n 3), 1) := by decide +kernel
theorem dz179_4 : decode (mC 179) 4 = .ok ((.iload_n 3), 1) := by decide +kernel
theorem dz179_5 : decode (mC 179) 5 = .ok ((.aload_n 0), 1) := by decide +kernel
theorem dz179_6 : decode (mC 179) 6 = .ok ((.getfield 9), 3) := by decide +kernel
theorem dz179_9 : decode (mC 179) 9 = .ok ((.iconst 0), 1) := by decide +kernel
theorem dz179_10 : decode (mC 179) 10 = .ok (.iaload, 1) := by decide +kernel
theorem dz179_11 : decode (mC 179) 11 = .ok ((.if_icmp .ge 59), 3) := by decide +kernel
theorem dz179_14 : decode (mC 179) 14 = .ok ((.aload_n 0), 1) := by decide +kernel
theorem dz179_15 : decode (mC 179) 15 = .ok ((.iload_n 1), 1) := by decide +kernel
theorem dz179_16 : decode (mC 179) 16 = .ok ((.aload_n 0), 1) := by decide +kernel
theorem dz179_17 : decode (mC 179) 17 = .ok ((.invokevirtual 75), 3) := by decide +kernel
theorem dz179_20 : decode (mC 179) 20 = .ok ((.invokevirtual 187), 3) := by decide +kernel
theorem dz179_23 : decode (mC 179) 23 = .ok ((.iload_n 3), 1) := by decide +kernel
theorem dz179_24 : decode (mC 179) 24 = .ok ((.invokestatic 79), 3) := by decide +kernel
theorem dz179_27 : decode (mC 179) 27 = .ok ((.ifCond .ne 6), 3) := by decide +kernel
theorem dz179_30 : decode (mC 179) 30 = .ok ((.goto 34), 3) := by decide +kernel
theorem dz179_33 : decode (mC 179) 33 = .ok ((.iload_n 2), 1) := by decide +kernel
theorem dz179_34 : decode (mC 179) 34 = .ok ((.ifCond .lt 28), 3) := by decide +kernel
theorem dz179_37 : decode (mC 179) 37 = .ok ((.aload_n 0), 1) := by decide +kernel
theorem dz179_38 : decode (mC 179) 38 = .ok ((.getfield 21), 3) := by decide +kernel
theorem dz179_41 : decode (mC 179) 41 = .ok ((.bipush 8), 2) := by decide +kernel
theorem dz179_43 : decode (mC 179) 43 = .ok ((.iload_n 3), 1) := by decide +kernel
theorem dz179_44 : decode (mC 179) 44 = .ok (.imul, 1) := by decide +kernel
theorem dz179_45 : decode (mC 179) 45 = .ok ((.iload_n 1), 1) := by decide +kernel
theorem dz179_46 : decode (mC 179) 46 = .ok (.iadd, 1) := by decide +kernel
theorem dz179_47 : decode (mC 179) 47 = .ok (.iaload, 1) := by decide +kernel
theorem dz179_48 : decode (mC 179) 48 = .ok ((.aload_n 0), 1) := by decide +kernel
theorem dz179_49 : decode (mC 179) 49 = .ok ((.getfield 21), 3) := by decide +kernel
theorem dz179_52 : decode (mC 179) 52 = .ok ((.bipush 8), 2) := by decide +kernel
theorem dz179_54 : decode (mC 179) 54 = .ok ((.iload_n 2), 1) := by decide +kernel
theorem dz179_55 : decode (mC 179) 55 = .ok (.imul, 1) := by decide +kernel
theorem dz179_56 : decode (mC 179) 56 = .ok ((.iload_n 1), 1) := by decide +kernel
theorem dz179_57 : decode (mC 179) 57 = .ok (.iadd, 1) := by decide +kernel
theorem dz179_58 : decode (mC 179) 58 = .ok (.iaload, 1) := by decide +kernel
theorem dz179_59 : decode (mC 179) 59 = .ok ((.if_icmp .le 5), 3) := by decide +kernel
theorem dz179_62 : decode (mC 179) 62 = .ok ((.iload_n 3), 1) := by decide +kernel
theorem dz179_63 : decode (mC 179) 63 = .ok ((.istore_n 2), 1) := by decide +kernel
theorem dz179_64 : decode (mC 179) 64 = .ok ((.iinc 3 1), 3) := by decide +kernel
theorem dz179_67 : decode (mC 179) 67 = .ok ((.goto (-63)), 3) := by decide +kernel
theorem dz179_70 : decode (mC 179) 70 = .ok ((.iload_n 2), 1) := by decide +kernel
theorem dz179_71 : decode (mC 179) 71 = .ok (.ireturn, 1) := by decide +kernel
theorem FR0 {h h' : PH} (hF : FR [] h h') {a k : Int} (h0 : 0 ≤ a) (h1 : a < 4096) : h' a k = h a k := hF.1 a k h0 h1 (fun ⟨w, w1, _⟩ => by cases w1)
theorem FR0.tr {h h' h2 : PH} (hF : FR [] h h') (hG : FR [] h' h2) : FR [] h h2 := ⟨fun a k h0 h1 _ => (FR0 hG h0 h1).trans (FR0 hF h0 h1), fun a k h0 hf => hG.2 a k h0 (hF.2 a k h0 hf)⟩
theorem i34 {a : Nat} (ha : a < 8) : w32 (34 + (a : Int)) = 34 + (a : Int) := e_small (by omega) (by omega)
theorem i58 {a : Nat} (ha : a < 8) : w32 (58 + (a : Int)) = 58 + (a : Int) := e_small (by omega) (by omega)
theorem al214 : alen 214 = 74 := by decide +kernel
theorem rd214 {h : PH} {k : Int} : rdk h 214 k = true := rd_ns (by unfold scrt; rfl)
theorem topD {z : Int → Int} {h : PH} {g : PG} (hg : gInv g) {a : Nat} (ha : a < 8) : CALLD z 134 [vR 213, vI (a : Int)] h g = some (some (vI (h 214 (34 + (a : Int)) + h 214 (58 + (a : Int)))), h, g) := by
  have hL : mL 134 = 2 := by decide +kernel
  refine caD (l0 := [some (vR 213), some (vI (a : Int))]) (by unfold entryL; rw [hL]; rfl) ?_
  refine (stD (pc := 0) dz134_0 rfl).trans ?_
  refine (stD (pc := 1) dz134_1 (gfg hm134 hg)).trans ?_
  refine (stD (pc := 4) dz134_4 rfl).trans ?_
  refine (stD (pc := 6) dz134_6 rfl).trans ?_
  refine (stD (pc := 7) dz134_7 rfl).trans ?_
  refine (stD (pc := 8) dz134_8 (ialR hg (by decide +kernel) (i34 ha) (by omega) (by rw [al214]; omega) rd214)).trans ?_
  refine (stD (pc := 9) dz134_9 rfl).trans ?_
  refine (stD (pc := 10) dz134_10 (gfg hm134 hg)).trans ?_
  refine (stD (pc := 13) dz134_13 rfl).trans ?_
  refine (stD (pc := 15) dz134_15 rfl).trans ?_
  refine (stD (pc := 16) dz134_16 rfl).trans ?_
  refine (stD (pc := 17) dz134_17 (ialR hg (by decide +kernel) (i58 ha) (by omega) (by rw [al214]; omega) rd214)).trans ?_
  refine (stD (pc := 18) dz134_18 rfl).trans ?_
  exact rtD (pc := 19) dz134_19 (rtI (by decide +kernel))
theorem ct_arg {b a : Int} (hb : 0 ≤ b ∧ b ≤ 7) (ha : 0 ≤ a ∧ a ≤ 7) : argsOK kc_79.2.1 [vR 213, vI b, vI a] [0, b, a] := ⟨⟨rfl, by simp, by omega, by decide⟩, ⟨rfl, rfl, fun q hq => by cases hq; exact hb⟩, ⟨rfl, rfl, fun q hq => by cases hq; exact ha⟩, trivial⟩
theorem ct_ex {z : Int → Int} (hz : zOK z) {h : PH} {g : PG} (hB : BI h) (hg : gInv g) {b a : Int} (hb : 0 ≤ b ∧ b ≤ 7) (ha : 0 ≤ a ∧ a ≤ 7) : ∃ (v : Int) (h' : PH), CALLD z 148 [vR 213, vI b, vI a] h g = some (some (vI v), h', g) ∧ 0 ≤ v ∧ v ≤ 144 ∧ BI h' ∧ FR [] h h' := by
  obtain ⟨v, h', g', r1, r2, r3, r4, a', ha', x, x1, -⟩ := ko_79 hz [vR 213, vI b, vI a] [0, b, a] [] h g (ct_arg hb ha) trivial hB hg (fun f hf => by cases hf) (fun q hq => by cases hq)
  have eg := CALLD_g r1
  subst eg
  rcases List.mem_cons.mp ha' with rfl | ha'
  · match v, x1 with
    | some (.inl y), ⟨y1, y2, y3⟩ =>
      have y2 : y = x := y2
      subst y2
      have := y3 (0, 144) rfl
      exact ⟨y, h', r1, this.1, this.2, r2, r3⟩
    | some (.inr (.inl y)), ⟨y1, _⟩ => cases y1
    | none, x1 => exact x1.elim
    | some (.inr (.inr _)), x1 => exact x1.elim
  · cases ha'
/-- the first lies on the second: its bottom is the second's top -/
def onZ (h : PH) (b a : Nat) : Prop := w32 (h 214 (34 + (a : Int)) + h 214 (58 + (a : Int))) = w32 (h 214 (34 + (b : Int)))
theorem ctD {z : Int → Int} (hz : zOK z) {h : PH} {g : PG} (hB : BI h) (hg : gInv g) {b a : Nat} (hb : b < 8) (ha : a < 8) : ∃ (v : Int) (h' : PH), CALLD z 148 [vR 213, vI (b : Int), vI (a : Int)] h g = some (some (vI v), h', g) ∧ 0 ≤ v ∧ v ≤ 144 ∧ BI h' ∧ FR [] h h' ∧ (v ≠ 0 → onZ h b a) := by
  obtain ⟨v, h', r1, r2, r3, r4, r5⟩ := ct_ex hz hB hg (b := (b : Int)) (a := (a : Int)) (by omega) (by omega)
  refine ⟨v, h', r1, r2, r3, r4, r5, fun hv => ?_⟩
  have hL : mL 148 = 3 := by decide +kernel
  have e0 : ∀ v', CALLD z 148 [vR 213, vI (b : Int), vI (a : Int)] h g = some (some (vI v'), h, g) → v' = 0 → False := by
    intro v' q1 q2
    rw [q1] at r1
    cases r1
    exact hv q2
  unfold onZ
  by_cases hq : w32 (h 214 (34 + (a : Int)) + h 214 (58 + (a : Int))) = w32 (h 214 (34 + (b : Int)))
  · exact hq
  · refine (e0 0 ?_ rfl).elim
    refine caD (l0 := [some (vR 213), some (vI (b : Int)), some (vI (a : Int))]) (by unfold entryL; rw [hL]; rfl) ?_
    cases hc : ccmp .eq (a : Int) (b : Int) with
    | true =>
      refine (stD (pc := 0) dz148_0 rfl).trans ?_
      refine (stD (pc := 1) dz148_1 rfl).trans ?_
      refine (stD (pc := 2) dz148_2 (jcD true (by decide) (hc))).trans ?_
      refine (stD (pc := 31) dz148_31 rfl).trans ?_
      exact rtD (pc := 32) dz148_32 (rtI (by decide +kernel))
    | false =>
      refine (stD (pc := 0) dz148_0 rfl).trans ?_
      refine (stD (pc := 1) dz148_1 rfl).trans ?_
      refine (stD (pc := 2) dz148_2 (jcD false (by decide) (hc))).trans ?_
      refine (stD (pc := 5) dz148_5 rfl).trans ?_
      refine (stD (pc := 6) dz148_6 rfl).trans ?_
      refine (clD (pc := 7) dz148_7 (cvD (by decide +kernel : okC 148 87 0 134 2 40 = true) hm148 hg rfl rfl rfl rfl) (topD hg ha)).trans ?_
      refine (stD (pc := 10) dz148_10 rfl).trans ?_
      refine (stD (pc := 11) dz148_11 (gfg hm148 hg)).trans ?_
      refine (stD (pc := 14) dz148_14 rfl).trans ?_
      refine (stD (pc := 16) dz148_16 rfl).trans ?_
      refine (stD (pc := 17) dz148_17 rfl).trans ?_
      refine (stD (pc := 18) dz148_18 (ialR hg (by decide +kernel) (i34 hb) (by omega) (by rw [al214]; omega) rd214)).trans ?_
      refine (stD (pc := 19) dz148_19 (jcD true (by decide) (ccne_t hq))).trans ?_
      refine (stD (pc := 31) dz148_31 rfl).trans ?_
      exact rtD (pc := 32) dz148_32 (rtI (by decide +kernel))
def orB (s k : Nat) : Nat := bif hasB s k then s else s + 2 ^ k
theorem or_t : ∀ s : Fin 128, ∀ k : Fin 7, orI ((s.val : Nat) : Int) (shlI 1 ((k.val : Nat) : Int)) = ((orB s.val k.val : Nat) : Int) ∧ orB s.val k.val < 128 := by decide +kernel
theorem or_0 : ∀ s : Fin 128, orI ((s.val : Nat) : Int) 0 = ((s.val : Nat) : Int) := by decide +kernel
theorem or_h : ∀ s : Fin 128, ∀ k : Fin 7, ∀ d : Fin 7, hasB (orB s.val k.val) d.val = true → hasB s.val d.val = true ∨ d.val = k.val := by decide +kernel
theorem ro_loop {z : Int → Int} (hz : zOK z) {h0 : PH} {g : PG} (hg : gInv g) {n : Nat} (hn : n ≤ 7) (hc : h0 214 0 = (n : Int)) {b s : Nat} (hb : b < 7) (hs : s < 128) : ∀ (k c on : Nat) (h : PH), c + k = n → BI h → FR [] h0 h → on < 128 → (∀ d : Nat, d < 7 → hasB on d = true → d < n ∧ onZ h0 d b) →
    ∃ (v : Nat) (h' : PH), XCD z 147 (5, [some (vR 213), some (vI (b : Int)), some (vI (s : Int)), some (vI (on : Int)), some (vI (c : Int))], [], h, g) = some (some (vI (v : Int)), h', g) ∧ v < 128 ∧ BI h' ∧ FR [] h0 h' ∧ (∀ d : Nat, d < 7 → hasB v d = true → d < n ∧ onZ h0 d b) := by
  intro k
  induction k with
  | zero =>
    intro c on h hk hB hF ho hG
    have e0 : h 214 0 = (n : Int) := (FR0 hF (by decide) (by decide)).trans hc
    have hge : ccmp .ge (c : Int) (h 214 0) = true := ccge_t (by rw [e0, w32n (by omega), w32n (by omega)]; omega)
    refine ⟨on, h, ?_, ho, hB, hF, hG⟩
    refine (stD (pc := 5) dz147_5 rfl).trans ?_
    refine (stD (pc := 7) dz147_7 rfl).trans ?_
    refine (stD (pc := 8) dz147_8 (gfg hm147 hg)).trans ?_
    refine (stD (pc := 11) dz147_11 rfl).trans ?_
    refine (stD (pc := 12) dz147_12 (ialC hg)).trans ?_
    refine (stD (pc := 13) dz147_13 (jcD true (by decide) (hge))).trans ?_
    refine (stD (pc := 52) dz147_52 rfl).trans ?_
    exact rtD (pc := 53) dz147_53 (rtI (by decide +kernel))
  | succ k ih =>
    intro c on h hk hB hF ho hG
    have e0 : h 214 0 = (n : Int) := (FR0 hF (by decide) (by decide)).trans hc
    have hlt : ccmp .ge (c : Int) (h 214 0) = false := ccge_f (by rw [e0, w32n (by omega), w32n (by omega)]; omega)
    have o0 : orI (on : Int) 0 = (on : Int) := or_0 ⟨on, ho⟩
    have o1 := or_t ⟨on, ho⟩ ⟨c, by omega⟩
    cases hh : hasB s c with
    | false =>
      have hd : CALLD z 129 [vI (s : Int), vI (c : Int)] h g = some (some (vI 0), h, g) := by
        have := hasD (z := z) hs (by omega : c < 8) (h := h) (g := g)
        rw [hh] at this
        exact this
      obtain ⟨v, h', k1, k2⟩ := ih (c + 1) on h (by omega) hB hF ho hG
      refine ⟨v, h', ?_, k2⟩
      refine Eq.trans ?_ k1
      refine (stD (pc := 5) dz147_5 rfl).trans ?_
      refine (stD (pc := 7) dz147_7 rfl).trans ?_
      refine (stD (pc := 8) dz147_8 (gfg hm147 hg)).trans ?_
      refine (stD (pc := 11) dz147_11 rfl).trans ?_
      refine (stD (pc := 12) dz147_12 (ialC hg)).trans ?_
      refine (stD (pc := 13) dz147_13 (jcD false (by decide) (hlt))).trans ?_
      refine (stD (pc := 16) dz147_16 rfl).trans ?_
      refine (stD (pc := 17) dz147_17 rfl).trans ?_
      refine (stD (pc := 18) dz147_18 rfl).trans ?_
      refine (clD (pc := 20) dz147_20 (csD (by decide +kernel : okC 147 79 1 129 2 40 = true) (by decide +kernel) rfl rfl rfl) (hd)).trans ?_
      refine (stD (pc := 23) dz147_23 (j0D true (by decide) (by unfold ccmp; rfl))).trans ?_
      refine (stD (pc := 43) dz147_43 rfl).trans ?_
      refine (stD (pc := 44) dz147_44 rfl).trans ?_
      rw [o0]
      refine (stD (pc := 45) dz147_45 rfl).trans ?_
      refine (stD (pc := 46) dz147_46 rfl).trans ?_
      refine (stD (pc := 49) dz147_49 rfl).trans ?_
      rfl
    | true =>
      have hd : CALLD z 129 [vI (s : Int), vI (c : Int)] h g = some (some (vI 1), h, g) := by
        have := hasD (z := z) hs (by omega : c < 8) (h := h) (g := g)
        rw [hh] at this
        exact this
      obtain ⟨v, h1, c1, c2, c3, c4, c5, c6⟩ := ctD hz hB hg (by omega : c < 8) (by omega : b < 8)
      have hF1 := FR0.tr hF c5
      by_cases hv : v = 0
      · obtain ⟨v', h', k1, k2⟩ := ih (c + 1) on h1 (by omega) c4 hF1 ho hG
        refine ⟨v', h', ?_, k2⟩
        refine Eq.trans ?_ k1
        refine (stD (pc := 5) dz147_5 rfl).trans ?_
        refine (stD (pc := 7) dz147_7 rfl).trans ?_
        refine (stD (pc := 8) dz147_8 (gfg hm147 hg)).trans ?_
        refine (stD (pc := 11) dz147_11 rfl).trans ?_
        refine (stD (pc := 12) dz147_12 (ialC hg)).trans ?_
        refine (stD (pc := 13) dz147_13 (jcD false (by decide) (hlt))).trans ?_
        refine (stD (pc := 16) dz147_16 rfl).trans ?_
        refine (stD (pc := 17) dz147_17 rfl).trans ?_
        refine (stD (pc := 18) dz147_18 rfl).trans ?_
        refine (clD (pc := 20) dz147_20 (csD (by decide +kernel : okC 147 79 1 129 2 40 = true) (by decide +kernel) rfl rfl rfl) (hd)).trans ?_
        refine (stD (pc := 23) dz147_23 (j0D false (by decide) (by unfold ccmp; decide +kernel))).trans ?_
        refine (stD (pc := 26) dz147_26 rfl).trans ?_
        refine (stD (pc := 27) dz147_27 rfl).trans ?_
        refine (stD (pc := 29) dz147_29 rfl).trans ?_
        refine (clD (pc := 30) dz147_30 (cvD (by decide +kernel : okC 147 101 0 148 3 56 = true) hm147 hg rfl rfl rfl rfl) (c1)).trans ?_
        refine (stD (pc := 33) dz147_33 (j0D true (by decide) (by rw [hv]; decide +kernel))).trans ?_
        refine (stD (pc := 43) dz147_43 rfl).trans ?_
        refine (stD (pc := 44) dz147_44 rfl).trans ?_
        rw [o0]
        refine (stD (pc := 45) dz147_45 rfl).trans ?_
        refine (stD (pc := 46) dz147_46 rfl).trans ?_
        refine (stD (pc := 49) dz147_49 rfl).trans ?_
        rfl
      · have hgd : onZ h0 c b := by
          have k := c6 hv
          unfold onZ at k ⊢
          rw [FR0 hF (by decide) (by decide), FR0 hF (by decide) (by decide), FR0 hF (by decide) (by decide)] at k
          exact k
        obtain ⟨v', h', k1, k2⟩ := ih (c + 1) (orB on c) h1 (by omega) c4 hF1 o1.2 (fun d hd7 hd => by
          rcases or_h ⟨on, ho⟩ ⟨c, by omega⟩ ⟨d, hd7⟩ hd with q | q
          · exact hG d hd7 q
          · have q : d = c := q
            rw [q]
            exact ⟨by omega, hgd⟩)
        refine ⟨v', h', ?_, k2⟩
        refine Eq.trans ?_ k1
        refine (stD (pc := 5) dz147_5 rfl).trans ?_
        refine (stD (pc := 7) dz147_7 rfl).trans ?_
        refine (stD (pc := 8) dz147_8 (gfg hm147 hg)).trans ?_
        refine (stD (pc := 11) dz147_11 rfl).trans ?_
        refine (stD (pc := 12) dz147_12 (ialC hg)).trans ?_
        refine (stD (pc := 13) dz147_13 (jcD false (by decide) (hlt))).trans ?_
        refine (stD (pc := 16) dz147_16 rfl).trans ?_
        refine (stD (pc := 17) dz147_17 rfl).trans ?_
        refine (stD (pc := 18) dz147_18 rfl).trans ?_
        refine (clD (pc := 20) dz147_20 (csD (by decide +kernel : okC 147 79 1 129 2 40 = true) (by decide +kernel) rfl rfl rfl) (hd)).trans ?_
        refine (stD (pc := 23) dz147_23 (j0D false (by decide) (by unfold ccmp; decide +kernel))).trans ?_
        refine (stD (pc := 26) dz147_26 rfl).trans ?_
        refine (stD (pc := 27) dz147_27 rfl).trans ?_
        refine (stD (pc := 29) dz147_29 rfl).trans ?_
        refine (clD (pc := 30) dz147_30 (cvD (by decide +kernel : okC 147 101 0 148 3 56 = true) hm147 hg rfl rfl rfl rfl) (c1)).trans ?_
        refine (stD (pc := 33) dz147_33 (j0D false (by decide) (ccle_f (by rw [w320, e_small (by omega) (by omega)]; omega)))).trans ?_
        refine (stD (pc := 36) dz147_36 rfl).trans ?_
        refine (stD (pc := 37) dz147_37 rfl).trans ?_
        refine (stD (pc := 39) dz147_39 rfl).trans ?_
        refine (stD (pc := 40) dz147_40 rfl).trans ?_
        refine (stD (pc := 44) dz147_44 rfl).trans ?_
        rw [o1.1]
        refine (stD (pc := 45) dz147_45 rfl).trans ?_
        refine (stD (pc := 46) dz147_46 rfl).trans ?_
        refine (stD (pc := 49) dz147_49 rfl).trans ?_
        rfl
theorem roD {z : Int → Int} (hz : zOK z) {h0 : PH} {g : PG} (hB : BI h0) (hg : gInv g) {n : Nat} (hn : n ≤ 7) (hc : h0 214 0 = (n : Int)) {b s : Nat} (hb : b < 7) (hs : s < 128) :
    ∃ (v : Nat) (h' : PH), CALLD z 147 [vR 213, vI (b : Int), vI (s : Int)] h0 g = some (some (vI (v : Int)), h', g) ∧ v < 128 ∧ BI h' ∧ FR [] h0 h' ∧ (∀ d : Nat, d < 7 → hasB v d = true → d < n ∧ onZ h0 d b) := by
  have hL : mL 147 = 5 := by decide +kernel
  have h00 : ∀ d : Fin 7, hasB 0 d.val = false := by decide +kernel
  obtain ⟨v, h', k1, k2⟩ := ro_loop hz hg hn hc hb hs n 0 0 h0 (by omega) hB FR.rf (by omega) (fun d hd7 hd => by rw [h00 ⟨d, hd7⟩] at hd; cases hd)
  refine ⟨v, h', ?_, k2⟩
  refine caD (l0 := [some (vR 213), some (vI (b : Int)), some (vI (s : Int)), none, none]) (by unfold entryL; rw [hL]; rfl) ?_
  refine Eq.trans ?_ k1
  refine (stD (pc := 0) dz147_0 rfl).trans ?_
  refine (stD (pc := 1) dz147_1 rfl).trans ?_
  refine (stD (pc := 2) dz147_2 rfl).trans ?_
  refine (stD (pc := 3) dz147_3 rfl).trans ?_
  rfl
/-- none, or one that lies on it -/
def cauG (h0 : PH) (n b : Nat) (v : Int) : Prop := v = -1 ∨ ∃ c : Nat, v = (c : Int) ∧ c < n ∧ onZ h0 c b
theorem al217 : alen 217 = 64 := by decide +kernel
theorem ix8 {c b : Nat} (hc : c < 7) (hb : b < 7) : w32 (8 * (c : Int) + (b : Int)) = 8 * (c : Int) + (b : Int) := e_small (by omega) (by omega)
theorem ca_loop {z : Int → Int} (hz : zOK z) {h0 : PH} {g : PG} (hg : gInv g) {n : Nat} (hn : n ≤ 7) (hc : h0 214 0 = (n : Int)) {all : Nat} (ha : all < 128) (hA : andI (shlI 1 (h0 214 0) - 1) (xorI (h0 214 1) (-1)) = (all : Int)) (hp : ∀ k : Int, 0 ≤ k → k < 64 → h0 (217 + 4096) k = 1) {b : Nat} (hb : b < 7) :
    ∀ (k c : Nat) (is : Int) (h : PH), c + k = n → BI h → FR [] h0 h → cauG h0 n b is →
    ∃ (v : Int) (h' : PH), XCD z 179 (4, [some (vR 213), some (vI (b : Int)), some (vI is), some (vI (c : Int))], [], h, g) = some (some (vI v), h', g) ∧ BI h' ∧ FR [] h0 h' ∧ cauG h0 n b v := by
  intro k
  induction k with
  | zero =>
    intro c is h hk hB hF hG
    have e0 : h 214 0 = (n : Int) := (FR0 hF (by decide) (by decide)).trans hc
    have hge : ccmp .ge (c : Int) (h 214 0) = true := ccge_t (by rw [e0, w32n (by omega), w32n (by omega)]; omega)
    refine ⟨is, h, ?_, hB, hF, hG⟩
    refine (stD (pc := 4) dz179_4 rfl).trans ?_
    refine (stD (pc := 5) dz179_5 rfl).trans ?_
    refine (stD (pc := 6) dz179_6 (gfg hm179 hg)).trans ?_
    refine (stD (pc := 9) dz179_9 rfl).trans ?_
    refine (stD (pc := 10) dz179_10 (ialC hg)).trans ?_
    refine (stD (pc := 11) dz179_11 (jcD true (by decide) (hge))).trans ?_
    refine (stD (pc := 70) dz179_70 rfl).trans ?_
    exact rtD (pc := 71) dz179_71 (rtI (by decide +kernel))
  | succ k ih =>
    intro c is h hk hB hF hG
    have e0 : h 214 0 = (n : Int) := (FR0 hF (by decide) (by decide)).trans hc
    have hlt : ccmp .ge (c : Int) (h 214 0) = false := ccge_f (by rw [e0, w32n (by omega), w32n (by omega)]; omega)
    have ht : CALLD z 128 [vR 213] h g = some (some (vI (all : Int)), h, g) := by
      rw [thereD hg, FR0 hF (by decide) (by decide), FR0 hF (by decide) (by decide), hA]
    obtain ⟨v, h1, r1, r2, r3, r4, r5⟩ := roD hz hB hg hn e0 hb ha
    have hF1 := FR0.tr hF r4
    have hfl : ∀ k : Int, 0 ≤ k → k < 64 → rdk h1 217 k = true := fun k k0 k1 => rd_fl (hF1.2 217 k (by decide) (hp k k0 k1))
    have hd := hasD (z := z) r2 (by omega : c < 8) (h := h1) (g := g)
    cases hh : hasB v c with
    | false =>
      rw [hh] at hd
      obtain ⟨v', h', k1, k2⟩ := ih (c + 1) is h1 (by omega) r3 hF1 hG
      refine ⟨v', h', ?_, k2⟩
      refine Eq.trans ?_ k1
      refine (stD (pc := 4) dz179_4 rfl).trans ?_
      refine (stD (pc := 5) dz179_5 rfl).trans ?_
      refine (stD (pc := 6) dz179_6 (gfg hm179 hg)).trans ?_
      refine (stD (pc := 9) dz179_9 rfl).trans ?_
      refine (stD (pc := 10) dz179_10 (ialC hg)).trans ?_
      refine (stD (pc := 11) dz179_11 (jcD false (by decide) (hlt))).trans ?_
      refine (stD (pc := 14) dz179_14 rfl).trans ?_
      refine (stD (pc := 15) dz179_15 rfl).trans ?_
      refine (stD (pc := 16) dz179_16 rfl).trans ?_
      refine (clD (pc := 17) dz179_17 (cvD (by decide +kernel : okC 179 75 0 128 1 24 = true) hm179 hg rfl rfl rfl rfl) (ht)).trans ?_
      refine (clD (pc := 20) dz179_20 (cvD (by decide +kernel : okC 179 187 0 147 3 88 = true) hm179 hg rfl rfl rfl rfl) (r1)).trans ?_
      refine (stD (pc := 23) dz179_23 rfl).trans ?_
      refine (clD (pc := 24) dz179_24 (csD (by decide +kernel : okC 179 79 1 129 2 40 = true) (by decide +kernel) rfl rfl rfl) (hd)).trans ?_
      refine (stD (pc := 27) dz179_27 (j0D false (by decide) (by unfold ccmp; decide +kernel))).trans ?_
      refine (stD (pc := 30) dz179_30 rfl).trans ?_
      refine (stD (pc := 64) dz179_64 rfl).trans ?_
      refine (stD (pc := 67) dz179_67 rfl).trans ?_
      rfl
    | true =>
      rw [hh] at hd
      have hgd : onZ h0 c b := by
        have k := (r5 c (by omega) hh).2
        unfold onZ at k ⊢
        rw [FR0 hF (by decide) (by decide), FR0 hF (by decide) (by decide), FR0 hF (by decide) (by decide)] at k
        exact k
      obtain ⟨v', h', k1, k2⟩ := ih (c + 1) (c : Int) h1 (by omega) r3 hF1 (Or.inr ⟨c, rfl, by omega, hgd⟩)
      obtain ⟨v2, h2, l1, l2⟩ := ih (c + 1) is h1 (by omega) r3 hF1 hG
      rcases hG with hm | ⟨c', m1, m2, m3⟩
      · refine ⟨v', h', ?_, k2⟩
        refine Eq.trans ?_ k1
        refine (stD (pc := 4) dz179_4 rfl).trans ?_
        refine (stD (pc := 5) dz179_5 rfl).trans ?_
        refine (stD (pc := 6) dz179_6 (gfg hm179 hg)).trans ?_
        refine (stD (pc := 9) dz179_9 rfl).trans ?_
        refine (stD (pc := 10) dz179_10 (ialC hg)).trans ?_
        refine (stD (pc := 11) dz179_11 (jcD false (by decide) (hlt))).trans ?_
        refine (stD (pc := 14) dz179_14 rfl).trans ?_
        refine (stD (pc := 15) dz179_15 rfl).trans ?_
        refine (stD (pc := 16) dz179_16 rfl).trans ?_
        refine (clD (pc := 17) dz179_17 (cvD (by decide +kernel : okC 179 75 0 128 1 24 = true) hm179 hg rfl rfl rfl rfl) (ht)).trans ?_
        refine (clD (pc := 20) dz179_20 (cvD (by decide +kernel : okC 179 187 0 147 3 88 = true) hm179 hg rfl rfl rfl rfl) (r1)).trans ?_
        refine (stD (pc := 23) dz179_23 rfl).trans ?_
        refine (clD (pc := 24) dz179_24 (csD (by decide +kernel : okC 179 79 1 129 2 40 = true) (by decide +kernel) rfl rfl rfl) (hd)).trans ?_
        refine (stD (pc := 27) dz179_27 (j0D true (by decide) (by unfold ccmp; decide +kernel))).trans ?_
        refine (stD (pc := 33) dz179_33 rfl).trans ?_
        refine (stD (pc := 34) dz179_34 (j0D true (by decide) (by rw [hm]; decide +kernel))).trans ?_
        refine (stD (pc := 62) dz179_62 rfl).trans ?_
        refine (stD (pc := 63) dz179_63 rfl).trans ?_
        refine (stD (pc := 64) dz179_64 rfl).trans ?_
        refine (stD (pc := 67) dz179_67 rfl).trans ?_
        rfl
      · subst m1
        have hnl : ccmp .lt (c' : Int) 0 = false := cclt_f (by rw [w320, w32n (by omega)]; omega)
        cases hq : ccmp .le (h1 217 (8 * (c : Int) + (b : Int))) (h1 217 (8 * (c' : Int) + (b : Int))) with
        | true =>
          refine ⟨v2, h2, ?_, l2⟩
          refine Eq.trans ?_ l1
          refine (stD (pc := 4) dz179_4 rfl).trans ?_
          refine (stD (pc := 5) dz179_5 rfl).trans ?_
          refine (stD (pc := 6) dz179_6 (gfg hm179 hg)).trans ?_
          refine (stD (pc := 9) dz179_9 rfl).trans ?_
          refine (stD (pc := 10) dz179_10 (ialC hg)).trans ?_
          refine (stD (pc := 11) dz179_11 (jcD false (by decide) (hlt))).trans ?_
          refine (stD (pc := 14) dz179_14 rfl).trans ?_
          refine (stD (pc := 15) dz179_15 rfl).trans ?_
          refine (stD (pc := 16) dz179_16 rfl).trans ?_
          refine (clD (pc := 17) dz179_17 (cvD (by decide +kernel : okC 179 75 0 128 1 24 = true) hm179 hg rfl rfl rfl rfl) (ht)).trans ?_
          refine (clD (pc := 20) dz179_20 (cvD (by decide +kernel : okC 179 187 0 147 3 88 = true) hm179 hg rfl rfl rfl rfl) (r1)).trans ?_
          refine (stD (pc := 23) dz179_23 rfl).trans ?_
          refine (clD (pc := 24) dz179_24 (csD (by decide +kernel : okC 179 79 1 129 2 40 = true) (by decide +kernel) rfl rfl rfl) (hd)).trans ?_
          refine (stD (pc := 27) dz179_27 (j0D true (by decide) (by unfold ccmp; decide +kernel))).trans ?_
          refine (stD (pc := 33) dz179_33 rfl).trans ?_
          refine (stD (pc := 34) dz179_34 (j0D false (by decide) (hnl))).trans ?_
          refine (stD (pc := 37) dz179_37 rfl).trans ?_
          refine (stD (pc := 38) dz179_38 (gfparts hm179 hg)).trans ?_
          refine (stD (pc := 41) dz179_41 rfl).trans ?_
          refine (stD (pc := 43) dz179_43 rfl).trans ?_
          refine (stD (pc := 44) dz179_44 rfl).trans ?_
          refine (stD (pc := 45) dz179_45 rfl).trans ?_
          refine (stD (pc := 46) dz179_46 rfl).trans ?_
          refine (stD (pc := 47) dz179_47 (ialR hg (by decide +kernel) (ix8 (by omega) hb) (by omega) (by rw [al217]; omega) (hfl _ (by omega) (by omega)))).trans ?_
          refine (stD (pc := 48) dz179_48 rfl).trans ?_
          refine (stD (pc := 49) dz179_49 (gfparts hm179 hg)).trans ?_
          refine (stD (pc := 52) dz179_52 rfl).trans ?_
          refine (stD (pc := 54) dz179_54 rfl).trans ?_
          refine (stD (pc := 55) dz179_55 rfl).trans ?_
          refine (stD (pc := 56) dz179_56 rfl).trans ?_
          refine (stD (pc := 57) dz179_57 rfl).trans ?_
          refine (stD (pc := 58) dz179_58 (ialR hg (by decide +kernel) (ix8 (by omega) hb) (by omega) (by rw [al217]; omega) (hfl _ (by omega) (by omega)))).trans ?_
          refine (stD (pc := 59) dz179_59 (jcD true (by decide) (hq))).trans ?_
          refine (stD (pc := 64) dz179_64 rfl).trans ?_
          refine (stD (pc := 67) dz179_67 rfl).trans ?_
          rfl
        | false =>
          refine ⟨v', h', ?_, k2⟩
          refine Eq.trans ?_ k1
          refine (stD (pc := 4) dz179_4 rfl).trans ?_
          refine (stD (pc := 5) dz179_5 rfl).trans ?_
          refine (stD (pc := 6) dz179_6 (gfg hm179 hg)).trans ?_
          refine (stD (pc := 9) dz179_9 rfl).trans ?_
          refine (stD (pc := 10) dz179_10 (ialC hg)).trans ?_
          refine (stD (pc := 11) dz179_11 (jcD false (by decide) (hlt))).trans ?_
          refine (stD (pc := 14) dz179_14 rfl).trans ?_
          refine (stD (pc := 15) dz179_15 rfl).trans ?_
          refine (stD (pc := 16) dz179_16 rfl).trans ?_
          refine (clD (pc := 17) dz179_17 (cvD (by decide +kernel : okC 179 75 0 128 1 24 = true) hm179 hg rfl rfl rfl rfl) (ht)).trans ?_
          refine (clD (pc := 20) dz179_20 (cvD (by decide +kernel : okC 179 187 0 147 3 88 = true) hm179 hg rfl rfl rfl rfl) (r1)).trans ?_
          refine (stD (pc := 23) dz179_23 rfl).trans ?_
          refine (clD (pc := 24) dz179_24 (csD (by decide +kernel : okC 179 79 1 129 2 40 = true) (by decide +kernel) rfl rfl rfl) (hd)).trans ?_
          refine (stD (pc := 27) dz179_27 (j0D true (by decide) (by unfold ccmp; decide +kernel))).trans ?_
          refine (stD (pc := 33) dz179_33 rfl).trans ?_
          refine (stD (pc := 34) dz179_34 (j0D false (by decide) (hnl))).trans ?_
          refine (stD (pc := 37) dz179_37 rfl).trans ?_
          refine (stD (pc := 38) dz179_38 (gfparts hm179 hg)).trans ?_
          refine (stD (pc := 41) dz179_41 rfl).trans ?_
          refine (stD (pc := 43) dz179_43 rfl).trans ?_
          refine (stD (pc := 44) dz179_44 rfl).trans ?_
          refine (stD (pc := 45) dz179_45 rfl).trans ?_
          refine (stD (pc := 46) dz179_46 rfl).trans ?_
          refine (stD (pc := 47) dz179_47 (ialR hg (by decide +kernel) (ix8 (by omega) hb) (by omega) (by rw [al217]; omega) (hfl _ (by omega) (by omega)))).trans ?_
          refine (stD (pc := 48) dz179_48 rfl).trans ?_
          refine (stD (pc := 49) dz179_49 (gfparts hm179 hg)).trans ?_
          refine (stD (pc := 52) dz179_52 rfl).trans ?_
          refine (stD (pc := 54) dz179_54 rfl).trans ?_
          refine (stD (pc := 55) dz179_55 rfl).trans ?_
          refine (stD (pc := 56) dz179_56 rfl).trans ?_
          refine (stD (pc := 57) dz179_57 rfl).trans ?_
          refine (stD (pc := 58) dz179_58 (ialR hg (by decide +kernel) (ix8 (by omega) hb) (by omega) (by rw [al217]; omega) (hfl _ (by omega) (by omega)))).trans ?_
          refine (stD (pc := 59) dz179_59 (jcD false (by decide) (hq))).trans ?_
          refine (stD (pc := 62) dz179_62 rfl).trans ?_
          refine (stD (pc := 63) dz179_63 rfl).trans ?_
          refine (stD (pc := 64) dz179_64 rfl).trans ?_
          refine (stD (pc := 67) dz179_67 rfl).trans ?_
          rfl
theorem caD2 {z : Int → Int} (hz : zOK z) {h0 : PH} {g : PG} (hB : BI h0) (hg : gInv g) {n : Nat} (hn : n ≤ 7) (hc : h0 214 0 = (n : Int)) {all : Nat} (ha : all < 128) (hA : andI (shlI 1 (h0 214 0) - 1) (xorI (h0 214 1) (-1)) = (all : Int)) (hp : ∀ k : Int, 0 ≤ k → k < 64 → h0 (217 + 4096) k = 1) {b : Nat} (hb : b < 7) :
    ∃ (v : Int) (h' : PH), CALLD z 179 [vR 213, vI (b : Int)] h0 g = some (some (vI v), h', g) ∧ BI h' ∧ FR [] h0 h' ∧ cauG h0 n b v := by
  have hL : mL 179 = 4 := by decide +kernel
  obtain ⟨v, h', k1, k2⟩ := ca_loop hz hg hn hc ha hA hp hb n 0 (-1) h0 (by omega) hB FR.rf (Or.inl rfl)
  refine ⟨v, h', ?_, k2⟩
  refine caD (l0 := [some (vR 213), some (vI (b : Int)), none, none]) (by unfold entryL; rw [hL]; rfl) ?_
  refine Eq.trans ?_ k1
  refine (stD (pc := 0) dz179_0 rfl).trans ?_
  refine (stD (pc := 1) dz179_1 rfl).trans ?_
  refine (stD (pc := 2) dz179_2 rfl).trans ?_
  refine (stD (pc := 3) dz179_3 rfl).trans ?_
  rfl
