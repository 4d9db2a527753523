/-! ===== order, film, fails ===== -/
def kc_or : Con := (184, [(2, none, 213, 0, 1), (0, (some ((-2147483648), 2147483647)), 0, 0, 0)], [], [], [], [(213, 9, 14), (216, 0, 7), (217, 0, 63), (218, 0, 31), (219, 0, 31), (220, 0, 63), (221, 0, 63), (213, 17, 17), (222, 0, 127), (223, 0, 7)], [((some (0, none)), [], [], [])])
def kc_fi : Con := (205, [(2, none, 213, 0, 1), (0, (some ((-2147483648), 2147483647)), 0, 0, 0)], [], [], [], [(213, 9, 14), (216, 0, 7), (217, 0, 63), (218, 0, 31), (219, 0, 31), (220, 0, 63), (221, 0, 63), (213, 17, 17), (222, 0, 127), (223, 0, 7), (228, 0, 3), (229, 0, 3), (230, 0, 159)], [((some (0, none)), [], [], [])])
def kc_fa : Con := (177, [(2, none, 213, 0, 1), (0, (some ((-2147483648), 2147483647)), 0, 0, 0)], [], [], [], [(213, 9, 14), (216, 0, 7), (217, 0, 63), (218, 0, 31), (219, 0, 31), (220, 0, 63), (221, 0, 63)], [((some (0, none)), [], [], [])])
def FlR : List (Nat × Ln) := [(65536 + 222 * 256, ([], 128)), (65536 + 223 * 256, ([], 8)), (65536 + 213 * 256 + 17, ([], 1))]
theorem FlR_ok {h : PH} {V : Nat → Int} (hf : FlW h) : ∀ q ∈ FlR, regOK h q.1 (lnC [] h n0 V 0 q.2) := by
  intro q hq
  rcases List.mem_cons.mp hq with rfl | hq
  · exact ⟨by decide, fun j (j0 : (0 : Int) ≤ j) (j1 : j < 0 + 128) => hf.1 j j0 (by omega)⟩
  rcases List.mem_cons.mp hq with rfl | hq
  · exact ⟨by decide, fun j (j0 : (0 : Int) ≤ j) (j1 : j < 0 + 8) => hf.2.1 j j0 (by omega)⟩
  rcases List.mem_cons.mp hq with rfl | hq
  · exact ⟨by decide, fun j (j0 : (17 : Int) ≤ j) (j1 : j < 17 + 1) => by
      have e : j = 17 := by omega
      rw [e]
      exact hf.2.2⟩
  cases hq
theorem con_drop {z : Int → Int} {m : Nat} {as : List ArgT} {W : WrT} {L : List AltT} (hc : conOK z (m, as, [], [], FlR, W, L)) (hW : goodL W = true) : conI RF z (m, as, [], [], [], W, L) := by
  intro avs V1 V2 h g h1 h2 hB hR hg hf hr
  obtain ⟨v, h', g', r1, r2, r3, r4, r5⟩ := hc avs V1 V2 h g h1 h2 hB hg hf (FlR_ok hR.2)
  exact ⟨v, h', g', r1, r2, RF_fr hW r3 hR, r3, r4, r5⟩
def kc_orF : Con := (kc_or.1, kc_or.2.1, [], [], FlR, kc_or.2.2.2.2.2.1, kc_or.2.2.2.2.2.2)
def kc_fiF : Con := (kc_fi.1, kc_fi.2.1, [], [], FlR, kc_fi.2.2.2.2.2.1, kc_fi.2.2.2.2.2.2)
set_option maxRecDepth 1000000 in
theorem kk_or : chkC [kc_11, kc_100, kc_line] (mkT []) 3000 kc_orF = true := by decide +kernel
set_option maxRecDepth 1000000 in
theorem kk_fi : chkC [kc_11, kc_100, kc_line] (mkT []) 3000 kc_fiF = true := by decide +kernel
theorem K3_ok {z : Int → Int} (hz : zOK z) : ∀ c ∈ [kc_11, kc_100, kc_line], conOK z c := List.forall_mem_cons.mpr ⟨ko_11 hz, List.forall_mem_cons.mpr ⟨ko_100 hz, List.forall_mem_cons.mpr ⟨ko_line hz, fun _ h => absurd h List.not_mem_nil⟩⟩⟩
theorem ki_or {z : Int → Int} (hz : zOK z) : conI RF z kc_or := con_drop (chk_ok hz (K3_ok hz) kk_or) (by decide +kernel)
theorem ki_fi {z : Int → Int} (hz : zOK z) : conI RF z kc_fi := con_drop (chk_ok hz (K3_ok hz) kk_fi) (by decide +kernel)
/-! fails -/
def kc_fo : Con := (178, [(0, (some (0, 127)), 0, 0, 0)], [], [], [], [], [((some (0, (some (-1, 6)))), [], [], [])])
set_option maxRecDepth 1000000 in
theorem kk_fo : chkS [] (mkT []) 3000 0 kc_fo = true := by decide +kernel
theorem ko_fo {z : Int → Int} (hz : zOK z) : conOK z kc_fo := chkS_ok hz (K := []) (fun _ h => absurd h List.not_mem_nil) kk_fo
theorem ff_any {z : Int → Int} (hz : zOK z) {h : PH} {g : PG} (hB : BI h) (hg : gInv g) (hR : RR h) (hp : ∀ k : Int, 0 ≤ k → k < 64 → h (217 + 4096) k = 1) {wh fa nn ro c : Int} (c0 : -1 ≤ c) (c6 : c ≤ 6) :
    ∃ (v : Int) (h' : PH), XCD z 177 (112, [some (vR 213), some (vI wh), some (vI fa), some (vI nn), some (vI ro), some (vI c)], [], h, g) = some (some (vI v), h', g) ∧ BI h' ∧ FR [] h h' := by
  by_cases hm : c = -1
  · rw [hm]
    obtain ⟨v, hv⟩ := ff_end (z := z) (h := h) (g := g) (wh := wh) (fa := fa) (nn := nn) (ro := ro)
    exact ⟨v, h, hv, hB, FR.rf⟩
  · have hcb : (0 : Int) ≤ h 214 0 ∧ h 214 0 ≤ 7 := hB 214 (by decide) (0, 0, 0, 7) (by decide +kernel) 0 (by decide) (by decide)
    obtain ⟨all, ha, hA⟩ := th_rng hz hB hg
    obtain ⟨v, h1, r1, r2, r3, r4⟩ := caD2 hz hB hg (n := (h 214 0).toNat) (by omega) (by omega) ha hA hp (b := c.toNat) (by omega)
    rw [show ((c.toNat : Nat) : Int) = c from by omega] at r1
    have hnl : ccmp .lt c 0 = false := cclt_f (by rw [w320, e_small (by omega) (by omega)]; omega)
    rcases r4 with rfl | ⟨c', rfl, m2, m3⟩
    · obtain ⟨v, hv⟩ := ff_end (z := z) (h := h1) (g := g) (wh := wh) (fa := fa) (nn := nn + 1) (ro := c)
      refine ⟨v, h1, ?_, r2, r3⟩
      refine Eq.trans ?_ hv
      refine (stD (pc := 112) dz177_112 rfl).trans ?_
      refine (stD (pc := 114) dz177_114 (j0D false (by decide) (hnl))).trans ?_
      refine (stD (pc := 117) dz177_117 rfl).trans ?_
      refine (stD (pc := 119) dz177_119 rfl).trans ?_
      refine (stD (pc := 121) dz177_121 rfl).trans ?_
      refine (stD (pc := 124) dz177_124 rfl).trans ?_
      refine (stD (pc := 125) dz177_125 rfl).trans ?_
      refine (clD (pc := 127) dz177_127 (cvD (by decide +kernel : okC 177 235 0 179 2 72 = true) hm177 hg rfl rfl rfl rfl) (r1)).trans ?_
      refine (stD (pc := 130) dz177_130 rfl).trans ?_
      refine (stD (pc := 132) dz177_132 rfl).trans ?_
      rfl
    · have hu : upB h (h 214 (34 + (c' : Int))) c' = 0 := by
        unfold upB
        rw [Int.sub_self]
        rfl
      obtain ⟨v, h', k1, k2, k3⟩ := ff_loop hz hB hg (n := (h 214 0).toNat) (by omega) (by omega) (fun a han => ⟨(hR 214 (Or.inl rfl) a (by omega) (by omega)).1, (show (0 : Int) ≤ h 214 (58 + (a : Int)) ∧ h 214 (58 + (a : Int)) ≤ 4 from hB 214 (by decide) (42, 65, 0, 4) (by decide +kernel) (58 + (a : Int)) (by simp only; omega) (by simp only; omega)).2⟩) hp (wh := wh) (fa := fa) (base := h 214 (34 + (c' : Int))) 7 c' (nn + 1) c h1 m2 r2 r3 (by rw [hu]; omega) (by omega)
      refine ⟨v, h', ?_, k2, k3⟩
      refine Eq.trans ?_ k1
      refine (stD (pc := 112) dz177_112 rfl).trans ?_
      refine (stD (pc := 114) dz177_114 (j0D false (by decide) (hnl))).trans ?_
      refine (stD (pc := 117) dz177_117 rfl).trans ?_
      refine (stD (pc := 119) dz177_119 rfl).trans ?_
      refine (stD (pc := 121) dz177_121 rfl).trans ?_
      refine (stD (pc := 124) dz177_124 rfl).trans ?_
      refine (stD (pc := 125) dz177_125 rfl).trans ?_
      refine (clD (pc := 127) dz177_127 (cvD (by decide +kernel : okC 177 235 0 179 2 72 = true) hm177 hg rfl rfl rfl rfl) (r1)).trans ?_
      refine (stD (pc := 130) dz177_130 rfl).trans ?_
      refine (stD (pc := 132) dz177_132 rfl).trans ?_
      rfl
def csF (C : Cx) (p : AP) (v : Int) : Bool := match cst C p with
  | some c => eqZ c v
  | none => false
theorem csF_ok {σ : Nat → Int} {C : Cx} (hC : satC σ C) {p : AP} {v : Int} (h : csF C p v = true) : ev σ p = v := by
  unfold csF at h
  split at h
  · rename_i c hc
    exact (cst_ok hC hc).trans (eqZ_iff.mp h)
  · cases h
def oc6 (B : AS) : Bool := match B.2.2.1 with
  | [.inr (.inr (.inr p0)), .inr (.inl _), .inr (.inl _), .inr (.inl _), .inr (.inl _), .inr (.inl p5)] => csF B.1 p0 213 && inS B.1 p5 (some (-1, 6))
  | _ => false
def oc7 (B : AS) : Bool := match lkp B.2.2.2.2 (65536 + 217 * 256) with
  | some p => geS B.1 p 64
  | none => false
def okFa (o : Oc) : Bool := match o with
  | .inr r => altM (enVs 0 2) r ((some (0, none)), [], [], [])
  | .inl B => Nat.beq B.2.1 112 && (Nat.beq B.2.2.2.1.length 0 && (oc6 B && oc7 B))
def fa1 : Bool := match entT kc_fa, pTm 177 with
  | some A, some t => (match runT (PW kc_fa.2.2.2.2.2.1) none [kc_11, kc_98, kc_fo, kc_ca] kc_fa.2.2.2.2.2.1 (mkT []) 3000 177 t [112] false A with
    | some L => L.all okFa
    | none => false)
  | _, _ => false
set_option maxRecDepth 1000000 in
theorem fa1_ok : fa1 = true := by decide +kernel
theorem K4_ok {z : Int → Int} (hz : zOK z) : ∀ c ∈ [kc_11, kc_98, kc_fo, kc_ca], conOK z c := List.forall_mem_cons.mpr ⟨ko_11 hz, List.forall_mem_cons.mpr ⟨ko_98 hz, List.forall_mem_cons.mpr ⟨ko_fo hz, List.forall_mem_cons.mpr ⟨ko_ca hz, fun _ h => absurd h List.not_mem_nil⟩⟩⟩⟩
theorem l6_ok {σ : Nat → Int} {B : AS} {l : PL} (hC : satC σ B.1) (h : qLs σ (nV B.1) B.2.2.1 l) (e : oc6 B = true) : ∃ wh fa nn ro c : Int, l = [some (vR 213), some (vI wh), some (vI fa), some (vI nn), some (vI ro), some (vI c)] ∧ -1 ≤ c ∧ c ≤ 6 := by
  unfold oc6 at e
  split at e
  · rename_i p0 p1 p2 p3 p4 p5 hls
    rw [hls] at h
    have e := Bool.and_eq_true_iff.mp e
    match l, h with
    | [x0, x1, x2, x3, x4, x5], h =>
      obtain ⟨⟨y0, f0, z0⟩, ⟨y1, f1, z1⟩, ⟨y2, f2, z2⟩, ⟨y3, f3, z3⟩, ⟨y4, f4, z4⟩, ⟨y5, f5, z5⟩, _⟩ := h
      subst f0 f1 f2 f3 f4 f5
      match y0, y1, y2, y3, y4, y5, z0, z1, z2, z3, z4, z5 with
      | .inr (.inr w0), .inl w1, .inl w2, .inl w3, .inl w4, .inl w5, z0, z1, z2, z3, z4, z5 =>
        have z0 : okP σ (nV B.1) p0 w0 := z0
        have z5 : okP σ (nV B.1) p5 w5 := z5
        have k0 := csF_ok hC e.1
        have k5 := inS_ok hC e.2 (-1, 6) rfl
        rw [z0.2] at k0
        rw [z5.2] at k5
        exact ⟨w1, w2, w3, w4, w5, by rw [k0], k5.1, k5.2⟩
      | .inl _, _, _, _, _, _, z0, _, _, _, _, _ => exact z0.elim
      | .inr (.inl _), _, _, _, _, _, z0, _, _, _, _, _ => exact z0.elim
      | _, .inr _, _, _, _, _, _, z1, _, _, _, _ => exact z1.elim
      | _, _, .inr _, _, _, _, _, _, z2, _, _, _ => exact z2.elim
      | _, _, _, .inr _, _, _, _, _, _, z3, _, _ => exact z3.elim
      | _, _, _, _, .inr _, _, _, _, _, _, z4, _ => exact z4.elim
      | _, _, _, _, _, .inr _, _, _, _, _, _, z5 => exact z5.elim
    | [], h => exact h.elim
    | [_], h => exact h.2.elim
    | [_, _], h => exact h.2.2.elim
    | [_, _, _], h => exact h.2.2.2.elim
    | [_, _, _, _], h => exact h.2.2.2.2.elim
    | [_, _, _, _, _], h => exact h.2.2.2.2.2.elim
    | _ :: _ :: _ :: _ :: _ :: _ :: _ :: _, h => exact h.2.2.2.2.2.2.elim
  · cases e
theorem ki_fa {z : Int → Int} (hz : zOK z) : conI RF z kc_fa := by
  intro avs V1 V2 h g h1 h2 hB hR hg hf hr
  have e := fa1_ok
  have hgd : goodL kc_fa.2.2.2.2.2.1 = true := by decide +kernel
  unfold fa1 at e
  split at e
  · rename_i A t hA ht
    obtain ⟨en, l0, e1, e2⟩ := entT_ok (I := IW kc_fa.2.2.2.2.2.1 h) hz h1 h2 ⟨hB, FR.rf⟩ hg hf hr hA
    split at e
    · rename_i L hL
      obtain ⟨o, o1, σ', o2, o3⟩ := runT_ok [kc_11, kc_98, kc_fo, kc_ca] (K4_ok hz) (mkT []) 3000 177 t [112] false A L (pTm_ok ht) hL _ _ e2
      have k := List.all_eq_true.mp e o o1
      match o, o3, k with
      | .inr r, ⟨p1, v, h', g', p2, p3, p4⟩, k =>
        have hV : vOK σ' (nV r.1) (enVs 0 2) (V1 ++ V2) := by
          have n1 := args_len h1
          have n2 := pre_len h2
          have n1 : V1.length = 2 := n1
          have n2 : V2.length = 0 := n2
          have k0 := enVs_ok (σ := valF (V1 ++ V2)) (n := nV A.1) (V := V1 ++ V2) (i := 0) (fun j _ => by rw [Nat.zero_add]) (by rw [List.length_append, en]; show 0 + (V1.length + V2.length) ≤ 2 + 0; omega)
          rw [List.length_append, n1, n2] at k0
          exact k0.up p1 o2
        refine ⟨v, h', g', ?_, p4.2.2.1.1, RF_fr hgd p4.2.2.1.2 hR, p4.2.2.1.2, p4.2.2.2.1, _, List.mem_cons_self, altM_ok p4.1 p4.2.2.2.2 hV p3 k⟩
        unfold CALLD
        rw [e1]
        exact p2
      | .inl B, ⟨p1, c', p2, p3⟩, k =>
        obtain ⟨pc', l', s', h', g'⟩ := c'
        obtain ⟨q1, q2, q3, q4⟩ := p3
        have k : (Nat.beq B.2.1 112 && (Nat.beq B.2.2.2.1.length 0 && (oc6 B && oc7 B))) = true := k
        simp only [Bool.and_eq_true] at k
        obtain ⟨b1, b2, b3, b4⟩ := k
        have b1 := Nat.eq_of_beq_eq_true b1
        have b2 : B.2.2.2.1 = [] := List.length_eq_zero_iff.mp (Nat.eq_of_beq_eq_true b2)
        rw [b2] at q3
        have hs : s' = [] := qSs_n q3
        have hpc : pc' = 112 := q1.symm.trans b1
        obtain ⟨wh, fa, nn, ro, c, rfl, c1, c2⟩ := l6_ok q4.1 q2 b3
        have hpf : ∀ k : Int, 0 ≤ k → k < 64 → h' (217 + 4096) k = 1 := by
          unfold oc7 at b4
          split at b4
          · rename_i p hp
            have k1 := ((okN_reg (by decide)).mp (q4.2.2.2.2 _ (lkp_ok hp))).2.2
            have k2 := geS_ok q4.1 b4
            intro k k0 k3
            exact k1 k k0 (by show k < 0 + ev σ' p; omega)
          · cases b4
        have hR' := RF_fr hgd q4.2.2.1.2 hR
        obtain ⟨v, h2, r1, r2, r3⟩ := ff_any hz q4.2.2.1.1 q4.2.2.2.1 hR'.1 hpf (wh := wh) (fa := fa) (nn := nn) (ro := ro) c1 c2
        have hI2 : IW kc_fa.2.2.2.2.2.1 h h2 := IW_tr q4.2.2.1 r2 r3 (by decide +kernel)
        refine ⟨some (vI v), h2, g', ?_, r2, RF_fr hgd hI2.2 hR, hI2.2, q4.2.2.2.1, _, List.mem_cons_self, v, ⟨rfl, rfl, fun q hq => by cases hq⟩, (fun q hq => by cases hq), (fun q hq => by cases hq), (fun q hq => by cases hq)⟩
        unfold CALLD
        rw [e1]
        rw [hpc, hs] at p2
        exact p2.trans r1
    · cases e
  · cases e
