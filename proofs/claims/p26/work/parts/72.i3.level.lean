/-! ===== loadAll, centre ===== -/
theorem dz152_0 : decode (mC 152) 0 = .ok ((.iconst 0), 1) := by decide +kernel
theorem dz152_1 : decode (mC 152) 1 = .ok ((.istore_n 2), 1) := by decide +kernel
theorem dz152_2 : decode (mC 152) 2 = .ok ((.iload_n 2), 1) := by decide +kernel
theorem dz152_3 : decode (mC 152) 3 = .ok ((.bipush 64), 2) := by decide +kernel
theorem dz152_5 : decode (mC 152) 5 = .ok ((.if_icmp .ge 16), 3) := by decide +kernel
theorem dz152_8 : decode (mC 152) 8 = .ok ((.aload_n 0), 1) := by decide +kernel
theorem dz152_9 : decode (mC 152) 9 = .ok ((.getfield 21), 3) := by decide +kernel
theorem dz152_12 : decode (mC 152) 12 = .ok ((.iload_n 2), 1) := by decide +kernel
theorem dz152_13 : decode (mC 152) 13 = .ok ((.iconst 0), 1) := by decide +kernel
theorem dz152_14 : decode (mC 152) 14 = .ok (.iastore, 1) := by decide +kernel
theorem dz152_15 : decode (mC 152) 15 = .ok ((.iinc 2 1), 3) := by decide +kernel
theorem dz152_18 : decode (mC 152) 18 = .ok ((.goto (-16)), 3) := by decide +kernel
theorem dz152_21 : decode (mC 152) 21 = .ok ((.iconst 0), 1) := by decide +kernel
theorem dz152_22 : decode (mC 152) 22 = .ok ((.istore_n 2), 1) := by decide +kernel
theorem dz152_23 : decode (mC 152) 23 = .ok ((.iload_n 2), 1) := by decide +kernel
theorem dz152_24 : decode (mC 152) 24 = .ok ((.bipush 8), 2) := by decide +kernel
theorem dz152_26 : decode (mC 152) 26 = .ok ((.if_icmp .ge 16), 3) := by decide +kernel
theorem dz152_29 : decode (mC 152) 29 = .ok ((.aload_n 0), 1) := by decide +kernel
theorem dz152_30 : decode (mC 152) 30 = .ok ((.getfield 18), 3) := by decide +kernel
theorem dz152_33 : decode (mC 152) 33 = .ok ((.iload_n 2), 1) := by decide +kernel
theorem dz152_34 : decode (mC 152) 34 = .ok ((.iconst 0), 1) := by decide +kernel
theorem dz152_35 : decode (mC 152) 35 = .ok (.iastore, 1) := by decide +kernel
theorem dz152_36 : decode (mC 152) 36 = .ok ((.iinc 2 1), 3) := by decide +kernel
theorem dz152_39 : decode (mC 152) 39 = .ok ((.goto (-16)), 3) := by decide +kernel
theorem dz152_42 : decode (mC 152) 42 = .ok ((.bipush 12), 2) := by decide +kernel
theorem dz152_44 : decode (mC 152) 44 = .ok ((.istore_n 2), 1) := by decide +kernel
theorem dz152_45 : decode (mC 152) 45 = .ok ((.iload_n 2), 1) := by decide +kernel
theorem dz152_46 : decode (mC 152) 46 = .ok ((.ifCond .lt 54), 3) := by decide +kernel
theorem dz152_49 : decode (mC 152) 49 = .ok ((.iconst 0), 1) := by decide +kernel
theorem dz152_50 : decode (mC 152) 50 = .ok ((.istore_n 3), 1) := by decide +kernel
theorem dz152_94 : decode (mC 152) 94 = .ok ((.iinc 2 (-1)), 3) := by decide +kernel
theorem dz152_97 : decode (mC 152) 97 = .ok ((.goto (-52)), 3) := by decide +kernel
theorem dz152_100 : decode (mC 152) 100 = .ok (.return_, 1) := by decide +kernel
theorem la_out {z : Int → Int} (hz : zOK z) {h0 : PH} {g : PG} (hg : gInv g) {n : Nat} (hn : n ≤ 7) (hc : h0 214 0 = (n : Int)) {s : Nat} (hs : s < 128) : ∀ (k : Nat) (v : Int) (h : PH) (o : Option PV), v + 1 = (k : Int) → v ≤ 12 → IW Wh h0 h → FlS h → BB h (Bf (dnK h0 v 0)) →
    ∃ h', XCD z 152 (45, [some (vR 213), some (vI (s : Int)), some (vI v), o], [], h, g) = some (none, h', g) ∧ IW Wh h0 h' ∧ FlS h' ∧ BB h' 127127 := by
  intro k
  induction k with
  | zero =>
    intro v h o hk h12 hI hf hB
    have hv : v = -1 := by omega
    subst hv
    have ht := (Bf_t ⟨dnK h0 (-1) 0, dnK_7⟩ ⟨0, by decide⟩).1
    refine ⟨h, ?_, hI, hf, hB.mono ht.2⟩
    refine (stD (pc := 45) dz152_45 rfl).trans ?_
    refine (stD (pc := 46) dz152_46 (j0D true (by decide) (by decide +kernel))).trans ?_
    exact rtD (pc := 100) dz152_100 (rtV (by decide +kernel))
  | succ k ih =>
    intro v h o hk h12 hI hf hB
    have hv : w32 v = v := e_small (by omega) (by omega)
    have hnl : ccmp .lt v 0 = false := cclt_f (by rw [w320, hv]; omega)
    obtain ⟨h1, k1, k2, k3, k4⟩ := la_in hz hg hn hc hs hv n 0 h (by omega) hI hf hB
    obtain ⟨h2, l1, l2⟩ := ih (v + -1) h1 (some (vI (n : Int))) (by omega) (by omega) k2 k3 (k4.mono ((Bf_t ⟨dnK h0 v n, dnK_7⟩ ⟨dnK h0 (v + -1) 0, dnK_7⟩).2.1 dn_lv))
    refine ⟨h2, ?_, l2⟩
    refine Eq.trans ?_ l1
    refine (stD (pc := 45) dz152_45 rfl).trans ?_
    refine (stD (pc := 46) dz152_46 (j0D false (by decide) (hnl))).trans ?_
    refine (stD (pc := 49) dz152_49 rfl).trans ?_
    refine (stD (pc := 50) dz152_50 rfl).trans ?_
    refine k1.trans ?_
    refine (stD (pc := 94) dz152_94 rfl).trans ?_
    refine (stD (pc := 97) dz152_97 rfl).trans ?_
    rfl
theorem la_p {z : Int → Int} {h0 : PH} {g : PG} (hg : gInv g) {s : Int} {o : Option PV} : ∀ (k j : Nat) (h : PH), j + k = 64 → IW Wh h0 h → (∀ i : Int, 0 ≤ i → i < (j : Int) → h 217 i = 0 ∧ h (217 + 4096) i = 1) →
    ∃ h', XCD z 152 (2, [some (vR 213), some (vI s), some (vI (j : Int)), o], [], h, g) = XCD z 152 (23, [some (vR 213), some (vI s), some (vI 0), o], [], h', g) ∧ IW Wh h0 h' ∧ (∀ i : Int, 0 ≤ i → i < 64 → h' 217 i = 0 ∧ h' (217 + 4096) i = 1) := by
  intro k
  induction k with
  | zero =>
    intro j h hk hI hz0
    have hj : j = 64 := by omega
    subst hj
    refine ⟨h, ?_, hI, hz0⟩
    refine (stD (pc := 2) dz152_2 rfl).trans ?_
    refine (stD (pc := 3) dz152_3 rfl).trans ?_
    refine (stD (pc := 5) dz152_5 (jcD true (by decide) (by decide +kernel))).trans ?_
    refine (stD (pc := 21) dz152_21 rfl).trans ?_
    refine (stD (pc := 22) dz152_22 rfl).trans ?_
    rfl
  | succ k ih =>
    intro j h hk hI hz0
    have hlt : ccmp .ge (j : Int) 64 = false := ccge_f (by rw [w32n (by omega), show w32 64 = 64 from by decide +kernel]; omega)
    obtain ⟨h', k1, k2⟩ := ih (j + 1) (fl1 (u2 h 217 (j : Int) 0) 217 (j : Int)) (by omega) (wr7 hI (by omega) 0) (fun i i0 i1 => by
      by_cases hij : i = (j : Int)
      · rw [hij]
        exact ⟨by rw [rd_a (by decide) (by decide), if_pos rfl], fl_own⟩
      · have q := hz0 i i0 (by omega)
        exact ⟨by rw [rd_a (by decide) (by decide), if_neg hij]; exact q.1, fl_mono (b := 217) (by decide) (by decide) q.2⟩)
    refine ⟨h', ?_, k2⟩
    refine Eq.trans ?_ k1
    refine (stD (pc := 2) dz152_2 rfl).trans ?_
    refine (stD (pc := 3) dz152_3 rfl).trans ?_
    refine (stD (pc := 5) dz152_5 (jcD false (by decide) (hlt))).trans ?_
    refine (stD (pc := 8) dz152_8 rfl).trans ?_
    refine (stD (pc := 9) dz152_9 (gfparts hm152 hg)).trans ?_
    refine (stD (pc := 12) dz152_12 rfl).trans ?_
    refine (stD (pc := 13) dz152_13 rfl).trans ?_
    refine (stD (pc := 14) dz152_14 (iasR hg (by decide +kernel) (w32n (by omega)) (by omega) (by rw [al217]; omega))).trans ?_
    refine (stD (pc := 15) dz152_15 rfl).trans ?_
    refine (stD (pc := 18) dz152_18 rfl).trans ?_
    rfl
theorem la_l {z : Int → Int} {h0 : PH} {g : PG} (hg : gInv g) {s : Int} {o : Option PV} : ∀ (k j : Nat) (h : PH), j + k = 8 → IW Wh h0 h → (∀ i : Int, 0 ≤ i → i < 64 → h 217 i = 0 ∧ h (217 + 4096) i = 1) → (∀ i : Int, 0 ≤ i → i < (j : Int) → h 216 i = 0 ∧ h (216 + 4096) i = 1) →
    ∃ h', XCD z 152 (23, [some (vR 213), some (vI s), some (vI (j : Int)), o], [], h, g) = XCD z 152 (45, [some (vR 213), some (vI s), some (vI 12), o], [], h', g) ∧ IW Wh h0 h' ∧ (∀ i : Int, 0 ≤ i → i < 64 → h' 217 i = 0 ∧ h' (217 + 4096) i = 1) ∧ (∀ i : Int, 0 ≤ i → i < 8 → h' 216 i = 0 ∧ h' (216 + 4096) i = 1) := by
  intro k
  induction k with
  | zero =>
    intro j h hk hI hp hz0
    have hj : j = 8 := by omega
    subst hj
    refine ⟨h, ?_, hI, hp, hz0⟩
    refine (stD (pc := 23) dz152_23 rfl).trans ?_
    refine (stD (pc := 24) dz152_24 rfl).trans ?_
    refine (stD (pc := 26) dz152_26 (jcD true (by decide) (by decide +kernel))).trans ?_
    refine (stD (pc := 42) dz152_42 rfl).trans ?_
    refine (stD (pc := 44) dz152_44 rfl).trans ?_
    rfl
  | succ k ih =>
    intro j h hk hI hp hz0
    have hlt : ccmp .ge (j : Int) 8 = false := ccge_f (by rw [w32n (by omega), show w32 8 = 8 from by decide +kernel]; omega)
    obtain ⟨h', k1, k2⟩ := ih (j + 1) (fl1 (u2 h 216 (j : Int) 0) 216 (j : Int)) (by omega) (wr6 hI (by omega) 0) (fun i i0 i1 => ⟨by rw [rd_o (by decide) (by decide) (by decide)]; exact (hp i i0 i1).1, fl_mono (b := 217) (by decide) (by decide) (hp i i0 i1).2⟩) (fun i i0 i1 => by
      by_cases hij : i = (j : Int)
      · rw [hij]
        exact ⟨by rw [rd_a (by decide) (by decide), if_pos rfl], fl_own⟩
      · have q := hz0 i i0 (by omega)
        exact ⟨by rw [rd_a (by decide) (by decide), if_neg hij]; exact q.1, fl_mono (b := 216) (by decide) (by decide) q.2⟩)
    refine ⟨h', ?_, k2⟩
    refine Eq.trans ?_ k1
    refine (stD (pc := 23) dz152_23 rfl).trans ?_
    refine (stD (pc := 24) dz152_24 rfl).trans ?_
    refine (stD (pc := 26) dz152_26 (jcD false (by decide) (hlt))).trans ?_
    refine (stD (pc := 29) dz152_29 rfl).trans ?_
    refine (stD (pc := 30) dz152_30 (gfloads hm152 hg)).trans ?_
    refine (stD (pc := 33) dz152_33 rfl).trans ?_
    refine (stD (pc := 34) dz152_34 rfl).trans ?_
    refine (stD (pc := 35) dz152_35 (iasR hg (by decide +kernel) (w32n (by omega)) (by omega) (by rw [al216]; omega))).trans ?_
    refine (stD (pc := 36) dz152_36 rfl).trans ?_
    refine (stD (pc := 39) dz152_39 rfl).trans ?_
    rfl
theorem laD {z : Int → Int} (hz : zOK z) {h : PH} {g : PG} (hB : BI h) (hg : gInv g) {s : Nat} (hs : s < 128) : ∃ h', CALLD z 152 [vR 213, vI (s : Int)] h g = some (none, h', g) ∧ IW Wh h h' ∧ FlS h' ∧ BB h' 127127 := by
  have hML : mL 152 = 4 := by decide +kernel
  have hcb : (0 : Int) ≤ h 214 0 ∧ h 214 0 ≤ 7 := hB 214 (by decide) (0, 0, 0, 7) (by decide +kernel) 0 (by decide) (by decide)
  obtain ⟨n, hn⟩ : ∃ n : Nat, h 214 0 = (n : Int) := ⟨(h 214 0).toNat, by omega⟩
  obtain ⟨h1, k1, k2, k3⟩ := la_p (z := z) (h0 := h) hg (s := (s : Int)) (o := none) 64 0 h (by omega) ⟨hB, FR.rf⟩ (fun i i0 i1 => by omega)
  obtain ⟨h2, l1, l2, l3, l4⟩ := la_l (z := z) hg (s := (s : Int)) (o := none) 8 0 h1 (by omega) k2 k3 (fun i i0 i1 => by omega)
  have hb0 := (Bf_t ⟨dnK h 12 0, dnK_7⟩ ⟨0, by decide⟩).1.1
  have hb0 : 0 ≤ Bf (dnK h 12 0) := hb0
  obtain ⟨h3, m1, m2⟩ := la_out hz hg (by omega : n ≤ 7) hn hs 13 12 h2 none (by omega) (by omega) l2 ⟨fun i i0 i1 => (l4 i i0 i1).2, fun i i0 i1 => (l3 i i0 i1).2⟩ ⟨fun i i0 i1 => by rw [(l3 i i0 i1).1]; exact ⟨Int.le_refl _, hb0⟩, fun i i0 i1 => by rw [(l4 i i0 i1).1]; exact ⟨Int.le_refl _, hb0⟩⟩
  refine ⟨h3, ?_, m2⟩
  refine caD (l0 := [some (vR 213), some (vI (s : Int)), none, none]) (by unfold entryL; rw [hML]; rfl) ?_
  refine Eq.trans ?_ ((k1.trans l1).trans m1)
  refine (stD (pc := 0) dz152_0 rfl).trans ?_
  refine (stD (pc := 1) dz152_1 rfl).trans ?_
  rfl
