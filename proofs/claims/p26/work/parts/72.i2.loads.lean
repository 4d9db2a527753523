/-! ===== handsDown, loadAll: how great the loads become ===== -/
theorem hm152 : mO 152 = 8 := by decide +kernel
theorem dz152_51 : decode (mC 152) 51 = .ok ((.iload_n 3), 1) := by decide +kernel
theorem dz152_52 : decode (mC 152) 52 = .ok ((.aload_n 0), 1) := by decide +kernel
theorem dz152_53 : decode (mC 152) 53 = .ok ((.getfield 9), 3) := by decide +kernel
theorem dz152_56 : decode (mC 152) 56 = .ok ((.iconst 0), 1) := by decide +kernel
theorem dz152_57 : decode (mC 152) 57 = .ok (.iaload, 1) := by decide +kernel
theorem dz152_58 : decode (mC 152) 58 = .ok ((.if_icmp .ge 36), 3) := by decide +kernel
theorem dz152_61 : decode (mC 152) 61 = .ok ((.iload_n 1), 1) := by decide +kernel
theorem dz152_62 : decode (mC 152) 62 = .ok ((.iload_n 3), 1) := by decide +kernel
theorem dz152_63 : decode (mC 152) 63 = .ok ((.invokestatic 79), 3) := by decide +kernel
theorem dz152_66 : decode (mC 152) 66 = .ok ((.ifCond .eq 22), 3) := by decide +kernel
theorem dz152_69 : decode (mC 152) 69 = .ok ((.aload_n 0), 1) := by decide +kernel
theorem dz152_70 : decode (mC 152) 70 = .ok ((.getfield 9), 3) := by decide +kernel
theorem dz152_73 : decode (mC 152) 73 = .ok ((.bipush 34), 2) := by decide +kernel
theorem dz152_75 : decode (mC 152) 75 = .ok ((.iload_n 3), 1) := by decide +kernel
theorem dz152_76 : decode (mC 152) 76 = .ok (.iadd, 1) := by decide +kernel
theorem dz152_77 : decode (mC 152) 77 = .ok (.iaload, 1) := by decide +kernel
theorem dz152_78 : decode (mC 152) 78 = .ok ((.iload_n 2), 1) := by decide +kernel
theorem dz152_79 : decode (mC 152) 79 = .ok ((.if_icmp .ne 9), 3) := by decide +kernel
theorem dz152_82 : decode (mC 152) 82 = .ok ((.aload_n 0), 1) := by decide +kernel
theorem dz152_83 : decode (mC 152) 83 = .ok ((.iload_n 3), 1) := by decide +kernel
theorem dz152_84 : decode (mC 152) 84 = .ok ((.iload_n 1), 1) := by decide +kernel
theorem dz152_85 : decode (mC 152) 85 = .ok ((.invokevirtual 104), 3) := by decide +kernel
theorem dz152_88 : decode (mC 152) 88 = .ok ((.iinc 3 1), 3) := by decide +kernel
theorem dz152_91 : decode (mC 152) 91 = .ok ((.goto (-40)), 3) := by decide +kernel
theorem dz153_0 : decode (mC 153) 0 = .ok ((.iconst 0), 1) := by decide +kernel
theorem dz153_1 : decode (mC 153) 1 = .ok ((.istore_n 3), 1) := by decide +kernel
theorem dz153_2 : decode (mC 153) 2 = .ok ((.iconst 0), 1) := by decide +kernel
theorem dz153_3 : decode (mC 153) 3 = .ok ((.istore 4), 2) := by decide +kernel
theorem dz153_45 : decode (mC 153) 45 = .ok ((.aload_n 0), 1) := by decide +kernel
theorem dz153_46 : decode (mC 153) 46 = .ok ((.getfield 9), 3) := by decide +kernel
theorem dz153_49 : decode (mC 153) 49 = .ok ((.bipush 34), 2) := by decide +kernel
theorem dz153_51 : decode (mC 153) 51 = .ok ((.iload_n 1), 1) := by decide +kernel
theorem dz153_52 : decode (mC 153) 52 = .ok (.iadd, 1) := by decide +kernel
theorem dz153_53 : decode (mC 153) 53 = .ok (.iaload, 1) := by decide +kernel
theorem dz153_54 : decode (mC 153) 54 = .ok ((.ifCond .eq 7), 3) := by decide +kernel
theorem dz153_57 : decode (mC 153) 57 = .ok ((.iload_n 3), 1) := by decide +kernel
theorem dz153_58 : decode (mC 153) 58 = .ok ((.ifCond .ne 4), 3) := by decide +kernel
theorem dz153_61 : decode (mC 153) 61 = .ok (.return_, 1) := by decide +kernel
theorem dz153_62 : decode (mC 153) 62 = .ok ((.aload_n 0), 1) := by decide +kernel
theorem dz153_63 : decode (mC 153) 63 = .ok ((.getfield 9), 3) := by decide +kernel
theorem dz153_66 : decode (mC 153) 66 = .ok ((.bipush 66), 2) := by decide +kernel
theorem dz153_68 : decode (mC 153) 68 = .ok ((.iload_n 1), 1) := by decide +kernel
theorem dz153_69 : decode (mC 153) 69 = .ok (.iadd, 1) := by decide +kernel
theorem dz153_70 : decode (mC 153) 70 = .ok (.iaload, 1) := by decide +kernel
theorem dz153_71 : decode (mC 153) 71 = .ok ((.aload_n 0), 1) := by decide +kernel
theorem dz153_72 : decode (mC 153) 72 = .ok ((.getfield 18), 3) := by decide +kernel
theorem dz153_75 : decode (mC 153) 75 = .ok ((.iload_n 1), 1) := by decide +kernel
theorem dz153_76 : decode (mC 153) 76 = .ok (.iaload, 1) := by decide +kernel
theorem dz153_77 : decode (mC 153) 77 = .ok (.iadd, 1) := by decide +kernel
theorem dz153_78 : decode (mC 153) 78 = .ok ((.istore 4), 2) := by decide +kernel
theorem dz153_80 : decode (mC 153) 80 = .ok ((.iload 4), 2) := by decide +kernel
theorem dz153_82 : decode (mC 153) 82 = .ok ((.istore 5), 2) := by decide +kernel
theorem dz153_84 : decode (mC 153) 84 = .ok ((.iconst 0), 1) := by decide +kernel
theorem dz153_85 : decode (mC 153) 85 = .ok ((.istore 6), 2) := by decide +kernel
theorem i66 {a : Nat} (ha : a < 8) : w32 (66 + (a : Int)) = 66 + (a : Int) := e_small (by omega) (by omega)
theorem hdD {z : Int → Int} (hz : zOK z) {h : PH} {g : PG} (hB : BI h) (hg : gInv g) (hf : FlS h) {c s : Nat} (hc7 : c < 7) (hs : s < 128) {B : Int} (hB0 : 0 ≤ B) (hB1 : B ≤ 100000) (hP : PB h B) (hL : LdB h B) :
    ∃ h', CALLD z 153 [vR 213, vI (c : Int), vI (s : Int)] h g = some (none, h', g) ∧ IW Wh h h' ∧ PB h' (2 * B + 1001) ∧ LdB h' (2 * B + 1001) := by
  have hML : mL 153 = 7 := by decide +kernel
  have hcb : (0 : Int) ≤ h 214 0 ∧ h 214 0 ≤ 7 := hB 214 (by decide) (0, 0, 0, 7) (by decide +kernel) 0 (by decide) (by decide)
  obtain ⟨n, hn⟩ : ∃ n : Nat, h 214 0 = (n : Int) := ⟨(h 214 0).toNat, by omega⟩
  have hn7 : n ≤ 7 := by omega
  obtain ⟨all, h1, k1, k2, k3, k4, k5, k6, k7⟩ := hd1 hz hB hg hn7 hn hc7 hs (o5 := none) (o6 := none) (o4 := none) n 0 0 h (by omega) ⟨hB, FR.rf⟩ (by omega) (by omega) (fun b hb _ => by omega)
  have hI1 : IW Wh h h1 := k2
  have hP1 : PB h1 B := fun i i0 i1 => by rw [k7]; exact hP i i0 i1
  have hL1 : LdB h1 B := fun i i0 i1 => by rw [k6]; exact hL i i0 i1
  have hf1 := FlS.fr hI1.2 hf
  have start : XCD z 153 (0, [some (vR 213), some (vI (c : Int)), some (vI (s : Int)), none, none, none, none], [], h, g) = XCD z 153 (45, [some (vR 213), some (vI (c : Int)), some (vI (s : Int)), some (vI all), some (vI (n : Int)), none, none], [], h1, g) := by
    refine Eq.trans ?_ k1
    refine (stD (pc := 0) dz153_0 rfl).trans ?_
    refine (stD (pc := 1) dz153_1 rfl).trans ?_
    refine (stD (pc := 2) dz153_2 rfl).trans ?_
    refine (stD (pc := 3) dz153_3 rfl).trans ?_
    rfl
  have early : XCD z 153 (45, [some (vR 213), some (vI (c : Int)), some (vI (s : Int)), some (vI all), some (vI (n : Int)), none, none], [], h1, g) = some (none, h1, g) → ∃ h', CALLD z 153 [vR 213, vI (c : Int), vI (s : Int)] h g = some (none, h', g) ∧ IW Wh h h' ∧ PB h' (2 * B + 1001) ∧ LdB h' (2 * B + 1001) := by
    intro e
    refine ⟨h1, ?_, hI1, fun i i0 i1 => ⟨(hP1 i i0 i1).1, by have := (hP1 i i0 i1).2; omega⟩, fun i i0 i1 => ⟨(hL1 i i0 i1).1, by have := (hL1 i i0 i1).2; omega⟩⟩
    refine caD (l0 := [some (vR 213), some (vI (c : Int)), some (vI (s : Int)), none, none, none, none]) (by unfold entryL; rw [hML]; rfl) ?_
    exact start.trans e
  cases hq : ccmp .eq (h1 214 (34 + (c : Int))) 0 with
  | true =>
    refine early ?_
    refine (stD (pc := 45) dz153_45 rfl).trans ?_
    refine (stD (pc := 46) dz153_46 (gfg hm153 hg)).trans ?_
    refine (stD (pc := 49) dz153_49 rfl).trans ?_
    refine (stD (pc := 51) dz153_51 rfl).trans ?_
    refine (stD (pc := 52) dz153_52 rfl).trans ?_
    refine (stD (pc := 53) dz153_53 (ialR hg (by decide +kernel) (i34 (by omega)) (by omega) (by rw [al214]; omega) rd214)).trans ?_
    refine (stD (pc := 54) dz153_54 (j0D true (by decide) (hq))).trans ?_
    exact rtD (pc := 61) dz153_61 (rtV (by decide +kernel))
  | false =>
    by_cases ha0 : all = 0
    · refine early ?_
      refine (stD (pc := 45) dz153_45 rfl).trans ?_
      refine (stD (pc := 46) dz153_46 (gfg hm153 hg)).trans ?_
      refine (stD (pc := 49) dz153_49 rfl).trans ?_
      refine (stD (pc := 51) dz153_51 rfl).trans ?_
      refine (stD (pc := 52) dz153_52 rfl).trans ?_
      refine (stD (pc := 53) dz153_53 (ialR hg (by decide +kernel) (i34 (by omega)) (by omega) (by rw [al214]; omega) rd214)).trans ?_
      refine (stD (pc := 54) dz153_54 (j0D false (by decide) (hq))).trans ?_
      refine (stD (pc := 57) dz153_57 rfl).trans ?_
      refine (stD (pc := 58) dz153_58 (j0D false (by decide) (by rw [ha0]; decide +kernel))).trans ?_
      exact rtD (pc := 61) dz153_61 (rtV (by decide +kernel))
    · have hw : (0 : Int) ≤ h1 214 (66 + (c : Int)) ∧ h1 214 (66 + (c : Int)) ≤ 999 := hI1.1 214 (by decide) (66, 73, 0, 999) (by decide +kernel) (66 + (c : Int)) (by simp only; omega) (by simp only; omega)
      have hl := hL1 (c : Int) (by omega) (by omega)
      obtain ⟨l2, h2, q1, q2, q3, q4⟩ := hd2 hz hg hf hn7 hn hc7 hs (P := B + 1000) (all := all) (w := h1 214 (66 + (c : Int)) + h1 216 (c : Int)) (by omega) (by omega) (by omega) (by omega) (by omega) k5 n 0 (h1 214 (66 + (c : Int)) + h1 216 (c : Int)) h1 (by omega) hI1 (fun i i0 i1 => ⟨(hP1 i i0 i1).1, by have := (hP1 i i0 i1).2; omega⟩)
      obtain ⟨l3, h3, r1, r2, r3, r4⟩ := hd3 hz hg hf hn7 hn hc7 hs (P := B + 1000) (all := all) (w := h1 214 (66 + (c : Int)) + h1 216 (c : Int)) n 0 l2 h2 (by omega) q2 (fun i i0 i1 => ⟨(q3 i i0 i1).1, by have := (q3 i i0 i1).2; omega, fun _ => (q3 i i0 i1).2⟩)
      obtain ⟨h4, t1, t2, t3, t4⟩ := hd4 (z := z) hg hf hn7 hn hc7 (P := B + 1000 + 1) (L := B) (set := (s : Int)) (all := all) (w := h1 214 (66 + (c : Int)) + h1 216 (c : Int)) (left := l3) (by omega) n 0 h3 (by omega) r2 r3 (fun i i0 i1 => by
        rw [r4, q4]
        have := hL1 i i0 i1
        exact ⟨this.1, by omega, fun _ => this.2⟩)
      refine ⟨h4, ?_, t2, fun i i0 i1 => ⟨(t3 i i0 i1).1, by have := (t3 i i0 i1).2; omega⟩, fun i i0 i1 => ⟨(t4 i i0 i1).1, by have := (t4 i i0 i1).2; omega⟩⟩
      refine caD (l0 := [some (vR 213), some (vI (c : Int)), some (vI (s : Int)), none, none, none, none]) (by unfold entryL; rw [hML]; rfl) ?_
      refine start.trans ?_
      refine Eq.trans ?_ ((q1.trans r1).trans t1)
      refine (stD (pc := 45) dz153_45 rfl).trans ?_
      refine (stD (pc := 46) dz153_46 (gfg hm153 hg)).trans ?_
      refine (stD (pc := 49) dz153_49 rfl).trans ?_
      refine (stD (pc := 51) dz153_51 rfl).trans ?_
      refine (stD (pc := 52) dz153_52 rfl).trans ?_
      refine (stD (pc := 53) dz153_53 (ialR hg (by decide +kernel) (i34 (by omega)) (by omega) (by rw [al214]; omega) rd214)).trans ?_
      refine (stD (pc := 54) dz153_54 (j0D false (by decide) (hq))).trans ?_
      refine (stD (pc := 57) dz153_57 rfl).trans ?_
      refine (stD (pc := 58) dz153_58 (j0D true (by decide) (ccne_t (by rw [w320, e_small (by omega) (by omega)]; exact ha0)))).trans ?_
      refine (stD (pc := 62) dz153_62 rfl).trans ?_
      refine (stD (pc := 63) dz153_63 (gfg hm153 hg)).trans ?_
      refine (stD (pc := 66) dz153_66 rfl).trans ?_
      refine (stD (pc := 68) dz153_68 rfl).trans ?_
      refine (stD (pc := 69) dz153_69 rfl).trans ?_
      refine (stD (pc := 70) dz153_70 (ialR hg (by decide +kernel) (i66 (by omega)) (by omega) (by rw [al214]; omega) rd214)).trans ?_
      refine (stD (pc := 71) dz153_71 rfl).trans ?_
      refine (stD (pc := 72) dz153_72 (gfloads hm153 hg)).trans ?_
      refine (stD (pc := 75) dz153_75 rfl).trans ?_
      refine (stD (pc := 76) dz153_76 (ialR hg (by decide +kernel) (w32n (by omega)) (by omega) (by rw [al216]; omega) (rd_fl (hf1.1 _ (by omega) (by omega))))).trans ?_
      refine (stD (pc := 77) dz153_77 rfl).trans ?_
      refine (stD (pc := 78) dz153_78 rfl).trans ?_
      refine (stD (pc := 80) dz153_80 rfl).trans ?_
      refine (stD (pc := 82) dz153_82 rfl).trans ?_
      refine (stD (pc := 84) dz153_84 rfl).trans ?_
      refine (stD (pc := 85) dz153_85 rfl).trans ?_
      rfl
def Bf (k : Nat) : Int := ((1001 * (2 ^ k - 1) : Nat) : Int)
theorem Bf_t : ∀ k : Fin 8, ∀ j : Fin 8, (0 ≤ Bf k.val ∧ Bf k.val ≤ 127127) ∧ (k.val ≤ j.val → Bf k.val ≤ Bf j.val) ∧ (k.val < j.val → 2 * Bf k.val + 1001 ≤ Bf j.val ∧ Bf k.val ≤ 100000) := by decide +kernel
/-- who handed down before level v, place c -/
def dnB (h : PH) (v : Int) (c : Nat) (a : Nat) : Bool := decide (v < w32 (h 214 (34 + (a : Int)))) || (decide (w32 (h 214 (34 + (a : Int))) = v) && decide (a < c))
def dnK (h : PH) (v : Int) (c : Nat) : Nat := (List.range 7).countP (dnB h v c)
theorem dnK_7 {h : PH} {v : Int} {c : Nat} : dnK h v c < 8 := by
  have : dnK h v c ≤ 7 := List.countP_le_length
  omega
theorem dn_iff {h : PH} {v : Int} {c a : Nat} : dnB h v c a = true ↔ (v < w32 (h 214 (34 + (a : Int))) ∨ (w32 (h 214 (34 + (a : Int))) = v ∧ a < c)) := by
  unfold dnB
  rw [Bool.or_eq_true, Bool.and_eq_true, decide_eq_true_iff, decide_eq_true_iff, decide_eq_true_iff]
theorem dn_up {h : PH} {v : Int} {c : Nat} : dnK h v c ≤ dnK h v (c + 1) := cnt_le (fun a ha => dn_iff.mpr (by have := dn_iff.mp ha; omega)) _
theorem dn_lv {h : PH} {v : Int} {c : Nat} : dnK h v c ≤ dnK h (v + -1) 0 := cnt_le (fun a ha => dn_iff.mpr (by have := dn_iff.mp ha; omega)) _
theorem dn_st {h : PH} {v : Int} {c : Nat} (hc : c < 7) (e : w32 (h 214 (34 + (c : Int))) = v) : dnK h v c < dnK h v (c + 1) := cnt_lt (c := c) (fun a ha => dn_iff.mpr (by have := dn_iff.mp ha; omega)) (by
  cases hq : dnB h v c c with
  | false => rfl
  | true => have := dn_iff.mp hq; omega) (dn_iff.mpr (by omega)) _ (List.mem_range.mpr hc)
def BB (h : PH) (B : Int) : Prop := PB h B ∧ LdB h B
theorem BB.mono {h : PH} {B B' : Int} (hB : BB h B) (hl : B ≤ B') : BB h B' := ⟨fun i i0 i1 => ⟨(hB.1 i i0 i1).1, by have := (hB.1 i i0 i1).2; omega⟩, fun i i0 i1 => ⟨(hB.2 i i0 i1).1, by have := (hB.2 i i0 i1).2; omega⟩⟩
theorem la_in {z : Int → Int} (hz : zOK z) {h0 : PH} {g : PG} (hg : gInv g) {n : Nat} (hn : n ≤ 7) (hc : h0 214 0 = (n : Int)) {s : Nat} (hs : s < 128) {v : Int} (hv : w32 v = v) : ∀ (k c : Nat) (h : PH), c + k = n → IW Wh h0 h → FlS h → BB h (Bf (dnK h0 v c)) →
    ∃ h', XCD z 152 (51, [some (vR 213), some (vI (s : Int)), some (vI v), some (vI (c : Int))], [], h, g) = XCD z 152 (94, [some (vR 213), some (vI (s : Int)), some (vI v), some (vI (n : Int))], [], h', g) ∧ IW Wh h0 h' ∧ FlS h' ∧ BB h' (Bf (dnK h0 v n)) := by
  intro k
  induction k with
  | zero =>
    intro c h hk hI hf hB
    have hcn : c = n := by omega
    subst hcn
    have e0 : h 214 0 = (c : Int) := (ns214 (hI.2.ns scWh) 0).trans hc
    have hge : ccmp .ge (c : Int) (h 214 0) = true := ccge_t (by rw [e0]; omega)
    refine ⟨h, ?_, hI, hf, hB⟩
    refine (stD (pc := 51) dz152_51 rfl).trans ?_
    refine (stD (pc := 52) dz152_52 rfl).trans ?_
    refine (stD (pc := 53) dz152_53 (gfg hm152 hg)).trans ?_
    refine (stD (pc := 56) dz152_56 rfl).trans ?_
    refine (stD (pc := 57) dz152_57 (ialC hg)).trans ?_
    refine (stD (pc := 58) dz152_58 (jcD true (by decide) (hge))).trans ?_
    rfl
  | succ k ih =>
    intro c h hk hI hf hB
    have e0 : h 214 0 = (n : Int) := (ns214 (hI.2.ns scWh) 0).trans hc
    have hlt : ccmp .ge (c : Int) (h 214 0) = false := ccge_f (by rw [e0, w32n (by omega), w32n (by omega)]; omega)
    have hd := hasD (z := z) hs (by omega : c < 8) (h := h) (g := g)
    have hup := (Bf_t ⟨dnK h0 v c, dnK_7⟩ ⟨dnK h0 v (c + 1), dnK_7⟩).2.1 dn_up
    have eZ : h 214 (34 + (c : Int)) = h0 214 (34 + (c : Int)) := ns214 (hI.2.ns scWh) _
    cases hh : hasB s c with
    | false =>
      rw [hh] at hd
      obtain ⟨h', k1, k2⟩ := ih (c + 1) h (by omega) hI hf (hB.mono hup)
      refine ⟨h', ?_, k2⟩
      refine Eq.trans ?_ k1
      refine (stD (pc := 51) dz152_51 rfl).trans ?_
      refine (stD (pc := 52) dz152_52 rfl).trans ?_
      refine (stD (pc := 53) dz152_53 (gfg hm152 hg)).trans ?_
      refine (stD (pc := 56) dz152_56 rfl).trans ?_
      refine (stD (pc := 57) dz152_57 (ialC hg)).trans ?_
      refine (stD (pc := 58) dz152_58 (jcD false (by decide) (hlt))).trans ?_
      refine (stD (pc := 61) dz152_61 rfl).trans ?_
      refine (stD (pc := 62) dz152_62 rfl).trans ?_
      refine (clD (pc := 63) dz152_63 (csD (by decide +kernel : okC 152 79 1 129 2 40 = true) (by decide +kernel) rfl rfl rfl) (hd)).trans ?_
      refine (stD (pc := 66) dz152_66 (j0D true (by decide) (by unfold ccmp; rfl))).trans ?_
      refine (stD (pc := 88) dz152_88 rfl).trans ?_
      refine (stD (pc := 91) dz152_91 rfl).trans ?_
      rfl
    | true =>
      rw [hh] at hd
      cases hq : ccmp .ne (h 214 (34 + (c : Int))) v with
      | true =>
        obtain ⟨h', k1, k2⟩ := ih (c + 1) h (by omega) hI hf (hB.mono hup)
        refine ⟨h', ?_, k2⟩
        refine Eq.trans ?_ k1
        refine (stD (pc := 51) dz152_51 rfl).trans ?_
        refine (stD (pc := 52) dz152_52 rfl).trans ?_
        refine (stD (pc := 53) dz152_53 (gfg hm152 hg)).trans ?_
        refine (stD (pc := 56) dz152_56 rfl).trans ?_
        refine (stD (pc := 57) dz152_57 (ialC hg)).trans ?_
        refine (stD (pc := 58) dz152_58 (jcD false (by decide) (hlt))).trans ?_
        refine (stD (pc := 61) dz152_61 rfl).trans ?_
        refine (stD (pc := 62) dz152_62 rfl).trans ?_
        refine (clD (pc := 63) dz152_63 (csD (by decide +kernel : okC 152 79 1 129 2 40 = true) (by decide +kernel) rfl rfl rfl) (hd)).trans ?_
        refine (stD (pc := 66) dz152_66 (j0D false (by decide) (by unfold ccmp; decide +kernel))).trans ?_
        refine (stD (pc := 69) dz152_69 rfl).trans ?_
        refine (stD (pc := 70) dz152_70 (gfg hm152 hg)).trans ?_
        refine (stD (pc := 73) dz152_73 rfl).trans ?_
        refine (stD (pc := 75) dz152_75 rfl).trans ?_
        refine (stD (pc := 76) dz152_76 rfl).trans ?_
        refine (stD (pc := 77) dz152_77 (ialR hg (by decide +kernel) (i34 (by omega)) (by omega) (by rw [al214]; omega) rd214)).trans ?_
        refine (stD (pc := 78) dz152_78 rfl).trans ?_
        refine (stD (pc := 79) dz152_79 (jcD true (by decide) (hq))).trans ?_
        refine (stD (pc := 88) dz152_88 rfl).trans ?_
        refine (stD (pc := 91) dz152_91 rfl).trans ?_
        rfl
      | false =>
        have hzv : w32 (h0 214 (34 + (c : Int))) = v := by
          by_cases hx : w32 (h 214 (34 + (c : Int))) = w32 v
          · rw [← eZ, hx, hv]
          · rw [ccne_t hx] at hq
            cases hq
        have ht := (Bf_t ⟨dnK h0 v c, dnK_7⟩ ⟨dnK h0 v (c + 1), dnK_7⟩)
        have ht2 := ht.2.2 (dn_st (by omega) hzv)
        have ht0 := ht.1
        simp only at ht0 ht2
        obtain ⟨h1, d1, d2, d3, d4⟩ := hdD hz hI.1 hg hf (by omega : c < 7) hs ht0.1 ht2.2 hB.1 hB.2
        obtain ⟨h', k1, k2⟩ := ih (c + 1) h1 (by omega) (IW_tr hI d2.1 d2.2 (by decide +kernel)) (FlS.fr d2.2 hf) (BB.mono ⟨d3, d4⟩ ht2.1)
        refine ⟨h', ?_, k2⟩
        refine Eq.trans ?_ k1
        refine (stD (pc := 51) dz152_51 rfl).trans ?_
        refine (stD (pc := 52) dz152_52 rfl).trans ?_
        refine (stD (pc := 53) dz152_53 (gfg hm152 hg)).trans ?_
        refine (stD (pc := 56) dz152_56 rfl).trans ?_
        refine (stD (pc := 57) dz152_57 (ialC hg)).trans ?_
        refine (stD (pc := 58) dz152_58 (jcD false (by decide) (hlt))).trans ?_
        refine (stD (pc := 61) dz152_61 rfl).trans ?_
        refine (stD (pc := 62) dz152_62 rfl).trans ?_
        refine (clD (pc := 63) dz152_63 (csD (by decide +kernel : okC 152 79 1 129 2 40 = true) (by decide +kernel) rfl rfl rfl) (hd)).trans ?_
        refine (stD (pc := 66) dz152_66 (j0D false (by decide) (by unfold ccmp; decide +kernel))).trans ?_
        refine (stD (pc := 69) dz152_69 rfl).trans ?_
        refine (stD (pc := 70) dz152_70 (gfg hm152 hg)).trans ?_
        refine (stD (pc := 73) dz152_73 rfl).trans ?_
        refine (stD (pc := 75) dz152_75 rfl).trans ?_
        refine (stD (pc := 76) dz152_76 rfl).trans ?_
        refine (stD (pc := 77) dz152_77 (ialR hg (by decide +kernel) (i34 (by omega)) (by omega) (by rw [al214]; omega) rd214)).trans ?_
        refine (stD (pc := 78) dz152_78 rfl).trans ?_
        refine (stD (pc := 79) dz152_79 (jcD false (by decide) (hq))).trans ?_
        refine (stD (pc := 82) dz152_82 rfl).trans ?_
        refine (stD (pc := 83) dz152_83 rfl).trans ?_
        refine (stD (pc := 84) dz152_84 rfl).trans ?_
        refine (clD (pc := 85) dz152_85 (cvD (by decide +kernel : okC 152 104 0 153 3 120 = true) hm152 hg rfl rfl rfl rfl) (d1)).trans ?_
        refine (stD (pc := 88) dz152_88 rfl).trans ?_
        refine (stD (pc := 91) dz152_91 rfl).trans ?_
        rfl
