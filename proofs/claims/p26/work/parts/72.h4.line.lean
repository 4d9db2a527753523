/-! ===== findLine ===== -/
theorem hm185 : mO 185 = 8 := by decide +kernel
theorem dz185_0 : decode (mC 185) 0 = .ok ((.aload_n 0), 1) := by decide +kernel
theorem dz185_1 : decode (mC 185) 1 = .ok ((.invokevirtual 238), 3) := by decide +kernel
theorem dz185_4 : decode (mC 185) 4 = .ok ((.aload_n 0), 1) := by decide +kernel
theorem dz185_5 : decode (mC 185) 5 = .ok ((.iconst 0), 1) := by decide +kernel
theorem dz185_6 : decode (mC 185) 6 = .ok ((.putfield 241), 3) := by decide +kernel
theorem dz185_9 : decode (mC 185) 9 = .ok ((.aload_n 0), 1) := by decide +kernel
theorem dz185_10 : decode (mC 185) 10 = .ok ((.invokevirtual 75), 3) := by decide +kernel
theorem dz185_13 : decode (mC 185) 13 = .ok ((.istore_n 1), 1) := by decide +kernel
theorem dz185_14 : decode (mC 185) 14 = .ok ((.iload_n 1), 1) := by decide +kernel
theorem dz185_15 : decode (mC 185) 15 = .ok ((.ifCond .eq 83), 3) := by decide +kernel
theorem dz185_18 : decode (mC 185) 18 = .ok ((.aload_n 0), 1) := by decide +kernel
theorem dz185_19 : decode (mC 185) 19 = .ok ((.getfield 36), 3) := by decide +kernel
theorem dz185_22 : decode (mC 185) 22 = .ok ((.iload_n 1), 1) := by decide +kernel
theorem dz185_23 : decode (mC 185) 23 = .ok (.iaload, 1) := by decide +kernel
theorem dz185_24 : decode (mC 185) 24 = .ok ((.ifCond .le 74), 3) := by decide +kernel
theorem dz185_27 : decode (mC 185) 27 = .ok ((.iconst 0), 1) := by decide +kernel
theorem dz185_28 : decode (mC 185) 28 = .ok ((.istore_n 2), 1) := by decide +kernel
theorem dz185_29 : decode (mC 185) 29 = .ok ((.iload_n 1), 1) := by decide +kernel
theorem dz185_30 : decode (mC 185) 30 = .ok ((.iload_n 2), 1) := by decide +kernel
theorem dz185_31 : decode (mC 185) 31 = .ok ((.invokestatic 79), 3) := by decide +kernel
theorem dz185_34 : decode (mC 185) 34 = .ok ((.ifCond .eq 27), 3) := by decide +kernel
theorem dz185_37 : decode (mC 185) 37 = .ok ((.aload_n 0), 1) := by decide +kernel
theorem dz185_38 : decode (mC 185) 38 = .ok ((.getfield 36), 3) := by decide +kernel
theorem dz185_41 : decode (mC 185) 41 = .ok ((.iload_n 1), 1) := by decide +kernel
theorem dz185_42 : decode (mC 185) 42 = .ok ((.iconst 1), 1) := by decide +kernel
theorem dz185_43 : decode (mC 185) 43 = .ok ((.iload_n 2), 1) := by decide +kernel
theorem dz185_44 : decode (mC 185) 44 = .ok (.ishl, 1) := by decide +kernel
theorem dz185_45 : decode (mC 185) 45 = .ok ((.iconst (-1)), 1) := by decide +kernel
theorem dz185_46 : decode (mC 185) 46 = .ok (.ixor, 1) := by decide +kernel
theorem dz185_47 : decode (mC 185) 47 = .ok (.iand, 1) := by decide +kernel
theorem dz185_48 : decode (mC 185) 48 = .ok (.iaload, 1) := by decide +kernel
theorem dz185_49 : decode (mC 185) 49 = .ok ((.ifCond .eq 12), 3) := by decide +kernel
theorem dz185_52 : decode (mC 185) 52 = .ok ((.aload_n 0), 1) := by decide +kernel
theorem dz185_53 : decode (mC 185) 53 = .ok ((.iload_n 2), 1) := by decide +kernel
theorem dz185_54 : decode (mC 185) 54 = .ok ((.iload_n 1), 1) := by decide +kernel
theorem dz185_55 : decode (mC 185) 55 = .ok ((.invokevirtual 211), 3) := by decide +kernel
theorem dz185_58 : decode (mC 185) 58 = .ok ((.ifCond .ne 9), 3) := by decide +kernel
theorem dz185_61 : decode (mC 185) 61 = .ok ((.iinc 2 1), 3) := by decide +kernel
theorem dz185_64 : decode (mC 185) 64 = .ok ((.goto (-35)), 3) := by decide +kernel
theorem dz185_67 : decode (mC 185) 67 = .ok ((.aload_n 0), 1) := by decide +kernel
theorem dz185_68 : decode (mC 185) 68 = .ok ((.getfield 39), 3) := by decide +kernel
theorem dz185_71 : decode (mC 185) 71 = .ok ((.aload_n 0), 1) := by decide +kernel
theorem dz185_72 : decode (mC 185) 72 = .ok ((.getfield 241), 3) := by decide +kernel
theorem dz185_75 : decode (mC 185) 75 = .ok ((.iload_n 2), 1) := by decide +kernel
theorem dz185_76 : decode (mC 185) 76 = .ok (.iastore, 1) := by decide +kernel
theorem dz185_77 : decode (mC 185) 77 = .ok ((.aload_n 0), 1) := by decide +kernel
theorem dz185_78 : decode (mC 185) 78 = .ok (.dup, 1) := by decide +kernel
theorem dz185_79 : decode (mC 185) 79 = .ok ((.getfield 241), 3) := by decide +kernel
theorem dz185_82 : decode (mC 185) 82 = .ok ((.iconst 1), 1) := by decide +kernel
theorem dz185_83 : decode (mC 185) 83 = .ok (.iadd, 1) := by decide +kernel
theorem dz185_84 : decode (mC 185) 84 = .ok ((.putfield 241), 3) := by decide +kernel
theorem dz185_87 : decode (mC 185) 87 = .ok ((.iload_n 1), 1) := by decide +kernel
theorem dz185_88 : decode (mC 185) 88 = .ok ((.iconst 1), 1) := by decide +kernel
theorem dz185_89 : decode (mC 185) 89 = .ok ((.iload_n 2), 1) := by decide +kernel
theorem dz185_90 : decode (mC 185) 90 = .ok (.ishl, 1) := by decide +kernel
theorem dz185_91 : decode (mC 185) 91 = .ok ((.iconst (-1)), 1) := by decide +kernel
theorem dz185_92 : decode (mC 185) 92 = .ok (.ixor, 1) := by decide +kernel
theorem dz185_93 : decode (mC 185) 93 = .ok (.iand, 1) := by decide +kernel
theorem dz185_94 : decode (mC 185) 94 = .ok ((.istore_n 1), 1) := by decide +kernel
theorem dz185_95 : decode (mC 185) 95 = .ok ((.goto (-81)), 3) := by decide +kernel
theorem dz185_98 : decode (mC 185) 98 = .ok (.return_, 1) := by decide +kernel
def pcB (s : Nat) : Nat := (List.range 7).countP (fun k => hasB s k)
theorem pc_t : ∀ s : Fin 128, ∀ k : Fin 7, hasB s.val k.val = true → pcB (rmB s.val k.val) + 1 = pcB s.val := by decide +kernel
theorem pc_7 : ∀ s : Fin 128, pcB s.val ≤ 7 := by decide +kernel
theorem pc_e {s k : Nat} (hs : s < 128) (hk : k < 7) (h : hasB s k = true) : pcB (rmB s k) + 1 = pcB s := pc_t ⟨s, hs⟩ ⟨k, hk⟩ h
theorem pwL : (PW Wl).2 223 0 7 (some (0, 7)) = true := by decide +kernel
theorem pwN : (PW Wl).2 213 17 17 (some (0, 8)) = true := by decide +kernel
theorem wrL {h0 h : PH} (hI : IW Wl h0 h) {j b : Nat} (hj : j < 8) (hb : b < 8) : IW Wl h0 (fl1 (u2 h 223 (j : Int) (b : Int)) 223 (j : Int)) := (tOK_PW Wl h0).2.1 h 223 0 7 j (b : Int) (some (0, 7)) hI pwL (fun x hx => by cases hx; exact ⟨by simp only; omega, by simp only; omega⟩) (Nat.zero_le _) (by omega) (by decide)
theorem wrN {h0 h : PH} (hI : IW Wl h0 h) {v : Int} (h1 : 0 ≤ v) (h2 : v ≤ 8) : IW Wl h0 (fl1 (u2 h 213 17 v) 213 17) := (tOK_PW Wl h0).2.1 h 213 17 17 17 v (some (0, 8)) hI pwN (fun x hx => by cases hx; exact ⟨h1, h2⟩) (Nat.le_refl _) (Nat.le_refl _) (by decide)
theorem rd_o {h : PH} {a i v b j : Int} (ha : 0 ≤ a) (hb : b < 4096) (hne : b ≠ a) : fl1 (u2 h a i v) a i b j = h b j := by
  rw [fl_val ha hb]
  unfold u2
  rw [if_neg hne]
theorem rd_s {h : PH} {a i v : Int} (ha : 0 ≤ a) (hb : a < 4096) : fl1 (u2 h a i v) a i a i = v := by
  rw [fl_val ha hb]
  unfold u2
  rw [if_pos rfl, if_pos rfl]
theorem fl_in {z : Int → Int} (hz : zOK z) {h0 : PH} {g : PG} (hB : BI h0) (hg : gInv g) (hf : FlW h0) {n : Nat} (hn : n ≤ 7) (hc : h0 214 0 = (n : Int)) {s b0 : Nat} (hs : s < 128) (hb0 : b0 < n) (hh0 : hasB s b0 = true) (hF : Fr z g h0 b0 s) : ∀ (k b : Nat) (h : PH), b + k = b0 → IW Wl h0 h → Pw h (rmB s b0) →
    ∃ (c : Nat) (h' : PH), XCD z 185 (29, [some (vR 213), some (vI (s : Int)), some (vI (b : Int))], [], h, g) = XCD z 185 (67, [some (vR 213), some (vI (s : Int)), some (vI (c : Int))], [], h', g) ∧ c < 7 ∧ hasB s c = true ∧ IW Wl h0 h' ∧ (∀ t, h' 222 t = h 222 t) ∧ h' 213 17 = h 213 17 := by
  intro k
  have hal : alen 222 = 128 := by decide +kernel
  -- what is found at one place: it is taken, or the next one is looked at
  have one : ∀ (b : Nat) (h : PH), b < 7 → IW Wl h0 h → (∃ h', XCD z 185 (29, [some (vR 213), some (vI (s : Int)), some (vI (b : Int))], [], h, g) = XCD z 185 (67, [some (vR 213), some (vI (s : Int)), some (vI (b : Int))], [], h', g) ∧ hasB s b = true ∧ IW Wl h0 h' ∧ (∀ t, h' 222 t = h 222 t) ∧ h' 213 17 = h 213 17) ∨
      ((∃ h', XCD z 185 (29, [some (vR 213), some (vI (s : Int)), some (vI (b : Int))], [], h, g) = XCD z 185 (29, [some (vR 213), some (vI (s : Int)), some (vI ((b + 1 : Nat) : Int))], [], h', g) ∧ IW Wl h0 h' ∧ (∀ t, h' 222 t = h 222 t) ∧ h' 213 17 = h 213 17) ∧ ¬ (hasB s b = true ∧ Pw h (rmB s b) ∧ Fr z g h0 b s)) := by
    intro b h hb7 hI
    have hfl := FlW.fr hI.2 hf
    cases hh : hasB s b with
    | false =>
      refine Or.inr ⟨⟨h, ?_, hI, fun _ => rfl, rfl⟩, fun q => by cases q.1⟩
      have hd : CALLD z 129 [vI (s : Int), vI (b : Int)] h g = some (some (vI 0), h, g) := by
        have := hasD (z := z) hs (by omega : b < 8) (h := h) (g := g)
        rw [hh] at this
        exact this
      refine (stD (pc := 29) dz185_29 rfl).trans ?_
      refine (stD (pc := 30) dz185_30 rfl).trans ?_
      refine (clD (pc := 31) dz185_31 (csD (by decide +kernel : okC 185 79 1 129 2 40 = true) (by decide +kernel) rfl rfl rfl) (hd)).trans ?_
      refine (stD (pc := 34) dz185_34 (j0D true (by decide) (by unfold ccmp; rfl))).trans ?_
      refine (stD (pc := 61) dz185_61 rfl).trans ?_
      refine (stD (pc := 64) dz185_64 rfl).trans ?_
      rfl
    | true =>
      have hd : CALLD z 129 [vI (s : Int), vI (b : Int)] h g = some (some (vI 1), h, g) := by
        have := hasD (z := z) hs (by omega : b < 8) (h := h) (g := g)
        rw [hh] at this
        exact this
      have hrl := rm_lt hs hb7 hh
      have hre : w32 (andI (s : Int) (xorI (shlI 1 (b : Int)) (-1))) = ((rmB s b : Nat) : Int) := by rw [rm_e hs hb7]; exact w32n (by omega)
      cases hq : ccmp .eq (h 222 ((rmB s b : Nat) : Int)) 0 with
      | true =>
        refine Or.inr ⟨⟨h, ?_, hI, fun _ => rfl, rfl⟩, fun q => ?_⟩
        · refine (stD (pc := 29) dz185_29 rfl).trans ?_
          refine (stD (pc := 30) dz185_30 rfl).trans ?_
          refine (clD (pc := 31) dz185_31 (csD (by decide +kernel : okC 185 79 1 129 2 40 = true) (by decide +kernel) rfl rfl rfl) (hd)).trans ?_
          refine (stD (pc := 34) dz185_34 (j0D false (by decide) (by unfold ccmp; decide +kernel))).trans ?_
          refine (stD (pc := 37) dz185_37 rfl).trans ?_
          refine (stD (pc := 38) dz185_38 (gfways hm185 hg)).trans ?_
          refine (stD (pc := 41) dz185_41 rfl).trans ?_
          refine (stD (pc := 42) dz185_42 rfl).trans ?_
          refine (stD (pc := 43) dz185_43 rfl).trans ?_
          refine (stD (pc := 44) dz185_44 rfl).trans ?_
          refine (stD (pc := 45) dz185_45 rfl).trans ?_
          refine (stD (pc := 46) dz185_46 rfl).trans ?_
          refine (stD (pc := 47) dz185_47 rfl).trans ?_
          refine (stD (pc := 48) dz185_48 (ialR hg (by decide +kernel) hre (by omega) (by rw [hal]; omega) (rd_fl (hfl.1 _ (by omega) (by omega))))).trans ?_
          refine (stD (pc := 49) dz185_49 (j0D true (by decide) (hq))).trans ?_
          refine (stD (pc := 61) dz185_61 rfl).trans ?_
          refine (stD (pc := 64) dz185_64 rfl).trans ?_
          rfl
        · have q2 : 0 < w32 (h 222 ((rmB s b : Nat) : Int)) := q.2.1
          unfold ccmp at hq
          have hq := of_decide_eq_true hq
          rw [w320] at hq
          omega
      | false =>
        obtain ⟨v, h1, f1, f2, f3, f4, f5⟩ := fr_ex hz hI.1 hg (b := (b : Int)) (s := (s : Int)) (by omega) ⟨by omega, by omega⟩
        have hI1 : IW Wl h0 h1 := IW_tr hI f4 f5 subWf
        obtain ⟨q1, q2, q3⟩ := frK f5
        rcases (show v = 0 ∨ v = 1 from by omega) with rfl | rfl
        · refine Or.inr ⟨⟨h1, ?_, hI1, q1, q3⟩, fun q => ?_⟩
          · refine (stD (pc := 29) dz185_29 rfl).trans ?_
            refine (stD (pc := 30) dz185_30 rfl).trans ?_
            refine (clD (pc := 31) dz185_31 (csD (by decide +kernel : okC 185 79 1 129 2 40 = true) (by decide +kernel) rfl rfl rfl) (hd)).trans ?_
            refine (stD (pc := 34) dz185_34 (j0D false (by decide) (by unfold ccmp; decide +kernel))).trans ?_
            refine (stD (pc := 37) dz185_37 rfl).trans ?_
            refine (stD (pc := 38) dz185_38 (gfways hm185 hg)).trans ?_
            refine (stD (pc := 41) dz185_41 rfl).trans ?_
            refine (stD (pc := 42) dz185_42 rfl).trans ?_
            refine (stD (pc := 43) dz185_43 rfl).trans ?_
            refine (stD (pc := 44) dz185_44 rfl).trans ?_
            refine (stD (pc := 45) dz185_45 rfl).trans ?_
            refine (stD (pc := 46) dz185_46 rfl).trans ?_
            refine (stD (pc := 47) dz185_47 rfl).trans ?_
            refine (stD (pc := 48) dz185_48 (ialR hg (by decide +kernel) hre (by omega) (by rw [hal]; omega) (rd_fl (hfl.1 _ (by omega) (by omega))))).trans ?_
            refine (stD (pc := 49) dz185_49 (j0D false (by decide) (hq))).trans ?_
            refine (stD (pc := 52) dz185_52 rfl).trans ?_
            refine (stD (pc := 53) dz185_53 rfl).trans ?_
            refine (stD (pc := 54) dz185_54 rfl).trans ?_
            refine (clD (pc := 55) dz185_55 (cvD (by decide +kernel : okC 185 211 0 146 3 56 = true) hm185 hg rfl rfl rfl rfl) (f1)).trans ?_
            refine (stD (pc := 58) dz185_58 (j0D false (by decide) (by unfold ccmp; decide +kernel))).trans ?_
            refine (stD (pc := 61) dz185_61 rfl).trans ?_
            refine (stD (pc := 64) dz185_64 rfl).trans ?_
            rfl
          · obtain ⟨h2, r2⟩ := q.2.2
            have k := fr_det hz hB hg (hI.2.ns scWl) (b := (b : Int)) (s := (s : Int)) (by omega) ⟨by omega, by omega⟩ r2 f1
            cases k
        · refine Or.inl ⟨h1, ?_, rfl, hI1, q1, q3⟩
          refine (stD (pc := 29) dz185_29 rfl).trans ?_
          refine (stD (pc := 30) dz185_30 rfl).trans ?_
          refine (clD (pc := 31) dz185_31 (csD (by decide +kernel : okC 185 79 1 129 2 40 = true) (by decide +kernel) rfl rfl rfl) (hd)).trans ?_
          refine (stD (pc := 34) dz185_34 (j0D false (by decide) (by unfold ccmp; decide +kernel))).trans ?_
          refine (stD (pc := 37) dz185_37 rfl).trans ?_
          refine (stD (pc := 38) dz185_38 (gfways hm185 hg)).trans ?_
          refine (stD (pc := 41) dz185_41 rfl).trans ?_
          refine (stD (pc := 42) dz185_42 rfl).trans ?_
          refine (stD (pc := 43) dz185_43 rfl).trans ?_
          refine (stD (pc := 44) dz185_44 rfl).trans ?_
          refine (stD (pc := 45) dz185_45 rfl).trans ?_
          refine (stD (pc := 46) dz185_46 rfl).trans ?_
          refine (stD (pc := 47) dz185_47 rfl).trans ?_
          refine (stD (pc := 48) dz185_48 (ialR hg (by decide +kernel) hre (by omega) (by rw [hal]; omega) (rd_fl (hfl.1 _ (by omega) (by omega))))).trans ?_
          refine (stD (pc := 49) dz185_49 (j0D false (by decide) (hq))).trans ?_
          refine (stD (pc := 52) dz185_52 rfl).trans ?_
          refine (stD (pc := 53) dz185_53 rfl).trans ?_
          refine (stD (pc := 54) dz185_54 rfl).trans ?_
          refine (clD (pc := 55) dz185_55 (cvD (by decide +kernel : okC 185 211 0 146 3 56 = true) hm185 hg rfl rfl rfl rfl) (f1)).trans ?_
          refine (stD (pc := 58) dz185_58 (j0D true (by decide) (by unfold ccmp; decide +kernel))).trans ?_
          rfl
  induction k with
  | zero =>
    intro b h hb hI hP
    have hbb : b = b0 := by omega
    subst hbb
    rcases one b h (by omega) hI with ⟨h', k1, k2, k3, k4, k5⟩ | ⟨-, k2⟩
    · exact ⟨b, h', k1, by omega, k2, k3, k4, k5⟩
    · exact absurd ⟨hh0, hP, hF⟩ k2
  | succ k ih =>
    intro b h hb hI hP
    rcases one b h (by omega) hI with ⟨h', k1, k2, k3, k4, k5⟩ | ⟨⟨h1, k1, k3, k4, k5⟩, -⟩
    · exact ⟨b, h', k1, by omega, k2, k3, k4, k5⟩
    · obtain ⟨c, h', l1, l2, l3, l4, l5, l6⟩ := ih (b + 1) h1 (by omega) k3 (by unfold Pw; rw [k4]; exact hP)
      exact ⟨c, h', k1.trans l1, l2, l3, l4, fun t => (l5 t).trans (k4 t), l6.trans k5⟩
theorem fl_out {z : Int → Int} (hz : zOK z) {h0 : PH} {g : PG} (hB : BI h0) (hg : gInv g) (hf : FlW h0) {n : Nat} (hn : n ≤ 7) (hc : h0 214 0 = (n : Int)) {all : Nat} (ha : all < 128) : ∀ (k s L : Nat) (h : PH) (o : Option PV), pcB s ≤ k → s ≤ all → L + pcB s ≤ 7 → IW Wl h0 h → WI z g h0 n h (all + 1) → h 213 17 = (L : Int) →
    ∃ h', XCD z 185 (14, [some (vR 213), some (vI (s : Int)), o], [], h, g) = some (none, h', g) ∧ IW Wl h0 h' := by
  intro k
  have hal : alen 222 = 128 := by decide +kernel
  have hal3 : alen 223 = 8 := by decide +kernel
  induction k with
  | zero =>
    intro s L h o hk hsa hL hI hW hl
    by_cases hs0 : s = 0
    · subst hs0
      refine ⟨h, ?_, hI⟩
      refine (stD (pc := 14) dz185_14 rfl).trans ?_
      refine (stD (pc := 15) dz185_15 (j0D true (by decide) (by unfold ccmp; decide +kernel))).trans ?_
      exact rtD (pc := 98) dz185_98 (rtV (by decide +kernel))
    · have hfl := FlW.fr hI.2 hf
      have hne : ccmp .eq (s : Int) 0 = false := cceq_f (by rw [w320, w32n (by omega)]; omega)
      by_cases hp : Pw h s
      · obtain ⟨b, b1, b2, b3, b4⟩ := hW s (by omega) (by omega) hp
        have := pc_e (by omega : s < 128) (by omega : b < 7) b2
        omega
      · have hle : ccmp .le (h 222 (s : Int)) 0 = true := ccle_t (by rw [w320]; exact hp)
        refine ⟨h, ?_, hI⟩
        refine (stD (pc := 14) dz185_14 rfl).trans ?_
        refine (stD (pc := 15) dz185_15 (j0D false (by decide) (hne))).trans ?_
        refine (stD (pc := 18) dz185_18 rfl).trans ?_
        refine (stD (pc := 19) dz185_19 (gfways hm185 hg)).trans ?_
        refine (stD (pc := 22) dz185_22 rfl).trans ?_
        refine (stD (pc := 23) dz185_23 (ialR hg (by decide +kernel) (w32n (by omega)) (by omega) (by rw [hal]; omega) (rd_fl (hfl.1 _ (by omega) (by omega))))).trans ?_
        refine (stD (pc := 24) dz185_24 (j0D true (by decide) (hle))).trans ?_
        exact rtD (pc := 98) dz185_98 (rtV (by decide +kernel))
  | succ k ih =>
    intro s L h o hk hsa hL hI hW hl
    by_cases hs0 : s = 0
    · subst hs0
      refine ⟨h, ?_, hI⟩
      refine (stD (pc := 14) dz185_14 rfl).trans ?_
      refine (stD (pc := 15) dz185_15 (j0D true (by decide) (by unfold ccmp; decide +kernel))).trans ?_
      exact rtD (pc := 98) dz185_98 (rtV (by decide +kernel))
    · have hfl := FlW.fr hI.2 hf
      have hs : s < 128 := by omega
      have hne : ccmp .eq (s : Int) 0 = false := cceq_f (by rw [w320, w32n (by omega)]; omega)
      by_cases hp : Pw h s
      · obtain ⟨b, b1, b2, b3, b4⟩ := hW s (by omega) (by omega) hp
        have hgt : ccmp .le (h 222 (s : Int)) 0 = false := ccle_f (by rw [w320]; exact hp)
        obtain ⟨c, h1, e1, e2, e3, e4, e5, e6⟩ := fl_in hz hB hg hf hn hc hs b1 b2 b4 b 0 h (by omega) hI b3
        have hfl1 := FlW.fr e4.2 hf
        have hpc := pc_e hs e2 e3
        have hrl := rm_lt hs e2 e3
        have hl1 : h1 213 17 = (L : Int) := e6.trans hl
        have hI2 := wrL (j := L) e4 (by omega) (by omega : c < 8)
        have hl2 : fl1 (u2 h1 223 (L : Int) (c : Int)) 223 (L : Int) 213 17 = (L : Int) := by rw [rd_o (by decide) (by decide) (by decide)]; exact hl1
        have hI3 := wrN hI2 (v := (L : Int) + 1) (by omega) (by omega)
        have hfl2 := FlW.fr hI2.2 hf
        obtain ⟨h', k1, k2⟩ := ih (rmB s c) (L + 1) _ (some (vI (c : Int))) (by omega) (by omega) (by omega) hI3 (WI_up hn (by omega) (fun t _ => by rw [rd_o (by decide) (by decide) (by decide), rd_o (by decide) (by decide) (by decide), e5]) hW) (rd_s (by decide) (by decide))
        refine ⟨h', ?_, k2⟩
        refine Eq.trans ?_ k1
        refine (stD (pc := 14) dz185_14 rfl).trans ?_
        refine (stD (pc := 15) dz185_15 (j0D false (by decide) (hne))).trans ?_
        refine (stD (pc := 18) dz185_18 rfl).trans ?_
        refine (stD (pc := 19) dz185_19 (gfways hm185 hg)).trans ?_
        refine (stD (pc := 22) dz185_22 rfl).trans ?_
        refine (stD (pc := 23) dz185_23 (ialR hg (by decide +kernel) (w32n (by omega)) (by omega) (by rw [hal]; omega) (rd_fl (hfl.1 _ (by omega) (by omega))))).trans ?_
        refine (stD (pc := 24) dz185_24 (j0D false (by decide) (hgt))).trans ?_
        refine (stD (pc := 27) dz185_27 rfl).trans ?_
        refine (stD (pc := 28) dz185_28 rfl).trans ?_
        refine e1.trans ?_
        refine (stD (pc := 67) dz185_67 (rfl)).trans ?_
        refine (stD (pc := 68) dz185_68 (gfline hm185 hg)).trans ?_
        refine (stD (pc := 71) dz185_71 rfl).trans ?_
        refine (stD (pc := 72) dz185_72 (gflined hm185 hg hfl1.2.2)).trans ?_
        rw [hl1]
        refine (stD (pc := 75) dz185_75 rfl).trans ?_
        refine (stD (pc := 76) dz185_76 (iasR hg (by decide +kernel) (w32n (by omega)) (by omega) (by rw [hal3]; omega))).trans ?_
        refine (stD (pc := 77) dz185_77 rfl).trans ?_
        refine (stD (pc := 78) dz185_78 rfl).trans ?_
        refine (stD (pc := 79) dz185_79 (gflined hm185 hg hfl2.2.2)).trans ?_
        rw [hl2]
        refine (stD (pc := 82) dz185_82 rfl).trans ?_
        refine (stD (pc := 83) dz185_83 rfl).trans ?_
        refine (stD (pc := 84) dz185_84 (pflined hm185 hg)).trans ?_
        refine (stD (pc := 87) dz185_87 rfl).trans ?_
        refine (stD (pc := 88) dz185_88 rfl).trans ?_
        refine (stD (pc := 89) dz185_89 rfl).trans ?_
        refine (stD (pc := 90) dz185_90 rfl).trans ?_
        refine (stD (pc := 91) dz185_91 rfl).trans ?_
        refine (stD (pc := 92) dz185_92 rfl).trans ?_
        refine (stD (pc := 93) dz185_93 rfl).trans ?_
        rw [rm_e hs e2]
        refine (stD (pc := 94) dz185_94 rfl).trans ?_
        refine (stD (pc := 95) dz185_95 rfl).trans ?_
        rfl
      · have hle : ccmp .le (h 222 (s : Int)) 0 = true := ccle_t (by rw [w320]; exact hp)
        refine ⟨h, ?_, hI⟩
        refine (stD (pc := 14) dz185_14 rfl).trans ?_
        refine (stD (pc := 15) dz185_15 (j0D false (by decide) (hne))).trans ?_
        refine (stD (pc := 18) dz185_18 rfl).trans ?_
        refine (stD (pc := 19) dz185_19 (gfways hm185 hg)).trans ?_
        refine (stD (pc := 22) dz185_22 rfl).trans ?_
        refine (stD (pc := 23) dz185_23 (ialR hg (by decide +kernel) (w32n (by omega)) (by omega) (by rw [hal]; omega) (rd_fl (hfl.1 _ (by omega) (by omega))))).trans ?_
        refine (stD (pc := 24) dz185_24 (j0D true (by decide) (hle))).trans ?_
        exact rtD (pc := 98) dz185_98 (rtV (by decide +kernel))
theorem flD {z : Int → Int} (hz : zOK z) {h0 : PH} {g : PG} (hB : BI h0) (hg : gInv g) (hf : FlW h0) {n : Nat} (hn : n ≤ 7) (hc : h0 214 0 = (n : Int)) : ∃ h', CALLD z 185 [vR 213] h0 g = some (none, h', g) ∧ IW Wl h0 h' := by
  have hL : mL 185 = 3 := by decide +kernel
  obtain ⟨all, ha, hA⟩ := th_rng hz hB hg
  obtain ⟨h1, w1, w2, w3⟩ := fwD hz hB hg hf hn hc ha hA
  have hn2 := w2.2.ns scWl
  have hI2 := wrN w2 (v := 0) (by decide) (by decide)
  have ht : CALLD z 128 [vR 213] (fl1 (u2 h1 213 17 0) 213 17) g = some (some (vI (all : Int)), fl1 (u2 h1 213 17 0) 213 17, g) := by
    rw [thereD hg, rd_o (by decide) (by decide) (by decide), rd_o (by decide) (by decide) (by decide), ns214 hn2, ns214 hn2, hA]
  obtain ⟨h', k1, k2⟩ := fl_out hz hB hg hf hn hc ha 7 all 0 (fl1 (u2 h1 213 17 0) 213 17) none (pc_7 ⟨all, ha⟩) (Nat.le_refl _) (by have := pc_7 ⟨all, ha⟩; simpa using this) hI2 (WI_up hn (by omega) (fun t _ => by rw [rd_o (by decide) (by decide) (by decide)]) w3) (rd_s (by decide) (by decide))
  refine ⟨h', ?_, k2⟩
  refine caD (l0 := [some (vR 213), none, none]) (by unfold entryL; rw [hL]; rfl) ?_
  refine Eq.trans ?_ k1
  refine (stD (pc := 0) dz185_0 rfl).trans ?_
  refine (clD (pc := 1) dz185_1 (cvD (by decide +kernel : okC 185 238 0 186 1 72 = true) hm185 hg rfl rfl rfl rfl) (w1)).trans ?_
  refine (stD (pc := 4) dz185_4 rfl).trans ?_
  refine (stD (pc := 5) dz185_5 rfl).trans ?_
  refine (stD (pc := 6) dz185_6 (pflined hm185 hg)).trans ?_
  refine (stD (pc := 9) dz185_9 rfl).trans ?_
  refine (clD (pc := 10) dz185_10 (cvD (by decide +kernel : okC 185 75 0 128 1 24 = true) hm185 hg rfl rfl rfl rfl) (ht)).trans ?_
  refine (stD (pc := 13) dz185_13 rfl).trans ?_
  rfl
def kc_line : Con := (185, [(2, none, 213, 0, 1)], [], [], [(65536 + 222 * 256, ([], 128)), (65536 + 223 * 256, ([], 8)), (65536 + 213 * 256 + 17, ([], 1))], Wl, [(none, [], [], [])])
theorem ko_line {z : Int → Int} (hz : zOK z) : conOK z kc_line := by
  intro avs V1 V2 h g h1 h2 hB hg hf hr
  obtain ⟨w, ws, x, xs, rfl, rfl, k1, k2⟩ := args1 h1
  obtain ⟨rfl, rfl⟩ := args0 k2
  rw [argR k1]
  have r1 := (hr (65536 + 222 * 256, ([], 128)) List.mem_cons_self).2
  have r2 := (hr (65536 + 223 * 256, ([], 8)) (List.mem_cons_of_mem _ List.mem_cons_self)).2
  have r3 := (hr (65536 + 213 * 256 + 17, ([], 1)) (List.mem_cons_of_mem _ (List.mem_cons_of_mem _ List.mem_cons_self))).2
  have hfl : FlW h := ⟨fun k k0 k1 => r1 k k0 k1, fun k k0 k1 => r2 k k0 k1, r3 17 (by decide) (show (17 : Int) < 17 + 1 from by decide)⟩
  have hcb := hB 214 (by decide) (0, 0, 0, 7) (by decide +kernel) 0 (by decide) (by decide)
  have hcb : (0 : Int) ≤ h 214 0 ∧ h 214 0 ≤ 7 := hcb
  obtain ⟨h', e1, e2⟩ := flD hz hB hg hfl (n := (h 214 0).toNat) (by omega) (by omega)
  exact ⟨none, h', g, e1, e2.1, e2.2, hg, _, List.mem_cons_self, 0, trivial, (fun q hq => by cases hq), (fun q hq => by cases hq), (fun q hq => by cases hq)⟩
