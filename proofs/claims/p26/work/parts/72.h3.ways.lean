/-! ===== findWays ===== -/
theorem hm186 : mO 186 = 8 := by decide +kernel
theorem dz186_0 : decode (mC 186) 0 = .ok ((.aload_n 0), 1) := by decide +kernel
theorem dz186_1 : decode (mC 186) 1 = .ok ((.invokevirtual 75), 3) := by decide +kernel
theorem dz186_4 : decode (mC 186) 4 = .ok ((.istore_n 1), 1) := by decide +kernel
theorem dz186_5 : decode (mC 186) 5 = .ok ((.aload_n 0), 1) := by decide +kernel
theorem dz186_6 : decode (mC 186) 6 = .ok ((.getfield 36), 3) := by decide +kernel
theorem dz186_9 : decode (mC 186) 9 = .ok ((.iconst 0), 1) := by decide +kernel
theorem dz186_10 : decode (mC 186) 10 = .ok ((.iconst 1), 1) := by decide +kernel
theorem dz186_11 : decode (mC 186) 11 = .ok (.iastore, 1) := by decide +kernel
theorem dz186_12 : decode (mC 186) 12 = .ok ((.iconst 1), 1) := by decide +kernel
theorem dz186_13 : decode (mC 186) 13 = .ok ((.istore_n 2), 1) := by decide +kernel
theorem dz186_14 : decode (mC 186) 14 = .ok ((.iload_n 2), 1) := by decide +kernel
theorem dz186_15 : decode (mC 186) 15 = .ok ((.iload_n 1), 1) := by decide +kernel
theorem dz186_16 : decode (mC 186) 16 = .ok ((.if_icmp .gt 98), 3) := by decide +kernel
theorem dz186_19 : decode (mC 186) 19 = .ok ((.aload_n 0), 1) := by decide +kernel
theorem dz186_20 : decode (mC 186) 20 = .ok ((.getfield 36), 3) := by decide +kernel
theorem dz186_23 : decode (mC 186) 23 = .ok ((.iload_n 2), 1) := by decide +kernel
theorem dz186_24 : decode (mC 186) 24 = .ok ((.iconst 0), 1) := by decide +kernel
theorem dz186_25 : decode (mC 186) 25 = .ok (.iastore, 1) := by decide +kernel
theorem dz186_26 : decode (mC 186) 26 = .ok ((.iload_n 2), 1) := by decide +kernel
theorem dz186_27 : decode (mC 186) 27 = .ok ((.iload_n 1), 1) := by decide +kernel
theorem dz186_28 : decode (mC 186) 28 = .ok ((.iconst (-1)), 1) := by decide +kernel
theorem dz186_29 : decode (mC 186) 29 = .ok (.ixor, 1) := by decide +kernel
theorem dz186_30 : decode (mC 186) 30 = .ok (.iand, 1) := by decide +kernel
theorem dz186_31 : decode (mC 186) 31 = .ok ((.ifCond .eq 6), 3) := by decide +kernel
theorem dz186_34 : decode (mC 186) 34 = .ok ((.goto 74), 3) := by decide +kernel
theorem dz186_37 : decode (mC 186) 37 = .ok ((.iconst 0), 1) := by decide +kernel
theorem dz186_38 : decode (mC 186) 38 = .ok ((.istore_n 3), 1) := by decide +kernel
theorem dz186_39 : decode (mC 186) 39 = .ok ((.iload_n 3), 1) := by decide +kernel
theorem dz186_40 : decode (mC 186) 40 = .ok ((.aload_n 0), 1) := by decide +kernel
theorem dz186_41 : decode (mC 186) 41 = .ok ((.getfield 9), 3) := by decide +kernel
theorem dz186_44 : decode (mC 186) 44 = .ok ((.iconst 0), 1) := by decide +kernel
theorem dz186_45 : decode (mC 186) 45 = .ok (.iaload, 1) := by decide +kernel
theorem dz186_46 : decode (mC 186) 46 = .ok ((.if_icmp .ge 62), 3) := by decide +kernel
theorem dz186_49 : decode (mC 186) 49 = .ok ((.iload_n 2), 1) := by decide +kernel
theorem dz186_50 : decode (mC 186) 50 = .ok ((.iload_n 3), 1) := by decide +kernel
theorem dz186_51 : decode (mC 186) 51 = .ok ((.invokestatic 79), 3) := by decide +kernel
theorem dz186_54 : decode (mC 186) 54 = .ok ((.ifCond .eq 48), 3) := by decide +kernel
theorem dz186_57 : decode (mC 186) 57 = .ok ((.aload_n 0), 1) := by decide +kernel
theorem dz186_58 : decode (mC 186) 58 = .ok ((.getfield 36), 3) := by decide +kernel
theorem dz186_61 : decode (mC 186) 61 = .ok ((.iload_n 2), 1) := by decide +kernel
theorem dz186_62 : decode (mC 186) 62 = .ok ((.iconst 1), 1) := by decide +kernel
theorem dz186_63 : decode (mC 186) 63 = .ok ((.iload_n 3), 1) := by decide +kernel
theorem dz186_64 : decode (mC 186) 64 = .ok (.ishl, 1) := by decide +kernel
theorem dz186_65 : decode (mC 186) 65 = .ok ((.iconst (-1)), 1) := by decide +kernel
theorem dz186_66 : decode (mC 186) 66 = .ok (.ixor, 1) := by decide +kernel
theorem dz186_67 : decode (mC 186) 67 = .ok (.iand, 1) := by decide +kernel
theorem dz186_68 : decode (mC 186) 68 = .ok (.iaload, 1) := by decide +kernel
theorem dz186_69 : decode (mC 186) 69 = .ok ((.ifCond .le 33), 3) := by decide +kernel
theorem dz186_72 : decode (mC 186) 72 = .ok ((.aload_n 0), 1) := by decide +kernel
theorem dz186_73 : decode (mC 186) 73 = .ok ((.iload_n 3), 1) := by decide +kernel
theorem dz186_74 : decode (mC 186) 74 = .ok ((.iload_n 2), 1) := by decide +kernel
theorem dz186_75 : decode (mC 186) 75 = .ok ((.invokevirtual 211), 3) := by decide +kernel
theorem dz186_78 : decode (mC 186) 78 = .ok ((.ifCond .eq 24), 3) := by decide +kernel
theorem dz186_81 : decode (mC 186) 81 = .ok ((.aload_n 0), 1) := by decide +kernel
theorem dz186_82 : decode (mC 186) 82 = .ok ((.getfield 36), 3) := by decide +kernel
theorem dz186_85 : decode (mC 186) 85 = .ok ((.iload_n 2), 1) := by decide +kernel
theorem dz186_86 : decode (mC 186) 86 = .ok (.dup2, 1) := by decide +kernel
theorem dz186_87 : decode (mC 186) 87 = .ok (.iaload, 1) := by decide +kernel
theorem dz186_88 : decode (mC 186) 88 = .ok ((.aload_n 0), 1) := by decide +kernel
theorem dz186_89 : decode (mC 186) 89 = .ok ((.getfield 36), 3) := by decide +kernel
theorem dz186_92 : decode (mC 186) 92 = .ok ((.iload_n 2), 1) := by decide +kernel
theorem dz186_93 : decode (mC 186) 93 = .ok ((.iconst 1), 1) := by decide +kernel
theorem dz186_94 : decode (mC 186) 94 = .ok ((.iload_n 3), 1) := by decide +kernel
theorem dz186_95 : decode (mC 186) 95 = .ok (.ishl, 1) := by decide +kernel
theorem dz186_96 : decode (mC 186) 96 = .ok ((.iconst (-1)), 1) := by decide +kernel
theorem dz186_97 : decode (mC 186) 97 = .ok (.ixor, 1) := by decide +kernel
theorem dz186_98 : decode (mC 186) 98 = .ok (.iand, 1) := by decide +kernel
theorem dz186_99 : decode (mC 186) 99 = .ok (.iaload, 1) := by decide +kernel
theorem dz186_100 : decode (mC 186) 100 = .ok (.iadd, 1) := by decide +kernel
theorem dz186_101 : decode (mC 186) 101 = .ok (.iastore, 1) := by decide +kernel
theorem dz186_102 : decode (mC 186) 102 = .ok ((.iinc 3 1), 3) := by decide +kernel
theorem dz186_105 : decode (mC 186) 105 = .ok ((.goto (-66)), 3) := by decide +kernel
theorem dz186_108 : decode (mC 186) 108 = .ok ((.iinc 2 1), 3) := by decide +kernel
theorem dz186_111 : decode (mC 186) 111 = .ok ((.goto (-97)), 3) := by decide +kernel
theorem dz186_114 : decode (mC 186) 114 = .ok (.return_, 1) := by decide +kernel
def Wl : WrT := [(213, 9, 14), (216, 0, 7), (217, 0, 63), (218, 0, 31), (219, 0, 31), (220, 0, 63), (221, 0, 63), (213, 17, 17), (222, 0, 127), (223, 0, 7)]
def FlW (h : PH) : Prop := (∀ k : Int, 0 ≤ k → k < 128 → h (222 + 4096) k = 1) ∧ (∀ k : Int, 0 ≤ k → k < 8 → h (223 + 4096) k = 1) ∧ h (213 + 4096) 17 = 1
theorem FlW.fr {W : WrT} {h h' : PH} (hF : FR W h h') (hf : FlW h) : FlW h' := ⟨fun k h0 h1 => hF.2 222 k (by decide) (hf.1 k h0 h1), fun k h0 h1 => hF.2 223 k (by decide) (hf.2.1 k h0 h1), hF.2 213 17 (by decide) hf.2.2⟩
theorem scWl : scW Wl = true := by decide +kernel
theorem ns214 {h h' : PH} (hn : NS h h') (k : Int) : h' 214 k = h 214 k := hn 214 k (by decide) (by decide) (by unfold scrt; rfl)
theorem subWf : subW kc_99.2.2.2.2.2.1 Wl = true := by decide +kernel
theorem frK {h h' : PH} (hF : FR kc_99.2.2.2.2.2.1 h h') : (∀ k, h' 222 k = h 222 k) ∧ (∀ k, h' 223 k = h 223 k) ∧ h' 213 17 = h 213 17 := by
  refine ⟨fun k => hF.1 222 k (by decide) (by decide) ?_, fun k => hF.1 223 k (by decide) (by decide) ?_, hF.1 213 17 (by decide) (by decide) ?_⟩
  all_goals
    rintro ⟨w, w1, w2, w3, w4⟩
    rcases List.mem_cons.mp w1 with rfl | w1
    · simp only at w2 w3 w4; omega
    rcases List.mem_cons.mp w1 with rfl | w1
    · simp only at w2 w3 w4; omega
    rcases List.mem_cons.mp w1 with rfl | w1
    · simp only at w2 w3 w4; omega
    rcases List.mem_cons.mp w1 with rfl | w1
    · simp only at w2 w3 w4; omega
    rcases List.mem_cons.mp w1 with rfl | w1
    · simp only at w2 w3 w4; omega
    rcases List.mem_cons.mp w1 with rfl | w1
    · simp only at w2 w3 w4; omega
    rcases List.mem_cons.mp w1 with rfl | w1
    · simp only at w2 w3 w4; omega
    cases w1
theorem pwW : (PW Wl).2 222 0 127 none = true := by decide +kernel
theorem wrW {h0 h : PH} (hI : IW Wl h0 h) {s : Nat} (hs : s < 128) (v : Int) : IW Wl h0 (fl1 (u2 h 222 (s : Int) v) 222 (s : Int)) := (tOK_PW Wl h0).2.1 h 222 0 127 s v none hI pwW (fun x hx => by cases hx) (Nat.zero_le _) (by omega) (by decide)
theorem rd_w {h : PH} {s t : Nat} {v : Int} : fl1 (u2 h 222 (s : Int) v) 222 (s : Int) 222 (t : Int) = if t = s then v else h 222 (t : Int) := by
  have e := fl_val (h := h) (a := 222) (i := (s : Int)) (V := v) (b := 222) (j := (t : Int)) (by decide) (by decide)
  rw [e]
  unfold u2
  rw [if_pos rfl]
  by_cases hts : t = s
  · rw [if_pos hts, if_pos (by omega)]
  · rw [if_neg hts, if_neg (by omega)]
def Fr (z : Int → Int) (g : PG) (h0 : PH) (b s : Nat) : Prop := ∃ h', CALLD z 146 [vR 213, vI (b : Int), vI (s : Int)] h0 g = some (some (vI 1), h', g)
def Pw (h : PH) (s : Nat) : Prop := 0 < w32 (h 222 (s : Int))
def Gd (z : Int → Int) (g : PG) (h0 : PH) (n : Nat) (h : PH) (s : Nat) : Prop := ∃ b : Nat, b < n ∧ hasB s b = true ∧ Pw h (rmB s b) ∧ Fr z g h0 b s
def WI (z : Int → Int) (g : PG) (h0 : PH) (n : Nat) (h : PH) (S : Nat) : Prop := ∀ s : Nat, 1 ≤ s → s < S → Pw h s → Gd z g h0 n h s
theorem WI_up {z : Int → Int} {g : PG} {h0 : PH} {n : Nat} {h h' : PH} {S : Nat} (hn : n ≤ 7) (hS : S ≤ 128) (e : ∀ s : Nat, s < S → h' 222 (s : Int) = h 222 (s : Int)) (k : WI z g h0 n h S) : WI z g h0 n h' S := by
  intro s s1 s2 hp
  unfold Pw at hp
  rw [e s s2] at hp
  obtain ⟨b, b1, b2, b3, b4⟩ := k s s1 s2 hp
  have hl := rm_lt (by omega : s < 128) (by omega : b < 7) b2
  refine ⟨b, b1, b2, ?_, b4⟩
  unfold Pw
  rw [e _ (by omega)]
  exact b3
theorem fr_1 {z : Int → Int} (hz : zOK z) {h0 h h' : PH} {g : PG} (hB : BI h0) (hg : gInv g) (hI : IW Wl h0 h) {b s : Nat} (hb : b < 7) (hs : s < 128) (e : CALLD z 146 [vR 213, vI (b : Int), vI (s : Int)] h g = some (some (vI 1), h', g)) : Fr z g h0 b s := by
  obtain ⟨v, h2, r1, -⟩ := fr_ex hz hB hg (b := (b : Int)) (s := (s : Int)) (by omega) ⟨by omega, by omega⟩
  have k := fr_det hz hB hg (hI.2.ns scWl) (b := (b : Int)) (s := (s : Int)) (by omega) ⟨by omega, by omega⟩ r1 e
  rw [k] at r1
  exact ⟨h2, r1⟩
theorem fw_in {z : Int → Int} (hz : zOK z) {h0 : PH} {g : PG} (hB : BI h0) (hg : gInv g) (hf : FlW h0) {n : Nat} (hn : n ≤ 7) (hc : h0 214 0 = (n : Int)) {all s : Nat} (hs1 : 1 ≤ s) (hs : s < 128) : ∀ (k b : Nat) (h : PH), b + k = n → IW Wl h0 h → WI z g h0 n h s → (Pw h s → Gd z g h0 n h s) →
    ∃ h', XCD z 186 (39, [some (vR 213), some (vI (all : Int)), some (vI (s : Int)), some (vI (b : Int))], [], h, g) = XCD z 186 (108, [some (vR 213), some (vI (all : Int)), some (vI (s : Int)), some (vI (n : Int))], [], h', g) ∧ IW Wl h0 h' ∧ WI z g h0 n h' (s + 1) := by
  intro k
  induction k with
  | zero =>
    intro b h hb hI hW hG
    have hbn : b = n := by omega
    subst hbn
    have e0 : h 214 0 = (b : Int) := (ns214 (hI.2.ns scWl) 0).trans hc
    refine ⟨h, ?_, hI, fun t t1 t2 tp => ?_⟩
    · have hge : ccmp .ge (b : Int) (h 214 0) = true := ccge_t (by rw [e0]; omega)
      refine (stD (pc := 39) dz186_39 rfl).trans ?_
      refine (stD (pc := 40) dz186_40 rfl).trans ?_
      refine (stD (pc := 41) dz186_41 (gfg hm186 hg)).trans ?_
      refine (stD (pc := 44) dz186_44 rfl).trans ?_
      refine (stD (pc := 45) dz186_45 (ialC hg)).trans ?_
      refine (stD (pc := 46) dz186_46 (jcD true (by decide) (hge))).trans ?_
      rfl
    · by_cases hts : t = s
      · rw [hts] at tp ⊢
        exact hG tp
      · exact hW t t1 (by omega) tp
  | succ k ih =>
    intro b h hb hI hW hG
    have e0 : h 214 0 = (n : Int) := (ns214 (hI.2.ns scWl) 0).trans hc
    have hlt : ccmp .ge (b : Int) (h 214 0) = false := ccge_f (by rw [e0, w32n (by omega), w32n (by omega)]; omega)
    have hb7 : b < 7 := by omega
    have hfl := FlW.fr hI.2 hf
    cases hh : hasB s b with
    | false =>
      obtain ⟨h', k1, k2, k3⟩ := ih (b + 1) h (by omega) hI hW hG
      refine ⟨h', ?_, k2, k3⟩
      refine Eq.trans ?_ k1
      have hd : CALLD z 129 [vI (s : Int), vI (b : Int)] h g = some (some (vI 0), h, g) := by
        have := hasD (z := z) hs (by omega : b < 8) (h := h) (g := g)
        rw [hh] at this
        exact this
      refine (stD (pc := 39) dz186_39 rfl).trans ?_
      refine (stD (pc := 40) dz186_40 rfl).trans ?_
      refine (stD (pc := 41) dz186_41 (gfg hm186 hg)).trans ?_
      refine (stD (pc := 44) dz186_44 rfl).trans ?_
      refine (stD (pc := 45) dz186_45 (ialC hg)).trans ?_
      refine (stD (pc := 46) dz186_46 (jcD false (by decide) (hlt))).trans ?_
      refine (stD (pc := 49) dz186_49 rfl).trans ?_
      refine (stD (pc := 50) dz186_50 rfl).trans ?_
      refine (clD (pc := 51) dz186_51 (csD (by decide +kernel : okC 186 79 1 129 2 40 = true) (by decide +kernel) rfl rfl rfl) (hd)).trans ?_
      refine (stD (pc := 54) dz186_54 (j0D true (by decide) (by unfold ccmp; rfl))).trans ?_
      refine (stD (pc := 102) dz186_102 rfl).trans ?_
      refine (stD (pc := 105) dz186_105 rfl).trans ?_
      rfl
    | true =>
      have hd : CALLD z 129 [vI (s : Int), vI (b : Int)] h g = some (some (vI 1), h, g) := by
        have := hasD (z := z) hs (by omega : b < 8) (h := h) (g := g)
        rw [hh] at this
        exact this
      have hrl := rm_lt hs hb7 hh
      have hre : w32 (andI (s : Int) (xorI (shlI 1 (b : Int)) (-1))) = ((rmB s b : Nat) : Int) := by rw [rm_e hs hb7]; exact w32n (by omega)
      have hal : alen 222 = 128 := by decide +kernel
      by_cases hp : Pw h (rmB s b)
      · obtain ⟨v, h1, f1, f2, f3, f4, f5⟩ := fr_ex hz hI.1 hg (b := (b : Int)) (s := (s : Int)) (by omega) ⟨by omega, by omega⟩
        have hI1 : IW Wl h0 h1 := IW_tr hI f4 f5 subWf
        obtain ⟨q1, q2, q3⟩ := frK f5
        have hW1 : WI z g h0 n h1 s := WI_up hn (by omega) (fun t _ => q1 _) hW
        have hfl1 := FlW.fr hI1.2 hf
        have hpos : ccmp .le (h 222 ((rmB s b : Nat) : Int)) 0 = false := ccle_f (by rw [w320]; exact hp)
        rcases (show v = 0 ∨ v = 1 from by omega) with rfl | rfl
        · have hG1 : Pw h1 s → Gd z g h0 n h1 s := by
            intro hp1
            unfold Pw at hp1
            rw [q1] at hp1
            obtain ⟨c, c1, c2, c3, c4⟩ := hG hp1
            refine ⟨c, c1, c2, ?_, c4⟩
            unfold Pw
            rw [q1]
            exact c3
          obtain ⟨h', k1, k2, k3⟩ := ih (b + 1) h1 (by omega) hI1 hW1 hG1
          refine ⟨h', ?_, k2, k3⟩
          refine Eq.trans ?_ k1
          refine (stD (pc := 39) dz186_39 rfl).trans ?_
          refine (stD (pc := 40) dz186_40 rfl).trans ?_
          refine (stD (pc := 41) dz186_41 (gfg hm186 hg)).trans ?_
          refine (stD (pc := 44) dz186_44 rfl).trans ?_
          refine (stD (pc := 45) dz186_45 (ialC hg)).trans ?_
          refine (stD (pc := 46) dz186_46 (jcD false (by decide) (hlt))).trans ?_
          refine (stD (pc := 49) dz186_49 rfl).trans ?_
          refine (stD (pc := 50) dz186_50 rfl).trans ?_
          refine (clD (pc := 51) dz186_51 (csD (by decide +kernel : okC 186 79 1 129 2 40 = true) (by decide +kernel) rfl rfl rfl) (hd)).trans ?_
          refine (stD (pc := 54) dz186_54 (j0D false (by decide) (by unfold ccmp; decide +kernel))).trans ?_
          refine (stD (pc := 57) dz186_57 rfl).trans ?_
          refine (stD (pc := 58) dz186_58 (gfways hm186 hg)).trans ?_
          refine (stD (pc := 61) dz186_61 rfl).trans ?_
          refine (stD (pc := 62) dz186_62 rfl).trans ?_
          refine (stD (pc := 63) dz186_63 rfl).trans ?_
          refine (stD (pc := 64) dz186_64 rfl).trans ?_
          refine (stD (pc := 65) dz186_65 rfl).trans ?_
          refine (stD (pc := 66) dz186_66 rfl).trans ?_
          refine (stD (pc := 67) dz186_67 rfl).trans ?_
          refine (stD (pc := 68) dz186_68 (ialR hg (by decide +kernel) hre (by omega) (by rw [hal]; omega) (rd_fl (hfl.1 _ (by omega) (by omega))))).trans ?_
          refine (stD (pc := 69) dz186_69 (j0D false (by decide) (hpos))).trans ?_
          refine (stD (pc := 72) dz186_72 rfl).trans ?_
          refine (stD (pc := 73) dz186_73 rfl).trans ?_
          refine (stD (pc := 74) dz186_74 rfl).trans ?_
          refine (clD (pc := 75) dz186_75 (cvD (by decide +kernel : okC 186 211 0 146 3 56 = true) hm186 hg rfl rfl rfl rfl) (f1)).trans ?_
          refine (stD (pc := 78) dz186_78 (j0D true (by decide) (by unfold ccmp; rfl))).trans ?_
          refine (stD (pc := 102) dz186_102 rfl).trans ?_
          refine (stD (pc := 105) dz186_105 rfl).trans ?_
          rfl
        · have hIn := wrW hI1 hs (h1 222 (s : Int) + h1 222 ((rmB s b : Nat) : Int))
          have hW2 := WI_up (h' := fl1 (u2 h1 222 (s : Int) (h1 222 (s : Int) + h1 222 ((rmB s b : Nat) : Int))) 222 (s : Int)) hn (by omega) (fun t ht => by rw [rd_w, if_neg (by omega)]) hW1
          obtain ⟨h', k1, k2, k3⟩ := ih (b + 1) _ (by omega) hIn hW2 (fun _ => ⟨b, by omega, hh, by
            unfold Pw
            rw [rd_w, if_neg (by omega), q1]
            exact hp, fr_1 hz hB hg hI hb7 hs f1⟩)
          refine ⟨h', ?_, k2, k3⟩
          refine Eq.trans ?_ k1
          refine (stD (pc := 39) dz186_39 rfl).trans ?_
          refine (stD (pc := 40) dz186_40 rfl).trans ?_
          refine (stD (pc := 41) dz186_41 (gfg hm186 hg)).trans ?_
          refine (stD (pc := 44) dz186_44 rfl).trans ?_
          refine (stD (pc := 45) dz186_45 (ialC hg)).trans ?_
          refine (stD (pc := 46) dz186_46 (jcD false (by decide) (hlt))).trans ?_
          refine (stD (pc := 49) dz186_49 rfl).trans ?_
          refine (stD (pc := 50) dz186_50 rfl).trans ?_
          refine (clD (pc := 51) dz186_51 (csD (by decide +kernel : okC 186 79 1 129 2 40 = true) (by decide +kernel) rfl rfl rfl) (hd)).trans ?_
          refine (stD (pc := 54) dz186_54 (j0D false (by decide) (by unfold ccmp; decide +kernel))).trans ?_
          refine (stD (pc := 57) dz186_57 rfl).trans ?_
          refine (stD (pc := 58) dz186_58 (gfways hm186 hg)).trans ?_
          refine (stD (pc := 61) dz186_61 rfl).trans ?_
          refine (stD (pc := 62) dz186_62 rfl).trans ?_
          refine (stD (pc := 63) dz186_63 rfl).trans ?_
          refine (stD (pc := 64) dz186_64 rfl).trans ?_
          refine (stD (pc := 65) dz186_65 rfl).trans ?_
          refine (stD (pc := 66) dz186_66 rfl).trans ?_
          refine (stD (pc := 67) dz186_67 rfl).trans ?_
          refine (stD (pc := 68) dz186_68 (ialR hg (by decide +kernel) hre (by omega) (by rw [hal]; omega) (rd_fl (hfl.1 _ (by omega) (by omega))))).trans ?_
          refine (stD (pc := 69) dz186_69 (j0D false (by decide) (hpos))).trans ?_
          refine (stD (pc := 72) dz186_72 rfl).trans ?_
          refine (stD (pc := 73) dz186_73 rfl).trans ?_
          refine (stD (pc := 74) dz186_74 rfl).trans ?_
          refine (clD (pc := 75) dz186_75 (cvD (by decide +kernel : okC 186 211 0 146 3 56 = true) hm186 hg rfl rfl rfl rfl) (f1)).trans ?_
          refine (stD (pc := 78) dz186_78 (j0D false (by decide) (by unfold ccmp; decide +kernel))).trans ?_
          refine (stD (pc := 81) dz186_81 rfl).trans ?_
          refine (stD (pc := 82) dz186_82 (gfways hm186 hg)).trans ?_
          refine (stD (pc := 85) dz186_85 rfl).trans ?_
          refine (stD (pc := 86) dz186_86 rfl).trans ?_
          refine (stD (pc := 87) dz186_87 (ialR hg (by decide +kernel) (w32n (by omega)) (by omega) (by rw [hal]; omega) (rd_fl (hfl1.1 _ (by omega) (by omega))))).trans ?_
          refine (stD (pc := 88) dz186_88 rfl).trans ?_
          refine (stD (pc := 89) dz186_89 (gfways hm186 hg)).trans ?_
          refine (stD (pc := 92) dz186_92 rfl).trans ?_
          refine (stD (pc := 93) dz186_93 rfl).trans ?_
          refine (stD (pc := 94) dz186_94 rfl).trans ?_
          refine (stD (pc := 95) dz186_95 rfl).trans ?_
          refine (stD (pc := 96) dz186_96 rfl).trans ?_
          refine (stD (pc := 97) dz186_97 rfl).trans ?_
          refine (stD (pc := 98) dz186_98 rfl).trans ?_
          refine (stD (pc := 99) dz186_99 (ialR hg (by decide +kernel) hre (by omega) (by rw [hal]; omega) (rd_fl (hfl1.1 _ (by omega) (by omega))))).trans ?_
          refine (stD (pc := 100) dz186_100 rfl).trans ?_
          refine (stD (pc := 101) dz186_101 (iasR hg (by decide +kernel) (w32n (by omega)) (by omega) (by rw [hal]; omega))).trans ?_
          refine (stD (pc := 102) dz186_102 rfl).trans ?_
          refine (stD (pc := 105) dz186_105 rfl).trans ?_
          rfl
      · obtain ⟨h', k1, k2, k3⟩ := ih (b + 1) h (by omega) hI hW hG
        refine ⟨h', ?_, k2, k3⟩
        refine Eq.trans ?_ k1
        have hpos : ccmp .le (h 222 ((rmB s b : Nat) : Int)) 0 = true := ccle_t (by rw [w320]; exact hp)
        refine (stD (pc := 39) dz186_39 rfl).trans ?_
        refine (stD (pc := 40) dz186_40 rfl).trans ?_
        refine (stD (pc := 41) dz186_41 (gfg hm186 hg)).trans ?_
        refine (stD (pc := 44) dz186_44 rfl).trans ?_
        refine (stD (pc := 45) dz186_45 (ialC hg)).trans ?_
        refine (stD (pc := 46) dz186_46 (jcD false (by decide) (hlt))).trans ?_
        refine (stD (pc := 49) dz186_49 rfl).trans ?_
        refine (stD (pc := 50) dz186_50 rfl).trans ?_
        refine (clD (pc := 51) dz186_51 (csD (by decide +kernel : okC 186 79 1 129 2 40 = true) (by decide +kernel) rfl rfl rfl) (hd)).trans ?_
        refine (stD (pc := 54) dz186_54 (j0D false (by decide) (by unfold ccmp; decide +kernel))).trans ?_
        refine (stD (pc := 57) dz186_57 rfl).trans ?_
        refine (stD (pc := 58) dz186_58 (gfways hm186 hg)).trans ?_
        refine (stD (pc := 61) dz186_61 rfl).trans ?_
        refine (stD (pc := 62) dz186_62 rfl).trans ?_
        refine (stD (pc := 63) dz186_63 rfl).trans ?_
        refine (stD (pc := 64) dz186_64 rfl).trans ?_
        refine (stD (pc := 65) dz186_65 rfl).trans ?_
        refine (stD (pc := 66) dz186_66 rfl).trans ?_
        refine (stD (pc := 67) dz186_67 rfl).trans ?_
        refine (stD (pc := 68) dz186_68 (ialR hg (by decide +kernel) hre (by omega) (by rw [hal]; omega) (rd_fl (hfl.1 _ (by omega) (by omega))))).trans ?_
        refine (stD (pc := 69) dz186_69 (j0D true (by decide) (hpos))).trans ?_
        refine (stD (pc := 102) dz186_102 rfl).trans ?_
        refine (stD (pc := 105) dz186_105 rfl).trans ?_
        rfl
theorem fw_out {z : Int → Int} (hz : zOK z) {h0 : PH} {g : PG} (hB : BI h0) (hg : gInv g) (hf : FlW h0) {n : Nat} (hn : n ≤ 7) (hc : h0 214 0 = (n : Int)) {all : Nat} (ha : all < 128) : ∀ (k s : Nat) (h : PH) (o : Option PV), s + k = all + 1 → 1 ≤ s → IW Wl h0 h → WI z g h0 n h s →
    ∃ h', XCD z 186 (14, [some (vR 213), some (vI (all : Int)), some (vI (s : Int)), o], [], h, g) = some (none, h', g) ∧ IW Wl h0 h' ∧ WI z g h0 n h' (all + 1) := by
  intro k
  induction k with
  | zero =>
    intro s h o hk h1 hI hW
    have hs : s = all + 1 := by omega
    subst hs
    refine ⟨h, ?_, hI, hW⟩
    have hgt : ccmp .gt ((all + 1 : Nat) : Int) (all : Int) = true := ccgt_t (by rw [w32n (by omega), w32n (by omega)]; omega)
    refine (stD (pc := 14) dz186_14 rfl).trans ?_
    refine (stD (pc := 15) dz186_15 rfl).trans ?_
    refine (stD (pc := 16) dz186_16 (jcD true (by decide) (hgt))).trans ?_
    exact rtD (pc := 114) dz186_114 (rtV (by decide +kernel))
  | succ k ih =>
    intro s h o hk h1 hI hW
    have hgt : ccmp .gt (s : Int) (all : Int) = false := ccgt_f (by rw [w32n (by omega), w32n (by omega)]; omega)
    have hs : s < 128 := by omega
    have hal : alen 222 = 128 := by decide +kernel
    have hI1 := wrW hI hs 0
    have hW1 := WI_up (h' := fl1 (u2 h 222 (s : Int) 0) 222 (s : Int)) hn (by omega) (fun t ht => by rw [rd_w, if_neg (by omega)]) hW
    have hz1 : ¬ Pw (fl1 (u2 h 222 (s : Int) 0) 222 (s : Int)) s := by
      unfold Pw
      rw [rd_w, if_pos rfl, w320]
      omega
    cases hx : ccmp .eq (andI (s : Int) (xorI (all : Int) (-1))) 0 with
    | true =>
      obtain ⟨h2, k1, k2, k3⟩ := fw_in hz hB hg hf hn hc (all := all) h1 hs n 0 _ (by omega) hI1 hW1 (fun hp => absurd hp hz1)
      obtain ⟨h3, l1, l2, l3⟩ := ih (s + 1) h2 (some (vI (n : Int))) (by omega) (by omega) k2 k3
      refine ⟨h3, ?_, l2, l3⟩
      refine Eq.trans ?_ l1
      refine (stD (pc := 14) dz186_14 rfl).trans ?_
      refine (stD (pc := 15) dz186_15 rfl).trans ?_
      refine (stD (pc := 16) dz186_16 (jcD false (by decide) (hgt))).trans ?_
      refine (stD (pc := 19) dz186_19 rfl).trans ?_
      refine (stD (pc := 20) dz186_20 (gfways hm186 hg)).trans ?_
      refine (stD (pc := 23) dz186_23 rfl).trans ?_
      refine (stD (pc := 24) dz186_24 rfl).trans ?_
      refine (stD (pc := 25) dz186_25 (iasR hg (by decide +kernel) (w32n (by omega)) (by omega) (by rw [hal]; omega))).trans ?_
      refine (stD (pc := 26) dz186_26 rfl).trans ?_
      refine (stD (pc := 27) dz186_27 rfl).trans ?_
      refine (stD (pc := 28) dz186_28 rfl).trans ?_
      refine (stD (pc := 29) dz186_29 rfl).trans ?_
      refine (stD (pc := 30) dz186_30 rfl).trans ?_
      refine (stD (pc := 31) dz186_31 (j0D true (by decide) (hx))).trans ?_
      refine (stD (pc := 37) dz186_37 rfl).trans ?_
      refine (stD (pc := 38) dz186_38 rfl).trans ?_
      refine k1.trans ?_
      refine (stD (pc := 108) dz186_108 rfl).trans ?_
      refine (stD (pc := 111) dz186_111 rfl).trans ?_
      rfl
    | false =>
      obtain ⟨h3, l1, l2, l3⟩ := ih (s + 1) _ o (by omega) (by omega) hI1 (fun t t1 t2 tp => by
        by_cases hts : t = s
        · rw [hts] at tp
          exact absurd tp hz1
        · exact hW1 t t1 (by omega) tp)
      refine ⟨h3, ?_, l2, l3⟩
      refine Eq.trans ?_ l1
      refine (stD (pc := 14) dz186_14 rfl).trans ?_
      refine (stD (pc := 15) dz186_15 rfl).trans ?_
      refine (stD (pc := 16) dz186_16 (jcD false (by decide) (hgt))).trans ?_
      refine (stD (pc := 19) dz186_19 rfl).trans ?_
      refine (stD (pc := 20) dz186_20 (gfways hm186 hg)).trans ?_
      refine (stD (pc := 23) dz186_23 rfl).trans ?_
      refine (stD (pc := 24) dz186_24 rfl).trans ?_
      refine (stD (pc := 25) dz186_25 (iasR hg (by decide +kernel) (w32n (by omega)) (by omega) (by rw [hal]; omega))).trans ?_
      refine (stD (pc := 26) dz186_26 rfl).trans ?_
      refine (stD (pc := 27) dz186_27 rfl).trans ?_
      refine (stD (pc := 28) dz186_28 rfl).trans ?_
      refine (stD (pc := 29) dz186_29 rfl).trans ?_
      refine (stD (pc := 30) dz186_30 rfl).trans ?_
      refine (stD (pc := 31) dz186_31 (j0D false (by decide) (hx))).trans ?_
      refine (stD (pc := 34) dz186_34 rfl).trans ?_
      refine (stD (pc := 108) dz186_108 rfl).trans ?_
      refine (stD (pc := 111) dz186_111 rfl).trans ?_
      rfl
theorem th_rng {z : Int → Int} (hz : zOK z) {h0 : PH} {g : PG} (hB : BI h0) (hg : gInv g) : ∃ all : Nat, all < 128 ∧ andI (shlI 1 (h0 214 0) - 1) (xorI (h0 214 1) (-1)) = (all : Int) := by
  obtain ⟨v, h', g', r1, r2, r3, r4, a, ha, x, x1, -⟩ := ko_11 hz [vR 213] [0] [] h0 g ⟨⟨rfl, by simp, by omega, by decide⟩, trivial⟩ trivial hB hg (fun f hf => by cases hf) (fun q hq => by cases hq)
  have r1 : CALLD z 128 [vR 213] h0 g = some (v, h', g') := r1
  rw [thereD hg] at r1
  cases r1
  rcases List.mem_cons.mp ha with rfl | ha
  · obtain ⟨y1, y2, y3⟩ := x1
    have := y3 (0, 127) rfl
    have y2 : _ = x := y2
    rw [y2]
    exact ⟨x.toNat, by omega, by omega⟩
  · cases ha
theorem fwD {z : Int → Int} (hz : zOK z) {h0 : PH} {g : PG} (hB : BI h0) (hg : gInv g) (hf : FlW h0) {n : Nat} (hn : n ≤ 7) (hc : h0 214 0 = (n : Int)) {all : Nat} (ha : all < 128) (hA : andI (shlI 1 (h0 214 0) - 1) (xorI (h0 214 1) (-1)) = (all : Int)) : ∃ h', CALLD z 186 [vR 213] h0 g = some (none, h', g) ∧ IW Wl h0 h' ∧ WI z g h0 n h' (all + 1) := by
  have hL : mL 186 = 4 := by decide +kernel
  have hal : alen 222 = 128 := by decide +kernel
  have hI0 := wrW (h0 := h0) ⟨hB, FR.rf⟩ (s := 0) (by decide) 1
  obtain ⟨h', k1, k2, k3⟩ := fw_out hz hB hg hf hn hc ha all 1 _ none (by omega) (by omega) hI0 (fun s s1 s2 _ => by omega)
  refine ⟨h', ?_, k2, k3⟩
  refine caD (l0 := [some (vR 213), none, none, none]) (by unfold entryL; rw [hL]; rfl) ?_
  refine Eq.trans ?_ k1
  have ht : CALLD z 128 [vR 213] h0 g = some (some (vI (all : Int)), h0, g) := by
    rw [← hA]
    exact thereD hg
  refine (stD (pc := 0) dz186_0 rfl).trans ?_
  refine (clD (pc := 1) dz186_1 (cvD (by decide +kernel : okC 186 75 0 128 1 24 = true) hm186 hg rfl rfl rfl rfl) (ht)).trans ?_
  refine (stD (pc := 4) dz186_4 rfl).trans ?_
  refine (stD (pc := 5) dz186_5 rfl).trans ?_
  refine (stD (pc := 6) dz186_6 (gfways hm186 hg)).trans ?_
  refine (stD (pc := 9) dz186_9 rfl).trans ?_
  refine (stD (pc := 10) dz186_10 rfl).trans ?_
  refine (stD (pc := 11) dz186_11 (iasR hg (by decide +kernel) (j := 0) (by decide +kernel) (by decide) (by rw [hal]; decide))).trans ?_
  refine (stD (pc := 12) dz186_12 rfl).trans ?_
  refine (stD (pc := 13) dz186_13 rfl).trans ?_
  rfl
