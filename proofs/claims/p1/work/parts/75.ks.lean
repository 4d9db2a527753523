/-! ===== those calls, proved ===== -/
theorem cF104 : cOv F104 = true := by decide +kernel
theorem cF106 : cOv F106 = true := by decide +kernel
section KS
variable {z : Int → Int} {σ : Nat → Int} {C : Cx} {ov : OV} {h : PH} {g : PG} {rs : List Rt} {av : List AV} {avs : List PV}
def KC (z : Int → Int) (σ : Nat → Int) (C : Cx) (m : Nat) (avs : List PV) (h : PH) (g : PG) (rs : List Rt) : Prop :=
  ∃ r ∈ rs, ∃ σ' v h' g', AG (nV C) σ σ' ∧ nV C ≤ nV r.1 ∧ CALL z m avs h g = some (v, h', g') ∧ qR σ' (nV r.1) r.2.1 v ∧ qH PR z Z7 σ' r.1 r.2.2 h' g'
theorem ivIn_b {σ : Nat → Int} {C : Cx} (hC : satC σ C) {p : AP} {n : Nat} {X a b : Int} (hp : okP σ n p X) (h : ivIn C p (some (a, b)) = true) : a ≤ X ∧ X ≤ b := by
  have k := ivIn_ok hC h (a, b) rfl
  rw [hp.2] at k
  exact k
theorem k74_ok (e : k74 C av = some rs) (hm : mtP ov F104 = true) (ha : qSs σ (nV C) av avs) (H : qH PR z Z7 σ C ov h g) : KC z σ C 74 avs h g rs := by
  unfold k74 at e
  split at e
  · rename_i p
    cases hk : ivIn C p (some (1, 999)) with
    | false => rw [hk] at e; cases e
    | true =>
      rw [hk] at e
      cases e
      obtain ⟨X, s1, rfl, h1, t1⟩ := qSs_l ha
      have hs := qSs_n t1
      subst hs
      have hb := ivIn_b H.1 h1 hk
      obtain ⟨r, σ', v, h', g', a1, a2, a3, a4, a5, a6⟩ := sum_ok (z := z) (w := fun _ => X) (avG := [.inr (.inl (apV 8))]) (avs := [.inr (.inl X)]) (h := h) (g := g) (G := Cw) (F := F104) (by rfl) H.2.1.2.2 (by decide) (satG ⟨hb, trivial⟩) ⟨okP_V (v := 8) (by decide), trivial⟩ (hOv_const cF104 (hOv_sub hm H.2.2.2.2)) H.2.2.2.1 r74_ok
      obtain ⟨b1, b2, b3⟩ := ckC_ok a1 a5 a6
      subst b1
      exact k_end H cF104 a4 b2 b3
  · cases e
theorem k106_ok {r : Int} {m f : Nat} {t : MT} {F : OV} (ht : pTm m = some t) (hF : cOv F = true) (hr : allR (rOn TL m t Cg (a106 r) F f) (ckC (-1) F) = true) (e : k106 r F C av = some rs) (hm : mtP ov F = true) (ha : qSs σ (nV C) av avs) (H : qH PR z Z7 σ C ov h g) : KC z σ C m avs h g rs := by
  unfold k106 at e
  split at e
  · rename_i a s n
    split at e
    · rename_i a' ha'
      cases hk : eqZ a' r && ivIn C n (some (1, 30)) with
      | false => rw [hk] at e; cases e
      | true =>
        rw [hk] at e
        cases e
        have hk := Bool.and_eq_true_iff.mp hk
        obtain ⟨A, s1, rfl, h1, t1⟩ := qSs_r ha
        obtain ⟨S, s2, rfl, h2, t2⟩ := qSs_i t1
        obtain ⟨N, s3, rfl, h3, t3⟩ := qSs_i t2
        have hs := qSs_n t3
        subst hs
        have hA : A = r := by
          have k := cst_ok H.1 ha'
          rw [h1.2] at k
          rw [k]
          exact eqZ_iff.mp hk.1
        subst hA
        have hb := ivIn_b H.1 h3 hk.2
        obtain ⟨r, σ', v, h', g', a1, a2, a3, a4, a5, a6⟩ := sum_ok (z := z) (w := fun i => match i with
          | 0 => S
          | _ => N) (avG := a106 A) (avs := [.inr (.inr A), .inl S, .inl N]) (h := h) (g := g) (G := Cg) (F := F) ht H.2.1.2.2 (by decide) (satG ⟨hb, trivial⟩) ⟨okP_C _ _ _, okP_V (v := 8) (by decide), okP_V (v := 9) (by decide), trivial⟩ (hOv_const hF (hOv_sub hm H.2.2.2.2)) H.2.2.2.1 hr
        obtain ⟨b1, b2, b3⟩ := ckC_ok a1 a5 a6
        subst b1
        exact k_end H hF a4 b2 b3
    · cases e
  · cases e
theorem fitO_ok {r : Rt} {σ' : Nat → Int} {v : Option PV} {h' : PH} {g' : PG} {p w d : Int} (hk : fitO F104 r = true) (hq : qR σ' (nV r.1) r.2.1 v) (hH : qH PR z Z7 σ' r.1 r.2.2 h' g') (e8 : σ' 8 = p % 8) (e9 : σ' 9 = p / 8) (e10 : σ' 10 = w) (e11 : σ' 11 = d) : v = some (.inl (fitN p w d)) ∧ gInv g' ∧ hOv σ' (nV r.1) F104 h' := by
  unfold fitO at hk
  split at hk
  · rename_i q hp
    split at hk
    · rename_i x hx
      have hk := Bool.and_eq_true_iff.mp hk
      refine ⟨?_, hH.2.2.2.1, hOv_sub hk.2 hH.2.2.2.2⟩
      rw [hp] at hq
      rw [val_ok hH.1 hq hx]
      have eX : ev σ' pXW = p % 8 + w - 8 := by
        unfold pXW
        rw [ev_add, ev_add, ev_V, ev_V, ev_C, e8, e10]
        omega
      have eY : ev σ' pYD = p / 8 + d - 8 := by
        unfold pYD
        rw [ev_add, ev_add, ev_V, ev_V, ev_C, e9, e11]
        omega
      have hl : ∀ {q : AP}, le0 r.1 q = true → ev σ' q ≤ 0 := fun {q} hq => by
        unfold le0 at hq
        split at hq
        · rename_i y hy
          have := ivP_ok hH.1 hy
          have := leZ_iff.mp hq
          omega
        · cases hq
      have hg : ∀ {q : AP}, ge1 r.1 q = true → 1 ≤ ev σ' q := fun {q} hq => by
        unfold ge1 at hq
        split at hq
        · rename_i y hy
          have := ivP_ok hH.1 hy
          have := leZ_iff.mp hq
          omega
        · cases hq
      unfold fitN
      rcases Bool.or_eq_true_iff.mp hk.1 with k | k
      · have k := Bool.and_eq_true_iff.mp k
        have k2 := Bool.and_eq_true_iff.mp k.2
        have k3 := hl k2.1
        have k4 := hl k2.2
        rw [eX] at k3
        rw [eY] at k4
        rw [leZ_iff.mpr (show p % 8 + w ≤ 8 by omega), leZ_iff.mpr (show p / 8 + d ≤ 8 by omega), eqZ_iff.mp k.1]
        rfl
      · have k := Bool.and_eq_true_iff.mp k
        rcases Bool.or_eq_true_iff.mp k.2 with k2 | k2
        · have k3 := hg k2
          rw [eX] at k3
          rw [leZ_f.mpr (show 8 < p % 8 + w by omega), eqZ_iff.mp k.1]
          rfl
        · have k3 := hg k2
          rw [eY] at k3
          rw [leZ_f.mpr (show 8 < p / 8 + d by omega), eqZ_iff.mp k.1, Bool.and_false]
          rfl
    · cases hk
  · cases hk
/-- the numbers of a place: x, y, w, d, h, weight -/
def wP (p w d s t : Int) (i : Nat) : Int := match i with
  | 0 => p % 8
  | 1 => p / 8
  | 2 => w
  | 3 => d
  | 4 => s - 100 * w - 10 * d
  | _ => t
theorem wP_sat {p w d s t : Int} {q : IV} (h1 : 0 ≤ p ∧ p ≤ 63) (h2 : 1 ≤ w ∧ w ≤ 4) (h3 : 1 ≤ d ∧ d ≤ 4) (h4 : 100 * w + 10 * d + 1 ≤ s ∧ s ≤ 100 * w + 10 * d + 4) (h5 : q.1 ≤ t ∧ t ≤ q.2) : satC (sg z (wP p w d s t)) (Cs q) := by
  refine satG ⟨?_, ?_, ?_, ?_, ?_, ?_, trivial⟩
  · show 0 ≤ p % 8 ∧ p % 8 ≤ 7
    omega
  · show 0 ≤ p / 8 ∧ p / 8 ≤ 7
    omega
  · exact h2
  · exact h3
  · show 1 ≤ s - 100 * w - 10 * d ∧ s - 100 * w - 10 * d ≤ 4
    omega
  · exact h5
theorem wP_pl {p w d s t : Int} : okP (sg z (wP p w d s t)) 14 pPl p := by
  have k := ((okP_C (sg z (wP p w d s t)) 14 8).mul (okP_V (v := 9) (by decide))).add (okP_V (σ := sg z (wP p w d s t)) (n := 14) (v := 8) (by decide))
  have e : 8 * sg z (wP p w d s t) 9 + sg z (wP p w d s t) 8 = p := by
    show 8 * (p / 8) + p % 8 = p
    omega
  rw [e] at k
  exact k
theorem wP_sz {p w d s t : Int} : okP (sg z (wP p w d s t)) 14 pSz s := by
  have k := (((okP_C (sg z (wP p w d s t)) 14 100).mul (okP_V (v := 10) (by decide))).add ((okP_C (sg z (wP p w d s t)) 14 10).mul (okP_V (v := 11) (by decide)))).add (okP_V (σ := sg z (wP p w d s t)) (n := 14) (v := 12) (by decide))
  have e : 100 * sg z (wP p w d s t) 10 + 10 * sg z (wP p w d s t) 11 + sg z (wP p w d s t) 12 = s := by
    show 100 * w + 10 * d + (s - 100 * w - 10 * d) = s
    omega
  rw [e] at k
  exact k
theorem k104_ok (e : k104 C av = some rs) (hm : mtP ov F104 = true) (ha : qSs σ (nV C) av avs) (H : qH PR z Z7 σ C ov h g) : KC z σ C 104 avs h g rs := by
  unfold k104 at e
  split at e
  · rename_i a pl sz wt
    split at e
    · rename_i a' p q ha' hp hq
      split at e
      · rename_i ee hee
        cases hk : eqZ a' 0 && (leZ 0 p && (leZ p 63 && ivIn C wt (some (1, 999)))) with
        | false => rw [hk] at e; cases e
        | true =>
          rw [hk] at e
          cases e
          simp only [Bool.and_eq_true] at hk
          obtain ⟨k1, k2, k3, k4⟩ := hk
          have k1 := eqZ_iff.mp k1
          have k2 := leZ_iff.mp k2
          have k3 := leZ_iff.mp k3
          obtain ⟨A, s1, rfl, h1, t1⟩ := qSs_r ha
          obtain ⟨P, s2, rfl, h2, t2⟩ := qSs_i t1
          obtain ⟨S, s3, rfl, h3, t3⟩ := qSs_i t2
          obtain ⟨T, s4, rfl, h4, t4⟩ := qSs_i t3
          have hs := qSs_n t4
          subst hs
          have hA := h1.2.symm.trans (cst_ok H.1 ha')
          have hP := h2.2.symm.trans (cst_ok H.1 hp)
          have hS := ivP_ok H.1 hq
          rw [h3.2] at hS
          have hT := ivIn_b H.1 h4 k4
          have hd := dig_ok hee
          subst hA
          subst hP
          subst k1
          have key : ∀ q : IV, allR (rOn TLs 104 pT_104 (Cs q) a104 F104 40000) (fitO F104) = true → q.1 ≤ T ∧ T ≤ q.2 → KC z σ C 104 [.inr (.inr 0), .inl P, .inl S, .inl T] h g [(C, some (.inl (apC (fitN P ee.1 ee.2))), F104)] := by
            intro q hr hq
            obtain ⟨r, σ', v, h', g', a1, a2, a3, a4, a5, a6⟩ := sum_ok (z := z) (w := wP P ee.1 ee.2 S T) (avG := a104) (avs := [.inr (.inr 0), .inl P, .inl S, .inl T]) (h := h) (g := g) (G := Cs q) (F := F104) (by rfl) H.2.1.2.2 (by show 8 ≤ 14; omega) (wP_sat ⟨k2, k3⟩ ⟨hd.1, hd.2.1⟩ ⟨hd.2.2.1, hd.2.2.2.1⟩ (by omega) hq) ⟨okP_C _ _ _, wP_pl, wP_sz, okP_V (v := 13) (by show 13 < 14; omega), trivial⟩ (hOv_const cF104 (hOv_sub hm H.2.2.2.2)) H.2.2.2.1 hr
            obtain ⟨b1, b2, b3⟩ := fitO_ok (p := P) (w := ee.1) (d := ee.2) a1 a5 a6 (a2 8 (by show 8 < 14; omega)).symm (a2 9 (by show 9 < 14; omega)).symm (a2 10 (by show 10 < 14; omega)).symm (a2 11 (by show 11 < 14; omega)).symm
            subst b1
            exact k_end H cF104 a4 b2 b3
          by_cases c1 : T ≤ 1
          · exact key (1, 1) r104_1 ⟨hT.1, c1⟩
          · by_cases c2 : 999 ≤ T
            · exact key (999, 999) r104_3 ⟨c2, hT.2⟩
            · exact key (2, 998) r104_2 ⟨by show 2 ≤ T; omega, by show T ≤ 998; omega⟩
      · cases e
    · cases e
  · cases e
theorem k189_ok (e : k189 C av = some rs) (hm : mtP ov F104 = true) (ha : qSs σ (nV C) av avs) (H : qH PR z Z7 σ C ov h g) : KC z σ C 189 avs h g rs := by
  unfold k189 at e
  split at e
  · rename_i a px py sz wt
    split at e
    · rename_i a' x y ha' hx hy
      split at e
      · rename_i q hq
        split at e
        · rename_i ee hee
          cases hk : eqZ a' 213 && (leZ 0 x && (leZ x 7 && (leZ 0 y && (leZ y 7 && ivIn C wt (some (1, 999)))))) with
          | false => rw [hk] at e; cases e
          | true =>
            rw [hk] at e
            cases e
            simp only [Bool.and_eq_true] at hk
            obtain ⟨k1, k2, k3, k5, k6, k4⟩ := hk
            have k1 := eqZ_iff.mp k1
            have k2 := leZ_iff.mp k2
            have k3 := leZ_iff.mp k3
            have k5 := leZ_iff.mp k5
            have k6 := leZ_iff.mp k6
            obtain ⟨A, s1, rfl, h1, t1⟩ := qSs_r ha
            obtain ⟨X, s2, rfl, h2, t2⟩ := qSs_i t1
            obtain ⟨Y, s3, rfl, h5, t3⟩ := qSs_i t2
            obtain ⟨S, s4, rfl, h3, t4⟩ := qSs_i t3
            obtain ⟨T, s5, rfl, h4, t5⟩ := qSs_i t4
            have hs := qSs_n t5
            subst hs
            have hA := h1.2.symm.trans (cst_ok H.1 ha')
            have hX := h2.2.symm.trans (cst_ok H.1 hx)
            have hY := h5.2.symm.trans (cst_ok H.1 hy)
            have hS := ivP_ok H.1 hq
            rw [h3.2] at hS
            have hT := ivIn_b H.1 h4 k4
            have hd := dig_ok hee
            subst hA
            subst hX
            subst hY
            subst k1
            have e8 : sg z (wP (8 * Y + X) ee.1 ee.2 S T) 8 = X := by
              show (8 * Y + X) % 8 = X
              omega
            have e9 : sg z (wP (8 * Y + X) ee.1 ee.2 S T) 9 = Y := by
              show (8 * Y + X) / 8 = Y
              omega
            have o8 := okP_V (σ := sg z (wP (8 * Y + X) ee.1 ee.2 S T)) (n := 14) (v := 8) (by decide)
            have o9 := okP_V (σ := sg z (wP (8 * Y + X) ee.1 ee.2 S T)) (n := 14) (v := 9) (by decide)
            rw [e8] at o8
            rw [e9] at o9
            obtain ⟨r, σ', v, h', g', a1, a2, a3, a4, a5, a6⟩ := sum_ok (z := z) (w := wP (8 * Y + X) ee.1 ee.2 S T) (avG := a189) (avs := [.inr (.inr 213), .inl X, .inl Y, .inl S, .inl T]) (h := h) (g := g) (G := Cs (1, 999)) (F := F104) (by rfl) H.2.1.2.2 (by decide) (wP_sat (by omega) ⟨hd.1, hd.2.1⟩ ⟨hd.2.2.1, hd.2.2.2.1⟩ (by omega) hT) ⟨okP_C _ _ _, o8, o9, wP_sz, okP_V (v := 13) (by decide), trivial⟩ (hOv_const cF104 (hOv_sub hm H.2.2.2.2)) H.2.2.2.1 r189_ok
            obtain ⟨b1, b2, b3⟩ := fitO_ok (p := 8 * Y + X) (w := ee.1) (d := ee.2) a1 a5 a6 (a2 8 (by decide)).symm (a2 9 (by decide)).symm (a2 10 (by decide)).symm (a2 11 (by decide)).symm
            subst b1
            exact k_end H cF104 a4 b2 b3
        · cases e
      · cases e
    · cases e
  · cases e
end KS
theorem Ks_ok {z : Int → Int} : kOK PR z Z7 Ks := by
  intro m C av ov rs e σ avs h g ha H
  show KC z σ C m avs h g rs
  unfold Ks at e
  cases hm : mtP ov F104 with
  | false => rw [hm] at e; cases e
  | true =>
    rw [hm] at e
    simp only [cond_true] at e
    cases h1 : Nat.beq m 74 with
    | true =>
      rw [h1] at e
      have := Nat.eq_of_beq_eq_true h1
      subst this
      exact k74_ok e hm ha H
    | false =>
      rw [h1] at e
      simp only [cond_false] at e
      cases h2 : Nat.beq m 104 with
      | true =>
        rw [h2] at e
        have := Nat.eq_of_beq_eq_true h2
        subst this
        exact k104_ok e hm ha H
      | false =>
        rw [h2] at e
        simp only [cond_false] at e
        cases h3 : Nat.beq m 189 with
        | true =>
          rw [h3] at e
          have := Nat.eq_of_beq_eq_true h3
          subst this
          exact k189_ok e hm ha H
        | false =>
          rw [h3] at e
          simp only [cond_false] at e
          cases h4 : Nat.beq m 191 with
          | true =>
            rw [h4] at e
            have := Nat.eq_of_beq_eq_true h4
            subst this
            exact k106_ok (by rfl) cF104 r191_ok e hm ha H
          | false =>
            rw [h4] at e
            simp only [cond_false] at e
            cases h5 : Nat.beq m 106 && mtP ov F106 with
            | true =>
              rw [h5] at e
              have h5 := Bool.and_eq_true_iff.mp h5
              have := Nat.eq_of_beq_eq_true h5.1
              subst this
              exact k106_ok (by rfl) cF106 r106_ok e h5.2 ha H
            | false => rw [h5] at e; cases e
