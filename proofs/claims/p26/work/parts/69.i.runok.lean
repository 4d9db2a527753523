/-! ===== CALLS BY CONTRACT, RETURNS, ALL: the runs are true ===== -/
theorem retP_ok {σ : Nat → Int} {C : Cx} {r : Option (Nat × Option IV)} {v : Option PV} {x : Int} (hC : satC σ C) (h : retOK r v x) : ∃ σ', AG (nV C) σ σ' ∧ nV C ≤ nV (retP C r).1 ∧ satC σ' (retP C r).1 ∧ qR σ' (nV (retP C r).1) (retP C r).2.1 v ∧ ∀ p, (retP C r).2.2 = some p → okP σ' (nV (retP C r).1) p x := by
  unfold retP
  unfold retOK at h
  match r, v, h with
  | none, none, _ => exact ⟨σ, AG.rf, Nat.le_refl _, hC, trivial, fun p e => by cases e⟩
  | some q, some (.inl y), ⟨h1, h2, h3⟩ =>
    obtain ⟨a1, a2, a3, a4⟩ := fresh_ok hC (q := q.2) (x := x) h3
    simp only
    rw [h1]
    simp only [Nat.beq_refl, cond_true]
    exact ⟨_, a1, a2, a3, by rw [h2]; exact a4, fun p e => by cases e; exact a4⟩
  | some q, some (.inr (.inl y)), ⟨h1, h2, h3⟩ =>
    obtain ⟨a1, a2, a3, a4⟩ := fresh_ok hC (q := q.2) (x := x) h3
    simp only
    rw [h1]
    rw [show Nat.beq 1 0 = false from rfl]
    simp only [cond_false]
    exact ⟨_, a1, a2, a3, by rw [h2]; exact a4, fun p e => by cases e; exact a4⟩
  | none, some _, h => exact h.elim
  | some _, none, h => exact h.elim
  | some _, some (.inr (.inr _)), h => exact h.elim
theorem pstA_ok {V : List AP} {Vc : List Int} {h : PH} : ∀ {r : List (Nat × (Option IV ⊕ Ln))} {C : Cx} {ov : OV} {σ : Nat → Int} {q : Cx × OV}, satC σ C → tOv σ (nV C) ov h → vOK σ (nV C) V Vc → (∀ w ∈ r, pstOK Vc h w) → pstA V r C ov = some q →
    ∃ σ', AG (nV C) σ σ' ∧ nV C ≤ nV q.1 ∧ satC σ' q.1 ∧ tOv σ' (nV q.1) q.2 h
  | [], C, ov, σ, q, hC, hO, _, _, e => by cases e; exact ⟨σ, AG.rf, Nat.le_refl _, hC, hO⟩
  | w :: r, C, ov, σ, q, hC, hO, hV, hp, e => by
    have h1 := hp w List.mem_cons_self
    have h2 := fun w hw => hp w (List.mem_cons_of_mem _ hw)
    unfold pstA at e
    cases hk : Nat.blt w.1 65536 with
    | false => rw [hk] at e; cases e
    | true =>
      rw [hk] at e
      simp only [cond_true] at e
      obtain ⟨⟨c1, c2⟩, c3⟩ := h1
      split at e
      · rename_i iv hiv
        rw [hiv] at c3
        obtain ⟨a1, a2, a3, a4⟩ := fresh_ok hC (q := iv) (x := cel h w.1) c3
        have hO2 : tOv (extS σ (nV C) (cel h w.1)) (nV (fresh C iv).1) ((w.1, (fresh C iv).2) :: ov) h := by
          intro u hu
          rcases List.mem_cons.mp hu with rfl | hu
          · exact (okN_cel c1).mpr ⟨a4, c2⟩
          · exact (hO u hu).up a2 a1
        obtain ⟨σ', b1, b2, b3, b4⟩ := pstA_ok (r := r) a3 hO2 (hV.up a2 a1) h2 e
        exact ⟨σ', a1.tr a2 b1, Nat.le_trans a2 b2, b3, b4⟩
      · rename_i ln hln
        rw [hln] at c3
        split at e
        · rename_i p hpp
          have k := lnA_ok (h := h) (f0 := n0) (vals := valF Vc) (r := 0) nol noo no0 (vOK_nth hV) nor hpp
          have hO2 : tOv σ (nV C) ((w.1, p) :: ov) h := by
            intro u hu
            rcases List.mem_cons.mp hu with rfl | hu
            · exact (okN_cel c1).mpr ⟨by rw [c3]; exact k, c2⟩
            · exact hO u hu
          exact pstA_ok (r := r) hC hO2 hV h2 e
        · cases e
theorem pstF_ok {V : List AP} {Vc : List Int} {h : PH} {ov : OV} {rp : Option AP} {x : Int} {σ : Nat → Int} {n : Nat} (hO : tOv σ n ov h) (hV : vOK σ n V Vc) (hr : ∀ p, rp = some p → okP σ n p x) : ∀ {r : List Ft} {C : Cx} {o : Option Cx}, satC σ C → C.1.length = n →
    (∀ f ∈ r, f.2.1 ≤ lnC [] h n0 (valF Vc) x f.1 ∧ lnC [] h n0 (valF Vc) x f.1 ≤ f.2.2) → pstF V ov rp r C = some o → ∃ C', o = some C' ∧ satC σ C' ∧ C'.1.length = n
  | [], C, o, hC, hn, _, e => by cases e; exact ⟨C, rfl, hC, hn⟩
  | f :: r, C, o, hC, hn, hf, e => by
    unfold pstF at e
    split at e
    · rename_i p hp
      have k := lnA_ok (f0 := n0) (vals := valF Vc) (r := x) nol hO no0 (vOK_nth hV) hr hp
      have hb := hf f List.mem_cons_self
      rw [← k.2] at hb
      obtain ⟨C1, c1, c2, c3⟩ := addF_ok hC hb.1 hb.2
      rw [c1] at e
      exact pstF_ok hO hV hr (r := r) c2 (c3.trans hn) (fun g hg => hf g (List.mem_cons_of_mem _ hg)) e
    · cases e
theorem pstR_ok {V : List AP} {Vc : List Int} {h : PH} {ov : OV} {rp : Option AP} {x : Int} {σ : Nat → Int} {n : Nat} (hO : tOv σ n ov h) (hV : vOK σ n V Vc) (hr : ∀ p, rp = some p → okP σ n p x) : ∀ {r : List (Nat × Ln)} {w : OV},
    (∀ q ∈ r, regOK h q.1 (lnC [] h n0 (valF Vc) x q.2)) → pstR V ov rp r = some w → tOv σ n w h
  | [], w, _, e => by cases e; exact noo
  | q :: r, w, hq, e => by
    unfold pstR at e
    split at e
    · rename_i p w' hp hw
      cases hk : Nat.ble 65536 q.1 with
      | false => rw [hk] at e; cases e
      | true =>
        rw [hk] at e
        cases e
        have hk := Nat.le_of_ble_eq_true hk
        have k := lnA_ok (f0 := n0) (vals := valF Vc) (r := x) nol hO no0 (vOK_nth hV) hr hp
        have k2 := pstR_ok hO hV hr (r := r) (fun g hg => hq g (List.mem_cons_of_mem _ hg)) hw
        have k3 := hq q List.mem_cons_self
        intro u hu
        rcases List.mem_cons.mp hu with rfl | hu
        · exact (okN_reg hk).mpr ⟨k.1, by rw [k.2]; exact k3⟩
        · exact k2 u hu
    · cases e
theorem altA_ok {V : List AP} {Vc : List Int} {h : PH} {C : Cx} {ov : OV} {σ : Nat → Int} {a : AltT} {v : Option PV} {L : List Rt} (hC : satC σ C) (hO : tOv σ (nV C) ov h) (hV : vOK σ (nV C) V Vc) (ha : altOK a Vc v h) (e : altA V C ov a = some L) :
    ∃ r ∈ L, ∃ σ', AG (nV C) σ σ' ∧ nV C ≤ nV r.1 ∧ satC σ' r.1 ∧ qR σ' (nV r.1) r.2.1 v ∧ tOv σ' (nV r.1) r.2.2 h := by
  obtain ⟨x, x1, x2, x3, x4⟩ := ha
  obtain ⟨σ1, a1, a2, a3, a4, a5⟩ := retP_ok hC x1
  unfold altA at e
  split at e
  rename_i C1 rv rp hret
  rw [hret] at a2 a3 a4 a5
  simp only at a2 a3 a4 a5
  split at e
  · rename_i C2 ov2 hp
    obtain ⟨σ2, b1, b2, b3, b4⟩ := pstA_ok a3 (hO.up a2 a1) (hV.up a2 a1) x2 hp
    have hV2 := (hV.up a2 a1).up b2 b1
    have hr2 : ∀ p, rp = some p → okP σ2 (nV C2) p x := fun p hp => (a5 p hp).up b2 b1
    split at e
    · rename_i C3 w hF hR
      cases e
      obtain ⟨C', c1, c2, c3⟩ := pstF_ok b4 hV2 hr2 b3 rfl x3 hF
      cases c1
      have k := pstR_ok b4 hV2 hr2 x4 hR
      have e9 : nV C3 = nV C2 := c3
      refine ⟨_, List.mem_cons_self, σ2, a1.tr a2 b1, by rw [e9]; exact Nat.le_trans a2 b2, c2, ?_, ?_⟩
      · rw [e9]
        exact a4.up b2 b1
      · rw [e9]
        intro u hu
        rcases List.mem_append.mp hu with hu | hu
        · exact k u hu
        · exact b4 u hu
    · rename_i w hF hR
      obtain ⟨C', c1, -, -⟩ := pstF_ok b4 hV2 hr2 b3 rfl x3 hF
      cases c1
    · cases e
  · cases e
section RUNT
variable {z : Int → Int} {Z : Option ZT} {Wc : WrT} {h00 : PH}
theorem appC_ok {c : Con} (hc : conOK z c) {σ : Nat → Int} {C : Cx} {av : List AV} {avs : List PV} {ov : OV} {h : PH} {g : PG} {rs : List Rt} (hq : qSs σ (nV C) av avs) (H : tH (IW Wc h00) z Z σ C ov h g) (e : appC Wc c C av ov = some rs) :
    ∃ r ∈ rs, ∃ σ' v h' g', AG (nV C) σ σ' ∧ nV C ≤ nV r.1 ∧ CALLD z c.1 avs h g = some (v, h', g') ∧ qR σ' (nV r.1) r.2.1 v ∧ tH (IW Wc h00) z Z σ' r.1 r.2.2 h' g' := by
  unfold appC at e
  split at e
  · rename_i V1 V2 hV1 hV2
    cases hk : c.2.2.2.1.all (fun f => bdF C (lnA [] ov [] (V1 ++ V2) none f.1) f.2.1 f.2.2) && (c.2.2.2.2.1.all (fun q => okR2 C ov (lnA [] ov [] (V1 ++ V2) none q.2) q.1) && subW c.2.2.2.2.2.1 Wc) with
    | false => rw [hk] at e; cases e
    | true =>
      rw [hk] at e
      simp only [cond_true] at e
      simp only [Bool.and_eq_true] at hk
      obtain ⟨k1, k2, k3⟩ := hk
      obtain ⟨H1, H2, H3, H4, H5⟩ := H
      obtain ⟨W1, p1, p2⟩ := argsV_ok H1 hq hV1
      obtain ⟨W2, q1, q2⟩ := preV_ok H1 H5 hV2
      have hV := vOK_app q1 p1
      obtain ⟨v, h', g', r1, r2, r3, r4, a, ha, haok⟩ := hc avs W1 W2 h g p2 q2 H3.1 H4 (fun f hf => by
        obtain ⟨p, b1, b2, b3⟩ := bdF_ok H1 (List.all_eq_true.mp k1 f hf)
        have k := lnA_ok (f0 := n0) (vals := valF (W1 ++ W2)) (r := 0) nol H5 no0 (vOK_nth hV) nor b1
        rw [k.2] at b2 b3
        exact ⟨b2, b3⟩) (fun q hq => by
        obtain ⟨p, b1, b2⟩ := okR2_ok H1 H5 (List.all_eq_true.mp k2 q hq)
        have k := lnA_ok (f0 := n0) (vals := valF (W1 ++ W2)) (r := 0) nol H5 no0 (vOK_nth hV) nor b1
        rw [k.2] at b2
        exact b2)
      obtain ⟨L, l1, l2⟩ := bindL_in e a ha
      obtain ⟨r, m1, σ', m2, m3, m4, m5, m6⟩ := altA_ok H1 (keepW H5 r3) hV haok l1
      refine ⟨r, l2 r m1, σ', v, h', g', m2, m3, r1, m5, m4, H2.up m3 m2, ⟨r2, fun b k hb0 hb1 hn => ?_, fun b k hb0 hf => r3.2 b k hb0 (H3.2.2 b k hb0 hf)⟩, r4, m6⟩
      rw [r3.1 b k hb0 hb1 (fun q => hn (subW_ok k3 q))]
      exact H3.2.1 b k hb0 hb1 hn
  · cases e
theorem appK_ok {m : Nat} {σ : Nat → Int} {C : Cx} {av : List AV} {avs : List PV} {ov : OV} {h : PH} {g : PG} : ∀ {K : List Con} {rs : List Rt}, (∀ c ∈ K, conOK z c) → qSs σ (nV C) av avs → tH (IW Wc h00) z Z σ C ov h g → appK Wc m C av ov K = some rs →
    ∃ r ∈ rs, ∃ σ' v h' g', AG (nV C) σ σ' ∧ nV C ≤ nV r.1 ∧ CALLD z m avs h g = some (v, h', g') ∧ qR σ' (nV r.1) r.2.1 v ∧ tH (IW Wc h00) z Z σ' r.1 r.2.2 h' g'
  | [], _, _, _, _, e => by cases e
  | c :: K, rs, hK, hq, H, e => by
    unfold appK at e
    split at e
    · rename_i L hL
      cases e
      cases hm : Nat.beq c.1 m with
      | false => rw [hm] at hL; cases hL
      | true =>
        rw [hm] at hL
        have hm := Nat.eq_of_beq_eq_true hm
        subst hm
        exact appC_ok (hK c List.mem_cons_self) hq H hL
    · exact appK_ok (K := K) (fun d hd => hK d (List.mem_cons_of_mem _ hd)) hq H e
theorem rcvT_ok {σ : Nat → Int} {C : Cx} {g : PG} {kd w : Nat} {av : List AV} {avs : List PV} {x : Nat} (hC : satC σ C) (hg : g.1 = nCell) (hw : w % 16 = mO x) (h : qSs σ (nV C) av avs) (e : rcvT C kd w av = true) : kd = 1 ∨ ∃ a r, avs = .inr (.inr a) :: r ∧ (kd = 0 → isRecv a x g.1 = true) := by
  unfold rcvT at e
  split at e
  · split at e
    · rename_i p r
      obtain ⟨X, s1, rfl, h1, h2⟩ := qSs_r h
      refine Or.inr ⟨X, s1, rfl, fun _ => ?_⟩
      rcases Bool.or_eq_true_iff.mp e with e | e
      · have e := Bool.and_eq_true_iff.mp e
        obtain ⟨q, hq⟩ := Option.isSome_iff_exists.mp e.2
        have e1 : w % 16 + 1 ≤ 9 := Nat.le_of_ble_eq_true e.1
        obtain ⟨a0, b0, b1, b2, b3, b4⟩ := rowT_ok hC h1 hg hq
        unfold isRecv
        rw [← hw, b3, decide_eq_true (by omega)]
        rfl
      · have e := Bool.and_eq_true_iff.mp e
        have e1 := Nat.eq_of_beq_eq_true e.1
        have e2 := e.2
        split at e2
        · rename_i c hc
          have e2 := Bool.and_eq_true_iff.mp e2
          have k1 := leZ_iff.mp e2.1
          have k2 := leZ_iff.mp e2.2
          have k3 := h1.2.symm.trans (cst_ok hC hc)
          unfold isRecv
          rw [← hw, e1, decide_eq_true (show (1010 : Int) ≤ X from by omega), decide_eq_true (show X < 1014 from by omega)]
          simp
        · cases e2
    · cases e
  · exact Or.inl rfl
  · split at e
    · rename_i p r
      obtain ⟨X, s1, rfl, h1, h2⟩ := qSs_r h
      exact Or.inr ⟨X, s1, rfl, fun q => by cases q⟩
    · cases e
  · cases e
variable {I : PH → Prop} {σ : Nat → Int} {C : Cx} {pc : Nat} {ls : List AL} {st : List AV} {ov : OV} {l : PL} {s : List PV} {h : PH} {g : PG}
theorem callT_ok {m : Nat} {e : E6} {q : Nat × List AV × List AV} (hd : decode (mC m) pc = .ok (e.1, e.2.1)) (hH : okH m e.1 e.2.2.1 e.2.2.2.1 e.2.2.2.2.1 e.2.2.2.2.2 = true) (H : tHy I z Z σ C ls st ov l s h g) (ec : callT e C st = some q) :
    ∃ avs rests, xsD z m (pc, l, s, h, g) = some (.inr (.inl (q.1, avs, (pc + 3, l, rests, h, g)))) ∧ qSs σ (nV C) q.2.1 avs ∧ qSs σ (nV C) q.2.2 rests ∧ e.2.2.2.2.2 / 16 = mL q.1 := by
  obtain ⟨i, len, x1, x2, x3, x4⟩ := e
  unfold callT at ec
  simp only at ec hd hH
  cases hk : Nat.beq len 3 && (Nat.beq x1 1 && (Nat.ble x3 st.length && (Nat.ble (catsA (st.drop x3)) 8 && rcvT C (kdI i) x4 (st.take x3).reverse))) with
  | false => rw [hk] at ec; cases ec
  | true =>
    rw [hk] at ec
    cases ec
    simp only [Bool.and_eq_true] at hk
    obtain ⟨k1, k2, k3, k4, k5⟩ := hk
    have k1 := Nat.eq_of_beq_eq_true k1
    have k2 := Nat.eq_of_beq_eq_true k2
    have k3 := Nat.le_of_ble_eq_true k3
    have k4 := Nat.le_of_ble_eq_true k4
    subst k1
    subst k2
    have hl := qSs_len H.2.1
    have t1 := qSs_rev (qSs_take x3 H.2.1)
    have t2 := qSs_drop x3 H.2.1
    rw [qSs_cats t2] at k4
    have hx : ∀ kd k, okC m k kd x2 x3 x4 = true → kdI i = kd → doCall [kd] m (mO m) k pc l s h g = some (.inr (.inl (x2, (s.take x3).reverse, (pc + 3, l, s.drop x3, h, g)))) ∧ x4 / 16 = mL x2 := by
      intro kd k hok hkd
      obtain ⟨b, c1, c2, c3, c4, c5, c6, c7, c8⟩ := okC_ok hok
      rw [hkd] at k5
      have hr := rcvT_ok H.2.2.1 H.2.2.2.2.2.1.1 c4 t1 k5
      subst c2
      exact ⟨doCall_is c1 c5 c6 c7 c8 (by omega) k4 hr, c3⟩
    refine ⟨(s.take x3).reverse, s.drop x3, ?_⟩
    unfold xsD
    simp only
    rw [hd]
    simp only
    cases i with
    | invokevirtual k =>
      have hH : (Nat.beq 1 1 && okC m k 0 x2 x3 x4) = true := hH
      have hH := (Bool.and_eq_true_iff.mp hH).2
      obtain ⟨y1, y2⟩ := hx 0 k hH rfl
      exact ⟨y1, t1, t2, y2⟩
    | invokestatic k =>
      have hH : ((Nat.beq 1 1 && (decide (bltT (mO m) k = none) && okC m k 1 x2 x3 x4)) || (Nat.beq 1 2 && okB m k x2)) = true := hH
      have hH : decide (bltT (mO m) k = none) = true ∧ okC m k 1 x2 x3 x4 = true := by simpa using hH
      obtain ⟨y1, y2⟩ := hx 1 k hH.2 rfl
      refine ⟨?_, t1, t2, y2⟩
      unfold xiD
      simp only [of_decide_eq_true hH.1]
      rw [show decide ((none : Option Nat) = some 2) = false from by decide]
      simp only [cond_false]
      show (if bltT (mO m) k = none then doCall [1] m (mO m) k pc l s h g else if bltT (mO m) k = some 1 then none else doBlt m (mO m) k pc l s h g) = _
      rw [if_pos (of_decide_eq_true hH.1), y1]
    | invokespecial k =>
      have hH : ((Nat.beq 1 1 && (decide (bltT (mO m) k = none) && okC m k 2 x2 x3 x4)) || (Nat.beq 1 2 && okB m k x2)) = true := hH
      have hH : decide (bltT (mO m) k = none) = true ∧ okC m k 2 x2 x3 x4 = true := by simpa using hH
      obtain ⟨y1, y2⟩ := hx 2 k hH.2 rfl
      refine ⟨?_, t1, t2, y2⟩
      show (if bltT (mO m) k = none then doCall [2] m (mO m) k pc l s h g else if bltT (mO m) k = some 1 then doBlt m (mO m) k pc l s h g else none) = _
      rw [if_pos (of_decide_eq_true hH.1), y1]
    | _ => cases k5
theorem retT_ok {m : Nat} {e : E6} {v : Option AV} (hd : decode (mC m) pc = .ok (e.1, e.2.1)) (hH : okH m e.1 e.2.2.1 e.2.2.2.1 e.2.2.2.2.1 e.2.2.2.2.2 = true) (H : tHy I z Z σ C ls st ov l s h g) (ec : retA e C st = some v) :
    ∃ v', xsD z m (pc, l, s, h, g) = some (.inr (.inr (v', h, g))) ∧ qR σ (nV C) v v' := by
  obtain ⟨i, len, x1, x2, x3, x4⟩ := e
  unfold retA at ec
  simp only at ec hd hH
  cases hk : Nat.beq len 1 with
  | false => rw [hk] at ec; cases ec
  | true =>
    rw [hk] at ec
    have hk := Nat.eq_of_beq_eq_true hk
    subst hk
    simp only [cond_true] at ec
    unfold xsD
    simp only
    rw [hd]
    simp only
    split at ec
    · split at ec
      · rename_i p
        obtain ⟨X, s1, rfl, h1, h2⟩ := qSs_i H.2.1
        have hs := qSs_n h2
        subst hs
        cases hb : Nat.beq x1 1 || (Nat.beq x1 2 && is01 C p) with
        | false => rw [hb] at ec; cases ec
        | true =>
          rw [hb] at ec
          cases ec
          refine ⟨some (.inl X), ?_, h1⟩
          have hH : ((Nat.beq x1 1 && decide (mR m = some .int)) || (Nat.beq x1 2 && decide (mR m = some .boolean)) || Nat.beq x1 9) = true := hH
          show retI m [.inl X] h g = _
          unfold retI
          rcases Bool.or_eq_true_iff.mp hb with hb | hb
          · have hb := Nat.eq_of_beq_eq_true hb
            subst hb
            have hH : mR m = some .int := by simpa using hH
            rw [hH]
          · have hb := Bool.and_eq_true_iff.mp hb
            have hb1 := Nat.eq_of_beq_eq_true hb.1
            subst hb1
            have hH : mR m = some .boolean := by simpa using hH
            rw [hH]
            simp only
            rw [if_pos (is01_ok H.2.2.1 h1 hb.2)]
      · cases ec
    · split at ec
      · rename_i p
        obtain ⟨X, s1, rfl, h1, h2⟩ := qSs_l H.2.1
        have hs := qSs_n h2
        subst hs
        cases ec
        refine ⟨some (.inr (.inl X)), ?_, h1⟩
        have hH := of_decide_eq_true hH
        show retL m [.inr (.inl X)] h g = _
        unfold retL
        simp only
        rw [if_pos hH]
      · cases ec
    · split at ec
      · cases ec
        have hs := qSs_n H.2.1
        subst hs
        refine ⟨none, ?_, trivial⟩
        have hH := of_decide_eq_true hH
        show retV m [] h g = _
        unfold retV
        simp only
        rw [if_pos hH]
      · cases ec
    · cases ec
theorem splT_ok {m : Nat} {G : AS} {c : Cfg} (h : tA I z Z σ G c) : ∃ G' ∈ splT m G, nV G'.1 = nV G.1 ∧ tA I z Z σ G' c := by
  have h0 : ∃ G' ∈ [G], nV G'.1 = nV G.1 ∧ tA I z Z σ G' c := ⟨G, List.mem_cons_self, rfl, h⟩
  unfold splT
  cases hk : Nat.beq m 196 && Nat.beq G.2.1 18 with
  | false => exact h0
  | true =>
    simp only [cond_true]
    split
    · rename_i p hp
      cases hi : inS G.1 p (some (0, 5)) with
      | false => exact h0
      | true =>
        simp only [cond_true]
        have k := inS_ok h.2.2.2.1 hi (0, 5) rfl
        simp only at k
        obtain ⟨q, q1, q2, q3, q4⟩ := brEq_ok h.2.2.2.1 (apSub p (apC (((ev σ p).toNat : Nat) : Int)))
        rw [ev_sub, ev_C, decide_eq_true (by omega)] at q4
        have e9 : nV q.1 = nV G.1 := q3
        refine ⟨(q.1, G.2), List.mem_flatMap.mpr ⟨(ev σ p).toNat, List.mem_range.mpr (by omega), List.mem_filterMap.mpr ⟨q, q1, by rw [q4]; rfl⟩⟩, e9, h.1, ?_, ?_, h.2.2.2.ctx q2 q3⟩
        · show qLs σ (nV q.1) G.2.2.1 c.2.1
          rw [e9]; exact h.2.1
        · show qSs σ (nV q.1) G.2.2.2.1 c.2.2.1
          rw [e9]; exact h.2.2.1
    · exact h0
theorem runT_ok (K : List Con) (hK : ∀ c ∈ K, conOK z c) (T : Nat → AS → Option LpT) : ∀ (f m : Nat) (t : MT) (stops : List Nat) (fr : Bool) (A : AS) (L : List Oc), okT m t = true → runT (PW Wc) Z K Wc T f m t stops fr A = some L →
    ∀ (σ : Nat → Int) (c : Cfg), tA (IW Wc h00) z Z σ A c → OUTT (IW Wc h00) z Z m c (nV A.1) σ L := by
  have hP := tOK_PW Wc h00
  intro f
  induction f with
  | zero => intro m t stops fr A L _ e; cases e
  | succ f ih =>
    intro m t stops fr A L hT e σ c hA
    rw [runT_succ] at e
    cases hst : (!fr && memN stops A.2.1) with
    | true =>
      rw [hst] at e
      cases e
      exact ⟨.inl A, List.mem_cons_self, σ, AG.rf, Nat.le_refl _, c, rfl, hA⟩
    | false =>
      rw [hst] at e
      simp only [cond_false] at e
      split at e
      · rename_i sp hsp
        refine loopT_ok hP (fun G L hG σ c hq => ?_) e hA
        obtain ⟨G', g1, g2, g3⟩ := splT_ok (m := m) hq
        obtain ⟨L1, l1, l2⟩ := bindL_in hG G' g1
        have k := ih m t _ true G' L1 hT l1 σ c g3
        rw [g2] at k
        exact k.sub l2
      · split at e
        · cases e
        · rename_i e6 he6
          obtain ⟨hd, hH⟩ := pI_ok hT he6
          obtain ⟨pc, l, s, h, g⟩ := c
          obtain ⟨C, pcA, ls, st, ov⟩ := A
          obtain ⟨q1, q2⟩ := hA
          have q1 : pcA = pc := q1
          subst q1
          have H : tHy (IW Wc h00) z Z σ C ls st ov l s h g := q2
          simp only at e hd
          split at e
          · rename_i L1 hL1
            obtain ⟨B, b1, σ', c', b2, b3, b4, b5⟩ := stT_ok hP rfl hH H hL1
            obtain ⟨L2, d1, d2⟩ := bindL_in e B b1
            have k := ih m t stops false B L2 hT d1 σ' c' b4
            have hx : xsD z m (pcA, l, s, h, g) = some (.inl c') := by
              unfold xsD
              simp only
              rw [hd]
              exact b5
            exact (k.sub d2).pre (XCD_next z hx) b3 b2
          · split at e
            · rename_i q hq
              obtain ⟨avs, rests, x1, x2, x3, x4⟩ := callT_ok hd hH H hq
              have hres : ∀ rs : List Rt, (∃ r ∈ rs, ∃ σ' v h' g', AG (nV C) σ σ' ∧ nV C ≤ nV r.1 ∧ CALLD z q.1 avs h g = some (v, h', g') ∧ qR σ' (nV r.1) r.2.1 v ∧ tH (IW Wc h00) z Z σ' r.1 r.2.2 h' g') →
                  bindL (fun r : Rt => runT (PW Wc) Z K Wc T f m t stops false (r.1, pcA + 3, ls, r.2.1.toList ++ q.2.2, r.2.2)) rs = some L → OUTT (IW Wc h00) z Z m (pcA, l, s, h, g) (nV C) σ L := by
                intro rs hrs hb
                obtain ⟨r, r1, σ', v, h', g', r2, r3, r4, r5, r6⟩ := hrs
                obtain ⟨L2, d1, d2⟩ := bindL_in hb r r1
                have hq2 : tA (IW Wc h00) z Z σ' (r.1, pcA + 3, ls, r.2.1.toList ++ q.2.2, r.2.2) (pcA + 3, l, v.toList ++ rests, h', g') := by
                  refine ⟨rfl, H.1.up r3 r2, ?_, r6⟩
                  match hr : r.2.1, v, r5 with
                  | none, none, _ => exact x3.up r3 r2
                  | some a, some w, k => exact ⟨k, x3.up r3 r2⟩
                  | none, some _, k => exact k.elim
                  | some _, none, k => exact k.elim
                have k := ih m t stops false _ L2 hT d1 σ' _ hq2
                unfold CALLD at r4
                split at r4
                · rename_i l0 hl0
                  exact (k.sub d2).pre (XCD_call z x1 hl0 r4) r3 r2
                · cases r4
              split at e
              · rename_i rs hrs
                refine hres rs ?_ e
                split at hrs
                · rename_i rs' hrs'
                  cases hrs
                  exact appK_ok hK x2 H.2.2 hrs'
                · split at hrs
                  · rename_i t' l0 ht' hl0
                    split at hrs
                    · rename_i L3 hL3
                      obtain ⟨l1, y1, y2⟩ := enA_ok x4 x2 hl0
                      have k := ih q.1 t' [] false (C, 0, l0, [], ov) L3 (pTm_ok ht') hL3 σ (0, l1, [], h, g) ⟨rfl, y2, trivial, H.2.2⟩
                      obtain ⟨o, o1, σ', o2, o3⟩ := k
                      obtain ⟨w, w1, w2⟩ := bindL_in hrs o o1
                      match o, o3, w1 with
                      | .inl B, _, w1 => cases w1
                      | .inr r, ⟨p1, v, h', g', p2, p3, p4⟩, w1 =>
                        cases w1
                        refine ⟨r, w2 r List.mem_cons_self, σ', v, h', g', o2, p1, ?_, p3, p4⟩
                        unfold CALLD
                        rw [y1]
                        exact p2
                    · cases hrs
                  · cases hrs
              · cases e
            · split at e
              · rename_i v hv
                cases e
                obtain ⟨v', x1, x2⟩ := retT_ok hd hH H hv
                exact ⟨_, List.mem_cons_self, σ, AG.rf, Nat.le_refl _, v', h, g, XCD_ret z x1, x2, H.2.2⟩
              · cases e
end RUNT
