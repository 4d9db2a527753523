/-! ===== THE RUNS OVER FLAGGED STATES ARE TRUE: terms, loops ===== -/
def mvL (l : PL) (i : Nat) : Int := match lget l i with
  | some (.inl x) => x
  | some (.inr (.inl x)) => x
  | _ => 0
def tmC (l : PL) (h : PH) (f0 vals : Nat → Int) (r : Int) (t : Tm) : Int := match t.1 with
  | 0 => mvL l t.2
  | 1 => h ((t.2 / 256 : Nat) : Int) ((t.2 % 256 : Nat) : Int)
  | 2 => f0 t.2
  | 3 => vals t.2
  | _ => r
def lnC (l : PL) (h : PH) (f0 vals : Nat → Int) (r : Int) (L : Ln) : Int := L.1.foldl (fun o q => o + q.2 * tmC l h f0 vals r q.1) L.2
theorem tmA_ok {σ : Nat → Int} {n : Nat} {ls : List AL} {l : PL} {ov ov0 : OV} {h : PH} {V : List AP} {ret : Option AP} {f0 vals : Nat → Int} {r : Int} (hl : qLs σ n ls l) (ho : tOv σ n ov h) (h0 : ∀ c p, lkp ov0 c = some p → okP σ n p (f0 c)) (hV : ∀ i p, nth V i = some p → okP σ n p (vals i)) (hr : ∀ p, ret = some p → okP σ n p r)
    {t : Tm} {p : AP} (e : tmA ls ov ov0 V ret t = some p) : okP σ n p (tmC l h f0 vals r t) := by
  obtain ⟨k, i⟩ := t
  unfold tmA at e
  unfold tmC
  simp only at e ⊢
  split at e
  · split at e
    · rename_i q hq
      cases e
      obtain ⟨o, h1, v, rfl, h2⟩ := qLs_nth hl hq
      match v, h2 with
      | .inl x, h2 =>
        unfold mvL lget
        rw [h1]
        exact h2
      | .inr _, h2 => exact h2.elim
    · rename_i q hq
      cases e
      obtain ⟨o, h1, v, rfl, h2⟩ := qLs_nth hl hq
      match v, h2 with
      | .inr (.inl x), h2 =>
        unfold mvL lget
        rw [h1]
        exact h2
      | .inl _, h2 => exact h2.elim
      | .inr (.inr _), h2 => exact h2.elim
    · cases e
  · cases hk : Nat.blt i 65536 with
    | false => rw [hk] at e; cases e
    | true =>
      rw [hk] at e
      have hk : i + 1 ≤ 65536 := Nat.le_of_ble_eq_true hk
      have k := ho _ (lkp_ok e)
      unfold okN at k
      rw [if_pos (show i < 65536 from by omega)] at k
      exact k.1
  · exact h0 i p e
  · exact hV i p e
  · rename_i n0 n1 n2 n3
    split
    · exact absurd rfl n0
    · exact absurd rfl n1
    · exact absurd rfl n2
    · exact absurd rfl n3
    · exact hr p e
theorem lnF_none {ls : List AL} {ov ov0 : OV} {V : List AP} {ret : Option AP} : ∀ r : List (Tm × Int), r.foldl (lnF ls ov ov0 V ret) none = none
  | [] => rfl
  | _ :: r => lnF_none r
theorem lnA_ok {σ : Nat → Int} {n : Nat} {ls : List AL} {l : PL} {ov ov0 : OV} {h : PH} {V : List AP} {ret : Option AP} {f0 vals : Nat → Int} {r : Int} (hl : qLs σ n ls l) (ho : tOv σ n ov h) (h0 : ∀ c p, lkp ov0 c = some p → okP σ n p (f0 c)) (hV : ∀ i p, nth V i = some p → okP σ n p (vals i)) (hr : ∀ p, ret = some p → okP σ n p r)
    {L : Ln} {p : AP} (e : lnA ls ov ov0 V ret L = some p) : okP σ n p (lnC l h f0 vals r L) := by
  have key : ∀ (q : List (Tm × Int)) (p0 p : AP) (x : Int), okP σ n p0 x → q.foldl (lnF ls ov ov0 V ret) (some p0) = some p → okP σ n p (q.foldl (fun o q => o + q.2 * tmC l h f0 vals r q.1) x) := by
    intro q
    induction q with
    | nil => intro p0 p x hp e; cases e; exact hp
    | cons w q ih =>
      intro p0 p x hp e
      simp only [List.foldl_cons] at e ⊢
      cases hk : tmA ls ov ov0 V ret w.1 with
      | none =>
        have : lnF ls ov ov0 V ret (some p0) w = none := by unfold lnF; rw [hk]
        rw [this, lnF_none] at e
        cases e
      | some v =>
        have : lnF ls ov ov0 V ret (some p0) w = some (apAdd p0 (apMul (apC w.2) v)) := by unfold lnF; rw [hk]
        rw [this] at e
        exact ih _ _ _ (hp.add ((okP_C σ n w.2).mul (tmA_ok hl ho h0 hV hr hk))) e
  exact key L.1 _ _ _ (okP_C σ n L.2) e
theorem bdF_ok {σ : Nat → Int} {C : Cx} (hC : satC σ C) {o : Option AP} {lo hi : Int} (e : bdF C o lo hi = true) : ∃ p, o = some p ∧ lo ≤ ev σ p ∧ ev σ p ≤ hi := by
  unfold bdF at e
  split at e
  · rename_i p
    have e := Bool.and_eq_true_iff.mp e
    exact ⟨p, rfl, geS_ok hC e.1, leS_ok hC e.2⟩
  · cases e
section LOOPT
variable {P : RGt} {I : PH → Prop} {z : Int → Int} {Z : Option ZT}
theorem tchT_ok (hP : tOK P I) {h : PH} {g : PG} : ∀ {cs : List Nat} {C : Cx} {ov : OV} {σ : Nat → Int} {q : Cx × OV}, tH I z Z σ C ov h g → tchT P cs C ov = some q → ∃ σ', AG (nV C) σ σ' ∧ nV C ≤ nV q.1 ∧ tH I z Z σ' q.1 q.2 h g
  | [], C, ov, σ, q, H, e => by cases e; exact ⟨σ, AG.rf, Nat.le_refl _, H⟩
  | c :: r, C, ov, σ, q, H, e => by
    unfold tchT at e
    cases hk : Nat.blt (c / 256) 232 with
    | false => rw [hk] at e; cases e
    | true =>
      rw [hk] at e
      have hk : c / 256 + 1 ≤ 232 := Nat.le_of_ble_eq_true hk
      simp only [cond_true] at e
      split at e
      · rename_i w hw
        obtain ⟨σ1, a1, a2, a3, -, -⟩ := rdT_ok hP H (L := [c / 256]) (a := c / 256) (j := c % 256) List.mem_cons_self (by omega) (Nat.le_refl _) (Nat.le_refl _) (by omega) (ev_C σ _) hw
        obtain ⟨σ2, b1, b2, b3⟩ := tchT_ok hP a3 e
        exact ⟨σ2, a1.tr a2 b1, Nat.le_trans a2 b2, b3⟩
      · cases e
theorem genC_ok {h : PH} : ∀ {r : List (Nat × Option IV)} {C : Cx} {ov : OV} {σ : Nat → Int}, satC σ C → tOv σ (nV C) ov h →
    (∀ q ∈ r, q.1 < 65536 ∧ rdk h ((q.1 / 256 : Nat) : Int) ((q.1 % 256 : Nat) : Int) = true ∧ ∀ y, q.2 = some y → y.1 ≤ h ((q.1 / 256 : Nat) : Int) ((q.1 % 256 : Nat) : Int) ∧ h ((q.1 / 256 : Nat) : Int) ((q.1 % 256 : Nat) : Int) ≤ y.2) →
    ∃ σ', AG (nV C) σ σ' ∧ nV C ≤ nV (genC r C ov).1 ∧ satC σ' (genC r C ov).1 ∧ tOv σ' (nV (genC r C ov).1) (genC r C ov).2 h
  | [], C, ov, σ, hC, hO, _ => ⟨σ, AG.rf, Nat.le_refl _, hC, hO⟩
  | q :: r, C, ov, σ, hC, hO, hx => by
    obtain ⟨h1, h2, h3⟩ := hx q List.mem_cons_self
    obtain ⟨a1, a2, a3, a4⟩ := fresh_ok hC (q := q.2) (x := h ((q.1 / 256 : Nat) : Int) ((q.1 % 256 : Nat) : Int)) h3
    have k : tOv (extS σ (nV C) (h ((q.1 / 256 : Nat) : Int) ((q.1 % 256 : Nat) : Int))) (nV (fresh C q.2).1) ((q.1, (fresh C q.2).2) :: ov) h := by
      intro w hw
      rcases List.mem_cons.mp hw with rfl | hw
      · unfold okN
        rw [if_pos h1]
        exact ⟨a4, h2⟩
      · exact (hO w hw).up a2 a1
    obtain ⟨σ', b1, b2, b3, b4⟩ := genC_ok (r := r) a3 k (fun w hw => hx w (List.mem_cons_of_mem _ hw))
    exact ⟨σ', a1.tr a2 b1, Nat.le_trans a2 b2, b3, b4⟩
theorem genF_ok {h : PH} {l : PL} {ls : List AL} {ov ov0 : OV} {f0 vals : Nat → Int} {rv : Int} {σ : Nat → Int} {n : Nat} (hl : qLs σ n ls l) (ho : tOv σ n ov h) (h0 : ∀ c p, lkp ov0 c = some p → okP σ n p (f0 c)) : ∀ {r : List Ft} {C C' : Cx}, satC σ C → C.1.length = n →
    (∀ f ∈ r, f.2.1 ≤ lnC l h f0 vals rv f.1 ∧ lnC l h f0 vals rv f.1 ≤ f.2.2) → genF ls ov ov0 r C = some C' → satC σ C' ∧ C'.1.length = n
  | [], C, C', hC, hn, _, e => by cases e; exact ⟨hC, hn⟩
  | f :: r, C, C', hC, hn, hf, e => by
    unfold genF at e
    split at e
    · rename_i p hp
      have k := lnA_ok (vals := vals) (r := rv) hl ho h0 (fun i p e => by cases i <;> cases e) (fun p e => by cases e) hp
      have hb := hf f List.mem_cons_self
      rw [← k.2] at hb
      obtain ⟨C1, c1, c2, c3⟩ := addF_ok hC hb.1 hb.2
      rw [c1] at e
      exact genF_ok hl ho h0 (r := r) c2 (c3.trans hn) (fun g hg => hf g (List.mem_cons_of_mem _ hg)) e
    · cases e
theorem genR_ok {h : PH} {l : PL} {ls : List AL} {ov ov0 : OV} {f0 vals : Nat → Int} {rv : Int} {σ : Nat → Int} {n : Nat} (hl : qLs σ n ls l) (ho : tOv σ n ov h) (h0 : ∀ c p, lkp ov0 c = some p → okP σ n p (f0 c)) : ∀ {r : List (Nat × Ln)} {w : OV},
    (∀ q ∈ r, 65536 ≤ q.1 ∧ ∀ j : Int, (((q.1 - 65536) % 256 : Nat) : Int) ≤ j → j < (((q.1 - 65536) % 256 : Nat) : Int) + lnC l h f0 vals rv q.2 → h ((((q.1 - 65536) / 256 : Nat) : Int) + 4096) j = 1) → genR ls ov ov0 r = some w → tOv σ n w h
  | [], w, _, e => by cases e; exact fun e he => by cases he
  | q :: r, w, hq, e => by
    unfold genR at e
    split at e
    · rename_i p w' hp hw
      cases e
      have k := lnA_ok (vals := vals) (r := rv) hl ho h0 (fun i p e => by cases i <;> cases e) (fun p e => by cases e) hp
      have k2 := genR_ok hl ho h0 (r := r) (fun g hg => hq g (List.mem_cons_of_mem _ hg)) hw
      have k3 := hq q List.mem_cons_self
      intro e he
      rcases List.mem_cons.mp he with rfl | he
      · unfold okN
        rw [if_neg (by omega)]
        refine ⟨k.1, fun j j1 j2 => k3.2 j j1 ?_⟩
        rw [k.2] at j2
        exact j2
      · exact k2 e he
    · cases e
theorem okN_wf {σ : Nat → Int} {n : Nat} {e : Nat × AP} {h : PH} (k : okN σ n e h) : rLt n e.2.2 = true := by
  unfold okN at k
  split at k
  · exact k.1.1
  · exact k.1
/-- a state that is an instance: the general state says the same of it -/
theorem instT_ok {sp : LpT} {A B G : AS} {σ0 σB : Nat → Int} {c0 c : Cfg} (h0 : tA I z Z σ0 A c0) (ha : AG (nV A.1) σ0 σB) (hn : nV A.1 ≤ nV B.1) (hi : instT sp A B = true) (hB : tA I z Z σB B c) (hG : genT sp A = some G) :
    ∃ σG, AG (nV A.1) σB σG ∧ nV A.1 ≤ nV G.1 ∧ tA I z Z σG G c := by
  unfold instT at hi
  simp only [Bool.and_eq_true] at hi
  obtain ⟨i1, i2, i3, i4, i5, i6, i7, i8⟩ := hi
  have i1 := Nat.eq_of_beq_eq_true i1
  obtain ⟨p1, p2, p3, p4, p5, p6, p7, p8⟩ := h0
  obtain ⟨b1, b2, b3, b4, b5, b6, b7, b8⟩ := hB
  have w1 := qLs_wf p2
  have w2 := qSs_wf p3
  have s1 : satC σB A.1 := p4.ag ha
  have l1 : qLs σB (nV A.1) (blkT sp A.2.2.1) c.2.1 := mtL_ok i2 (blank_wf (wfL_genD w1)) (blank_fold (qLs_genD b2))
  have s2 : qSs σB (nV A.1) A.2.2.2.1 c.2.2.1 := mtS_ok i3 w2 b3
  have hlow : ∀ {p : AP} {x : Int}, rLt (nV A.1) p.2 = true → okP σB (nV B.1) p x → okP σB (nV A.1) p x := fun hp hk => ⟨hp, hk.2⟩
  have o1 : tOv σB (nV A.1) (A.2.2.2.2.filter (stay sp)) c.2.2.2.1 := by
    intro e he
    have k1 := List.all_eq_true.mp i4 e he
    have k2 := okN_wf (p8 e (List.mem_filter.mp he).1)
    unfold okK at k1
    split at k1
    · rename_i p hp
      have k3 := b8 _ (lkp_ok hp)
      unfold okN at k3 ⊢
      by_cases hc : e.1 < 65536
      · rw [if_pos hc] at k3 ⊢
        rw [show Nat.blt e.1 65536 = true from Nat.ble_eq_true_of_le hc] at k1
        have k1 := apEq_eq (show apEq p e.2 = true from k1)
        subst k1
        exact ⟨hlow k2 k3.1, k3.2⟩
      · rw [if_neg hc] at k3 ⊢
        rw [show Nat.blt e.1 65536 = false from by
          cases hq : Nat.blt e.1 65536 with
          | false => rfl
          | true => exact absurd (Nat.le_of_ble_eq_true hq) hc] at k1
        have k1 : (apEq p e.2 || geS B.1 (apSub p e.2) 0) = true := k1
        refine ⟨k2, fun j j1 j2 => k3.2 j j1 ?_⟩
        rcases Bool.or_eq_true_iff.mp k1 with k1 | k1
        · rw [apEq_eq k1]; exact j2
        · have k4 := geS_ok b4 k1
          rw [ev_sub] at k4
          show j < (((e.1 - 65536) % 256 : Nat) : Int) + ev σB p
          omega
    · cases k1
  obtain ⟨σ1, g1, g2, g3, g4⟩ := gen1_ok (r := sp.1) s1 l1 (fun q hq => by
    have k1 := List.all_eq_true.mp i5 q hq
    unfold okV2 at k1
    split at k1
    · rename_i p hp
      obtain ⟨x, k3, k4⟩ := getK_ok b2 hp
      refine ⟨x, k3, fun y hy => ?_⟩
      have := inS_ok b4 k1 y hy
      rw [k4.2] at this
      exact this
    · cases k1)
  obtain ⟨σ2, f1, f2, f3, f4⟩ := genC_ok (h := c.2.2.2.1) (r := sp.2.2.2.1) g3 (o1.up g2 g1) (fun q hq => by
    have k1 := List.all_eq_true.mp i6 q hq
    unfold okC2 at k1
    have k1 := Bool.and_eq_true_iff.mp k1
    have hlt : q.1 + 1 ≤ 65536 := Nat.le_of_ble_eq_true k1.1
    have k1 := k1.2
    split at k1
    · rename_i p hp
      have k3 := b8 _ (lkp_ok hp)
      unfold okN at k3
      rw [if_pos (show q.1 < 65536 from by omega)] at k3
      refine ⟨by omega, k3.2, fun y hy => ?_⟩
      have := inS_ok b4 k1 y hy
      rw [k3.1.2] at this
      exact this
    · cases k1)
  have hag : AG (nV A.1) σB σ2 := g1.tr g2 f1
  have hnn : nV A.1 ≤ nV (genC sp.2.2.2.1 (gen1 sp.1 A.1 (blkT sp A.2.2.1)).1 (A.2.2.2.2.filter (stay sp))).1 := Nat.le_trans g2 f2
  have hf0B : ∀ (cc : Nat) (p : AP), lkp A.2.2.2.2 cc = some p → okP σB (nV B.1) p (ev σB p) := fun cc p hp => ⟨rLt_mono hn (okN_wf (p8 _ (lkp_ok hp))), rfl⟩
  have hf0 : ∀ (cc : Nat) (p : AP), lkp A.2.2.2.2 cc = some p → okP σB (nV B.1) p (match lkp A.2.2.2.2 cc with
    | some q => ev σB q
    | none => 0) := fun cc p hp => by rw [hp]; exact hf0B cc p hp
  have hf0G : ∀ (cc : Nat) (p : AP), lkp A.2.2.2.2 cc = some p → okP σ2 (nV (genC sp.2.2.2.1 (gen1 sp.1 A.1 (blkT sp A.2.2.1)).1 (A.2.2.2.2.filter (stay sp))).1) p (match lkp A.2.2.2.2 cc with
    | some q => ev σB q
    | none => 0) := fun cc p hp => by
      rw [hp]
      have hw := okN_wf (p8 _ (lkp_ok hp))
      exact (show okP σB (nV A.1) p (ev σB p) from ⟨hw, rfl⟩).up hnn hag
  unfold genT at hG
  simp only at hG
  split at hG
  · rename_i C3 w hC3 hw
    cases hG
    have hl2 := g4.up f2 f1
    obtain ⟨t1, t2⟩ := genF_ok (vals := fun _ => 0) (rv := 0) hl2 f4 hf0G f3 rfl (fun f hf => by
      obtain ⟨p, q1, q2, q3⟩ := bdF_ok b4 (List.all_eq_true.mp i7 f hf)
      have k := lnA_ok (vals := fun _ => 0) (r := 0) b2 b8 hf0 (fun i p e => by cases i <;> cases e) (fun p e => by cases e) q1
      rw [k.2] at q2 q3
      exact ⟨q2, q3⟩) hC3
    have t3 := genR_ok (vals := fun _ => 0) (rv := 0) hl2 f4 hf0G (fun q hq => by
      have k1 := List.all_eq_true.mp i8 q hq
      unfold okR2 at k1
      have k1 := Bool.and_eq_true_iff.mp k1
      have k0 := Nat.le_of_ble_eq_true k1.1
      have k1 := k1.2
      refine ⟨k0, fun j j1 j2 => ?_⟩
      split at k1
      · rename_i p hp
        have k := lnA_ok (vals := fun _ => 0) (r := 0) b2 b8 hf0 (fun i p e => by cases i <;> cases e) (fun p e => by cases e) hp
        split at k1
        · rename_i R hR
          have k3 := b8 _ (lkp_ok hR)
          unfold okN at k3
          rw [if_neg (show ¬ q.1 < 65536 from by omega)] at k3
          have k4 := geS_ok b4 k1
          rw [ev_sub, k.2] at k4
          refine k3.2 j j1 ?_
          show j < (((q.1 - 65536) % 256 : Nat) : Int) + ev σB R
          omega
        · have k4 := leS_ok b4 k1
          rw [k.2] at k4
          omega
      · cases k1) hw
    have e9 : nV C3 = nV (genC sp.2.2.2.1 (gen1 sp.1 A.1 (blkT sp A.2.2.1)).1 (A.2.2.2.2.filter (stay sp))).1 := t2
    refine ⟨σ2, hag, by rw [e9]; exact hnn, ⟨?_, ?_, ?_, t1, ?_, b6, b7, ?_⟩⟩
    · show A.2.1 = c.1
      rw [← b1, i1]
    · rw [e9]; exact hl2
    · rw [e9]; exact s2.up hnn hag
    · rw [e9]; exact (p5.up (Nat.le_refl _) ha).up hnn hag
    · rw [e9]
      intro e he
      rcases List.mem_append.mp he with he | he
      · exact t3 e he
      · exact f4 e he
  · cases hG
def outT (I : PH → Prop) (z : Int → Int) (Z : Option ZT) (m : Nat) (c : Cfg) (n : Nat) (σ' : Nat → Int) : Oc → Prop
  | .inl B => n ≤ nV B.1 ∧ ∃ c', XCD z m c = XCD z m c' ∧ tA I z Z σ' B c'
  | .inr r => n ≤ nV r.1 ∧ ∃ v h g, XCD z m c = some (v, h, g) ∧ qR σ' (nV r.1) r.2.1 v ∧ tH I z Z σ' r.1 r.2.2 h g
def OUTT (I : PH → Prop) (z : Int → Int) (Z : Option ZT) (m : Nat) (c : Cfg) (n : Nat) (σ : Nat → Int) (L : List Oc) : Prop := ∃ o ∈ L, ∃ σ', AG n σ σ' ∧ outT I z Z m c n σ' o
theorem OUTT.pre {m : Nat} {c c' : Cfg} {n n' : Nat} {σ σ' : Nat → Int} {L : List Oc} (h : OUTT I z Z m c' n' σ' L) (hx : XCD z m c = XCD z m c') (hn : n ≤ n') (ha : AG n σ σ') : OUTT I z Z m c n σ L := by
  obtain ⟨o, h1, σ2, h2, h3⟩ := h
  refine ⟨o, h1, σ2, ha.tr hn h2, ?_⟩
  match o, h3 with
  | .inl B, ⟨k1, c2, k2, k3⟩ => exact ⟨Nat.le_trans hn k1, c2, hx.trans k2, k3⟩
  | .inr r, ⟨k1, v, h, g, k2, k3⟩ => exact ⟨Nat.le_trans hn k1, v, h, g, hx.trans k2, k3⟩
theorem OUTT.sub {m : Nat} {c : Cfg} {n : Nat} {σ : Nat → Int} {L L' : List Oc} (h : OUTT I z Z m c n σ L) (hL : ∀ o ∈ L, o ∈ L') : OUTT I z Z m c n σ L' := by
  obtain ⟨o, h1, h2⟩ := h
  exact ⟨o, hL o h1, h2⟩
theorem loopT_ok (hP : tOK P I) {sp : LpT} {body : AS → Option (List Oc)} {m : Nat} {A0 : AS} {L : List Oc} (hb : ∀ (G : AS) (L : List Oc), body G = some L → ∀ (σ : Nat → Int) (c : Cfg), tA I z Z σ G c → OUTT I z Z m c (nV G.1) σ L)
    (e : loopT P sp body A0 = some L) {σ00 : Nat → Int} {c0 : Cfg} (h00 : tA I z Z σ00 A0 c0) : OUTT I z Z m c0 (nV A0.1) σ00 L := by
  unfold loopT at e
  split at e
  · rename_i q hq
    obtain ⟨σ0, t1, t2, t3⟩ := tchT_ok hP h00.2.2.2 hq
    have h0 : tA I z Z σ0 (q.1, A0.2.1, A0.2.2.1, A0.2.2.2.1, q.2) c0 := ⟨h00.1, h00.2.1.up t2 t1, h00.2.2.1.up t2 t1, t3⟩
    generalize hA : (q.1, A0.2.1, A0.2.2.1, A0.2.2.2.1, q.2) = A at e h0
    have hpc : A.2.1 = A0.2.1 := by rw [← hA]
    have hnA : nV A.1 = nV q.1 := by rw [← hA]
    cases hi : instT sp A A with
    | false => rw [hi] at e; cases e
    | true =>
      rw [hi] at e
      simp only [cond_true] at e
      split at e
      · rename_i G hG
        split at e
        · rename_i L0 hL0
          cases hall : L0.all (backT sp A G) with
          | false => rw [hall] at e; cases e
          | true =>
            rw [hall] at e
            cases e
            rw [← hpc]
            have key : ∀ (N : Nat) (B : AS) (σB : Nat → Int) (c : Cfg), (lnC c.2.1 c.2.2.2.1 (fun cc => match lkp A.2.2.2.2 cc with
                | some q => ev σ0 q
                | none => 0) (fun _ => 0) 0 sp.2.2.2.2.2.2.1).toNat < N → AG (nV A.1) σ0 σB → nV A.1 ≤ nV B.1 → instT sp A B = true → tA I z Z σB B c → OUTT I z Z m c (nV A.1) σB (L0.filter (fun o => !isHd A.2.1 o)) := by
              intro N
              induction N with
              | zero => intro B σB c hN; omega
              | succ N ih =>
                intro B σB c hN ha hnB hiB hB
                obtain ⟨σG, g1, g2, g3⟩ := instT_ok h0 ha hnB hiB hB hG
                obtain ⟨o, o1, σ', o2, o3⟩ := hb _ _ hL0 σG c g3
                have hbk := List.all_eq_true.mp hall o o1
                cases hh : isHd A.2.1 o with
                | false =>
                  have hO : OUTT I z Z m c (nV G.1) σG (L0.filter (fun o => !isHd A.2.1 o)) := ⟨o, List.mem_filter.mpr ⟨o1, by rw [hh]; rfl⟩, σ', o2, o3⟩
                  exact hO.pre rfl g2 g1
                | true =>
                  match o, o3, hbk, hh with
                  | .inr r, _, _, hh => cases hh
                  | .inl B', ⟨k1, c', k2, k3⟩, hbk, hh =>
                    have hh : Nat.beq B'.2.1 A.2.1 = true := hh
                    have hbk : (!Nat.beq B'.2.1 A.2.1 || (instT sp A B' && fallT sp A G B')) = true := hbk
                    rw [hh] at hbk
                    have hbk : (instT sp A B' && fallT sp A G B') = true := by simpa using hbk
                    have hbk := Bool.and_eq_true_iff.mp hbk
                    have hag : AG (nV A.1) σB σ' := g1.tr g2 o2
                    have hag0 : AG (nV A.1) σ0 σ' := ha.tr (Nat.le_refl _) hag
                    have hf := hbk.2
                    have hw0 : ∀ (cc : Nat) (p : AP), lkp A.2.2.2.2 cc = some p → rLt (nV A.1) p.2 = true := fun cc p hp => okN_wf (h0.2.2.2.2.2.2.2 _ (lkp_ok hp))
                    have hzr : ∀ (σ1 : Nat → Int) (n1 : Nat), AG (nV A.1) σ0 σ1 → nV A.1 ≤ n1 → ∀ (cc : Nat) (p : AP), lkp A.2.2.2.2 cc = some p → okP σ1 n1 p (match lkp A.2.2.2.2 cc with
                        | some q => ev σ0 q
                        | none => 0) := fun σ1 n1 hg1 hn1 cc p hp => by
                      rw [hp]
                      exact (show okP σ0 (nV A.1) p (ev σ0 p) from ⟨hw0 cc p hp, rfl⟩).up hn1 hg1
                    unfold fallT at hf
                    split at hf
                    · rename_i p q' hp hq'
                      have hf := Bool.and_eq_true_iff.mp hf
                      have m1 := lnA_ok (vals := fun _ => 0) (r := 0) g3.2.1 g3.2.2.2.2.2.2.2 (hzr σG (nV G.1) (ha.tr (Nat.le_refl _) g1) g2) (fun i p e => by cases i <;> cases e) (fun p e => by cases e) hp
                      have m2 := lnA_ok (vals := fun _ => 0) (r := 0) k3.2.1 k3.2.2.2.2.2.2.2 (hzr σ' (nV B'.1) hag0 (Nat.le_trans g2 k1)) (fun i p e => by cases i <;> cases e) (fun p e => by cases e) hq'
                      have m3 := m1.up k1 o2
                      have e1 := geS_ok k3.2.2.2.1 hf.1
                      have e2 := geS_ok k3.2.2.2.1 hf.2
                      rw [ev_sub, m3.2, m2.2] at e1
                      rw [m3.2] at e2
                      have hO := ih B' σ' c' (by omega) hag0 (Nat.le_trans g2 k1) hbk.1 k3
                      exact hO.pre k2 (Nat.le_refl _) hag
                    · cases hf
            have hO := key (_ + 1) A σ0 c0 (Nat.lt_succ_self _) AG.rf (Nat.le_refl _) hi h0
            exact hO.pre rfl (by rw [hnA]; exact t2) t1
        · cases e
      · cases e
  · cases e
end LOOPT
