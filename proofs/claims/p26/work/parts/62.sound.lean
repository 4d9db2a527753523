/-! ===== THE ABSTRACT RUNS ARE TRUE ===== -/
def wfA1 (n : Nat) : AV → Prop
  | .inl p => rLt n p.2 = true
  | .inr (.inl p) => rLt n p.2 = true
  | .inr (.inr p) => rLt n p.2 = true
def wfO (n : Nat) : AL → Prop
  | .inl _ => True
  | .inr a => wfA1 n a
def wfL (n : Nat) : List AL → Prop
  | [] => True
  | a :: r => wfO n a ∧ wfL n r
def wfS (n : Nat) : List AV → Prop
  | [] => True
  | a :: r => wfA1 n a ∧ wfS n r
theorem qV_wf {σ : Nat → Int} {n : Nat} : ∀ {a : AV} {v : PV}, qV σ n a v → wfA1 n a
  | .inl _, .inl _, h => h.1
  | .inr (.inl _), .inr (.inl _), h => h.1
  | .inr (.inr _), .inr (.inr _), h => h.1
  | .inl _, .inr _, h => h.elim
  | .inr (.inl _), .inl _, h => h.elim
  | .inr (.inl _), .inr (.inr _), h => h.elim
  | .inr (.inr _), .inl _, h => h.elim
  | .inr (.inr _), .inr (.inl _), h => h.elim
theorem qO_wf {σ : Nat → Int} {n : Nat} : ∀ {a : AL} {o : Option PV}, qO σ n a o → wfO n a
  | .inl _, _, _ => trivial
  | .inr _, _, ⟨_, _, h⟩ => qV_wf h
theorem qLs_wf {σ : Nat → Int} {n : Nat} : ∀ {as : List AL} {os : PL}, qLs σ n as os → wfL n as
  | [], _, _ => trivial
  | _ :: _, _ :: _, h => ⟨qO_wf h.1, qLs_wf h.2⟩
  | _ :: _, [], h => h.elim
theorem qSs_wf {σ : Nat → Int} {n : Nat} : ∀ {as : List AV} {os : List PV}, qSs σ n as os → wfS n as
  | [], _, _ => trivial
  | _ :: _, _ :: _, h => ⟨qV_wf h.1, qSs_wf h.2⟩
  | _ :: _, [], h => h.elim
theorem wfL_set {n : Nat} {b : Bool} : ∀ {as : List AL} (i : Nat), wfL n as → wfL n (as.set i (.inl b))
  | [], _, h => h
  | _ :: _, 0, h => ⟨trivial, h.2⟩
  | _ :: _, i + 1, h => ⟨h.1, wfL_set i h.2⟩
theorem wfL_genD {n : Nat} : ∀ {d : List Nat} {as : List AL}, wfL n as → wfL n (genD d as)
  | [], _, h => h
  | i :: d, as, h => wfL_genD (d := d) (as := as.set i (.inl false)) (wfL_set i h)
theorem qLs_setT {σ : Nat → Int} {n : Nat} : ∀ {as : List AL} {os : PL} (i : Nat), qLs σ n as os → qLs σ n (as.set i (.inl false)) os
  | [], [], _, h => h
  | _ :: _, _ :: _, 0, h => ⟨(fun q => by cases q), h.2⟩
  | _ :: _, _ :: _, i + 1, h => ⟨h.1, qLs_setT i h.2⟩
  | [], _ :: _, _, h => h.elim
  | _ :: _, [], _, h => h.elim
theorem qLs_set1 {σ : Nat → Int} {n : Nat} {a : AL} {o : Option PV} (ha : qO σ n a o) : ∀ {as : List AL} {os : PL} (i : Nat), qLs σ n as os → os[i]? = some o → qLs σ n (as.set i a) os
  | [], [], _, h, _ => h
  | _ :: _, _ :: _, 0, h, e => by
    cases e
    exact ⟨ha, h.2⟩
  | _ :: _, _ :: _, i + 1, h, e => ⟨h.1, qLs_set1 ha i h.2 e⟩
  | [], _ :: _, _, h, _ => h.elim
  | _ :: _, [], _, h, _ => h.elim
theorem qLs_genD {σ : Nat → Int} {n : Nat} {os : PL} : ∀ {d : List Nat} {as : List AL}, qLs σ n as os → qLs σ n (genD d as) os
  | [], _, h => h
  | i :: d, as, h => qLs_genD (d := d) (as := as.set i (.inl false)) (qLs_setT i h)
theorem blank_fold {σ : Nat → Int} {n : Nat} {os : PL} : ∀ {r : List (Nat × Nat × Option IV)} {as : List AL}, qLs σ n as os → qLs σ n (r.foldl (fun l q => l.set q.1 (.inl false)) as) os
  | [], _, h => h
  | q :: r, as, h => blank_fold (r := r) (as := as.set q.1 (.inl false)) (qLs_setT q.1 h)
theorem blank_wf {n : Nat} : ∀ {r : List (Nat × Nat × Option IV)} {as : List AL}, wfL n as → wfL n (r.foldl (fun l q => l.set q.1 (.inl false)) as)
  | [], _, h => h
  | q :: r, as, h => blank_wf (r := r) (as := as.set q.1 (.inl false)) (wfL_set q.1 h)
theorem qV_lo {σ : Nat → Int} {n m : Nat} : ∀ {a : AV} {v : PV}, wfA1 n a → qV σ m a v → qV σ n a v
  | .inl _, .inl _, w, h => ⟨w, h.2⟩
  | .inr (.inl _), .inr (.inl _), w, h => ⟨w, h.2⟩
  | .inr (.inr _), .inr (.inr _), w, h => ⟨w, h.2⟩
  | .inl _, .inr _, _, h => h.elim
  | .inr (.inl _), .inl _, _, h => h.elim
  | .inr (.inl _), .inr (.inr _), _, h => h.elim
  | .inr (.inr _), .inl _, _, h => h.elim
  | .inr (.inr _), .inr (.inl _), _, h => h.elim
theorem mtL_ok {σ : Nat → Int} {n m : Nat} : ∀ {as bs : List AL} {os : PL}, mtL as bs = true → wfL n as → qLs σ m bs os → qLs σ n as os
  | [], [], [], _, _, _ => trivial
  | .inl b :: as, .inl c :: bs, o :: os, h, w, k => by
    simp only [mtL, Bool.and_eq_true] at h
    refine ⟨fun hb v hv => ?_, mtL_ok h.2 w.2 k.2⟩
    refine k.1 ?_ v hv
    cases c with
    | true => rfl
    | false => subst hb; simp at h
  | .inl b :: as, .inr a :: bs, o :: os, h, w, k => by
    simp only [mtL, Bool.and_eq_true] at h
    refine ⟨fun hb v hv => ?_, mtL_ok h.2 w.2 k.2⟩
    obtain ⟨v', e1, e2⟩ := k.1
    rw [e1] at hv
    cases hv
    subst hb
    have h1 : Nat.beq (catA a) 1 = true := by simpa using h.1
    rw [← qV_cat e2]
    exact Nat.eq_of_beq_eq_true h1
  | .inr a :: as, .inr b :: bs, o :: os, h, w, k => by
    simp only [mtL, Bool.and_eq_true] at h
    have e := avEq_eq h.1
    subst e
    obtain ⟨v', e1, e2⟩ := k.1
    exact ⟨⟨v', e1, qV_lo w.1 e2⟩, mtL_ok h.2 w.2 k.2⟩
  | .inr _ :: _, .inl _ :: _, _, h, _, _ => by simp [mtL] at h
  | [], _ :: _, _, h, _, _ => by simp [mtL] at h
  | _ :: _, [], _, h, _, _ => by simp [mtL] at h
  | [], [], _ :: _, _, _, k => k.elim
  | _ :: _, _ :: _, [], _, _, k => k.elim
theorem mtS_ok {σ : Nat → Int} {n m : Nat} : ∀ {as bs : List AV} {os : List PV}, mtS as bs = true → wfS n as → qSs σ m bs os → qSs σ n as os
  | [], [], [], _, _, _ => trivial
  | a :: as, b :: bs, o :: os, h, w, k => by
    simp only [mtS, Bool.and_eq_true] at h
    have e := avEq_eq h.1
    subst e
    exact ⟨qV_lo w.1 k.1, mtS_ok h.2 w.2 k.2⟩
  | [], _ :: _, _, h, _, _ => by simp [mtS] at h
  | _ :: _, [], _, h, _, _ => by simp [mtS] at h
  | [], [], _ :: _, _, _, k => k.elim
  | _ :: _, _ :: _, [], _, _, k => k.elim
theorem mtO_in {ov : OV} : ∀ {r : OV}, mtO ov r = true → ∀ e ∈ r, e ∈ ov
  | [], _, _, h => by cases h
  | q :: r, h, e, he => by
    simp only [mtO, Bool.and_eq_true] at h
    rcases List.mem_cons.mp he with rfl | he
    · have h1 := h.1
      split at h1
      · rename_i p hp
        have e2 := apEq_eq h1
        subst e2
        exact lkp_ok hp
      · cases h1
    · exact mtO_in h.2 e he
theorem mtQ_in : ∀ {ov r : OV}, mtQ ov r = true → ∀ e ∈ r, e ∈ ov
  | _, [], _, _, h => by cases h
  | [], _ :: _, h, _, _ => by cases h
  | x :: xs, q :: r, h, e, he => by
    unfold mtQ at h
    cases hk : Nat.beq x.1 q.1 && apEq x.2 q.2 with
    | true =>
      rw [hk] at h
      have hk := Bool.and_eq_true_iff.mp hk
      have e1 := Nat.eq_of_beq_eq_true hk.1
      have e2 := apEq_eq hk.2
      rcases List.mem_cons.mp he with rfl | he
      · have : e = x := Prod.ext e1.symm e2.symm
        rw [this]
        exact List.mem_cons_self
      · exact List.mem_cons_of_mem _ (mtQ_in (ov := xs) h e he)
    | false =>
      rw [hk] at h
      exact List.mem_cons_of_mem _ (mtQ_in (ov := xs) h e he)
theorem mtP_in {ov r : OV} (h : mtP ov r = true) : ∀ e ∈ r, e ∈ ov := by
  rcases Bool.or_eq_true_iff.mp h with h | h
  · exact mtQ_in h
  · exact mtO_in h
def mkV (k : Nat) (x : Int) : PV := bif Nat.beq k 0 then vI x else vL x
theorem getK_ok {σ : Nat → Int} {n i k : Nat} {as : List AL} {os : PL} {p : AP} (h : qLs σ n as os) (e : getK as i k = some p) : ∃ x, os[i]? = some (some (mkV k x)) ∧ okP σ n p x := by
  unfold getK at e
  split at e
  · rename_i p' hp
    obtain ⟨o, h1, v, rfl, h2⟩ := qLs_nth h hp
    cases hk : Nat.beq k 0 with
    | false => rw [hk] at e; cases e
    | true =>
      rw [hk] at e
      cases e
      match v, h2 with
      | .inl x, h2 => exact ⟨x, by rw [h1]; unfold mkV; rw [hk]; rfl, h2⟩
      | .inr _, h2 => exact h2.elim
  · rename_i p' hp
    obtain ⟨o, h1, v, rfl, h2⟩ := qLs_nth h hp
    cases hk : Nat.beq k 1 with
    | false => rw [hk] at e; cases e
    | true =>
      rw [hk] at e
      cases e
      have hk := Nat.eq_of_beq_eq_true hk
      subst hk
      match v, h2 with
      | .inr (.inl x), h2 => exact ⟨x, h1, h2⟩
      | .inl _, h2 => exact h2.elim
      | .inr (.inr _), h2 => exact h2.elim
  · cases e
theorem putK_ok {σ : Nat → Int} {n k : Nat} {p : AP} {x : Int} (h : okP σ n p x) : qO σ n (putK k p) (some (mkV k x)) := by
  unfold putK mkV
  cases Nat.beq k 0 with
  | true => exact ⟨_, rfl, h⟩
  | false => exact ⟨_, rfl, h⟩
theorem gen1_ok {os : PL} : ∀ {r : List (Nat × Nat × Option IV)} {C : Cx} {as : List AL} {σ : Nat → Int}, satC σ C → qLs σ (nV C) as os →
    (∀ q ∈ r, ∃ x, os[q.1]? = some (some (mkV q.2.1 x)) ∧ ∀ y, q.2.2 = some y → y.1 ≤ x ∧ x ≤ y.2) →
    ∃ σ', AG (nV C) σ σ' ∧ nV C ≤ nV (gen1 r C as).1 ∧ satC σ' (gen1 r C as).1 ∧ qLs σ' (nV (gen1 r C as).1) (gen1 r C as).2 os
  | [], C, as, σ, hC, hL, _ => ⟨σ, AG.rf, Nat.le_refl _, hC, hL⟩
  | q :: r, C, as, σ, hC, hL, hx => by
    obtain ⟨x, h1, h2⟩ := hx q List.mem_cons_self
    obtain ⟨a1, a2, a3, a4⟩ := fresh_ok hC (q := q.2.2) (x := x) h2
    have k := qLs_set1 (putK_ok (k := q.2.1) a4) q.1 (hL.up a2 a1) h1
    obtain ⟨σ', b1, b2, b3, b4⟩ := gen1_ok (r := r) a3 k (fun w hw => hx w (List.mem_cons_of_mem _ hw))
    exact ⟨σ', a1.tr a2 b1, Nat.le_trans a2 b2, b3, b4⟩
theorem mtV_ok {C : Cx} {as : List AL} : ∀ {r : List (Nat × Nat × Option IV)}, mtV C as r = true → ∀ q ∈ r, ∃ p, getK as q.1 q.2.1 = some p ∧ ivIn C p q.2.2 = true
  | [], _, _, h => by cases h
  | q :: r, h, w, hw => by
    simp only [mtV, Bool.and_eq_true] at h
    rcases List.mem_cons.mp hw with rfl | hw
    · have h1 := h.1
      split at h1
      · rename_i p hp
        exact ⟨p, hp, h1⟩
      · cases h1
    · exact mtV_ok h.2 w hw
theorem satC.ag {σ σ' : Nat → Int} {C : Cx} (h : satC σ C) (ha : AG (nV C) σ σ') : satC σ' C := by
  refine ⟨fun i l u hi => ?_, fun f hf => ?_⟩
  · have hl : i < nV C := getG_lt hi
    rw [← ha i hl]
    exact h.1 i l u hi
  · have k := h.2 f hf
    have e := evR_ag ha k.1
    rw [← e]
    exact k
/-- the concrete measure -/
def mval (l : PL) (i : Nat) : Int := match lget l i with
  | some (.inl x) => x
  | _ => 0
def measC (sp : Lp) (l : PL) : Int := sp.2.2.2.1.foldl (fun o q => o + q.2 * mval l q.1) sp.2.2.2.2
theorem meas_fold {σ : Nat → Int} {n : Nat} {as : List AL} {l : PL} (h : qLs σ n as l) : ∀ {r : List (Nat × Int)} {p q : AP} {x : Int}, okP σ n p x →
    r.foldl (fun o q => match o, getK as q.1 0 with
      | some p, some v => some (apAdd p (apMul (apC q.2) v))
      | _, _ => none) (some p) = some q → okP σ n q (r.foldl (fun o q => o + q.2 * mval l q.1) x)
  | [], p, q, x, hp, e => by cases e; exact hp
  | w :: r, p, q, x, hp, e => by
    simp only [List.foldl_cons] at e ⊢
    cases hk : getK as w.1 0 with
    | none =>
      rw [hk] at e
      simp only at e
      exfalso
      have : ∀ r : List (Nat × Int), r.foldl (fun o q => match o, getK as q.1 0 with
        | some p, some v => some (apAdd p (apMul (apC q.2) v))
        | _, _ => none) none = none := by
        intro r
        induction r with
        | nil => rfl
        | cons a r ih => exact ih
      rw [this] at e
      cases e
    | some v =>
      rw [hk] at e
      obtain ⟨y, h1, h2⟩ := getK_ok h hk
      have hm : mval l w.1 = y := by
        unfold mval lget
        rw [h1]
        rfl
      rw [hm]
      exact meas_fold h (hp.add ((okP_C σ n w.2).mul h2)) e
theorem meas_ok {sp : Lp} {σ : Nat → Int} {n : Nat} {as : List AL} {l : PL} {p : AP} (h : qLs σ n as l) (e : meas sp as = some p) : okP σ n p (measC sp l) := by
  unfold meas at e
  unfold measC
  exact meas_fold h (okP_C σ n _) e
section SOUND
variable {P : RGt} {z : Int → Int} {Z : ZP}
theorem inst_ok {sp : Lp} {A B : AS} {σ0 σB : Nat → Int} {c0 c : Cfg} (h0 : qA P z Z σ0 A c0) (ha : AG (nV A.1) σ0 σB) (hi : inst sp A B = true) (hB : qA P z Z σB B c) :
    ∃ σG, AG (nV A.1) σB σG ∧ nV A.1 ≤ nV (genA sp A).1 ∧ qA P z Z σG (genA sp A) c := by
  unfold inst at hi
  simp only [Bool.and_eq_true] at hi
  obtain ⟨i1, i2, i3, i4, i5⟩ := hi
  have i1 := Nat.eq_of_beq_eq_true i1
  obtain ⟨p1, p2, p3, p4, p5, p6, p7, p8⟩ := h0
  obtain ⟨b1, b2, b3, b4, b5, b6, b7, b8⟩ := hB
  have w1 := qLs_wf p2
  have w2 := qSs_wf p3
  have s1 : satC σB A.1 := p4.ag ha
  have l1 : qLs σB (nV A.1) (blk sp A.2.2.1) c.2.1 := mtL_ok i2 (blank_wf (wfL_genD w1)) (blank_fold (qLs_genD b2))
  have s2 : qSs σB (nV A.1) A.2.2.2.1 c.2.2.1 := mtS_ok i3 w2 b3
  have o1 : hOv σB (nV A.1) (A.2.2.2.2.filter (fun e => !memN sp.2.2.1 (e.1 / 256))) c.2.2.2.1 := by
    intro e he
    have k1 := b8 e (mtP_in i4 e he)
    have k2 := p8 e (List.mem_filter.mp he).1
    exact ⟨k2.1, k1.2⟩
  obtain ⟨σG, g1, g2, g3, g4⟩ := gen1_ok (r := sp.1) s1 l1 (fun q hq => by
    obtain ⟨p, k1, k2⟩ := mtV_ok i5 q hq
    obtain ⟨x, k3, k4⟩ := getK_ok b2 k1
    refine ⟨x, k3, fun y hy => ?_⟩
    have := ivIn_ok b4 k2 y hy
    rw [k4.2] at this
    exact this)
  refine ⟨σG, g1, g2, ⟨?_, g4, s2.up g2 g1, g3, (p5.up (Nat.le_refl _) ha).up g2 g1, b6, b7, o1.up g2 g1⟩⟩
  show A.2.1 = c.1
  rw [← b1, i1]
def qR (σ : Nat → Int) (n : Nat) : Option AV → Option PV → Prop
  | none, none => True
  | some a, some v => qV σ n a v
  | _, _ => False
theorem qR.up {σ σ' : Nat → Int} {n m : Nat} (hn : n ≤ m) (ha : AG n σ σ') : ∀ {a : Option AV} {v : Option PV}, qR σ n a v → qR σ' m a v
  | none, none, h => h
  | some _, some _, h => qV.up hn ha h
  | none, some _, h => h.elim
  | some _, none, h => h.elim
def outO (P : RGt) (z : Int → Int) (Z : ZP) (m : Nat) (c : Cfg) (n : Nat) (σ' : Nat → Int) : Oc → Prop
  | .inl B => n ≤ nV B.1 ∧ ∃ c', XC z m c = XC z m c' ∧ qA P z Z σ' B c'
  | .inr r => n ≤ nV r.1 ∧ ∃ v h g, XC z m c = some (v, h, g) ∧ qR σ' (nV r.1) r.2.1 v ∧ qH P z Z σ' r.1 r.2.2 h g
def OUT (P : RGt) (z : Int → Int) (Z : ZP) (m : Nat) (c : Cfg) (n : Nat) (σ : Nat → Int) (L : List Oc) : Prop := ∃ o ∈ L, ∃ σ', AG n σ σ' ∧ outO P z Z m c n σ' o
def kOK (P : RGt) (z : Int → Int) (Z : ZP) (K : Ct) : Prop := ∀ (m : Nat) (C : Cx) (av : List AV) (ov : OV) (rs : List Rt), K m C av ov = some rs → ∀ (σ : Nat → Int) (avs : List PV) (h : PH) (g : PG), qSs σ (nV C) av avs → qH P z Z σ C ov h g →
  ∃ r ∈ rs, ∃ σ' v h' g', AG (nV C) σ σ' ∧ nV C ≤ nV r.1 ∧ CALL z m avs h g = some (v, h', g') ∧ qR σ' (nV r.1) r.2.1 v ∧ qH P z Z σ' r.1 r.2.2 h' g'
theorem OUT.pre {m : Nat} {c c' : Cfg} {n n' : Nat} {σ σ' : Nat → Int} {L : List Oc} (h : OUT P z Z m c' n' σ' L) (hx : XC z m c = XC z m c') (hn : n ≤ n') (ha : AG n σ σ') : OUT P z Z m c n σ L := by
  obtain ⟨o, h1, σ2, h2, h3⟩ := h
  refine ⟨o, h1, σ2, ha.tr hn h2, ?_⟩
  match o, h3 with
  | .inl B, ⟨k1, c2, k2, k3⟩ => exact ⟨Nat.le_trans hn k1, c2, hx.trans k2, k3⟩
  | .inr r, ⟨k1, v, h, g, k2, k3⟩ => exact ⟨Nat.le_trans hn k1, v, h, g, hx.trans k2, k3⟩
theorem OUT.sub {m : Nat} {c : Cfg} {n : Nat} {σ : Nat → Int} {L L' : List Oc} (h : OUT P z Z m c n σ L) (hL : ∀ o ∈ L, o ∈ L') : OUT P z Z m c n σ L' := by
  obtain ⟨o, h1, h2⟩ := h
  exact ⟨o, hL o h1, h2⟩
theorem loop_ok {sp : Lp} {body : AS → Option (List Oc)} {m : Nat} {A : AS} {L : List Oc} (hb : ∀ (G : AS) (L : List Oc), body G = some L → ∀ (σ : Nat → Int) (c : Cfg), qA P z Z σ G c → OUT P z Z m c (nV G.1) σ L)
    (e : loopA sp body A = some L) {σ0 : Nat → Int} {c0 : Cfg} (h0 : qA P z Z σ0 A c0) : OUT P z Z m c0 (nV A.1) σ0 L := by
  unfold loopA at e
  cases hi : inst sp A A with
  | false => rw [hi] at e; cases e
  | true =>
    rw [hi] at e
    simp only [cond_true] at e
    split at e
    · rename_i L0 hL0
      cases hall : L0.all (backOk sp A (genA sp A)) with
      | false => rw [hall] at e; cases e
      | true =>
        rw [hall] at e
        cases e
        have key : ∀ (N : Nat) (B : AS) (σB : Nat → Int) (c : Cfg), (measC sp c.2.1).toNat < N → AG (nV A.1) σ0 σB → inst sp A B = true → qA P z Z σB B c → OUT P z Z m c (nV A.1) σB (L0.filter (fun o => !isHd A.2.1 o)) := by
          intro N
          induction N with
          | zero => intro B σB c hN; omega
          | succ N ih =>
            intro B σB c hN ha hiB hB
            obtain ⟨σG, g1, g2, g3⟩ := inst_ok h0 ha hiB hB
            obtain ⟨o, o1, σ', o2, o3⟩ := hb _ _ hL0 σG c g3
            have hbk := List.all_eq_true.mp hall o o1
            cases hh : isHd A.2.1 o with
            | false =>
              have hO : OUT P z Z m c (nV (genA sp A).1) σG (L0.filter (fun o => !isHd A.2.1 o)) := ⟨o, List.mem_filter.mpr ⟨o1, by rw [hh]; rfl⟩, σ', o2, o3⟩
              exact hO.pre rfl g2 g1
            | true =>
              match o, o3, hbk, hh with
              | .inr r, _, _, hh => cases hh
              | .inl B', ⟨k1, c', k2, k3⟩, hbk, hh =>
                have hh : Nat.beq B'.2.1 A.2.1 = true := hh
                have hbk : (!Nat.beq B'.2.1 A.2.1 || (inst sp A B' && falls sp (genA sp A) B')) = true := hbk
                rw [hh] at hbk
                have hbk : (inst sp A B' && falls sp (genA sp A) B') = true := by simpa using hbk
                have hbk := Bool.and_eq_true_iff.mp hbk
                have hag : AG (nV A.1) σB σ' := g1.tr g2 o2
                have hf := hbk.2
                unfold falls at hf
                split at hf
                · rename_i p q hp hq
                  split at hf
                  · rename_i x y hx hy
                    have hf := Bool.and_eq_true_iff.mp hf
                    have f1 := leZ_iff.mp hf.1
                    have f2 := leZ_iff.mp hf.2
                    have m1 := meas_ok g3.2.1 hp
                    have m2 := meas_ok k3.2.1 hq
                    have m3 := m1.up k1 o2
                    have e1 := ivP_ok k3.2.2.2.1 hx
                    have e2 := ivP_ok k3.2.2.2.1 hy
                    rw [ev_sub, m3.2, m2.2] at e1
                    rw [m3.2] at e2
                    have hO := ih B' σ' c' (by omega) (ha.tr (Nat.le_refl _) hag) hbk.1 k3
                    exact hO.pre k2 (Nat.le_refl _) hag
                  · cases hf
                · cases hf
        exact key ((measC sp c0.2.1).toNat + 1) A σ0 c0 (Nat.lt_succ_self _) AG.rf hi h0
    · cases e
end SOUND
