/-! ===== WHAT A CONTRACT SAYS; that it may be taken at a call ===== -/
def pbA (a : Nat) : List (Nat × Nat × Int × Int) := match nth pbL (a / 16) with
  | some r => (match nth r (a % 16) with
    | some q => q
    | none => [])
  | none => []
def pb1 : List (Nat × Nat × Int × Int) → Nat → Nat → Option IV
  | [], _, _ => none
  | e :: r, l, u => bif Nat.ble e.1 l && Nat.ble u e.2.1 then some (e.2.2.1, e.2.2.2) else pb1 r l u
def pb2 (L : List (Nat × Nat × Int × Int)) (l u : Nat) (o : Option IV) : Bool := L.all (fun e => Nat.blt u e.1 || (Nat.blt e.2.1 l || (match o with
  | some q => leZ e.2.2.1 q.1 && leZ q.2 e.2.2.2
  | none => false)))
/-- the bounds of all cells -/
def BI (h : PH) : Prop := ∀ a : Nat, a < 232 → ∀ e ∈ pbA a, ∀ k : Int, (e.1 : Int) ≤ k → k ≤ (e.2.1 : Int) → e.2.2.1 ≤ h (a : Int) k ∧ h (a : Int) k ≤ e.2.2.2
def InW (W : WrT) (a k : Int) : Prop := ∃ w ∈ W, a = (w.1 : Int) ∧ (w.2.1 : Int) ≤ k ∧ k ≤ (w.2.2 : Int)
/-- nothing else was written; what was defined is so still -/
def FR (W : WrT) (h0 h : PH) : Prop := (∀ a k : Int, 0 ≤ a → a < 4096 → ¬ InW W a k → h a k = h0 a k) ∧ (∀ a k : Int, 0 ≤ a → h0 (a + 4096) k = 1 → h (a + 4096) k = 1)
def PW (W : WrT) : RGt := (fun a l u => pb1 (pbA a) l u, fun a l u o => inWn W a l u && pb2 (pbA a) l u o)
def IW (W : WrT) (h0 h : PH) : Prop := BI h ∧ FR W h0 h
theorem pb1_ok : ∀ {L : List (Nat × Nat × Int × Int)} {l u : Nat} {q : IV}, pb1 L l u = some q → ∃ e ∈ L, e.1 ≤ l ∧ u ≤ e.2.1 ∧ e.2.2.1 = q.1 ∧ e.2.2.2 = q.2
  | [], _, _, _, h => by cases h
  | e :: r, l, u, q, h => by
    unfold pb1 at h
    cases hk : Nat.ble e.1 l && Nat.ble u e.2.1 with
    | true =>
      rw [hk] at h
      cases h
      have hk := Bool.and_eq_true_iff.mp hk
      exact ⟨e, List.mem_cons_self, Nat.le_of_ble_eq_true hk.1, Nat.le_of_ble_eq_true hk.2, rfl, rfl⟩
    | false =>
      rw [hk] at h
      obtain ⟨w, h1, h2⟩ := pb1_ok (L := r) h
      exact ⟨w, List.mem_cons_of_mem _ h1, h2⟩
theorem pb2_ok {L : List (Nat × Nat × Int × Int)} {l u : Nat} {o : Option IV} {v : Int} (h : pb2 L l u o = true) (ho : ∀ x, o = some x → x.1 ≤ v ∧ v ≤ x.2) {e : Nat × Nat × Int × Int} (he : e ∈ L) (h1 : e.1 ≤ u) (h2 : l ≤ e.2.1) : e.2.2.1 ≤ v ∧ v ≤ e.2.2.2 := by
  have k := List.all_eq_true.mp h e he
  rcases Bool.or_eq_true_iff.mp k with k | k
  · have : u + 1 ≤ e.1 := Nat.le_of_ble_eq_true k
    omega
  · rcases Bool.or_eq_true_iff.mp k with k | k
    · have : e.2.1 + 1 ≤ l := Nat.le_of_ble_eq_true k
      omega
    · split at k
      · rename_i q _ _
        have k := Bool.and_eq_true_iff.mp k
        have := leZ_iff.mp k.1
        have := leZ_iff.mp k.2
        have := ho q rfl
        omega
      · cases k
theorem inWn_ok {W : WrT} {a l u : Nat} {k : Int} (h : inWn W a l u = true) (h1 : (l : Int) ≤ k) (h2 : k ≤ (u : Int)) : InW W (a : Int) k := by
  obtain ⟨w, w1, w2⟩ := List.any_eq_true.mp h
  simp only [Bool.and_eq_true] at w2
  have e1 := Nat.eq_of_beq_eq_true w2.1
  have e2 := Nat.le_of_ble_eq_true w2.2.1
  have e3 := Nat.le_of_ble_eq_true w2.2.2
  exact ⟨w, w1, by omega, by omega, by omega⟩
theorem FR.rf {W : WrT} {h : PH} : FR W h h := ⟨fun _ _ _ _ _ => rfl, fun _ _ _ k => k⟩
theorem tOK_PW (W : WrT) (h0 : PH) : tOK (PW W) (IW W h0) := by
  refine ⟨fun h a l u j q hI ha hq h1 h2 => ?_, fun h a l u j v o hI hp ho h1 h2 ha => ?_, fun h a b la lb i j n hI hp ha hb hi hj hin hjn => ?_⟩
  · obtain ⟨e, e1, e2, e3, e4, e5⟩ := pb1_ok (show pb1 (pbA a) l u = some q from hq)
    have k := hI.1 a ha e e1 (j : Int) (by omega) (by omega)
    rw [e4, e5] at k
    exact k
  · have hp := Bool.and_eq_true_iff.mp (show (inWn W a l u && pb2 (pbA a) l u o) = true from hp)
    refine ⟨fun b hb e he k k1 k2 => ?_, fun b k hb0 hb1 hn => ?_, fun b k hb0 hf => ?_⟩
    · rw [fl_val (by omega) (by omega)]
      unfold u2
      by_cases hba : (b : Int) = (a : Int)
      · rw [if_pos hba]
        by_cases hkj : k = (j : Int)
        · rw [if_pos hkj]
          have hba : b = a := by omega
          subst hba
          exact pb2_ok hp.2 ho he (by omega) (by omega)
        · rw [if_neg hkj]
          exact hI.1 b hb e he k k1 k2
      · rw [if_neg hba]
        exact hI.1 b hb e he k k1 k2
    · rw [fl_val (by omega) (by omega)]
      have : ¬ (b = (a : Int) ∧ k = (j : Int)) := fun q => hn (by rw [q.1, q.2]; exact inWn_ok hp.1 (by omega) (by omega))
      have e : u2 h (a : Int) (j : Int) v b k = h b k := by
        unfold u2
        by_cases hba : b = (a : Int)
        · rw [if_pos hba, if_neg (fun q => this ⟨hba, q⟩)]
        · rw [if_neg hba]
      rw [e]
      exact hI.2.1 b k hb0 hb1 hn
    · exact fl_mono (by omega) hb0 (hI.2.2 b k hb0 hf)
  · have hp := Bool.and_eq_true_iff.mp (show (inWn W b 0 lb && pb2 (pbA b) 0 lb (pb1 (pbA a) 0 la)) = true from hp)
    refine ⟨fun c hc e he k k1 k2 => ?_, fun c k hc0 hc1 hn => ?_, fun c k hc0 hf => ?_⟩
    · unfold cpyH
      by_cases hcb : (c : Int) = (b : Int)
      · rw [if_pos hcb]
        by_cases hk : j ≤ k ∧ k < j + n
        · rw [if_pos hk]
          have hcb : c = b := by omega
          subst hcb
          refine pb2_ok hp.2 (fun x hx => ?_) he (by omega) (by omega)
          obtain ⟨e', e1, e2, e3, e4, e5⟩ := pb1_ok hx
          have k3 := hI.1 a ha e' e1 (i + (k - j)) (by omega) (by omega)
          rw [e4, e5] at k3
          exact k3
        · rw [if_neg hk]
          exact hI.1 c hc e he k k1 k2
      · rw [if_neg hcb]
        exact hI.1 c hc e he k k1 k2
    · unfold cpyH
      by_cases hcb : c = (b : Int)
      · rw [if_pos hcb]
        by_cases hk : j ≤ k ∧ k < j + n
        · exact absurd (by rw [hcb]; exact inWn_ok hp.1 (by omega) (by omega)) hn
        · rw [if_neg hk]
          exact hI.2.1 c k hc0 hc1 hn
      · rw [if_neg hcb]
        exact hI.2.1 c k hc0 hc1 hn
    · unfold cpyH
      rw [if_neg (by omega)]
      exact hI.2.2 c k hc0 hf
/-! the meaning -/
def bnd (o : Option IV) (x : Int) : Prop := ∀ q, o = some q → q.1 ≤ x ∧ x ≤ q.2
def cel (h : PH) (c : Nat) : Int := h ((c / 256 : Nat) : Int) ((c % 256 : Nat) : Int)
def celD (h : PH) (c : Nat) : Prop := c < 65536 ∧ rdk h ((c / 256 : Nat) : Int) ((c % 256 : Nat) : Int) = true
def argOK (a : ArgT) (v : PV) (x : Int) : Prop := match v with
  | .inl y => a.1 = 0 ∧ y = x ∧ bnd a.2.1 x
  | .inr (.inl y) => a.1 = 1 ∧ y = x ∧ bnd a.2.1 x
  | .inr (.inr y) => a.1 = 2 ∧ y = a.2.2.1 + a.2.2.2.1 * x ∧ 0 ≤ x ∧ x < (a.2.2.2.2 : Int)
def argsOK : List ArgT → List PV → List Int → Prop
  | [], [], [] => True
  | a :: r, v :: s, x :: t => argOK a v x ∧ argsOK r s t
  | _, _, _ => False
def preOK (h : PH) : List (Nat × Option IV) → List Int → Prop
  | [], [] => True
  | q :: r, x :: s => (celD h q.1 ∧ cel h q.1 = x ∧ bnd q.2 x) ∧ preOK h r s
  | _, _ => False
def valF (V : List Int) (i : Nat) : Int := match nth V i with
  | some x => x
  | none => 0
def n0 : Nat → Int := fun _ => 0
def regOK (h : PH) (k : Nat) (n : Int) : Prop := 65536 ≤ k ∧ ∀ j : Int, (((k - 65536) % 256 : Nat) : Int) ≤ j → j < (((k - 65536) % 256 : Nat) : Int) + n → h ((((k - 65536) / 256 : Nat) : Int) + 4096) j = 1
def retOK (r : Option (Nat × Option IV)) (v : Option PV) (x : Int) : Prop := match r, v with
  | none, none => True
  | some q, some (.inl y) => q.1 = 0 ∧ y = x ∧ bnd q.2 x
  | some q, some (.inr (.inl y)) => q.1 = 1 ∧ y = x ∧ bnd q.2 x
  | _, _ => False
def pstOK (V : List Int) (h : PH) (q : Nat × (Option IV ⊕ Ln)) : Prop := celD h q.1 ∧ (match q.2 with
  | .inl iv => bnd iv (cel h q.1)
  | .inr ln => cel h q.1 = lnC [] h n0 (valF V) 0 ln)
def altOK (a : AltT) (V : List Int) (v : Option PV) (h : PH) : Prop := ∃ x, retOK a.1 v x ∧ (∀ q ∈ a.2.1, pstOK V h q) ∧ (∀ f ∈ a.2.2.1, f.2.1 ≤ lnC [] h n0 (valF V) x f.1 ∧ lnC [] h n0 (valF V) x f.1 ≤ f.2.2) ∧ (∀ q ∈ a.2.2.2, regOK h q.1 (lnC [] h n0 (valF V) x q.2))
def conOK (z : Int → Int) (c : Con) : Prop := ∀ (avs : List PV) (V1 V2 : List Int) (h : PH) (g : PG), argsOK c.2.1 avs V1 → preOK h c.2.2.1 V2 → BI h → gInv g → (∀ f ∈ c.2.2.2.1, f.2.1 ≤ lnC [] h n0 (valF (V1 ++ V2)) 0 f.1 ∧ lnC [] h n0 (valF (V1 ++ V2)) 0 f.1 ≤ f.2.2) → (∀ q ∈ c.2.2.2.2.1, regOK h q.1 (lnC [] h n0 (valF (V1 ++ V2)) 0 q.2)) →
  ∃ v h' g', CALLD z c.1 avs h g = some (v, h', g') ∧ BI h' ∧ FR c.2.2.2.2.2.1 h h' ∧ gInv g' ∧ ∃ a ∈ c.2.2.2.2.2.2, altOK a (V1 ++ V2) v h'
def vOK (σ : Nat → Int) (n : Nat) : List AP → List Int → Prop
  | [], [] => True
  | p :: r, x :: s => okP σ n p x ∧ vOK σ n r s
  | _, _ => False
theorem vOK_nth {σ : Nat → Int} {n : Nat} : ∀ {V : List AP} {W : List Int}, vOK σ n V W → ∀ i p, nth V i = some p → okP σ n p (valF W i)
  | p :: _, x :: _, h, 0, q, e => by cases e; exact h.1
  | _ :: V, _ :: W, h, i + 1, q, e => vOK_nth (V := V) (W := W) h.2 i q e
  | [], _, _, _, _, e => by cases e
  | _ :: _, [], h, _, _, _ => h.elim
theorem vOK_app {σ : Nat → Int} {n : Nat} {V2 : List AP} {W2 : List Int} (h2 : vOK σ n V2 W2) : ∀ {V : List AP} {W : List Int}, vOK σ n V W → vOK σ n (V ++ V2) (W ++ W2)
  | [], [], _ => h2
  | _ :: _, _ :: _, h => ⟨h.1, vOK_app h2 h.2⟩
  | [], _ :: _, h => h.elim
  | _ :: _, [], h => h.elim
theorem vOK.up {σ σ' : Nat → Int} {n m : Nat} (hn : n ≤ m) (ha : AG n σ σ') : ∀ {V : List AP} {W : List Int}, vOK σ n V W → vOK σ' m V W
  | [], [], h => h
  | _ :: _, _ :: _, h => ⟨h.1.up hn ha, vOK.up hn ha h.2⟩
  | [], _ :: _, h => h.elim
  | _ :: _, [], h => h.elim
theorem nol {n : Nat} {σ : Nat → Int} : qLs σ n [] [] := trivial
theorem no0 {σ : Nat → Int} {n : Nat} : ∀ c p, lkp ([] : OV) c = some p → okP σ n p (n0 c) := fun c p e => by cases e
theorem noo {σ : Nat → Int} {n : Nat} {h : PH} : tOv σ n [] h := fun e he => by cases he
theorem nor {σ : Nat → Int} {n : Nat} {x : Int} : ∀ p, (none : Option AP) = some p → okP σ n p x := fun p e => by cases e
theorem argV_ok {σ : Nat → Int} {C : Cx} (hC : satC σ C) {a : ArgT} {v : AV} {w : PV} {p : AP} (hv : qV σ (nV C) v w) (e : argV C a v = some p) : ∃ x, okP σ (nV C) p x ∧ argOK a w x := by
  unfold argV at e
  split at e
  · rename_i q
    cases hk : Nat.beq a.1 0 && inS C q a.2.1 with
    | false => rw [hk] at e; cases e
    | true =>
      rw [hk] at e
      cases e
      have hk := Bool.and_eq_true_iff.mp hk
      match w, hv with
      | .inl y, hv => exact ⟨y, hv, Nat.eq_of_beq_eq_true hk.1, rfl, fun i hi => by have := inS_ok hC hk.2 i hi; rw [hv.2] at this; exact this⟩
      | .inr _, hv => exact hv.elim
  · rename_i q
    cases hk : Nat.beq a.1 1 && inS C q a.2.1 with
    | false => rw [hk] at e; cases e
    | true =>
      rw [hk] at e
      cases e
      have hk := Bool.and_eq_true_iff.mp hk
      match w, hv with
      | .inr (.inl y), hv => exact ⟨y, hv, Nat.eq_of_beq_eq_true hk.1, rfl, fun i hi => by have := inS_ok hC hk.2 i hi; rw [hv.2] at this; exact this⟩
      | .inl _, hv => exact hv.elim
      | .inr (.inr _), hv => exact hv.elim
  · rename_i q
    match w, hv with
    | .inl _, hv => exact hv.elim
    | .inr (.inl _), hv => exact hv.elim
    | .inr (.inr y), hv =>
      cases hk : Nat.beq a.1 2 with
      | false => rw [hk] at e; cases e
      | true =>
        rw [hk] at e
        have hk := Nat.eq_of_beq_eq_true hk
        simp only [cond_true] at e
        cases h1 : Nat.beq a.2.2.2.2 1 with
        | true =>
          rw [h1] at e
          have h1 := Nat.eq_of_beq_eq_true h1
          simp only [cond_true] at e
          split at e
          · rename_i c hc
            cases hz : eqZ c a.2.2.1 with
            | false => rw [hz] at e; cases e
            | true =>
              rw [hz] at e
              cases e
              have hz := eqZ_iff.mp hz
              have hy := hv.2.symm.trans (cst_ok hC hc)
              refine ⟨0, okP_C _ _ _, hk, by rw [hy, hz]; simp, Int.le_refl _, by rw [h1]; decide⟩
          · cases e
        | false =>
          rw [h1] at e
          simp only [cond_false] at e
          split at e
          · rename_i r hr
            cases hg : rLt C.1.length r.2 && (geS C r 0 && leS C r ((a.2.2.2.2 : Int) - 1)) with
            | false => rw [hg] at e; cases e
            | true =>
              rw [hg] at e
              cases e
              simp only [Bool.and_eq_true] at hg
              have g1 := geS_ok hC hg.2.1
              have g2 := leS_ok hC hg.2.2
              refine ⟨ev σ p, ⟨hg.1, rfl⟩, hk, ?_, g1, by omega⟩
              unfold dvdP at hr
              cases hd : apEq (apMul (apC a.2.2.2.1) ((apSub q (apC a.2.2.1)).1 / a.2.2.2.1, (apSub q (apC a.2.2.1)).2.map (fun q => (q.1, q.2 / a.2.2.2.1)))) (apSub q (apC a.2.2.1)) with
              | false => rw [hd] at hr; cases hr
              | true =>
                rw [hd] at hr
                cases hr
                have k := congrArg (ev σ) (apEq_eq hd)
                rw [ev_mul, ev_C, ev_sub, ev_C, hv.2] at k
                omega
          · cases e
theorem argsV_ok {σ : Nat → Int} {C : Cx} (hC : satC σ C) : ∀ {as : List ArgT} {vs : List AV} {ws : List PV} {V : List AP}, qSs σ (nV C) vs ws → argsV C as vs = some V → ∃ W, vOK σ (nV C) V W ∧ argsOK as ws W
  | [], [], [], V, _, e => by cases e; exact ⟨[], trivial, trivial⟩
  | a :: as, v :: vs, w :: ws, V, hv, e => by
    unfold argsV at e
    split at e
    · rename_i p r hp hr
      cases e
      obtain ⟨x, x1, x2⟩ := argV_ok hC hv.1 hp
      obtain ⟨W, y1, y2⟩ := argsV_ok hC (as := as) hv.2 hr
      exact ⟨x :: W, ⟨x1, y1⟩, ⟨x2, y2⟩⟩
    · cases e
  | [], [], _ :: _, _, hv, _ => hv.elim
  | [], _ :: _, _, _, _, e => by cases e
  | _ :: _, [], _, _, _, e => by cases e
  | _ :: _, _ :: _, [], _, hv, _ => hv.elim
theorem okN_cel {σ : Nat → Int} {n c : Nat} {p : AP} {h : PH} (hc : c < 65536) : okN σ n (c, p) h ↔ (okP σ n p (cel h c) ∧ rdk h ((c / 256 : Nat) : Int) ((c % 256 : Nat) : Int) = true) := by
  unfold okN cel
  rw [if_pos (show (c, p).1 < 65536 from hc)]
theorem okN_reg {σ : Nat → Int} {n k : Nat} {p : AP} {h : PH} (hk : 65536 ≤ k) : okN σ n (k, p) h ↔ (rLt n p.2 = true ∧ regOK h k (ev σ p)) := by
  unfold okN regOK
  rw [if_neg (show ¬ (k, p).1 < 65536 from by simp only; omega)]
  exact ⟨fun q => ⟨q.1, hk, q.2⟩, fun q => ⟨q.1, q.2.2⟩⟩
theorem preV_ok {σ : Nat → Int} {C : Cx} {ov : OV} {h : PH} (hC : satC σ C) (hO : tOv σ (nV C) ov h) : ∀ {r : List (Nat × Option IV)} {V : List AP}, preV C ov r = some V → ∃ W, vOK σ (nV C) V W ∧ preOK h r W
  | [], V, e => by cases e; exact ⟨[], trivial, trivial⟩
  | q :: r, V, e => by
    unfold preV at e
    cases hk : Nat.blt q.1 65536 with
    | false => rw [hk] at e; cases e
    | true =>
      rw [hk] at e
      have hk : q.1 + 1 ≤ 65536 := Nat.le_of_ble_eq_true hk
      simp only [cond_true] at e
      split at e
      · rename_i p w hp hw
        cases hi : inS C p q.2 with
        | false => rw [hi] at e; cases e
        | true =>
          rw [hi] at e
          cases e
          have k := (okN_cel (show q.1 < 65536 from by omega)).mp (hO _ (lkp_ok hp))
          obtain ⟨W, y1, y2⟩ := preV_ok hC hO (r := r) hw
          refine ⟨cel h q.1 :: W, ⟨k.1, y1⟩, ⟨⟨⟨by omega, k.2⟩, rfl, fun i hq => ?_⟩, y2⟩⟩
          have := inS_ok hC hi i hq
          rw [k.1.2] at this
          exact this
      · cases e
theorem okR2_ok {σ : Nat → Int} {C : Cx} {ov : OV} {h : PH} (hC : satC σ C) (hO : tOv σ (nV C) ov h) {o : Option AP} {k : Nat} (e : okR2 C ov o k = true) : ∃ p, o = some p ∧ regOK h k (ev σ p) := by
  unfold okR2 at e
  have e := Bool.and_eq_true_iff.mp e
  have hk := Nat.le_of_ble_eq_true e.1
  have e := e.2
  split at e
  · rename_i p _ _
    refine ⟨p, rfl, hk, fun j j1 j2 => ?_⟩
    split at e
    · rename_i B hB
      have k1 := (okN_reg hk).mp (hO _ (lkp_ok hB))
      have k2 := geS_ok hC e
      rw [ev_sub] at k2
      exact k1.2.2 j j1 (by omega)
    · have k2 := leS_ok hC e
      omega
  · cases e
theorem subW_ok {W W' : WrT} (h : subW W W' = true) {a k : Int} (hi : InW W a k) : InW W' a k := by
  obtain ⟨w, w1, w2, w3, w4⟩ := hi
  rw [w2]
  exact inWn_ok (List.all_eq_true.mp h w w1) w3 w4
theorem hitW_ok {W : WrT} {c : Nat} (h : hitW W c = false) : ¬ InW W ((c / 256 : Nat) : Int) ((c % 256 : Nat) : Int) := by
  rintro ⟨w, w1, w2, w3, w4⟩
  have : hitW W c = true := List.any_eq_true.mpr ⟨w, w1, by
    rw [show w.1 = c / 256 from by omega, Nat.beq_refl, Nat.ble_eq_true_of_le (by omega), Nat.ble_eq_true_of_le (by omega)]
    rfl⟩
  rw [h] at this
  cases this
theorem rdk_FR {W : WrT} {h h' : PH} (hF : FR W h h') {a k : Int} (ha : 0 ≤ a) (e : rdk h a k = true) : rdk h' a k = true := by
  unfold rdk at e ⊢
  rcases Bool.or_eq_true_iff.mp e with e | e
  · rw [e]; rfl
  · rw [hF.2 a k ha (of_decide_eq_true e)]
    simp
theorem keepW {σ : Nat → Int} {n : Nat} {ov : OV} {W : WrT} {h h' : PH} (hO : tOv σ n ov h) (hF : FR W h h') : tOv σ n (ov.filter (fun e => Nat.ble 65536 e.1 || !hitW W e.1)) h' := by
  intro e he
  obtain ⟨e1, e2⟩ := List.mem_filter.mp he
  have k := hO e e1
  obtain ⟨c, p⟩ := e
  by_cases hc : c < 65536
  · have k := (okN_cel hc).mp k
    have hh : hitW W c = false := by
      rcases Bool.or_eq_true_iff.mp e2 with q | q
      · have q1 : 65536 ≤ c := Nat.le_of_ble_eq_true q
        omega
      · simpa using q
    refine (okN_cel hc).mpr ⟨?_, rdk_FR hF (by omega) k.2⟩
    have := hF.1 ((c / 256 : Nat) : Int) ((c % 256 : Nat) : Int) (by omega) (by omega) (hitW_ok hh)
    unfold cel
    rw [this]
    exact k.1
  · have k := (okN_reg (by omega : 65536 ≤ c)).mp k
    exact (okN_reg (by omega : 65536 ≤ c)).mpr ⟨k.1, k.2.1, fun j j1 j2 => hF.2 _ j (by omega) (k.2.2 j j1 j2)⟩
