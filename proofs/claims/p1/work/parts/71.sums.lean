/-! ===== CALLS OF WHICH IT IS KNOWN BEFOREHAND WHAT THEY COME TO ===== -/
def sg (z : Int → Int) (w : Nat → Int) (i : Nat) : Int := if i < 7 then z (i : Int) else if i = 7 then z (-1) else w (i - 8)
theorem qZ7 {z : Int → Int} {σ : Nat → Int} {n : Nat} (h : ∀ i : Nat, i < 7 → σ i = z (i : Int)) (h7 : σ 7 = z (-1)) (hn : 8 ≤ n) (hz : z (-1) < 2147483648) : qZ z Z7 σ n := by
  refine ⟨fun j p hp => ?_, ?_, hz⟩
  · have key : ∀ i : Nat, i < 7 → okP σ n (apV i) (z (i : Int)) := fun i hi => by
      have k := okP_V (σ := σ) (n := n) (v := i) (by omega)
      rw [h i hi] at k
      exact k
    match j, hp with
    | 0, hp => have hp : some (apV 0) = some p := hp; cases hp; exact key 0 (by omega)
    | 1, hp => have hp : some (apV 1) = some p := hp; cases hp; exact key 1 (by omega)
    | 2, hp => have hp : some (apV 2) = some p := hp; cases hp; exact key 2 (by omega)
    | 3, hp => have hp : some (apV 3) = some p := hp; cases hp; exact key 3 (by omega)
    | 4, hp => have hp : some (apV 4) = some p := hp; cases hp; exact key 4 (by omega)
    | 5, hp => have hp : some (apV 5) = some p := hp; cases hp; exact key 5 (by omega)
    | 6, hp => have hp : some (apV 6) = some p := hp; cases hp; exact key 6 (by omega)
    | j + 7, hp => have hp : (none : Option AP) = some p := hp; cases hp
  · have k := okP_V (σ := σ) (n := n) (v := 7) (by omega)
    rw [h7] at k
    exact k
theorem sg_z {z : Int → Int} {w : Nat → Int} : ∀ i : Nat, i < 7 → sg z w i = z (i : Int) := fun i hi => if_pos hi
theorem sg_7 {z : Int → Int} {w : Nat → Int} : sg z w 7 = z (-1) := rfl
def cOv (F : OV) : Bool := F.all (fun e => match e.2.2 with
  | [] => true
  | _ => false)
theorem hOv_const {σ σ' : Nat → Int} {n n' : Nat} {F : OV} {h : PH} (hc : cOv F = true) (H : hOv σ n F h) : hOv σ' n' F h := by
  intro e he
  have k := List.all_eq_true.mp hc e he
  have k2 := H e he
  obtain ⟨a, c, r⟩ := e
  cases r with
  | nil => exact ⟨rfl, k2.2⟩
  | cons q r => cases k
theorem hOv_sub {σ : Nat → Int} {n : Nat} {ov F : OV} {h : PH} (hm : mtP ov F = true) (H : hOv σ n ov h) : hOv σ n F h := fun e he => H e (mtP_in hm e he)
def allG (σ : Nat → Int) : Nat → Gm → Prop
  | _, [] => True
  | k, none :: r => allG σ (k + 1) r
  | k, some q :: r => (q.1 ≤ σ k ∧ σ k ≤ q.2) ∧ allG σ (k + 1) r
theorem allG_ok {σ : Nat → Int} : ∀ {G : Gm} {k : Nat}, allG σ k G → ∀ i l u, getG G i = some (l, u) → l ≤ σ (k + i) ∧ σ (k + i) ≤ u
  | [], _, _, _, _, _, h => by cases h
  | none :: r, k, H, i, l, u, h => by
    cases i with
    | zero => cases h
    | succ i =>
      have := allG_ok (G := r) (k := k + 1) H i l u h
      rw [show k + (i + 1) = k + 1 + i by omega]
      exact this
  | some q :: r, k, H, i, l, u, h => by
    cases i with
    | zero =>
      have h : some q = some (l, u) := h
      cases h
      exact H.1
    | succ i =>
      have := allG_ok (G := r) (k := k + 1) H.2 i l u h
      rw [show k + (i + 1) = k + 1 + i by omega]
      exact this
theorem satG {σ : Nat → Int} {G : Gm} (h : allG σ 0 G) : satC σ (G, []) := ⟨fun i l u hi => by
  have := allG_ok h i l u hi
  rw [Nat.zero_add] at this
  exact this, fun f hf => by cases hf⟩
def allR (o : Option (List Oc)) (ck : Rt → Bool) : Bool := match o with
  | some L => L.all (fun o => match o with
    | .inl _ => false
    | .inr r => ck r)
  | none => false
def rOn (T : Nat → AS → Option Lp) (m : Nat) (t : MT) (C : Cx) (av : List AV) (F : OV) (f : Nat) : Option (List Oc) := match enA (mL m * 16) av with
  | some l0 => run PR Z7 noK T f m t [] false (C, 0, l0, [], F)
  | none => none
theorem noK_ok {z : Int → Int} : kOK PR z Z7 noK := fun m C av ov rs h => by cases h
theorem sum_ok {z : Int → Int} {w : Nat → Int} {T : Nat → AS → Option Lp} {m f : Nat} {t : MT} {G : Cx} {avG : List AV} {avs : List PV} {F : OV} {ck : Rt → Bool} {h : PH} {g : PG}
    (ht : pTm m = some t) (hz : z (-1) < 2147483648) (hn : 8 ≤ nV G) (hG : satC (sg z w) G) (ha : qSs (sg z w) (nV G) avG avs) (hF : hOv (sg z w) (nV G) F h) (hg : gInv g)
    (hr : allR (rOn T m t G avG F f) ck = true) :
    ∃ r σ' v h' g', ck r = true ∧ AG (nV G) (sg z w) σ' ∧ nV G ≤ nV r.1 ∧ CALL z m avs h g = some (v, h', g') ∧ qR σ' (nV r.1) r.2.1 v ∧ qH PR z Z7 σ' r.1 r.2.2 h' g' := by
  unfold rOn at hr
  cases hl : enA (mL m * 16) avG with
  | none => rw [hl] at hr; cases hr
  | some l0 =>
    rw [hl] at hr
    simp only at hr
    cases hL : run PR Z7 noK T f m t [] false (G, 0, l0, [], F) with
    | none => rw [hL] at hr; cases hr
    | some L =>
      rw [hL] at hr
      obtain ⟨l1, y1, y2⟩ := enA_ok (m := m) (w := mL m * 16) (by omega) ha hl
      have hq : qA PR z Z7 (sg z w) (G, 0, l0, [], F) (0, l1, [], h, g) := ⟨rfl, y2, trivial, hG, qZ7 sg_z sg_7 hn hz, PR_inv h, hg, hF⟩
      obtain ⟨o, o1, σ', o2, o3⟩ := run_ok PR_ok noK_ok T f m t [] false _ L (pTm_ok ht) hL _ _ hq
      have hk := List.all_eq_true.mp hr o o1
      match o, o3, hk with
      | .inl B, _, hk => cases hk
      | .inr r, ⟨p1, v, h', g', p2, p3, p4⟩, hk =>
        refine ⟨r, σ', v, h', g', hk, o2, p1, ?_, p3, p4⟩
        unfold CALL
        rw [y1]
        exact p2
theorem val_ok {σ : Nat → Int} {C : Cx} {p : AP} {y : Int} {v : Option PV} (hs : satC σ C) (hq : qR σ (nV C) (some (.inl p)) v) (hc : cst C p = some y) : v = some (.inl y) := match v, hq with
  | some (.inl X), h => by
    have k := cst_ok hs hc
    have h : okP σ (nV C) p X := h
    rw [h.2] at k
    rw [k]
  | some (.inr _), h => h.elim
  | none, h => h.elim
def ckC (x : Int) (F : OV) (r : Rt) : Bool := (match r.2.1 with
  | some (.inl p) => (match cst r.1 p with
    | some y => eqZ y x
    | none => false)
  | _ => false) && mtP r.2.2 F
theorem ckC_ok {z : Int → Int} {x : Int} {F : OV} {r : Rt} {σ : Nat → Int} {v : Option PV} {h : PH} {g : PG} (hk : ckC x F r = true) (hq : qR σ (nV r.1) r.2.1 v) (hH : qH PR z Z7 σ r.1 r.2.2 h g) : v = some (.inl x) ∧ gInv g ∧ hOv σ (nV r.1) F h := by
  unfold ckC at hk
  have hk := Bool.and_eq_true_iff.mp hk
  refine ⟨?_, hH.2.2.2.1, hOv_sub hk.2 hH.2.2.2.2⟩
  have h1 := hk.1
  split at h1
  · rename_i p hp
    split at h1
    · rename_i y hy
      have e := eqZ_iff.mp h1
      subst e
      rw [hp] at hq
      exact val_ok hH.1 hq hy
    · cases h1
  · cases h1
theorem k_end {z : Int → Int} {σ σ2 : Nat → Int} {n2 : Nat} {C : Cx} {ov F : OV} {h h' : PH} {g g' : PG} {m : Nat} {avs : List PV} {x : Int} (H : qH PR z Z7 σ C ov h g) (hc : cOv F = true) (hcall : CALL z m avs h g = some (some (.inl x), h', g')) (hg : gInv g') (hF : hOv σ2 n2 F h') :
    ∃ r ∈ [((C, some (.inl (apC x)), F) : Rt)], ∃ σ' v h'' g'', AG (nV C) σ σ' ∧ nV C ≤ nV r.1 ∧ CALL z m avs h g = some (v, h'', g'') ∧ qR σ' (nV r.1) r.2.1 v ∧ qH PR z Z7 σ' r.1 r.2.2 h'' g'' :=
  ⟨_, List.mem_cons_self, σ, _, h', g', AG.rf, Nat.le_refl _, hcall, okP_C _ _ _, H.1, H.2.1, PR_inv h', hg, hOv_const hc hF⟩
def Cs (q : IV) : Cx := ([none, none, none, none, none, none, none, none, some (0, 7), some (0, 7), some (1, 4), some (1, 4), some (1, 4), some q], [])
def pPl : AP := apAdd (apMul (apC 8) (apV 9)) (apV 8)
def pSz : AP := apAdd (apAdd (apMul (apC 100) (apV 10)) (apMul (apC 10) (apV 11))) (apV 12)
def F104 : OV := [(258, apC 0), (259, apC 0), (2816, apC 0), (3072, apC 0), (3328, apC 0), (3584, apC 0), (3840, apC 0), (4096, apC 0), (4352, apC 0), (54784, apC 0), (54785, apC 0)]
def F106 : OV := (13317, apC 1) :: (13318, apC 0) :: F104
/-- x and w together, less 8; y and d together, less 8 -/
def pXW : AP := apAdd (apAdd (apV 8) (apV 10)) (apC (-8))
def pYD : AP := apAdd (apAdd (apV 9) (apV 11)) (apC (-8))
def le0 (C : Cx) (p : AP) : Bool := match ivP C p with
  | some q => leZ q.2 0
  | none => false
def ge1 (C : Cx) (p : AP) : Bool := match ivP C p with
  | some q => leZ 1 q.1
  | none => false
/-- 1 where it fits, 0 where it does not -/
def fitO (F : OV) (r : Rt) : Bool := match r.2.1 with
    | some (.inl p) => (match cst r.1 p with
      | some x => ((eqZ x 1 && (le0 r.1 pXW && le0 r.1 pYD)) || (eqZ x 0 && (ge1 r.1 pXW || ge1 r.1 pYD))) && mtP r.2.2 F
      | none => false)
    | _ => false
def a104 : List AV := [.inr (.inr (apC 0)), .inl pPl, .inl pSz, .inl (apV 13)]
def a189 : List AV := [.inr (.inr (apC 213)), .inl (apV 8), .inl (apV 9), .inl pSz, .inl (apV 13)]
def Cg : Cx := ([none, none, none, none, none, none, none, none, none, some (1, 30)], [])
def Cw : Cx := ([none, none, none, none, none, none, none, none, some (1, 999)], [])
def a106 (r : Int) : List AV := [.inr (.inr (apC r)), .inl (apV 8), .inl (apV 9)]
def TLs (m : Nat) (A : AS) : Option Lp := match m with
  | 152 => none
  | _ => TL m A
def fitN (p w d : Int) : Int := bif leZ (p % 8 + w) 8 && leZ (p / 8 + d) 8 then 1 else 0
/-- the first two of three digits -/
def dig (q : IV) : Option (Int × Int) := bif (leZ 1 (q.1 / 100) && leZ (q.1 / 100) 4) && ((leZ 1 (q.1 / 10 % 10) && leZ (q.1 / 10 % 10) 4) && (leZ (100 * (q.1 / 100) + 10 * (q.1 / 10 % 10) + 1) q.1 && leZ q.2 (100 * (q.1 / 100) + 10 * (q.1 / 10 % 10) + 4))) then some (q.1 / 100, q.1 / 10 % 10) else none
theorem dig_ok {q : IV} {e : Int × Int} (h : dig q = some e) : 1 ≤ e.1 ∧ e.1 ≤ 4 ∧ 1 ≤ e.2 ∧ e.2 ≤ 4 ∧ 100 * e.1 + 10 * e.2 + 1 ≤ q.1 ∧ q.2 ≤ 100 * e.1 + 10 * e.2 + 4 := by
  unfold dig at h
  cases hk : (leZ 1 (q.1 / 100) && leZ (q.1 / 100) 4) && ((leZ 1 (q.1 / 10 % 10) && leZ (q.1 / 10 % 10) 4) && (leZ (100 * (q.1 / 100) + 10 * (q.1 / 10 % 10) + 1) q.1 && leZ q.2 (100 * (q.1 / 100) + 10 * (q.1 / 10 % 10) + 4))) with
  | false => rw [hk] at h; cases h
  | true =>
    rw [hk] at h
    cases h
    simp only [Bool.and_eq_true] at hk
    obtain ⟨⟨k1, k2⟩, ⟨k3, k4⟩, k5, k6⟩ := hk
    exact ⟨leZ_iff.mp k1, leZ_iff.mp k2, leZ_iff.mp k3, leZ_iff.mp k4, leZ_iff.mp k5, leZ_iff.mp k6⟩
def k74 (C : Cx) (av : List AV) : Option (List Rt) := match av with
  | [.inr (.inl p)] => bif ivIn C p (some (1, 999)) then some [(C, some (.inl (apC 1)), F104)] else none
  | _ => none
def k104 (C : Cx) (av : List AV) : Option (List Rt) := match av with
  | [.inr (.inr a), .inl pl, .inl sz, .inl wt] => (match cst C a, cst C pl, ivP C sz with
    | some a, some p, some q => (match dig q with
      | some e => bif eqZ a 0 && (leZ 0 p && (leZ p 63 && ivIn C wt (some (1, 999)))) then some [(C, some (.inl (apC (fitN p e.1 e.2))), F104)] else none
      | none => none)
    | _, _, _ => none)
  | _ => none
def k189 (C : Cx) (av : List AV) : Option (List Rt) := match av with
  | [.inr (.inr a), .inl px, .inl py, .inl sz, .inl wt] => (match cst C a, cst C px, cst C py with
    | some a, some x, some y => (match ivP C sz with
      | some q => (match dig q with
        | some e => bif eqZ a 213 && (leZ 0 x && (leZ x 7 && (leZ 0 y && (leZ y 7 && ivIn C wt (some (1, 999)))))) then some [(C, some (.inl (apC (fitN (8 * y + x) e.1 e.2))), F104)] else none
        | none => none)
      | none => none)
    | _, _, _ => none)
  | _ => none
def k106 (r : Int) (F : OV) (C : Cx) (av : List AV) : Option (List Rt) := match av with
  | [.inr (.inr a), .inl _, .inl n] => (match cst C a with
    | some a => bif eqZ a r && ivIn C n (some (1, 30)) then some [(C, some (.inl (apC (-1))), F)] else none
    | none => none)
  | _ => none
def Ks : Ct := fun m C av ov => bif mtP ov F104 then (bif Nat.beq m 74 then k74 C av else bif Nat.beq m 104 then k104 C av else bif Nat.beq m 189 then k189 C av else bif Nat.beq m 191 then k106 213 F104 C av else bif Nat.beq m 106 && mtP ov F106 then k106 0 F106 C av else none) else none
set_option maxRecDepth 1000000 in
theorem r74_ok : allR (rOn TL 74 pT_74 Cw [.inr (.inl (apV 8))] F104 500) (ckC 1 F104) = true := by decide +kernel
set_option maxRecDepth 1000000 in
theorem r106_ok : allR (rOn TL 106 pT_106 Cg (a106 0) F106 5000) (ckC (-1) F106) = true := by decide +kernel
set_option maxRecDepth 1000000 in
theorem r191_ok : allR (rOn TL 191 pT_191 Cg (a106 213) F104 5000) (ckC (-1) F104) = true := by decide +kernel
set_option maxRecDepth 1000000 in
theorem r189_ok : allR (rOn TLs 189 pT_189 (Cs (1, 999)) a189 F104 20000) (fitO F104) = true := by decide +kernel
