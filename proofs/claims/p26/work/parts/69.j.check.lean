/-! ===== A CONTRACT IS CHECKED BY A RUN ===== -/
def enG : List ArgT → Gm → Gm
  | [], G => G
  | a :: r, G => (bif Nat.beq a.1 2 then some (0, (a.2.2.2.2 : Int) - 1) else a.2.1) :: enG r G
def enVs : Nat → Nat → List AP
  | _, 0 => []
  | i, k + 1 => apV i :: enVs (i + 1) k
def enAv : Nat → List ArgT → List AV
  | _, [] => []
  | i, a :: r => (match a.1 with
    | 0 => .inl (apV i)
    | 1 => .inr (.inl (apV i))
    | _ => .inr (.inr (bif Nat.beq a.2.2.2.2 1 then apC a.2.2.1 else apAdd (apC a.2.2.1) (apMul (apC a.2.2.2.1) (apV i))))) :: enAv (i + 1) r
def enOv : Nat → List (Nat × Option IV) → OV
  | _, [] => []
  | i, q :: r => (q.1, apV i) :: enOv (i + 1) r
def entT (c : Con) : Option AS := match pstF (enVs 0 (c.2.1.length + c.2.2.1.length)) (enOv c.2.1.length c.2.2.1) none c.2.2.2.1 (enG c.2.1 (c.2.2.1.map (fun q => q.2)), []), pstR (enVs 0 (c.2.1.length + c.2.2.1.length)) (enOv c.2.1.length c.2.2.1) none c.2.2.2.2.1, enA (mL c.1 * 16) (enAv 0 c.2.1) with
  | some (some C), some w, some l0 => some (C, 0, l0, [], w ++ enOv c.2.1.length c.2.2.1)
  | _, _, _ => none
theorem valF_s (x : Int) (V : List Int) (i : Nat) : valF (x :: V) (i + 1) = valF V i := rfl
theorem args_len : ∀ {as : List ArgT} {ws : List PV} {V : List Int}, argsOK as ws V → V.length = as.length
  | [], [], [], _ => rfl
  | _ :: as, _ :: ws, _ :: V, h => congrArg (· + 1) (args_len (as := as) (ws := ws) (V := V) h.2)
  | [], [], _ :: _, h => h.elim
  | [], _ :: _, _, h => h.elim
  | _ :: _, [], _, h => h.elim
  | _ :: _, _ :: _, [], h => h.elim
theorem pre_len {h : PH} : ∀ {r : List (Nat × Option IV)} {V : List Int}, preOK h r V → V.length = r.length
  | [], [], _ => rfl
  | _ :: r, _ :: V, k => congrArg (· + 1) (pre_len (r := r) (V := V) k.2)
  | [], _ :: _, k => k.elim
  | _ :: _, [], k => k.elim
theorem argOK_bnd {a : ArgT} {w : PV} {x : Int} (h : argOK a w x) : bnd (bif Nat.beq a.1 2 then some (0, (a.2.2.2.2 : Int) - 1) else a.2.1) x := by
  match w, h with
  | .inl y, ⟨h1, h2, h3⟩ => rw [h1]; exact h3
  | .inr (.inl y), ⟨h1, h2, h3⟩ => rw [h1]; exact h3
  | .inr (.inr y), ⟨h1, h2, h3, h4⟩ =>
    rw [h1]
    intro q hq
    cases hq
    exact ⟨h3, by omega⟩
theorem enG_ok {G : Gm} {V2 : List Int} (hG : ∀ i l u, getG G i = some (l, u) → l ≤ valF V2 i ∧ valF V2 i ≤ u) : ∀ {as : List ArgT} {ws : List PV} {V : List Int}, argsOK as ws V → ∀ i l u, getG (enG as G) i = some (l, u) → l ≤ valF (V ++ V2) i ∧ valF (V ++ V2) i ≤ u
  | [], [], [], _ => hG
  | a :: as, w :: ws, x :: V, h => by
    intro i l u hi
    cases i with
    | zero => exact argOK_bnd h.1 (l, u) hi
    | succ i => exact enG_ok hG h.2 i l u hi
  | [], [], _ :: _, h => h.elim
  | [], _ :: _, _, h => h.elim
  | _ :: _, [], _, h => h.elim
  | _ :: _, _ :: _, [], h => h.elim
theorem enP_ok {h : PH} : ∀ {r : List (Nat × Option IV)} {V : List Int}, preOK h r V → ∀ i l u, getG (r.map (fun q => q.2)) i = some (l, u) → l ≤ valF V i ∧ valF V i ≤ u
  | [], [], _, i, l, u, hi => by cases hi
  | q :: r, x :: V, k, i, l, u, hi => by
    cases i with
    | zero => exact k.1.2.2 (l, u) hi
    | succ i => exact enP_ok k.2 i l u hi
  | [], _ :: _, k, _, _, _, _ => k.elim
  | _ :: _, [], k, _, _, _, _ => k.elim
theorem enG_len {G : Gm} : ∀ as : List ArgT, (enG as G).length = as.length + G.length
  | [] => by simp [enG]
  | a :: as => by
    have k := enG_len (G := G) as
    show (enG as G).length + 1 = as.length + 1 + G.length
    omega
theorem valF_app : ∀ (V W : List Int) (i : Nat), valF (V ++ W) (V.length + i) = valF W i
  | [], W, i => by simp
  | x :: V, W, i => by
    have k := valF_app V W i
    rw [show (x :: V).length + i = (V.length + i) + 1 from by simp only [List.length_cons]; omega]
    exact k
theorem enVs_ok {σ : Nat → Int} {n : Nat} : ∀ {V : List Int} {i : Nat}, (∀ j, j < V.length → σ (i + j) = valF V j) → i + V.length ≤ n → vOK σ n (enVs i V.length) V
  | [], _, _, _ => trivial
  | x :: V, i, h, hn => by
    have h0 := h 0 (by simp)
    simp only [List.length_cons] at hn
    refine ⟨⟨(okP_V (σ := σ) (n := n) (v := i) (by omega)).1, ?_⟩, enVs_ok (V := V) (i := i + 1) (fun j hj => ?_) (by omega)⟩
    · rw [ev_V]; exact h0
    · have k := h (j + 1) (by simp only [List.length_cons]; omega)
      rw [show i + 1 + j = i + (j + 1) from by omega, k]
      rfl
theorem enAv_ok {σ : Nat → Int} {n : Nat} : ∀ {as : List ArgT} {ws : List PV} {V : List Int} {i : Nat}, (∀ j, j < V.length → σ (i + j) = valF V j) → i + V.length ≤ n → argsOK as ws V → qSs σ n (enAv i as) ws
  | [], [], [], _, _, _, _ => trivial
  | a :: as, w :: ws, x :: V, i, h, hn, k => by
    have h0 : σ i = x := h 0 (by simp)
    simp only [List.length_cons] at hn
    have hv : okP σ n (apV i) x := by have := okP_V (σ := σ) (n := n) (v := i) (by omega); rw [h0] at this; exact this
    refine ⟨?_, enAv_ok (as := as) (V := V) (i := i + 1) (fun j hj => ?_) (by omega) k.2⟩
    · obtain ⟨a1, a2, a3, a4, a5⟩ := a
      match w, k.1 with
      | .inl y, ⟨q1, q2, q3⟩ =>
        have q1 : a1 = 0 := q1
        subst q1
        rw [q2]
        exact hv
      | .inr (.inl y), ⟨q1, q2, q3⟩ =>
        have q1 : a1 = 1 := q1
        subst q1
        rw [q2]
        exact hv
      | .inr (.inr y), ⟨q1, q2, q3, q4⟩ =>
        have q1 : a1 = 2 := q1
        subst q1
        have q2 : y = a3 + a4 * x := q2
        have q4 : x < (a5 : Int) := q4
        show okP σ n (bif Nat.beq a5 1 then apC a3 else apAdd (apC a3) (apMul (apC a4) (apV i))) y
        cases h1 : Nat.beq a5 1 with
        | true =>
          have h1 := Nat.eq_of_beq_eq_true h1
          have : x = 0 := by omega
          rw [q2, this]
          simp only [cond_true, Int.mul_zero, Int.add_zero]
          exact okP_C _ _ _
        | false =>
          rw [q2]
          exact (okP_C σ n a3).add ((okP_C σ n a4).mul hv)
    · have k := h (j + 1) (by simp only [List.length_cons]; omega)
      rw [show i + 1 + j = i + (j + 1) from by omega, k]
      rfl
  | [], [], _ :: _, _, _, _, h => h.elim
  | [], _ :: _, _, _, _, _, h => h.elim
  | _ :: _, [], _, _, _, _, h => h.elim
  | _ :: _, _ :: _, [], _, _, _, h => h.elim
theorem enOv_ok {σ : Nat → Int} {n : Nat} {h : PH} : ∀ {r : List (Nat × Option IV)} {V : List Int} {i : Nat}, (∀ j, j < V.length → σ (i + j) = valF V j) → i + V.length ≤ n → preOK h r V → tOv σ n (enOv i r) h
  | [], [], _, _, _, _ => noo
  | q :: r, x :: V, i, hs, hn, k => by
    have h0 : σ i = x := hs 0 (by simp)
    simp only [List.length_cons] at hn
    have hv : okP σ n (apV i) x := by have := okP_V (σ := σ) (n := n) (v := i) (by omega); rw [h0] at this; exact this
    intro e he
    rcases List.mem_cons.mp he with rfl | he
    · exact (okN_cel k.1.1.1).mpr ⟨by rw [k.1.2.1]; exact hv, k.1.1.2⟩
    · exact enOv_ok (r := r) (V := V) (i := i + 1) (fun j hj => by
        have k := hs (j + 1) (by simp only [List.length_cons]; omega)
        rw [show i + 1 + j = i + (j + 1) from by omega, k]
        rfl) (by omega) k.2 e he
  | [], _ :: _, _, _, _, k => k.elim
  | _ :: _, [], _, _, _, k => k.elim
def rpA (v : Option AV) : Option AP := match v with
  | some (.inl p) => some p
  | some (.inr (.inl p)) => some p
  | _ => none
def rtM (r : Option (Nat × Option IV)) (C : Cx) (v : Option AV) : Bool := match r, v with
  | none, none => true
  | some q, some (.inl p) => Nat.beq q.1 0 && inS C p q.2
  | some q, some (.inr (.inl p)) => Nat.beq q.1 1 && inS C p q.2
  | _, _ => false
def psM (V : List AP) (C : Cx) (ov : OV) (q : Nat × (Option IV ⊕ Ln)) : Bool := Nat.blt q.1 65536 && (match lkp ov q.1 with
  | some p => (match q.2 with
    | .inl iv => inS C p iv
    | .inr ln => (match lnA [] [] [] V none ln with
      | some w => apEq p w || (geS C (apSub p w) 0 && leS C (apSub p w) 0)
      | none => false))
  | none => false)
def altM (V : List AP) (r : Rt) (a : AltT) : Bool := rtM a.1 r.1 r.2.1 && (a.2.1.all (psM V r.1 r.2.2) && (a.2.2.1.all (fun f => bdF r.1 (lnA [] r.2.2 [] V (rpA r.2.1) f.1) f.2.1 f.2.2) && a.2.2.2.all (fun q => okR2 r.1 r.2.2 (lnA [] r.2.2 [] V (rpA r.2.1) q.2) q.1)))
theorem rtM_ok {σ : Nat → Int} {C : Cx} (hC : satC σ C) {r : Option (Nat × Option IV)} {v : Option AV} {w : Option PV} (hv : qR σ (nV C) v w) (e : rtM r C v = true) : ∃ x, retOK r w x ∧ ∀ p, rpA v = some p → okP σ (nV C) p x := by
  unfold rtM at e
  split at e
  · match w, hv with
    | none, _ => exact ⟨0, trivial, fun p e => by cases e⟩
    | some _, hv => exact hv.elim
  · rename_i q p
    have e := Bool.and_eq_true_iff.mp e
    match w, hv with
    | some (.inl y), hv => exact ⟨y, ⟨Nat.eq_of_beq_eq_true e.1, rfl, fun i hi => by have := inS_ok hC e.2 i hi; have hv2 : okP σ (nV C) p y := hv; rw [hv2.2] at this; exact this⟩, fun p e => by cases e; exact hv⟩
    | some (.inr _), hv => exact hv.elim
    | none, hv => exact hv.elim
  · rename_i q p
    have e := Bool.and_eq_true_iff.mp e
    match w, hv with
    | some (.inr (.inl y)), hv => exact ⟨y, ⟨Nat.eq_of_beq_eq_true e.1, rfl, fun i hi => by have := inS_ok hC e.2 i hi; have hv2 : okP σ (nV C) p y := hv; rw [hv2.2] at this; exact this⟩, fun p e => by cases e; exact hv⟩
    | some (.inl _), hv => exact hv.elim
    | some (.inr (.inr _)), hv => exact hv.elim
    | none, hv => exact hv.elim
  · cases e
theorem psM_ok {σ : Nat → Int} {C : Cx} {ov : OV} {h : PH} {V : List AP} {Vc : List Int} (hC : satC σ C) (hO : tOv σ (nV C) ov h) (hV : vOK σ (nV C) V Vc) {q : Nat × (Option IV ⊕ Ln)} (e : psM V C ov q = true) : pstOK Vc h q := by
  unfold psM at e
  have e := Bool.and_eq_true_iff.mp e
  have hlt : q.1 + 1 ≤ 65536 := Nat.le_of_ble_eq_true e.1
  have e := e.2
  split at e
  · rename_i p hp
    have k := (okN_cel (show q.1 < 65536 from by omega)).mp (hO _ (lkp_ok hp))
    refine ⟨⟨by omega, k.2⟩, ?_⟩
    split at e
    · rename_i iv hiv
      rw [hiv]
      intro i hi
      have := inS_ok hC e i hi
      rw [k.1.2] at this
      exact this
    · rename_i ln hln
      rw [hln]
      split at e
      · rename_i w hw
        have kw := lnA_ok (h := h) (f0 := n0) (vals := valF Vc) (r := 0) nol noo no0 (vOK_nth hV) nor hw
        show cel h q.1 = lnC [] h n0 (valF Vc) 0 ln
        rcases Bool.or_eq_true_iff.mp e with e | e
        · have e := apEq_eq e
          rw [← k.1.2, e, kw.2]
        · have e := Bool.and_eq_true_iff.mp e
          have a := geS_ok hC e.1
          have b := leS_ok hC e.2
          rw [ev_sub, k.1.2, kw.2] at a b
          omega
      · cases e
  · cases e
theorem altM_ok {σ : Nat → Int} {r : Rt} {h : PH} {V : List AP} {Vc : List Int} {v : Option PV} {a : AltT} (hC : satC σ r.1) (hO : tOv σ (nV r.1) r.2.2 h) (hV : vOK σ (nV r.1) V Vc) (hv : qR σ (nV r.1) r.2.1 v) (e : altM V r a = true) : altOK a Vc v h := by
  unfold altM at e
  simp only [Bool.and_eq_true] at e
  obtain ⟨e1, e2, e3, e4⟩ := e
  obtain ⟨x, x1, x2⟩ := rtM_ok hC hv e1
  refine ⟨x, x1, fun q hq => psM_ok hC hO hV (List.all_eq_true.mp e2 q hq), fun f hf => ?_, fun q hq => ?_⟩
  · obtain ⟨p, b1, b2, b3⟩ := bdF_ok hC (List.all_eq_true.mp e3 f hf)
    have k := lnA_ok (f0 := n0) (vals := valF Vc) (r := x) nol hO no0 (vOK_nth hV) x2 b1
    rw [k.2] at b2 b3
    exact ⟨b2, b3⟩
  · obtain ⟨p, b1, b2⟩ := okR2_ok hC hO (List.all_eq_true.mp e4 q hq)
    have k := lnA_ok (f0 := n0) (vals := valF Vc) (r := x) nol hO no0 (vOK_nth hV) x2 b1
    rw [k.2] at b2
    exact b2
def zOK (z : Int → Int) : Prop := z (-1) < 2147483648 ∧ ∀ j, -2147483648 ≤ z j ∧ z j ≤ 2147483647
def chkC (K : List Con) (T : Nat → AS → Option LpT) (f : Nat) (c : Con) : Bool := match entT c, pTm c.1 with
  | some A, some t => (match runT (PW c.2.2.2.2.2.1) none K c.2.2.2.2.2.1 T f c.1 t [] false A with
    | some L => L.all (fun o => match o with
      | .inl _ => false
      | .inr r => c.2.2.2.2.2.2.any (altM (enVs 0 (c.2.1.length + c.2.2.1.length)) r))
    | none => false)
  | _, _ => false
theorem entT_ok {z : Int → Int} {I : PH → Prop} (hz : zOK z) {c : Con} {A : AS} {avs : List PV} {V1 V2 : List Int} {h : PH} {g : PG} (h1 : argsOK c.2.1 avs V1) (h2 : preOK h c.2.2.1 V2) (hI : I h) (hg : gInv g) (hf : ∀ f ∈ c.2.2.2.1, f.2.1 ≤ lnC [] h n0 (valF (V1 ++ V2)) 0 f.1 ∧ lnC [] h n0 (valF (V1 ++ V2)) 0 f.1 ≤ f.2.2)
    (hr : ∀ q ∈ c.2.2.2.2.1, regOK h q.1 (lnC [] h n0 (valF (V1 ++ V2)) 0 q.2)) (e : entT c = some A) :
    nV A.1 = c.2.1.length + c.2.2.1.length ∧ ∃ l0, entryL c.1 avs = some l0 ∧ tA I z none (valF (V1 ++ V2)) A (0, l0, [], h, g) := by
  have n1 := args_len h1
  have n2 := pre_len h2
  unfold entT at e
  split at e
  · rename_i C w l0 hF hR hL
    cases e
    have hn : (enG c.2.1 (c.2.2.1.map (fun q => q.2))).length = c.2.1.length + c.2.2.1.length := by rw [enG_len, List.length_map]
    have hV : vOK (valF (V1 ++ V2)) (c.2.1.length + c.2.2.1.length) (enVs 0 (c.2.1.length + c.2.2.1.length)) (V1 ++ V2) := by
      have k := enVs_ok (σ := valF (V1 ++ V2)) (n := c.2.1.length + c.2.2.1.length) (V := V1 ++ V2) (i := 0) (fun j _ => by rw [Nat.zero_add]) (by rw [List.length_append]; omega)
      rw [List.length_append, n1, n2] at k
      exact k
    have hO : tOv (valF (V1 ++ V2)) (c.2.1.length + c.2.2.1.length) (enOv c.2.1.length c.2.2.1) h := enOv_ok (V := V2) (fun j _ => by rw [← n1, valF_app]) (by omega) h2
    obtain ⟨C', c1, c2, c3⟩ := pstF_ok (x := 0) hO hV nor (C := (enG c.2.1 (c.2.2.1.map (fun q => q.2)), [])) ⟨enG_ok (enP_ok h2) h1, fun f hf => by cases hf⟩ hn hf hF
    cases c1
    have hw := pstR_ok (x := 0) hO hV nor hr hR
    have e9 : nV C = c.2.1.length + c.2.2.1.length := c3
    have hav := enAv_ok (σ := valF (V1 ++ V2)) (n := c.2.1.length + c.2.2.1.length) (V := V1) (i := 0) (fun j hj => by
      rw [Nat.zero_add]
      have : ∀ (V W : List Int) (j : Nat), j < V.length → valF (V ++ W) j = valF V j := by
        intro V
        induction V with
        | nil => intro W j hj; cases hj
        | cons x V ih =>
          intro W j hj
          cases j with
          | zero => rfl
          | succ j => exact ih W j (by simpa using hj)
      exact this V1 V2 j hj) (by omega) h1
    obtain ⟨l1, y1, y2⟩ := enA_ok (m := c.1) (w := mL c.1 * 16) (by omega) hav hL
    refine ⟨e9, l1, y1, rfl, ?_, trivial, c2, ⟨hz.1, hz.2, fun p e => by cases e⟩, hI, hg, ?_⟩
    · show qLs _ (nV C) l0 l1
      rw [e9]; exact y2
    · intro u hu
      show okN _ (nV C) u h
      rw [e9]
      rcases List.mem_append.mp hu with hu | hu
      · exact hw u hu
      · exact hO u hu
  · cases e
theorem chk_ok {z : Int → Int} (hz : zOK z) {K : List Con} (hK : ∀ c ∈ K, conOK z c) {T : Nat → AS → Option LpT} {f : Nat} {c : Con} (e : chkC K T f c = true) : conOK z c := by
  intro avs V1 V2 h g h1 h2 hB hg hf hr
  unfold chkC at e
  split at e
  · rename_i A t hA ht
    obtain ⟨en, l0, e1, e2⟩ := entT_ok (I := IW c.2.2.2.2.2.1 h) hz h1 h2 ⟨hB, FR.rf⟩ hg hf hr hA
    split at e
    · rename_i L hL
      obtain ⟨o, o1, σ', o2, o3⟩ := runT_ok K hK T f c.1 t [] false A L (pTm_ok ht) hL _ _ e2
      have k := List.all_eq_true.mp e o o1
      match o, o3, k with
      | .inl _, _, k => cases k
      | .inr r, ⟨p1, v, h', g', p2, p3, p4⟩, k =>
        obtain ⟨a, a1, a2⟩ := List.any_eq_true.mp k
        have hV : vOK σ' (nV r.1) (enVs 0 (c.2.1.length + c.2.2.1.length)) (V1 ++ V2) := by
          have n1 := args_len h1
          have n2 := pre_len h2
          have k0 := enVs_ok (σ := valF (V1 ++ V2)) (n := nV A.1) (V := V1 ++ V2) (i := 0) (fun j _ => by rw [Nat.zero_add]) (by rw [List.length_append]; omega)
          rw [List.length_append, n1, n2] at k0
          exact k0.up p1 o2
        refine ⟨v, h', g', ?_, p4.2.2.1.1, p4.2.2.1.2, p4.2.2.2.1, a, a1, altM_ok p4.1 p4.2.2.2.2 hV p3 a2⟩
        unfold CALLD
        rw [e1]
        exact p2
    · cases e
  · cases e
/-! an argument's numbers one by one -/
def atI : List ArgT → Nat → Int → List ArgT
  | [], _, _ => []
  | a :: r, 0, t => (a.1, some (t, t), a.2.2) :: r
  | a :: r, i + 1, t => a :: atI r i t
def ivAt : List ArgT → Nat → Option IV
  | [], _ => none
  | a :: _, 0 => bif Nat.beq a.1 2 then none else a.2.1
  | _ :: r, i + 1 => ivAt r i
theorem atI_ok : ∀ {as : List ArgT} {ws : List PV} {V : List Int} {i : Nat} {l u : Int}, argsOK as ws V → ivAt as i = some (l, u) → ∃ t, l ≤ t ∧ t ≤ u ∧ argsOK (atI as i t) ws V
  | [], _, _, _, _, _, _, e => by cases e
  | a :: as, w :: ws, x :: V, 0, l, u, h, e => by
    have e : (bif Nat.beq a.1 2 then none else a.2.1) = some (l, u) := e
    cases hk : Nat.beq a.1 2 with
    | true => rw [hk] at e; cases e
    | false =>
      rw [hk] at e
      have e : a.2.1 = some (l, u) := e
      match w, h with
      | .inl y, ⟨⟨h1, h2, h3⟩, h4⟩ =>
        have := h3 _ e
        exact ⟨x, this.1, this.2, ⟨h1, h2, fun q hq => by cases hq; exact ⟨Int.le_refl _, Int.le_refl _⟩⟩, h4⟩
      | .inr (.inl y), ⟨⟨h1, h2, h3⟩, h4⟩ =>
        have := h3 _ e
        exact ⟨x, this.1, this.2, ⟨h1, h2, fun q hq => by cases hq; exact ⟨Int.le_refl _, Int.le_refl _⟩⟩, h4⟩
      | .inr (.inr y), ⟨⟨h1, h2⟩, h4⟩ => rw [h1] at hk; cases hk
  | a :: as, w :: ws, x :: V, i + 1, l, u, h, e => by
    obtain ⟨t, t1, t2, t3⟩ := atI_ok (as := as) h.2 (show ivAt as i = some (l, u) from e)
    exact ⟨t, t1, t2, h.1, t3⟩
  | _ :: _, [], _, _, _, _, h, _ => h.elim
  | _ :: _, _ :: _, [], _, _, _, h, _ => h.elim
theorem atI_len : ∀ (as : List ArgT) (i : Nat) (t : Int), (atI as i t).length = as.length
  | [], _, _ => rfl
  | _ :: _, 0, _ => rfl
  | _ :: r, i + 1, t => congrArg (· + 1) (atI_len r i t)
def chkS (K : List Con) (T : Nat → AS → Option LpT) (f : Nat) (i : Nat) (c : Con) : Bool := match ivAt c.2.1 i with
  | some q => (List.range (q.2 - q.1 + 1).toNat).all (fun (t : Nat) => chkC K T f (c.1, atI c.2.1 i (q.1 + (t : Int)), c.2.2))
  | none => false
theorem chkS_ok {z : Int → Int} (hz : zOK z) {K : List Con} (hK : ∀ c ∈ K, conOK z c) {T : Nat → AS → Option LpT} {f i : Nat} {c : Con} (e : chkS K T f i c = true) : conOK z c := by
  intro avs V1 V2 h g h1 h2 hB hg hf hr
  unfold chkS at e
  split at e
  · rename_i q hq
    obtain ⟨t, t1, t2, t3⟩ := atI_ok h1 hq
    have k := List.all_eq_true.mp e (t - q.1).toNat (List.mem_range.mpr (by omega))
    rw [show q.1 + ((t - q.1).toNat : Int) = t from by omega] at k
    exact chk_ok hz hK k avs V1 V2 h g t3 h2 hB hg hf hr
  · cases e
/-! which loops run as they are for now, which by what they change -/
def unrl (m : Nat) (A : AS) : Bool := match m with
  | 158 => Nat.beq A.2.1 5 && (match nth A.2.2.1 3, lkp A.2.2.2.2 54537 with
    | some (.inr (.inl p)), some q => apEq p q
    | _, _ => false)
  | 68 => Nat.beq A.2.1 5 && (match lkp A.2.2.2.2 47880, lkp A.2.2.2.2 47878 with
    | some p, some q => (match cst A.1 (apSub p q) with
      | some d => leZ d 3
      | none => false)
    | _, _ => false)
  | 156 => Nat.beq A.2.1 270 && (match nth A.2.2.1 3 with
    | some (.inr (.inl p)) => (match cst A.1 p with
      | some d => isZ d
      | none => false)
    | _ => false)
  | _ => false
def lkT : List (Nat × Nat × LpT) → Nat → Nat → Option LpT
  | [], _, _ => none
  | q :: r, m, pc => bif Nat.beq q.1 m && Nat.beq q.2.1 pc then some q.2.2 else lkT r m pc
def mkT (L : List (Nat × Nat × LpT)) (m : Nat) (A : AS) : Option LpT := bif unrl m A then none else lkT L m A.2.1
