/-! ===== WHERE THE LAW STANDS BEHIND THE CONSTRUCTORS: all cells within their bounds ===== -/
def K0 : CK := (0, [some (vR 2000), none, none, none], [], ([], [], 0))
def rOk (R : WL) : Bool := (List.range 232).all (fun a => (List.range (rtL.getD a []).length).all (fun k => !nnZ ((rtL.getD a []).getD k (-1)) || (match lki R (a * 256 + k) with
  | some v => eqZ v ((rtL.getD a []).getD k (-1))
  | none => false)))
def lOk (l : PL) : Bool := match l with
  | [some (.inr (.inr a)), some (.inr (.inr b)), some (.inr (.inr c)), none] => eqZ a 2000 && (eqZ b 0 && eqZ c 213)
  | _ => false
def bOk (H : WL) : Bool := (List.range 232).all (fun a => (pbA a).all (fun e => Nat.blt e.2.1 256 && (List.range (e.2.1 + 1)).all (fun k => Nat.blt k e.1 || (leZ e.2.2.1 (match lki H (a * 256 + k) with
  | some v => v
  | none => ini (a : Int) (k : Int)) && leZ (match lki H (a * 256 + k) with
  | some v => v
  | none => ini (a : Int) (k : Int)) e.2.2.2))))
def eqC (H : WL) (a k : Nat) (v : Int) : Bool := eqZ v (match lki H (a * 256 + k) with
  | some v => v
  | none => ini (a : Int) (k : Int))
def mOk (r : Option CE) : Bool := match r with
  | some (.inl K) => Nat.beq K.1 16 && (lOk K.2.1 && (Nat.beq K.2.2.1.length 0 && (Nat.beq K.2.2.2.2.2 232 && (rOk K.2.2.2.2.1 && (bOk K.2.2.2.1 && (eqC K.2.2.2.1 187 1 0 && (eqC K.2.2.2.1 213 22 0 && (eqC K.2.2.2.1 214 0 0 && eqC K.2.2.2.1 215 0 0))))))))
  | _ => false
set_option maxRecDepth 1000000 in
theorem made_ok : mOk (crun 5000 223 pT_223 [16] K0) = true := by decide +kernel
theorem rOk_ok {R : WL} (h : rOk R = true) : ∀ a k : Nat, a < nCell → 0 ≤ rtab a k → dR R a k = rtab a k := by
  intro a k ha hk
  have ha : a < 232 := ha
  have h1 := List.all_eq_true.mp h a (List.mem_range.mpr ha)
  have e : rtab (a : Int) (k : Int) = (rtL.getD a []).getD k (-1) := by
    unfold rtab
    rw [if_pos ⟨by omega, by omega⟩, Int.toNat_natCast, Int.toNat_natCast]
  rw [e] at hk ⊢
  by_cases hl : k < (rtL.getD a []).length
  · have h2 := List.all_eq_true.mp h1 k (List.mem_range.mpr hl)
    rw [nnZ_iff.mpr hk] at h2
    have h2 : (match lki R (a * 256 + k) with
      | some v => eqZ v ((rtL.getD a []).getD k (-1))
      | none => false) = true := h2
    split at h2
    · rename_i v hv
      unfold dR
      have hk256 : k < 256 := by
        have hlen : (List.range 232).all (fun a => Nat.ble (rtL.getD a []).length 256) = true := by decide +kernel
        have := Nat.le_of_ble_eq_true (List.all_eq_true.mp hlen a (List.mem_range.mpr ha))
        omega
      rw [if_pos ⟨by omega, by omega, by omega⟩, Int.toNat_natCast, Int.toNat_natCast, hv]
      exact eqZ_iff.mp h2
    · cases h2
  · rw [List.getD_eq_getElem?_getD, List.getElem?_eq_none (by omega)] at hk
    have hk : (0 : Int) ≤ -1 := hk
    omega
theorem bOk_ok {H : WL} (h : bOk H = true) : BI (dH H) := by
  intro a ha e he k k1 k2
  have h1 := List.all_eq_true.mp (List.all_eq_true.mp h a (List.mem_range.mpr ha)) e he
  have h1 := Bool.and_eq_true_iff.mp h1
  have h0 : e.2.1 + 1 ≤ 256 := Nat.le_of_ble_eq_true h1.1
  have h2 := List.all_eq_true.mp h1.2 k.toNat (List.mem_range.mpr (by omega))
  have hk : dH H (a : Int) k = (match lki H (a * 256 + k.toNat) with
    | some v => v
    | none => ini (a : Int) ((k.toNat : Nat) : Int)) := by
    unfold dH
    rw [if_pos ⟨by omega, by omega, by omega⟩, Int.toNat_natCast, show ((k.toNat : Nat) : Int) = k from by omega]
    cases lki H (a * 256 + k.toNat) <;> rfl
  rw [hk]
  rcases Bool.or_eq_true_iff.mp h2 with h3 | h3
  · have : k.toNat + 1 ≤ e.1 := Nat.le_of_ble_eq_true h3
    omega
  · have h3 := Bool.and_eq_true_iff.mp h3
    exact ⟨leZ_iff.mp h3.1, leZ_iff.mp h3.2⟩
theorem eqC_ok {H : WL} {a k : Nat} {v : Int} (ha : k < 256) (h : eqC H a k v = true) : dH H (a : Int) (k : Int) = v := by
  have h := eqZ_iff.mp h
  unfold dH
  rw [if_pos ⟨by omega, by omega, by omega⟩, Int.toNat_natCast, Int.toNat_natCast, h]
  cases lki H (a * 256 + k) <;> rfl
abbrev l18 (i : Int) : PL := [some (vR 2000), some (vR 0), some (vR 213), some (vI i)]
theorem dzL16 : decode (mC 223) 16 = .ok (.iconst 0, 1) := by decide +kernel
theorem dzL17 : decode (mC 223) 17 = .ok (.istore_n 3, 1) := by decide +kernel
theorem start2 (z : Int → Int) : ∃ (h : PH) (g : PG), XC z 223 (den K0) = XC z 223 (18, l18 0, [], h, g) ∧ BI h ∧ gInv g ∧ h 187 1 = 0 ∧ h 213 22 = 0 ∧ h 214 0 = 0 ∧ h 215 0 = 0 := by
  have h := made_ok
  cases hc : crun 5000 223 pT_223 [16] K0 with
  | none => rw [hc] at h; cases h
  | some r =>
    rw [hc] at h
    cases r with
    | inr o => cases h
    | inl K =>
      have k := crun_ok (z := z) ok_223 hc
      have k : XC z 223 (den K0) = XC z 223 (den K) := k
      obtain ⟨pc, l, st, H, R, n⟩ := K
      have h : (Nat.beq pc 16 && (lOk l && (Nat.beq st.length 0 && (Nat.beq n 232 && (rOk R && (bOk H && (eqC H 187 1 0 && (eqC H 213 22 0 && (eqC H 214 0 0 && eqC H 215 0 0))))))))) = true := h
      simp only [Bool.and_eq_true] at h
      obtain ⟨a1, a2, a3, a4, a5, a6, a7, a8, a9, a10⟩ := h
      have a1 := Nat.eq_of_beq_eq_true a1
      have a3 := Nat.eq_of_beq_eq_true a3
      have a4 := Nat.eq_of_beq_eq_true a4
      have a3 : st = [] := List.length_eq_zero_iff.mp a3
      subst a1
      subst a3
      subst a4
      have hl : l = [some (vR 2000), some (vR 0), some (vR 213), none] := by
        unfold lOk at a2
        split at a2
        · rename_i a b c
          simp only [Bool.and_eq_true] at a2
          rw [eqZ_iff.mp a2.1, eqZ_iff.mp a2.2.1, eqZ_iff.mp a2.2.2]
        · cases a2
      subst hl
      have hn : (dG (H, R, 232)).1 = nCell := by
        unfold dG nCell
        rfl
      have hg : gInv (dG (H, R, 232)) := by
        refine ⟨hn, fun a k ha hk => ?_⟩
        have e := rOk_ok a5 a k ha hk
        unfold dG
        dsimp only
        exact e
      refine ⟨dH H, dG (H, R, 232), k.trans ?_, bOk_ok a6, hg, eqC_ok (by decide) a7, eqC_ok (by decide) a8, eqC_ok (by decide) a9, eqC_ok (by decide) a10⟩
      have s1 : XC z 223 (16, [some (vR 2000), some (vR 0), some (vR 213), none], [], dH H, dG (H, R, 232)) = XC z 223 (17, [some (vR 2000), some (vR 0), some (vR 213), none], [vI 0], dH H, dG (H, R, 232)) := by
        refine XC_next z ?_
        unfold xs
        simp only
        rw [dzL16]
        rfl
      have s2 : XC z 223 (17, [some (vR 2000), some (vR 0), some (vR 213), none], [vI 0], dH H, dG (H, R, 232)) = XC z 223 (18, l18 0, [], dH H, dG (H, R, 232)) := by
        refine XC_next z ?_
        unfold xs
        simp only
        rw [dzL17]
        rfl
      exact s1.trans s2
/-! ===== ONE TURN OF THE LAW'S LOOP ===== -/
def KLw : List Con := [kc_10, kc_17, kc_21, kc_24, kc_25, kc_26, kc_27, kc_28, kc_30, kc_32, kc_78, kc_101, kc_103, kc_105, kc_107, kc_108, kc_137, kc_138, kc_140, kc_141, kc_143, kc_144, kc_145, kc_148, kc_149, kc_152, kc_153, kc_158, kc_159, kc_160, kc_161, kc_162, kc_163, kc_164, kc_165, kc_166, kc_171, kc_172, kc_173, kc_207, kc_208, kc_210, kc_212, kc_214, kc_218, kc_tx, kc_tm, kc_245, kc_251, kc_254, kc_255, kc_256, kc_259, kc_260, kc_263, kc_264, kc_268, kc_272, kc_273, kc_274, kc_275, kc_276, kc_277, kc_278, kc_ap, kc_ce, kc_fa, kc_or, kc_fi]
def TLw : List (Nat × Nat × LpT) := [(193, 87, ([(7, 0, (some (0, 5)))], [], [], [], [], [], ([((0, 7), (-1))], 6), []))]
theorem KLw_ok {z : Int → Int} (hz : zOK z) : ∀ c ∈ KLw, conI RF z c := List.forall_mem_cons.mpr ⟨con_lift (ko_10 hz) (by decide +kernel), List.forall_mem_cons.mpr ⟨ki_17 hz, List.forall_mem_cons.mpr ⟨con_lift (ko_21 hz) (by decide +kernel), List.forall_mem_cons.mpr ⟨con_lift (ko_24 hz) (by decide +kernel), List.forall_mem_cons.mpr ⟨con_lift (ko_25 hz) (by decide +kernel), List.forall_mem_cons.mpr ⟨con_lift (ko_26 hz) (by decide +kernel), List.forall_mem_cons.mpr ⟨con_lift (ko_27 hz) (by decide +kernel), List.forall_mem_cons.mpr ⟨ki_28 hz, List.forall_mem_cons.mpr ⟨con_lift (ko_30 hz) (by decide +kernel), List.forall_mem_cons.mpr ⟨con_lift (ko_32 hz) (by decide +kernel), List.forall_mem_cons.mpr ⟨con_lift (ko_78 hz) (by decide +kernel), List.forall_mem_cons.mpr ⟨con_lift (ko_101 hz) (by decide +kernel), List.forall_mem_cons.mpr ⟨con_lift (ko_103 hz) (by decide +kernel), List.forall_mem_cons.mpr ⟨con_lift (ko_105 hz) (by decide +kernel), List.forall_mem_cons.mpr ⟨con_lift (ko_107 hz) (by decide +kernel), List.forall_mem_cons.mpr ⟨con_lift (ko_108 hz) (by decide +kernel), List.forall_mem_cons.mpr ⟨con_lift (ko_137 hz) (by decide +kernel), List.forall_mem_cons.mpr ⟨con_lift (ko_138 hz) (by decide +kernel), List.forall_mem_cons.mpr ⟨con_lift (ko_140 hz) (by decide +kernel), List.forall_mem_cons.mpr ⟨con_lift (ko_141 hz) (by decide +kernel), List.forall_mem_cons.mpr ⟨con_lift (ko_143 hz) (by decide +kernel), List.forall_mem_cons.mpr ⟨con_lift (ko_144 hz) (by decide +kernel), List.forall_mem_cons.mpr ⟨con_lift (ko_145 hz) (by decide +kernel), List.forall_mem_cons.mpr ⟨con_lift (ko_148 hz) (by decide +kernel), List.forall_mem_cons.mpr ⟨con_lift (ko_149 hz) (by decide +kernel), List.forall_mem_cons.mpr ⟨con_lift (ko_152 hz) (by decide +kernel), List.forall_mem_cons.mpr ⟨con_lift (ko_153 hz) (by decide +kernel), List.forall_mem_cons.mpr ⟨con_lift (ko_158 hz) (by decide +kernel), List.forall_mem_cons.mpr ⟨con_lift (ko_159 hz) (by decide +kernel), List.forall_mem_cons.mpr ⟨con_lift (ko_160 hz) (by decide +kernel), List.forall_mem_cons.mpr ⟨con_lift (ko_161 hz) (by decide +kernel), List.forall_mem_cons.mpr ⟨con_lift (ko_162 hz) (by decide +kernel), List.forall_mem_cons.mpr ⟨con_lift (ko_163 hz) (by decide +kernel), List.forall_mem_cons.mpr ⟨con_lift (ko_164 hz) (by decide +kernel), List.forall_mem_cons.mpr ⟨con_lift (ko_165 hz) (by decide +kernel), List.forall_mem_cons.mpr ⟨con_lift (ko_166 hz) (by decide +kernel), List.forall_mem_cons.mpr ⟨con_lift (ko_171 hz) (by decide +kernel), List.forall_mem_cons.mpr ⟨con_lift (ko_172 hz) (by decide +kernel), List.forall_mem_cons.mpr ⟨con_lift (ko_173 hz) (by decide +kernel), List.forall_mem_cons.mpr ⟨con_lift (ko_207 hz) (by decide +kernel), List.forall_mem_cons.mpr ⟨ki_208 hz, List.forall_mem_cons.mpr ⟨con_lift (ko_210 hz) (by decide +kernel), List.forall_mem_cons.mpr ⟨con_lift (ko_212 hz) (by decide +kernel), List.forall_mem_cons.mpr ⟨con_lift (ko_214 hz) (by decide +kernel), List.forall_mem_cons.mpr ⟨con_lift (ko_218 hz) (by decide +kernel), List.forall_mem_cons.mpr ⟨con_lift (ko_tx hz) (by decide +kernel), List.forall_mem_cons.mpr ⟨ki_tm hz, List.forall_mem_cons.mpr ⟨con_lift (ko_245 hz) (by decide +kernel), List.forall_mem_cons.mpr ⟨con_lift (ko_251 hz) (by decide +kernel), List.forall_mem_cons.mpr ⟨con_lift (ko_254 hz) (by decide +kernel), List.forall_mem_cons.mpr ⟨con_lift (ko_255 hz) (by decide +kernel), List.forall_mem_cons.mpr ⟨ki_256 hz, List.forall_mem_cons.mpr ⟨con_lift (ko_259 hz) (by decide +kernel), List.forall_mem_cons.mpr ⟨ki_260 hz, List.forall_mem_cons.mpr ⟨con_lift (ko_263 hz) (by decide +kernel), List.forall_mem_cons.mpr ⟨ki_264 hz, List.forall_mem_cons.mpr ⟨con_lift (ko_268 hz) (by decide +kernel), List.forall_mem_cons.mpr ⟨con_lift (ko_272 hz) (by decide +kernel), List.forall_mem_cons.mpr ⟨con_lift (ko_273 hz) (by decide +kernel), List.forall_mem_cons.mpr ⟨con_lift (ko_274 hz) (by decide +kernel), List.forall_mem_cons.mpr ⟨con_lift (ko_275 hz) (by decide +kernel), List.forall_mem_cons.mpr ⟨con_lift (ko_276 hz) (by decide +kernel), List.forall_mem_cons.mpr ⟨con_lift (ko_277 hz) (by decide +kernel), List.forall_mem_cons.mpr ⟨con_lift (ko_278 hz) (by decide +kernel), List.forall_mem_cons.mpr ⟨con_lift (ko_ap hz) (by decide +kernel), List.forall_mem_cons.mpr ⟨ki_ce hz, List.forall_mem_cons.mpr ⟨ki_fa hz, List.forall_mem_cons.mpr ⟨ki_or hz, List.forall_mem_cons.mpr ⟨ki_fi hz, fun _ h => absurd h List.not_mem_nil⟩⟩⟩⟩⟩⟩⟩⟩⟩⟩⟩⟩⟩⟩⟩⟩⟩⟩⟩⟩⟩⟩⟩⟩⟩⟩⟩⟩⟩⟩⟩⟩⟩⟩⟩⟩⟩⟩⟩⟩⟩⟩⟩⟩⟩⟩⟩⟩⟩⟩⟩⟩⟩⟩⟩⟩⟩⟩⟩⟩⟩⟩⟩⟩⟩⟩⟩⟩⟩
def Wall : WrT := (List.range 232).map (fun a => (a, 0, 255))
def i32w : Option IV := some (-2147483648, 2147483647)
def C18 : Cx := ([some (0, 3584), some (0, 3584), i32w, i32w, i32w, i32w, i32w, i32w, i32w, some (0, 60)], [])
def Z18 : ZT := (apV 0, apV 1, [apV 2, apV 3, apV 4, apV 5, apV 6, apV 7, apV 8])
def A18 : AS := (C18, 18, [.inr (.inr (.inr (apC 2000))), .inr (.inr (.inr (apC 0))), .inr (.inr (.inr (apC 213))), .inr (.inl (apV 1))], [], [(47873, apV 9), (54550, apV 9)])
def csE (C : Cx) (p : AP) (v : Int) : Bool := match cst C p with
  | some x => eqZ x v
  | none => false
def bk18 (o : Oc) : Bool := match o with
  | .inl B => Nat.beq B.2.1 18 && (Nat.beq B.2.2.2.1.length 0 && ((match B.2.2.1 with
    | [.inr (.inr (.inr a)), .inr (.inr (.inr b)), .inr (.inr (.inr c)), .inr (.inl p)] => csE B.1 a 2000 && (csE B.1 b 0 && (csE B.1 c 213 && (apEq p (apAdd (apV 1) (apC 7)) && geS B.1 (apSub (apV 0) p) 0)))
    | _ => false) && (match lkp B.2.2.2.2 47873, lkp B.2.2.2.2 54550 with
    | some p, some q => csE B.1 (apSub p q) 0
    | _, _ => false)))
  | .inr r => (match r.2.1 with
    | some (.inl p) => csE r.1 p 1
    | _ => false)
def law1 : Bool := match runT (PR Wall) (some Z18) KLw Wall (mkT TLw) 3000 223 pT_223 [18] true A18 with
  | some L => L.all bk18
  | none => false
set_option maxRecDepth 1000000 in
theorem law1_ok : law1 = true := by decide +kernel
theorem csE_ok {σ : Nat → Int} {C : Cx} (hC : satC σ C) {p : AP} {v : Int} (h : csE C p v = true) : ev σ p = v := by
  unfold csE at h
  split at h
  · rename_i x hx
    rw [cst_ok hC hx]
    exact eqZ_iff.mp h
  · cases h
def s18 (z : Int → Int) (i t : Int) (n : Nat) : Int := match n with
  | 0 => z (-1)
  | 1 => i
  | 9 => t
  | n + 2 => z (i + (n : Int))
theorem len0 {α : Type} {l : List α} (h : Nat.beq l.length 0 = true) : l = [] := List.length_eq_zero_iff.mp (Nat.eq_of_beq_eq_true h)
theorem turn {z : Int → Int} (hz : zOK z) (h0 : 0 ≤ z (-1) ∧ z (-1) ≤ 3584) {i : Int} (hi : 0 ≤ i ∧ i ≤ 3584) {h : PH} {g : PG} (hB : BI h) (hR : RF h) (hg : gInv g) (hE : h 187 1 = h 213 22) :
    (∃ h' g', XCD z 223 (18, l18 i, [], h, g) = some (some (vI 1), h', g') ∧ gInv g') ∨ (i + 7 ≤ z (-1) ∧ ∃ h' g', XCD z 223 (18, l18 i, [], h, g) = XCD z 223 (18, l18 (i + 7), [], h', g') ∧ BI h' ∧ RF h' ∧ gInv g' ∧ h' 187 1 = h' 213 22) := by
  have ht : 0 ≤ h 187 1 ∧ h 187 1 ≤ 60 := hB 187 (by decide) (1, 1, 0, 60) (by decide +kernel) 1 (by decide) (by decide)
  have e := law1_ok
  unfold law1 at e
  split at e
  · rename_i L hL
    have hA : tA (IR RF Wall h) z (some Z18) (s18 z i (h 187 1)) A18 (18, l18 i, [], h, g) := by
      refine ⟨rfl, ⟨⟨_, rfl, okP_C _ _ _⟩, ⟨_, rfl, okP_C _ _ _⟩, ⟨_, rfl, okP_C _ _ _⟩, ⟨_, rfl, okP_V (σ := s18 z i (h 187 1)) (v := 1) (by decide)⟩, trivial⟩, trivial, ⟨?_, fun f hf => by cases hf⟩, ⟨hz.1, hz.2, ?_⟩, ⟨⟨hB, FR.rf⟩, hR⟩, hg, (fun e he => ?_)⟩
      · intro n l u hn
        match n, hn with
        | 0, hn => cases hn; exact h0
        | 1, hn => cases hn; exact hi
        | 2, hn => cases hn; exact hz.2 _
        | 3, hn => cases hn; exact hz.2 _
        | 4, hn => cases hn; exact hz.2 _
        | 5, hn => cases hn; exact hz.2 _
        | 6, hn => cases hn; exact hz.2 _
        | 7, hn => cases hn; exact hz.2 _
        | 8, hn => cases hn; exact hz.2 _
        | 9, hn => cases hn; exact ht
        | n + 10, hn => cases hn
      · intro p hp
        cases hp
        refine ⟨okP_V (σ := s18 z i (h 187 1)) (v := 0) (by decide), rfl, fun k q hq => ?_⟩
        have he : ev (s18 z i (h 187 1)) Z18.2.1 = i := ev_V _ 1
        rw [he]
        match k, hq with
        | 0, hq => cases hq; exact okP_V (σ := s18 z i (h 187 1)) (v := 2) (by decide)
        | 1, hq => cases hq; exact okP_V (σ := s18 z i (h 187 1)) (v := 3) (by decide)
        | 2, hq => cases hq; exact okP_V (σ := s18 z i (h 187 1)) (v := 4) (by decide)
        | 3, hq => cases hq; exact okP_V (σ := s18 z i (h 187 1)) (v := 5) (by decide)
        | 4, hq => cases hq; exact okP_V (σ := s18 z i (h 187 1)) (v := 6) (by decide)
        | 5, hq => cases hq; exact okP_V (σ := s18 z i (h 187 1)) (v := 7) (by decide)
        | 6, hq => cases hq; exact okP_V (σ := s18 z i (h 187 1)) (v := 8) (by decide)
        | k + 7, hq => cases hq
      · have he : e ∈ ([(47873, apV 9), (54550, apV 9)] : OV) := he
        rcases List.mem_cons.mp he with rfl | he
        · exact (okN_cel (by decide)).mpr ⟨okP_V (σ := s18 z i (h 187 1)) (v := 9) (by decide), rd_ns (by unfold scrt; rfl)⟩
        · rcases List.mem_cons.mp he with rfl | he
          · refine (okN_cel (by decide)).mpr ⟨?_, rd_ns (by unfold scrt; rfl)⟩
            have k : okP (s18 z i (h 187 1)) (nV C18) (apV 9) (h 187 1) := okP_V (σ := s18 z i (h 187 1)) (v := 9) (by decide)
            rw [hE] at k
            rw [hE]
            exact k
          · cases he
    obtain ⟨o, o1, σ', o2, o3⟩ := runI_ok (tOK_PR Wall h) KLw (KLw_ok hz) (mkT TLw) 3000 223 pT_223 [18] true A18 L ok_223 hL _ _ hA
    have hb := List.all_eq_true.mp e o o1
    have hv : ∀ n : Nat, n < 10 → σ' n = s18 z i (h 187 1) n := fun n hn => (o2 n (by show n < C18.1.length; simp only [C18, List.length_cons, List.length_nil]; omega)).symm
    match o, o3, hb with
    | .inr r, ⟨p1, v, h', g', p2, p3, p4⟩, hb =>
      refine Or.inl ⟨h', g', ?_, p4.2.2.2.1⟩
      unfold bk18 at hb
      simp only at hb
      split at hb
      · rename_i p hp
        have hc := csE_ok p4.1 hb
        rw [hp] at p3
        match v, p3 with
        | some (.inl x), p3 =>
          have p3 : okP σ' (nV r.1) p x := p3
          rw [p3.2] at hc
          rw [p2, hc]
        | some (.inr _), p3 => exact p3.elim
        | none, p3 => exact p3.elim
      · cases hb
    | .inl B, ⟨p1, c', p2, p3⟩, hb =>
      unfold bk18 at hb
      simp only [Bool.and_eq_true] at hb
      obtain ⟨b1, b2, b3, b4⟩ := hb
      have b1 := Nat.eq_of_beq_eq_true b1
      have b2 := len0 b2
      obtain ⟨pc', l', s', h', g'⟩ := c'
      obtain ⟨q1, q2, q3, q4⟩ := p3
      have hT : h' 187 1 = h' 213 22 := by
        split at b4
        · rename_i p q hp hq
          have k1 := ((okN_cel (c := 47873) (by decide)).mp (q4.2.2.2.2 _ (lkp_ok hp))).1.2
          have k2 := ((okN_cel (c := 54550) (by decide)).mp (q4.2.2.2.2 _ (lkp_ok hq))).1.2
          have k3 := csE_ok q4.1 b4
          rw [ev_sub, k1, k2] at k3
          exact Int.sub_eq_zero.mp (show h' 187 1 - h' 213 22 = 0 from k3)
        · cases b4
      split at b3
      · rename_i a b c p hls
        simp only [Bool.and_eq_true] at b3
        obtain ⟨c1, c2, c3, c4, c5⟩ := b3
        have c1 := csE_ok q4.1 c1
        have c2 := csE_ok q4.1 c2
        have c3 := csE_ok q4.1 c3
        have c4 := apEq_eq c4
        have c5 := geS_ok q4.1 c5
        rw [ev_sub, c4, ev_add, ev_V, ev_V, ev_C, hv 0 (by omega), hv 1 (by omega)] at c5
        have e0 : s18 z i (h 187 1) 0 = z (-1) := rfl
        have e1 : s18 z i (h 187 1) 1 = i := rfl
        rw [e0, e1] at c5
        rw [hls] at q2
        rw [b2] at q3
        have hs : s' = [] := qSs_n q3
        have hpc : pc' = 18 := q1.symm.trans b1
        match l', q2 with
        | [x1, x2, x3, x4], q2 =>
          obtain ⟨⟨y1, f1, z1⟩, ⟨y2, f2, z2⟩, ⟨y3, f3, z3⟩, ⟨y4, f4, z4⟩, _⟩ := q2
          subst f1 f2 f3 f4
          match y1, y2, y3, y4, z1, z2, z3, z4 with
          | .inr (.inr w1), .inr (.inr w2), .inr (.inr w3), .inl w4, z1, z2, z3, z4 =>
            have z1 : okP σ' (nV B.1) a w1 := z1
            have z2 : okP σ' (nV B.1) b w2 := z2
            have z3 : okP σ' (nV B.1) c w3 := z3
            have z4 : okP σ' (nV B.1) p w4 := z4
            rw [z1.2] at c1
            rw [z2.2] at c2
            rw [z3.2] at c3
            have e4 : w4 = i + 7 := by rw [← z4.2, c4, ev_add, ev_V, ev_C, hv 1 (by omega), e1]
            refine Or.inr ⟨by omega, h', g', ?_, q4.2.2.1.1.1, q4.2.2.1.2, q4.2.2.2.1, hT⟩
            rw [p2, hpc, hs, c1, c2, c3, e4]
          | .inl _, _, _, _, z1, _, _, _ => exact z1.elim
          | .inr (.inl _), _, _, _, z1, _, _, _ => exact z1.elim
          | _, .inl _, _, _, _, z2, _, _ => exact z2.elim
          | _, .inr (.inl _), _, _, _, z2, _, _ => exact z2.elim
          | _, _, .inl _, _, _, _, z3, _ => exact z3.elim
          | _, _, .inr (.inl _), _, _, _, z3, _ => exact z3.elim
          | _, _, _, .inr _, _, _, _, z4 => exact z4.elim
        | [], q2 => exact q2.elim
        | [_], q2 => exact q2.2.elim
        | [_, _], q2 => exact q2.2.2.elim
        | [_, _, _], q2 => exact q2.2.2.2.elim
        | _ :: _ :: _ :: _ :: _ :: _, q2 => exact q2.2.2.2.2.elim
      · cases b3
  · cases e
theorem turns {z : Int → Int} (hz : zOK z) (h0 : 0 ≤ z (-1) ∧ z (-1) ≤ 3584) : ∀ (n : Nat) (i : Int) (h : PH) (g : PG), (3584 - i).toNat < n → 0 ≤ i → i ≤ 3584 → BI h → RF h → gInv g → h 187 1 = h 213 22 → ∃ h' g', XCD z 223 (18, l18 i, [], h, g) = some (some (vI 1), h', g') ∧ gInv g' := by
  intro n
  induction n with
  | zero => intro i h g hn; omega
  | succ n ih =>
    intro i h g hn hi0 hi1 hB hR hg hE
    rcases turn hz h0 ⟨hi0, hi1⟩ hB hR hg hE with ⟨h', g', k⟩ | ⟨k1, h', g', k2, k3, k5, k4, k8⟩
    · exact ⟨h', g', k⟩
    · obtain ⟨h2, g2, k6, k7⟩ := ih (i + 7) h' g' (by omega) (by omega) (by omega) k3 k5 k4 k8
      exact ⟨h2, g2, k2.trans k6, k7⟩
/-- all flags set: the numbers are the same -/
def flgH (h : PH) : PH := fun a k => if 4096 ≤ a then 1 else h a k
theorem simR_flg (h : PH) : simR (flgH h) h := by
  intro a k h0 h1 _
  unfold flgH
  rw [if_neg (by omega)]
theorem BI_flg {h : PH} (hB : BI h) : BI (flgH h) := by
  intro a ha e he k k1 k2
  unfold flgH
  rw [if_neg (by omega)]
  exact hB a ha e he k k1 k2
theorem flg_eq {h : PH} (h4 : h 187 1 = 0) (h5 : h 213 22 = 0) : flgH h 187 1 = flgH h 213 22 := by
  unfold flgH
  rw [if_neg (by omega), if_neg (by omega), h4, h5]
theorem RF_flg {h : PH} (h4 : h 214 0 = 0) (h5 : h 215 0 = 0) : RF (flgH h) := by
  refine ⟨fun G hG a ha hlt => ?_, ⟨fun k _ _ => rfl, fun k _ _ => rfl, rfl⟩⟩
  exfalso
  unfold flgH at hlt
  rw [if_neg (by omega)] at hlt
  rcases hG with rfl | rfl
  · omega
  · omega
theorem fin_ok {z : Int → Int} (h7 : 0 ≤ z (-1) ∧ z (-1) ≤ 3584) (hr : ∀ j : Int, -2147483648 ≤ z j ∧ z j ≤ 2147483647) : ∃ h g, XC z 223 (den K0) = some (some (.inl 1), h, g) ∧ gInv g := by
  have hz : zOK z := ⟨by omega, hr⟩
  obtain ⟨h, g, s1, s2, s3, s4, s5, s6, s7⟩ := start2 z
  obtain ⟨h', g', k1, k2⟩ := turns hz h7 (3584 + 1) 0 (flgH h) g (by omega) (by omega) (by omega) (BI_flg s2) (RF_flg s6 s7) s3 (flg_eq s4 s5)
  obtain ⟨f, hf⟩ := XCD_some z k1
  obtain ⟨o', e1, e2, e3, e4⟩ := exD_sim f 223 _ (18, l18 0, [], h, g) _ hf ⟨rfl, rfl, rfl, simR_flg h, rfl⟩
  obtain ⟨v2, h2, g2⟩ := o'
  simp only at e2 e3 e4
  subst e2 e4
  exact ⟨h2, g', s1.trans (XC_of z e1), k2⟩
