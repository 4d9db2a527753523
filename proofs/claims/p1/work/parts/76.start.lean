/-! ===== WHERE THE LAW STANDS BEHIND THE CONSTRUCTORS ===== -/
def K0 : CK := (0, [some (vR 2000), none, none, none], [], ([], [], 0))
def rOk (R : WL) : Bool := (List.range 232).all (fun a => (List.range (rtL.getD a []).length).all (fun k => !nnZ ((rtL.getD a []).getD k (-1)) || (match lki R (a * 256 + k) with
  | some v => eqZ v ((rtL.getD a []).getD k (-1))
  | none => false)))
def vOk (H : WL) (ov : OV) : Bool := ov.all (fun e => (match e.2.2 with
  | [] => true
  | _ => false) && (match lki H e.1 with
  | some v => eqZ v e.2.1
  | none => eqZ (ini ((e.1 / 256 : Nat) : Int) ((e.1 % 256 : Nat) : Int)) e.2.1))
def lOk (l : PL) : Bool := match l with
  | [some (.inr (.inr a)), some (.inr (.inr b)), some (.inr (.inr c)), none] => eqZ a 2000 && (eqZ b 0 && eqZ c 213)
  | _ => false
def mOk (r : Option CE) : Bool := match r with
  | some (.inl K) => Nat.beq K.1 16 && (lOk K.2.1 && (Nat.beq K.2.2.1.length 0 && (Nat.beq K.2.2.2.2.2 232 && (rOk K.2.2.2.2.1 && vOk K.2.2.2.1 ov0))))
  | _ => false
set_option maxRecDepth 1000000 in
theorem made_ok : mOk (crun 5000 223 pT_223 [16] K0) = true := by decide +kernel
theorem rOk_ok {R : WL} (h : rOk R = true) : ∀ a k : Nat, a < nCell → 0 ≤ rtab a k → dR R a k = rtab a k := by
  intro a k ha hk
  have ha : a < 232 := ha
  have h1 := List.all_eq_true.mp h a (List.mem_range.mpr ha)
  have e : rtab (a : Int) (k : Int) = (rtL.getD a []).getD k (-1) := by
    unfold rtab
    rw [if_pos ⟨by omega, by omega⟩, Int.toNat_natCast, Int.toNat_natCast]
  rw [e] at hk ⊢
  by_cases hl : k < (rtL.getD a []).length
  · have h2 := List.all_eq_true.mp h1 k (List.mem_range.mpr hl)
    rw [nnZ_iff.mpr hk] at h2
    have h2 : (match lki R (a * 256 + k) with
      | some v => eqZ v ((rtL.getD a []).getD k (-1))
      | none => false) = true := h2
    split at h2
    · rename_i v hv
      unfold dR
      have hk256 : k < 256 := by
        have hlen : (List.range 232).all (fun a => Nat.ble (rtL.getD a []).length 256) = true := by decide +kernel
        have := Nat.le_of_ble_eq_true (List.all_eq_true.mp hlen a (List.mem_range.mpr ha))
        omega
      rw [if_pos ⟨by omega, by omega, by omega⟩, Int.toNat_natCast, Int.toNat_natCast, hv]
      exact eqZ_iff.mp h2
    · cases h2
  · rw [List.getD_eq_getElem?_getD, List.getElem?_eq_none (by omega)] at hk
    have hk : (0 : Int) ≤ -1 := hk
    omega
theorem vOk_ok {H : WL} {ov : OV} (h : vOk H ov = true) (σ : Nat → Int) (n : Nat) : hOv σ n ov (dH H) := by
  intro e he
  have h1 := Bool.and_eq_true_iff.mp (List.all_eq_true.mp h e he)
  obtain ⟨a, c, r⟩ := e
  cases r with
  | cons q r => cases h1.1
  | nil =>
    refine ⟨rfl, ?_⟩
    have h2 := h1.2
    simp only at h2 ⊢
    have e1 : ev σ (c, []) = c := ev_C σ c
    rw [e1]
    unfold dH
    rw [if_pos ⟨by omega, by omega, by omega⟩, Int.toNat_natCast, Int.toNat_natCast, show a / 256 * 256 + a % 256 = a by omega]
    split at h2
    · rename_i v hv
      rw [hv]
      exact (eqZ_iff.mp h2).symm
    · rename_i hv
      rw [hv]
      exact (eqZ_iff.mp h2).symm
def sz (z : Int → Int) (i : Nat) : Int := if i < 7 then z (i : Int) else z (-1)
theorem start_ok {z : Int → Int} (h7 : 0 ≤ z (-1) ∧ z (-1) ≤ 7) (hr : ∀ j : Int, -2147483648 ≤ z j ∧ z j ≤ 2147483647) : ∃ c, XC z 223 (den K0) = XC z 223 c ∧ qA PR z Z7 (sz z) A16 c := by
  have h := made_ok
  cases hc : crun 5000 223 pT_223 [16] K0 with
  | none => rw [hc] at h; cases h
  | some r =>
    rw [hc] at h
    cases r with
    | inr o => cases h
    | inl K =>
      have k := crun_ok (z := z) ok_223 hc
      have k : XC z 223 (den K0) = XC z 223 (den K) := k
      obtain ⟨pc, l, st, H, R, n⟩ := K
      have h : (Nat.beq pc 16 && (lOk l && (Nat.beq st.length 0 && (Nat.beq n 232 && (rOk R && vOk H ov0))))) = true := h
      simp only [Bool.and_eq_true] at h
      obtain ⟨a1, a2, a3, a4, a5, a6⟩ := h
      have a1 := Nat.eq_of_beq_eq_true a1
      have a3 := Nat.eq_of_beq_eq_true a3
      have a4 := Nat.eq_of_beq_eq_true a4
      have a3 : st = [] := List.length_eq_zero_iff.mp a3
      subst a1
      subst a3
      subst a4
      have hl : l = [some (vR 2000), some (vR 0), some (vR 213), none] := by
        unfold lOk at a2
        split at a2
        · rename_i a b c
          simp only [Bool.and_eq_true] at a2
          rw [eqZ_iff.mp a2.1, eqZ_iff.mp a2.2.1, eqZ_iff.mp a2.2.2]
        · cases a2
      subst hl
      have hn : (dG (H, R, 232)).1 = nCell := by
        unfold dG nCell
        rfl
      have hg : gInv (dG (H, R, 232)) := by
        refine ⟨hn, fun a k ha hk => ?_⟩
        have e := rOk_ok a5 a k ha hk
        unfold dG
        dsimp only
        exact e
      have ho : hOv (sz z) (nV A16.1) ov0 (dH H) := vOk_ok a6 _ _
      refine ⟨_, k, rfl, ?_, trivial, ?_, ?_, PR_inv _, hg, ho⟩
      · exact ⟨⟨_, rfl, okP_C _ _ _⟩, ⟨_, rfl, okP_C _ _ _⟩, ⟨_, rfl, okP_C _ _ _⟩, (fun _ v hv => by cases hv), trivial⟩
      · refine satG ⟨?_, ?_, ?_, ?_, ?_, ?_, ?_, ?_, trivial⟩
        · exact hr _
        · exact hr _
        · exact hr _
        · exact hr _
        · exact hr _
        · exact hr _
        · exact hr _
        · exact h7
      · exact qZ7 (fun i hi => if_pos hi) rfl (by decide) (by omega)
