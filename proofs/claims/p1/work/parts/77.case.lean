/-! ===== THE CASES OF THE LAW ===== -/
def rfC (rs : List (Nat × IV)) (B : AS) : AS := ((rs.foldl (fun G q => setG G q.1 q.2) B.1.1, B.1.2), B.2)
def csP (K : Ct) (f pc : Nat) (rs : List (Nat × IV)) : Bool := match pro Z7 A16 with
  | some L => L.all (fun o => match o with
    | .inl B => !Nat.beq B.2.1 pc || allR (run PR Z7 K TL f 223 pT_223 [] true (rfC rs B)) (ckC 1 [])
    | .inr r => ckC 1 [] r)
  | none => false
def END (z : Int → Int) (c : Cfg) : Prop := ∃ h g, XC z 223 c = some (some (.inl 1), h, g) ∧ gInv g
def CaseP (pc : Nat) : Prop := ∀ (z : Int → Int) (L : List Oc) (B : AS) (σ : Nat → Int) (c : Cfg), pro Z7 A16 = some L → .inl B ∈ L → B.2.1 = pc → qA PR z Z7 σ B c → (∀ i : Nat, i < 7 → σ i = z (i : Int)) → (∀ j : Int, -2147483648 ≤ z j ∧ z j ≤ 2147483647) → END z c
theorem rf_ok {σ : Nat → Int} : ∀ {rs : List (Nat × IV)} {G : Gm}, gSat σ G → (∀ q ∈ rs, q.2.1 ≤ σ q.1 ∧ σ q.1 ≤ q.2.2) → gSat σ (rs.foldl (fun G q => setG G q.1 q.2) G) ∧ (rs.foldl (fun G q => setG G q.1 q.2) G).length = G.length
  | [], _, h, _ => ⟨h, rfl⟩
  | q :: rs, G, h, hq => by
    obtain ⟨v, a, b⟩ := q
    have k := hq _ List.mem_cons_self
    have h2 := rf_ok (rs := rs) (G := setG G v (a, b)) (gSat_set h k.1 k.2) (fun w hw => hq w (List.mem_cons_of_mem _ hw))
    exact ⟨h2.1, h2.2.trans (setG_len G v (a, b))⟩
theorem rfC_ok {z : Int → Int} {rs : List (Nat × IV)} {B : AS} {σ : Nat → Int} {c : Cfg} (h : qA PR z Z7 σ B c) (hq : ∀ q ∈ rs, q.2.1 ≤ σ q.1 ∧ σ q.1 ≤ q.2.2) : qA PR z Z7 σ (rfC rs B) c := by
  obtain ⟨h1, h2, h3, h4⟩ := h
  have k := rf_ok (rs := rs) (G := B.1.1) h4.1.1 hq
  have hs : satC σ (rs.foldl (fun G q => setG G q.1 q.2) B.1.1, B.1.2) := ⟨k.1, fun f hf => by
    have := h4.1.2 f hf
    refine ⟨?_, this.2⟩
    show rLt (rs.foldl (fun G q => setG G q.1 q.2) B.1.1).length f.1 = true
    rw [k.2]
    exact this.1⟩
  have hn : nV (rfC rs B).1 = nV B.1 := k.2
  refine ⟨h1, ?_, ?_, h4.ctx hs k.2⟩
  · rw [hn]; exact h2
  · rw [hn]; exact h3
theorem end_of {z : Int → Int} {K : Ct} (hK : kOK PR z Z7 K) {f : Nat} {st : List Nat} {B : AS} {σ : Nat → Int} {c : Cfg} (hr : allR (run PR Z7 K TL f 223 pT_223 st true B) (ckC 1 []) = true) (h : qA PR z Z7 σ B c) : END z c := by
  cases hL : run PR Z7 K TL f 223 pT_223 st true B with
  | none => rw [hL] at hr; cases hr
  | some L =>
    rw [hL] at hr
    obtain ⟨o, o1, σ', o2, o3⟩ := run_ok PR_ok hK TL f 223 pT_223 st true B L ok_223 hL σ c h
    have hk := List.all_eq_true.mp hr o o1
    match o, o3, hk with
    | .inl B, _, hk => cases hk
    | .inr r, ⟨p1, v, h', g', p2, p3, p4⟩, hk =>
      obtain ⟨b1, b2, -⟩ := ckC_ok hk p3 p4
      subst b1
      exact ⟨h', g', p2, b2⟩
theorem case_ok {K : Ct} (hK : ∀ z, kOK PR z Z7 K) {f pc : Nat} {rs : List (Nat × IV)} (h : csP K f pc rs = true) {z : Int → Int} {L : List Oc} {B : AS} {σ : Nat → Int} {c : Cfg} (hL : pro Z7 A16 = some L) (hB : .inl B ∈ L) (hpc : B.2.1 = pc) (hA : qA PR z Z7 σ B c) (hq : ∀ q ∈ rs, q.2.1 ≤ σ q.1 ∧ σ q.1 ≤ q.2.2) : END z c := by
  unfold csP at h
  rw [hL] at h
  have k := List.all_eq_true.mp h _ hB
  have k : (!Nat.beq B.2.1 pc || allR (run PR Z7 K TL f 223 pT_223 [] true (rfC rs B)) (ckC 1 [])) = true := k
  rw [hpc, Nat.beq_refl] at k
  have k : allR (run PR Z7 K TL f 223 pT_223 [] true (rfC rs B)) (ckC 1 []) = true := k
  exact end_of (hK z) k (rfC_ok hA hq)
theorem case_0 {K : Ct} (hK : ∀ z, kOK PR z Z7 K) {f pc : Nat} (h : csP K f pc [] = true) : CaseP pc := fun _ _ _ _ _ hL hB hpc hA _ _ => case_ok hK h hL hB hpc hA (fun q hq => by cases hq)
theorem noK_all (z : Int → Int) : kOK PR z Z7 noK := noK_ok
theorem Ks_all (z : Int → Int) : kOK PR z Z7 Ks := Ks_ok
def loV : Int := -2147483648
def hiV : Int := 2147483647
def pq (k : Nat) : IV := (10 * (k : Int), 10 * (k : Int) + 9)
/-- a case in which a size and a weight are told: the size by tens -/
theorem case_sz {pc v w : Nat} (hv : v < 7) (hw : w < 7) (h1 : csP Ks 20000 pc [(w, (loV, 0))] = true) (h2 : csP Ks 20000 pc [(w, (1000, hiV))] = true) (h3 : csP Ks 20000 pc [(v, (loV, -1)), (w, (1, 999))] = true) (h4 : csP Ks 20000 pc [(v, (500, hiV)), (w, (1, 999))] = true)
    (h5 : ∀ k : Nat, k < 50 → csP Ks 20000 pc [(v, pq k), (w, (1, 999))] = true) : CaseP pc := by
  intro z L B σ c hL hB hpc hA hz hr
  have rv := hr (v : Int)
  have rw' := hr (w : Int)
  have ev := hz v hv
  have ew := hz w hw
  rw [← ev] at rv
  rw [← ew] at rw'
  have two : ∀ q1 q2 : IV, q1.1 ≤ σ v ∧ σ v ≤ q1.2 → q2.1 ≤ σ w ∧ σ w ≤ q2.2 → ∀ q ∈ [(v, q1), (w, q2)], q.2.1 ≤ σ q.1 ∧ σ q.1 ≤ q.2.2 := by
    intro q1 q2 k1 k2 q hq
    rcases List.mem_cons.mp hq with rfl | hq
    · exact k1
    · rcases List.mem_cons.mp hq with rfl | hq
      · exact k2
      · cases hq
  have one : ∀ q2 : IV, q2.1 ≤ σ w ∧ σ w ≤ q2.2 → ∀ q ∈ [(w, q2)], q.2.1 ≤ σ q.1 ∧ σ q.1 ≤ q.2.2 := by
    intro q2 k2 q hq
    rcases List.mem_cons.mp hq with rfl | hq
    · exact k2
    · cases hq
  by_cases c1 : σ w ≤ 0
  · exact case_ok Ks_all h1 hL hB hpc hA (one _ ⟨rw'.1, c1⟩)
  · by_cases c2 : 1000 ≤ σ w
    · exact case_ok Ks_all h2 hL hB hpc hA (one _ ⟨c2, rw'.2⟩)
    · have hwt : (1 : Int) ≤ σ w ∧ σ w ≤ 999 := by omega
      by_cases c3 : σ v ≤ -1
      · exact case_ok Ks_all h3 hL hB hpc hA (two _ _ ⟨rv.1, c3⟩ hwt)
      · by_cases c4 : 500 ≤ σ v
        · exact case_ok Ks_all h4 hL hB hpc hA (two _ _ ⟨c4, rv.2⟩ hwt)
        · refine case_ok Ks_all (h5 (σ v / 10).toNat (by omega)) hL hB hpc hA (two _ _ ?_ hwt)
          show 10 * (((σ v / 10).toNat : Nat) : Int) ≤ σ v ∧ σ v ≤ 10 * (((σ v / 10).toNat : Nat) : Int) + 9
          omega
/-- all cases: the law's end is 1 -/
theorem fin_of (hp : proOk Z7 A16 = true) (hc : ∀ pc ∈ cpcs, CaseP pc) {z : Int → Int} (h7 : 0 ≤ z (-1) ∧ z (-1) ≤ 7) (hr : ∀ j : Int, -2147483648 ≤ z j ∧ z j ≤ 2147483647) : END z (den K0) := by
  obtain ⟨c, e1, hA⟩ := start_ok h7 hr
  have fin : ∀ c', XC z 223 c = XC z 223 c' → END z c' → END z (den K0) := fun c' e2 k => by
    obtain ⟨h, g, k1, k2⟩ := k
    exact ⟨h, g, (e1.trans e2).trans k1, k2⟩
  unfold proOk at hp
  cases hL : pro Z7 A16 with
  | none => rw [hL] at hp; cases hp
  | some L =>
    rw [hL] at hp
    obtain ⟨o, o1, σ', o2, o3⟩ := run_ok PR_ok (noK_all z) TL 60 223 pT_223 cpcs true A16 L ok_223 hL (sz z) c hA
    have hk := List.all_eq_true.mp hp o o1
    match o, o1, o3, hk with
    | .inl B, o1, ⟨k1, c', k2, k3⟩, hk =>
      have hk : memN cpcs B.2.1 = true := hk
      unfold memN at hk
      obtain ⟨pc, hpc, he⟩ := List.any_eq_true.mp hk
      have he := Nat.eq_of_beq_eq_true he
      have hσ : ∀ i : Nat, i < 7 → σ' i = z (i : Int) := fun i hi => by
        rw [← o2 i (by show i < 8; omega)]
        exact if_pos hi
      exact fin c' k2 (hc pc hpc z L B σ' c' hL o1 he.symm k3 hσ hr)
    | .inr r, _, ⟨p1, v, h', g', p2, p3, p4⟩, hk =>
      refine fin c rfl ⟨h', g', ?_, p4.2.2.2.1⟩
      rw [p2]
      unfold ckR at hk
      have hk : (match r.2.1 with
        | some (.inl p) => (match cst r.1 p with
          | some x => eqZ x 1
          | none => false)
        | _ => false) = true := hk
      split at hk
      · rename_i p hp1
        split at hk
        · rename_i x hx
          rw [hp1] at p3
          rw [val_ok p4.1 p3 hx, eqZ_iff.mp hk]
        · cases hk
      · cases hk
