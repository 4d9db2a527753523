/-! ===== contracts and runs that keep more than the bounds ===== -/
/-- every box that came has height and weight, of g and of kept -/
def RR (h : PH) : Prop := ∀ G : Int, (G = 214 ∨ G = 215) → ∀ a : Nat, a < 7 → (a : Int) < h G 0 → 1 ≤ h G (58 + (a : Int)) ∧ 1 ≤ h G (66 + (a : Int))
def RF (h : PH) : Prop := RR h ∧ FlW h
def conI (R : PH → Prop) (z : Int → Int) (c : Con) : Prop := ∀ (avs : List PV) (V1 V2 : List Int) (h : PH) (g : PG), argsOK c.2.1 avs V1 → preOK h c.2.2.1 V2 → BI h → R h → gInv g → (∀ f ∈ c.2.2.2.1, f.2.1 ≤ lnC [] h n0 (valF (V1 ++ V2)) 0 f.1 ∧ lnC [] h n0 (valF (V1 ++ V2)) 0 f.1 ≤ f.2.2) → (∀ q ∈ c.2.2.2.2.1, regOK h q.1 (lnC [] h n0 (valF (V1 ++ V2)) 0 q.2)) →
  ∃ v h' g', CALLD z c.1 avs h g = some (v, h', g') ∧ BI h' ∧ R h' ∧ FR c.2.2.2.2.2.1 h h' ∧ gInv g' ∧ ∃ a ∈ c.2.2.2.2.2.2, altOK a (V1 ++ V2) v h'
def IR (R : PH → Prop) (W : WrT) (h0 h : PH) : Prop := IW W h0 h ∧ R h
def lo1 (o : Option IV) : Bool := match o with
  | some q => leZ 1 q.1
  | none => false
def gdW (a l u : Nat) (o : Option IV) : Bool := !(Nat.beq a 214 || Nat.beq a 215) || (Nat.ble 1 l && (((Nat.blt u 58 || Nat.blt 64 l) && (Nat.blt u 66 || Nat.blt 72 l)) || lo1 o))
def PR (W : WrT) : RGt := ((PW W).1, fun a l u o => (PW W).2 a l u o && gdW a l u o)
def goodL (W : WrT) : Bool := W.all (fun w => gdW w.1 w.2.1 w.2.2 none)
theorem gdW_G {a l u : Nat} {o : Option IV} (h : gdW a l u o = true) (ha : a = 214 ∨ a = 215) : 1 ≤ l ∧ (((u < 58 ∨ 64 < l) ∧ (u < 66 ∨ 72 < l)) ∨ ∃ q, o = some q ∧ 1 ≤ q.1) := by
  unfold gdW at h
  have e : (Nat.beq a 214 || Nat.beq a 215) = true := by
    rcases ha with rfl | rfl
    · rfl
    · rfl
  rw [e] at h
  have h : (Nat.ble 1 l && (((Nat.blt u 58 || Nat.blt 64 l) && (Nat.blt u 66 || Nat.blt 72 l)) || lo1 o)) = true := h
  have h := Bool.and_eq_true_iff.mp h
  refine ⟨Nat.le_of_ble_eq_true h.1, ?_⟩
  rcases Bool.or_eq_true_iff.mp h.2 with k | k
  · have k := Bool.and_eq_true_iff.mp k
    refine Or.inl ⟨?_, ?_⟩
    · rcases Bool.or_eq_true_iff.mp k.1 with q | q
      · have : u + 1 ≤ 58 := Nat.le_of_ble_eq_true q
        exact Or.inl (by omega)
      · have : 64 + 1 ≤ l := Nat.le_of_ble_eq_true q
        exact Or.inr (by omega)
    · rcases Bool.or_eq_true_iff.mp k.2 with q | q
      · have : u + 1 ≤ 66 := Nat.le_of_ble_eq_true q
        exact Or.inl (by omega)
      · have : 72 + 1 ≤ l := Nat.le_of_ble_eq_true q
        exact Or.inr (by omega)
  · cases o with
    | some q => exact Or.inr ⟨q, rfl, leZ_iff.mp k⟩
    | none => cases k
theorem RR_fr {W : WrT} {h h' : PH} (hW : goodL W = true) (hF : FR W h h') (hR : RR h) : RR h' := by
  intro G hG a ha hlt
  have key : ∀ k : Int, (k = 0 ∨ (58 ≤ k ∧ k ≤ 64) ∨ (66 ≤ k ∧ k ≤ 72)) → h' G k = h G k := by
    intro k hk
    refine hF.1 G k (by omega) (by omega) ?_
    rintro ⟨w, w1, w2, w3, w4⟩
    have e := List.all_eq_true.mp hW w w1
    obtain ⟨e1, e2⟩ := gdW_G e (by omega)
    rcases e2 with ⟨e2, e3⟩ | ⟨q, q1, q2⟩
    · omega
    · cases q1
  rw [key 0 (Or.inl rfl)] at hlt
  rw [key (58 + (a : Int)) (by omega), key (66 + (a : Int)) (by omega)]
  exact hR G hG a ha hlt
theorem RF_fr {W : WrT} {h h' : PH} (hW : goodL W = true) (hF : FR W h h') (hR : RF h) : RF h' := ⟨RR_fr hW hF hR.1, FlW.fr hF hR.2⟩
theorem con_lift {z : Int → Int} {c : Con} (hc : conOK z c) (hW : goodL c.2.2.2.2.2.1 = true) : conI RF z c := by
  intro avs V1 V2 h g h1 h2 hB hR hg hf hr
  obtain ⟨v, h', g', r1, r2, r3, r4, r5⟩ := hc avs V1 V2 h g h1 h2 hB hg hf hr
  exact ⟨v, h', g', r1, r2, RF_fr hW r3 hR, r3, r4, r5⟩
theorem tOK_PR (W : WrT) (h0 : PH) : tOK (PR W) (IR RF W h0) := by
  refine ⟨fun h a l u j q hI ha hq h1 h2 => (tOK_PW W h0).1 h a l u j q hI.1 ha hq h1 h2, fun h a l u j v o hI hp ho h1 h2 ha => ?_, fun h a b la lb i j n hI hp ha hb hi hj hin hjn => ?_⟩
  · have hp := Bool.and_eq_true_iff.mp (show ((PW W).2 a l u o && gdW a l u o) = true from hp)
    refine ⟨(tOK_PW W h0).2.1 h a l u j v o hI.1 hp.1 ho h1 h2 ha, fun G hG b hb hlt => ?_, ⟨fun k k0 k1 => fl_mono (b := 222) (by omega) (by decide) (hI.2.2.1 k k0 k1), fun k k0 k1 => fl_mono (b := 223) (by omega) (by decide) (hI.2.2.2.1 k k0 k1), fl_mono (b := 213) (by omega) (by decide) hI.2.2.2.2⟩⟩
    have val : ∀ k : Int, fl1 (u2 h (a : Int) (j : Int) v) (a : Int) (j : Int) G k = if G = (a : Int) then (if k = (j : Int) then v else h G k) else h G k := by
      intro k
      rw [fl_val (by omega) (by omega)]
      rfl
    rw [val] at hlt
    rw [val, val]
    by_cases hGa : G = (a : Int)
    · obtain ⟨g1, g2⟩ := gdW_G hp.2 (by omega)
      rw [if_pos hGa, if_neg (by omega)] at hlt
      have hR := hI.2.1 G hG b hb hlt
      rw [if_pos hGa, if_pos hGa]
      constructor
      · by_cases hk : 58 + (b : Int) = (j : Int)
        · rw [if_pos hk]
          rcases g2 with g2 | ⟨q, q1, q2⟩
          · omega
          · have := ho q q1
            omega
        · rw [if_neg hk]; exact hR.1
      · by_cases hk : 66 + (b : Int) = (j : Int)
        · rw [if_pos hk]
          rcases g2 with g2 | ⟨q, q1, q2⟩
          · omega
          · have := ho q q1
            omega
        · rw [if_neg hk]; exact hR.2
    · rw [if_neg hGa] at hlt
      rw [if_neg hGa, if_neg hGa]
      exact hI.2.1 G hG b hb hlt
  · have hp := Bool.and_eq_true_iff.mp (show ((PW W).2 b 0 lb ((PW W).1 a 0 la) && gdW b 0 lb ((PW W).1 a 0 la)) = true from hp)
    have val : ∀ c k : Int, c ≠ (b : Int) → cpyH h (a : Int) i (b : Int) j n c k = h c k := by
      intro c k hc
      unfold cpyH
      rw [if_neg hc]
    refine ⟨(tOK_PW W h0).2.2 h a b la lb i j n hI.1 hp.1 ha hb hi hj hin hjn, fun G hG c hc hlt => ?_, ⟨fun k k0 k1 => by rw [val _ _ (by omega)]; exact hI.2.2.1 k k0 k1, fun k k0 k1 => by rw [val _ _ (by omega)]; exact hI.2.2.2.1 k k0 k1, by rw [val _ _ (by omega)]; exact hI.2.2.2.2⟩⟩
    have hGb : G ≠ (b : Int) := by
      intro q
      obtain ⟨g1, g2⟩ := gdW_G hp.2 (by omega)
      omega
    rw [val _ _ hGb] at hlt
    rw [val _ _ hGb, val _ _ hGb]
    exact hI.2.1 G hG c hc hlt
section RUNI
variable {z : Int → Int} {Z : Option ZT} {Wc : WrT} {h00 : PH} {R : PH → Prop}
theorem appCI {c : Con} (hc : conI R z c) {σ : Nat → Int} {C : Cx} {av : List AV} {avs : List PV} {ov : OV} {h : PH} {g : PG} {rs : List Rt} (hq : qSs σ (nV C) av avs) (H : tH (IR R Wc h00) z Z σ C ov h g) (e : appC Wc c C av ov = some rs) :
    ∃ r ∈ rs, ∃ σ' v h' g', AG (nV C) σ σ' ∧ nV C ≤ nV r.1 ∧ CALLD z c.1 avs h g = some (v, h', g') ∧ qR σ' (nV r.1) r.2.1 v ∧ tH (IR R Wc h00) z Z σ' r.1 r.2.2 h' g' := by
  unfold appC at e
  split at e
  · rename_i V1 V2 hV1 hV2
    cases hk : c.2.2.2.1.all (fun f => bdF C (lnA [] ov [] (V1 ++ V2) none f.1) f.2.1 f.2.2) && (c.2.2.2.2.1.all (fun q => okR2 C ov (lnA [] ov [] (V1 ++ V2) none q.2) q.1) && subW c.2.2.2.2.2.1 Wc) with
    | false => rw [hk] at e; cases e
    | true =>
      rw [hk] at e
      simp only [cond_true] at e
      simp only [Bool.and_eq_true] at hk
      obtain ⟨k1, k2, k3⟩ := hk
      obtain ⟨H1, H2, H3, H4, H5⟩ := H
      obtain ⟨W1, p1, p2⟩ := argsV_ok H1 hq hV1
      obtain ⟨W2, q1, q2⟩ := preV_ok H1 H5 hV2
      have hV := vOK_app q1 p1
      obtain ⟨v, h', g', r1, r2, rR, r3, r4, a, ha, haok⟩ := hc avs W1 W2 h g p2 q2 H3.1.1 H3.2 H4 (fun f hf => by
        obtain ⟨p, b1, b2, b3⟩ := bdF_ok H1 (List.all_eq_true.mp k1 f hf)
        have k := lnA_ok (f0 := n0) (vals := valF (W1 ++ W2)) (r := 0) nol H5 no0 (vOK_nth hV) nor b1
        rw [k.2] at b2 b3
        exact ⟨b2, b3⟩) (fun q hq => by
        obtain ⟨p, b1, b2⟩ := okR2_ok H1 H5 (List.all_eq_true.mp k2 q hq)
        have k := lnA_ok (f0 := n0) (vals := valF (W1 ++ W2)) (r := 0) nol H5 no0 (vOK_nth hV) nor b1
        rw [k.2] at b2
        exact b2)
      obtain ⟨L, l1, l2⟩ := bindL_in e a ha
      obtain ⟨r, m1, σ', m2, m3, m4, m5, m6⟩ := altA_ok H1 (keepW H5 r3) hV haok l1
      refine ⟨r, l2 r m1, σ', v, h', g', m2, m3, r1, m5, m4, H2.up m3 m2, ⟨⟨r2, fun b k hb0 hb1 hn => ?_, fun b k hb0 hf => r3.2 b k hb0 (H3.1.2.2 b k hb0 hf)⟩, rR⟩, r4, m6⟩
      rw [r3.1 b k hb0 hb1 (fun q => hn (subW_ok k3 q))]
      exact H3.1.2.1 b k hb0 hb1 hn
  · cases e
theorem appKI {m : Nat} {σ : Nat → Int} {C : Cx} {av : List AV} {avs : List PV} {ov : OV} {h : PH} {g : PG} : ∀ {K : List Con} {rs : List Rt}, (∀ c ∈ K, conI R z c) → qSs σ (nV C) av avs → tH (IR R Wc h00) z Z σ C ov h g → appK Wc m C av ov K = some rs →
    ∃ r ∈ rs, ∃ σ' v h' g', AG (nV C) σ σ' ∧ nV C ≤ nV r.1 ∧ CALLD z m avs h g = some (v, h', g') ∧ qR σ' (nV r.1) r.2.1 v ∧ tH (IR R Wc h00) z Z σ' r.1 r.2.2 h' g'
  | [], _, _, _, _, e => by cases e
  | c :: K, rs, hK, hq, H, e => by
    unfold appK at e
    split at e
    · rename_i L hL
      cases e
      cases hm : Nat.beq c.1 m with
      | false => rw [hm] at hL; cases hL
      | true =>
        rw [hm] at hL
        have hm := Nat.eq_of_beq_eq_true hm
        subst hm
        exact appCI (hK c List.mem_cons_self) hq H hL
    · exact appKI (K := K) (fun d hd => hK d (List.mem_cons_of_mem _ hd)) hq H e
theorem runI_ok {P : RGt} (hP : tOK P (IR R Wc h00)) (K : List Con) (hK : ∀ c ∈ K, conI R z c) (T : Nat → AS → Option LpT) : ∀ (f m : Nat) (t : MT) (stops : List Nat) (fr : Bool) (A : AS) (L : List Oc), okT m t = true → runT P Z K Wc T f m t stops fr A = some L →
    ∀ (σ : Nat → Int) (c : Cfg), tA (IR R Wc h00) z Z σ A c → OUTT (IR R Wc h00) z Z m c (nV A.1) σ L := by
  intro f
  induction f with
  | zero => intro m t stops fr A L _ e; cases e
  | succ f ih =>
    intro m t stops fr A L hT e σ c hA
    rw [runT_succ] at e
    cases hst : (!fr && memN stops A.2.1) with
    | true =>
      rw [hst] at e
      cases e
      exact ⟨.inl A, List.mem_cons_self, σ, AG.rf, Nat.le_refl _, c, rfl, hA⟩
    | false =>
      rw [hst] at e
      simp only [cond_false] at e
      split at e
      · rename_i sp hsp
        refine loopT_ok hP (fun G L hG σ c hq => ?_) e hA
        obtain ⟨G', g1, g2, g3⟩ := splT_ok (m := m) hq
        obtain ⟨L1, l1, l2⟩ := bindL_in hG G' g1
        have k := ih m t _ true G' L1 hT l1 σ c g3
        rw [g2] at k
        exact k.sub l2
      · split at e
        · cases e
        · rename_i e6 he6
          obtain ⟨hd, hH⟩ := pI_ok hT he6
          obtain ⟨pc, l, s, h, g⟩ := c
          obtain ⟨C, pcA, ls, st, ov⟩ := A
          obtain ⟨q1, q2⟩ := hA
          have q1 : pcA = pc := q1
          subst q1
          have H : tHy (IR R Wc h00) z Z σ C ls st ov l s h g := q2
          simp only at e hd
          split at e
          · rename_i L1 hL1
            obtain ⟨B, b1, σ', c', b2, b3, b4, b5⟩ := stT_ok hP rfl hH H hL1
            obtain ⟨L2, d1, d2⟩ := bindL_in e B b1
            have k := ih m t stops false B L2 hT d1 σ' c' b4
            have hx : xsD z m (pcA, l, s, h, g) = some (.inl c') := by
              unfold xsD
              simp only
              rw [hd]
              exact b5
            exact (k.sub d2).pre (XCD_next z hx) b3 b2
          · split at e
            · rename_i q hq
              obtain ⟨avs, rests, x1, x2, x3, x4⟩ := callT_ok hd hH H hq
              have hres : ∀ rs : List Rt, (∃ r ∈ rs, ∃ σ' v h' g', AG (nV C) σ σ' ∧ nV C ≤ nV r.1 ∧ CALLD z q.1 avs h g = some (v, h', g') ∧ qR σ' (nV r.1) r.2.1 v ∧ tH (IR R Wc h00) z Z σ' r.1 r.2.2 h' g') →
                  bindL (fun r : Rt => runT P Z K Wc T f m t stops false (r.1, pcA + 3, ls, r.2.1.toList ++ q.2.2, r.2.2)) rs = some L → OUTT (IR R Wc h00) z Z m (pcA, l, s, h, g) (nV C) σ L := by
                intro rs hrs hb
                obtain ⟨r, r1, σ', v, h', g', r2, r3, r4, r5, r6⟩ := hrs
                obtain ⟨L2, d1, d2⟩ := bindL_in hb r r1
                have hq2 : tA (IR R Wc h00) z Z σ' (r.1, pcA + 3, ls, r.2.1.toList ++ q.2.2, r.2.2) (pcA + 3, l, v.toList ++ rests, h', g') := by
                  refine ⟨rfl, H.1.up r3 r2, ?_, r6⟩
                  match hr : r.2.1, v, r5 with
                  | none, none, _ => exact x3.up r3 r2
                  | some a, some w, k => exact ⟨k, x3.up r3 r2⟩
                  | none, some _, k => exact k.elim
                  | some _, none, k => exact k.elim
                have k := ih m t stops false _ L2 hT d1 σ' _ hq2
                unfold CALLD at r4
                split at r4
                · rename_i l0 hl0
                  exact (k.sub d2).pre (XCD_call z x1 hl0 r4) r3 r2
                · cases r4
              split at e
              · rename_i rs hrs
                refine hres rs ?_ e
                split at hrs
                · rename_i rs' hrs'
                  cases hrs
                  exact appKI hK x2 H.2.2 hrs'
                · split at hrs
                  · rename_i t' l0 ht' hl0
                    split at hrs
                    · rename_i L3 hL3
                      obtain ⟨l1, y1, y2⟩ := enA_ok x4 x2 hl0
                      have k := ih q.1 t' [] false (C, 0, l0, [], ov) L3 (pTm_ok ht') hL3 σ (0, l1, [], h, g) ⟨rfl, y2, trivial, H.2.2⟩
                      obtain ⟨o, o1, σ', o2, o3⟩ := k
                      obtain ⟨w, w1, w2⟩ := bindL_in hrs o o1
                      match o, o3, w1 with
                      | .inl B, _, w1 => cases w1
                      | .inr r, ⟨p1, v, h', g', p2, p3, p4⟩, w1 =>
                        cases w1
                        refine ⟨r, w2 r List.mem_cons_self, σ', v, h', g', o2, p1, ?_, p3, p4⟩
                        unfold CALLD
                        rw [y1]
                        exact p2
                    · cases hrs
                  · cases hrs
              · cases e
            · split at e
              · rename_i v hv
                cases e
                obtain ⟨v', x1, x2⟩ := retT_ok hd hH H hv
                exact ⟨_, List.mem_cons_self, σ, AG.rf, Nat.le_refl _, v', h, g, XCD_ret z x1, x2, H.2.2⟩
              · cases e
end RUNI
def chkCI (K : List Con) (T : Nat → AS → Option LpT) (f : Nat) (c : Con) : Bool := match entT c, pTm c.1 with
  | some A, some t => (match runT (PR c.2.2.2.2.2.1) none K c.2.2.2.2.2.1 T f c.1 t [] false A with
    | some L => L.all (fun o => match o with
      | .inl _ => false
      | .inr r => c.2.2.2.2.2.2.any (altM (enVs 0 (c.2.1.length + c.2.2.1.length)) r))
    | none => false)
  | _, _ => false
theorem chkI_ok {z : Int → Int} (hz : zOK z) {K : List Con} (hK : ∀ c ∈ K, conI RF z c) {T : Nat → AS → Option LpT} {f : Nat} {c : Con} (e : chkCI K T f c = true) : conI RF z c := by
  intro avs V1 V2 h g h1 h2 hB hR hg hf hr
  unfold chkCI at e
  split at e
  · rename_i A t hA ht
    obtain ⟨en, l0, e1, e2⟩ := entT_ok (I := IR RF c.2.2.2.2.2.1 h) hz h1 h2 ⟨⟨hB, FR.rf⟩, hR⟩ hg hf hr hA
    split at e
    · rename_i L hL
      obtain ⟨o, o1, σ', o2, o3⟩ := runI_ok (tOK_PR _ _) K hK T f c.1 t [] false A L (pTm_ok ht) hL _ _ e2
      have k := List.all_eq_true.mp e o o1
      match o, o3, k with
      | .inl _, _, k => cases k
      | .inr r, ⟨p1, v, h', g', p2, p3, p4⟩, k =>
        obtain ⟨a, a1, a2⟩ := List.any_eq_true.mp k
        have hV : vOK σ' (nV r.1) (enVs 0 (c.2.1.length + c.2.2.1.length)) (V1 ++ V2) := by
          have n1 := args_len h1
          have n2 := pre_len h2
          have k0 := enVs_ok (σ := valF (V1 ++ V2)) (n := nV A.1) (V := V1 ++ V2) (i := 0) (fun j _ => by rw [Nat.zero_add]) (by rw [List.length_append]; omega)
          rw [List.length_append, n1, n2] at k0
          exact k0.up p1 o2
        refine ⟨v, h', g', ?_, p4.2.2.1.1.1, p4.2.2.1.2, p4.2.2.1.1.2, p4.2.2.2.1, a, a1, altM_ok p4.1 p4.2.2.2.2 hV p3 a2⟩
        unfold CALLD
        rw [e1]
        exact p2
    · cases e
  · cases e
def chkSI (K : List Con) (T : Nat → AS → Option LpT) (f : Nat) (i : Nat) (c : Con) : Bool := match ivAt c.2.1 i with
  | some q => (List.range (q.2 - q.1 + 1).toNat).all (fun (t : Nat) => chkCI K T f (c.1, atI c.2.1 i (q.1 + (t : Int)), c.2.2))
  | none => false
theorem chkSI_ok {z : Int → Int} (hz : zOK z) {K : List Con} (hK : ∀ c ∈ K, conI RF z c) {T : Nat → AS → Option LpT} {f i : Nat} {c : Con} (e : chkSI K T f i c = true) : conI RF z c := by
  intro avs V1 V2 h g h1 h2 hB hR hg hf hr
  unfold chkSI at e
  split at e
  · rename_i q hq
    obtain ⟨t, t1, t2, t3⟩ := atI_ok h1 hq
    have k := List.all_eq_true.mp e (t - q.1).toNat (List.mem_range.mpr (by omega))
    rw [show q.1 + ((t - q.1).toNat : Int) = t from by omega] at k
    exact chkI_ok hz hK k avs V1 V2 h g t3 h2 hB hR hg hf hr
  · cases e
