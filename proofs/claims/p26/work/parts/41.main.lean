/-! ===== THE PLAIN MACHINE'S RUN IS THE MACHINE'S RUN: every method at once ===== -/
theorem ent_len : ∀ (ad : Int → Nat) (av : List PV), (lg_sl (av.map (mv ad))).length = (slotsOf av).length
  | _, [] => rfl
  | ad, v :: av => by
    have ih := ent_len ad av
    have e : lg_sl ((v :: av).map (mv ad)) = (if pcat v = 2 then [.val (mv ad v), .second] else [.val (mv ad v)]) ++ lg_sl (av.map (mv ad)) := by
      unfold lg_sl
      rw [List.map_cons, List.flatMap_cons, mv_cat]
    rw [e, List.length_append, ih]
    by_cases h : pcat v = 2
    · rw [if_pos h, show slotsOf (v :: av) = some v :: none :: slotsOf av from if_pos h]
      simp only [List.length_cons, List.length_nil]
      omega
    · rw [if_neg h, show slotsOf (v :: av) = some v :: slotsOf av from if_neg h]
      simp only [List.length_cons, List.length_nil]
      omega
theorem ent_at : ∀ (ad : Int → Nat) (av : List PV) (i : Nat) (v : PV), (slotsOf av)[i]? = some (some v) → (lg_sl (av.map (mv ad)))[i]? = some (.val (mv ad v))
  | _, [], i, v, h => by simp [slotsOf] at h
  | ad, w :: av, i, v, h => by
    have ih := ent_at ad av
    have e : lg_sl ((w :: av).map (mv ad)) = (if pcat w = 2 then [.val (mv ad w), .second] else [.val (mv ad w)]) ++ lg_sl (av.map (mv ad)) := by
      unfold lg_sl
      rw [List.map_cons, List.flatMap_cons, mv_cat]
    rw [e]
    unfold slotsOf at h
    by_cases h2 : pcat w = 2
    · rw [if_pos h2] at h ⊢
      match i, h with
      | 0, h => cases h; rfl
      | 1, h => cases h
      | i + 2, h => exact ih i v h
    · rw [if_neg h2] at h ⊢
      match i, h with
      | 0, h => cases h; rfl
      | i + 1, h => exact ih i v h
theorem ent_LR {ad : Int → Nat} {m : Nat} {av : List PV} {l0 : PL} (h : entryL m av = some l0) : LR ad (mL m) ((lg_sl (av.map (mv ad)) ++ List.replicate (mL m - (lg_sl (av.map (mv ad))).length) Slot.unset).toArray) l0 := by
  unfold entryL at h
  split at h
  · rename_i hl
    obtain rfl := Option.some.inj h
    have hl2 : (lg_sl (av.map (mv ad))).length ≤ mL m := by rw [ent_len]; exact hl
    have he := lv_entry (av.map (mv ad)) hl2
    refine ⟨he.1, by rw [List.length_append, List.length_replicate]; omega, he.2.1, fun i v hv => ?_⟩
    by_cases hi : i < (slotsOf av).length
    · rw [List.getElem?_append_left hi] at hv
      have h9 := ent_at ad av i v hv
      show (List.toArray _)[i]? = _
      rw [List.getElem?_toArray, List.getElem?_append_left (by rw [ent_len]; exact hi)]
      exact h9
    · rw [List.getElem?_append_right (by omega)] at hv
      obtain ⟨h8, h9⟩ := List.getElem?_eq_some_iff.mp hv
      rw [List.getElem_replicate] at h9
      cases h9
  · cases h
theorem doCall_spec {ks : List Nat} {mm o i pc : Nat} {ls : PL} {st : List PV} {h : PH} {g : PG} {q : (Nat × List PV × Cfg) ⊕ Out} (hx : doCall ks mm o i pc ls st h g = some (.inr q)) :
    ∃ m' b av rest, mthT o i = some (m', b) ∧ m' < nMeth ∧ mF m' + 1 ≤ mF mm ∧ 8 + (mL m' + 11) + mW m' ≤ mW mm ∧ mK m' ∈ ks ∧ pcats rest ≤ 8 ∧ q = .inl (m', av, (pc + 3, ls, rest, h, g)) ∧
      ((mK m' = 1 ∧ av.length = mN m' ∧ st = av.reverse ++ rest) ∨ ∃ a r, av = .inr (.inr a) :: r ∧ r.length + 1 = mN m' ∧ st = r.reverse ++ .inr (.inr a) :: rest ∧ (mK m' = 0 → isRecv a m' g.1 = true)) := by
  unfold doCall at hx
  split at hx
  · rename_i m' b hm
    split at hx
    · rename_i h1
      obtain ⟨h1, h2, h3, h4, h5, h6⟩ := h1
      have hlen : (st.take (mN m')).length = mN m' := by rw [List.length_take]; omega
      split at hx
      · rename_i a r hr
        split at hx
        · cases hx
        · rename_i hn
          cases hx
          have e1 : st.take (mN m') = (.inr (.inr a) :: r).reverse := by rw [← hr, List.reverse_reverse]
          have e2 : (.inr (.inr a) :: r : List PV).length = mN m' := by rw [← hr, List.length_reverse]; exact hlen
          refine ⟨m', b, _, _, hm, h1, h2, h3, h4, h6, rfl, Or.inr ⟨a, r, rfl, by simpa using e2, ?_, fun h0 => ?_⟩⟩
          · have e3 := List.take_append_drop (mN m') st
            rw [e1, List.reverse_cons, List.append_assoc] at e3
            exact e3.symm
          · cases hb : isRecv a m' g.1 with
            | true => rfl
            | false => exact absurd ⟨h0, hb⟩ hn
      · rename_i hr
        split at hx
        · rename_i hk
          cases hx
          refine ⟨m', b, _, _, hm, h1, h2, h3, h4, h6, rfl, Or.inl ⟨hk, by rw [List.length_reverse]; exact hlen, ?_⟩⟩
          rw [List.reverse_reverse]
          exact (List.take_append_drop (mN m') st).symm
        · cases hx
    · cases hx
  · cases hx
theorem nar_b {v : Int} (h : -128 ≤ v ∧ v ≤ 127) : narrow .byte (.int (Int32.ofInt v)) = .int (Int32.ofInt v) := by
  show Value.int (Int32.ofInt v).toInt8.toInt32 = _
  refine congrArg Value.int (Int32.toInt_inj.mp ?_)
  have e1 : (Int32.ofInt v).toInt = v := e_small (by omega) (by omega)
  have e2 : (Int32.ofInt v).toInt8 = Int8.ofInt v := by simp
  rw [e2, Int8.toInt32_ofInt (by rw [show Int8.minValue.toInt = -128 from by decide]; exact h.1) (by rw [show Int8.maxValue.toInt = 127 from by decide]; exact h.2)]
section MAIN
variable (base : Nat) (ad : Int → Nat) (z : Int → Int) (cA : Nat → ClassId) (D : va_G) (l : Launch)
def FRp (f : Nat) : Prop := ∀ (mi : Nat) (k : Cfg) (o : Out), ex z f mi k = some o →
  ∀ (n0 : Nat) (p : Program) (e : Env) (R : Room) (s : State) (m : MethodId) (args : Array Value) (below : List Frame) (meth : Method) (c : Code) (Q : State → Prop), k.2.2.2.2.1 ≤ o.2.2.1 ∧ (k.2.2.2.2.1 ≤ nCell → o.2.2.1 ≤ nCell) ∧ (FO base ad z cA D p s m args meth c mi → RoomOK R mi n0 o.2.2.1 → n0 ≤ k.2.2.2.2.1 → k.2.2.2.2.1 ≤ nCell →
    (∀ (pc : Nat) (ls : PL) (st : List PV) (h : PH) (g : PG), xs z mi (pc, ls, st, h, g) = some (.inr (.inr o)) → n0 ≤ g.1 → WG base ad cA D n0 mi p l e R s m args below meth c Q (pc, ls, st, h, g)) → WG base ad cA D n0 mi p l e R s m args below meth c Q k)
def MTp (f : Nat) : Prop := ∀ (m' : Nat) (av : List PV) (h : PH) (g : PG) (v : Option PV) (h' : PH) (g' : PG) (l0 : PL), m' < nMeth → entryL m' av = some l0 → ex z f m' (0, l0, [], h, g) = some (v, h', g') → g.1 ≤ nCell →
  Met l (mY m') (wsM m') (rmM m' (g'.1 - g.1) (sl g'.1 - sl g.1)) (PcM base ad z cA D av h g) (QcM base ad cA D v h' g') (g'.1 - g.1) (sl g'.1 - sl g.1) (ZA base)

variable {base ad z cA D l}
theorem ret_met {m' : Nat} (hm1 : m' < nMeth) {v : Option PV} {h' : PH} {g' : PG} {n0 : Nat} {p : Program} {e : Env} {R : Room} {s : State} {m : MethodId} {args : Array Value} {below : List Frame} {meth : Method} {c : Code}
    (F : FO base ad z cA D p s m args meth c m') {pc : Nat} {ls : PL} {st : List PV} {h : PH} {g : PG} (hx : xs z m' (pc, ls, st, h, g) = some (.inr (.inr (v, h', g')))) (hn : n0 ≤ g.1) :
    WG base ad cA D n0 m' p l e R s m args below meth c (MQ below (QcM base ad cA D v h' g') args s (g'.1 - n0) (sl g'.1 - sl n0) (ZA base)) (pc, ls, st, h, g) := by
  unfold xs at hx
  split at hx
  · rename_i i len hd
    intro H locs l9 hH hS hL
    have hq : ∀ (w : Option PV), v = w → h' = h → g' = g → ∀ t : State, t.heap = H → s.WarmedH t.vm → QcM base ad cA D v h' g' args s (.returned (w.map (mv ad))) t := by
      intro w e1 e2 e3 t ht _
      subst e1; subst e2; subst e3
      exact ⟨rfl, by rw [ht]; exact hH, hS.F ht⟩
    rcases xi_inr hx with ⟨j, -, -, h9⟩ | ⟨j, -, -, h9⟩ | ⟨j, -, -, h9⟩ | ⟨rfl, rfl, h9⟩ | ⟨rfl, rfl, h9⟩ | ⟨rfl, rfl, h9⟩
    · obtain ⟨_, _, _, _, _, _, _, _, _, _, hq9, _⟩ := doCall_spec h9
      cases hq9
    · obtain ⟨_, _, _, _, _, _, _, _, _, _, hq9, _⟩ := doCall_spec h9
      cases hq9
    · obtain ⟨_, _, _, _, _, _, _, _, _, _, hq9, _⟩ := doCall_spec h9
      cases hq9
    · replace h9 : retI m' st h g = some (.inr (.inr (v, h', g'))) := h9
      unfold retI at h9
      split at h9
      · rename_i x
        split at h9
        · rename_i hr
          cases h9
          exact W.iret F.1 F.2.1 (F.2.2.2.2.2.2.2.1.trans hr) (hq (some (.inl x)) rfl rfl rfl) hS.2.2 hd F.2.2.2.2.2.2.1
        · rename_i hr
          split at h9
          · rename_i hb
            cases h9
            refine W.zret F.1 F.2.1 (F.2.2.2.2.2.2.2.1.trans hr) ?_ (hq (some (.inl x)) rfl rfl rfl) hS.2.2 hd F.2.2.2.2.2.2.1
            rcases hb with rfl | rfl
            · rfl
            · rfl
          · cases h9
        · rename_i hr
          split at h9
          · rename_i hb
            cases h9
            exact W.zret F.1 F.2.1 (F.2.2.2.2.2.2.2.1.trans hr) (nar_c hb) (hq (some (.inl x)) rfl rfl rfl) hS.2.2 hd F.2.2.2.2.2.2.1
          · cases h9
        · rename_i hr
          split at h9
          · rename_i hb
            cases h9
            exact W.zret F.1 F.2.1 (F.2.2.2.2.2.2.2.1.trans hr) (nar_b hb) (hq (some (.inl x)) rfl rfl rfl) hS.2.2 hd F.2.2.2.2.2.2.1
          · cases h9
        · cases h9
      · cases h9
    · replace h9 : retL m' st h g = some (.inr (.inr (v, h', g'))) := h9
      unfold retL at h9
      split at h9
      · rename_i x
        split at h9
        · rename_i hr
          cases h9
          exact W.lret F.1 F.2.1 (F.2.2.2.2.2.2.2.1.trans hr) (hq (some (.inr (.inl x))) rfl rfl rfl) hS.2.2 hd F.2.2.2.2.2.2.1
        · cases h9
      · cases h9
    · replace h9 : retV m' st h g = some (.inr (.inr (v, h', g'))) := h9
      unfold retV at h9
      split at h9
      · split at h9
        · rename_i hr
          cases h9
          exact W.vret F.1 F.2.1 (F.2.2.2.2.2.2.2.1.trans hr) (hq none rfl rfl rfl) hS.2.2 hd F.2.2.2.2.2.2.1
        · cases h9
      · cases h9
  · cases hx
theorem MT_of (had : AdOK base ad) {f : Nat} (hf : FRp base ad z cA D l f) : MTp base ad z cA D l f := by
  intro m' av h g v h' g' l0 hm1 hl hx hgn
  obtain ⟨d1, d2, d3, d4, d5, d6, d7⟩ := md_get hm1
  refine Met.ofW (cc := mC m') (maxL := mL m') (ret := mR m') d4 rfl ?_
  intro p e s m args below meth c s₁ B hml hP
  obtain ⟨rfl, hH, hKB, hbs⟩ := hP
  have hts := atoms_spec (ws := wsM m') B.pre
  have F : FO base ad z cA D p s m (av.map (mv ad)).toArray meth c m' := ⟨B.exec, B.bytes, hml, by rw [← d5]; exact findClass_of_methodNamed B.named, fun w hw => hts w (List.mem_cons_of_mem _ hw), hKB, B.notSynchronized, B.returns, fun hk => (name_of_methodNamed B.named B.method).1.trans (d6.mp hk), had, hbs⟩
  rw [lg_entry_eq]
  have k := (hf m' _ _ hx g.1 p e (rmM m' (g'.1 - g.1) (sl g'.1 - sl g.1)) s m (av.map (mv ad)).toArray below meth c (MQ below (QcM base ad cA D v h' g') (av.map (mv ad)).toArray s (g'.1 - g.1) (sl g'.1 - sl g.1) (ZA base))).2.2 F ⟨Nat.le_refl _, Nat.le_refl _, Nat.le_refl _, Nat.le_refl _⟩ (Nat.le_refl _) hgn (fun pc ls st h g hx hn => ret_met hm1 F hx hn) s.heap [] _ hH va_S.rf (ent_LR hl)
  have e1 : g.1 - g.1 = 0 := Nat.sub_self _
  have e2 : sl g.1 - sl g.1 = 0 := Nat.sub_self _
  have k2 : W p l e (rmM m' (g'.1 - g.1) (sl g'.1 - sl g.1)) s m (av.map (mv ad)).toArray below meth c s.heap [] (g.1 - g.1) (sl g.1 - sl g.1) (MQ below (QcM base ad cA D v h' g') (av.map (mv ad)).toArray s (g'.1 - g.1) (sl g'.1 - sl g.1) (ZA base)) (F0 m 0 ((lg_sl (av.map (mv ad)) ++ List.replicate (mL m' - (lg_sl (av.map (mv ad))).length) Slot.unset).toArray) []) := k
  rw [e1, e2] at k2
  exact k2
theorem FR_all (had : AdOK base ad) (hz : 0 ≤ z (-1)) : ∀ f, FRp base ad z cA D l f := by
  intro f
  induction f with
  | zero => intro mi k o hx; simp [ex] at hx
  | succ f ih =>
    intro mi k o hx n0 p e R s m args below meth c Q
    rw [ex] at hx
    cases he : xs z mi k with
    | none => rw [he] at hx; cases hx
    | some r =>
      rw [he] at hx
      rcases r with k' | ⟨m', av, k'⟩ | o'
      · obtain ⟨i1, i2, i3⟩ := ih mi k' o hx n0 p e R s m args below meth c Q
        obtain ⟨pc, ls, st, h, g⟩ := k
        unfold xs at he
        split at he
        · rename_i i len hd
          obtain ⟨j1, j2, j3⟩ := xi_next (base := base) (ad := ad) (cA := cA) (D := D) (n0 := n0) (p := p) (l := l) (e := e) (R := R) (s := s) (m := m) (args := args) (below := below) (meth := meth) (c := c) (Q := Q) hz hd he
          refine ⟨Nat.le_trans j1 i1, fun q => i2 (j2 q), fun F r9 n9 hgn hret => ?_⟩
          have hk' := j2 hgn
          have ho' := i2 hk'
          have hm := sl_mono i1 ho'
          exact j3 F ⟨r9.1, r9.2.1, by have := r9.2.2.1; omega, by have := r9.2.2.2; omega⟩ n9 (i3 F r9 (Nat.le_trans n9 j1) hk' hret)
        · cases he
      · simp only at hx
        cases hl : entryL m' av with
        | none => rw [hl] at hx; cases hx
        | some l0 =>
          rw [hl] at hx
          simp only at hx
          cases hc : ex z f m' (0, l0, [], k'.2.2.2.1, k'.2.2.2.2) with
          | none => rw [hc] at hx; cases hx
          | some q =>
            rw [hc] at hx
            obtain ⟨v, h', g'⟩ := q
            simp only at hx
            obtain ⟨i1, i2, i3⟩ := ih mi _ o hx n0 p e R s m args below meth c Q
            obtain ⟨c1, c2, -⟩ := ih m' _ _ hc n0 p e R s m args below meth c Q
            obtain ⟨pc, ls, st, h, g⟩ := k
            unfold xs at he
            split at he
            · rename_i i len hd
              have key : ∀ ks j, doCall ks mi (mO mi) j pc ls st h g = some (.inr (.inl (m', av, k'))) → ∃ b rest, mthT (mO mi) j = some (m', b) ∧ m' < nMeth ∧ mF m' + 1 ≤ mF mi ∧ 8 + (mL m' + 11) + mW m' ≤ mW mi ∧ mK m' ∈ ks ∧ pcats rest ≤ 8 ∧ k' = (pc + 3, ls, rest, h, g) ∧ ((mK m' = 1 ∧ av.length = mN m' ∧ st = av.reverse ++ rest) ∨ ∃ a r, av = .inr (.inr a) :: r ∧ r.length + 1 = mN m' ∧ st = r.reverse ++ .inr (.inr a) :: rest ∧ (mK m' = 0 → isRecv a m' g.1 = true)) := by
                intro ks j h9
                obtain ⟨m2, b, av2, rest, a1, a2, a3, a4, a5, a6, a7, a8⟩ := doCall_spec h9
                cases a7
                exact ⟨b, rest, a1, a2, a3, a4, a5, a6, rfl, a8⟩
              have hk5 : k' = (pc + 3, ls, k'.2.2.1, h, g) := by
                rcases xi_inr he with ⟨j, -, -, h9⟩ | ⟨j, -, -, h9⟩ | ⟨j, -, -, h9⟩ | ⟨-, -, h9⟩ | ⟨-, -, h9⟩ | ⟨-, -, h9⟩
                · obtain ⟨b, rest, a1, a2, a3, a4, a5, a6, a7, a8⟩ := key _ _ h9
                  rw [a7]
                · obtain ⟨b, rest, a1, a2, a3, a4, a5, a6, a7, a8⟩ := key _ _ h9
                  rw [a7]
                · obtain ⟨b, rest, a1, a2, a3, a4, a5, a6, a7, a8⟩ := key _ _ h9
                  rw [a7]
                · unfold retI at h9
                  repeat' (split at h9)
                  all_goals cases h9
                · unfold retL at h9
                  repeat' (split at h9)
                  all_goals cases h9
                · unfold retV at h9
                  repeat' (split at h9)
                  all_goals cases h9
              have hg5 : k'.2.2.2.2 = g := by rw [hk5]
              rw [hg5] at c1 c2 hc
              have hh5 : k'.2.2.2.1 = h := by rw [hk5]
              rw [hh5] at hc
              refine ⟨Nat.le_trans c1 i1, fun q => i2 (c2 q), fun F r9 n9 hgn hret => ?_⟩
              have hg' := c2 hgn
              have ho' := i2 hg'
              have hm := sl_mono i1 ho'
              have kk := i3 F r9 (Nat.le_trans n9 c1) hg' hret
              have r1 : g'.1 - n0 ≤ R.cells := by have := r9.2.2.1; have := i1; show g'.1 - n0 ≤ _; simp only at *; omega
              have r2 : sl g'.1 - sl n0 ≤ R.slots := by have := r9.2.2.2; simp only at *; omega
              rcases xi_inr he with ⟨j, rfl, rfl, h9⟩ | ⟨j, rfl, rfl, h9⟩ | ⟨j, rfl, rfl, h9⟩ | ⟨-, -, h9⟩ | ⟨-, -, h9⟩ | ⟨-, -, h9⟩
              · obtain ⟨b, rest, a1, a2, a3, a4, a5, a6, a7, a8⟩ := key _ _ h9
                have hk0 : mK m' = 0 := by simpa using a5
                have hM := MT_of had ih m' av h g v h' g' l0 a2 hl hc hgn
                subst a7
                rcases a8 with ⟨q1, -⟩ | ⟨a, r, rfl, b2, b3, b4⟩
                · omega
                · exact s_callV F hd a1 hk0 (b4 hk0) b2 b3 a6 (Nat.le_trans a3 r9.1) (Nat.le_trans a4 r9.2.1) n9 c1 hg' r1 r2 hM kk
              · obtain ⟨b, rest, a1, a2, a3, a4, a5, a6, a7, a8⟩ := key _ _ h9
                have hk0 : mK m' = 1 := by simpa using a5
                have hM := MT_of had ih m' av h g v h' g' l0 a2 hl hc hgn
                subst a7
                rcases a8 with ⟨q1, q2, q3⟩ | ⟨a, r, rfl, b2, b3, b4⟩
                · exact s_callS F hd a1 hk0 q2 q3 a6 (Nat.le_trans a3 r9.1) (Nat.le_trans a4 r9.2.1) n9 c1 hg' r1 r2 hM kk
                · exact s_callS F hd a1 hk0 (by simpa using b2) (by rw [b3, List.reverse_cons, List.append_assoc]; rfl) a6 (Nat.le_trans a3 r9.1) (Nat.le_trans a4 r9.2.1) n9 c1 hg' r1 r2 hM kk
              · obtain ⟨b, rest, a1, a2, a3, a4, a5, a6, a7, a8⟩ := key _ _ h9
                have hk0 : mK m' = 2 := by simpa using a5
                have hM := MT_of had ih m' av h g v h' g' l0 a2 hl hc hgn
                subst a7
                rcases a8 with ⟨q1, -⟩ | ⟨a, r, rfl, b2, b3, b4⟩
                · omega
                · exact s_callI F hd a1 hk0 b2 b3 a6 (Nat.le_trans a3 r9.1) (Nat.le_trans a4 r9.2.1) n9 c1 hg' r1 r2 hM kk
              · unfold retI at h9
                repeat' (split at h9)
                all_goals cases h9
              · unfold retL at h9
                repeat' (split at h9)
                all_goals cases h9
              · unfold retV at h9
                repeat' (split at h9)
                all_goals cases h9
            · cases he
      · have ho : o' = o := Option.some.inj hx
        subst ho
        obtain ⟨pc, ls, st, h, g⟩ := k
        have hg : o'.2.2 = g := by
          have he2 := he
          unfold xs at he2
          split at he2
          · rcases xi_inr he2 with ⟨j, -, -, h9⟩ | ⟨j, -, -, h9⟩ | ⟨j, -, -, h9⟩ | ⟨-, -, h9⟩ | ⟨-, -, h9⟩ | ⟨-, -, h9⟩
            · obtain ⟨_, _, _, _, _, _, _, _, _, _, hq9, _⟩ := doCall_spec h9
              cases hq9
            · obtain ⟨_, _, _, _, _, _, _, _, _, _, hq9, _⟩ := doCall_spec h9
              cases hq9
            · obtain ⟨_, _, _, _, _, _, _, _, _, _, hq9, _⟩ := doCall_spec h9
              cases hq9
            · unfold retI at h9
              repeat' (split at h9)
              all_goals (first | (cases h9; rfl) | cases h9)
            · unfold retL at h9
              repeat' (split at h9)
              all_goals (first | (cases h9; rfl) | cases h9)
            · unfold retV at h9
              repeat' (split at h9)
              all_goals (first | (cases h9; rfl) | cases h9)
          · cases he2
        refine ⟨by rw [hg]; exact Nat.le_refl _, fun q => by rw [hg]; exact q, fun F r9 n9 hgn hret => hret pc ls st h g he n9⟩
end MAIN
