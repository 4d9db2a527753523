/-! ===== the flagged machine leaves the slots of references alone ===== -/
def gO : SR → PG
  | .inl c => c.2.2.2.2
  | .inr (.inl q) => q.2.2.2.2.2.2
  | .inr (.inr o) => o.2.2
theorem HF_g {X : PH → PG → Option SR} (hX : HF X) {h : PH} {g : PG} {r : SR} (e : X h g = some r) : gO r = g := by
  obtain ⟨pc, ls, st, rfl, k⟩ := hX h g r e
  rfl
theorem aldI_g {z : Int → Int} {k pc : Nat} {ls : PL} {st : List PV} {h : PH} {g : PG} {r : SR} (e : aldI z k pc ls st h g = some r) : gO r = g := by
  unfold aldI at e
  split at e
  · split at e
    · cases e; rfl
    · cases e
  · cases e
theorem aldL_g {pc : Nat} {ls : PL} {st : List PV} {h : PH} {g : PG} {r : SR} (e : aldL pc ls st h g = some r) : gO r = g := by
  unfold aldL at e
  split at e
  · split at e
    · cases e; rfl
    · cases e
  · cases e
theorem getF_g {o i pc : Nat} {ls : PL} {st : List PV} {h : PH} {g : PG} {r : SR} (e : getF o i pc ls st h g = some r) : gO r = g := by
  unfold getF at e
  split at e
  · split at e
    · split at e
      · split at e
        · cases e; rfl
        · split at e
          · split at e
            · cases e; rfl
            · cases e
          · split at e
            · split at e
              · cases e; rfl
              · cases e
            · cases e
      · cases e
    · split at e
      · split at e
        · cases e; rfl
        · split at e
          · cases e; rfl
          · cases e
      · cases e
  · cases e
theorem mapH_g {f : PH → PH} {x : Option SR} {r : SR} {g : PG} (hx : ∀ r', x = some r' → gO r' = g) (e : mapH f x = some r) : gO r = g := by
  obtain ⟨pc, ls, st, h, g2, e1, rfl⟩ := mapH_some e
  have k := hx _ e1
  exact k
theorem astI_g {f : PH → PH} {k pc : Nat} {ok : Int → Bool} {ls : PL} {st : List PV} {h : PH} {g : PG} {r : SR} (e : mapH f (astI k ok pc ls st h g) = some r) : gO r = g := by
  refine mapH_g (fun r' e => ?_) e
  unfold astI at e
  split at e
  · split at e
    · cases e; rfl
    · cases e
  · cases e
theorem astL_g {f : PH → PH} {pc : Nat} {ls : PL} {st : List PV} {h : PH} {g : PG} {r : SR} (e : mapH f (astL pc ls st h g) = some r) : gO r = g := by
  refine mapH_g (fun r' e => ?_) e
  unfold astL at e
  split at e
  · split at e
    · cases e; rfl
    · cases e
  · cases e
theorem putF_g {f : PH → PH} {ini : Bool} {o i pc c k w : Nat} {ls : PL} {st : List PV} {h : PH} {g : PG} {r : SR} (hf : fldT o i = some (c, k, w)) (h1 : Nat.beq (fty c k) 1 = false) (e : mapH f (putF ini o i pc ls st h g) = some r) : gO r = g := by
  refine mapH_g (fun r' e => ?_) e
  unfold putF at e
  rw [hf] at e
  simp only at e
  split at e
  · split at e
    · cases e; rfl
    · cases e
  · split at e
    · rw [if_neg (fun q => by rw [q.1] at h1; cases h1)] at e
      split at e
      · cases e; rfl
      · cases e
    · cases e
  · cases e
theorem doCall_g {ks : List Nat} {mm o i pc : Nat} {ls : PL} {st : List PV} {h : PH} {g : PG} {r : SR} (e : doCall ks mm o i pc ls st h g = some r) : gO r = g := by
  unfold doCall at e
  split at e
  · split at e
    · split at e
      · split at e
        · cases e
        · cases e; rfl
      · split at e
        · cases e; rfl
        · cases e
    · cases e
  · cases e
theorem blt_g {mm o i pc : Nat} {ls : PL} {st : List PV} {h : PH} {g : PG} {r : SR} (e : doBlt mm o i pc ls st h g = some r) : gO r = g := by
  unfold doBlt at e
  split at e
  · split at e
    · split at e
      · split at e
        · cases e; rfl
        · cases e
      · cases e
    · split at e
      · split at e
        · cases e; rfl
        · cases e
      · cases e
    · split at e
      · split at e
        · cases e; rfl
        · cases e
      · cases e
    · split at e
      · split at e
        · cases e; rfl
        · cases e
      · cases e
    · cases e
  · cases e
theorem retI_g {m : Nat} {st : List PV} {h : PH} {g : PG} {r : SR} (e : retI m st h g = some r) : gO r = g := by
  unfold retI at e
  split at e
  · split at e
    · cases e; rfl
    · split at e
      · cases e; rfl
      · cases e
    · split at e
      · cases e; rfl
      · cases e
    · split at e
      · cases e; rfl
      · cases e
    · cases e
  · cases e
theorem retL_g {m : Nat} {st : List PV} {h : PH} {g : PG} {r : SR} (e : retL m st h g = some r) : gO r = g := by
  unfold retL at e
  split at e
  · split at e
    · cases e; rfl
    · cases e
  · cases e
theorem retV_g {m : Nat} {st : List PV} {h : PH} {g : PG} {r : SR} (e : retV m st h g = some r) : gO r = g := by
  unfold retV at e
  split at e
  · split at e
    · cases e; rfl
    · cases e
  · cases e
theorem xiD_g {z : Int → Int} {m len pc : Nat} {i : Instr} {ls : PL} {st : List PV} {h : PH} {g : PG} {r : SR} (e : xiD z m i len pc ls st h g = some r) : gO r = g := by
  cases i
  case pop  => exact HF_g (HF_if (HF_pop1 _ _ _) HF_none) e
  case pop2  => exact HF_g (HF_if (HF_pop22 _ _ _) HF_none) e
  case iconst x => exact HF_g (HF_if (HF_nx _ _ _) HF_none) e
  case bipush x => exact HF_g (HF_if (HF_nx _ _ _) HF_none) e
  case sipush x => exact HF_g (HF_if (HF_nx _ _ _) HF_none) e
  case lconst x => exact HF_g (HF_if (HF_nx _ _ _) HF_none) e
  case iload_n x => exact HF_g (HF_if (HF_ldv _ _ _ _ _ _) HF_none) e
  case iload x => exact HF_g (HF_if (HF_ldv _ _ _ _ _ _) HF_none) e
  case istore_n x => exact HF_g (HF_if (HF_stv _ _ _ _ _ _) HF_none) e
  case istore x => exact HF_g (HF_if (HF_stv _ _ _ _ _ _) HF_none) e
  case lload_n x => exact HF_g (HF_if (HF_ldv _ _ _ _ _ _) HF_none) e
  case lload x => exact HF_g (HF_if (HF_ldv _ _ _ _ _ _) HF_none) e
  case lstore_n x => exact HF_g (HF_if (HF_stv _ _ _ _ _ _) HF_none) e
  case lstore x => exact HF_g (HF_if (HF_stv _ _ _ _ _ _) HF_none) e
  case aload_n x => exact HF_g (HF_if (HF_ldv _ _ _ _ _ _) HF_none) e
  case aload x => exact HF_g (HF_if (HF_ldv _ _ _ _ _ _) HF_none) e
  case astore_n x => exact HF_g (HF_if (HF_stv _ _ _ _ _ _) HF_none) e
  case astore x => exact HF_g (HF_if (HF_stv _ _ _ _ _ _) HF_none) e
  case iinc x y => exact HF_g (HF_if (HF_iinc _ _ _ _ _) HF_none) e
  case iadd  => exact HF_g (HF_if (HF_bI _ _ _ _) HF_none) e
  case isub  => exact HF_g (HF_if (HF_bI _ _ _ _) HF_none) e
  case imul  => exact HF_g (HF_if (HF_bI _ _ _ _) HF_none) e
  case iand  => exact HF_g (HF_if (HF_bI _ _ _ _) HF_none) e
  case ior  => exact HF_g (HF_if (HF_bI _ _ _ _) HF_none) e
  case ixor  => exact HF_g (HF_if (HF_bI _ _ _ _) HF_none) e
  case ishl  => exact HF_g (HF_if (HF_bI _ _ _ _) HF_none) e
  case ishr  => exact HF_g (HF_if (HF_bI _ _ _ _) HF_none) e
  case iushr  => exact HF_g (HF_if (HF_bI _ _ _ _) HF_none) e
  case idiv  => exact HF_g (HF_if (HF_qI _ _ _ _) HF_none) e
  case irem  => exact HF_g (HF_if (HF_qI _ _ _ _) HF_none) e
  case ineg  => exact HF_g (HF_if (HF_uI _ _ _ _) HF_none) e
  case i2b  => exact HF_g (HF_if (HF_uI _ _ _ _) HF_none) e
  case i2c  => exact HF_g (HF_if (HF_uI _ _ _ _) HF_none) e
  case i2l  => exact HF_g (HF_if (HF_i2lI _ _ _) HF_none) e
  case l2i  => exact HF_g (HF_if (HF_l2iI _ _ _) HF_none) e
  case ladd  => exact HF_g (HF_if (HF_bL _ _ _ _) HF_none) e
  case lsub  => exact HF_g (HF_if (HF_bL _ _ _ _) HF_none) e
  case lmul  => exact HF_g (HF_if (HF_bL _ _ _ _) HF_none) e
  case ldiv  => exact HF_g (HF_if (HF_qL _ _ _ _) HF_none) e
  case lrem  => exact HF_g (HF_if (HF_qL _ _ _ _) HF_none) e
  case lneg  => exact HF_g (HF_if (HF_negL _ _ _) HF_none) e
  case lcmp  => exact HF_g (HF_if (HF_lcmpI _ _ _) HF_none) e
  case dup  => exact HF_g (HF_if (HF_dup1 _ _ _) HF_none) e
  case dup2  => exact HF_g (HF_if (HF_dup2 _ _ _) HF_none) e
  case dup_x1  => exact HF_g (HF_if (HF_dupx _ _ _) HF_none) e
  case goto o => exact HF_g (HF_if (HF_jmp _ _ _ _) HF_none) e
  case ifCond c o =>
    have hX : HF (fun h g => xi z m (.ifCond c o) len pc ls st h g) := by
      unfold xi
      simp only
      refine HF_if ?_ HF_none
      split
      · exact HF_jc _ _ _ _ _ _ _
      · exact HF_none
    exact HF_g hX e
  case if_icmp c o =>
    have hX : HF (fun h g => xi z m (.if_icmp c o) len pc ls st h g) := by
      unfold xi
      simp only
      refine HF_if ?_ HF_none
      split
      · exact HF_jc _ _ _ _ _ _ _
      · exact HF_none
    exact HF_g hX e
  case tableswitch d lo hi os => exact HF_g (HF_tsw _ _ _ _ _ _ _) e
  case lookupswitch d ps => exact HF_g (HF_lsw _ _ _ _ _) e
  case arraylength  => exact HF_g (HF_if (HF_alenI _ _ _ _) HF_none) e
  case aaload  => exact HF_g (HF_if (HF_aldR _ _ _) HF_none) e
  case getstatic k => exact HF_g (HF_if (HF_getS _ _ _ _ _) HF_none) e
  case iaload =>
    unfold xiD at e
    simp only at e
    split at e
    · rename_i i a s0
      cases hr : rdk h a (w32 i) with
      | false => rw [hr] at e; cases e
      | true =>
        rw [hr] at e
        simp only [cond_true] at e
        unfold xi at e
        simp only at e
        split at e
        · rename_i hl
          exact aldI_g e
        · cases e
    · cases e
  case caload =>
    unfold xiD at e
    simp only at e
    split at e
    · rename_i i a s0
      cases hr : rdk h a (w32 i) with
      | false => rw [hr] at e; cases e
      | true =>
        rw [hr] at e
        simp only [cond_true] at e
        unfold xi at e
        simp only at e
        split at e
        · rename_i hl
          exact aldI_g e
        · cases e
    · cases e
  case baload =>
    unfold xiD at e
    simp only at e
    split at e
    · rename_i i a s0
      cases hr : rdk h a (w32 i) with
      | false => rw [hr] at e; cases e
      | true =>
        rw [hr] at e
        simp only [cond_true] at e
        unfold xi at e
        simp only at e
        split at e
        · rename_i hl
          exact aldI_g e
        · cases e
    · cases e
  case laload =>
    unfold xiD at e
    simp only at e
    split at e
    · rename_i i a s0
      cases hr : rdk h a (w32 i) with
      | false => rw [hr] at e; cases e
      | true =>
        rw [hr] at e
        simp only [cond_true] at e
        unfold xi at e
        simp only at e
        split at e
        · rename_i hl
          exact aldL_g e
        · cases e
    · cases e
  case getfield k =>
    unfold xiD at e
    simp only at e
    split at e
    · rename_i a s0
      split at e
      · rename_i c f w hf
        cases hr : rdk h a f with
        | false => rw [hr] at e; cases e
        | true =>
          rw [hr] at e
          simp only [cond_true] at e
          unfold xi at e
          simp only at e
          split at e
          · rename_i hl
            exact getF_g e
          · cases e
      · rename_i hf
        unfold xi at e
        simp only at e
        split at e
        · rename_i hl
          exact getF_g e
        · cases e
    · cases e
  case iastore =>
    unfold xiD at e
    simp only at e
    split at e
    · unfold xi at e
      simp only at e
      split at e
      · rename_i hl
        exact astI_g e
      · cases e
    · cases e
  case lastore =>
    unfold xiD at e
    simp only at e
    split at e
    · unfold xi at e
      simp only at e
      split at e
      · rename_i hl
        exact astL_g e
      · cases e
    · cases e
  case putfield k =>
    unfold xiD at e
    simp only at e
    split at e
    · split at e
      · rename_i c f w hf
        cases h1 : Nat.beq (fty c f) 1 with
        | true => rw [h1] at e; cases e
        | false =>
          rw [h1] at e
          simp only [cond_false] at e
          unfold xi at e
          simp only at e
          split at e
          · rename_i hl
            exact putF_g hf h1 e
          · cases e
      · cases e
    · cases e
  case invokevirtual k => exact (by
    unfold xiD at e
    simp only at e
    unfold xi at e
    simp only at e
    split at e
    · rename_i hl
      exact doCall_g e
    · cases e)
  case invokestatic k =>
    unfold xiD at e
    simp only at e
    cases hb : decide (bltT (mO m) k = some 2) with
    | true =>
      rw [hb] at e
      have hb := of_decide_eq_true hb
      simp only [cond_true] at e
      split at e
      · rename_i n0 j0 b0 i0 a0 s0
        cases ha : decide (a0 < 213) with
        | false => rw [ha] at e; cases e
        | true =>
          rw [ha] at e
          have ha := of_decide_eq_true ha
          simp only [cond_true] at e
          unfold xi at e
          simp only at e
          split at e
          · rename_i hl
            rw [if_neg (by rw [hb]; intro q; cases q), if_neg (by rw [hb]; intro q; cases q)] at e
            exact blt_g e
          · cases e
      · cases e
    | false =>
      rw [hb] at e
      have hb := of_decide_eq_false hb
      simp only [cond_false] at e
      unfold xi at e
      simp only at e
      split at e
      · rename_i hl
        split at e
        · rename_i h0
          exact doCall_g e
        · rename_i h0
          split at e
          · cases e
          · rename_i h1
            exact HF_g (HF_blt hb) e
      · cases e
  case invokespecial k =>
    unfold xiD at e
    simp only at e
    unfold xi at e
    simp only at e
    split at e
    · rename_i hl
      split at e
      · rename_i h0
        exact doCall_g e
      · rename_i h0
        split at e
        · rename_i h1
          exact HF_g (HF_blt (by rw [h1]; intro q; cases q)) e
        · cases e
    · cases e
  case ireturn =>
    unfold xiD at e
    simp only at e
    unfold xi at e
    simp only at e
    split at e
    · rename_i hl
      exact retI_g e
    · cases e
  case lreturn =>
    unfold xiD at e
    simp only at e
    unfold xi at e
    simp only at e
    split at e
    · rename_i hl
      exact retL_g e
    · cases e
  case return_ =>
    unfold xiD at e
    simp only at e
    unfold xi at e
    simp only at e
    split at e
    · rename_i hl
      exact retV_g e
    · cases e
  case ldc k =>
    refine HF_g (X := fun h g => xi z m (.ldc k) len pc ls st h g) ?_ e
    unfold xi
    simp only
    refine HF_if ?_ HF_none
    split
    · exact HF_nx _ _ _
    · split
      · exact HF_nx _ _ _
      · exact HF_none
  case ldc_w k =>
    refine HF_g (X := fun h g => xi z m (.ldc_w k) len pc ls st h g) ?_ e
    unfold xi
    simp only
    refine HF_if ?_ HF_none
    split
    · exact HF_nx _ _ _
    · exact HF_none
  case ldc2_w k =>
    refine HF_g (X := fun h g => xi z m (.ldc2_w k) len pc ls st h g) ?_ e
    unfold xi
    simp only
    refine HF_if ?_ HF_none
    split
    · exact HF_nx _ _ _
    · exact HF_none
  all_goals first
    | exact HF_g (X := fun _ _ => none) HF_none e
    | cases e
theorem exD_g {z : Int → Int} : ∀ (f m : Nat) (c : Cfg) (o : Out), exD z f m c = some o → o.2.2 = c.2.2.2.2 := by
  intro f
  induction f with
  | zero => intro m c o e; cases e
  | succ f ih =>
    intro m c o e
    rw [exD] at e
    have hs : ∀ r, xsD z m c = some r → gO r = c.2.2.2.2 := by
      intro r hr
      unfold xsD at hr
      split at hr
      · exact xiD_g hr
      · cases hr
    split at e
    · cases e
    · rename_i c' hx
      exact (ih m c' o e).trans (hs _ hx)
    · rename_i m' av c' hx
      split at e
      · cases e
      · split at e
        · cases e
        · rename_i v h' g' hq
          have k1 : g' = c'.2.2.2.2 := ih _ _ _ hq
          have k2 : o.2.2 = g' := ih _ _ _ e
          exact (k2.trans k1).trans (hs _ hx)
    · rename_i o2 hx
      cases e
      exact hs _ hx
theorem CALLD_g {z : Int → Int} {m : Nat} {av : List PV} {h h' : PH} {g g' : PG} {v : Option PV} (e : CALLD z m av h g = some (v, h', g')) : g' = g := by
  unfold CALLD at e
  split at e
  · rename_i l0 hl0
    obtain ⟨f, hf⟩ := XCD_some z e
    exact exD_g f m _ _ hf
  · cases e
